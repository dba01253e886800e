-- ordinal() of a constant; a new gate
abbrev y_ord : MethodName := ⟨"java/lang/Enum", "ordinal", "()I"⟩
abbrev x_ord : MethodName := ⟨"LevelledRing$Kind", "ordinal", "()I"⟩
abbrev c9_ord : ByteArray := prog_11_method_2_code
abbrev w_ord : List Cond := .code y_ord c9_ord 1 (some .int) :: TB
theorem d_ord_0 : decode c9_ord 0 = .ok (.aload_n 0, 1) := by decide +kernel
theorem d_ord_1 : decode c9_ord 1 = .ok (.getfield 7, 3) := by decide +kernel
theorem d_ord_4 : decode c9_ord 4 = .ok (.ireturn, 1) := by decide +kernel
abbrev rm_c_ord : Room := { frames := 0, cells := 0, slots := 0, locals := 0 }
theorem ord_iI {kd : Nat} (h : kd < 6) : ([0, 1, 2, 3, 4, 5] : List Int32).getD kd 0 = iI (kd : Int) := by
  rcases (show kd = 0 ∨ kd = 1 ∨ kd = 2 ∨ kd = 3 ∨ kd = 4 ∨ kd = 5 by omega) with rfl | rfl | rfl | rfl | rfl | rfl <;> rfl
theorem c_ord (l : Launch) (D : va_G) (ct : Nat → ClassId) (st ke : Nat → Nat) (b N : Nat) (u : Nat → va_E) (kd : Nat) (hkd : kd < 6) : Met l y_ord w_ord rm_c_ord (va_Pc [.ref (ke kd)] (fun U => ev D ct st ke b U ∧ va_P D vwCl (wl N b u) U.heap)) (va_Qi (fun (r : Int32) (z : Nat → va_E) => r = iI (kd : Int) ∧ u = z) (fun (z : Nat → va_E) t => va_P D vwCl (wl N b z) t.heap) (AA b)) 0 0 (AA b) := by
  refine M_i (cc := c9_ord) (maxL := 1) (by decide) rfl (Nat.le_of_ble_eq_true rfl) ?_
  intro p e s m args below meth c Q ls H locs hx hb hml hown hts hnm E hP hS hl ret
  have hl : lv_has ls 1 [(0, .ref (ke kd))] := hl
  refine lv_aload_n hx hb d_ord_0 rfl (lv_at hl 0 rfl) ?_
  refine va_getE hx hb (ev_E E) hkd hS hown (q := ("java/lang/Enum", "ordinal", "I", [0, 1, 2, 3, 4, 5])) (List.mem_of_getElem? (i := 0) rfl) (hts _ (List.mem_cons_of_mem _ t_697)) (fun _ h => h) d_ord_1 ?_
  refine x_i (ord_iI hkd) ?_
  exact ret _ u H locs 4 ls ⟨rfl, rfl⟩ hP hS d_ord_4
theorem g_ord {c0 : Cond} : GoodIn (c0 :: TB) (va_wsU "LevelledRing" 193 "LevelledRing$Kind" "java/lang/Enum" x_ord y_ord w_ord) :=
  gA (List.forall_mem_cons.mpr ⟨t_257, List.forall_mem_cons.mpr ⟨t_258, List.forall_mem_cons.mpr ⟨t_260, List.forall_mem_cons.mpr ⟨t_261, List.forall_mem_cons.mpr ⟨t_7, fun _ h => absurd h List.not_mem_nil⟩⟩⟩⟩⟩) (gC t_262)
theorem pre_E {D : va_G} {ct : Nat → ClassId} {st ke : Nat → Nat} {b N : Nat} {u : Nat → va_E} {s : State} {H : Heap} {locs : List Loc} {kd : Nat} (E : ev D ct st ke b s) (hP : va_P D vwCl (wl N b u) H) (hS : va_S (AA b) s.heap H locs) (hkd : kd < 6) : PreV s H "LevelledRing$Kind" (ke kd) (va_Pc [.ref (ke kd)] (fun U => ev D ct st ke b U ∧ va_P D vwCl (wl N b u) U.heap)) [] :=
  ⟨fun _ _ _ _ q => ⟨q.1, ev_call q.2.1, q.2.2⟩, va_recvE (ev_E E) hkd hS, fun _ hU hW => ⟨rfl, ev_move E hS hU hW, at_t hU hP⟩⟩
-- small polynomials
theorem small_Rep {g X : Int → Int} (h : ∀ i : Int, 0 ≤ i → i < 8 → g i = X i) (hX : p17 X) : Rep g 1 0 X := fun k i h0 h1 h2 h3 => by
  obtain rfl : k = 0 := by omega
  have e : mu 1 0 = 17 := rfl
  have := hX i h2 h3
  rw [show (0 : Int) * 8 + i = i by omega, h i h2 h3, e, Int.emod_eq_of_lt this.1 this.2]
theorem Rep_small {g X : Int → Int} (h : Rep g 1 0 X) {i : Int} (h0 : 0 ≤ i) (h1 : i < 8) : g i = X i % 17 := by
  have h2 := h 0 i (by omega) (by omega) h0 h1
  rw [show (0 : Int) * 8 + i = i by omega] at h2
  exact h2
def addG (G : Int → Gt) (n : Nat) (g : Gt) : Int → Gt := fun i => if i = n then g else G i
theorem addG_s {G : Int → Gt} {n : Nat} {g : Gt} : addG G n g n = g := by
  unfold addG
  rw [if_pos rfl]
theorem addG_n {G : Int → Gt} {n : Nat} {g : Gt} {i : Int} (h : i ≠ n) : addG G n g i = G i := by
  unfold addG
  rw [if_neg h]
theorem GC_add {ct : Nat → ClassId} {b : Nat} {ke : Nat → Nat} {u z : Nat → va_E} {n v : Nat} {G : Int → Gt} {V : Int → Val} {g : Gt} (h : GC ct b ke u n v G V) (hn : n < 24) (hv : v ≤ n) (hz : ∀ j, 44 ≤ j → j < 236 → j ≠ 44 + 8 * n → j ≠ 46 + 8 * n → z j = u j) (hg : GA ct b ke z (44 + 8 * n) g) : GC ct b ke z (n + 1) v (addG G n g) V := by
  obtain ⟨h1, h2, h3⟩ := h
  refine ⟨fun i hi => ?_, fun i hi => ?_, fun i hi => (h3 i hi).of fun j a c => hz j (by omega) (by omega) (by omega) (by omega)⟩
  · obtain ⟨⟨G1, h4⟩, h5⟩ := h1 i hi
    refine ⟨?_, h5.of fun j a c => hz j (by omega) (by omega) (by omega) (by omega)⟩
    by_cases hin : i = n
    · subst hin; exact ⟨g, hg⟩
    · exact ⟨G1, h4.of fun j a c => hz j (by omega) (by omega) (by omega) (by omega)⟩
  · by_cases hin : i = n
    · subst hin; rw [addG_s]; exact hg
    · rw [addG_n (by omega)]
      exact (h2 i (by omega)).of fun j a c => hz j (by omega) (by omega) (by omega) (by omega)
theorem gpl_p17 {kd : Nat} {X Y : Int → Int} {t : Int} (h : kd ≠ 5 ∨ True) (hX : p17 X) : p17 (gpl kd X Y t) := fun i h0 h1 => by
  unfold gpl
  repeat' split
  all_goals first | exact hX i h0 h1 | exact ⟨Int.emod_nonneg _ (by decide), Int.emod_lt_of_pos _ (by decide)⟩
def canA (n : Nat) (a b : Int) : Prop := (0 ≤ a ∧ a < n) ∧ (0 ≤ b ∧ b < n) ∧ n < 24
