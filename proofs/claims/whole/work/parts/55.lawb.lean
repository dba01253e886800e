-- the law's script
def sx (xs : Nat → Int32) (k : Int) : Int := (xs k.toNat).toInt
theorem sx_r (xs : Nat → Int32) (k : Int) : r32 (sx xs k) := ⟨Int32.le_toInt _, by have := Int32.toInt_lt (xs k.toNat); unfold sx; omega⟩
/-- the seed -/
def sd (L : Nat) (xs : Nat → Int32) : Int32 := if 0 < L then xs 0 else 0
theorem iI_and31 (a : Int) : iI a &&& iI 31 = iI (a % 32) := iI_and a 5 (by decide) (by decide)
theorem MS_mo {ct : Nat → ClassId} {b : Nat} {u : Nat → va_E} {K : Ky} {n v : Nat} {msg : Int → Int} {G : Int → Gt} {V : Int → Val} (h : MS ct b u K n v msg G V) : ∃ z : Int32, u 236 = mo b z n := by
  obtain ⟨z, R, sm, ms, kd, fi, se, pl, hs, lv, mt, wv, wm, vv, h1, h2⟩ := h
  exact ⟨z, h1.1⟩
theorem PI_0 : PI 0 0 (fun _ => 0) (fun _ => (0, 0, 0, 0, fun _ => 0)) (fun _ => (0, 0, fun _ => 0, fun _ => 0)) :=
  ⟨by decide, by decide, fun _ _ _ => ⟨show (0 : Int) ≤ 0 by decide, show (0 : Int) < 17 by decide⟩, fun i h => absurd h (Nat.not_lt_zero i), fun i h => absurd h (Nat.not_lt_zero i)⟩
section XS
variable {p : Program} {l : Launch} {e : Env} {R : Room} {s : State} {m : MethodId} {args : Array Value} {below : List Frame} {meth : Method} {c : Code} {H : Heap} {locs : List Loc} {cells slots : Nat} {Q : State → Prop}
variable {cc : ByteArray} {pc : Nat} {ls : Array Slot} {rest : List Value} {b bs L : Nat} {xs : Nat → Int32}
theorem x_sld (hx : p.tables.exec = Jvm.exec) (hb : c.code = cc) (hX : va_X bs L xs s s.heap) (hbl : bs < s.heap.size) (hbA : ¬ AA b bs) (hS : va_S (AA b) s.heap H locs) {a : Int} (h0 : 0 ≤ a) (h1 : a < L) (hn : L < 2147483648) (hdg : decode cc pc = .ok (.iaload, 1)) (kk : W p l e R s m args below meth c H locs cells slots Q (F0 m (pc + 1) ls (.int (iI (sx xs a)) :: rest))) : W p l e R s m args below meth c H locs cells slots Q (F0 m pc ls (.int (iI a) :: .ref bs :: rest)) := by
  obtain ⟨j, rfl⟩ := Int.eq_ofNat_of_zero_le h0
  refine va_sld hx hb hX hbl hbA hS (iI_in (by omega) hn) hdg ?_
  have e1 : xs (iI (j : Int)).toNatClampNeg = iI (sx xs j) := by
    rw [iI_clamp (by omega)]
    unfold sx iI
    rw [Int.toNat_natCast, Int32.ofInt_toInt]
  rw [e1]
  exact kk
theorem x_slen (hx : p.tables.exec = Jvm.exec) (hb : c.code = cc) (hX : va_X bs L xs s s.heap) (hbl : bs < s.heap.size) (hbA : ¬ AA b bs) (hS : va_S (AA b) s.heap H locs) (hdg : decode cc pc = .ok (.arraylength, 1)) (kk : W p l e R s m args below meth c H locs cells slots Q (F0 m (pc + 1) ls (.int (iI (L : Int)) :: rest))) : W p l e R s m args below meth c H locs cells slots Q (F0 m pc ls (.ref bs :: rest)) := by
  refine va_slen hx hb hX hbl hbA hS hdg ?_
  have e1 : Int32.ofNat L = iI (L : Int) := nI_iI L
  rw [e1]
  exact kk
theorem x_same (hx : p.tables.exec = Jvm.exec) (hb : c.code = cc) {x : Int32} {off : Int} {tgt : Nat} (hdg : decode cc pc = .ok (.if_icmp .eq off, 3)) (ht : (pc : Int) + off = (tgt : Int)) (kk : W p l e R s m args below meth c H locs cells slots Q (F0 m tgt ls rest)) : W p l e R s m args below meth c H locs cells slots Q (F0 m pc ls (.int x :: .int x :: rest)) :=
  lv_icmp_eq hx hb hdg ht (fun _ => kk) (fun h => absurd rfl h)
theorem x_lsame (hx : p.tables.exec = Jvm.exec) (hb : c.code = cc) {x : Int64} {off : Int} {tgt : Nat} (hd1 : decode cc pc = .ok (.lcmp, 1)) (hdg : decode cc (pc + 1) = .ok (.ifCond .eq off, 3)) (ht : ((pc + 1 : Nat) : Int) + off = (tgt : Int)) (kk : W p l e R s m args below meth c H locs cells slots Q (F0 m tgt ls rest)) : W p l e R s m args below meth c H locs cells slots Q (F0 m pc ls (.long x :: .long x :: rest)) := by
  have e0 : lg_cmp x x = 0 := by
    unfold lg_cmp
    rw [if_neg (Int64.lt_irrefl)]
    first | rw [if_pos rfl] | simp
  refine W.lcmp hx hb hd1 (x_i e0 ?_)
  exact lv_if_eq hx hb hdg ht (fun _ => kk) (fun h => absurd rfl h)
end XS
abbrev rm_c_cell : Room := { frames := 0, cells := 0, slots := 0, locals := 0 }
set_option maxHeartbeats 4000000 in
/-- cell(script, 0) -/
theorem c_cell (l : Launch) (D : va_G) (ct : Nat → ClassId) (st ke : Nat → Nat) (b N : Nat) (u : Nat → va_E) (bs L : Nat) (xs : Nat → Int32) (hbs : bs < b) (hL : L ≤ 2049) : Met l y_L_cell (w_L_cell) rm_c_cell (va_Pc [.ref bs, .int (iI 0)] (fun U => ev D ct st ke b U ∧ va_P D vwCl (wl N b u) U.heap ∧ va_X bs L xs U U.heap)) (va_Qi (fun (r : Int32) (z : Nat → va_E) => r = sd L xs ∧ u = z) (fun (z : Nat → va_E) t => va_P D vwCl (wl N b z) t.heap) (AA b)) 0 0 (AA b) := by
  refine Met.ofW (cc := c9_L_cell) (maxL := 2) (ret := some .int) (by decide) rfl ?_
  intro p e s m args below meth c s₁ B hml hv
  obtain ⟨rfl, E, hP, hX⟩ := hv
  have hl := lv_entry [.ref bs, .int (iI 0)] (n := 2) (Nat.le_of_ble_eq_true rfl)
  rw [lg_entry_eq]
  have hx := B.exec
  have hb := B.bytes
  have hS : va_S (AA b) s.heap s.heap [] := va_S.rf
  have hbl : bs < s.heap.size := by have := ev_b E; omega
  have hbA : ¬ AA b bs := by show ¬ b ≤ bs; omega
  generalize (lg_sl [Value.ref bs, Value.int (iI 0)] ++ List.replicate (2 - (lg_sl [Value.ref bs, Value.int (iI 0)]).length) Slot.unset).toArray = ls at hl ⊢
  have hl : lv_has ls 2 [(0, .ref bs), (1, .int (iI 0))] := hl
  refine lv_iload_n hx hb d_L_cell_0 rfl (lv_at hl 1 rfl) ?_
  refine lv_aload_n hx hb d_L_cell_1 rfl (lv_at hl 0 rfl) ?_
  refine x_slen hx hb hX hbl hbA hS d_L_cell_2 ?_
  refine x_icmp_ge (tgt := 12) hx hb ⟨by omega, by omega⟩ ⟨by omega, by omega⟩ d_L_cell_3 (by decide) (fun hc => ?_) (fun hc => ?_)
  · refine lv_iconst (v := iI 0) hx hb d_L_cell_12 rfl ?_
    refine x_i (y := sd L xs) (by unfold sd; rw [if_neg (by omega)]; exact iI_0.symm) ?_
    exact W.iret B.exec B.bytes B.returns (fun t ht _ => ⟨⟨_, u, rfl, ⟨rfl, rfl⟩, at_t ht hP⟩, hS.F ht⟩) hS.2.2 d_L_cell_13 B.notSynchronized
  · refine lv_aload_n hx hb d_L_cell_6 rfl (lv_at hl 0 rfl) ?_
    refine lv_iload_n hx hb d_L_cell_7 rfl (lv_at hl 1 rfl) ?_
    refine x_sld hx hb hX hbl hbA hS (a := 0) (by omega) (by omega) (by omega) d_L_cell_8 ?_
    refine lv_goto (tgt := 13) hx hb d_L_cell_9 (by decide) ?_
    refine x_i (y := sd L xs) (by unfold sd; rw [if_pos (by omega)]; unfold sx iI; exact Int32.ofInt_toInt _) ?_
    exact W.iret B.exec B.bytes B.returns (fun t ht _ => ⟨⟨_, u, rfl, ⟨rfl, rfl⟩, at_t ht hP⟩, hS.F ht⟩) hS.2.2 d_L_cell_13 B.notSynchronized
theorem pre_X {D : va_G} {ct : Nat → ClassId} {st ke : Nat → Nat} {b N : Nat} {u : Nat → va_E} {As : List Value} {s : State} {H : Heap} {locs : List Loc} {bs L : Nat} {xs : Nat → Int32} (E : ev D ct st ke b s) (hP : va_P D vwCl (wl N b u) H) (hS : va_S (AA b) s.heap H locs) (hX : va_X bs L xs s s.heap) (hbl : bs < s.heap.size) (hbA : ¬ AA b bs) : PreS s H (va_Pc As (fun U => ev D ct st ke b U ∧ va_P D vwCl (wl N b u) U.heap ∧ va_X bs L xs U U.heap)) As :=
  ⟨fun _ U _ _ q => ⟨q.1, ev_call q.2.1, q.2.2.1, va_X.moved (u := U) (Vm.Alike.refl U.vm) q.2.2.2⟩, fun U hU hW => ⟨rfl, ev_move E hS hU hW, at_t hU hP, by rw [hU]; exact (va_X.kept hX (hS.2.1 bs hbl hbA)).moved hW.alike⟩⟩
theorem wl_0 {D : va_G} {cl : List vw_C} {b : Nat} {u : Nat → va_E} {H : Heap} : va_P D cl (wl 0 b u) H := fun q x h => by
  have e : (wl 0 b u)[q]? = none := rfl
  rw [e] at h
  cases h
