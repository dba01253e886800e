abbrev rm_c_lowerTo : Room := { frames := 3, cells := 0, slots := 0, locals := 72 }
set_option maxHeartbeats 4000000 in
set_option maxRecDepth 100000 in
/-- lowerTo(t) -/
theorem c_lowerTo (l : Launch) (D : va_G) (ct : Nat → ClassId) (st ke : Nat → Nat) (b N : Nat) (u : Nat → va_E) (k : Nat) (hk : k + 4 < N) (v : Val) (hv : okV v) (hV : VV ct b u k v) (t : Int) (ht0 : 0 ≤ t) (ht3 : t ≤ 3) : Met l y_V_lowerTo (w_V_lowerTo) rm_c_lowerTo (va_Pc [.ref (b + k), .int (iI (t))] (fun U => ev D ct st ke b U ∧ va_P D vwCl (wl N b u) U.heap)) (va_Qi (fun (r : Int32) (z : Nat → va_E) => ((∃ w, lowT (v.1 - t).toNat v = some w ∧ r = iI 1 ∧ VV ct b z k w) ∨ (lowT (v.1 - t).toNat v = none ∧ r = iI 0 ∧ VS ct b z k)) ∧ ∀ j : Nat, (j < k ∨ k + 5 ≤ j) → z j = u j) (fun (z : Nat → va_E) t => va_P D vwCl (wl (N) b (z)) t.heap) (AA b)) 0 0 (AA b) := by
  refine M_z (cc := c9_V_lowerTo) (maxL := 3) (by decide) rfl (Nat.le_of_ble_eq_true rfl) ?_
  intro p e s m args below meth c Q ls H locs hx hb hml hown hts hnm E hP hS hl ret
  have hl : lv_has ls 3 [(0, .ref (b + k)), (1, .int (iI (t)))] := hl
  have hK := ev_K E
  have kk0 := hts (.fieldLink "LevelledRing$Value" 9 "LevelledRing$Value" "level" "I") (List.mem_cons_of_mem _ t_56)
  have hinV : ∀ w ∈ u_ws "LevelledRing$Value" T_V 4, w ∈ (w_V_lowerTo) := hin_V _
  have fr0 : ∀ j : Nat, (j < k ∨ k + 5 ≤ j) → u j = u j := fun _ _ => rfl
  have hV9 := hV
  obtain ⟨g0, g1, hVR, hR0, hR1⟩ := hV
  refine lv_aload_n hx hb d_V_lowerTo_0 rfl (lv_at hl 0 rfl) ?_
  refine w_get (C := "LevelledRing$Value") (T := T_V) (M := 4) hx hb hts hinV hown hK hP (k) (by omega) hVR.1 rfl 0 (by decide) kk0 (fun _ h => h) rfl d_V_lowerTo_1 ?_
  refine lv_istore_n (lv' := [(2, .int (iI (v.1))), (0, .ref (b + k)), (1, .int (iI (t)))]) hx hb d_V_lowerTo_4 rfl hl (by decide) rfl (fun ls hl => ?_)
  have lo : ∀ (d : Nat) (x : Val) (w1 : Nat → va_E) (H : Heap) (locs : List Loc) (ls : Array Slot), (0 ≤ x.1) → (x.1 + 1 < d) → (okV x) → (lowT (x.1 - t).toNat x = lowT (v.1 - t).toNat v) → (VV ct b w1 k x) → (∀ j : Nat, (j < k ∨ k + 5 ≤ j) → w1 j = u j) → va_P D vwCl (wl N b w1) H → va_S (AA b) s.heap H locs → lv_has ls 3 [(2, .int (iI (x.1))), (0, .ref (b + k)), (1, .int (iI (t)))] → W p l e rm_c_lowerTo s m args below meth c H locs 0 0 Q (F0 m 5 ls []) := by
    intro d
    induction d with
    | zero => intro x w1 H locs ls h0 hd hok hT hx9 fr2 hP hS hl; exfalso; omega
    | succ d ihlo =>
      intro x w1 H locs ls h0 hd hok hT hx9 fr2 hP hS hl
      have hx3 := hok.2.1
      have hm0 := hok.2.2.1
      have hm1 := hok.bd
      refine lv_iload_n hx hb d_V_lowerTo_5 rfl (lv_at hl 0 rfl) ?_
      refine lv_iload_n hx hb d_V_lowerTo_6 rfl (lv_at hl 2 rfl) ?_
      refine x_icmp_le (tgt := 25) hx hb ⟨by omega, by omega⟩ ⟨by omega, by omega⟩ d_V_lowerTo_7 (by decide) (fun hc => ?_) (fun hc => ?_)
      · refine lv_iconst (v := iI (1)) hx hb d_V_lowerTo_25 rfl ?_
        exact ret 1 w1 H locs 26 ls (Or.inr rfl) ⟨Or.inl ⟨x, by rw [← hT, show (x.1 - t).toNat = 0 by omega]; rfl, rfl, hx9⟩, fr2⟩ hP hS d_V_lowerTo_26
      · obtain ⟨g0, g1, hVR, hR0, hR1⟩ := hx9
        refine lv_aload_n hx hb d_V_lowerTo_10 rfl (lv_at hl 1 rfl) ?_
        refine w_calli (va_runV (As := []) (rest := []) ⟨hx, hb, hml, hown, hts⟩ (c_lowerOnce l D ct st ke b N w1 k x.1 x.2.1 g0 g1 hk hVR h0 hx3 hm0 (by omega) x.2.2.1 x.2.2.2 hR0 hR1) (cwV 0 hts (gV t_330 t_331 t_332 t_4 t_333) rfl rfl rfl (by decide +kernel) ⟨Nat.le_of_ble_eq_true rfl, Nat.le_of_ble_eq_true rfl⟩) (pre_V E hP hS (k) (by omega) hVR.1 rfl) rfl rfl hl.1 rfl (lv_room (Nat.le_of_ble_eq_true rfl)) d_V_lowerTo_11 ⟨(Nat.le_of_ble_eq_true rfl), (Nat.le_of_ble_eq_true rfl)⟩) hS (fun r4 z3 H locs hz hP hS => ?_)
        rcases hz with ⟨hq, -, -⟩ | ⟨-, hq, y0, y1, hVR1, e0, e1, hzf⟩
        · exfalso; omega
        subst hq
        have fr5 : ∀ j : Nat, (j < k ∨ k + 5 ≤ j) → z3 j = u j := fun j h0 => (hzf j (by omega)).trans (fr2 j h0)
        have hVL : VV ct b z3 k (lw1 x) := ⟨y0, y1, hVR1, e0.mod (by omega), e1.mod (by omega)⟩
        have htg := tg_01 (x.1 - 1) (x.2.1 / lq x.1 + 77)
        have hn : (x.1 - t).toNat = (x.1 - 1 - t).toNat + 1 := by omega
        have hT2 : lowT (x.1 - t).toNat x = (low1 x).bind (lowT (x.1 - 1 - t).toNat) := by rw [hn]; rfl
        refine x_if_ne (tgt := 19) hx hb ⟨by omega, by omega⟩ d_V_lowerTo_14 (by decide) (fun hc => ?_) (fun hc => ?_)
        · have hl1 : low1 x = some (lw1 x) := low1_s (by omega) (by omega)
          refine lv_iinc (k := 0) (v := iI (x.1 + (-1))) (lv' := [(2, .int (iI (x.1 + (-1)))), (0, .ref (b + k)), (1, .int (iI (t)))]) hx hb d_V_lowerTo_19 hl rfl (iI_add _ _) (by decide) rfl (fun ls hl => ?_)
          have hl : lv_has ls 3 [(2, .int (iI ((lw1 x).1))), (0, .ref (b + k)), (1, .int (iI (t)))] := by rw [show (lw1 x).1 = x.1 + (-1) from by show x.1 - 1 = _; omega]; exact hl
          refine lv_goto (tgt := 5) hx hb d_V_lowerTo_22 (by decide) ?_
          exact ihlo (lw1 x) z3 H locs ls (by show 0 ≤ x.1 - 1; omega) (by show x.1 - 1 + 1 < _; omega) (low1_ok hok hl1).1 (by rw [← hT, hT2, hl1]; rfl) hVL fr5 hP hS hl
        · have hl1 : low1 x = none := low1_n (by omega) (by omega)
          refine lv_iconst (v := iI (0)) hx hb d_V_lowerTo_17 rfl ?_
          exact ret 0 z3 H locs 18 ls (Or.inl rfl) ⟨Or.inr ⟨by rw [← hT, hT2, hl1]; rfl, rfl, hVL.VS⟩, fr5⟩ hP hS d_V_lowerTo_18
  exact lo (v.1 + 2).toNat v u H locs ls hv.1 (by have := hv.1; omega) hv rfl hV9 fr0 hP hS hl
abbrev rm_c_become : Room := { frames := 0, cells := 0, slots := 0, locals := 0 }
set_option maxHeartbeats 4000000 in
set_option maxRecDepth 100000 in
/-- become(..) -/
theorem c_become (l : Launch) (D : va_G) (ct : Nat → ClassId) (st ke : Nat → Nat) (b N : Nat) (u : Nat → va_E) (k : Nat) (hk : k < N) (k0 : Nat) (a0 b0 n0 : Int) (f0 : u k = gt b ke k k0 a0 b0 n0) (k1 : Nat) (a1 b1 n1 : Int) : Met l y_G_become (w_G_become) rm_c_become (va_Pc [.ref (b + k), .ref (ke k1), .int (iI (a1)), .int (iI (b1)), .int (iI (n1))] (fun U => ev D ct st ke b U ∧ va_P D vwCl (wl N b u) U.heap)) (va_Qv (fun z : Nat → va_E => z k = gt b ke k k1 a1 b1 n1 ∧ ∀ j : Nat, j ≠ k → z j = u j) (fun (z : Nat → va_E) t => va_P D vwCl (wl (N) b (z)) t.heap) (AA b)) 0 0 (AA b) := by
  refine M_v (cc := c9_G_become) (maxL := 5) (by decide) rfl (Nat.le_of_ble_eq_true rfl) ?_
  intro p e s m args below meth c Q ls H locs hx hb hml hown hts hnm E hP hS hl ret
  have hl : lv_has ls 5 [(0, .ref (b + k)), (1, .ref (ke k1)), (2, .int (iI (a1))), (3, .int (iI (b1))), (4, .int (iI (n1)))] := hl
  have hK := ev_K E
  have kk0 := hts (.fieldLink "LevelledRing$Gate" 15 "LevelledRing$Gate" "kind" "LLevelledRing$Kind;") (List.mem_cons_of_mem _ t_148)
  have hinG : ∀ w ∈ u_ws "LevelledRing$Gate" T_G 6, w ∈ (w_G_become) := hin_G _
  have kk2 := hts (.fieldLink "LevelledRing$Gate" 20 "LevelledRing$Gate" "a" "I") (List.mem_cons_of_mem _ t_150)
  have kk3 := hts (.fieldLink "LevelledRing$Gate" 24 "LevelledRing$Gate" "b" "I") (List.mem_cons_of_mem _ t_152)
  have kk4 := hts (.fieldLink "LevelledRing$Gate" 27 "LevelledRing$Gate" "number" "I") (List.mem_cons_of_mem _ t_154)
  have fr0 : ∀ j : Nat, (j ≠ k) → u j = u j := fun _ _ => rfl
  refine lv_aload_n hx hb d_G_become_0 rfl (lv_at hl 0 rfl) ?_
  refine lv_aload_n hx hb d_G_become_1 rfl (lv_at hl 1 rfl) ?_
  refine w_put (C := "LevelledRing$Gate") (T := T_G) (M := 6) (ty := (.object "LevelledRing$Kind")) (v := .ref (ke k1)) hx hb hts hinG ty_G tyok_G nm_G hown hK hP hS (k) (by omega) f0 rfl 0 (by decide) kk0 (fun _ h => h) rfl (by decide +kernel) rfl rfl (Nat.le_of_ble_eq_true rfl) d_G_become_2 (fun H locs hP hS => ?_)
  obtain ⟨u1, hu2, hP⟩ : ∃ zz : Nat → va_E, zz = va_up u k (.inr (1, [.ref (ke k1), .int (iI (a0)), .int (iI (b0)), .int (iI (n0)), .ref (b + (k + 1)), .ref (b + (k + 3))])) ∧ va_P D vwCl (wl N b zz) H := ⟨_, rfl, hP⟩
  have ff3 : u1 k = .inr (1, [.ref (ke k1), .int (iI (a0)), .int (iI (b0)), .int (iI (n0)), .ref (b + (k + 1)), .ref (b + (k + 3))]) := (congrFun hu2 _).trans up_s
  have fr4 : ∀ j : Nat, (j ≠ k) → u1 j = u j := fun j h0 => (congrFun hu2 j).trans ((up_n (by omega)).trans (fr0 j h0))
  refine lv_aload_n hx hb d_G_become_5 rfl (lv_at hl 0 rfl) ?_
  refine lv_iload_n hx hb d_G_become_6 rfl (lv_at hl 2 rfl) ?_
  refine w_put (C := "LevelledRing$Gate") (T := T_G) (M := 6) (ty := .int) (v := .int (iI (a1))) hx hb hts hinG ty_G tyok_G nm_G hown hK hP hS (k) (by omega) ff3 rfl 1 (by decide) kk2 (fun _ h => h) rfl (by decide +kernel) rfl rfl (Nat.le_of_ble_eq_true rfl) d_G_become_7 (fun H locs hP hS => ?_)
  obtain ⟨u5, hu6, hP⟩ : ∃ zz : Nat → va_E, zz = va_up u1 k (.inr (1, [.ref (ke k1), .int (iI (a1)), .int (iI (b0)), .int (iI (n0)), .ref (b + (k + 1)), .ref (b + (k + 3))])) ∧ va_P D vwCl (wl N b zz) H := ⟨_, rfl, hP⟩
  have ff7 : u5 k = .inr (1, [.ref (ke k1), .int (iI (a1)), .int (iI (b0)), .int (iI (n0)), .ref (b + (k + 1)), .ref (b + (k + 3))]) := (congrFun hu6 _).trans up_s
  have fr8 : ∀ j : Nat, (j ≠ k) → u5 j = u j := fun j h0 => (congrFun hu6 j).trans ((up_n (by omega)).trans (fr4 j h0))
  refine lv_aload_n hx hb d_G_become_10 rfl (lv_at hl 0 rfl) ?_
  refine lv_iload_n hx hb d_G_become_11 rfl (lv_at hl 3 rfl) ?_
  refine w_put (C := "LevelledRing$Gate") (T := T_G) (M := 6) (ty := .int) (v := .int (iI (b1))) hx hb hts hinG ty_G tyok_G nm_G hown hK hP hS (k) (by omega) ff7 rfl 2 (by decide) kk3 (fun _ h => h) rfl (by decide +kernel) rfl rfl (Nat.le_of_ble_eq_true rfl) d_G_become_12 (fun H locs hP hS => ?_)
  obtain ⟨u9, hu10, hP⟩ : ∃ zz : Nat → va_E, zz = va_up u5 k (.inr (1, [.ref (ke k1), .int (iI (a1)), .int (iI (b1)), .int (iI (n0)), .ref (b + (k + 1)), .ref (b + (k + 3))])) ∧ va_P D vwCl (wl N b zz) H := ⟨_, rfl, hP⟩
  have ff11 : u9 k = .inr (1, [.ref (ke k1), .int (iI (a1)), .int (iI (b1)), .int (iI (n0)), .ref (b + (k + 1)), .ref (b + (k + 3))]) := (congrFun hu10 _).trans up_s
  have fr12 : ∀ j : Nat, (j ≠ k) → u9 j = u j := fun j h0 => (congrFun hu10 j).trans ((up_n (by omega)).trans (fr8 j h0))
  refine lv_aload_n hx hb d_G_become_15 rfl (lv_at hl 0 rfl) ?_
  refine lv_iload hx hb d_G_become_16 (lv_at hl 4 rfl) ?_
  refine w_put (C := "LevelledRing$Gate") (T := T_G) (M := 6) (ty := .int) (v := .int (iI (n1))) hx hb hts hinG ty_G tyok_G nm_G hown hK hP hS (k) (by omega) ff11 rfl 3 (by decide) kk4 (fun _ h => h) rfl (by decide +kernel) rfl rfl (Nat.le_of_ble_eq_true rfl) d_G_become_18 (fun H locs hP hS => ?_)
  obtain ⟨u13, hu14, hP⟩ : ∃ zz : Nat → va_E, zz = va_up u9 k (.inr (1, [.ref (ke k1), .int (iI (a1)), .int (iI (b1)), .int (iI (n1)), .ref (b + (k + 1)), .ref (b + (k + 3))])) ∧ va_P D vwCl (wl N b zz) H := ⟨_, rfl, hP⟩
  have ff15 : u13 k = .inr (1, [.ref (ke k1), .int (iI (a1)), .int (iI (b1)), .int (iI (n1)), .ref (b + (k + 1)), .ref (b + (k + 3))]) := (congrFun hu14 _).trans up_s
  have fr16 : ∀ j : Nat, (j ≠ k) → u13 j = u j := fun j h0 => (congrFun hu14 j).trans ((up_n (by omega)).trans (fr12 j h0))
  exact ret u13 H locs 21 ls ⟨ff15, fr16⟩ hP hS d_G_become_21
abbrev rm_c_G_init : Room := { frames := 3, cells := 7, slots := 120, locals := 53 }
set_option maxHeartbeats 4000000 in
set_option maxRecDepth 100000 in
/-- Gate() -/
theorem c_G_init (l : Launch) (D : va_G) (ct : Nat → ClassId) (st ke : Nat → Nat) (b : Nat) (u : Nat → va_E) (k : Nat) (f0 : u k = .inr (1, [.null, .int (iI (0)), .int (iI (0)), .int (iI (0)), .null, .null])) : Met l y_G_init (w_G_init) rm_c_G_init (va_Pc [.ref (b + k)] (fun U => ev D ct st ke b U ∧ U.heap.size = b + (k + 1) ∧ va_P D vwCl (wl (k + 1) b u) U.heap)) (va_Qv (fun z : Nat → va_E => z k = gt b ke k 0 (-1) (-1) 0 ∧ z (k + 1) = po b (k + 1) 1 ∧ z (k + 2) = ir ct 8 (fun _ => 0) ∧ VR ct b z (k + 3) 0 0 (fun _ => 0) (fun _ => 0) ∧ ∀ j : Nat, (j < k ∨ k + 8 ≤ j) → z j = u j) (fun (z : Nat → va_E) t => va_P D vwCl (wl (k + 8) b (z)) t.heap) (AA b)) 7 120 (AA b) := by
  refine M_c (cc := c9_G_init) (maxL := 1) (by decide) rfl (Nat.le_of_ble_eq_true rfl) ?_
  intro p e s m args below meth c Q ls H locs hx hb hml hown hts hnm E hsz hP hS hl ret
  have hl : lv_has ls 1 [(0, .ref (b + k))] := hl
  have hK := ev_K E
  have kk0 := hts (.methodLink "LevelledRing$Gate" 3 objectInit) (List.mem_cons_of_mem _ t_141)
  have kk1 := hts (.instanceMethod objectInit) (List.mem_cons_of_mem _ t_19)
  have kk2 := hts (.code objectInit ⟨#[0xb1]⟩ 1 none) (List.mem_cons_of_mem _ t_20)
  have kk3 := hts (.fieldLink "LevelledRing$Gate" 9 "LevelledRing$Kind" "INPUT" "LLevelledRing$Kind;") (List.mem_cons_of_mem _ t_142)
  have kk4 := hts (.fieldLink "LevelledRing$Gate" 15 "LevelledRing$Gate" "kind" "LLevelledRing$Kind;") (List.mem_cons_of_mem _ t_148)
  have hinG : ∀ w ∈ u_ws "LevelledRing$Gate" T_G 6, w ∈ (w_G_init) := hin_G _
  have kk6 := hts (.fieldLink "LevelledRing$Gate" 20 "LevelledRing$Gate" "a" "I") (List.mem_cons_of_mem _ t_150)
  have kk7 := hts (.fieldLink "LevelledRing$Gate" 24 "LevelledRing$Gate" "b" "I") (List.mem_cons_of_mem _ t_152)
  have kk8 := hts (.fieldLink "LevelledRing$Gate" 27 "LevelledRing$Gate" "number" "I") (List.mem_cons_of_mem _ t_154)
  have kk9 := hts (.classLink "LevelledRing$Gate" 30 "LevelledRing$Poly") (List.mem_cons_of_mem _ t_144)
  have kk10 := hts (.instantiable "LevelledRing$Poly" 2) (List.mem_cons_of_mem _ t_32)
  have kk11 := hts (.initialized "LevelledRing$Poly") (List.mem_cons_of_mem _ t_3)
  have hinP : ∀ w ∈ u_ws "LevelledRing$Poly" T_P 2, w ∈ (w_G_init) := hin_P _
  have kk13 := hts (.instanceMethod y_P_init) (List.mem_cons_of_mem _ t_34)
  have kk14 := hts (.methodLink "LevelledRing$Gate" 32 y_P_init) (List.mem_cons_of_mem _ t_145)
  have kk15 := hts (.fieldLink "LevelledRing$Gate" 35 "LevelledRing$Gate" "plain" "LLevelledRing$Poly;") (List.mem_cons_of_mem _ t_156)
  have kk16 := hts (.classLink "LevelledRing$Gate" 39 "LevelledRing$Value") (List.mem_cons_of_mem _ t_146)
  have kk17 := hts (.instantiable "LevelledRing$Value" 4) (List.mem_cons_of_mem _ t_49)
  have kk18 := hts (.initialized "LevelledRing$Value") (List.mem_cons_of_mem _ t_4)
  have hinV : ∀ w ∈ u_ws "LevelledRing$Value" T_V 4, w ∈ (w_G_init) := hin_V _
  have kk20 := hts (.instanceMethod y_V_init) (List.mem_cons_of_mem _ t_51)
  have kn21 : va_Nw (.methodLinkNest "LevelledRing$Gate" 41 y_V_init "LevelledRing") s := ev_W E _ nw_5
  have kk22 := hts (.fieldLink "LevelledRing$Gate" 42 "LevelledRing$Gate" "value" "LLevelledRing$Value;") (List.mem_cons_of_mem _ t_158)
  have fr0 : ∀ j : Nat, (j < k ∨ k + 8 ≤ j) → u j = u j := fun _ _ => rfl
  refine lv_aload_n hx hb d_G_init_0 rfl (lv_at hl 0 rfl) ?_
  refine W.objInit hx hb hown kk0 kk1 kk2 rfl (by rw [hml]; exact hl.1) rfl d_G_init_1 (Nat.le_of_ble_eq_true rfl) (Nat.le_of_ble_eq_true rfl) ?_
  refine W.eq (g2 := F0 m 4 ls []) rfl ?_
  refine lv_aload_n hx hb d_G_init_4 rfl (lv_at hl 0 rfl) ?_
  refine va_gets hx hb ((ev_E E).1 0 (by decide)).1 hS hown kk3 (fun _ h => h) d_G_init_5 ?_
  refine w_put (C := "LevelledRing$Gate") (T := T_G) (M := 6) (ty := (.object "LevelledRing$Kind")) (v := .ref (ke 0)) hx hb hts hinG ty_G tyok_G nm_G hown hK hP hS (k) (by omega) f0 rfl 0 (by decide) kk4 (fun _ h => h) rfl (by decide +kernel) rfl rfl (Nat.le_of_ble_eq_true rfl) d_G_init_8 (fun H locs hP hS => ?_)
  obtain ⟨u1, hu2, hP⟩ : ∃ zz : Nat → va_E, zz = va_up u k (.inr (1, [.ref (ke 0), .int (iI (0)), .int (iI (0)), .int (iI (0)), .null, .null])) ∧ va_P D vwCl (wl (k + 1) b zz) H := ⟨_, rfl, hP⟩
  have ff3 : u1 k = .inr (1, [.ref (ke 0), .int (iI (0)), .int (iI (0)), .int (iI (0)), .null, .null]) := (congrFun hu2 _).trans up_s
  have fr4 : ∀ j : Nat, (j < k ∨ k + 8 ≤ j) → u1 j = u j := fun j h0 => (congrFun hu2 j).trans ((up_n (by omega)).trans (fr0 j h0))
  refine lv_aload_n hx hb d_G_init_11 rfl (lv_at hl 0 rfl) ?_
  refine lv_iconst (v := iI (-1)) hx hb d_G_init_12 rfl ?_
  refine w_put (C := "LevelledRing$Gate") (T := T_G) (M := 6) (ty := .int) (v := .int (iI (-1))) hx hb hts hinG ty_G tyok_G nm_G hown hK hP hS (k) (by omega) ff3 rfl 1 (by decide) kk6 (fun _ h => h) rfl (by decide +kernel) rfl rfl (Nat.le_of_ble_eq_true rfl) d_G_init_13 (fun H locs hP hS => ?_)
  obtain ⟨u5, hu6, hP⟩ : ∃ zz : Nat → va_E, zz = va_up u1 k (.inr (1, [.ref (ke 0), .int (iI (-1)), .int (iI (0)), .int (iI (0)), .null, .null])) ∧ va_P D vwCl (wl (k + 1) b zz) H := ⟨_, rfl, hP⟩
  have ff7 : u5 k = .inr (1, [.ref (ke 0), .int (iI (-1)), .int (iI (0)), .int (iI (0)), .null, .null]) := (congrFun hu6 _).trans up_s
  have fr8 : ∀ j : Nat, (j < k ∨ k + 8 ≤ j) → u5 j = u j := fun j h0 => (congrFun hu6 j).trans ((up_n (by omega)).trans (fr4 j h0))
  refine lv_aload_n hx hb d_G_init_16 rfl (lv_at hl 0 rfl) ?_
  refine lv_iconst (v := iI (-1)) hx hb d_G_init_17 rfl ?_
  refine w_put (C := "LevelledRing$Gate") (T := T_G) (M := 6) (ty := .int) (v := .int (iI (-1))) hx hb hts hinG ty_G tyok_G nm_G hown hK hP hS (k) (by omega) ff7 rfl 2 (by decide) kk7 (fun _ h => h) rfl (by decide +kernel) rfl rfl (Nat.le_of_ble_eq_true rfl) d_G_init_18 (fun H locs hP hS => ?_)
  obtain ⟨u9, hu10, hP⟩ : ∃ zz : Nat → va_E, zz = va_up u5 k (.inr (1, [.ref (ke 0), .int (iI (-1)), .int (iI (-1)), .int (iI (0)), .null, .null])) ∧ va_P D vwCl (wl (k + 1) b zz) H := ⟨_, rfl, hP⟩
  have ff11 : u9 k = .inr (1, [.ref (ke 0), .int (iI (-1)), .int (iI (-1)), .int (iI (0)), .null, .null]) := (congrFun hu10 _).trans up_s
  have fr12 : ∀ j : Nat, (j < k ∨ k + 8 ≤ j) → u9 j = u j := fun j h0 => (congrFun hu10 j).trans ((up_n (by omega)).trans (fr8 j h0))
  refine lv_aload_n hx hb d_G_init_21 rfl (lv_at hl 0 rfl) ?_
  refine lv_iconst (v := iI (0)) hx hb d_G_init_22 rfl ?_
  refine w_put (C := "LevelledRing$Gate") (T := T_G) (M := 6) (ty := .int) (v := .int (iI (0))) hx hb hts hinG ty_G tyok_G nm_G hown hK hP hS (k) (by omega) ff11 rfl 3 (by decide) kk8 (fun _ h => h) rfl (by decide +kernel) rfl rfl (Nat.le_of_ble_eq_true rfl) d_G_init_23 (fun H locs hP hS => ?_)
  obtain ⟨u13, hu14, hP⟩ : ∃ zz : Nat → va_E, zz = va_up u9 k (.inr (1, [.ref (ke 0), .int (iI (-1)), .int (iI (-1)), .int (iI (0)), .null, .null])) ∧ va_P D vwCl (wl (k + 1) b zz) H := ⟨_, rfl, hP⟩
  have ff15 : u13 k = .inr (1, [.ref (ke 0), .int (iI (-1)), .int (iI (-1)), .int (iI (0)), .null, .null]) := (congrFun hu14 _).trans up_s
  have fr16 : ∀ j : Nat, (j < k ∨ k + 8 ≤ j) → u13 j = u j := fun j h0 => (congrFun hu14 j).trans ((up_n (by omega)).trans (fr12 j h0))
  refine lv_aload_n hx hb d_G_init_26 rfl (lv_at hl 0 rfl) ?_
  refine w_new (C := "LevelledRing$Poly") (T := T_P) (M := 2) (ci := 3) (fs := [.int (iI (0)), .null]) hx hb hts hinP ty_P tyok_P hown kk9 kk10 kk11 hK hP hS (ev_b E) (by omega) rfl (fun j hj => by rcases (show j = 0 ∨ j = 1 by omega) with rfl | rfl <;> rfl) (Nat.le_of_ble_eq_true rfl) (Nat.le_of_ble_eq_true rfl) d_G_init_27 (fun H hP hS => ?_)
  obtain ⟨u17, hu18, hP⟩ : ∃ zz : Nat → va_E, zz = va_up u13 (k + 1) (.inr (3, [.int (iI (0)), .null])) ∧ va_P D vwCl (wl (k + 2) b zz) H := ⟨_, rfl, hP⟩
  have ff19 : u17 k = .inr (1, [.ref (ke 0), .int (iI (-1)), .int (iI (-1)), .int (iI (0)), .null, .null]) := (congrFun hu18 _).trans ((up_n (by omega)).trans ff15)
  have ff20 : u17 (k + 1) = .inr (3, [.int (iI (0)), .null]) := (congrFun hu18 _).trans up_s
  have fr21 : ∀ j : Nat, (j < k ∨ k + 8 ≤ j) → u17 j = u j := fun j h0 => (congrFun hu18 j).trans ((up_n (by omega)).trans (fr16 j h0))
  refine lv_dup hx hb d_G_init_30 rfl ?_
  refine lv_iconst (v := iI (1)) hx hb d_G_init_31 rfl ?_
  refine w_sz hP (by omega) (by omega) (fun hHs => ?_)
  refine w_callv (va_runI (As := [.int (iI (1))]) (rest := [.ref (b + (k + 1)), .ref (b + k)]) ⟨hx, hb, hml, hown, hts⟩ (c_P_init l D ct st ke b u17 (k + 1) 8 1 (Or.inl ⟨rfl, rfl⟩) ff20) (cwI 1 hts (gC t_35) rfl rfl rfl kk11 kk14 kk13 rfl (by decide +kernel) ⟨Nat.le_of_ble_eq_true rfl, Nat.le_of_ble_eq_true rfl⟩) (pre_C E hP hS hHs) rfl rfl hl.1 rfl (lv_room (Nat.le_of_ble_eq_true rfl)) d_G_init_32 ⟨(Nat.le_of_ble_eq_true rfl), (Nat.le_of_ble_eq_true rfl)⟩) hS (fun z22 H locs hz hP hS => ?_)
  obtain ⟨hq0, hq1, hzf⟩ := hz
  have ff24 : z22 k = .inr (1, [.ref (ke 0), .int (iI (-1)), .int (iI (-1)), .int (iI (0)), .null, .null]) := (hzf k (by omega) (by omega)).trans ff19
  have fr25 : ∀ j : Nat, (j < k ∨ k + 8 ≤ j) → z22 j = u j := fun j h0 => (hzf j (by omega) (by omega)).trans (fr21 j h0)
  refine w_putF (C := "LevelledRing$Gate") (T := T_G) (M := 6) (ty := (.object "LevelledRing$Poly")) (v := .ref (b + (k + 1))) hx hb hts hinG ty_G tyok_G nm_G hown hK hP hS (k) (by omega) ff24 rfl 4 (by decide) kk15 (fun _ h => h) rfl hnm rfl (by decide +kernel) rfl rfl (Nat.le_of_ble_eq_true rfl) d_G_init_35 (fun H locs hP hS => ?_)
  obtain ⟨u26, hu27, hP⟩ : ∃ zz : Nat → va_E, zz = va_up z22 k (.inr (1, [.ref (ke 0), .int (iI (-1)), .int (iI (-1)), .int (iI (0)), .ref (b + (k + 1)), .null])) ∧ va_P D vwCl (wl (k + 3) b zz) H := ⟨_, rfl, hP⟩
  have ff28 : u26 k = .inr (1, [.ref (ke 0), .int (iI (-1)), .int (iI (-1)), .int (iI (0)), .ref (b + (k + 1)), .null]) := (congrFun hu27 _).trans up_s
  have ff29 : u26 (k + 1) = .inr (3, [.int (iI (1)), .ref (b + (k + 2))]) := (congrFun hu27 _).trans ((up_n (by omega)).trans hq0)
  have ff30 : u26 (k + 2) = ir ct 8 (fun _ => 0) := (congrFun hu27 _).trans ((up_n (by omega)).trans hq1)
  have fr31 : ∀ j : Nat, (j < k ∨ k + 8 ≤ j) → u26 j = u j := fun j h0 => (congrFun hu27 j).trans ((up_n (by omega)).trans (fr25 j h0))
  refine lv_aload_n hx hb d_G_init_38 rfl (lv_at hl 0 rfl) ?_
  refine w_new (C := "LevelledRing$Value") (T := T_V) (M := 4) (ci := 4) (fs := [.int (iI (0)), .long (lI (0)), .null, .null]) hx hb hts hinV ty_V tyok_V hown kk16 kk17 kk18 hK hP hS (ev_b E) (by omega) rfl (fun j hj => by rcases (show j = 0 ∨ j = 1 ∨ j = 2 ∨ j = 3 by omega) with rfl | rfl | rfl | rfl <;> rfl) (Nat.le_of_ble_eq_true rfl) (Nat.le_of_ble_eq_true rfl) d_G_init_39 (fun H hP hS => ?_)
  obtain ⟨u32, hu33, hP⟩ : ∃ zz : Nat → va_E, zz = va_up u26 (k + 3) (.inr (4, [.int (iI (0)), .long (lI (0)), .null, .null])) ∧ va_P D vwCl (wl (k + 4) b zz) H := ⟨_, rfl, hP⟩
  have ff34 : u32 k = .inr (1, [.ref (ke 0), .int (iI (-1)), .int (iI (-1)), .int (iI (0)), .ref (b + (k + 1)), .null]) := (congrFun hu33 _).trans ((up_n (by omega)).trans ff28)
  have ff35 : u32 (k + 1) = .inr (3, [.int (iI (1)), .ref (b + (k + 2))]) := (congrFun hu33 _).trans ((up_n (by omega)).trans ff29)
  have ff36 : u32 (k + 2) = ir ct 8 (fun _ => 0) := (congrFun hu33 _).trans ((up_n (by omega)).trans ff30)
  have ff37 : u32 (k + 3) = .inr (4, [.int (iI (0)), .long (lI (0)), .null, .null]) := (congrFun hu33 _).trans up_s
  have fr38 : ∀ j : Nat, (j < k ∨ k + 8 ≤ j) → u32 j = u j := fun j h0 => (congrFun hu33 j).trans ((up_n (by omega)).trans (fr31 j h0))
  refine lv_dup hx hb d_G_init_42 rfl ?_
  refine w_sz hP (by omega) (by omega) (fun hHs => ?_)
  refine w_callv (va_runIN (As := []) (rest := [.ref (b + (k + 3)), .ref (b + k)]) ⟨hx, hb, hml, hown, hts⟩ (c_V_init l D ct st ke b u32 (k + 3) ff37) ⟨va_cnB 0 hts (gC t_52) rfl rfl rfl kn21 kk18 (by decide +kernel) ⟨Nat.le_of_ble_eq_true rfl, Nat.le_of_ble_eq_true rfl⟩, rfl, kk20⟩ (pre_C E hP hS hHs) rfl rfl hl.1 rfl (lv_room (Nat.le_of_ble_eq_true rfl)) d_G_init_43 ⟨(Nat.le_of_ble_eq_true rfl), (Nat.le_of_ble_eq_true rfl)⟩) hS (fun z39 H locs hz hP hS => ?_)
  obtain ⟨hq2, hzf2⟩ := hz
  have ff41 : z39 k = .inr (1, [.ref (ke 0), .int (iI (-1)), .int (iI (-1)), .int (iI (0)), .ref (b + (k + 1)), .null]) := (hzf2 k (by omega)).trans ff34
  have ff42 : z39 (k + 1) = .inr (3, [.int (iI (1)), .ref (b + (k + 2))]) := (hzf2 (k + 1) (by omega)).trans ff35
  have ff43 : z39 (k + 2) = ir ct 8 (fun _ => 0) := (hzf2 (k + 2) (by omega)).trans ff36
  have fr44 : ∀ j : Nat, (j < k ∨ k + 8 ≤ j) → z39 j = u j := fun j h0 => (hzf2 j (by omega)).trans (fr38 j h0)
  refine w_putF (C := "LevelledRing$Gate") (T := T_G) (M := 6) (ty := (.object "LevelledRing$Value")) (v := .ref (b + (k + 3))) hx hb hts hinG ty_G tyok_G nm_G hown hK hP hS (k) (by omega) ff41 rfl 5 (by decide) kk22 (fun _ h => h) rfl hnm rfl (by decide +kernel) rfl rfl (Nat.le_of_ble_eq_true rfl) d_G_init_46 (fun H locs hP hS => ?_)
  obtain ⟨u45, hu46, hP⟩ : ∃ zz : Nat → va_E, zz = va_up z39 k (.inr (1, [.ref (ke 0), .int (iI (-1)), .int (iI (-1)), .int (iI (0)), .ref (b + (k + 1)), .ref (b + (k + 3))])) ∧ va_P D vwCl (wl (k + 8) b zz) H := ⟨_, rfl, hP⟩
  have ff47 : u45 k = .inr (1, [.ref (ke 0), .int (iI (-1)), .int (iI (-1)), .int (iI (0)), .ref (b + (k + 1)), .ref (b + (k + 3))]) := (congrFun hu46 _).trans up_s
  have ff48 : u45 (k + 1) = .inr (3, [.int (iI (1)), .ref (b + (k + 2))]) := (congrFun hu46 _).trans ((up_n (by omega)).trans ff42)
  have ff49 : u45 (k + 2) = ir ct 8 (fun _ => 0) := (congrFun hu46 _).trans ((up_n (by omega)).trans ff43)
  have ff50 : u45 (k + 3) = .inr (4, [.int (iI (0)), .long (lI (0)), .ref (b + (k + 4)), .ref (b + (k + 6))]) := (congrFun hu46 _).trans ((up_n (by omega)).trans hq2.1)
  have ff51 : u45 (k + 4) = .inr (3, [.int (iI (0)), .ref (b + (k + 5))]) := (congrFun hu46 _).trans ((up_n (by omega)).trans hq2.2.1)
  have ff52 : u45 (k + 5) = ir ct 32 (fun _ => 0) := (congrFun hu46 _).trans ((up_n (by omega)).trans hq2.2.2.1)
  have ff53 : u45 (k + 6) = .inr (3, [.int (iI (0)), .ref (b + (k + 7))]) := (congrFun hu46 _).trans ((up_n (by omega)).trans hq2.2.2.2.1)
  have ff54 : u45 (k + 7) = ir ct 32 (fun _ => 0) := (congrFun hu46 _).trans ((up_n (by omega)).trans hq2.2.2.2.2)
  have fr55 : ∀ j : Nat, (j < k ∨ k + 8 ≤ j) → u45 j = u j := fun j h0 => (congrFun hu46 j).trans ((up_n (by omega)).trans (fr44 j h0))
  refine W.widen (k := 7) (n := 120) (by decide) (by decide) ?_
  exact ret u45 H locs 49 ls ⟨ff47, ff48, ff49, ⟨ff50, ff51, ff52, ff53, ff54⟩, fr55⟩ hP hS d_G_init_49
abbrev rm_c_dhz : Room := { frames := 2, cells := 0, slots := 0, locals := 54 }
set_option maxHeartbeats 4000000 in
set_option maxRecDepth 100000 in
/-- drawHiddenZero(drawing, c0, c1) -/
theorem c_dhz (l : Launch) (D : va_G) (ct : Nat → ClassId) (st ke : Nat → Nat) (b N : Nat) (u : Nat → va_E) (k ka kb ks : Nat) (hk : k < N) (f0 : u k = ky b k ks ka kb) (hks : ks + 1 < N) (gs : Int → Int) (fs0 : u ks = po b ks 0) (fs1 : u (ks + 1) = ir ct 32 gs) (S : Int → Int) (hSr : Rep gs 0 3 S) (kd : Nat) (hkd : kd < N) (z0 : Int32) (fd : u kd = dr z0) (k0 : Nat) (hk0 : k0 + 1 < N) (g0 : Int → Int) (f00 : u k0 = po b k0 0) (f01 : u (k0 + 1) = ir ct 32 g0) (k1 : Nat) (hk1 : k1 + 1 < N) (g1 : Int → Int) (f10 : u k1 = po b k1 0) (f11 : u (k1 + 1) = ir ct 32 g1) (hn1 : k0 + 1 ≠ k1 + 1) (hn2 : ks + 1 ≠ k0 + 1) (hn3 : ks + 1 ≠ k1 + 1) : Met l y_K_drawHiddenZero (w_K_drawHiddenZero) rm_c_dhz (va_Pc [.ref (b + k), .ref (b + kd), .ref (b + k0), .ref (b + k1)] (fun U => ev D ct st ke b U ∧ va_P D vwCl (wl N b u) U.heap)) (va_Qv (fun z : Nat → va_E => ∃ y0 y1 : Int → Int, z (k0 + 1) = ir ct 32 y0 ∧ z (k1 + 1) = ir ct 32 y1 ∧ z kd = dr (it 40 z0) ∧ Rep y0 0 3 (fun i => 17 * sml (it 32 z0) i + (-1) * nc (uni z0) S i) ∧ Rep y1 0 3 (uni z0) ∧ ∀ j : Nat, j ≠ k0 + 1 → j ≠ k1 + 1 → j ≠ kd → z j = u j) (fun (z : Nat → va_E) t => va_P D vwCl (wl (N) b (z)) t.heap) (AA b)) 0 0 (AA b) := by
  refine M_v (cc := c9_K_drawHiddenZero) (maxL := 4) (by decide) rfl (Nat.le_of_ble_eq_true rfl) ?_
  intro p e s m args below meth c Q ls H locs hx hb hml hown hts hnm E hP hS hl ret
  have hl : lv_has ls 4 [(0, .ref (b + k)), (1, .ref (b + kd)), (2, .ref (b + k0)), (3, .ref (b + k1))] := hl
  have hK := ev_K E
  have kk0 := hts (.fieldLink "LevelledRing$Keys" 14 "LevelledRing$Keys" "secret" "LLevelledRing$Poly;") (List.mem_cons_of_mem _ t_124)
  have hinK : ∀ w ∈ u_ws "LevelledRing$Keys" T_K 3, w ∈ (w_K_drawHiddenZero) := hin_K _
  have fr0 : ∀ j : Nat, (j ≠ k0 + 1) → (j ≠ k1 + 1) → (j ≠ kd) → u j = u j := fun _ _ _ _ => rfl
  have : k ≠ k0 + 1 := pl_ne f0 f01 (by intro h; cases h)
  have : k ≠ k1 + 1 := pl_ne f0 f11 (by intro h; cases h)
  have : ks ≠ k0 + 1 := pl_ne fs0 f01 (by intro h; cases h)
  have : ks ≠ k1 + 1 := pl_ne fs0 f11 (by intro h; cases h)
  have : k0 ≠ k0 + 1 := pl_ne f00 f01 (by intro h; cases h)
  have : k0 ≠ k1 + 1 := pl_ne f00 f11 (by intro h; cases h)
  have : k1 ≠ k0 + 1 := pl_ne f10 f01 (by intro h; cases h)
  have : k1 ≠ k1 + 1 := pl_ne f10 f11 (by intro h; cases h)
  have : kd ≠ k0 + 1 := pl_ne fd f01 (by intro h; cases h)
  have : kd ≠ k1 + 1 := pl_ne fd f11 (by intro h; cases h)
  have : k ≠ kd := pl_ne f0 fd (by intro h; cases h)
  have : ks ≠ kd := pl_ne fs0 fd (by intro h; cases h)
  have : k0 ≠ kd := pl_ne f00 fd (by intro h; cases h)
  have : k1 ≠ kd := pl_ne f10 fd (by intro h; cases h)
  have : ks + 1 ≠ kd := pl_ne fs1 fd (by intro h; cases h)
  have : k0 + 1 ≠ kd := pl_ne f01 fd (by intro h; cases h)
  have : k1 + 1 ≠ kd := pl_ne f11 fd (by intro h; cases h)
  refine lv_aload_n hx hb d_K_drawHiddenZero_0 rfl (lv_at hl 3 rfl) ?_
  refine lv_aload_n hx hb d_K_drawHiddenZero_1 rfl (lv_at hl 1 rfl) ?_
  refine w_callv (va_runV (As := [.ref (b + kd)]) (rest := []) ⟨hx, hb, hml, hown, hts⟩ (c_drawUniform l D ct st ke b N u k1 0 g1 hk1 f10 f11 kd z0 hkd fd) (cwV 1 hts (gV t_116 t_117 t_118 t_3 t_119) rfl rfl rfl (by decide +kernel) ⟨Nat.le_of_ble_eq_true rfl, Nat.le_of_ble_eq_true rfl⟩) (pre_V E hP hS (k1) (by omega) f10 rfl) rfl rfl hl.1 rfl (lv_room (Nat.le_of_ble_eq_true rfl)) d_K_drawHiddenZero_2 ⟨(Nat.le_of_ble_eq_true rfl), (Nat.le_of_ble_eq_true rfl)⟩) hS (fun z1 H locs hz hP hS => ?_)
  obtain ⟨y1, a1, a2, a3, a4⟩ := hz
  have ff3 : z1 k = .inr (2, [.ref (b + ks), .ref (b + ka), .ref (b + kb)]) := (a4 k (by omega) (by omega)).trans f0
  have ff4 : z1 ks = .inr (3, [.int (iI (0)), .ref (b + (ks + 1))]) := (a4 ks (by omega) (by omega)).trans fs0
  have ff5 : z1 (ks + 1) = ir ct 32 (gs) := (a4 (ks + 1) (by omega) (by omega)).trans fs1
  have ff6 : z1 k0 = .inr (3, [.int (iI (0)), .ref (b + (k0 + 1))]) := (a4 k0 (by omega) (by omega)).trans f00
  have ff7 : z1 (k0 + 1) = ir ct 32 (g0) := (a4 (k0 + 1) (by omega) (by omega)).trans f01
  have ff8 : z1 k1 = .inr (3, [.int (iI (0)), .ref (b + (k1 + 1))]) := (a4 k1 (by omega) (by omega)).trans f10
  have fr9 : ∀ j : Nat, (j ≠ k0 + 1) → (j ≠ k1 + 1) → (j ≠ kd) → z1 j = u j := fun j h0 h1 h2 => (a4 j (by omega) (by omega)).trans (fr0 j h0 h1 h2)
  refine lv_aload_n hx hb d_K_drawHiddenZero_5 rfl (lv_at hl 2 rfl) ?_
  refine lv_aload_n hx hb d_K_drawHiddenZero_6 rfl (lv_at hl 1 rfl) ?_
  refine lv_bipush (v := iI (17)) hx hb d_K_drawHiddenZero_7 (by decide +kernel) ?_
  refine w_callv (va_runV (As := [.ref (b + kd), .int (iI (17))]) (rest := []) ⟨hx, hb, hml, hown, hts⟩ (c_drawSmall l D ct st ke b N z1 k0 0 g0 hk0 ff6 ff7 kd (it 32 z0) hkd a2 17 (Or.inr rfl)) (cwV 2 hts (gV t_86 t_87 t_88 t_3 t_89) rfl rfl rfl (by decide +kernel) ⟨Nat.le_of_ble_eq_true rfl, Nat.le_of_ble_eq_true rfl⟩) (pre_V E hP hS (k0) (by omega) ff6 rfl) rfl rfl hl.1 rfl (lv_room (Nat.le_of_ble_eq_true rfl)) d_K_drawHiddenZero_9 ⟨(Nat.le_of_ble_eq_true rfl), (Nat.le_of_ble_eq_true rfl)⟩) hS (fun z10 H locs hz hP hS => ?_)
  obtain ⟨y0, b1, b2, b3, b4⟩ := hz
  have ff12 : z10 k = .inr (2, [.ref (b + ks), .ref (b + ka), .ref (b + kb)]) := (b4 k (by omega) (by omega)).trans ff3
  have ff13 : z10 ks = .inr (3, [.int (iI (0)), .ref (b + (ks + 1))]) := (b4 ks (by omega) (by omega)).trans ff4
  have ff14 : z10 (ks + 1) = ir ct 32 (gs) := (b4 (ks + 1) (by omega) (by omega)).trans ff5
  have ff15 : z10 k0 = .inr (3, [.int (iI (0)), .ref (b + (k0 + 1))]) := (b4 k0 (by omega) (by omega)).trans ff6
  have ff16 : z10 k1 = .inr (3, [.int (iI (0)), .ref (b + (k1 + 1))]) := (b4 k1 (by omega) (by omega)).trans ff8
  have ff17 : z10 (k1 + 1) = ir ct 32 (y1) := (b4 (k1 + 1) (by omega) (by omega)).trans a1
  have fr18 : ∀ j : Nat, (j ≠ k0 + 1) → (j ≠ k1 + 1) → (j ≠ kd) → z10 j = u j := fun j h0 h1 h2 => (b4 j (by omega) (by omega)).trans (fr9 j h0 h1 h2)
  refine lv_aload_n hx hb d_K_drawHiddenZero_12 rfl (lv_at hl 2 rfl) ?_
  refine lv_iconst (v := iI (-1)) hx hb d_K_drawHiddenZero_13 rfl ?_
  refine lv_aload_n hx hb d_K_drawHiddenZero_14 rfl (lv_at hl 3 rfl) ?_
  refine lv_aload_n hx hb d_K_drawHiddenZero_15 rfl (lv_at hl 0 rfl) ?_
  refine w_get (C := "LevelledRing$Keys") (T := T_K) (M := 3) hx hb hts hinK hown hK hP (k) (by omega) ff12 rfl 0 (by decide) kk0 (fun _ h => h) rfl d_K_drawHiddenZero_16 ?_
  refine lv_iconst (v := iI (3)) hx hb d_K_drawHiddenZero_19 rfl ?_
  refine w_callv (va_runV (As := [.int (iI (-1)), .ref (b + k1), .ref (b + ks), .int (iI (3))]) (rest := []) ⟨hx, hb, hml, hown, hts⟩ (c_addProduct l D ct st ke b N z10 k0 0 32 y0 hk0 (by decide) ff15 b1 3 (by decide) (by decide) (by decide) (Or.inl rfl) k1 32 y1 hk1 (by decide) (by decide) (by omega) ff16 ff17 ks 32 gs hks (by decide) (by decide) (by omega) ff13 ff14 (-1) (Or.inr rfl) (fun i => 17 * sml (it 32 z0) i) (uni z0) S b3 a3 hSr) (cwV 4 hts (gV t_101 t_102 t_103 t_3 t_104) rfl rfl rfl (by decide +kernel) ⟨Nat.le_of_ble_eq_true rfl, Nat.le_of_ble_eq_true rfl⟩) (pre_V E hP hS (k0) (by omega) ff15 rfl) rfl rfl hl.1 rfl (lv_room (Nat.le_of_ble_eq_true rfl)) d_K_drawHiddenZero_20 ⟨(Nat.le_of_ble_eq_true rfl), (Nat.le_of_ble_eq_true rfl)⟩) hS (fun z19 H locs hz hP hS => ?_)
  obtain ⟨y2, c1, c2, c3⟩ := hz
  have ff21 : z19 k = .inr (2, [.ref (b + ks), .ref (b + ka), .ref (b + kb)]) := (c3 k (by omega)).trans ff12
  have ff22 : z19 ks = .inr (3, [.int (iI (0)), .ref (b + (ks + 1))]) := (c3 ks (by omega)).trans ff13
  have ff23 : z19 (ks + 1) = ir ct 32 (gs) := (c3 (ks + 1) (by omega)).trans ff14
  have ff24 : z19 k0 = .inr (3, [.int (iI (0)), .ref (b + (k0 + 1))]) := (c3 k0 (by omega)).trans ff15
  have ff25 : z19 k1 = .inr (3, [.int (iI (0)), .ref (b + (k1 + 1))]) := (c3 k1 (by omega)).trans ff16
  have ff26 : z19 (k1 + 1) = ir ct 32 (y1) := (c3 (k1 + 1) (by omega)).trans ff17
  have ff27 : z19 kd = .inr (0, [.int (it 8 (it 32 z0))]) := (c3 kd (by omega)).trans b2
  have fr28 : ∀ j : Nat, (j ≠ k0 + 1) → (j ≠ k1 + 1) → (j ≠ kd) → z19 j = u j := fun j h0 h1 h2 => (c3 j (by omega)).trans (fr18 j h0 h1 h2)
  exact ret z19 H locs 23 ls ⟨y2, y1, c1, ff26, (it_add z0 32 8) ▸ ff27, c2, a3, fr28⟩ hP hS d_K_drawHiddenZero_23
