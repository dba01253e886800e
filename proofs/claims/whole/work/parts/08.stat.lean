abbrev rm_c_modulo : Room := { frames := 0, cells := 0, slots := 0, locals := 0 }
set_option maxHeartbeats 4000000 in
set_option maxRecDepth 100000 in
/-- modulo(x, q): the remainder from 0 on -/
theorem c_modulo (l : Launch) (D : va_G) (ct : Nat → ClassId) (st ke : Nat → Nat) (b N : Nat) (u : Nat → va_E) (x q : Int) (hx0 : r64 x) (hq : 0 < q) (hq1 : q ≤ 2147483647) : Met l y_R_modulo (w_R_modulo) rm_c_modulo (va_Pc [.long (lI (x)), .int (iI (q))] (fun U => ev D ct st ke b U ∧ va_P D vwCl (wl N b u) U.heap)) (va_Qi (fun (r : Int32) (z : Nat → va_E) => r = iI (x % q) ∧ u = z) (fun (z : Nat → va_E) t => va_P D vwCl (wl (N) b (z)) t.heap) (AA b)) 0 0 (AA b) := by
  refine M_i (cc := c9_R_modulo) (maxL := 4) (by decide) rfl (Nat.le_of_ble_eq_true rfl) ?_
  intro p e s m args below meth c Q ls H locs hx hb hml hown hts hnm E hP hS hl ret
  have hl : lv_has ls 4 [(0, .long (lI (x))), (2, .int (iI (q)))] := hl
  have hK := ev_K E
  have hbd := tmod_bd (a := x) hq
  refine lv_lload_n hx hb d_R_modulo_0 rfl (lv_at hl 0 rfl) ?_
  refine lv_iload_n hx hb d_R_modulo_1 rfl (lv_at hl 1 rfl) ?_
  refine x_i2l hx hb ⟨by omega, by omega⟩ d_R_modulo_2 ?_
  refine x_lrem hx hb hx0 ⟨by omega, by omega⟩ (by omega) d_R_modulo_3 ?_
  refine x_l2i hx hb d_R_modulo_4 ?_
  refine lv_istore_n (lv' := [(3, .int (iI ((x).tmod (q)))), (0, .long (lI (x))), (2, .int (iI (q)))]) hx hb d_R_modulo_5 rfl hl (by decide) rfl (fun ls hl => ?_)
  refine lv_iload_n hx hb d_R_modulo_6 rfl (lv_at hl 0 rfl) ?_
  refine x_if_ge (tgt := 16) hx hb ⟨by omega, by omega⟩ d_R_modulo_7 (by decide) (fun hc => ?_) (fun hc => ?_)
  · refine lv_iload_n hx hb d_R_modulo_16 rfl (lv_at hl 0 rfl) ?_
    refine x_ie (y := x % q) (by rw [← tmod_mend hq, if_neg (by omega)]) ?_
    exact ret _ u H locs 17 ls ⟨rfl, rfl⟩ hP hS d_R_modulo_17
  · refine lv_iload_n hx hb d_R_modulo_10 rfl (lv_at hl 0 rfl) ?_
    refine lv_iload_n hx hb d_R_modulo_11 rfl (lv_at hl 2 rfl) ?_
    refine x_iadd hx hb d_R_modulo_12 ?_
    refine lv_goto (tgt := 17) hx hb d_R_modulo_13 (by decide) ?_
    refine x_ie (y := x % q) (by rw [← tmod_mend hq, if_pos (by omega)]) ?_
    exact ret _ u H locs 17 ls ⟨rfl, rfl⟩ hP hS d_R_modulo_17
abbrev rm_c_centred : Room := { frames := 0, cells := 0, slots := 0, locals := 0 }
set_option maxHeartbeats 4000000 in
set_option maxRecDepth 100000 in
/-- centred(x, q) -/
theorem c_centred (l : Launch) (D : va_G) (ct : Nat → ClassId) (st ke : Nat → Nat) (b N : Nat) (u : Nat → va_E) (x q : Int) (hx0 : 0 ≤ x) (hx1 : x ≤ 9223372036854775807) (hq : 0 < q) (hq1 : q ≤ 9223372036854775807) : Met l y_R_centred (w_R_centred) rm_c_centred (va_Pc [.long (lI (x)), .long (lI (q))] (fun U => ev D ct st ke b U ∧ va_P D vwCl (wl N b u) U.heap)) (va_Ql (fun (r : Int64) (z : Nat → va_E) => r = lI (cen x q) ∧ u = z) (fun (z : Nat → va_E) t => va_P D vwCl (wl (N) b (z)) t.heap) (AA b)) 0 0 (AA b) := by
  refine M_l (cc := c9_R_centred) (maxL := 4) (by decide) rfl (Nat.le_of_ble_eq_true rfl) ?_
  intro p e s m args below meth c Q ls H locs hx hb hml hown hts hnm E hP hS hl ret
  have hl : lv_has ls 4 [(0, .long (lI (x))), (2, .long (lI (q)))] := hl
  have hK := ev_K E
  have kk0 := hts (.constantLong "LevelledRing" 179 2) (List.mem_cons_of_mem _ t_343)
  refine lv_lload_n hx hb d_R_centred_0 rfl (lv_at hl 0 rfl) ?_
  refine lv_lload_n hx hb d_R_centred_1 rfl (lv_at hl 1 rfl) ?_
  refine lv_lconst (v := lI 1) hx hb d_R_centred_2 rfl ?_
  refine x_lsub hx hb d_R_centred_3 ?_
  refine lv_ldc2 hx hb hown kk0 d_R_centred_4 ?_
  refine x_l (y := lI (2)) (by decide +kernel) ?_
  refine x_ldivP hx hb ⟨by omega, by omega⟩ ⟨by omega, by omega⟩ (by omega) (by omega) d_R_centred_7 ?_
  refine x_lcmp hx hb ⟨by omega, by omega⟩ ⟨by omega, by omega⟩ d_R_centred_8 ?_
  refine x_if_le (tgt := 18) hx hb (cmpz_r _ _) d_R_centred_9 (by decide) (fun hc => ?_) (fun hc => ?_)
  · have hc := cmpz_le.mp hc
    refine lv_lload_n hx hb d_R_centred_18 rfl (lv_at hl 0 rfl) ?_
    refine x_le (y := cen x q) (by unfold cen; rw [if_neg (by omega)]) ?_
    exact ret _ u H locs 19 ls ⟨rfl, rfl⟩ hP hS d_R_centred_19
  · have hc : ¬ x ≤ (q - 1) / 2 := fun h => by have := cmpz_le.mpr h; omega
    refine lv_lload_n hx hb d_R_centred_12 rfl (lv_at hl 0 rfl) ?_
    refine lv_lload_n hx hb d_R_centred_13 rfl (lv_at hl 1 rfl) ?_
    refine x_lsub hx hb d_R_centred_14 ?_
    refine lv_goto (tgt := 19) hx hb d_R_centred_15 (by decide) ?_
    refine x_le (y := cen x q) (by unfold cen; rw [if_pos (by omega)]) ?_
    exact ret _ u H locs 19 ls ⟨rfl, rfl⟩ hP hS d_R_centred_19
abbrev rm_c_start : Room := { frames := 0, cells := 0, slots := 0, locals := 0 }
set_option maxHeartbeats 4000000 in
set_option maxRecDepth 100000 in
/-- start(x) -/
theorem c_start (l : Launch) (D : va_G) (ct : Nat → ClassId) (st ke : Nat → Nat) (b N : Nat) (u : Nat → va_E) (kd : Nat) (z x : Int32) (hkd : kd < N) (f0 : u kd = dr z) : Met l y_D_start (w_D_start) rm_c_start (va_Pc [.ref (b + kd), .int x] (fun U => ev D ct st ke b U ∧ va_P D vwCl (wl N b u) U.heap)) (va_Qv (fun (w : Nat → va_E) => w kd = dr x ∧ ∀ j : Nat, j ≠ kd → w j = u j) (fun (z : Nat → va_E) t => va_P D vwCl (wl (N) b (z)) t.heap) (AA b)) 0 0 (AA b) := by
  refine M_v (cc := c9_D_start) (maxL := 2) (by decide) rfl (Nat.le_of_ble_eq_true rfl) ?_
  intro p e s m args below meth c Q ls H locs hx hb hml hown hts hnm E hP hS hl ret
  have hl : lv_has ls 2 [(0, .ref (b + kd)), (1, .int x)] := hl
  have hK := ev_K E
  have kk0 := hts (.fieldLink "LevelledRing$Drawing" 7 "LevelledRing$Drawing" "z" "I") (List.mem_cons_of_mem _ t_27)
  have hinD : ∀ w ∈ u_ws "LevelledRing$Drawing" T_D 1, w ∈ (w_D_start) := hin_D _
  have fr0 : ∀ j : Nat, (j ≠ kd) → u j = u j := fun _ _ => rfl
  refine lv_aload_n hx hb d_D_start_0 rfl (lv_at hl 0 rfl) ?_
  refine lv_iload_n hx hb d_D_start_1 rfl (lv_at hl 1 rfl) ?_
  refine w_put (C := "LevelledRing$Drawing") (T := T_D) (M := 1) (ty := .int) (v := .int x) hx hb hts hinD ty_D tyok_D nm_D hown hK hP hS (kd) (by omega) f0 rfl 0 (by decide) kk0 (fun _ h => h) rfl (by decide +kernel) rfl rfl (Nat.le_of_ble_eq_true rfl) d_D_start_2 (fun H locs hP hS => ?_)
  obtain ⟨u1, hu2, hP⟩ : ∃ zz : Nat → va_E, zz = va_up u kd (.inr (0, [.int x])) ∧ va_P D vwCl (wl N b zz) H := ⟨_, rfl, hP⟩
  have ff3 : u1 kd = .inr (0, [.int x]) := (congrFun hu2 _).trans up_s
  have fr4 : ∀ j : Nat, (j ≠ kd) → u1 j = u j := fun j h0 => (congrFun hu2 j).trans ((up_n (by omega)).trans (fr0 j h0))
  exact ret u1 H locs 5 ls ⟨ff3, fr4⟩ hP hS d_D_start_5
abbrev rm_c_draw : Room := { frames := 0, cells := 0, slots := 0, locals := 0 }
set_option maxHeartbeats 4000000 in
set_option maxRecDepth 100000 in
/-- draw() -/
theorem c_draw (l : Launch) (D : va_G) (ct : Nat → ClassId) (st ke : Nat → Nat) (b N : Nat) (u : Nat → va_E) (kd : Nat) (z : Int32) (hkd : kd < N) (f0 : u kd = dr z) : Met l y_D_draw (w_D_draw) rm_c_draw (va_Pc [.ref (b + kd)] (fun U => ev D ct st ke b U ∧ va_P D vwCl (wl N b u) U.heap)) (va_Qi (fun (r : Int32) (w : Nat → va_E) => r = iI (dv (dz z)) ∧ w kd = dr (dz z) ∧ ∀ j : Nat, j ≠ kd → w j = u j) (fun (z : Nat → va_E) t => va_P D vwCl (wl (N) b (z)) t.heap) (AA b)) 0 0 (AA b) := by
  refine M_i (cc := c9_D_draw) (maxL := 1) (by decide) rfl (Nat.le_of_ble_eq_true rfl) ?_
  intro p e s m args below meth c Q ls H locs hx hb hml hown hts hnm E hP hS hl ret
  have hl : lv_has ls 1 [(0, .ref (b + kd))] := hl
  have hK := ev_K E
  have kk0 := hts (.fieldLink "LevelledRing$Drawing" 7 "LevelledRing$Drawing" "z" "I") (List.mem_cons_of_mem _ t_27)
  have hinD : ∀ w ∈ u_ws "LevelledRing$Drawing" T_D 1, w ∈ (w_D_draw) := hin_D _
  have kk2 := hts (.constant "LevelledRing$Drawing" 13 1664525) (List.mem_cons_of_mem _ t_94)
  have kk3 := hts (.constant "LevelledRing$Drawing" 14 1013904223) (List.mem_cons_of_mem _ t_95)
  have fr0 : ∀ j : Nat, (j ≠ kd) → u j = u j := fun _ _ => rfl
  refine lv_aload_n hx hb d_D_draw_0 rfl (lv_at hl 0 rfl) ?_
  refine lv_aload_n hx hb d_D_draw_1 rfl (lv_at hl 0 rfl) ?_
  refine w_get (C := "LevelledRing$Drawing") (T := T_D) (M := 1) hx hb hts hinD hown hK hP (kd) (by omega) f0 rfl 0 (by decide) kk0 (fun _ h => h) rfl d_D_draw_2 ?_
  refine lv_ldc hx hb hown kk2 d_D_draw_5 ?_
  refine lv_imul hx hb d_D_draw_7 ?_
  refine lv_ldc hx hb hown kk3 d_D_draw_8 ?_
  refine lv_iadd hx hb d_D_draw_10 ?_
  refine x_i (y := dz z) rfl ?_
  refine w_put (C := "LevelledRing$Drawing") (T := T_D) (M := 1) (ty := .int) (v := .int (dz z)) hx hb hts hinD ty_D tyok_D nm_D hown hK hP hS (kd) (by omega) f0 rfl 0 (by decide) kk0 (fun _ h => h) rfl (by decide +kernel) rfl rfl (Nat.le_of_ble_eq_true rfl) d_D_draw_11 (fun H locs hP hS => ?_)
  obtain ⟨u1, hu2, hP⟩ : ∃ zz : Nat → va_E, zz = va_up u kd (.inr (0, [.int (dz z)])) ∧ va_P D vwCl (wl N b zz) H := ⟨_, rfl, hP⟩
  have ff3 : u1 kd = .inr (0, [.int (dz z)]) := (congrFun hu2 _).trans up_s
  have fr4 : ∀ j : Nat, (j ≠ kd) → u1 j = u j := fun j h0 => (congrFun hu2 j).trans ((up_n (by omega)).trans (fr0 j h0))
  refine lv_aload_n hx hb d_D_draw_14 rfl (lv_at hl 0 rfl) ?_
  refine w_get (C := "LevelledRing$Drawing") (T := T_D) (M := 1) hx hb hts hinD hown hK hP (kd) (by omega) ff3 rfl 0 (by decide) kk0 (fun _ h => h) rfl d_D_draw_15 ?_
  refine lv_bipush (v := iI (8)) hx hb d_D_draw_18 (by decide +kernel) ?_
  refine lv_iushr (v := iI (dv (dz z))) hx hb d_D_draw_20 (dv_iI (dz z)) ?_
  exact ret _ u1 H locs 21 ls ⟨rfl, ff3, fr4⟩ hP hS d_D_draw_21
abbrev rm_c_rowModulus : Room := { frames := 0, cells := 0, slots := 0, locals := 0 }
set_option maxHeartbeats 4000000 in
set_option maxRecDepth 100000 in
/-- rowModulus(row) -/
theorem c_rowModulus (l : Launch) (D : va_G) (ct : Nat → ClassId) (st ke : Nat → Nat) (b N : Nat) (u : Nat → va_E) (k : Nat) (sm row : Int) (hk : k + 1 < N) (f0 : u k = po b k sm) (hsm : sm = 0 ∨ sm = 1) (h0 : 0 ≤ row) (h3 : row ≤ 3) : Met l y_P_rowModulus (w_P_rowModulus) rm_c_rowModulus (va_Pc [.ref (b + k), .int (iI (row))] (fun U => ev D ct st ke b U ∧ va_P D vwCl (wl N b u) U.heap)) (va_Qi (fun (r : Int32) (z : Nat → va_E) => r = iI (mu sm row) ∧ u = z) (fun (z : Nat → va_E) t => va_P D vwCl (wl (N) b (z)) t.heap) (AA b)) 0 0 (AA b) := by
  refine M_i (cc := c9_P_rowModulus) (maxL := 2) (by decide) rfl (Nat.le_of_ble_eq_true rfl) ?_
  intro p e s m args below meth c Q ls H locs hx hb hml hown hts hnm E hP hS hl ret
  have hl : lv_has ls 2 [(0, .ref (b + k)), (1, .int (iI (row)))] := hl
  have hK := ev_K E
  have kk0 := hts (.fieldLink "LevelledRing$Poly" 9 "LevelledRing$Poly" "small" "Z") (List.mem_cons_of_mem _ t_37)
  have hinP : ∀ w ∈ u_ws "LevelledRing$Poly" T_P 2, w ∈ (w_P_rowModulus) := hin_P _
  have kk2 : ((.fieldLinkNest "LevelledRing$Poly" 19 "LevelledRing" "PRIMES" "[I" "LevelledRing") : Cond).before args s = true := va_Nw.use rfl (ev_W E _ nw_2)
  have fr0 : ∀ j : Nat, u j = u j := fun _  => rfl
  refine lv_aload_n hx hb d_P_rowModulus_0 rfl (lv_at hl 0 rfl) ?_
  refine w_get (C := "LevelledRing$Poly") (T := T_P) (M := 2) hx hb hts hinP hown hK hP (k) (by omega) f0 rfl 0 (by decide) kk0 (fun _ h => h) rfl d_P_rowModulus_1 ?_
  refine x_if_eq (tgt := 12) hx hb ⟨by omega, by omega⟩ d_P_rowModulus_4 (by decide) (fun hc => ?_) (fun hc => ?_)
  · refine va_getsN hx hb (ev_Z0 E) hS hown kk2 (fun _ h => h) d_P_rowModulus_12 ?_
    refine lv_iload_n hx hb d_P_rowModulus_15 rfl (lv_at hl 1 rfl) ?_
    refine x_ti hx hb (ev_T0 E) hS (by omega) (by omega) (by decide) d_P_rowModulus_16 ?_
    refine x_ie (y := mu sm row) (by unfold mu; rw [if_pos hc]) ?_
    exact ret _ u H locs 17 ls ⟨rfl, rfl⟩ hP hS d_P_rowModulus_17
  · refine lv_bipush (v := iI (17)) hx hb d_P_rowModulus_7 (by decide +kernel) ?_
    refine lv_goto (tgt := 17) hx hb d_P_rowModulus_9 (by decide) ?_
    refine x_ie (y := mu sm row) (by unfold mu; rw [if_neg hc]) ?_
    exact ret _ u H locs 17 ls ⟨rfl, rfl⟩ hP hS d_P_rowModulus_17
abbrev rm_c_setZero : Room := { frames := 0, cells := 0, slots := 0, locals := 0 }
set_option maxHeartbeats 4000000 in
set_option maxRecDepth 100000 in
/-- setZero() -/
theorem c_setZero (l : Launch) (D : va_G) (ct : Nat → ClassId) (st ke : Nat → Nat) (b N : Nat) (u : Nat → va_E) (k : Nat) (sm : Int) (n : Nat) (g : Int → Int) (hk : k + 1 < N) (hn : n < 65536) (f0 : u k = po b k sm) (f1 : u (k + 1) = ir ct n g) : Met l y_P_setZero (w_P_setZero) rm_c_setZero (va_Pc [.ref (b + k)] (fun U => ev D ct st ke b U ∧ va_P D vwCl (wl N b u) U.heap)) (va_Qv (fun z : Nat → va_E => ∃ g2 : Int → Int, z (k + 1) = ir ct n g2 ∧ (∀ j : Int, 0 ≤ j → j < n → g2 j = 0) ∧ ∀ j : Nat, j ≠ k + 1 → z j = u j) (fun (z : Nat → va_E) t => va_P D vwCl (wl (N) b (z)) t.heap) (AA b)) 0 0 (AA b) := by
  refine M_v (cc := c9_P_setZero) (maxL := 2) (by decide) rfl (Nat.le_of_ble_eq_true rfl) ?_
  intro p e s m args below meth c Q ls H locs hx hb hml hown hts hnm E hP hS hl ret
  have hl : lv_has ls 2 [(0, .ref (b + k))] := hl
  have hK := ev_K E
  have kk0 := hts (.fieldLink "LevelledRing$Poly" 15 "LevelledRing$Poly" "c" "[I") (List.mem_cons_of_mem _ t_38)
  have hinP : ∀ w ∈ u_ws "LevelledRing$Poly" T_P 2, w ∈ (w_P_setZero) := hin_P _
  have fr0 : ∀ j : Nat, (j ≠ k + 1) → u j = u j := fun _ _ => rfl
  refine lv_iconst (v := iI (0)) hx hb d_P_setZero_0 rfl ?_
  refine lv_istore_n (lv' := [(1, .int (iI (0))), (0, .ref (b + k))]) hx hb d_P_setZero_1 rfl hl (by decide) rfl (fun ls hl => ?_)
  have lp : ∀ (d : Nat) (i : Int) (g2 : Int → Int) (w1 : Nat → va_E) (H : Heap) (locs : List Loc) (ls : Array Slot), (0 ≤ i) → (i ≤ n) → ((n : Int) - i < d) → (∀ j : Int, 0 ≤ j → j < i → g2 j = 0) → w1 (k + 1) = ir ct n (g2) → (∀ j : Nat, (j ≠ k + 1) → w1 j = u j) → va_P D vwCl (wl N b w1) H → va_S (AA b) s.heap H locs → lv_has ls 2 [(1, .int (iI (i))), (0, .ref (b + k))] → W p l e rm_c_setZero s m args below meth c H locs 0 0 Q (F0 m 2 ls []) := by
    intro d
    induction d with
    | zero => intro i g2 w1 H locs ls h0 h1 hd hg fg2 fr3 hP hS hl; exfalso; omega
    | succ d ihlp =>
      intro i g2 w1 H locs ls h0 h1 hd hg fg2 fr3 hP hS hl
      have ff4 : w1 k = .inr (3, [.int (iI (sm)), .ref (b + (k + 1))]) := (fr3 k (by omega)).trans f0
      refine lv_iload_n hx hb d_P_setZero_2 rfl (lv_at hl 0 rfl) ?_
      refine lv_aload_n hx hb d_P_setZero_3 rfl (lv_at hl 1 rfl) ?_
      refine w_get (C := "LevelledRing$Poly") (T := T_P) (M := 2) hx hb hts hinP hown hK hP (k) (by omega) ff4 rfl 1 (by decide) kk0 (fun _ h => h) rfl d_P_setZero_4 ?_
      refine w_alen hx hb hK hP (k + 1) (by omega) fg2 d_P_setZero_7 ?_
      refine x_icmp_ge (tgt := 24) hx hb ⟨by omega, by omega⟩ ⟨by omega, by omega⟩ d_P_setZero_8 (by decide) (fun hc => ?_) (fun hc => ?_)
      · exact ret w1 H locs 24 ls ⟨g2, fg2, fun j h2 h3 => hg j h2 (by omega), fr3⟩ hP hS d_P_setZero_24
      · refine lv_aload_n hx hb d_P_setZero_11 rfl (lv_at hl 1 rfl) ?_
        refine w_get (C := "LevelledRing$Poly") (T := T_P) (M := 2) hx hb hts hinP hown hK hP (k) (by omega) ff4 rfl 1 (by decide) kk0 (fun _ h => h) rfl d_P_setZero_12 ?_
        refine lv_iload_n hx hb d_P_setZero_15 rfl (lv_at hl 0 rfl) ?_
        refine lv_iconst (v := iI (0)) hx hb d_P_setZero_16 rfl ?_
        refine w_iast hx hb hK hP hS (k + 1) (by omega) fg2 (by omega) (by omega) (by omega) d_P_setZero_17 (fun H locs hP hS => ?_)
        obtain ⟨u5, hu6, hP⟩ : ∃ zz : Nat → va_E, zz = va_up w1 (k + 1) (ir ct n (zu g2 (i) (0))) ∧ va_P D vwCl (wl N b zz) H := ⟨_, rfl, hP⟩
        have ff7 : u5 k = .inr (3, [.int (iI (sm)), .ref (b + (k + 1))]) := (congrFun hu6 _).trans ((up_n (by omega)).trans ff4)
        have ff8 : u5 (k + 1) = ir ct n (zu g2 (i) (0)) := (congrFun hu6 _).trans up_s
        have fr9 : ∀ j : Nat, (j ≠ k + 1) → u5 j = u j := fun j h0 => (congrFun hu6 j).trans ((up_n (by omega)).trans (fr3 j h0))
        refine lv_iinc (k := 0) (v := iI (i + 1)) (lv' := [(1, .int (iI (i + 1))), (0, .ref (b + k))]) hx hb d_P_setZero_18 hl rfl (iI_add _ _) (by decide) rfl (fun ls hl => ?_)
        refine lv_goto (tgt := 2) hx hb d_P_setZero_21 (by decide) ?_
        exact ihlp (i + 1) _ u5 H locs ls (by omega) (by omega) (by omega) (fun j h2 h3 => by by_cases h4 : j = i; (rw [h4, zu_s]); (rw [zu_n h4]; exact hg j h2 (by omega))) ff8 fr9 hP hS hl
  exact lp (n + 1) 0 g u H locs ls (by omega) (by omega) (by omega) (fun j h2 h3 => by omega) f1 fr0 hP hS hl
