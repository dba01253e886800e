abbrev rm_c_giveProduct : Room := { frames := 3, cells := 0, slots := 0, locals := 77 }
set_option maxHeartbeats 4000000 in
set_option maxRecDepth 100000 in
/-- giveProduct(value) -/
theorem c_giveProduct (l : Launch) (D : va_G) (ct : Nat → ClassId) (st ke : Nat → Nat) (b N : Nat) (u : Nat → va_E) (hN : 236 ≤ N) (nn vv : Int) (hO : u 0 = ob b nn vv) (p0 : V2) (ok1 : okV p0.1) (ok2 : okV p0.2) (hl12 : p0.1.1 = p0.2.1) (hV1 : VV ct b u 5 p0.1) (hV2 : VV ct b u 10 p0.2) (K : Ky) (hKS : KS ct b u K) (hqu : qu p0) (k : Nat) (hk44 : 44 ≤ k) (hk : k + 4 < N) (hVS : VS ct b u k) (h15 : PS ct b u 15) (h17 : PS ct b u 17) : Met l y_R_giveProduct (w_R_giveProduct) rm_c_giveProduct (va_Pc [.ref (b + 0), .ref (b + k)] (fun U => ev D ct st ke b U ∧ va_P D vwCl (wl N b u) U.heap)) (va_Qi (fun (r : Int32) (z : Nat → va_E) => ((∃ w, prV K p0 = some w ∧ r = iI 1 ∧ VV ct b z k w) ∨ (prV K p0 = none ∧ r = iI 0 ∧ VS ct b z k)) ∧ PS ct b z 15 ∧ PS ct b z 17 ∧ ∀ j : Nat, (j < k ∨ k + 5 ≤ j) → j ≠ 16 → j ≠ 18 → z j = u j) (fun (z : Nat → va_E) t => va_P D vwCl (wl (N) b (z)) t.heap) (AA b)) 0 0 (AA b) := by
  refine M_z (cc := c9_R_giveProduct) (maxL := 2) (by decide) rfl (Nat.le_of_ble_eq_true rfl) ?_
  intro p e s m args below meth c Q ls H locs hx hb hml hown hts hnm E hP hS hl ret
  have hl : lv_has ls 2 [(0, .ref (b + 0)), (1, .ref (b + k))] := hl
  have hK := ev_K E
  have kk0 := hts (.fieldLink "LevelledRing" 41 "LevelledRing" "left" "LLevelledRing$Value;") (List.mem_cons_of_mem _ t_179)
  have hinR : ∀ w ∈ u_ws "LevelledRing" T_R 11, w ∈ (w_R_giveProduct) := hin_R _
  have kk2 := hts (.fieldLink "LevelledRing" 142 "LevelledRing$Value" "level" "I") (List.mem_cons_of_mem _ t_57)
  have hinV : ∀ w ∈ u_ws "LevelledRing$Value" T_V 4, w ∈ (w_R_giveProduct) := hin_V _
  have kk4 := hts (.constantLong "LevelledRing" 265 8) (List.mem_cons_of_mem _ t_369)
  have kk5 := hts (.fieldLink "LevelledRing" 145 "LevelledRing$Value" "meter" "J") (List.mem_cons_of_mem _ t_59)
  have kk6 := hts (.fieldLink "LevelledRing" 45 "LevelledRing" "right" "LLevelledRing$Value;") (List.mem_cons_of_mem _ t_180)
  have fr0 : ∀ j : Nat, (j < k ∨ k + 5 ≤ j) → (j ≠ 16) → (j ≠ 18) → u j = u j := fun _ _ _ _ => rfl
  have hV1a := hV1
  have hV2a := hV2
  have h15a := h15
  have h17a := h17
  obtain ⟨x0, x1, xV, xR0, xR1⟩ := hV1
  obtain ⟨y0, y1, yV, yR0, yR1⟩ := hV2
  obtain ⟨sl, sm, s0, s1, sV⟩ := hVS
  obtain ⟨ea, eg, eb⟩ := h15
  obtain ⟨da, dg, db⟩ := h17
  have l0 := ok1.1
  have l3 := ok1.2.1
  have bq := qu_bd hqu
  refine lv_aload_n hx hb d_R_giveProduct_0 rfl (lv_at hl 1 rfl) ?_
  refine lv_aload_n hx hb d_R_giveProduct_1 rfl (lv_at hl 0 rfl) ?_
  refine w_get (C := "LevelledRing") (T := T_R) (M := 11) hx hb hts hinR hown hK hP (0) (by omega) hO rfl 6 (by decide) kk0 (fun _ h => h) rfl d_R_giveProduct_2 ?_
  refine w_get (C := "LevelledRing$Value") (T := T_V) (M := 4) hx hb hts hinV hown hK hP (5) (by omega) xV.1 rfl 0 (by decide) kk2 (fun _ h => h) rfl d_R_giveProduct_5 ?_
  refine w_put (C := "LevelledRing$Value") (T := T_V) (M := 4) (ty := .int) (v := .int (iI (p0.1.1))) hx hb hts hinV ty_V tyok_V nm_V hown hK hP hS (k) (by omega) sV.1 rfl 0 (by decide) kk2 (fun _ h => h) rfl (by decide +kernel) rfl rfl (Nat.le_of_ble_eq_true rfl) d_R_giveProduct_8 (fun H locs hP hS => ?_)
  obtain ⟨u1, hu2, hP⟩ : ∃ zz : Nat → va_E, zz = va_up u k (.inr (4, [.int (iI (p0.1.1)), .long (lI (sm)), .ref (b + (k + 1)), .ref (b + (k + 3))])) ∧ va_P D vwCl (wl N b zz) H := ⟨_, rfl, hP⟩
  have ff3 : u1 0 = .inr (5, [.ref (b + 1), .ref (b + 21), .ref (b + 2), .ref (b + 4), .int (iI (nn)), .int (iI (vv)), .ref (b + 5), .ref (b + 10), .ref (b + 15), .ref (b + 17), .ref (b + 19)]) := (congrFun hu2 _).trans ((up_n (by omega)).trans hO)
  have ff4 : u1 5 = .inr (4, [.int (iI (p0.1.1)), .long (lI (p0.1.2.1)), .ref (b + 6), .ref (b + 8)]) := (congrFun hu2 _).trans ((up_n (by omega)).trans xV.1)
  have ff5 : u1 6 = .inr (3, [.int (iI (0)), .ref (b + 7)]) := (congrFun hu2 _).trans ((up_n (by omega)).trans xV.2.1)
  have ff6 : u1 7 = ir ct 32 (x0) := (congrFun hu2 _).trans ((up_n (by omega)).trans xV.2.2.1)
  have ff7 : u1 8 = .inr (3, [.int (iI (0)), .ref (b + 9)]) := (congrFun hu2 _).trans ((up_n (by omega)).trans xV.2.2.2.1)
  have ff8 : u1 9 = ir ct 32 (x1) := (congrFun hu2 _).trans ((up_n (by omega)).trans xV.2.2.2.2)
  have ff9 : u1 10 = .inr (4, [.int (iI (p0.2.1)), .long (lI (p0.2.2.1)), .ref (b + 11), .ref (b + 13)]) := (congrFun hu2 _).trans ((up_n (by omega)).trans yV.1)
  have ff10 : u1 11 = .inr (3, [.int (iI (0)), .ref (b + 12)]) := (congrFun hu2 _).trans ((up_n (by omega)).trans yV.2.1)
  have ff11 : u1 12 = ir ct 32 (y0) := (congrFun hu2 _).trans ((up_n (by omega)).trans yV.2.2.1)
  have ff12 : u1 13 = .inr (3, [.int (iI (0)), .ref (b + 14)]) := (congrFun hu2 _).trans ((up_n (by omega)).trans yV.2.2.2.1)
  have ff13 : u1 14 = ir ct 32 (y1) := (congrFun hu2 _).trans ((up_n (by omega)).trans yV.2.2.2.2)
  have ff14 : u1 k = .inr (4, [.int (iI (p0.1.1)), .long (lI (sm)), .ref (b + (k + 1)), .ref (b + (k + 3))]) := (congrFun hu2 _).trans up_s
  have ff15 : u1 (k + 1) = .inr (3, [.int (iI (0)), .ref (b + (k + 2))]) := (congrFun hu2 _).trans ((up_n (by omega)).trans sV.2.1)
  have ff16 : u1 (k + 2) = ir ct 32 (s0) := (congrFun hu2 _).trans ((up_n (by omega)).trans sV.2.2.1)
  have ff17 : u1 (k + 3) = .inr (3, [.int (iI (0)), .ref (b + (k + 4))]) := (congrFun hu2 _).trans ((up_n (by omega)).trans sV.2.2.2.1)
  have ff18 : u1 (k + 4) = ir ct 32 (s1) := (congrFun hu2 _).trans ((up_n (by omega)).trans sV.2.2.2.2)
  have ff19 : u1 15 = .inr (3, [.int (iI (0)), .ref (b + 16)]) := (congrFun hu2 _).trans ((up_n (by omega)).trans ea)
  have ff20 : u1 16 = ir ct 32 (eg) := (congrFun hu2 _).trans ((up_n (by omega)).trans eb)
  have ff21 : u1 17 = .inr (3, [.int (iI (0)), .ref (b + 18)]) := (congrFun hu2 _).trans ((up_n (by omega)).trans da)
  have ff22 : u1 18 = ir ct 32 (dg) := (congrFun hu2 _).trans ((up_n (by omega)).trans db)
  have fr23 : ∀ j : Nat, (j < k ∨ k + 5 ≤ j) → (j ≠ 16) → (j ≠ 18) → u1 j = u j := fun j h0 h1 h2 => (congrFun hu2 j).trans ((up_n (by omega)).trans (fr0 j h0 h1 h2))
  refine lv_aload_n hx hb d_R_giveProduct_11 rfl (lv_at hl 1 rfl) ?_
  refine lv_ldc2 hx hb hown kk4 d_R_giveProduct_12 ?_
  refine x_l (y := lI (8)) (by decide +kernel) ?_
  refine lv_aload_n hx hb d_R_giveProduct_15 rfl (lv_at hl 0 rfl) ?_
  refine w_get (C := "LevelledRing") (T := T_R) (M := 11) hx hb hts hinR hown hK hP (0) (by omega) ff3 rfl 6 (by decide) kk0 (fun _ h => h) rfl d_R_giveProduct_16 ?_
  refine w_get (C := "LevelledRing$Value") (T := T_V) (M := 4) hx hb hts hinV hown hK hP (5) (by omega) ff4 rfl 1 (by decide) kk5 (fun _ h => h) rfl d_R_giveProduct_19 ?_
  refine x_lmul hx hb d_R_giveProduct_22 ?_
  refine lv_aload_n hx hb d_R_giveProduct_23 rfl (lv_at hl 0 rfl) ?_
  refine w_get (C := "LevelledRing") (T := T_R) (M := 11) hx hb hts hinR hown hK hP (0) (by omega) ff3 rfl 7 (by decide) kk6 (fun _ h => h) rfl d_R_giveProduct_24 ?_
  refine w_get (C := "LevelledRing$Value") (T := T_V) (M := 4) hx hb hts hinV hown hK hP (10) (by omega) ff9 rfl 1 (by decide) kk5 (fun _ h => h) rfl d_R_giveProduct_27 ?_
  refine x_lmul hx hb d_R_giveProduct_30 ?_
  refine lv_aload_n hx hb d_R_giveProduct_31 rfl (lv_at hl 0 rfl) ?_
  refine w_get (C := "LevelledRing") (T := T_R) (M := 11) hx hb hts hinR hown hK hP (0) (by omega) ff3 rfl 6 (by decide) kk0 (fun _ h => h) rfl d_R_giveProduct_32 ?_
  refine w_get (C := "LevelledRing$Value") (T := T_V) (M := 4) hx hb hts hinV hown hK hP (5) (by omega) ff4 rfl 0 (by decide) kk2 (fun _ h => h) rfl d_R_giveProduct_35 ?_
  refine w_calll (va_runS (As := [.int (iI (p0.1.1))]) (rest := [.long (lI (((8) * (p0.1.2.1)) * (p0.2.2.1))), .ref (b + k)]) ⟨hx, hb, hml, hown, hts⟩ (c_swm l D ct st ke b N u1 p0.1.1 l0 l3) (cwS 1 hts (gS t_370 t_371 t_1 t_372) rfl rfl rfl (by decide +kernel) ⟨Nat.le_of_ble_eq_true rfl, Nat.le_of_ble_eq_true rfl⟩) (pre_S E hP hS) rfl rfl hl.1 rfl (lv_room (Nat.le_of_ble_eq_true rfl)) d_R_giveProduct_38 ⟨(Nat.le_of_ble_eq_true rfl), (Nat.le_of_ble_eq_true rfl)⟩) hS (fun r25 z24 H locs hz hP hS => ?_)
  obtain ⟨rfl, rfl⟩ := hz
  refine x_ladd hx hb d_R_giveProduct_41 ?_
  refine x_le (y := pmt p0) (rfl) ?_
  refine w_put (C := "LevelledRing$Value") (T := T_V) (M := 4) (ty := .long) (v := .long (lI (pmt p0))) hx hb hts hinV ty_V tyok_V nm_V hown hK hP hS (k) (by omega) ff14 rfl 1 (by decide) kk5 (fun _ h => h) rfl (by decide +kernel) rfl rfl (Nat.le_of_ble_eq_true rfl) d_R_giveProduct_42 (fun H locs hP hS => ?_)
  obtain ⟨u26, hu27, hP⟩ : ∃ zz : Nat → va_E, zz = va_up u1 k (.inr (4, [.int (iI (p0.1.1)), .long (lI (pmt p0)), .ref (b + (k + 1)), .ref (b + (k + 3))])) ∧ va_P D vwCl (wl N b zz) H := ⟨_, rfl, hP⟩
  have ff28 : u26 0 = .inr (5, [.ref (b + 1), .ref (b + 21), .ref (b + 2), .ref (b + 4), .int (iI (nn)), .int (iI (vv)), .ref (b + 5), .ref (b + 10), .ref (b + 15), .ref (b + 17), .ref (b + 19)]) := (congrFun hu27 _).trans ((up_n (by omega)).trans ff3)
  have ff29 : u26 5 = .inr (4, [.int (iI (p0.1.1)), .long (lI (p0.1.2.1)), .ref (b + 6), .ref (b + 8)]) := (congrFun hu27 _).trans ((up_n (by omega)).trans ff4)
  have ff30 : u26 6 = .inr (3, [.int (iI (0)), .ref (b + 7)]) := (congrFun hu27 _).trans ((up_n (by omega)).trans ff5)
  have ff31 : u26 7 = ir ct 32 (x0) := (congrFun hu27 _).trans ((up_n (by omega)).trans ff6)
  have ff32 : u26 8 = .inr (3, [.int (iI (0)), .ref (b + 9)]) := (congrFun hu27 _).trans ((up_n (by omega)).trans ff7)
  have ff33 : u26 9 = ir ct 32 (x1) := (congrFun hu27 _).trans ((up_n (by omega)).trans ff8)
  have ff34 : u26 10 = .inr (4, [.int (iI (p0.2.1)), .long (lI (p0.2.2.1)), .ref (b + 11), .ref (b + 13)]) := (congrFun hu27 _).trans ((up_n (by omega)).trans ff9)
  have ff35 : u26 11 = .inr (3, [.int (iI (0)), .ref (b + 12)]) := (congrFun hu27 _).trans ((up_n (by omega)).trans ff10)
  have ff36 : u26 12 = ir ct 32 (y0) := (congrFun hu27 _).trans ((up_n (by omega)).trans ff11)
  have ff37 : u26 13 = .inr (3, [.int (iI (0)), .ref (b + 14)]) := (congrFun hu27 _).trans ((up_n (by omega)).trans ff12)
  have ff38 : u26 14 = ir ct 32 (y1) := (congrFun hu27 _).trans ((up_n (by omega)).trans ff13)
  have ff39 : u26 k = .inr (4, [.int (iI (p0.1.1)), .long (lI (pmt p0)), .ref (b + (k + 1)), .ref (b + (k + 3))]) := (congrFun hu27 _).trans up_s
  have ff40 : u26 (k + 1) = .inr (3, [.int (iI (0)), .ref (b + (k + 2))]) := (congrFun hu27 _).trans ((up_n (by omega)).trans ff15)
  have ff41 : u26 (k + 2) = ir ct 32 (s0) := (congrFun hu27 _).trans ((up_n (by omega)).trans ff16)
  have ff42 : u26 (k + 3) = .inr (3, [.int (iI (0)), .ref (b + (k + 4))]) := (congrFun hu27 _).trans ((up_n (by omega)).trans ff17)
  have ff43 : u26 (k + 4) = ir ct 32 (s1) := (congrFun hu27 _).trans ((up_n (by omega)).trans ff18)
  have ff44 : u26 15 = .inr (3, [.int (iI (0)), .ref (b + 16)]) := (congrFun hu27 _).trans ((up_n (by omega)).trans ff19)
  have ff45 : u26 16 = ir ct 32 (eg) := (congrFun hu27 _).trans ((up_n (by omega)).trans ff20)
  have ff46 : u26 17 = .inr (3, [.int (iI (0)), .ref (b + 18)]) := (congrFun hu27 _).trans ((up_n (by omega)).trans ff21)
  have ff47 : u26 18 = ir ct 32 (dg) := (congrFun hu27 _).trans ((up_n (by omega)).trans ff22)
  have fr48 : ∀ j : Nat, (j < k ∨ k + 5 ≤ j) → (j ≠ 16) → (j ≠ 18) → u26 j = u j := fun j h0 h1 h2 => (congrFun hu27 j).trans ((up_n (by omega)).trans (fr23 j h0 h1 h2))
  refine lv_aload_n hx hb d_R_giveProduct_45 rfl (lv_at hl 1 rfl) ?_
  refine w_calli (va_runV (As := []) (rest := []) ⟨hx, hb, hml, hown, hts⟩ (c_tooGreat l D ct st ke b N u26 k p0.1.1 (pmt p0) (by omega) ff39 l0 l3 ⟨by omega, by omega⟩) (cwV 0 hts (gV t_358 t_348 t_349 t_4 t_350) rfl rfl rfl (by decide +kernel) ⟨Nat.le_of_ble_eq_true rfl, Nat.le_of_ble_eq_true rfl⟩) (pre_V E hP hS (k) (by omega) ff39 rfl) rfl rfl hl.1 rfl (lv_room (Nat.le_of_ble_eq_true rfl)) d_R_giveProduct_46 ⟨(Nat.le_of_ble_eq_true rfl), (Nat.le_of_ble_eq_true rfl)⟩) hS (fun r50 z49 H locs hz hP hS => ?_)
  obtain ⟨rfl, rfl⟩ := hz
  have ht01 := tg_01 p0.1.1 (pmt p0)
  refine x_if_eq (tgt := 54) hx hb ⟨by omega, by omega⟩ d_R_giveProduct_49 (by decide) (fun hc => ?_) (fun hc => ?_)
  · refine lv_aload_n hx hb d_R_giveProduct_54 rfl (lv_at hl 0 rfl) ?_
    refine lv_aload_n hx hb d_R_giveProduct_55 rfl (lv_at hl 1 rfl) ?_
    have hA5 := hV1a.of (z := u26) fun j h0 h1 => fr48 j (by omega) (by omega) (by omega)
    have hA10 := hV2a.of (z := u26) fun j h0 h1 => fr48 j (by omega) (by omega) (by omega)
    refine w_callv (va_runV (As := [.ref (b + k)]) (rest := []) ⟨hx, hb, hml, hown, hts⟩ (c_mul l D ct st ke b N u26 hN nn vv ff28 p0 ok1 ok2 hl12 hA5 hA10 k hk44 hk (pmt p0) s0 s1 ⟨ff39, ff40, ff41, ff42, ff43⟩ ⟨ff44, _, ff45⟩) (cwV 1 hts (gV t_375 t_377 (tb_sel ((y_R_multiplyOperands), 11) (List.mem_of_getElem? (i := 9) (by decide +kernel))) t_1 t_378) rfl rfl rfl (by decide +kernel) ⟨Nat.le_of_ble_eq_true rfl, Nat.le_of_ble_eq_true rfl⟩) (pre_V E hP hS (0) (by omega) ff28 rfl) rfl rfl hl.1 rfl (lv_room (Nat.le_of_ble_eq_true rfl)) d_R_giveProduct_56 ⟨(Nat.le_of_ble_eq_true rfl), (Nat.le_of_ble_eq_true rfl)⟩) hS (fun z51 H locs hz hP hS => ?_)
    obtain ⟨v0, v1, v2, c1, c2, c3, c4, c5, c6⟩ := hz
    have ff53 : z51 0 = .inr (5, [.ref (b + 1), .ref (b + 21), .ref (b + 2), .ref (b + 4), .int (iI (nn)), .int (iI (vv)), .ref (b + 5), .ref (b + 10), .ref (b + 15), .ref (b + 17), .ref (b + 19)]) := (c6 0 (by omega) (by omega)).trans ff28
    have ff54 : z51 5 = .inr (4, [.int (iI (p0.1.1)), .long (lI (p0.1.2.1)), .ref (b + 6), .ref (b + 8)]) := (c6 5 (by omega) (by omega)).trans ff29
    have ff55 : z51 6 = .inr (3, [.int (iI (0)), .ref (b + 7)]) := (c6 6 (by omega) (by omega)).trans ff30
    have ff56 : z51 7 = ir ct 32 (x0) := (c6 7 (by omega) (by omega)).trans ff31
    have ff57 : z51 8 = .inr (3, [.int (iI (0)), .ref (b + 9)]) := (c6 8 (by omega) (by omega)).trans ff32
    have ff58 : z51 9 = ir ct 32 (x1) := (c6 9 (by omega) (by omega)).trans ff33
    have ff59 : z51 10 = .inr (4, [.int (iI (p0.2.1)), .long (lI (p0.2.2.1)), .ref (b + 11), .ref (b + 13)]) := (c6 10 (by omega) (by omega)).trans ff34
    have ff60 : z51 11 = .inr (3, [.int (iI (0)), .ref (b + 12)]) := (c6 11 (by omega) (by omega)).trans ff35
    have ff61 : z51 12 = ir ct 32 (y0) := (c6 12 (by omega) (by omega)).trans ff36
    have ff62 : z51 13 = .inr (3, [.int (iI (0)), .ref (b + 14)]) := (c6 13 (by omega) (by omega)).trans ff37
    have ff63 : z51 14 = ir ct 32 (y1) := (c6 14 (by omega) (by omega)).trans ff38
    have ff64 : z51 15 = .inr (3, [.int (iI (0)), .ref (b + 16)]) := (c6 15 (by omega) (by omega)).trans ff44
    have ff65 : z51 17 = .inr (3, [.int (iI (0)), .ref (b + 18)]) := (c6 17 (by omega) (by omega)).trans ff46
    have ff66 : z51 18 = ir ct 32 (dg) := (c6 18 (by omega) (by omega)).trans ff47
    have fr67 : ∀ j : Nat, (j < k ∨ k + 5 ≤ j) → (j ≠ 16) → (j ≠ 18) → z51 j = u j := fun j h0 h1 h2 => (c6 j (by omega) (by omega)).trans (fr48 j h0 h1 h2)
    refine lv_aload_n hx hb d_R_giveProduct_59 rfl (lv_at hl 0 rfl) ?_
    refine lv_aload_n hx hb d_R_giveProduct_60 rfl (lv_at hl 1 rfl) ?_
    have hK9 := hKS.of (z := z51) fun j h0 h1 => fr67 j (by omega) (by omega) (by omega)
    refine w_callv (va_runV (As := [.ref (b + k)]) (rest := []) ⟨hx, hb, hml, hown, hts⟩ (c_switch l D ct st ke b N z51 hN K nn vv ff53 hK9 k hk44 hk p0.1.1 (pmt p0) l0 l3 v0 v1 ⟨c1.1, c1.2.1, c1.2.2.1, c1.2.2.2.1, c1.2.2.2.2⟩ ff64 v2 c2 ⟨ff65, _, ff66⟩ _ _ _ c3 c4 c5) (cwV 1 hts (gV t_379 t_381 (tb_sel ((y_R_switchSquare), 11) (List.mem_of_getElem? (i := 10) (by decide +kernel))) t_1 t_382) rfl rfl rfl (by decide +kernel) ⟨Nat.le_of_ble_eq_true rfl, Nat.le_of_ble_eq_true rfl⟩) (pre_V E hP hS (0) (by omega) ff53 rfl) rfl rfl hl.1 rfl (lv_room (Nat.le_of_ble_eq_true rfl)) d_R_giveProduct_61 ⟨(Nat.le_of_ble_eq_true rfl), (Nat.le_of_ble_eq_true rfl)⟩) hS (fun z68 H locs hz hP hS => ?_)
    obtain ⟨q0, q1, d1, ⟨d2a, dgg, d2b⟩, d3, d4, d5⟩ := hz
    have ff70 : z68 0 = .inr (5, [.ref (b + 1), .ref (b + 21), .ref (b + 2), .ref (b + 4), .int (iI (nn)), .int (iI (vv)), .ref (b + 5), .ref (b + 10), .ref (b + 15), .ref (b + 17), .ref (b + 19)]) := (d5 0 (by omega) (by omega)).trans ff53
    have ff71 : z68 5 = .inr (4, [.int (iI (p0.1.1)), .long (lI (p0.1.2.1)), .ref (b + 6), .ref (b + 8)]) := (d5 5 (by omega) (by omega)).trans ff54
    have ff72 : z68 6 = .inr (3, [.int (iI (0)), .ref (b + 7)]) := (d5 6 (by omega) (by omega)).trans ff55
    have ff73 : z68 7 = ir ct 32 (x0) := (d5 7 (by omega) (by omega)).trans ff56
    have ff74 : z68 8 = .inr (3, [.int (iI (0)), .ref (b + 9)]) := (d5 8 (by omega) (by omega)).trans ff57
    have ff75 : z68 9 = ir ct 32 (x1) := (d5 9 (by omega) (by omega)).trans ff58
    have ff76 : z68 10 = .inr (4, [.int (iI (p0.2.1)), .long (lI (p0.2.2.1)), .ref (b + 11), .ref (b + 13)]) := (d5 10 (by omega) (by omega)).trans ff59
    have ff77 : z68 11 = .inr (3, [.int (iI (0)), .ref (b + 12)]) := (d5 11 (by omega) (by omega)).trans ff60
    have ff78 : z68 12 = ir ct 32 (y0) := (d5 12 (by omega) (by omega)).trans ff61
    have ff79 : z68 13 = .inr (3, [.int (iI (0)), .ref (b + 14)]) := (d5 13 (by omega) (by omega)).trans ff62
    have ff80 : z68 14 = ir ct 32 (y1) := (d5 14 (by omega) (by omega)).trans ff63
    have ff81 : z68 15 = .inr (3, [.int (iI (0)), .ref (b + 16)]) := (d5 15 (by omega) (by omega)).trans ff64
    have ff82 : z68 16 = ir ct 32 (v2) := (d5 16 (by omega) (by omega)).trans c2
    have fr83 : ∀ j : Nat, (j < k ∨ k + 5 ≤ j) → (j ≠ 16) → (j ≠ 18) → z68 j = u j := fun j h0 h1 h2 => (d5 j (by omega) (by omega)).trans (fr67 j h0 h1 h2)
    refine lv_iconst (v := iI (1)) hx hb d_R_giveProduct_64 rfl ?_
    exact ret 1 z68 H locs 65 ls (Or.inr rfl) ⟨Or.inl ⟨_, by unfold prV; rw [if_neg (show ¬ tg p0.1.1 (pmt p0) = 1 by omega)], rfl, ⟨q0, q1, ⟨d1.1, d1.2.1, d1.2.2.1, d1.2.2.2.1, d1.2.2.2.2⟩, d3.mod l3, d4.mod l3⟩⟩, ⟨ff81, _, ff82⟩, ⟨d2a, _, d2b⟩, fr83⟩ hP hS d_R_giveProduct_65
  · refine lv_iconst (v := iI (0)) hx hb d_R_giveProduct_52 rfl ?_
    exact ret 0 u26 H locs 53 ls (Or.inl rfl) ⟨Or.inr ⟨by unfold prV; rw [if_pos (show tg p0.1.1 (pmt p0) = 1 by omega)], rfl, ⟨_, _, _, _, ⟨ff39, ff40, ff41, ff42, ff43⟩⟩⟩, ⟨ff44, _, ff45⟩, ⟨ff46, _, ff47⟩, fr48⟩ hP hS d_R_giveProduct_53
