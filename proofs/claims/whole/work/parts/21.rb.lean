abbrev rm_c_setPlain : Room := { frames := 2, cells := 0, slots := 0, locals := 61 }
set_option maxHeartbeats 4000000 in
set_option maxRecDepth 100000 in
/-- setPlain(gate, x, y) -/
theorem c_setPlain (l : Launch) (D : va_G) (ct : Nat → ClassId) (st ke : Nat → Nat) (b N : Nat) (u : Nat → va_E) (q : Nat) (hq : q + 2 < N) (kd : Nat) (a0 b0 t : Int) (f0 : u q = gt b ke q kd a0 b0 t) (f1 : u (q + 1) = po b (q + 1) 1) (gp : Int → Int) (f2 : u (q + 2) = ir ct 8 gp) (hk1 : 1 ≤ kd) (hk6 : kd < 6) (ht : kd = 4 → 0 ≤ t ∧ t < 16) (kx : Nat) (hkx : kx + 1 < N) (gx : Int → Int) (fx0 : u kx = po b kx 1) (fx1 : u (kx + 1) = ir ct 8 gx) (hnex : kx + 1 ≠ q + 2) (X : Int → Int) (hX : p17 X) (hgx : ∀ i : Int, 0 ≤ i → i < 8 → gx i = X i) (ky : Nat) (hky : ky + 1 < N) (gy : Int → Int) (fy0 : u ky = po b ky 1) (fy1 : u (ky + 1) = ir ct 8 gy) (hney : ky + 1 ≠ q + 2) (Y : Int → Int) (hY : p17 Y) (hgy : ∀ i : Int, 0 ≤ i → i < 8 → gy i = Y i) : Met l y_R_setPlain (w_R_setPlain) rm_c_setPlain (va_Pc [.ref (b + q), .ref (b + kx), .ref (b + ky)] (fun U => ev D ct st ke b U ∧ va_P D vwCl (wl N b u) U.heap)) (va_Qv (fun z : Nat → va_E => ∃ g2 : Int → Int, z (q + 2) = ir ct 8 g2 ∧ (∀ i : Int, 0 ≤ i → i < 8 → g2 i = gpl kd X Y t i) ∧ ∀ j : Nat, j ≠ q + 2 → z j = u j) (fun (z : Nat → va_E) t => va_P D vwCl (wl (N) b (z)) t.heap) (AA b)) 0 0 (AA b) := by
  refine M_v (cc := c9_R_setPlain) (maxL := 3) (by decide) rfl (Nat.le_of_ble_eq_true rfl) ?_
  intro p e s m args below meth c Q ls H locs hx hb hml hown hts hnm E hP hS hl ret
  have hl : lv_has ls 3 [(0, .ref (b + q)), (1, .ref (b + kx)), (2, .ref (b + ky))] := hl
  have hK := ev_K E
  have kk0 := hts (.fieldLink "LevelledRing" 185 "LevelledRing$1" "$SwitchMap$LevelledRing$Kind" "[I") (List.mem_cons_of_mem _ t_255)
  have kk1 := hts (.fieldLink "LevelledRing" 190 "LevelledRing$Gate" "kind" "LLevelledRing$Kind;") (List.mem_cons_of_mem _ t_149)
  have hinG : ∀ w ∈ u_ws "LevelledRing$Gate" T_G 6, w ∈ (w_R_setPlain) := hin_G _
  have kk3 := hts (.fieldLink "LevelledRing" 93 "LevelledRing$Gate" "plain" "LLevelledRing$Poly;") (List.mem_cons_of_mem _ t_157)
  have kk4 := hts (.fieldLink "LevelledRing" 207 "LevelledRing$Gate" "number" "I") (List.mem_cons_of_mem _ t_155)
  have fr0 : ∀ j : Nat, (j ≠ q + 2) → u j = u j := fun _ _ => rfl
  have : kx ≠ q + 2 := pl_ne fx0 f2 (by intro h; cases h)
  have : ky ≠ q + 2 := pl_ne fy0 f2 (by intro h; cases h)
  have rx := small_Rep hgx hX
  have ry := small_Rep hgy hY
  refine va_gets hx hb (ev_Z4 E) hS hown kk0 (fun _ h => h) d_R_setPlain_0 ?_
  refine lv_aload_n hx hb d_R_setPlain_3 rfl (lv_at hl 0 rfl) ?_
  refine w_get (C := "LevelledRing$Gate") (T := T_G) (M := 6) hx hb hts hinG hown hK hP (q) (by omega) f0 rfl 0 (by decide) kk1 (fun _ h => h) rfl d_R_setPlain_4 ?_
  refine w_calli (va_runU (As := []) (rest := [.ref (st 4)]) ⟨hx, hb, hml, hown, hts⟩ (c_ord l D ct st ke b N u (kd) hk6) (va_cwU 0 hts g_ord rfl rfl rfl rfl (by decide +kernel) ⟨Nat.le_of_ble_eq_true rfl, Nat.le_of_ble_eq_true rfl⟩) (pre_E E hP hS hk6) rfl rfl hl.1 rfl (lv_room (Nat.le_of_ble_eq_true rfl)) d_R_setPlain_7 ⟨(Nat.le_of_ble_eq_true rfl), (Nat.le_of_ble_eq_true rfl)⟩) hS (fun r z H locs hz hP hS => ?_)
  obtain ⟨rfl, rfl⟩ := hz
  refine x_ti hx hb (ev_T4 E) hS (by omega) (by omega) (by decide) d_R_setPlain_10 ?_
  refine x_ie (y := (kd : Int)) (rfl) ?_
  rcases (show kd = 1 ∨ kd = 2 ∨ kd = 3 ∨ kd = 4 ∨ kd = 5 by omega) with rfl | rfl | rfl | rfl | rfl
  · refine x_ie (y := 1) rfl ?_
    refine lv_tableIn (off := 29) (tgt := 40) hx hb d_R_setPlain_11 (by decide) (by decide) (by decide) (by decide) ?_
    refine lv_aload_n hx hb d_R_setPlain_40 rfl (lv_at hl 0 rfl) ?_
    refine w_get (C := "LevelledRing$Gate") (T := T_G) (M := 6) hx hb hts hinG hown hK hP (q) (by omega) f0 rfl 4 (by decide) kk3 (fun _ h => h) rfl d_R_setPlain_41 ?_
    refine lv_aload_n hx hb d_R_setPlain_44 rfl (lv_at hl 1 rfl) ?_
    refine lv_iconst (v := iI (1)) hx hb d_R_setPlain_45 rfl ?_
    refine lv_aload_n hx hb d_R_setPlain_46 rfl (lv_at hl 2 rfl) ?_
    refine lv_iconst (v := iI (0)) hx hb d_R_setPlain_47 rfl ?_
    refine w_callv (va_runV (As := [.ref (b + kx), .int (iI (1)), .ref (b + ky), .int (iI (0))]) (rest := []) ⟨hx, hb, hml, hown, hts⟩ (c_setSum l D ct st ke b N u (q + 1) 1 8 gp (by omega) (by decide) f1 f2 0 (by decide) (by decide) (by decide) (Or.inr rfl) kx 8 gx hkx (by decide) (by decide) (by omega) fx0 fx1 ky 8 gy hky (by decide) (by decide) (by omega) fy0 fy1 1 (Or.inl rfl) X Y rx ry) (cwV 4 hts (gV t_263 t_264 t_265 t_3 t_266) rfl rfl rfl (by decide +kernel) ⟨Nat.le_of_ble_eq_true rfl, Nat.le_of_ble_eq_true rfl⟩) (pre_V E hP hS (q + 1) (by omega) f1 rfl) rfl rfl hl.1 rfl (lv_room (Nat.le_of_ble_eq_true rfl)) d_R_setPlain_48 ⟨(Nat.le_of_ble_eq_true rfl), (Nat.le_of_ble_eq_true rfl)⟩) hS (fun z1 H locs hz hP hS => ?_)
    obtain ⟨g2, e1, e2, e3⟩ := hz
    have ff3 : z1 q = .inr (1, [.ref (ke 1), .int (iI (a0)), .int (iI (b0)), .int (iI (t)), .ref (b + (q + 1)), .ref (b + (q + 3))]) := (e3 q (by omega)).trans f0
    have ff4 : z1 (q + 1) = .inr (3, [.int (iI (1)), .ref (b + (q + 2))]) := (e3 (q + 1) (by omega)).trans f1
    have ff5 : z1 kx = .inr (3, [.int (iI (1)), .ref (b + (kx + 1))]) := (e3 kx (by omega)).trans fx0
    have ff6 : z1 (kx + 1) = ir ct 8 (gx) := (e3 (kx + 1) (by omega)).trans fx1
    have ff7 : z1 ky = .inr (3, [.int (iI (1)), .ref (b + (ky + 1))]) := (e3 ky (by omega)).trans fy0
    have ff8 : z1 (ky + 1) = ir ct 8 (gy) := (e3 (ky + 1) (by omega)).trans fy1
    have fr9 : ∀ j : Nat, (j ≠ q + 2) → z1 j = u j := fun j h0 => (e3 j (by omega)).trans (fr0 j h0)
    refine lv_goto (tgt := 113) hx hb d_R_setPlain_51 (by decide) ?_
    exact ret z1 H locs 113 ls ⟨_, e1, fun i h0 h1 => by rw [Rep_small e2 h0 h1]; show (X i + 1 * Y i) % 17 = (X i + Y i) % 17; rw [Int.one_mul], fr9⟩ hP hS d_R_setPlain_113
  · refine x_ie (y := 2) rfl ?_
    refine lv_tableIn (off := 43) (tgt := 54) hx hb d_R_setPlain_11 (by decide) (by decide) (by decide) (by decide) ?_
    refine lv_aload_n hx hb d_R_setPlain_54 rfl (lv_at hl 0 rfl) ?_
    refine w_get (C := "LevelledRing$Gate") (T := T_G) (M := 6) hx hb hts hinG hown hK hP (q) (by omega) f0 rfl 4 (by decide) kk3 (fun _ h => h) rfl d_R_setPlain_55 ?_
    refine lv_aload_n hx hb d_R_setPlain_58 rfl (lv_at hl 1 rfl) ?_
    refine lv_iconst (v := iI (-1)) hx hb d_R_setPlain_59 rfl ?_
    refine lv_aload_n hx hb d_R_setPlain_60 rfl (lv_at hl 2 rfl) ?_
    refine lv_iconst (v := iI (0)) hx hb d_R_setPlain_61 rfl ?_
    refine w_callv (va_runV (As := [.ref (b + kx), .int (iI (-1)), .ref (b + ky), .int (iI (0))]) (rest := []) ⟨hx, hb, hml, hown, hts⟩ (c_setSum l D ct st ke b N u (q + 1) 1 8 gp (by omega) (by decide) f1 f2 0 (by decide) (by decide) (by decide) (Or.inr rfl) kx 8 gx hkx (by decide) (by decide) (by omega) fx0 fx1 ky 8 gy hky (by decide) (by decide) (by omega) fy0 fy1 (-1) (Or.inr rfl) X Y rx ry) (cwV 4 hts (gV t_263 t_264 t_265 t_3 t_266) rfl rfl rfl (by decide +kernel) ⟨Nat.le_of_ble_eq_true rfl, Nat.le_of_ble_eq_true rfl⟩) (pre_V E hP hS (q + 1) (by omega) f1 rfl) rfl rfl hl.1 rfl (lv_room (Nat.le_of_ble_eq_true rfl)) d_R_setPlain_62 ⟨(Nat.le_of_ble_eq_true rfl), (Nat.le_of_ble_eq_true rfl)⟩) hS (fun z10 H locs hz hP hS => ?_)
    obtain ⟨g2, e1, e2, e3⟩ := hz
    have ff12 : z10 q = .inr (1, [.ref (ke 2), .int (iI (a0)), .int (iI (b0)), .int (iI (t)), .ref (b + (q + 1)), .ref (b + (q + 3))]) := (e3 q (by omega)).trans f0
    have ff13 : z10 (q + 1) = .inr (3, [.int (iI (1)), .ref (b + (q + 2))]) := (e3 (q + 1) (by omega)).trans f1
    have ff14 : z10 kx = .inr (3, [.int (iI (1)), .ref (b + (kx + 1))]) := (e3 kx (by omega)).trans fx0
    have ff15 : z10 (kx + 1) = ir ct 8 (gx) := (e3 (kx + 1) (by omega)).trans fx1
    have ff16 : z10 ky = .inr (3, [.int (iI (1)), .ref (b + (ky + 1))]) := (e3 ky (by omega)).trans fy0
    have ff17 : z10 (ky + 1) = ir ct 8 (gy) := (e3 (ky + 1) (by omega)).trans fy1
    have fr18 : ∀ j : Nat, (j ≠ q + 2) → z10 j = u j := fun j h0 => (e3 j (by omega)).trans (fr0 j h0)
    refine lv_goto (tgt := 113) hx hb d_R_setPlain_65 (by decide) ?_
    exact ret z10 H locs 113 ls ⟨_, e1, fun i h0 h1 => by rw [Rep_small e2 h0 h1]; show (X i + (-1) * Y i) % 17 = (X i - Y i) % 17; rw [Int.neg_one_mul, ← Int.sub_eq_add_neg], fr18⟩ hP hS d_R_setPlain_113
  · refine x_ie (y := 3) rfl ?_
    refine lv_tableIn (off := 57) (tgt := 68) hx hb d_R_setPlain_11 (by decide) (by decide) (by decide) (by decide) ?_
    refine lv_aload_n hx hb d_R_setPlain_68 rfl (lv_at hl 0 rfl) ?_
    refine w_get (C := "LevelledRing$Gate") (T := T_G) (M := 6) hx hb hts hinG hown hK hP (q) (by omega) f0 rfl 4 (by decide) kk3 (fun _ h => h) rfl d_R_setPlain_69 ?_
    refine w_callv (va_runV (As := []) (rest := []) ⟨hx, hb, hml, hown, hts⟩ (c_setZero l D ct st ke b N u (q + 1) 1 8 gp (by omega) (by decide) f1 f2) (cwV 0 hts (gV t_267 t_268 t_269 t_3 t_270) rfl rfl rfl (by decide +kernel) ⟨Nat.le_of_ble_eq_true rfl, Nat.le_of_ble_eq_true rfl⟩) (pre_V E hP hS (q + 1) (by omega) f1 rfl) rfl rfl hl.1 rfl (lv_room (Nat.le_of_ble_eq_true rfl)) d_R_setPlain_72 ⟨(Nat.le_of_ble_eq_true rfl), (Nat.le_of_ble_eq_true rfl)⟩) hS (fun z19 H locs hz hP hS => ?_)
    obtain ⟨g1, d1, d2, d3⟩ := hz
    have ff21 : z19 q = .inr (1, [.ref (ke 3), .int (iI (a0)), .int (iI (b0)), .int (iI (t)), .ref (b + (q + 1)), .ref (b + (q + 3))]) := (d3 q (by omega)).trans f0
    have ff22 : z19 (q + 1) = .inr (3, [.int (iI (1)), .ref (b + (q + 2))]) := (d3 (q + 1) (by omega)).trans f1
    have ff23 : z19 kx = .inr (3, [.int (iI (1)), .ref (b + (kx + 1))]) := (d3 kx (by omega)).trans fx0
    have ff24 : z19 (kx + 1) = ir ct 8 (gx) := (d3 (kx + 1) (by omega)).trans fx1
    have ff25 : z19 ky = .inr (3, [.int (iI (1)), .ref (b + (ky + 1))]) := (d3 ky (by omega)).trans fy0
    have ff26 : z19 (ky + 1) = ir ct 8 (gy) := (d3 (ky + 1) (by omega)).trans fy1
    have fr27 : ∀ j : Nat, (j ≠ q + 2) → z19 j = u j := fun j h0 => (d3 j (by omega)).trans (fr0 j h0)
    refine lv_aload_n hx hb d_R_setPlain_75 rfl (lv_at hl 0 rfl) ?_
    refine w_get (C := "LevelledRing$Gate") (T := T_G) (M := 6) hx hb hts hinG hown hK hP (q) (by omega) ff21 rfl 4 (by decide) kk3 (fun _ h => h) rfl d_R_setPlain_76 ?_
    refine lv_iconst (v := iI (1)) hx hb d_R_setPlain_79 rfl ?_
    refine lv_aload_n hx hb d_R_setPlain_80 rfl (lv_at hl 1 rfl) ?_
    refine lv_aload_n hx hb d_R_setPlain_81 rfl (lv_at hl 2 rfl) ?_
    refine lv_iconst (v := iI (0)) hx hb d_R_setPlain_82 rfl ?_
    refine w_callv (va_runV (As := [.int (iI (1)), .ref (b + kx), .ref (b + ky), .int (iI (0))]) (rest := []) ⟨hx, hb, hml, hown, hts⟩ (c_addProduct l D ct st ke b N z19 (q + 1) 1 8 g1 (by omega) (by decide) ff22 d1 0 (by decide) (by decide) (by decide) (Or.inr rfl) kx 8 gx hkx (by decide) (by decide) (by omega) ff23 ff24 ky 8 gy hky (by decide) (by decide) (by omega) ff25 ff26 1 (Or.inl rfl) (fun _ => 0) X Y (Rep.zero fun j h0 h1 => d2 j h0 (by omega)) rx ry) (cwV 4 hts (gV t_271 t_102 t_103 t_3 t_104) rfl rfl rfl (by decide +kernel) ⟨Nat.le_of_ble_eq_true rfl, Nat.le_of_ble_eq_true rfl⟩) (pre_V E hP hS (q + 1) (by omega) ff22 rfl) rfl rfl hl.1 rfl (lv_room (Nat.le_of_ble_eq_true rfl)) d_R_setPlain_83 ⟨(Nat.le_of_ble_eq_true rfl), (Nat.le_of_ble_eq_true rfl)⟩) hS (fun z28 H locs hz hP hS => ?_)
    obtain ⟨g2, e1, e2, e3⟩ := hz
    have ff30 : z28 q = .inr (1, [.ref (ke 3), .int (iI (a0)), .int (iI (b0)), .int (iI (t)), .ref (b + (q + 1)), .ref (b + (q + 3))]) := (e3 q (by omega)).trans ff21
    have ff31 : z28 (q + 1) = .inr (3, [.int (iI (1)), .ref (b + (q + 2))]) := (e3 (q + 1) (by omega)).trans ff22
    have ff32 : z28 kx = .inr (3, [.int (iI (1)), .ref (b + (kx + 1))]) := (e3 kx (by omega)).trans ff23
    have ff33 : z28 (kx + 1) = ir ct 8 (gx) := (e3 (kx + 1) (by omega)).trans ff24
    have ff34 : z28 ky = .inr (3, [.int (iI (1)), .ref (b + (ky + 1))]) := (e3 ky (by omega)).trans ff25
    have ff35 : z28 (ky + 1) = ir ct 8 (gy) := (e3 (ky + 1) (by omega)).trans ff26
    have fr36 : ∀ j : Nat, (j ≠ q + 2) → z28 j = u j := fun j h0 => (e3 j (by omega)).trans (fr27 j h0)
    refine lv_goto (tgt := 113) hx hb d_R_setPlain_86 (by decide) ?_
    exact ret z28 H locs 113 ls ⟨_, e1, fun i h0 h1 => by rw [Rep_small e2 h0 h1]; show (0 + 1 * nc X Y i) % 17 = nc X Y i % 17; rw [Int.one_mul, Int.zero_add], fr36⟩ hP hS d_R_setPlain_113
  · refine x_ie (y := 4) rfl ?_
    refine lv_tableIn (off := 78) (tgt := 89) hx hb d_R_setPlain_11 (by decide) (by decide) (by decide) (by decide) ?_
    have ht4 := ht rfl
    refine lv_aload_n hx hb d_R_setPlain_89 rfl (lv_at hl 0 rfl) ?_
    refine w_get (C := "LevelledRing$Gate") (T := T_G) (M := 6) hx hb hts hinG hown hK hP (q) (by omega) f0 rfl 4 (by decide) kk3 (fun _ h => h) rfl d_R_setPlain_90 ?_
    refine lv_aload_n hx hb d_R_setPlain_93 rfl (lv_at hl 1 rfl) ?_
    refine lv_aload_n hx hb d_R_setPlain_94 rfl (lv_at hl 0 rfl) ?_
    refine w_get (C := "LevelledRing$Gate") (T := T_G) (M := 6) hx hb hts hinG hown hK hP (q) (by omega) f0 rfl 3 (by decide) kk4 (fun _ h => h) rfl d_R_setPlain_95 ?_
    refine lv_iconst (v := iI (0)) hx hb d_R_setPlain_98 rfl ?_
    refine w_callv (va_runV (As := [.ref (b + kx), .int (iI (t)), .int (iI (0))]) (rest := []) ⟨hx, hb, hml, hown, hts⟩ (c_setTurned l D ct st ke b N u (q + 1) 1 8 gp (by omega) (by decide) f1 f2 0 (by decide) (by decide) (by decide) (Or.inr rfl) kx 8 gx hkx (by decide) (by decide) (by omega) fx0 fx1 t ht4.1 ht4.2 X rx) (cwV 3 hts (gV t_272 t_273 t_274 t_3 t_275) rfl rfl rfl (by decide +kernel) ⟨Nat.le_of_ble_eq_true rfl, Nat.le_of_ble_eq_true rfl⟩) (pre_V E hP hS (q + 1) (by omega) f1 rfl) rfl rfl hl.1 rfl (lv_room (Nat.le_of_ble_eq_true rfl)) d_R_setPlain_99 ⟨(Nat.le_of_ble_eq_true rfl), (Nat.le_of_ble_eq_true rfl)⟩) hS (fun z37 H locs hz hP hS => ?_)
    obtain ⟨g2, e1, e2, e3⟩ := hz
    have ff39 : z37 q = .inr (1, [.ref (ke 4), .int (iI (a0)), .int (iI (b0)), .int (iI (t)), .ref (b + (q + 1)), .ref (b + (q + 3))]) := (e3 q (by omega)).trans f0
    have ff40 : z37 (q + 1) = .inr (3, [.int (iI (1)), .ref (b + (q + 2))]) := (e3 (q + 1) (by omega)).trans f1
    have ff41 : z37 kx = .inr (3, [.int (iI (1)), .ref (b + (kx + 1))]) := (e3 kx (by omega)).trans fx0
    have ff42 : z37 (kx + 1) = ir ct 8 (gx) := (e3 (kx + 1) (by omega)).trans fx1
    have ff43 : z37 ky = .inr (3, [.int (iI (1)), .ref (b + (ky + 1))]) := (e3 ky (by omega)).trans fy0
    have ff44 : z37 (ky + 1) = ir ct 8 (gy) := (e3 (ky + 1) (by omega)).trans fy1
    have fr45 : ∀ j : Nat, (j ≠ q + 2) → z37 j = u j := fun j h0 => (e3 j (by omega)).trans (fr0 j h0)
    refine lv_goto (tgt := 113) hx hb d_R_setPlain_102 (by decide) ?_
    exact ret z37 H locs 113 ls ⟨_, e1, fun i h0 h1 => Rep_small e2 h0 h1, fr45⟩ hP hS d_R_setPlain_113
  · refine x_ie (y := 5) rfl ?_
    refine lv_tableOut (tgt := 105) hx hb d_R_setPlain_11 (by decide) (by decide) ?_
    refine lv_aload_n hx hb d_R_setPlain_105 rfl (lv_at hl 0 rfl) ?_
    refine w_get (C := "LevelledRing$Gate") (T := T_G) (M := 6) hx hb hts hinG hown hK hP (q) (by omega) f0 rfl 4 (by decide) kk3 (fun _ h => h) rfl d_R_setPlain_106 ?_
    refine lv_aload_n hx hb d_R_setPlain_109 rfl (lv_at hl 1 rfl) ?_
    refine w_callv (va_runV (As := [.ref (b + kx)]) (rest := []) ⟨hx, hb, hml, hown, hts⟩ (c_copyFrom l D ct st ke b N u (q + 1) 1 8 gp (by omega) (by decide) f1 f2 kx gx hkx fx0 fx1) (cwV 1 hts (gV t_224 t_225 t_226 t_3 t_227) rfl rfl rfl (by decide +kernel) ⟨Nat.le_of_ble_eq_true rfl, Nat.le_of_ble_eq_true rfl⟩) (pre_V E hP hS (q + 1) (by omega) f1 rfl) rfl rfl hl.1 rfl (lv_room (Nat.le_of_ble_eq_true rfl)) d_R_setPlain_110 ⟨(Nat.le_of_ble_eq_true rfl), (Nat.le_of_ble_eq_true rfl)⟩) hS (fun z46 H locs hz hP hS => ?_)
    obtain ⟨g2, e1, e2, e3⟩ := hz
    have ff48 : z46 q = .inr (1, [.ref (ke 5), .int (iI (a0)), .int (iI (b0)), .int (iI (t)), .ref (b + (q + 1)), .ref (b + (q + 3))]) := (e3 q (by omega)).trans f0
    have ff49 : z46 (q + 1) = .inr (3, [.int (iI (1)), .ref (b + (q + 2))]) := (e3 (q + 1) (by omega)).trans f1
    have ff50 : z46 kx = .inr (3, [.int (iI (1)), .ref (b + (kx + 1))]) := (e3 kx (by omega)).trans fx0
    have ff51 : z46 (kx + 1) = ir ct 8 (gx) := (e3 (kx + 1) (by omega)).trans fx1
    have ff52 : z46 ky = .inr (3, [.int (iI (1)), .ref (b + (ky + 1))]) := (e3 ky (by omega)).trans fy0
    have ff53 : z46 (ky + 1) = ir ct 8 (gy) := (e3 (ky + 1) (by omega)).trans fy1
    have fr54 : ∀ j : Nat, (j ≠ q + 2) → z46 j = u j := fun j h0 => (e3 j (by omega)).trans (fr0 j h0)
    exact ret z46 H locs 113 ls ⟨_, e1, fun i h0 h1 => (e2 i h0 h1).trans (hgx i h0 h1), fr54⟩ hP hS d_R_setPlain_113
