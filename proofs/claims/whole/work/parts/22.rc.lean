abbrev rm_c_addGate : Room := { frames := 3, cells := 0, slots := 0, locals := 83 }
set_option maxHeartbeats 4000000 in
set_option maxRecDepth 100000 in
/-- addGate(kd, x, y, t) -/
theorem c_addGate (l : Launch) (D : va_G) (ct : Nat → ClassId) (st ke : Nat → Nat) (b N : Nat) (u : Nat → va_E) (hN : 236 ≤ N) (K : Ky) (n v : Nat) (msg : Int → Int) (G : Int → Gt) (V : Int → Val) (hC : CS ct b ke u K n v msg G V) (hI : PI n v msg G V) (kd : Nat) (hk1 : 1 ≤ kd) (hk6 : kd < 6) (x y t : Int) (hx0 : r32 x) (hy0 : r32 y) (ht : kd = 4 → 0 ≤ t ∧ t < 16) : Met l y_R_addGate (w_R_addGate) rm_c_addGate (va_Pc [.ref (b + 0), .ref (ke kd), .int (iI (x)), .int (iI (y)), .int (iI (t))] (fun U => ev D ct st ke b U ∧ va_P D vwCl (wl N b u) U.heap)) (va_Qi (fun (r : Int32) (z : Nat → va_E) => (canA n x y ∧ r = iI (n : Int) ∧ CS ct b ke z K (n + 1) v msg (addG G n (kd, x, y, t, gpl kd (G x).2.2.2.2 (G y).2.2.2.2 t)) V ∧ ∀ j : Nat, 236 ≤ j → z j = u j) ∨ (¬ canA n x y ∧ r = iI (-1) ∧ u = z)) (fun (z : Nat → va_E) t => va_P D vwCl (wl (N) b (z)) t.heap) (AA b)) 0 0 (AA b) := by
  refine M_i (cc := c9_R_addGate) (maxL := 6) (by decide) rfl (Nat.le_of_ble_eq_true rfl) ?_
  intro p e s m args below meth c Q ls H locs hx hb hml hown hts hnm E hP hS hl ret
  have hl : lv_has ls 6 [(0, .ref (b + 0)), (1, .ref (ke kd)), (2, .int (iI (x))), (3, .int (iI (y))), (4, .int (iI (t)))] := hl
  have hK := ev_K E
  have kk0 := hts (.fieldLink "LevelledRing" 31 "LevelledRing" "gateCount" "I") (List.mem_cons_of_mem _ t_177)
  have hinR : ∀ w ∈ u_ws "LevelledRing" T_R 11, w ∈ (w_R_addGate) := hin_R _
  have kk2 := hts (.fieldLink "LevelledRing" 27 "LevelledRing" "gates" "[LLevelledRing$Gate;") (List.mem_cons_of_mem _ t_176)
  have kk3 := hts (.fieldLink "LevelledRing" 93 "LevelledRing$Gate" "plain" "LLevelledRing$Poly;") (List.mem_cons_of_mem _ t_157)
  have hinG : ∀ w ∈ u_ws "LevelledRing$Gate" T_G 6, w ∈ (w_R_addGate) := hin_G _
  have fr0 : ∀ j : Nat, (j ≠ 0) → (j ≠ 44 + 8 * n) → (j ≠ 46 + 8 * n) → u j = u j := fun _ _ _ _ => rfl
  have hn24 := hI.1
  have hvn := hI.2.1
  obtain ⟨hO, hSC, hSV, ⟨gf, hgr, hgf⟩, hKS, hGC⟩ := hC
  refine lv_aload_n hx hb d_R_addGate_0 rfl (lv_at hl 0 rfl) ?_
  refine lv_iload_n hx hb d_R_addGate_1 rfl (lv_at hl 2 rfl) ?_
  refine w_calli (va_runV (As := [.int (iI (x))]) (rest := []) ⟨hx, hb, hml, hown, hts⟩ (c_isGate l D ct st ke b N u (by omega) n v (by omega) (by omega) hO (x) hx0) (cwV 1 hts (gV t_248 t_250 (tb_sel ((y_R_isGate), 11) (List.mem_of_getElem? (i := 3) (by decide +kernel))) t_1 t_251) rfl rfl rfl (by decide +kernel) ⟨Nat.le_of_ble_eq_true rfl, Nat.le_of_ble_eq_true rfl⟩) (pre_V E hP hS (0) (by omega) hO rfl) rfl rfl hl.1 rfl (lv_room (Nat.le_of_ble_eq_true rfl)) d_R_addGate_2 ⟨(Nat.le_of_ble_eq_true rfl), (Nat.le_of_ble_eq_true rfl)⟩) hS (fun r2 z1 H locs hz hP hS => ?_)
  obtain ⟨rfl, rfl⟩ := hz
  have hi01 := inb_01 (x) (n : Int)
  refine x_if_eq (tgt := 25) hx hb ⟨by omega, by omega⟩ d_R_addGate_5 (by decide) (fun hc => ?_) (fun hc => ?_)
  · refine lv_iconst (v := iI (-1)) hx hb d_R_addGate_25 rfl ?_
    exact ret _ u H locs 26 ls (Or.inr ⟨fun h => inb_z hc h.1, rfl, rfl⟩) hP hS d_R_addGate_26
  · have hxv := inb_n hc
    refine lv_aload_n hx hb d_R_addGate_8 rfl (lv_at hl 0 rfl) ?_
    refine lv_iload_n hx hb d_R_addGate_9 rfl (lv_at hl 3 rfl) ?_
    refine w_calli (va_runV (As := [.int (iI (y))]) (rest := []) ⟨hx, hb, hml, hown, hts⟩ (c_isGate l D ct st ke b N u (by omega) n v (by omega) (by omega) hO (y) hy0) (cwV 1 hts (gV t_248 t_250 (tb_sel ((y_R_isGate), 11) (List.mem_of_getElem? (i := 3) (by decide +kernel))) t_1 t_251) rfl rfl rfl (by decide +kernel) ⟨Nat.le_of_ble_eq_true rfl, Nat.le_of_ble_eq_true rfl⟩) (pre_V E hP hS (0) (by omega) hO rfl) rfl rfl hl.1 rfl (lv_room (Nat.le_of_ble_eq_true rfl)) d_R_addGate_10 ⟨(Nat.le_of_ble_eq_true rfl), (Nat.le_of_ble_eq_true rfl)⟩) hS (fun r4 z3 H locs hz hP hS => ?_)
    obtain ⟨rfl, rfl⟩ := hz
    have hi01 := inb_01 (y) (n : Int)
    refine x_if_eq (tgt := 25) hx hb ⟨by omega, by omega⟩ d_R_addGate_13 (by decide) (fun hc => ?_) (fun hc => ?_)
    · refine lv_iconst (v := iI (-1)) hx hb d_R_addGate_25 rfl ?_
      exact ret _ u H locs 26 ls (Or.inr ⟨fun h => inb_z hc h.2.1, rfl, rfl⟩) hP hS d_R_addGate_26
    · have hyv := inb_n hc
      refine lv_aload_n hx hb d_R_addGate_16 rfl (lv_at hl 0 rfl) ?_
      refine w_get (C := "LevelledRing") (T := T_R) (M := 11) hx hb hts hinR hown hK hP (0) (by omega) hO rfl 4 (by decide) kk0 (fun _ h => h) rfl d_R_addGate_17 ?_
      refine lv_bipush (v := iI (24)) hx hb d_R_addGate_20 (by decide +kernel) ?_
      refine x_icmp_lt (tgt := 27) hx hb ⟨by omega, by omega⟩ ⟨by omega, by omega⟩ d_R_addGate_22 (by decide) (fun hc => ?_) (fun hc => ?_)
      · obtain ⟨gx, rfl⟩ := Int.eq_ofNat_of_zero_le hxv.1
        obtain ⟨gy, rfl⟩ := Int.eq_ofNat_of_zero_le hyv.1
        obtain ⟨⟨nG, nhg0, nhg1, ngp, nhg2, -⟩, -⟩ := hGC.1 n (by omega)
        obtain ⟨xhg0, xhg1, xgp, xhg2, xhg3⟩ := hGC.2.1 gx (by omega)
        obtain ⟨yhg0, yhg1, ygp, yhg2, yhg3⟩ := hGC.2.1 gy (by omega)
        have okx := hI.2.2.2.1 gx (by omega)
        have oky := hI.2.2.2.1 gy (by omega)
        refine lv_aload_n hx hb d_R_addGate_27 rfl (lv_at hl 0 rfl) ?_
        refine w_get (C := "LevelledRing") (T := T_R) (M := 11) hx hb hts hinR hown hK hP (0) (by omega) hO rfl 3 (by decide) kk2 (fun _ h => h) rfl d_R_addGate_28 ?_
        refine lv_aload_n hx hb d_R_addGate_31 rfl (lv_at hl 0 rfl) ?_
        refine w_get (C := "LevelledRing") (T := T_R) (M := 11) hx hb hts hinR hown hK hP (0) (by omega) hO rfl 4 (by decide) kk0 (fun _ h => h) rfl d_R_addGate_32 ?_
        refine w_aald (r := b + (44 + 8 * n)) hx hb hK hP (4) (by omega) 3 hgr rfl (by omega) (by omega) (by decide) (hgf n (by omega)) d_R_addGate_35 ?_
        refine lv_astore (lv' := [(5, .ref (b + (44 + 8 * n))), (0, .ref (b + 0)), (1, .ref (ke kd)), (2, .int (iI ((gx : Int)))), (3, .int (iI ((gy : Int)))), (4, .int (iI (t)))]) hx hb d_R_addGate_36 hl (by decide) rfl (fun ls hl => ?_)
        refine lv_aload hx hb d_R_addGate_38 (lv_at hl 0 rfl) ?_
        refine lv_aload_n hx hb d_R_addGate_40 rfl (lv_at hl 2 rfl) ?_
        refine lv_iload_n hx hb d_R_addGate_41 rfl (lv_at hl 3 rfl) ?_
        refine lv_iload_n hx hb d_R_addGate_42 rfl (lv_at hl 4 rfl) ?_
        refine lv_iload hx hb d_R_addGate_43 (lv_at hl 5 rfl) ?_
        refine w_callv (va_runV (As := [.ref (ke kd), .int (iI ((gx : Int))), .int (iI ((gy : Int))), .int (iI (t))]) (rest := []) ⟨hx, hb, hml, hown, hts⟩ (c_become l D ct st ke b N u (44 + 8 * n) (by omega) nG.1 nG.2.1 nG.2.2.1 nG.2.2.2.1 nhg0 kd (gx : Int) (gy : Int) t) (cwV 4 hts (gV t_220 t_221 t_222 t_6 t_223) rfl rfl rfl (by decide +kernel) ⟨Nat.le_of_ble_eq_true rfl, Nat.le_of_ble_eq_true rfl⟩) (pre_V E hP hS (44 + 8 * n) (by omega) nhg0 rfl) rfl rfl hl.1 rfl (lv_room (Nat.le_of_ble_eq_true rfl)) d_R_addGate_45 ⟨(Nat.le_of_ble_eq_true rfl), (Nat.le_of_ble_eq_true rfl)⟩) hS (fun z5 H locs hz hP hS => ?_)
        obtain ⟨d1, d2⟩ := hz
        have ff7 : z5 0 = .inr (5, [.ref (b + 1), .ref (b + 21), .ref (b + 2), .ref (b + 4), .int (iI ((n : Int))), .int (iI ((v : Int))), .ref (b + 5), .ref (b + 10), .ref (b + 15), .ref (b + 17), .ref (b + 19)]) := (d2 0 (by omega)).trans hO
        have ff8 : z5 4 = qr ct 3 24 (gf) := (d2 4 (by omega)).trans hgr
        have ff9 : z5 (44 + 8 * n + 1) = .inr (3, [.int (iI (1)), .ref (b + (44 + 8 * n + 2))]) := (d2 (44 + 8 * n + 1) (by omega)).trans nhg1
        have ff10 : z5 (44 + 8 * n + 2) = ir ct 8 (ngp) := (d2 (44 + 8 * n + 2) (by omega)).trans nhg2
        have ff11 : z5 (44 + 8 * gx) = .inr (1, [.ref (ke (G gx).1), .int (iI ((G gx).2.1)), .int (iI ((G gx).2.2.1)), .int (iI ((G gx).2.2.2.1)), .ref (b + (44 + 8 * gx + 1)), .ref (b + (44 + 8 * gx + 3))]) := (d2 (44 + 8 * gx) (by omega)).trans xhg0
        have ff12 : z5 (44 + 8 * gx + 1) = .inr (3, [.int (iI (1)), .ref (b + (44 + 8 * gx + 2))]) := (d2 (44 + 8 * gx + 1) (by omega)).trans xhg1
        have ff13 : z5 (44 + 8 * gx + 2) = ir ct 8 (xgp) := (d2 (44 + 8 * gx + 2) (by omega)).trans xhg2
        have ff14 : z5 (44 + 8 * gy) = .inr (1, [.ref (ke (G gy).1), .int (iI ((G gy).2.1)), .int (iI ((G gy).2.2.1)), .int (iI ((G gy).2.2.2.1)), .ref (b + (44 + 8 * gy + 1)), .ref (b + (44 + 8 * gy + 3))]) := (d2 (44 + 8 * gy) (by omega)).trans yhg0
        have ff15 : z5 (44 + 8 * gy + 1) = .inr (3, [.int (iI (1)), .ref (b + (44 + 8 * gy + 2))]) := (d2 (44 + 8 * gy + 1) (by omega)).trans yhg1
        have ff16 : z5 (44 + 8 * gy + 2) = ir ct 8 (ygp) := (d2 (44 + 8 * gy + 2) (by omega)).trans yhg2
        have fr17 : ∀ j : Nat, (j ≠ 0) → (j ≠ 44 + 8 * n) → (j ≠ 46 + 8 * n) → z5 j = u j := fun j h0 h1 h2 => (d2 j (by omega)).trans (fr0 j h0 h1 h2)
        refine lv_aload hx hb d_R_addGate_48 (lv_at hl 0 rfl) ?_
        refine lv_aload_n hx hb d_R_addGate_50 rfl (lv_at hl 1 rfl) ?_
        refine w_get (C := "LevelledRing") (T := T_R) (M := 11) hx hb hts hinR hown hK hP (0) (by omega) ff7 rfl 3 (by decide) kk2 (fun _ h => h) rfl d_R_addGate_51 ?_
        refine lv_iload_n hx hb d_R_addGate_54 rfl (lv_at hl 3 rfl) ?_
        refine w_aald (r := b + (44 + 8 * gx)) hx hb hK hP (4) (by omega) 3 ff8 rfl (by omega) (by omega) (by decide) (hgf gx (by omega)) d_R_addGate_55 ?_
        refine w_get (C := "LevelledRing$Gate") (T := T_G) (M := 6) hx hb hts hinG hown hK hP (44 + 8 * gx) (by omega) ff11 rfl 4 (by decide) kk3 (fun _ h => h) rfl d_R_addGate_56 ?_
        refine lv_aload_n hx hb d_R_addGate_59 rfl (lv_at hl 1 rfl) ?_
        refine w_get (C := "LevelledRing") (T := T_R) (M := 11) hx hb hts hinR hown hK hP (0) (by omega) ff7 rfl 3 (by decide) kk2 (fun _ h => h) rfl d_R_addGate_60 ?_
        refine lv_iload_n hx hb d_R_addGate_63 rfl (lv_at hl 4 rfl) ?_
        refine w_aald (r := b + (44 + 8 * gy)) hx hb hK hP (4) (by omega) 3 ff8 rfl (by omega) (by omega) (by decide) (hgf gy (by omega)) d_R_addGate_64 ?_
        refine w_get (C := "LevelledRing$Gate") (T := T_G) (M := 6) hx hb hts hinG hown hK hP (44 + 8 * gy) (by omega) ff14 rfl 4 (by decide) kk3 (fun _ h => h) rfl d_R_addGate_65 ?_
        refine w_callv (va_runS (As := [.ref (b + (44 + 8 * n)), .ref (b + (44 + 8 * gx + 1)), .ref (b + (44 + 8 * gy + 1))]) (rest := []) ⟨hx, hb, hml, hown, hts⟩ (c_setPlain l D ct st ke b N z5 (44 + 8 * n) (by omega) kd (gx : Int) (gy : Int) t d1 ff9 ngp ff10 hk1 hk6 ht (44 + 8 * gx + 1) (by omega) xgp ff12 ff13 (by omega) (G gx).2.2.2.2 okx.2.1 xhg3 (44 + 8 * gy + 1) (by omega) ygp ff15 ff16 (by omega) (G gy).2.2.2.2 oky.2.1 yhg3) (cwS 3 hts (gS t_252 t_253 t_1 t_254) rfl rfl rfl (by decide +kernel) ⟨Nat.le_of_ble_eq_true rfl, Nat.le_of_ble_eq_true rfl⟩) (pre_S E hP hS) rfl rfl hl.1 rfl (lv_room (Nat.le_of_ble_eq_true rfl)) d_R_addGate_68 ⟨(Nat.le_of_ble_eq_true rfl), (Nat.le_of_ble_eq_true rfl)⟩) hS (fun z18 H locs hz hP hS => ?_)
        obtain ⟨g2, e1, e2, e3⟩ := hz
        have ff20 : z18 0 = .inr (5, [.ref (b + 1), .ref (b + 21), .ref (b + 2), .ref (b + 4), .int (iI ((n : Int))), .int (iI ((v : Int))), .ref (b + 5), .ref (b + 10), .ref (b + 15), .ref (b + 17), .ref (b + 19)]) := (e3 0 (by omega)).trans ff7
        have ff21 : z18 4 = qr ct 3 24 (gf) := (e3 4 (by omega)).trans ff8
        have ff22 : z18 (44 + 8 * n + 1) = .inr (3, [.int (iI (1)), .ref (b + (44 + 8 * n + 2))]) := (e3 (44 + 8 * n + 1) (by omega)).trans ff9
        have ff23 : z18 (44 + 8 * gx) = .inr (1, [.ref (ke (G gx).1), .int (iI ((G gx).2.1)), .int (iI ((G gx).2.2.1)), .int (iI ((G gx).2.2.2.1)), .ref (b + (44 + 8 * gx + 1)), .ref (b + (44 + 8 * gx + 3))]) := (e3 (44 + 8 * gx) (by omega)).trans ff11
        have ff24 : z18 (44 + 8 * gx + 1) = .inr (3, [.int (iI (1)), .ref (b + (44 + 8 * gx + 2))]) := (e3 (44 + 8 * gx + 1) (by omega)).trans ff12
        have ff25 : z18 (44 + 8 * gx + 2) = ir ct 8 (xgp) := (e3 (44 + 8 * gx + 2) (by omega)).trans ff13
        have ff26 : z18 (44 + 8 * gy) = .inr (1, [.ref (ke (G gy).1), .int (iI ((G gy).2.1)), .int (iI ((G gy).2.2.1)), .int (iI ((G gy).2.2.2.1)), .ref (b + (44 + 8 * gy + 1)), .ref (b + (44 + 8 * gy + 3))]) := (e3 (44 + 8 * gy) (by omega)).trans ff14
        have ff27 : z18 (44 + 8 * gy + 1) = .inr (3, [.int (iI (1)), .ref (b + (44 + 8 * gy + 2))]) := (e3 (44 + 8 * gy + 1) (by omega)).trans ff15
        have ff28 : z18 (44 + 8 * gy + 2) = ir ct 8 (ygp) := (e3 (44 + 8 * gy + 2) (by omega)).trans ff16
        have ff29 : z18 (44 + 8 * n) = .inr (1, [.ref (ke kd), .int (iI ((gx : Int))), .int (iI ((gy : Int))), .int (iI (t)), .ref (b + (44 + 8 * n + 1)), .ref (b + (44 + 8 * n + 3))]) := (e3 (44 + 8 * n) (by omega)).trans d1
        have fr30 : ∀ j : Nat, (j ≠ 0) → (j ≠ 44 + 8 * n) → (j ≠ 46 + 8 * n) → z18 j = u j := fun j h0 h1 h2 => (e3 j (by omega)).trans (fr17 j h0 h1 h2)
        refine lv_aload_n hx hb d_R_addGate_71 rfl (lv_at hl 1 rfl) ?_
        refine w_calli (va_runV (As := []) (rest := []) ⟨hx, hb, hml, hown, hts⟩ (c_keepGate l D ct st ke b N z18 hN n v ff20) (cwV 0 hts (gV t_234 t_236 (tb_sel ((y_R_keepGate), 11) (List.mem_of_getElem? (i := 1) (by decide +kernel))) t_1 t_237) rfl rfl rfl (by decide +kernel) ⟨Nat.le_of_ble_eq_true rfl, Nat.le_of_ble_eq_true rfl⟩) (pre_V E hP hS (0) (by omega) ff20 rfl) rfl rfl hl.1 rfl (lv_room (Nat.le_of_ble_eq_true rfl)) d_R_addGate_72 ⟨(Nat.le_of_ble_eq_true rfl), (Nat.le_of_ble_eq_true rfl)⟩) hS (fun r32 z31 H locs hz hP hS => ?_)
        obtain ⟨rfl, k1, k2⟩ := hz
        have ff33 : z31 4 = qr ct 3 24 (gf) := (k2 4 (by omega)).trans ff21
        have ff34 : z31 (44 + 8 * n + 1) = .inr (3, [.int (iI (1)), .ref (b + (44 + 8 * n + 2))]) := (k2 (44 + 8 * n + 1) (by omega)).trans ff22
        have ff35 : z31 (44 + 8 * gx) = .inr (1, [.ref (ke (G gx).1), .int (iI ((G gx).2.1)), .int (iI ((G gx).2.2.1)), .int (iI ((G gx).2.2.2.1)), .ref (b + (44 + 8 * gx + 1)), .ref (b + (44 + 8 * gx + 3))]) := (k2 (44 + 8 * gx) (by omega)).trans ff23
        have ff36 : z31 (44 + 8 * gx + 1) = .inr (3, [.int (iI (1)), .ref (b + (44 + 8 * gx + 2))]) := (k2 (44 + 8 * gx + 1) (by omega)).trans ff24
        have ff37 : z31 (44 + 8 * gx + 2) = ir ct 8 (xgp) := (k2 (44 + 8 * gx + 2) (by omega)).trans ff25
        have ff38 : z31 (44 + 8 * gy) = .inr (1, [.ref (ke (G gy).1), .int (iI ((G gy).2.1)), .int (iI ((G gy).2.2.1)), .int (iI ((G gy).2.2.2.1)), .ref (b + (44 + 8 * gy + 1)), .ref (b + (44 + 8 * gy + 3))]) := (k2 (44 + 8 * gy) (by omega)).trans ff26
        have ff39 : z31 (44 + 8 * gy + 1) = .inr (3, [.int (iI (1)), .ref (b + (44 + 8 * gy + 2))]) := (k2 (44 + 8 * gy + 1) (by omega)).trans ff27
        have ff40 : z31 (44 + 8 * gy + 2) = ir ct 8 (ygp) := (k2 (44 + 8 * gy + 2) (by omega)).trans ff28
        have ff41 : z31 (44 + 8 * n) = .inr (1, [.ref (ke kd), .int (iI ((gx : Int))), .int (iI ((gy : Int))), .int (iI (t)), .ref (b + (44 + 8 * n + 1)), .ref (b + (44 + 8 * n + 3))]) := (k2 (44 + 8 * n) (by omega)).trans ff29
        have ff42 : z31 (44 + 8 * n + 2) = ir ct 8 (g2) := (k2 (44 + 8 * n + 2) (by omega)).trans e1
        have fr43 : ∀ j : Nat, (j ≠ 0) → (j ≠ 44 + 8 * n) → (j ≠ 46 + 8 * n) → z31 j = u j := fun j h0 h1 h2 => (k2 j (by omega)).trans (fr30 j h0 h1 h2)
        have hGA : GA ct b ke z31 (44 + 8 * n) (kd, (gx : Int), (gy : Int), t, gpl kd (G gx).2.2.2.2 (G gy).2.2.2.2 t) := ⟨ff41, ff34, g2, ff42, e2⟩
        exact ret _ z31 H locs 75 ls (Or.inl ⟨⟨hxv, hyv, by omega⟩, rfl, ⟨k1, hSC.of fun j h1 h2 h3 h4 h5 => fr43 j (by omega) (by omega) (by omega), hSV.of fun j h1 h2 => fr43 j (by omega) (by omega) (by omega), ⟨gf, ff33, hgf⟩, hKS.of fun j h1 h2 => fr43 j (by omega) (by omega) (by omega), GC_add hGC (by omega) hvn (fun j h1 h2 h3 h4 => fr43 j (by omega) h3 h4) hGA⟩, fun j h1 => fr43 j (by omega) (by omega) (by omega)⟩) hP hS d_R_addGate_75
      · refine lv_iconst (v := iI (-1)) hx hb d_R_addGate_25 rfl ?_
        exact ret _ u H locs 26 ls (Or.inr ⟨fun h => by have := h.2.2; omega, rfl, rfl⟩) hP hS d_R_addGate_26
abbrev rm_c_input : Room := { frames := 2, cells := 0, slots := 0, locals := 61 }
set_option maxHeartbeats 4000000 in
set_option maxRecDepth 100000 in
/-- input(t) -/
theorem c_input (l : Launch) (D : va_G) (ct : Nat → ClassId) (st ke : Nat → Nat) (b N : Nat) (u : Nat → va_E) (hN : 236 ≤ N) (K : Ky) (n v : Nat) (msg : Int → Int) (G : Int → Gt) (V : Int → Val) (hC : CS ct b ke u K n v msg G V) (hI : PI n v msg G V) (t : Int) : Met l y_R_input (w_R_input) rm_c_input (va_Pc [.ref (b + 0), .int (iI (t))] (fun U => ev D ct st ke b U ∧ va_P D vwCl (wl N b u) U.heap)) (va_Qi (fun (r : Int32) (z : Nat → va_E) => (n < 24 ∧ r = iI (n : Int) ∧ CS ct b ke z K (n + 1) v msg (addG G n (0, -1, -1, t, msg)) V ∧ ∀ j : Nat, 236 ≤ j → z j = u j) ∨ (¬ n < 24 ∧ r = iI (-1) ∧ u = z)) (fun (z : Nat → va_E) t => va_P D vwCl (wl (N) b (z)) t.heap) (AA b)) 0 0 (AA b) := by
  refine M_i (cc := c9_R_input) (maxL := 3) (by decide) rfl (Nat.le_of_ble_eq_true rfl) ?_
  intro p e s m args below meth c Q ls H locs hx hb hml hown hts hnm E hP hS hl ret
  have hl : lv_has ls 3 [(0, .ref (b + 0)), (1, .int (iI (t)))] := hl
  have hK := ev_K E
  have kk0 := hts (.fieldLink "LevelledRing" 31 "LevelledRing" "gateCount" "I") (List.mem_cons_of_mem _ t_177)
  have hinR : ∀ w ∈ u_ws "LevelledRing" T_R 11, w ∈ (w_R_input) := hin_R _
  have kk2 := hts (.fieldLink "LevelledRing" 27 "LevelledRing" "gates" "[LLevelledRing$Gate;") (List.mem_cons_of_mem _ t_176)
  have kk3 := hts (.fieldLink "LevelledRing" 83 "LevelledRing$Kind" "INPUT" "LLevelledRing$Kind;") (List.mem_cons_of_mem _ t_219)
  have kk4 := hts (.fieldLink "LevelledRing" 93 "LevelledRing$Gate" "plain" "LLevelledRing$Poly;") (List.mem_cons_of_mem _ t_157)
  have hinG : ∀ w ∈ u_ws "LevelledRing$Gate" T_G 6, w ∈ (w_R_input) := hin_G _
  have kk6 := hts (.fieldLink "LevelledRing" 21 "LevelledRing" "message" "LLevelledRing$Poly;") (List.mem_cons_of_mem _ t_175)
  have fr0 : ∀ j : Nat, (j ≠ 0) → (j ≠ 44 + 8 * n) → (j ≠ 46 + 8 * n) → u j = u j := fun _ _ _ _ => rfl
  have hn24 := hI.1
  have hvn := hI.2.1
  obtain ⟨hO, hSC, hSV, ⟨gf, hgr, hgf⟩, hKS, hGC⟩ := hC
  obtain ⟨hm0, mg, hm1, hm2⟩ := hSV
  refine lv_aload_n hx hb d_R_input_0 rfl (lv_at hl 0 rfl) ?_
  refine w_get (C := "LevelledRing") (T := T_R) (M := 11) hx hb hts hinR hown hK hP (0) (by omega) hO rfl 4 (by decide) kk0 (fun _ h => h) rfl d_R_input_1 ?_
  refine lv_bipush (v := iI (24)) hx hb d_R_input_4 (by decide +kernel) ?_
  refine x_icmp_lt (tgt := 11) hx hb ⟨by omega, by omega⟩ ⟨by omega, by omega⟩ d_R_input_6 (by decide) (fun hc => ?_) (fun hc => ?_)
  · obtain ⟨⟨nG, nhg0, nhg1, ngp, nhg2, -⟩, -⟩ := hGC.1 n (by omega)
    refine lv_aload_n hx hb d_R_input_11 rfl (lv_at hl 0 rfl) ?_
    refine w_get (C := "LevelledRing") (T := T_R) (M := 11) hx hb hts hinR hown hK hP (0) (by omega) hO rfl 3 (by decide) kk2 (fun _ h => h) rfl d_R_input_12 ?_
    refine lv_aload_n hx hb d_R_input_15 rfl (lv_at hl 0 rfl) ?_
    refine w_get (C := "LevelledRing") (T := T_R) (M := 11) hx hb hts hinR hown hK hP (0) (by omega) hO rfl 4 (by decide) kk0 (fun _ h => h) rfl d_R_input_16 ?_
    refine w_aald (r := b + (44 + 8 * n)) hx hb hK hP (4) (by omega) 3 hgr rfl (by omega) (by omega) (by decide) (hgf n (by omega)) d_R_input_19 ?_
    refine lv_astore_n (lv' := [(2, .ref (b + (44 + 8 * n))), (0, .ref (b + 0)), (1, .int (iI (t)))]) hx hb d_R_input_20 rfl hl (by decide) rfl (fun ls hl => ?_)
    refine lv_aload_n hx hb d_R_input_21 rfl (lv_at hl 0 rfl) ?_
    refine va_gets hx hb ((ev_E E).1 0 (by decide)).1 hS hown kk3 (fun _ h => h) d_R_input_22 ?_
    refine lv_iconst (v := iI (-1)) hx hb d_R_input_25 rfl ?_
    refine lv_iconst (v := iI (-1)) hx hb d_R_input_26 rfl ?_
    refine lv_iload_n hx hb d_R_input_27 rfl (lv_at hl 2 rfl) ?_
    refine w_callv (va_runV (As := [.ref (ke 0), .int (iI (-1)), .int (iI (-1)), .int (iI (t))]) (rest := []) ⟨hx, hb, hml, hown, hts⟩ (c_become l D ct st ke b N u (44 + 8 * n) (by omega) nG.1 nG.2.1 nG.2.2.1 nG.2.2.2.1 nhg0 0 (-1) (-1) t) (cwV 4 hts (gV t_220 t_221 t_222 t_6 t_223) rfl rfl rfl (by decide +kernel) ⟨Nat.le_of_ble_eq_true rfl, Nat.le_of_ble_eq_true rfl⟩) (pre_V E hP hS (44 + 8 * n) (by omega) nhg0 rfl) rfl rfl hl.1 rfl (lv_room (Nat.le_of_ble_eq_true rfl)) d_R_input_28 ⟨(Nat.le_of_ble_eq_true rfl), (Nat.le_of_ble_eq_true rfl)⟩) hS (fun z1 H locs hz hP hS => ?_)
    obtain ⟨d1, d2⟩ := hz
    have ff3 : z1 0 = .inr (5, [.ref (b + 1), .ref (b + 21), .ref (b + 2), .ref (b + 4), .int (iI ((n : Int))), .int (iI ((v : Int))), .ref (b + 5), .ref (b + 10), .ref (b + 15), .ref (b + 17), .ref (b + 19)]) := (d2 0 (by omega)).trans hO
    have ff4 : z1 4 = qr ct 3 24 (gf) := (d2 4 (by omega)).trans hgr
    have ff5 : z1 2 = .inr (3, [.int (iI (1)), .ref (b + 3)]) := (d2 2 (by omega)).trans hm0
    have ff6 : z1 3 = ir ct 8 (mg) := (d2 3 (by omega)).trans hm1
    have ff7 : z1 (44 + 8 * n + 1) = .inr (3, [.int (iI (1)), .ref (b + (44 + 8 * n + 2))]) := (d2 (44 + 8 * n + 1) (by omega)).trans nhg1
    have ff8 : z1 (44 + 8 * n + 2) = ir ct 8 (ngp) := (d2 (44 + 8 * n + 2) (by omega)).trans nhg2
    have fr9 : ∀ j : Nat, (j ≠ 0) → (j ≠ 44 + 8 * n) → (j ≠ 46 + 8 * n) → z1 j = u j := fun j h0 h1 h2 => (d2 j (by omega)).trans (fr0 j h0 h1 h2)
    refine lv_aload_n hx hb d_R_input_31 rfl (lv_at hl 0 rfl) ?_
    refine w_get (C := "LevelledRing$Gate") (T := T_G) (M := 6) hx hb hts hinG hown hK hP (44 + 8 * n) (by omega) d1 rfl 4 (by decide) kk4 (fun _ h => h) rfl d_R_input_32 ?_
    refine lv_aload_n hx hb d_R_input_35 rfl (lv_at hl 1 rfl) ?_
    refine w_get (C := "LevelledRing") (T := T_R) (M := 11) hx hb hts hinR hown hK hP (0) (by omega) ff3 rfl 2 (by decide) kk6 (fun _ h => h) rfl d_R_input_36 ?_
    refine w_callv (va_runV (As := [.ref (b + 2)]) (rest := []) ⟨hx, hb, hml, hown, hts⟩ (c_copyFrom l D ct st ke b N z1 (44 + 8 * n + 1) 1 8 ngp (by omega) (by decide) ff7 ff8 2 mg (by omega) ff5 ff6) (cwV 1 hts (gV t_224 t_225 t_226 t_3 t_227) rfl rfl rfl (by decide +kernel) ⟨Nat.le_of_ble_eq_true rfl, Nat.le_of_ble_eq_true rfl⟩) (pre_V E hP hS (44 + 8 * n + 1) (by omega) ff7 rfl) rfl rfl hl.1 rfl (lv_room (Nat.le_of_ble_eq_true rfl)) d_R_input_39 ⟨(Nat.le_of_ble_eq_true rfl), (Nat.le_of_ble_eq_true rfl)⟩) hS (fun z10 H locs hz hP hS => ?_)
    obtain ⟨g2, e1, e2, e3⟩ := hz
    have ff12 : z10 0 = .inr (5, [.ref (b + 1), .ref (b + 21), .ref (b + 2), .ref (b + 4), .int (iI ((n : Int))), .int (iI ((v : Int))), .ref (b + 5), .ref (b + 10), .ref (b + 15), .ref (b + 17), .ref (b + 19)]) := (e3 0 (by omega)).trans ff3
    have ff13 : z10 4 = qr ct 3 24 (gf) := (e3 4 (by omega)).trans ff4
    have ff14 : z10 2 = .inr (3, [.int (iI (1)), .ref (b + 3)]) := (e3 2 (by omega)).trans ff5
    have ff15 : z10 3 = ir ct 8 (mg) := (e3 3 (by omega)).trans ff6
    have ff16 : z10 (44 + 8 * n + 1) = .inr (3, [.int (iI (1)), .ref (b + (44 + 8 * n + 2))]) := (e3 (44 + 8 * n + 1) (by omega)).trans ff7
    have ff17 : z10 (44 + 8 * n) = .inr (1, [.ref (ke 0), .int (iI (-1)), .int (iI (-1)), .int (iI (t)), .ref (b + (44 + 8 * n + 1)), .ref (b + (44 + 8 * n + 3))]) := (e3 (44 + 8 * n) (by omega)).trans d1
    have fr18 : ∀ j : Nat, (j ≠ 0) → (j ≠ 44 + 8 * n) → (j ≠ 46 + 8 * n) → z10 j = u j := fun j h0 h1 h2 => (e3 j (by omega)).trans (fr9 j h0 h1 h2)
    refine lv_aload_n hx hb d_R_input_42 rfl (lv_at hl 1 rfl) ?_
    refine w_calli (va_runV (As := []) (rest := []) ⟨hx, hb, hml, hown, hts⟩ (c_keepGate l D ct st ke b N z10 hN n v ff12) (cwV 0 hts (gV t_234 t_236 (tb_sel ((y_R_keepGate), 11) (List.mem_of_getElem? (i := 1) (by decide +kernel))) t_1 t_237) rfl rfl rfl (by decide +kernel) ⟨Nat.le_of_ble_eq_true rfl, Nat.le_of_ble_eq_true rfl⟩) (pre_V E hP hS (0) (by omega) ff12 rfl) rfl rfl hl.1 rfl (lv_room (Nat.le_of_ble_eq_true rfl)) d_R_input_43 ⟨(Nat.le_of_ble_eq_true rfl), (Nat.le_of_ble_eq_true rfl)⟩) hS (fun r20 z19 H locs hz hP hS => ?_)
    obtain ⟨rfl, k1, k2⟩ := hz
    have ff21 : z19 4 = qr ct 3 24 (gf) := (k2 4 (by omega)).trans ff13
    have ff22 : z19 2 = .inr (3, [.int (iI (1)), .ref (b + 3)]) := (k2 2 (by omega)).trans ff14
    have ff23 : z19 3 = ir ct 8 (mg) := (k2 3 (by omega)).trans ff15
    have ff24 : z19 (44 + 8 * n + 1) = .inr (3, [.int (iI (1)), .ref (b + (44 + 8 * n + 2))]) := (k2 (44 + 8 * n + 1) (by omega)).trans ff16
    have ff25 : z19 (44 + 8 * n) = .inr (1, [.ref (ke 0), .int (iI (-1)), .int (iI (-1)), .int (iI (t)), .ref (b + (44 + 8 * n + 1)), .ref (b + (44 + 8 * n + 3))]) := (k2 (44 + 8 * n) (by omega)).trans ff17
    have ff26 : z19 (44 + 8 * n + 2) = ir ct 8 (g2) := (k2 (44 + 8 * n + 2) (by omega)).trans e1
    have fr27 : ∀ j : Nat, (j ≠ 0) → (j ≠ 44 + 8 * n) → (j ≠ 46 + 8 * n) → z19 j = u j := fun j h0 h1 h2 => (k2 j (by omega)).trans (fr18 j h0 h1 h2)
    have hGA : GA ct b ke z19 (44 + 8 * n) (0, -1, -1, t, msg) := ⟨ff25, ff24, g2, ff26, fun i h0 h1 => (e2 i h0 (by omega)).trans (hm2 i h0 h1)⟩
    exact ret _ z19 H locs 46 ls (Or.inl ⟨by omega, rfl, ⟨k1, hSC.of fun j h1 h2 h3 h4 h5 => fr27 j (by omega) (by omega) (by omega), ⟨ff22, mg, ff23, hm2⟩, ⟨gf, ff21, hgf⟩, hKS.of fun j h1 h2 => fr27 j (by omega) (by omega) (by omega), GC_add hGC (by omega) hvn (fun j h1 h2 h3 h4 => fr27 j (by omega) h3 h4) hGA⟩, fun j h1 => fr27 j (by omega) (by omega) (by omega)⟩) hP hS d_R_input_46
  · refine lv_iconst (v := iI (-1)) hx hb d_R_input_9 rfl ?_
    exact ret _ u H locs 10 ls (Or.inr ⟨by omega, rfl, rfl⟩) hP hS d_R_input_10
abbrev rm_c_sum : Room := { frames := 4, cells := 0, slots := 0, locals := 108 }
set_option maxHeartbeats 4000000 in
set_option maxRecDepth 100000 in
/-- sum(x, y) -/
theorem c_sum (l : Launch) (D : va_G) (ct : Nat → ClassId) (st ke : Nat → Nat) (b N : Nat) (u : Nat → va_E) (hN : 236 ≤ N) (K : Ky) (n v : Nat) (msg : Int → Int) (G : Int → Gt) (V : Int → Val) (hC : CS ct b ke u K n v msg G V) (hI : PI n v msg G V) (x y : Int) (hx0 : r32 x) (hy0 : r32 y) : Met l y_R_sum (w_R_sum) rm_c_sum (va_Pc [.ref (b + 0), .int (iI (x)), .int (iI (y))] (fun U => ev D ct st ke b U ∧ va_P D vwCl (wl N b u) U.heap)) (va_Qi (fun (r : Int32) (z : Nat → va_E) => (canA n x y ∧ r = iI (n : Int) ∧ CS ct b ke z K (n + 1) v msg (addG G n (1, x, y, 0, gpl 1 (G x).2.2.2.2 (G y).2.2.2.2 0)) V ∧ ∀ j : Nat, 236 ≤ j → z j = u j) ∨ (¬ canA n x y ∧ r = iI (-1) ∧ u = z)) (fun (z : Nat → va_E) t => va_P D vwCl (wl (N) b (z)) t.heap) (AA b)) 0 0 (AA b) := by
  refine M_i (cc := c9_R_sum) (maxL := 3) (by decide) rfl (Nat.le_of_ble_eq_true rfl) ?_
  intro p e s m args below meth c Q ls H locs hx hb hml hown hts hnm E hP hS hl ret
  have hl : lv_has ls 3 [(0, .ref (b + 0)), (1, .int (iI (x))), (2, .int (iI (y)))] := hl
  have hK := ev_K E
  have kk0 := hts (.fieldLink "LevelledRing" 104 "LevelledRing$Kind" "SUM" "LLevelledRing$Kind;") (List.mem_cons_of_mem _ t_242)
  refine lv_aload_n hx hb d_R_sum_0 rfl (lv_at hl 0 rfl) ?_
  refine va_gets hx hb ((ev_E E).1 1 (by decide)).1 hS hown kk0 (fun _ h => h) d_R_sum_1 ?_
  refine lv_iload_n hx hb d_R_sum_4 rfl (lv_at hl 1 rfl) ?_
  refine lv_iload_n hx hb d_R_sum_5 rfl (lv_at hl 2 rfl) ?_
  refine lv_iconst (v := iI (0)) hx hb d_R_sum_6 rfl ?_
  refine w_calli (va_runV (As := [.ref (ke 1), .int (iI (x)), .int (iI (y)), .int (iI (0))]) (rest := []) ⟨hx, hb, hml, hown, hts⟩ (c_addGate l D ct st ke b N u hN K n v msg G V hC hI 1 (by decide) (by decide) x y 0 hx0 hy0 (fun h => by cases h)) (cwV 4 hts (gV t_244 t_246 (tb_sel ((y_R_addGate), 11) (List.mem_of_getElem? (i := 2) (by decide +kernel))) t_1 t_247) rfl rfl rfl (by decide +kernel) ⟨Nat.le_of_ble_eq_true rfl, Nat.le_of_ble_eq_true rfl⟩) (pre_V E hP hS (0) (by omega) hC.1 rfl) rfl rfl hl.1 rfl (lv_room (Nat.le_of_ble_eq_true rfl)) d_R_sum_7 ⟨(Nat.le_of_ble_eq_true rfl), (Nat.le_of_ble_eq_true rfl)⟩) hS (fun r z1 H locs hz hP hS => ?_)
  exact ret r z1 H locs 10 ls hz hP hS d_R_sum_10
abbrev rm_c_difference : Room := { frames := 4, cells := 0, slots := 0, locals := 108 }
set_option maxHeartbeats 4000000 in
set_option maxRecDepth 100000 in
/-- difference(x, y) -/
theorem c_difference (l : Launch) (D : va_G) (ct : Nat → ClassId) (st ke : Nat → Nat) (b N : Nat) (u : Nat → va_E) (hN : 236 ≤ N) (K : Ky) (n v : Nat) (msg : Int → Int) (G : Int → Gt) (V : Int → Val) (hC : CS ct b ke u K n v msg G V) (hI : PI n v msg G V) (x y : Int) (hx0 : r32 x) (hy0 : r32 y) : Met l y_R_difference (w_R_difference) rm_c_difference (va_Pc [.ref (b + 0), .int (iI (x)), .int (iI (y))] (fun U => ev D ct st ke b U ∧ va_P D vwCl (wl N b u) U.heap)) (va_Qi (fun (r : Int32) (z : Nat → va_E) => (canA n x y ∧ r = iI (n : Int) ∧ CS ct b ke z K (n + 1) v msg (addG G n (2, x, y, 0, gpl 2 (G x).2.2.2.2 (G y).2.2.2.2 0)) V ∧ ∀ j : Nat, 236 ≤ j → z j = u j) ∨ (¬ canA n x y ∧ r = iI (-1) ∧ u = z)) (fun (z : Nat → va_E) t => va_P D vwCl (wl (N) b (z)) t.heap) (AA b)) 0 0 (AA b) := by
  refine M_i (cc := c9_R_difference) (maxL := 3) (by decide) rfl (Nat.le_of_ble_eq_true rfl) ?_
  intro p e s m args below meth c Q ls H locs hx hb hml hown hts hnm E hP hS hl ret
  have hl : lv_has ls 3 [(0, .ref (b + 0)), (1, .int (iI (x))), (2, .int (iI (y)))] := hl
  have hK := ev_K E
  have kk0 := hts (.fieldLink "LevelledRing" 111 "LevelledRing$Kind" "DIFFERENCE" "LLevelledRing$Kind;") (List.mem_cons_of_mem _ t_280)
  refine lv_aload_n hx hb d_R_difference_0 rfl (lv_at hl 0 rfl) ?_
  refine va_gets hx hb ((ev_E E).1 2 (by decide)).1 hS hown kk0 (fun _ h => h) d_R_difference_1 ?_
  refine lv_iload_n hx hb d_R_difference_4 rfl (lv_at hl 1 rfl) ?_
  refine lv_iload_n hx hb d_R_difference_5 rfl (lv_at hl 2 rfl) ?_
  refine lv_iconst (v := iI (0)) hx hb d_R_difference_6 rfl ?_
  refine w_calli (va_runV (As := [.ref (ke 2), .int (iI (x)), .int (iI (y)), .int (iI (0))]) (rest := []) ⟨hx, hb, hml, hown, hts⟩ (c_addGate l D ct st ke b N u hN K n v msg G V hC hI 2 (by decide) (by decide) x y 0 hx0 hy0 (fun h => by cases h)) (cwV 4 hts (gV t_244 t_246 (tb_sel ((y_R_addGate), 11) (List.mem_of_getElem? (i := 2) (by decide +kernel))) t_1 t_247) rfl rfl rfl (by decide +kernel) ⟨Nat.le_of_ble_eq_true rfl, Nat.le_of_ble_eq_true rfl⟩) (pre_V E hP hS (0) (by omega) hC.1 rfl) rfl rfl hl.1 rfl (lv_room (Nat.le_of_ble_eq_true rfl)) d_R_difference_7 ⟨(Nat.le_of_ble_eq_true rfl), (Nat.le_of_ble_eq_true rfl)⟩) hS (fun r z1 H locs hz hP hS => ?_)
  exact ret r z1 H locs 10 ls hz hP hS d_R_difference_10
abbrev rm_c_product : Room := { frames := 4, cells := 0, slots := 0, locals := 108 }
set_option maxHeartbeats 4000000 in
set_option maxRecDepth 100000 in
/-- product(x, y) -/
theorem c_product (l : Launch) (D : va_G) (ct : Nat → ClassId) (st ke : Nat → Nat) (b N : Nat) (u : Nat → va_E) (hN : 236 ≤ N) (K : Ky) (n v : Nat) (msg : Int → Int) (G : Int → Gt) (V : Int → Val) (hC : CS ct b ke u K n v msg G V) (hI : PI n v msg G V) (x y : Int) (hx0 : r32 x) (hy0 : r32 y) : Met l y_R_product (w_R_product) rm_c_product (va_Pc [.ref (b + 0), .int (iI (x)), .int (iI (y))] (fun U => ev D ct st ke b U ∧ va_P D vwCl (wl N b u) U.heap)) (va_Qi (fun (r : Int32) (z : Nat → va_E) => (canA n x y ∧ r = iI (n : Int) ∧ CS ct b ke z K (n + 1) v msg (addG G n (3, x, y, 0, gpl 3 (G x).2.2.2.2 (G y).2.2.2.2 0)) V ∧ ∀ j : Nat, 236 ≤ j → z j = u j) ∨ (¬ canA n x y ∧ r = iI (-1) ∧ u = z)) (fun (z : Nat → va_E) t => va_P D vwCl (wl (N) b (z)) t.heap) (AA b)) 0 0 (AA b) := by
  refine M_i (cc := c9_R_product) (maxL := 3) (by decide) rfl (Nat.le_of_ble_eq_true rfl) ?_
  intro p e s m args below meth c Q ls H locs hx hb hml hown hts hnm E hP hS hl ret
  have hl : lv_has ls 3 [(0, .ref (b + 0)), (1, .int (iI (x))), (2, .int (iI (y)))] := hl
  have hK := ev_K E
  have kk0 := hts (.fieldLink "LevelledRing" 114 "LevelledRing$Kind" "PRODUCT" "LLevelledRing$Kind;") (List.mem_cons_of_mem _ t_286)
  refine lv_aload_n hx hb d_R_product_0 rfl (lv_at hl 0 rfl) ?_
  refine va_gets hx hb ((ev_E E).1 3 (by decide)).1 hS hown kk0 (fun _ h => h) d_R_product_1 ?_
  refine lv_iload_n hx hb d_R_product_4 rfl (lv_at hl 1 rfl) ?_
  refine lv_iload_n hx hb d_R_product_5 rfl (lv_at hl 2 rfl) ?_
  refine lv_iconst (v := iI (0)) hx hb d_R_product_6 rfl ?_
  refine w_calli (va_runV (As := [.ref (ke 3), .int (iI (x)), .int (iI (y)), .int (iI (0))]) (rest := []) ⟨hx, hb, hml, hown, hts⟩ (c_addGate l D ct st ke b N u hN K n v msg G V hC hI 3 (by decide) (by decide) x y 0 hx0 hy0 (fun h => by cases h)) (cwV 4 hts (gV t_244 t_246 (tb_sel ((y_R_addGate), 11) (List.mem_of_getElem? (i := 2) (by decide +kernel))) t_1 t_247) rfl rfl rfl (by decide +kernel) ⟨Nat.le_of_ble_eq_true rfl, Nat.le_of_ble_eq_true rfl⟩) (pre_V E hP hS (0) (by omega) hC.1 rfl) rfl rfl hl.1 rfl (lv_room (Nat.le_of_ble_eq_true rfl)) d_R_product_7 ⟨(Nat.le_of_ble_eq_true rfl), (Nat.le_of_ble_eq_true rfl)⟩) hS (fun r z1 H locs hz hP hS => ?_)
  exact ret r z1 H locs 10 ls hz hP hS d_R_product_10
abbrev rm_c_lowered : Room := { frames := 4, cells := 0, slots := 0, locals := 108 }
set_option maxHeartbeats 4000000 in
set_option maxRecDepth 100000 in
/-- lowered(x) -/
theorem c_lowered (l : Launch) (D : va_G) (ct : Nat → ClassId) (st ke : Nat → Nat) (b N : Nat) (u : Nat → va_E) (hN : 236 ≤ N) (K : Ky) (n v : Nat) (msg : Int → Int) (G : Int → Gt) (V : Int → Val) (hC : CS ct b ke u K n v msg G V) (hI : PI n v msg G V) (x : Int) (hx0 : r32 x) : Met l y_R_lowered (w_R_lowered) rm_c_lowered (va_Pc [.ref (b + 0), .int (iI (x))] (fun U => ev D ct st ke b U ∧ va_P D vwCl (wl N b u) U.heap)) (va_Qi (fun (r : Int32) (z : Nat → va_E) => (canA n x x ∧ r = iI (n : Int) ∧ CS ct b ke z K (n + 1) v msg (addG G n (5, x, x, 0, gpl 5 (G x).2.2.2.2 (G x).2.2.2.2 0)) V ∧ ∀ j : Nat, 236 ≤ j → z j = u j) ∨ (¬ canA n x x ∧ r = iI (-1) ∧ u = z)) (fun (z : Nat → va_E) t => va_P D vwCl (wl (N) b (z)) t.heap) (AA b)) 0 0 (AA b) := by
  refine M_i (cc := c9_R_lowered) (maxL := 2) (by decide) rfl (Nat.le_of_ble_eq_true rfl) ?_
  intro p e s m args below meth c Q ls H locs hx hb hml hown hts hnm E hP hS hl ret
  have hl : lv_has ls 2 [(0, .ref (b + 0)), (1, .int (iI (x)))] := hl
  have hK := ev_K E
  have kk0 := hts (.fieldLink "LevelledRing" 120 "LevelledRing$Kind" "LOWERED" "LLevelledRing$Kind;") (List.mem_cons_of_mem _ t_298)
  refine lv_aload_n hx hb d_R_lowered_0 rfl (lv_at hl 0 rfl) ?_
  refine va_gets hx hb ((ev_E E).1 5 (by decide)).1 hS hown kk0 (fun _ h => h) d_R_lowered_1 ?_
  refine lv_iload_n hx hb d_R_lowered_4 rfl (lv_at hl 1 rfl) ?_
  refine lv_iload_n hx hb d_R_lowered_5 rfl (lv_at hl 1 rfl) ?_
  refine lv_iconst (v := iI (0)) hx hb d_R_lowered_6 rfl ?_
  refine w_calli (va_runV (As := [.ref (ke 5), .int (iI (x)), .int (iI (x)), .int (iI (0))]) (rest := []) ⟨hx, hb, hml, hown, hts⟩ (c_addGate l D ct st ke b N u hN K n v msg G V hC hI 5 (by decide) (by decide) x x 0 hx0 hx0 (fun h => by cases h)) (cwV 4 hts (gV t_244 t_246 (tb_sel ((y_R_addGate), 11) (List.mem_of_getElem? (i := 2) (by decide +kernel))) t_1 t_247) rfl rfl rfl (by decide +kernel) ⟨Nat.le_of_ble_eq_true rfl, Nat.le_of_ble_eq_true rfl⟩) (pre_V E hP hS (0) (by omega) hC.1 rfl) rfl rfl hl.1 rfl (lv_room (Nat.le_of_ble_eq_true rfl)) d_R_lowered_7 ⟨(Nat.le_of_ble_eq_true rfl), (Nat.le_of_ble_eq_true rfl)⟩) hS (fun r z1 H locs hz hP hS => ?_)
  exact ret r z1 H locs 10 ls hz hP hS d_R_lowered_10
abbrev rm_c_shift : Room := { frames := 4, cells := 0, slots := 0, locals := 108 }
set_option maxHeartbeats 4000000 in
set_option maxRecDepth 100000 in
/-- shift(x, y) -/
theorem c_shift (l : Launch) (D : va_G) (ct : Nat → ClassId) (st ke : Nat → Nat) (b N : Nat) (u : Nat → va_E) (hN : 236 ≤ N) (K : Ky) (n v : Nat) (msg : Int → Int) (G : Int → Gt) (V : Int → Val) (hC : CS ct b ke u K n v msg G V) (hI : PI n v msg G V) (x y : Int) (hx0 : r32 x) (hy0 : r32 y) : Met l y_R_shift (w_R_shift) rm_c_shift (va_Pc [.ref (b + 0), .int (iI (x)), .int (iI (y))] (fun U => ev D ct st ke b U ∧ va_P D vwCl (wl N b u) U.heap)) (va_Qi (fun (r : Int32) (z : Nat → va_E) => ((0 ≤ y ∧ y < 16) ∧ canA n x x ∧ r = iI (n : Int) ∧ CS ct b ke z K (n + 1) v msg (addG G n (4, x, x, y, gpl 4 (G x).2.2.2.2 (G x).2.2.2.2 y)) V ∧ ∀ j : Nat, 236 ≤ j → z j = u j) ∨ (¬ ((0 ≤ y ∧ y < 16) ∧ canA n x x) ∧ r = iI (-1) ∧ u = z)) (fun (z : Nat → va_E) t => va_P D vwCl (wl (N) b (z)) t.heap) (AA b)) 0 0 (AA b) := by
  refine M_i (cc := c9_R_shift) (maxL := 3) (by decide) rfl (Nat.le_of_ble_eq_true rfl) ?_
  intro p e s m args below meth c Q ls H locs hx hb hml hown hts hnm E hP hS hl ret
  have hl : lv_has ls 3 [(0, .ref (b + 0)), (1, .int (iI (x))), (2, .int (iI (y)))] := hl
  have hK := ev_K E
  have kk0 := hts (.fieldLink "LevelledRing" 117 "LevelledRing$Kind" "SHIFT" "LLevelledRing$Kind;") (List.mem_cons_of_mem _ t_292)
  refine lv_iload_n hx hb d_R_shift_0 rfl (lv_at hl 2 rfl) ?_
  refine x_if_lt (tgt := 10) hx hb hy0 d_R_shift_1 (by decide) (fun hc => ?_) (fun hc => ?_)
  · refine lv_iconst (v := iI (-1)) hx hb d_R_shift_10 rfl ?_
    exact ret _ u H locs 11 ls (Or.inr ⟨fun h => by have := h.1; omega, rfl, rfl⟩) hP hS d_R_shift_11
  · refine lv_iload_n hx hb d_R_shift_4 rfl (lv_at hl 2 rfl) ?_
    refine lv_bipush (v := iI (16)) hx hb d_R_shift_5 (by decide +kernel) ?_
    refine x_icmp_lt (tgt := 12) hx hb hy0 ⟨by omega, by omega⟩ d_R_shift_7 (by decide) (fun hc => ?_) (fun hc => ?_)
    · refine lv_aload_n hx hb d_R_shift_12 rfl (lv_at hl 0 rfl) ?_
      refine va_gets hx hb ((ev_E E).1 4 (by decide)).1 hS hown kk0 (fun _ h => h) d_R_shift_13 ?_
      refine lv_iload_n hx hb d_R_shift_16 rfl (lv_at hl 1 rfl) ?_
      refine lv_iload_n hx hb d_R_shift_17 rfl (lv_at hl 1 rfl) ?_
      refine lv_iload_n hx hb d_R_shift_18 rfl (lv_at hl 2 rfl) ?_
      refine w_calli (va_runV (As := [.ref (ke 4), .int (iI (x)), .int (iI (x)), .int (iI (y))]) (rest := []) ⟨hx, hb, hml, hown, hts⟩ (c_addGate l D ct st ke b N u hN K n v msg G V hC hI 4 (by decide) (by decide) x x y hx0 hx0 (fun _ => by omega)) (cwV 4 hts (gV t_244 t_246 (tb_sel ((y_R_addGate), 11) (List.mem_of_getElem? (i := 2) (by decide +kernel))) t_1 t_247) rfl rfl rfl (by decide +kernel) ⟨Nat.le_of_ble_eq_true rfl, Nat.le_of_ble_eq_true rfl⟩) (pre_V E hP hS (0) (by omega) hC.1 rfl) rfl rfl hl.1 rfl (lv_room (Nat.le_of_ble_eq_true rfl)) d_R_shift_19 ⟨(Nat.le_of_ble_eq_true rfl), (Nat.le_of_ble_eq_true rfl)⟩) hS (fun r z1 H locs hz hP hS => ?_)
      rcases hz with hz | hz
      · exact ret r z1 H locs 22 ls (Or.inl ⟨by omega, hz⟩) hP hS d_R_shift_22
      · exact ret r z1 H locs 22 ls (Or.inr ⟨fun h => hz.1 h.2, hz.2⟩) hP hS d_R_shift_22
    · refine lv_iconst (v := iI (-1)) hx hb d_R_shift_10 rfl ?_
      exact ret _ u H locs 11 ls (Or.inr ⟨fun h => by have := h.1; omega, rfl, rfl⟩) hP hS d_R_shift_11
abbrev rm_c_cut : Room := { frames := 1, cells := 0, slots := 0, locals := 40 }
set_option maxHeartbeats 4000000 in
set_option maxRecDepth 100000 in
/-- cut(x) -/
theorem c_cut (l : Launch) (D : va_G) (ct : Nat → ClassId) (st ke : Nat → Nat) (b N : Nat) (u : Nat → va_E) (hN : 236 ≤ N) (K : Ky) (n v : Nat) (msg : Int → Int) (G : Int → Gt) (V : Int → Val) (hC : CS ct b ke u K n v msg G V) (hI : PI n v msg G V) (x : Int) (hx0 : r32 x) : Met l y_R_cut (w_R_cut) rm_c_cut (va_Pc [.ref (b + 0), .int (iI (x))] (fun U => ev D ct st ke b U ∧ va_P D vwCl (wl N b u) U.heap)) (va_Qi (fun (r : Int32) (z : Nat → va_E) => ((0 ≤ x ∧ x < n) ∧ r = iI 1 ∧ CS ct b ke z K x.toNat (min v x.toNat) msg G V ∧ ∀ j : Nat, 236 ≤ j → z j = u j) ∨ (¬ (0 ≤ x ∧ x < n) ∧ r = iI 0 ∧ u = z)) (fun (z : Nat → va_E) t => va_P D vwCl (wl (N) b (z)) t.heap) (AA b)) 0 0 (AA b) := by
  refine M_z (cc := c9_R_cut) (maxL := 2) (by decide) rfl (Nat.le_of_ble_eq_true rfl) ?_
  intro p e s m args below meth c Q ls H locs hx hb hml hown hts hnm E hP hS hl ret
  have hl : lv_has ls 2 [(0, .ref (b + 0)), (1, .int (iI (x)))] := hl
  have hK := ev_K E
  have kk0 := hts (.fieldLink "LevelledRing" 31 "LevelledRing" "gateCount" "I") (List.mem_cons_of_mem _ t_177)
  have hinR : ∀ w ∈ u_ws "LevelledRing" T_R 11, w ∈ (w_R_cut) := hin_R _
  have kk2 := hts (.fieldLink "LevelledRing" 35 "LevelledRing" "valueCount" "I") (List.mem_cons_of_mem _ t_178)
  have kk3 := hts (.methodLink "LevelledRing" 126 Lib.Math.min.name) (List.mem_cons_of_mem _ t_308)
  have kk4 := hts (.static Lib.Math.min.name) (List.mem_cons_of_mem _ t_229)
  have kk5 := hts (.initialized "java/lang/Math") (List.mem_cons_of_mem _ t_10)
  have kk6 := hts (.code Lib.Math.min.name Lib.Math.min.code 2 (some .int)) (List.mem_cons_of_mem _ t_230)
  have fr0 : ∀ j : Nat, (j ≠ 0) → u j = u j := fun _ _ => rfl
  have hn24 := hI.1
  have hvn := hI.2.1
  obtain ⟨hO, hSC, hSV, ⟨gf, hgr, hgf⟩, hKS, hGC⟩ := hC
  refine lv_aload_n hx hb d_R_cut_0 rfl (lv_at hl 0 rfl) ?_
  refine lv_iload_n hx hb d_R_cut_1 rfl (lv_at hl 1 rfl) ?_
  refine w_calli (va_runV (As := [.int (iI (x))]) (rest := []) ⟨hx, hb, hml, hown, hts⟩ (c_isGate l D ct st ke b N u (by omega) n v (by omega) (by omega) hO (x) hx0) (cwV 1 hts (gV t_248 t_250 (tb_sel ((y_R_isGate), 11) (List.mem_of_getElem? (i := 3) (by decide +kernel))) t_1 t_251) rfl rfl rfl (by decide +kernel) ⟨Nat.le_of_ble_eq_true rfl, Nat.le_of_ble_eq_true rfl⟩) (pre_V E hP hS (0) (by omega) hO rfl) rfl rfl hl.1 rfl (lv_room (Nat.le_of_ble_eq_true rfl)) d_R_cut_2 ⟨(Nat.le_of_ble_eq_true rfl), (Nat.le_of_ble_eq_true rfl)⟩) hS (fun r2 z1 H locs hz hP hS => ?_)
  obtain ⟨rfl, rfl⟩ := hz
  have hi01 := inb_01 (x) (n : Int)
  refine x_if_ne (tgt := 10) hx hb ⟨by omega, by omega⟩ d_R_cut_5 (by decide) (fun hc => ?_) (fun hc => ?_)
  · have hxv := inb_n hc
    obtain ⟨g, rfl⟩ := Int.eq_ofNat_of_zero_le hxv.1
    refine lv_aload_n hx hb d_R_cut_10 rfl (lv_at hl 0 rfl) ?_
    refine lv_iload_n hx hb d_R_cut_11 rfl (lv_at hl 1 rfl) ?_
    refine w_put (C := "LevelledRing") (T := T_R) (M := 11) (ty := .int) (v := .int (iI ((g : Int)))) hx hb hts hinR ty_R tyok_R nm_R hown hK hP hS (0) (by omega) hO rfl 4 (by decide) kk0 (fun _ h => h) rfl (by decide +kernel) rfl rfl (Nat.le_of_ble_eq_true rfl) d_R_cut_12 (fun H locs hP hS => ?_)
    obtain ⟨u3, hu4, hP⟩ : ∃ zz : Nat → va_E, zz = va_up u 0 (.inr (5, [.ref (b + 1), .ref (b + 21), .ref (b + 2), .ref (b + 4), .int (iI ((g : Int))), .int (iI ((v : Int))), .ref (b + 5), .ref (b + 10), .ref (b + 15), .ref (b + 17), .ref (b + 19)])) ∧ va_P D vwCl (wl N b zz) H := ⟨_, rfl, hP⟩
    have ff5 : u3 0 = .inr (5, [.ref (b + 1), .ref (b + 21), .ref (b + 2), .ref (b + 4), .int (iI ((g : Int))), .int (iI ((v : Int))), .ref (b + 5), .ref (b + 10), .ref (b + 15), .ref (b + 17), .ref (b + 19)]) := (congrFun hu4 _).trans up_s
    have ff6 : u3 4 = qr ct 3 24 (gf) := (congrFun hu4 _).trans ((up_n (by omega)).trans hgr)
    have fr7 : ∀ j : Nat, (j ≠ 0) → u3 j = u j := fun j h0 => (congrFun hu4 j).trans ((up_n (by omega)).trans (fr0 j h0))
    refine lv_aload_n hx hb d_R_cut_15 rfl (lv_at hl 0 rfl) ?_
    refine lv_aload_n hx hb d_R_cut_16 rfl (lv_at hl 0 rfl) ?_
    refine w_get (C := "LevelledRing") (T := T_R) (M := 11) hx hb hts hinR hown hK hP (0) (by omega) ff5 rfl 5 (by decide) kk2 (fun _ h => h) rfl d_R_cut_17 ?_
    refine lv_iload_n hx hb d_R_cut_20 rfl (lv_at hl 1 rfl) ?_
    refine va_mmin hx hb (hml.trans hl.1.symm) hown kk3 kk4 kk5 kk6 (Nat.le_of_ble_eq_true rfl) (Nat.le_of_ble_eq_true rfl) (Nat.zero_le _) (Nat.zero_le _) d_R_cut_21 ?_
    refine x_i (y := iI ((min v g : Nat) : Int)) (by by_cases h : (g : Int) < v; (rw [if_pos ((iI_lt ⟨by omega, by omega⟩ ⟨by omega, by omega⟩).mpr h), Nat.min_eq_right (by omega)]); (rw [if_neg (fun e => h ((iI_lt ⟨by omega, by omega⟩ ⟨by omega, by omega⟩).mp e)), Nat.min_eq_left (by omega)])) ?_
    refine w_put (C := "LevelledRing") (T := T_R) (M := 11) (ty := .int) (v := .int (iI (((min v g : Nat) : Int)))) hx hb hts hinR ty_R tyok_R nm_R hown hK hP hS (0) (by omega) ff5 rfl 5 (by decide) kk2 (fun _ h => h) rfl (by decide +kernel) rfl rfl (Nat.le_of_ble_eq_true rfl) d_R_cut_24 (fun H locs hP hS => ?_)
    obtain ⟨u8, hu9, hP⟩ : ∃ zz : Nat → va_E, zz = va_up u3 0 (.inr (5, [.ref (b + 1), .ref (b + 21), .ref (b + 2), .ref (b + 4), .int (iI ((g : Int))), .int (iI (((min v g : Nat) : Int))), .ref (b + 5), .ref (b + 10), .ref (b + 15), .ref (b + 17), .ref (b + 19)])) ∧ va_P D vwCl (wl N b zz) H := ⟨_, rfl, hP⟩
    have ff10 : u8 0 = .inr (5, [.ref (b + 1), .ref (b + 21), .ref (b + 2), .ref (b + 4), .int (iI ((g : Int))), .int (iI (((min v g : Nat) : Int))), .ref (b + 5), .ref (b + 10), .ref (b + 15), .ref (b + 17), .ref (b + 19)]) := (congrFun hu9 _).trans up_s
    have ff11 : u8 4 = qr ct 3 24 (gf) := (congrFun hu9 _).trans ((up_n (by omega)).trans ff6)
    have fr12 : ∀ j : Nat, (j ≠ 0) → u8 j = u j := fun j h0 => (congrFun hu9 j).trans ((up_n (by omega)).trans (fr7 j h0))
    refine lv_iconst (v := iI (1)) hx hb d_R_cut_27 rfl ?_
    refine ret 1 u8 H locs 28 ls (Or.inr rfl) (Or.inl ⟨hxv, rfl, ⟨ff10, hSC.of fun j h1 h2 h3 h4 h5 => fr12 j (by omega), hSV.of fun j h1 h2 => fr12 j (by omega), ⟨gf, ff11, hgf⟩, hKS.of fun j h1 h2 => fr12 j (by omega), ?_⟩, fun j h1 => fr12 j (by omega)⟩) hP hS d_R_cut_28
    have hG2 := hGC.of (z := u8) hn24 (by omega) fun j h1 h2 => fr12 j (by omega)
    exact ⟨hG2.1, fun i hi => hG2.2.1 i (by have : i < g := hi; omega), fun i hi => hG2.2.2 i (by have : i < min v g := hi; omega)⟩
  · refine lv_iconst (v := iI (0)) hx hb d_R_cut_8 rfl ?_
    exact ret 0 u H locs 9 ls (Or.inl rfl) (Or.inr ⟨inb_z hc, rfl, rfl⟩) hP hS d_R_cut_9
abbrev rm_c_secret : Room := { frames := 3, cells := 0, slots := 0, locals := 72 }
set_option maxHeartbeats 4000000 in
set_option maxRecDepth 100000 in
/-- secret(x) -/
theorem c_secret (l : Launch) (D : va_G) (ct : Nat → ClassId) (st ke : Nat → Nat) (b N : Nat) (u : Nat → va_E) (hN : 236 ≤ N) (K : Ky) (n v : Nat) (msg : Int → Int) (G : Int → Gt) (V : Int → Val) (hC : CS ct b ke u K n v msg G V) (hI : PI n v msg G V) (hK1 : ∀ i : Int, -1 ≤ K.1 i ∧ K.1 i ≤ 1) (x : Int) (hx0 : r32 x) : Met l y_R_secret (w_R_secret) rm_c_secret (va_Pc [.ref (b + 0), .int (iI (x))] (fun U => ev D ct st ke b U ∧ va_P D vwCl (wl N b u) U.heap)) (va_Qi (fun (r : Int32) (z : Nat → va_E) => r = iI (if 0 ≤ x ∧ x < 8 then K.1 x else 0) ∧ u = z) (fun (z : Nat → va_E) t => va_P D vwCl (wl (N) b (z)) t.heap) (AA b)) 0 0 (AA b) := by
  refine M_i (cc := c9_R_secret) (maxL := 2) (by decide) rfl (Nat.le_of_ble_eq_true rfl) ?_
  intro p e s m args below meth c Q ls H locs hx hb hml hown hts hnm E hP hS hl ret
  have hl : lv_has ls 2 [(0, .ref (b + 0)), (1, .int (iI (x)))] := hl
  have hK := ev_K E
  have kk0 := hts (.fieldLink "LevelledRing" 66 "LevelledRing" "keys" "LLevelledRing$Keys;") (List.mem_cons_of_mem _ t_174)
  have hinR : ∀ w ∈ u_ws "LevelledRing" T_R 11, w ∈ (w_R_secret) := hin_R _
  have kk2 := hts (.fieldLink "LevelledRing" 176 "LevelledRing$Keys" "secret" "LLevelledRing$Poly;") (List.mem_cons_of_mem _ t_125)
  have hinK : ∀ w ∈ u_ws "LevelledRing$Keys" T_K 3, w ∈ (w_R_secret) := hin_K _
  have hn24 := hI.1
  have hvn := hI.2.1
  obtain ⟨hO, hSC, hSV, ⟨gf, hgr, hgf⟩, hKS, hGC⟩ := hC
  obtain ⟨ks0, ⟨ks1, gs, ks2, ks3⟩, -⟩ := hKS
  refine lv_iload_n hx hb d_R_secret_0 rfl (lv_at hl 1 rfl) ?_
  refine w_calli (va_runS (As := [.int (iI (x))]) (rest := []) ⟨hx, hb, hml, hown, hts⟩ (c_isC l D ct st ke b N u (x) hx0) (cwS 1 hts (gS t_211 t_212 t_1 t_213) rfl rfl rfl (by decide +kernel) ⟨Nat.le_of_ble_eq_true rfl, Nat.le_of_ble_eq_true rfl⟩) (pre_S E hP hS) rfl rfl hl.1 rfl (lv_room (Nat.le_of_ble_eq_true rfl)) d_R_secret_1 ⟨(Nat.le_of_ble_eq_true rfl), (Nat.le_of_ble_eq_true rfl)⟩) hS (fun r2 z1 H locs hz hP hS => ?_)
  obtain ⟨rfl, rfl⟩ := hz
  have hi01 := inb_01 (x) 8
  refine x_if_eq (tgt := 23) hx hb ⟨by omega, by omega⟩ d_R_secret_4 (by decide) (fun hc => ?_) (fun hc => ?_)
  · refine lv_iconst (v := iI (0)) hx hb d_R_secret_23 rfl ?_
    refine x_ie (y := if 0 ≤ x ∧ x < 8 then K.1 x else 0) (by rw [if_neg (inb_z hc)]) ?_
    exact ret _ u H locs 24 ls ⟨rfl, rfl⟩ hP hS d_R_secret_24
  · have hxv := inb_n hc
    refine lv_aload_n hx hb d_R_secret_7 rfl (lv_at hl 0 rfl) ?_
    refine w_get (C := "LevelledRing") (T := T_R) (M := 11) hx hb hts hinR hown hK hP (0) (by omega) hO rfl 1 (by decide) kk0 (fun _ h => h) rfl d_R_secret_8 ?_
    refine w_get (C := "LevelledRing$Keys") (T := T_K) (M := 3) hx hb hts hinK hown hK hP (21) (by omega) ks0 rfl 0 (by decide) kk2 (fun _ h => h) rfl d_R_secret_11 ?_
    refine lv_iload_n hx hb d_R_secret_14 rfl (lv_at hl 1 rfl) ?_
    refine lv_iconst (v := iI (0)) hx hb d_R_secret_15 rfl ?_
    refine w_calll (va_runV (As := [.int (iI (x)), .int (iI (0))]) (rest := []) ⟨hx, hb, hml, hown, hts⟩ (c_centredC l D ct st ke b N u 22 32 gs (by omega) (by decide) ks1 ks2 x 0 hxv.1 hxv.2 (by decide) (by decide) (by decide) K.1 (ks3.down (by decide))) (cwV 2 hts (gV t_421 t_422 t_423 t_3 t_424) rfl rfl rfl (by decide +kernel) ⟨Nat.le_of_ble_eq_true rfl, Nat.le_of_ble_eq_true rfl⟩) (pre_V E hP hS (22) (by omega) ks1 rfl) rfl rfl hl.1 rfl (lv_room (Nat.le_of_ble_eq_true rfl)) d_R_secret_16 ⟨(Nat.le_of_ble_eq_true rfl), (Nat.le_of_ble_eq_true rfl)⟩) hS (fun r4 z3 H locs hz hP hS => ?_)
    obtain ⟨rfl, rfl⟩ := hz
    refine x_l2i hx hb d_R_secret_19 ?_
    refine lv_goto (tgt := 24) hx hb d_R_secret_20 (by decide) ?_
    refine x_ie (y := if 0 ≤ x ∧ x < 8 then K.1 x else 0) (by rw [if_pos hxv]; have h9 := hK1 x; show cen (K.1 x % 32369) 32369 = K.1 x; unfold cen; split <;> omega) ?_
    exact ret _ u H locs 24 ls ⟨rfl, rfl⟩ hP hS d_R_secret_24
abbrev rm_c_part : Room := { frames := 2, cells := 0, slots := 0, locals := 50 }
set_option maxHeartbeats 4000000 in
set_option maxRecDepth 100000 in
/-- part(x, y, t) -/
theorem c_part (l : Launch) (D : va_G) (ct : Nat → ClassId) (st ke : Nat → Nat) (b N : Nat) (u : Nat → va_E) (hN : 236 ≤ N) (K : Ky) (n v : Nat) (msg : Int → Int) (G : Int → Gt) (V : Int → Val) (hC : CS ct b ke u K n v msg G V) (hI : PI n v msg G V) (x y t : Int) (hx0 : r32 x) (hy0 : r32 y) (ht0 : r32 t) : Met l y_R_part (w_R_part) rm_c_part (va_Pc [.ref (b + 0), .int (iI (x)), .int (iI (y)), .int (iI (t))] (fun U => ev D ct st ke b U ∧ va_P D vwCl (wl N b u) U.heap)) (va_Ql (fun (r : Int64) (z : Nat → va_E) => r = lI (if (0 ≤ x ∧ x < v) ∧ (0 ≤ y ∧ y ≤ 1) ∧ 0 ≤ t ∧ t < 8 then (if y = 0 then (V x).2.2.1 t else (V x).2.2.2 t) else -1) ∧ u = z) (fun (z : Nat → va_E) t => va_P D vwCl (wl (N) b (z)) t.heap) (AA b)) 0 0 (AA b) := by
  refine M_l (cc := c9_R_part) (maxL := 6) (by decide) rfl (Nat.le_of_ble_eq_true rfl) ?_
  intro p e s m args below meth c Q ls H locs hx hb hml hown hts hnm E hP hS hl ret
  have hl : lv_has ls 6 [(0, .ref (b + 0)), (1, .int (iI (x))), (2, .int (iI (y))), (3, .int (iI (t)))] := hl
  have hK := ev_K E
  have kk0 := hts (.constantLong "LevelledRing" 149 (-1)) (List.mem_cons_of_mem _ t_412)
  have kk1 := hts (.fieldLink "LevelledRing" 27 "LevelledRing" "gates" "[LLevelledRing$Gate;") (List.mem_cons_of_mem _ t_176)
  have hinR : ∀ w ∈ u_ws "LevelledRing" T_R 11, w ∈ (w_R_part) := hin_R _
  have kk3 := hts (.fieldLink "LevelledRing" 139 "LevelledRing$Gate" "value" "LLevelledRing$Value;") (List.mem_cons_of_mem _ t_159)
  have hinG : ∀ w ∈ u_ws "LevelledRing$Gate" T_G 6, w ∈ (w_R_part) := hin_G _
  have kk5 := hts (.fieldLink "LevelledRing" 170 "LevelledRing$Value" "c1" "LLevelledRing$Poly;") (List.mem_cons_of_mem _ t_63)
  have hinV : ∀ w ∈ u_ws "LevelledRing$Value" T_V 4, w ∈ (w_R_part) := hin_V _
  have kk7 := hts (.fieldLink "LevelledRing" 142 "LevelledRing$Value" "level" "I") (List.mem_cons_of_mem _ t_57)
  have kk8 := hts (.fieldLink "LevelledRing" 167 "LevelledRing$Value" "c0" "LLevelledRing$Poly;") (List.mem_cons_of_mem _ t_61)
  have hn24 := hI.1
  have hvn := hI.2.1
  obtain ⟨hO, hSC, hSV, ⟨gf, hgr, hgf⟩, hKS, hGC⟩ := hC
  refine lv_aload_n hx hb d_R_part_0 rfl (lv_at hl 0 rfl) ?_
  refine lv_iload_n hx hb d_R_part_1 rfl (lv_at hl 1 rfl) ?_
  refine w_calli (va_runV (As := [.int (iI (x))]) (rest := []) ⟨hx, hb, hml, hown, hts⟩ (c_hasValue l D ct st ke b N u (by omega) n v (by omega) (by omega) hO (x) hx0) (cwV 1 hts (gV t_404 t_406 (tb_sel ((y_R_hasValue), 11) (List.mem_of_getElem? (i := 12) (by decide +kernel))) t_1 t_407) rfl rfl rfl (by decide +kernel) ⟨Nat.le_of_ble_eq_true rfl, Nat.le_of_ble_eq_true rfl⟩) (pre_V E hP hS (0) (by omega) hO rfl) rfl rfl hl.1 rfl (lv_room (Nat.le_of_ble_eq_true rfl)) d_R_part_2 ⟨(Nat.le_of_ble_eq_true rfl), (Nat.le_of_ble_eq_true rfl)⟩) hS (fun r2 z1 H locs hz hP hS => ?_)
  obtain ⟨rfl, rfl⟩ := hz
  have hi01 := inb_01 (x) (v : Int)
  refine x_if_eq (tgt := 24) hx hb ⟨by omega, by omega⟩ d_R_part_5 (by decide) (fun hc => ?_) (fun hc => ?_)
  · refine lv_ldc2 hx hb hown kk0 d_R_part_24 ?_
    refine x_l (y := lI (-1)) (by decide +kernel) ?_
    refine x_le (y := if (0 ≤ x ∧ x < v) ∧ (0 ≤ y ∧ y ≤ 1) ∧ 0 ≤ t ∧ t < 8 then (if y = 0 then (V x).2.2.1 t else (V x).2.2.2 t) else -1) (by rw [if_neg (fun h => inb_z hc h.1)]) ?_
    exact ret _ u H locs 27 ls ⟨rfl, rfl⟩ hP hS d_R_part_27
  · have hxv := inb_n hc
    refine lv_iload_n hx hb d_R_part_8 rfl (lv_at hl 2 rfl) ?_
    refine x_if_lt (tgt := 24) hx hb hy0 d_R_part_9 (by decide) (fun hc => ?_) (fun hc => ?_)
    · refine lv_ldc2 hx hb hown kk0 d_R_part_24 ?_
      refine x_l (y := lI (-1)) (by decide +kernel) ?_
      refine x_le (y := if (0 ≤ x ∧ x < v) ∧ (0 ≤ y ∧ y ≤ 1) ∧ 0 ≤ t ∧ t < 8 then (if y = 0 then (V x).2.2.1 t else (V x).2.2.2 t) else -1) (by rw [if_neg (fun h => by have := h.2.1; omega)]) ?_
      exact ret _ u H locs 27 ls ⟨rfl, rfl⟩ hP hS d_R_part_27
    · refine lv_iload_n hx hb d_R_part_12 rfl (lv_at hl 2 rfl) ?_
      refine lv_iconst (v := iI (1)) hx hb d_R_part_13 rfl ?_
      refine x_icmp_gt (tgt := 24) hx hb hy0 ⟨by omega, by omega⟩ d_R_part_14 (by decide) (fun hc => ?_) (fun hc => ?_)
      · refine lv_ldc2 hx hb hown kk0 d_R_part_24 ?_
        refine x_l (y := lI (-1)) (by decide +kernel) ?_
        refine x_le (y := if (0 ≤ x ∧ x < v) ∧ (0 ≤ y ∧ y ≤ 1) ∧ 0 ≤ t ∧ t < 8 then (if y = 0 then (V x).2.2.1 t else (V x).2.2.2 t) else -1) (by rw [if_neg (fun h => by have := h.2.1; omega)]) ?_
        exact ret _ u H locs 27 ls ⟨rfl, rfl⟩ hP hS d_R_part_27
      · refine lv_iload_n hx hb d_R_part_17 rfl (lv_at hl 3 rfl) ?_
        refine w_calli (va_runS (As := [.int (iI (t))]) (rest := []) ⟨hx, hb, hml, hown, hts⟩ (c_isC l D ct st ke b N u (t) ht0) (cwS 1 hts (gS t_211 t_212 t_1 t_213) rfl rfl rfl (by decide +kernel) ⟨Nat.le_of_ble_eq_true rfl, Nat.le_of_ble_eq_true rfl⟩) (pre_S E hP hS) rfl rfl hl.1 rfl (lv_room (Nat.le_of_ble_eq_true rfl)) d_R_part_18 ⟨(Nat.le_of_ble_eq_true rfl), (Nat.le_of_ble_eq_true rfl)⟩) hS (fun r4 z3 H locs hz hP hS => ?_)
        obtain ⟨rfl, rfl⟩ := hz
        have hi01 := inb_01 (t) 8
        refine x_if_ne (tgt := 28) hx hb ⟨by omega, by omega⟩ d_R_part_21 (by decide) (fun hc => ?_) (fun hc => ?_)
        · have htv := inb_n hc
          obtain ⟨g, rfl⟩ := Int.eq_ofNat_of_zero_le hxv.1
          obtain ⟨hg0, hg1, gp, hg2, hg3⟩ := hGC.2.1 g (by omega)
          have hv := hGC.2.2 g (by omega)
          rw [show 47 + 8 * g = 44 + 8 * g + 3 by omega] at hv
          obtain ⟨v0, v1, hVR, hR0, hR1⟩ := hv
          have okv := hI.2.2.2.2 g (by omega)
          have okl0 := okv.1.1
          have okl3 := okv.1.2.1
          refine lv_aload_n hx hb d_R_part_28 rfl (lv_at hl 0 rfl) ?_
          refine w_get (C := "LevelledRing") (T := T_R) (M := 11) hx hb hts hinR hown hK hP (0) (by omega) hO rfl 3 (by decide) kk1 (fun _ h => h) rfl d_R_part_29 ?_
          refine lv_iload_n hx hb d_R_part_32 rfl (lv_at hl 1 rfl) ?_
          refine w_aald (r := b + (44 + 8 * g)) hx hb hK hP (4) (by omega) 3 hgr rfl (by omega) (by omega) (by decide) (hgf g (by omega)) d_R_part_33 ?_
          refine w_get (C := "LevelledRing$Gate") (T := T_G) (M := 6) hx hb hts hinG hown hK hP (44 + 8 * g) (by omega) hg0 rfl 5 (by decide) kk3 (fun _ h => h) rfl d_R_part_34 ?_
          refine lv_astore (lv' := [(4, .ref (b + (44 + 8 * g + 3))), (0, .ref (b + 0)), (1, .int (iI ((g : Int)))), (2, .int (iI (y))), (3, .int (iI (t)))]) hx hb d_R_part_37 hl (by decide) rfl (fun ls hl => ?_)
          refine lv_iload_n hx hb d_R_part_39 rfl (lv_at hl 3 rfl) ?_
          refine x_if_ne (tgt := 51) hx hb hy0 d_R_part_40 (by decide) (fun hc => ?_) (fun hc => ?_)
          · refine lv_aload hx hb d_R_part_51 (lv_at hl 0 rfl) ?_
            refine w_get (C := "LevelledRing$Value") (T := T_V) (M := 4) hx hb hts hinV hown hK hP (44 + 8 * g + 3) (by omega) hVR.1 rfl 3 (by decide) kk5 (fun _ h => h) rfl d_R_part_53 ?_
            refine lv_astore (lv' := [(5, .ref (b + (44 + 8 * g + 6))), (4, .ref (b + (44 + 8 * g + 3))), (0, .ref (b + 0)), (1, .int (iI ((g : Int)))), (2, .int (iI (y))), (3, .int (iI (t)))]) hx hb d_R_part_56 hl (by decide) rfl (fun ls hl => ?_)
            refine lv_aload hx hb d_R_part_58 (lv_at hl 0 rfl) ?_
            refine lv_iload_n hx hb d_R_part_60 rfl (lv_at hl 5 rfl) ?_
            refine lv_aload hx hb d_R_part_61 (lv_at hl 1 rfl) ?_
            refine w_get (C := "LevelledRing$Value") (T := T_V) (M := 4) hx hb hts hinV hown hK hP (44 + 8 * g + 3) (by omega) hVR.1 rfl 0 (by decide) kk7 (fun _ h => h) rfl d_R_part_63 ?_
            refine w_calll (va_runV (As := [.int (iI (t)), .int (iI ((V g).1))]) (rest := []) ⟨hx, hb, hml, hown, hts⟩ (c_whole l D ct st ke b N u (44 + 8 * g + 6) 32 v1 (by omega) (by decide) hVR.2.2.2.1 hVR.2.2.2.2 t (V g).1 htv.1 htv.2 okl0 okl3 (by omega) (V g).2.2.2 hR1) (cwV 2 hts (gV t_442 t_426 t_427 t_3 t_428) rfl rfl rfl (by decide +kernel) ⟨Nat.le_of_ble_eq_true rfl, Nat.le_of_ble_eq_true rfl⟩) (pre_V E hP hS (44 + 8 * g + 6) (by omega) hVR.2.2.2.1 rfl) rfl rfl hl.1 rfl (lv_room (Nat.le_of_ble_eq_true rfl)) d_R_part_66 ⟨(Nat.le_of_ble_eq_true rfl), (Nat.le_of_ble_eq_true rfl)⟩) hS (fun r6 z5 H locs hz hP hS => ?_)
            obtain ⟨rfl, rfl⟩ := hz
            refine x_le (y := if (0 ≤ (g : Int) ∧ (g : Int) < v) ∧ (0 ≤ y ∧ y ≤ 1) ∧ 0 ≤ t ∧ t < 8 then (if y = 0 then (V (g : Int)).2.2.1 t else (V (g : Int)).2.2.2 t) else -1) (by rw [if_pos ⟨hxv, by omega, htv⟩, if_neg (by omega)]; exact Int.emod_eq_of_lt (okv.2.2 t htv.1 htv.2).1 (okv.2.2 t htv.1 htv.2).2) ?_
            exact ret _ u H locs 69 ls ⟨rfl, rfl⟩ hP hS d_R_part_69
          · refine lv_aload hx hb d_R_part_43 (lv_at hl 0 rfl) ?_
            refine w_get (C := "LevelledRing$Value") (T := T_V) (M := 4) hx hb hts hinV hown hK hP (44 + 8 * g + 3) (by omega) hVR.1 rfl 2 (by decide) kk8 (fun _ h => h) rfl d_R_part_45 ?_
            refine lv_goto (tgt := 56) hx hb d_R_part_48 (by decide) ?_
            refine lv_astore (lv' := [(5, .ref (b + (44 + 8 * g + 4))), (4, .ref (b + (44 + 8 * g + 3))), (0, .ref (b + 0)), (1, .int (iI ((g : Int)))), (2, .int (iI (y))), (3, .int (iI (t)))]) hx hb d_R_part_56 hl (by decide) rfl (fun ls hl => ?_)
            refine lv_aload hx hb d_R_part_58 (lv_at hl 0 rfl) ?_
            refine lv_iload_n hx hb d_R_part_60 rfl (lv_at hl 5 rfl) ?_
            refine lv_aload hx hb d_R_part_61 (lv_at hl 1 rfl) ?_
            refine w_get (C := "LevelledRing$Value") (T := T_V) (M := 4) hx hb hts hinV hown hK hP (44 + 8 * g + 3) (by omega) hVR.1 rfl 0 (by decide) kk7 (fun _ h => h) rfl d_R_part_63 ?_
            refine w_calll (va_runV (As := [.int (iI (t)), .int (iI ((V g).1))]) (rest := []) ⟨hx, hb, hml, hown, hts⟩ (c_whole l D ct st ke b N u (44 + 8 * g + 4) 32 v0 (by omega) (by decide) hVR.2.1 hVR.2.2.1 t (V g).1 htv.1 htv.2 okl0 okl3 (by omega) (V g).2.2.1 hR0) (cwV 2 hts (gV t_442 t_426 t_427 t_3 t_428) rfl rfl rfl (by decide +kernel) ⟨Nat.le_of_ble_eq_true rfl, Nat.le_of_ble_eq_true rfl⟩) (pre_V E hP hS (44 + 8 * g + 4) (by omega) hVR.2.1 rfl) rfl rfl hl.1 rfl (lv_room (Nat.le_of_ble_eq_true rfl)) d_R_part_66 ⟨(Nat.le_of_ble_eq_true rfl), (Nat.le_of_ble_eq_true rfl)⟩) hS (fun r8 z7 H locs hz hP hS => ?_)
            obtain ⟨rfl, rfl⟩ := hz
            refine x_le (y := if (0 ≤ (g : Int) ∧ (g : Int) < v) ∧ (0 ≤ y ∧ y ≤ 1) ∧ 0 ≤ t ∧ t < 8 then (if y = 0 then (V (g : Int)).2.2.1 t else (V (g : Int)).2.2.2 t) else -1) (by rw [if_pos ⟨hxv, by omega, htv⟩, if_pos (by omega)]; exact Int.emod_eq_of_lt (okv.2.1 t htv.1 htv.2).1 (okv.2.1 t htv.1 htv.2).2) ?_
            exact ret _ u H locs 69 ls ⟨rfl, rfl⟩ hP hS d_R_part_69
        · refine lv_ldc2 hx hb hown kk0 d_R_part_24 ?_
          refine x_l (y := lI (-1)) (by decide +kernel) ?_
          refine x_le (y := if (0 ≤ x ∧ x < v) ∧ (0 ≤ y ∧ y ≤ 1) ∧ 0 ≤ t ∧ t < 8 then (if y = 0 then (V x).2.2.1 t else (V x).2.2.2 t) else -1) (by rw [if_neg (fun h => inb_z hc h.2.2)]) ?_
          exact ret _ u H locs 27 ls ⟨rfl, rfl⟩ hP hS d_R_part_27
