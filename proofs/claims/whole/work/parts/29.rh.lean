abbrev rm_c_giveValue : Room := { frames := 5, cells := 0, slots := 0, locals := 115 }
set_option maxHeartbeats 4000000 in
set_option maxRecDepth 100000 in
/-- giveValue(the gate v) -/
theorem c_giveValue (l : Launch) (D : va_G) (ct : Nat → ClassId) (st ke : Nat → Nat) (b N : Nat) (u : Nat → va_E) (hN : 236 ≤ N) (K : Ky) (n v : Nat) (msg : Int → Int) (G : Int → Gt) (V : Int → Val) (hC : CS ct b ke u K n v msg G V) (hI : PI n v msg G V) (hvl : v < n) : Met l y_R_giveValue (w_R_giveValue) rm_c_giveValue (va_Pc [.ref (b + 0), .ref (b + (44 + 8 * v))] (fun U => ev D ct st ke b U ∧ va_P D vwCl (wl N b u) U.heap)) (va_Qi (fun (r : Int32) (z : Nat → va_E) => ((∃ w, gv K V (G v) = some w ∧ r = iI 1 ∧ VV ct b z (47 + 8 * v) w) ∨ (gv K V (G v) = none ∧ r = iI 0 ∧ VS ct b z (47 + 8 * v))) ∧ SC ct b z ∧ ∀ j : Nat, (j = 0 ∨ (2 ≤ j ∧ j ≤ 4) ∨ (21 ≤ j ∧ (j < 47 + 8 * v ∨ 52 + 8 * v ≤ j))) → z j = u j) (fun (z : Nat → va_E) t => va_P D vwCl (wl (N) b (z)) t.heap) (AA b)) 0 0 (AA b) := by
  refine M_z (cc := c9_R_giveValue) (maxL := 2) (by decide) rfl (Nat.le_of_ble_eq_true rfl) ?_
  intro p e s m args below meth c Q ls H locs hx hb hml hown hts hnm E hP hS hl ret
  have hl : lv_has ls 2 [(0, .ref (b + 0)), (1, .ref (b + (44 + 8 * v)))] := hl
  have hK := ev_K E
  have kk0 := hts (.fieldLink "LevelledRing" 185 "LevelledRing$1" "$SwitchMap$LevelledRing$Kind" "[I") (List.mem_cons_of_mem _ t_255)
  have kk1 := hts (.fieldLink "LevelledRing" 190 "LevelledRing$Gate" "kind" "LLevelledRing$Kind;") (List.mem_cons_of_mem _ t_149)
  have hinG : ∀ w ∈ u_ws "LevelledRing$Gate" T_G 6, w ∈ (w_R_giveValue) := hin_G _
  have kk3 := hts (.fieldLink "LevelledRing" 139 "LevelledRing$Gate" "value" "LLevelledRing$Value;") (List.mem_cons_of_mem _ t_159)
  have kk4 := hts (.fieldLink "LevelledRing" 93 "LevelledRing$Gate" "plain" "LLevelledRing$Poly;") (List.mem_cons_of_mem _ t_157)
  have kk5 := hts (.fieldLink "LevelledRing" 207 "LevelledRing$Gate" "number" "I") (List.mem_cons_of_mem _ t_155)
  have kk6 := hts (.fieldLink "LevelledRing" 27 "LevelledRing" "gates" "[LLevelledRing$Gate;") (List.mem_cons_of_mem _ t_176)
  have hinR : ∀ w ∈ u_ws "LevelledRing" T_R 11, w ∈ (w_R_giveValue) := hin_R _
  have kk8 := hts (.fieldLink "LevelledRing" 229 "LevelledRing$Gate" "a" "I") (List.mem_cons_of_mem _ t_151)
  have fr0 : ∀ j : Nat, (j = 0 ∨ (2 ≤ j ∧ j ≤ 4) ∨ (21 ≤ j ∧ (j < 47 + 8 * v ∨ 52 + 8 * v ≤ j))) → u j = u j := fun _ _ => rfl
  have hn24 := hI.1
  have hvn := hI.2.1
  obtain ⟨hO, hSC, hSV, ⟨gf, hgr, hgf⟩, hKS, hGC⟩ := hC
  have hGR : GR ct b u := ⟨gf, hgr, hgf⟩
  obtain ⟨hg0, hg1, gp, hg2, hg3⟩ := hGC.2.1 v hvl
  obtain ⟨hk6, hpl, hop1, hop2, hop4⟩ := hI.2.2.2.1 v hvl
  have sv := (hGC.1 v (by omega)).2
  rw [show 47 + 8 * v = 44 + 8 * v + 3 by omega] at sv
  obtain ⟨s1, s5, s10, s15, s17, s19⟩ := hSC
  refine va_gets hx hb (ev_Z4 E) hS hown kk0 (fun _ h => h) d_R_giveValue_0 ?_
  refine lv_aload_n hx hb d_R_giveValue_3 rfl (lv_at hl 1 rfl) ?_
  refine w_get (C := "LevelledRing$Gate") (T := T_G) (M := 6) hx hb hts hinG hown hK hP (44 + 8 * v) (by omega) hg0 rfl 0 (by decide) kk1 (fun _ h => h) rfl d_R_giveValue_4 ?_
  refine w_calli (va_runU (As := []) (rest := [.ref (st 4)]) ⟨hx, hb, hml, hown, hts⟩ (c_ord l D ct st ke b N u ((G v).1) hk6) (va_cwU 0 hts g_ord rfl rfl rfl rfl (by decide +kernel) ⟨Nat.le_of_ble_eq_true rfl, Nat.le_of_ble_eq_true rfl⟩) (pre_E E hP hS hk6) rfl rfl hl.1 rfl (lv_room (Nat.le_of_ble_eq_true rfl)) d_R_giveValue_7 ⟨(Nat.le_of_ble_eq_true rfl), (Nat.le_of_ble_eq_true rfl)⟩) hS (fun r z H locs hz hP hS => ?_)
  obtain ⟨rfl, rfl⟩ := hz
  refine x_ti hx hb (ev_T4 E) hS (by omega) (by omega) (by decide) d_R_giveValue_10 ?_
  refine x_ie (y := ((G v).1 : Int)) (rfl) ?_
  rcases (show (G v).1 = 0 ∨ (G v).1 = 1 ∨ (G v).1 = 2 ∨ (G v).1 = 3 ∨ (G v).1 = 4 ∨ (G v).1 = 5 by omega) with hkd | hkd | hkd | hkd | hkd | hkd
  · refine x_ie (y := 0) (by rw [hkd]; rfl) ?_
    refine lv_tableOut (tgt := 180) hx hb d_R_giveValue_11 (by decide) (by decide) ?_
    refine lv_aload_n hx hb d_R_giveValue_180 rfl (lv_at hl 0 rfl) ?_
    refine lv_aload_n hx hb d_R_giveValue_181 rfl (lv_at hl 1 rfl) ?_
    refine w_get (C := "LevelledRing$Gate") (T := T_G) (M := 6) hx hb hts hinG hown hK hP (44 + 8 * v) (by omega) hg0 rfl 5 (by decide) kk3 (fun _ h => h) rfl d_R_giveValue_182 ?_
    refine lv_aload_n hx hb d_R_giveValue_185 rfl (lv_at hl 1 rfl) ?_
    refine w_get (C := "LevelledRing$Gate") (T := T_G) (M := 6) hx hb hts hinG hown hK hP (44 + 8 * v) (by omega) hg0 rfl 4 (by decide) kk4 (fun _ h => h) rfl d_R_giveValue_186 ?_
    refine lv_aload_n hx hb d_R_giveValue_189 rfl (lv_at hl 1 rfl) ?_
    refine w_get (C := "LevelledRing$Gate") (T := T_G) (M := 6) hx hb hts hinG hown hK hP (44 + 8 * v) (by omega) hg0 rfl 3 (by decide) kk5 (fun _ h => h) rfl d_R_giveValue_190 ?_
    obtain ⟨zd, hd1⟩ := s1
    refine w_callv (va_runV (As := [.ref (b + (44 + 8 * v + 3)), .ref (b + (44 + 8 * v + 1)), .int (iI ((G v).2.2.2.1))]) (rest := []) ⟨hx, hb, hml, hown, hts⟩ (c_hide l D ct st ke b N u hN K n v hO hKS zd hd1 (44 + 8 * v + 3) (by omega) (by omega) sv (44 + 8 * v + 1) (by omega) (by omega) (by omega) (G v).2.2.2.2 hpl ⟨hg1, gp, hg2, hg3⟩ (G v).2.2.2.1) (cwV 3 hts (gV t_390 t_392 (tb_sel ((y_R_hideMessage), 11) (List.mem_of_getElem? (i := 11) (by decide +kernel))) t_1 t_393) rfl rfl rfl (by decide +kernel) ⟨Nat.le_of_ble_eq_true rfl, Nat.le_of_ble_eq_true rfl⟩) (pre_V E hP hS (0) (by omega) hO rfl) rfl rfl hl.1 rfl (lv_room (Nat.le_of_ble_eq_true rfl)) d_R_giveValue_193 ⟨(Nat.le_of_ble_eq_true rfl), (Nat.le_of_ble_eq_true rfl)⟩) hS (fun z1 H locs hz hP hS => ?_)
    obtain ⟨w3, w4, hzf⟩ := hz
    have ff3 : z1 0 = .inr (5, [.ref (b + 1), .ref (b + 21), .ref (b + 2), .ref (b + 4), .int (iI ((n : Int))), .int (iI ((v : Int))), .ref (b + 5), .ref (b + 10), .ref (b + 15), .ref (b + 17), .ref (b + 19)]) := (hzf 0 (by omega) (by omega)).trans hO
    have ff4 : z1 4 = qr ct 3 24 (gf) := (hzf 4 (by omega) (by omega)).trans hgr
    have ff5 : z1 (44 + 8 * v) = .inr (1, [.ref (ke (G v).1), .int (iI ((G v).2.1)), .int (iI ((G v).2.2.1)), .int (iI ((G v).2.2.2.1)), .ref (b + (44 + 8 * v + 1)), .ref (b + (44 + 8 * v + 3))]) := (hzf (44 + 8 * v) (by omega) (by omega)).trans hg0
    have ff6 : z1 (44 + 8 * v + 1) = .inr (3, [.int (iI (1)), .ref (b + (44 + 8 * v + 2))]) := (hzf (44 + 8 * v + 1) (by omega) (by omega)).trans hg1
    have ff7 : z1 (44 + 8 * v + 2) = ir ct 8 (gp) := (hzf (44 + 8 * v + 2) (by omega) (by omega)).trans hg2
    have fr8 : ∀ j : Nat, (j = 0 ∨ (2 ≤ j ∧ j ≤ 4) ∨ (21 ≤ j ∧ (j < 47 + 8 * v ∨ 52 + 8 * v ≤ j))) → z1 j = u j := fun j h0 => (hzf j (by omega) (by omega)).trans (fr0 j h0)
    have s1 : ∃ x, u 1 = dr x := ⟨zd, hd1⟩
    have s1 : ∃ x, z1 1 = dr x := w4
    have s5 := s5.of (z := z1) fun j h0 h1 => hzf j (by omega) (by omega)
    have s10 := s10.of (z := z1) fun j h0 h1 => hzf j (by omega) (by omega)
    have s15 := s15.of (z := z1) fun j h0 h1 => hzf j (by omega) (by omega)
    have s17 := s17.of (z := z1) fun j h0 h1 => hzf j (by omega) (by omega)
    have s19 := s19.of (z := z1) fun j h0 h1 => hzf j (by omega) (by omega)
    refine lv_iconst (v := iI (1)) hx hb d_R_giveValue_196 rfl ?_
    refine ret 1 z1 H locs 197 ls (Or.inr rfl) ⟨?_, ⟨s1, s5, s10, s15, s17, s19⟩, fr8⟩ hP hS d_R_giveValue_197
    rw [show 47 + 8 * v = 44 + 8 * v + 3 by omega]
    exact Or.inl ⟨_, by unfold gv; rw [if_pos hkd], rfl, w3⟩
  · refine x_ie (y := 1) (by rw [hkd]; rfl) ?_
    refine lv_tableIn (off := 33) (tgt := 44) hx hb d_R_giveValue_11 (by decide) (by decide) (by decide) (by decide) ?_
    obtain ⟨ga, hga⟩ := Int.eq_ofNat_of_zero_le (hop1 (by omega)).1
    have hgal : ga < v := by have := (hop1 (by omega)).2; omega
    have hgaV := hGC.2.2 ga hgal
    rw [show 47 + 8 * ga = 44 + 8 * ga + 3 by omega] at hgaV
    have hgag := (hGC.2.1 ga (by omega)).1
    have hgao := (hI.2.2.2.2 ga hgal).1
    obtain ⟨gb, hgb⟩ := Int.eq_ofNat_of_zero_le (hop2 (by omega)).1
    have hgbl : gb < v := by have := (hop2 (by omega)).2; omega
    have hgbV := hGC.2.2 gb hgbl
    rw [show 47 + 8 * gb = 44 + 8 * gb + 3 by omega] at hgbV
    have hgbg := (hGC.2.1 gb (by omega)).1
    have hgbo := (hI.2.2.2.2 gb hgbl).1
    have hq9 : u (44 + 8 * v) = gt b ke (44 + 8 * v) (G v).1 (ga : Int) (gb : Int) (G v).2.2.2.1 := by rw [← hga, ← hgb]; exact hg0
    refine lv_aload_n hx hb d_R_giveValue_44 rfl (lv_at hl 0 rfl) ?_
    refine lv_aload_n hx hb d_R_giveValue_45 rfl (lv_at hl 1 rfl) ?_
    refine w_calli (va_runV (As := [.ref (b + (44 + 8 * v))]) (rest := []) ⟨hx, hb, hml, hown, hts⟩ (c_take l D ct st ke b N u hN n v hO hGR s5 s10 ga (by omega) (G ga).1 (G ga).2.1 (G ga).2.2.1 (G ga).2.2.2.1 hgag (V ga) hgao hgaV gb (by omega) (G gb).1 (G gb).2.1 (G gb).2.2.1 (G gb).2.2.2.1 hgbg (V gb) hgbo hgbV (44 + 8 * v) (by omega) (by omega) (G v).1 (G v).2.2.2.1 hq9) (cwV 1 hts (gV t_317 t_319 (tb_sel ((y_R_takeOperands), 11) (List.mem_of_getElem? (i := 5) (by decide +kernel))) t_1 t_320) rfl rfl rfl (by decide +kernel) ⟨Nat.le_of_ble_eq_true rfl, Nat.le_of_ble_eq_true rfl⟩) (pre_V E hP hS (0) (by omega) hO rfl) rfl rfl hl.1 rfl (lv_room (Nat.le_of_ble_eq_true rfl)) d_R_giveValue_46 ⟨(Nat.le_of_ble_eq_true rfl), (Nat.le_of_ble_eq_true rfl)⟩) hS (fun r z9 H locs hz hP hS => ?_)
    obtain ⟨hz, hzf⟩ := hz
    have ff10 : z9 0 = .inr (5, [.ref (b + 1), .ref (b + 21), .ref (b + 2), .ref (b + 4), .int (iI ((n : Int))), .int (iI ((v : Int))), .ref (b + 5), .ref (b + 10), .ref (b + 15), .ref (b + 17), .ref (b + 19)]) := (hzf 0 (by omega)).trans hO
    have ff11 : z9 4 = qr ct 3 24 (gf) := (hzf 4 (by omega)).trans hgr
    have ff12 : z9 (44 + 8 * v) = .inr (1, [.ref (ke (G v).1), .int (iI ((G v).2.1)), .int (iI ((G v).2.2.1)), .int (iI ((G v).2.2.2.1)), .ref (b + (44 + 8 * v + 1)), .ref (b + (44 + 8 * v + 3))]) := (hzf (44 + 8 * v) (by omega)).trans hg0
    have ff13 : z9 (44 + 8 * v + 1) = .inr (3, [.int (iI (1)), .ref (b + (44 + 8 * v + 2))]) := (hzf (44 + 8 * v + 1) (by omega)).trans hg1
    have ff14 : z9 (44 + 8 * v + 2) = ir ct 8 (gp) := (hzf (44 + 8 * v + 2) (by omega)).trans hg2
    have fr15 : ∀ j : Nat, (j = 0 ∨ (2 ≤ j ∧ j ≤ 4) ∨ (21 ≤ j ∧ (j < 47 + 8 * v ∨ 52 + 8 * v ≤ j))) → z9 j = u j := fun j h0 => (hzf j (by omega)).trans (fr0 j h0)
    have sv := sv.of (z := z9) fun j h0 h1 => hzf j (by omega)
    rcases hz with ⟨p1, w1, w2, w3, w4⟩ | ⟨w1, w2, w3, w4⟩
    · subst w2
      have s1 : ∃ x, z9 1 = dr x := ⟨s1.choose, (hzf 1 (by omega)).trans s1.choose_spec⟩
      have s5 := w3.VS
      have s10 := w4.VS
      have s15 := s15.of (z := z9) fun j h0 h1 => hzf j (by omega)
      have s17 := s17.of (z := z9) fun j h0 h1 => hzf j (by omega)
      have s19 := s19.of (z := z9) fun j h0 h1 => hzf j (by omega)
      obtain ⟨ok1, ok2, hl12⟩ := opn_ok hgao hgbo w1
      refine x_if_eq (tgt := 68) hx hb ⟨by omega, by omega⟩ d_R_giveValue_49 (by decide) (fun hc => by exfalso; omega) (fun hc => ?_)
      refine lv_aload_n hx hb d_R_giveValue_52 rfl (lv_at hl 0 rfl) ?_
      refine lv_aload_n hx hb d_R_giveValue_53 rfl (lv_at hl 1 rfl) ?_
      refine w_get (C := "LevelledRing$Gate") (T := T_G) (M := 6) hx hb hts hinG hown hK hP (44 + 8 * v) (by omega) ff12 rfl 5 (by decide) kk3 (fun _ h => h) rfl d_R_giveValue_54 ?_
      refine lv_iconst (v := iI (1)) hx hb d_R_giveValue_57 rfl ?_
      refine w_calli (va_runV (As := [.ref (b + (44 + 8 * v + 3)), .int (iI (1))]) (rest := []) ⟨hx, hb, hml, hown, hts⟩ (c_giveSum l D ct st ke b N z9 hN n v ff10 p1 ok1 ok2 hl12 w3 w4 (44 + 8 * v + 3) (by omega) (by omega) sv 1 (Or.inl rfl)) (cwV 2 hts (gV t_354 t_356 (tb_sel ((y_R_giveSum), 11) (List.mem_of_getElem? (i := 6) (by decide +kernel))) t_1 t_357) rfl rfl rfl (by decide +kernel) ⟨Nat.le_of_ble_eq_true rfl, Nat.le_of_ble_eq_true rfl⟩) (pre_V E hP hS (0) (by omega) ff10 rfl) rfl rfl hl.1 rfl (lv_room (Nat.le_of_ble_eq_true rfl)) d_R_giveValue_58 ⟨(Nat.le_of_ble_eq_true rfl), (Nat.le_of_ble_eq_true rfl)⟩) hS (fun r z16 H locs hz hP hS => ?_)
      obtain ⟨hz, hzg⟩ := hz
      have ff17 : z16 0 = .inr (5, [.ref (b + 1), .ref (b + 21), .ref (b + 2), .ref (b + 4), .int (iI ((n : Int))), .int (iI ((v : Int))), .ref (b + 5), .ref (b + 10), .ref (b + 15), .ref (b + 17), .ref (b + 19)]) := (hzg 0 (by omega)).trans ff10
      have ff18 : z16 4 = qr ct 3 24 (gf) := (hzg 4 (by omega)).trans ff11
      have ff19 : z16 (44 + 8 * v) = .inr (1, [.ref (ke (G v).1), .int (iI ((G v).2.1)), .int (iI ((G v).2.2.1)), .int (iI ((G v).2.2.2.1)), .ref (b + (44 + 8 * v + 1)), .ref (b + (44 + 8 * v + 3))]) := (hzg (44 + 8 * v) (by omega)).trans ff12
      have ff20 : z16 (44 + 8 * v + 1) = .inr (3, [.int (iI (1)), .ref (b + (44 + 8 * v + 2))]) := (hzg (44 + 8 * v + 1) (by omega)).trans ff13
      have ff21 : z16 (44 + 8 * v + 2) = ir ct 8 (gp) := (hzg (44 + 8 * v + 2) (by omega)).trans ff14
      have fr22 : ∀ j : Nat, (j = 0 ∨ (2 ≤ j ∧ j ≤ 4) ∨ (21 ≤ j ∧ (j < 47 + 8 * v ∨ 52 + 8 * v ≤ j))) → z16 j = u j := fun j h0 => (hzg j (by omega)).trans (fr15 j h0)
      have s1 : ∃ x, z16 1 = dr x := ⟨s1.choose, (hzg 1 (by omega)).trans s1.choose_spec⟩
      have s5 := s5.of (z := z16) fun j h0 h1 => hzg j (by omega)
      have s10 := s10.of (z := z16) fun j h0 h1 => hzg j (by omega)
      have s15 := s15.of (z := z16) fun j h0 h1 => hzg j (by omega)
      have s17 := s17.of (z := z16) fun j h0 h1 => hzg j (by omega)
      have s19 := s19.of (z := z16) fun j h0 h1 => hzg j (by omega)
      rcases hz with ⟨w9, v1, v2, v3⟩ | ⟨v1, v2, v3⟩
      · subst v2
        refine x_if_eq (tgt := 68) hx hb ⟨by omega, by omega⟩ d_R_giveValue_61 (by decide) (fun hc => by exfalso; omega) (fun hc => ?_)
        refine lv_iconst (v := iI (1)) hx hb d_R_giveValue_64 rfl ?_
        refine lv_goto (tgt := 69) hx hb d_R_giveValue_65 (by decide) ?_
        refine ret 1 z16 H locs 69 ls (Or.inr rfl) ⟨?_, ⟨s1, s5, s10, s15, s17, s19⟩, fr22⟩ hP hS d_R_giveValue_69
        rw [show 47 + 8 * v = 44 + 8 * v + 3 by omega]
        exact Or.inl ⟨w9, by unfold gv; rw [if_neg (by omega), if_pos hkd, hga, hgb, w1]; exact v1, rfl, v3⟩
      · subst v2
        refine x_if_eq (tgt := 68) hx hb ⟨by omega, by omega⟩ d_R_giveValue_61 (by decide) (fun hc => ?_) (fun hc => by exfalso; omega)
        refine lv_iconst (v := iI (0)) hx hb d_R_giveValue_68 rfl ?_
        refine ret 0 z16 H locs 69 ls (Or.inl rfl) ⟨?_, ⟨s1, s5, s10, s15, s17, s19⟩, fr22⟩ hP hS d_R_giveValue_69
        rw [show 47 + 8 * v = 44 + 8 * v + 3 by omega]
        exact Or.inr ⟨by unfold gv; rw [if_neg (by omega), if_pos hkd, hga, hgb, w1]; exact v1, rfl, v3⟩
    · subst w2
      have s1 : ∃ x, z9 1 = dr x := ⟨s1.choose, (hzf 1 (by omega)).trans s1.choose_spec⟩
      have s5 := w3
      have s10 := w4
      have s15 := s15.of (z := z9) fun j h0 h1 => hzf j (by omega)
      have s17 := s17.of (z := z9) fun j h0 h1 => hzf j (by omega)
      have s19 := s19.of (z := z9) fun j h0 h1 => hzf j (by omega)
      refine x_if_eq (tgt := 68) hx hb ⟨by omega, by omega⟩ d_R_giveValue_49 (by decide) (fun hc => ?_) (fun hc => by exfalso; omega)
      refine lv_iconst (v := iI (0)) hx hb d_R_giveValue_68 rfl ?_
      refine ret 0 z9 H locs 69 ls (Or.inl rfl) ⟨?_, ⟨s1, s5, s10, s15, s17, s19⟩, fr15⟩ hP hS d_R_giveValue_69
      rw [show 47 + 8 * v = 44 + 8 * v + 3 by omega]
      exact Or.inr ⟨by unfold gv; rw [if_neg (by omega), if_pos hkd, hga, hgb, w1]; rfl, rfl, sv⟩
  · refine x_ie (y := 2) (by rw [hkd]; rfl) ?_
    refine lv_tableIn (off := 59) (tgt := 70) hx hb d_R_giveValue_11 (by decide) (by decide) (by decide) (by decide) ?_
    obtain ⟨ga, hga⟩ := Int.eq_ofNat_of_zero_le (hop1 (by omega)).1
    have hgal : ga < v := by have := (hop1 (by omega)).2; omega
    have hgaV := hGC.2.2 ga hgal
    rw [show 47 + 8 * ga = 44 + 8 * ga + 3 by omega] at hgaV
    have hgag := (hGC.2.1 ga (by omega)).1
    have hgao := (hI.2.2.2.2 ga hgal).1
    obtain ⟨gb, hgb⟩ := Int.eq_ofNat_of_zero_le (hop2 (by omega)).1
    have hgbl : gb < v := by have := (hop2 (by omega)).2; omega
    have hgbV := hGC.2.2 gb hgbl
    rw [show 47 + 8 * gb = 44 + 8 * gb + 3 by omega] at hgbV
    have hgbg := (hGC.2.1 gb (by omega)).1
    have hgbo := (hI.2.2.2.2 gb hgbl).1
    have hq9 : u (44 + 8 * v) = gt b ke (44 + 8 * v) (G v).1 (ga : Int) (gb : Int) (G v).2.2.2.1 := by rw [← hga, ← hgb]; exact hg0
    refine lv_aload_n hx hb d_R_giveValue_70 rfl (lv_at hl 0 rfl) ?_
    refine lv_aload_n hx hb d_R_giveValue_71 rfl (lv_at hl 1 rfl) ?_
    refine w_calli (va_runV (As := [.ref (b + (44 + 8 * v))]) (rest := []) ⟨hx, hb, hml, hown, hts⟩ (c_take l D ct st ke b N u hN n v hO hGR s5 s10 ga (by omega) (G ga).1 (G ga).2.1 (G ga).2.2.1 (G ga).2.2.2.1 hgag (V ga) hgao hgaV gb (by omega) (G gb).1 (G gb).2.1 (G gb).2.2.1 (G gb).2.2.2.1 hgbg (V gb) hgbo hgbV (44 + 8 * v) (by omega) (by omega) (G v).1 (G v).2.2.2.1 hq9) (cwV 1 hts (gV t_317 t_319 (tb_sel ((y_R_takeOperands), 11) (List.mem_of_getElem? (i := 5) (by decide +kernel))) t_1 t_320) rfl rfl rfl (by decide +kernel) ⟨Nat.le_of_ble_eq_true rfl, Nat.le_of_ble_eq_true rfl⟩) (pre_V E hP hS (0) (by omega) hO rfl) rfl rfl hl.1 rfl (lv_room (Nat.le_of_ble_eq_true rfl)) d_R_giveValue_72 ⟨(Nat.le_of_ble_eq_true rfl), (Nat.le_of_ble_eq_true rfl)⟩) hS (fun r z23 H locs hz hP hS => ?_)
    obtain ⟨hz, hzf⟩ := hz
    have ff24 : z23 0 = .inr (5, [.ref (b + 1), .ref (b + 21), .ref (b + 2), .ref (b + 4), .int (iI ((n : Int))), .int (iI ((v : Int))), .ref (b + 5), .ref (b + 10), .ref (b + 15), .ref (b + 17), .ref (b + 19)]) := (hzf 0 (by omega)).trans hO
    have ff25 : z23 4 = qr ct 3 24 (gf) := (hzf 4 (by omega)).trans hgr
    have ff26 : z23 (44 + 8 * v) = .inr (1, [.ref (ke (G v).1), .int (iI ((G v).2.1)), .int (iI ((G v).2.2.1)), .int (iI ((G v).2.2.2.1)), .ref (b + (44 + 8 * v + 1)), .ref (b + (44 + 8 * v + 3))]) := (hzf (44 + 8 * v) (by omega)).trans hg0
    have ff27 : z23 (44 + 8 * v + 1) = .inr (3, [.int (iI (1)), .ref (b + (44 + 8 * v + 2))]) := (hzf (44 + 8 * v + 1) (by omega)).trans hg1
    have ff28 : z23 (44 + 8 * v + 2) = ir ct 8 (gp) := (hzf (44 + 8 * v + 2) (by omega)).trans hg2
    have fr29 : ∀ j : Nat, (j = 0 ∨ (2 ≤ j ∧ j ≤ 4) ∨ (21 ≤ j ∧ (j < 47 + 8 * v ∨ 52 + 8 * v ≤ j))) → z23 j = u j := fun j h0 => (hzf j (by omega)).trans (fr0 j h0)
    have sv := sv.of (z := z23) fun j h0 h1 => hzf j (by omega)
    rcases hz with ⟨p1, w1, w2, w3, w4⟩ | ⟨w1, w2, w3, w4⟩
    · subst w2
      have s1 : ∃ x, z23 1 = dr x := ⟨s1.choose, (hzf 1 (by omega)).trans s1.choose_spec⟩
      have s5 := w3.VS
      have s10 := w4.VS
      have s15 := s15.of (z := z23) fun j h0 h1 => hzf j (by omega)
      have s17 := s17.of (z := z23) fun j h0 h1 => hzf j (by omega)
      have s19 := s19.of (z := z23) fun j h0 h1 => hzf j (by omega)
      obtain ⟨ok1, ok2, hl12⟩ := opn_ok hgao hgbo w1
      refine x_if_eq (tgt := 94) hx hb ⟨by omega, by omega⟩ d_R_giveValue_75 (by decide) (fun hc => by exfalso; omega) (fun hc => ?_)
      refine lv_aload_n hx hb d_R_giveValue_78 rfl (lv_at hl 0 rfl) ?_
      refine lv_aload_n hx hb d_R_giveValue_79 rfl (lv_at hl 1 rfl) ?_
      refine w_get (C := "LevelledRing$Gate") (T := T_G) (M := 6) hx hb hts hinG hown hK hP (44 + 8 * v) (by omega) ff26 rfl 5 (by decide) kk3 (fun _ h => h) rfl d_R_giveValue_80 ?_
      refine lv_iconst (v := iI (-1)) hx hb d_R_giveValue_83 rfl ?_
      refine w_calli (va_runV (As := [.ref (b + (44 + 8 * v + 3)), .int (iI (-1))]) (rest := []) ⟨hx, hb, hml, hown, hts⟩ (c_giveSum l D ct st ke b N z23 hN n v ff24 p1 ok1 ok2 hl12 w3 w4 (44 + 8 * v + 3) (by omega) (by omega) sv (-1) (Or.inr rfl)) (cwV 2 hts (gV t_354 t_356 (tb_sel ((y_R_giveSum), 11) (List.mem_of_getElem? (i := 6) (by decide +kernel))) t_1 t_357) rfl rfl rfl (by decide +kernel) ⟨Nat.le_of_ble_eq_true rfl, Nat.le_of_ble_eq_true rfl⟩) (pre_V E hP hS (0) (by omega) ff24 rfl) rfl rfl hl.1 rfl (lv_room (Nat.le_of_ble_eq_true rfl)) d_R_giveValue_84 ⟨(Nat.le_of_ble_eq_true rfl), (Nat.le_of_ble_eq_true rfl)⟩) hS (fun r z30 H locs hz hP hS => ?_)
      obtain ⟨hz, hzg⟩ := hz
      have ff31 : z30 0 = .inr (5, [.ref (b + 1), .ref (b + 21), .ref (b + 2), .ref (b + 4), .int (iI ((n : Int))), .int (iI ((v : Int))), .ref (b + 5), .ref (b + 10), .ref (b + 15), .ref (b + 17), .ref (b + 19)]) := (hzg 0 (by omega)).trans ff24
      have ff32 : z30 4 = qr ct 3 24 (gf) := (hzg 4 (by omega)).trans ff25
      have ff33 : z30 (44 + 8 * v) = .inr (1, [.ref (ke (G v).1), .int (iI ((G v).2.1)), .int (iI ((G v).2.2.1)), .int (iI ((G v).2.2.2.1)), .ref (b + (44 + 8 * v + 1)), .ref (b + (44 + 8 * v + 3))]) := (hzg (44 + 8 * v) (by omega)).trans ff26
      have ff34 : z30 (44 + 8 * v + 1) = .inr (3, [.int (iI (1)), .ref (b + (44 + 8 * v + 2))]) := (hzg (44 + 8 * v + 1) (by omega)).trans ff27
      have ff35 : z30 (44 + 8 * v + 2) = ir ct 8 (gp) := (hzg (44 + 8 * v + 2) (by omega)).trans ff28
      have fr36 : ∀ j : Nat, (j = 0 ∨ (2 ≤ j ∧ j ≤ 4) ∨ (21 ≤ j ∧ (j < 47 + 8 * v ∨ 52 + 8 * v ≤ j))) → z30 j = u j := fun j h0 => (hzg j (by omega)).trans (fr29 j h0)
      have s1 : ∃ x, z30 1 = dr x := ⟨s1.choose, (hzg 1 (by omega)).trans s1.choose_spec⟩
      have s5 := s5.of (z := z30) fun j h0 h1 => hzg j (by omega)
      have s10 := s10.of (z := z30) fun j h0 h1 => hzg j (by omega)
      have s15 := s15.of (z := z30) fun j h0 h1 => hzg j (by omega)
      have s17 := s17.of (z := z30) fun j h0 h1 => hzg j (by omega)
      have s19 := s19.of (z := z30) fun j h0 h1 => hzg j (by omega)
      rcases hz with ⟨w9, v1, v2, v3⟩ | ⟨v1, v2, v3⟩
      · subst v2
        refine x_if_eq (tgt := 94) hx hb ⟨by omega, by omega⟩ d_R_giveValue_87 (by decide) (fun hc => by exfalso; omega) (fun hc => ?_)
        refine lv_iconst (v := iI (1)) hx hb d_R_giveValue_90 rfl ?_
        refine lv_goto (tgt := 95) hx hb d_R_giveValue_91 (by decide) ?_
        refine ret 1 z30 H locs 95 ls (Or.inr rfl) ⟨?_, ⟨s1, s5, s10, s15, s17, s19⟩, fr36⟩ hP hS d_R_giveValue_95
        rw [show 47 + 8 * v = 44 + 8 * v + 3 by omega]
        exact Or.inl ⟨w9, by unfold gv; rw [if_neg (by omega), if_neg (by omega), if_pos hkd, hga, hgb, w1]; exact v1, rfl, v3⟩
      · subst v2
        refine x_if_eq (tgt := 94) hx hb ⟨by omega, by omega⟩ d_R_giveValue_87 (by decide) (fun hc => ?_) (fun hc => by exfalso; omega)
        refine lv_iconst (v := iI (0)) hx hb d_R_giveValue_94 rfl ?_
        refine ret 0 z30 H locs 95 ls (Or.inl rfl) ⟨?_, ⟨s1, s5, s10, s15, s17, s19⟩, fr36⟩ hP hS d_R_giveValue_95
        rw [show 47 + 8 * v = 44 + 8 * v + 3 by omega]
        exact Or.inr ⟨by unfold gv; rw [if_neg (by omega), if_neg (by omega), if_pos hkd, hga, hgb, w1]; exact v1, rfl, v3⟩
    · subst w2
      have s1 : ∃ x, z23 1 = dr x := ⟨s1.choose, (hzf 1 (by omega)).trans s1.choose_spec⟩
      have s5 := w3
      have s10 := w4
      have s15 := s15.of (z := z23) fun j h0 h1 => hzf j (by omega)
      have s17 := s17.of (z := z23) fun j h0 h1 => hzf j (by omega)
      have s19 := s19.of (z := z23) fun j h0 h1 => hzf j (by omega)
      refine x_if_eq (tgt := 94) hx hb ⟨by omega, by omega⟩ d_R_giveValue_75 (by decide) (fun hc => ?_) (fun hc => by exfalso; omega)
      refine lv_iconst (v := iI (0)) hx hb d_R_giveValue_94 rfl ?_
      refine ret 0 z23 H locs 95 ls (Or.inl rfl) ⟨?_, ⟨s1, s5, s10, s15, s17, s19⟩, fr29⟩ hP hS d_R_giveValue_95
      rw [show 47 + 8 * v = 44 + 8 * v + 3 by omega]
      exact Or.inr ⟨by unfold gv; rw [if_neg (by omega), if_neg (by omega), if_pos hkd, hga, hgb, w1]; rfl, rfl, sv⟩
  · refine x_ie (y := 3) (by rw [hkd]; rfl) ?_
    refine lv_tableIn (off := 85) (tgt := 96) hx hb d_R_giveValue_11 (by decide) (by decide) (by decide) (by decide) ?_
    obtain ⟨ga, hga⟩ := Int.eq_ofNat_of_zero_le (hop1 (by omega)).1
    have hgal : ga < v := by have := (hop1 (by omega)).2; omega
    have hgaV := hGC.2.2 ga hgal
    rw [show 47 + 8 * ga = 44 + 8 * ga + 3 by omega] at hgaV
    have hgag := (hGC.2.1 ga (by omega)).1
    have hgao := (hI.2.2.2.2 ga hgal).1
    obtain ⟨gb, hgb⟩ := Int.eq_ofNat_of_zero_le (hop2 (by omega)).1
    have hgbl : gb < v := by have := (hop2 (by omega)).2; omega
    have hgbV := hGC.2.2 gb hgbl
    rw [show 47 + 8 * gb = 44 + 8 * gb + 3 by omega] at hgbV
    have hgbg := (hGC.2.1 gb (by omega)).1
    have hgbo := (hI.2.2.2.2 gb hgbl).1
    have hq9 : u (44 + 8 * v) = gt b ke (44 + 8 * v) (G v).1 (ga : Int) (gb : Int) (G v).2.2.2.1 := by rw [← hga, ← hgb]; exact hg0
    refine lv_aload_n hx hb d_R_giveValue_96 rfl (lv_at hl 0 rfl) ?_
    refine lv_aload_n hx hb d_R_giveValue_97 rfl (lv_at hl 1 rfl) ?_
    refine w_calli (va_runV (As := [.ref (b + (44 + 8 * v))]) (rest := []) ⟨hx, hb, hml, hown, hts⟩ (c_take l D ct st ke b N u hN n v hO hGR s5 s10 ga (by omega) (G ga).1 (G ga).2.1 (G ga).2.2.1 (G ga).2.2.2.1 hgag (V ga) hgao hgaV gb (by omega) (G gb).1 (G gb).2.1 (G gb).2.2.1 (G gb).2.2.2.1 hgbg (V gb) hgbo hgbV (44 + 8 * v) (by omega) (by omega) (G v).1 (G v).2.2.2.1 hq9) (cwV 1 hts (gV t_317 t_319 (tb_sel ((y_R_takeOperands), 11) (List.mem_of_getElem? (i := 5) (by decide +kernel))) t_1 t_320) rfl rfl rfl (by decide +kernel) ⟨Nat.le_of_ble_eq_true rfl, Nat.le_of_ble_eq_true rfl⟩) (pre_V E hP hS (0) (by omega) hO rfl) rfl rfl hl.1 rfl (lv_room (Nat.le_of_ble_eq_true rfl)) d_R_giveValue_98 ⟨(Nat.le_of_ble_eq_true rfl), (Nat.le_of_ble_eq_true rfl)⟩) hS (fun r z37 H locs hz hP hS => ?_)
    obtain ⟨hz, hzf⟩ := hz
    have ff38 : z37 0 = .inr (5, [.ref (b + 1), .ref (b + 21), .ref (b + 2), .ref (b + 4), .int (iI ((n : Int))), .int (iI ((v : Int))), .ref (b + 5), .ref (b + 10), .ref (b + 15), .ref (b + 17), .ref (b + 19)]) := (hzf 0 (by omega)).trans hO
    have ff39 : z37 4 = qr ct 3 24 (gf) := (hzf 4 (by omega)).trans hgr
    have ff40 : z37 (44 + 8 * v) = .inr (1, [.ref (ke (G v).1), .int (iI ((G v).2.1)), .int (iI ((G v).2.2.1)), .int (iI ((G v).2.2.2.1)), .ref (b + (44 + 8 * v + 1)), .ref (b + (44 + 8 * v + 3))]) := (hzf (44 + 8 * v) (by omega)).trans hg0
    have ff41 : z37 (44 + 8 * v + 1) = .inr (3, [.int (iI (1)), .ref (b + (44 + 8 * v + 2))]) := (hzf (44 + 8 * v + 1) (by omega)).trans hg1
    have ff42 : z37 (44 + 8 * v + 2) = ir ct 8 (gp) := (hzf (44 + 8 * v + 2) (by omega)).trans hg2
    have fr43 : ∀ j : Nat, (j = 0 ∨ (2 ≤ j ∧ j ≤ 4) ∨ (21 ≤ j ∧ (j < 47 + 8 * v ∨ 52 + 8 * v ≤ j))) → z37 j = u j := fun j h0 => (hzf j (by omega)).trans (fr0 j h0)
    have sv := sv.of (z := z37) fun j h0 h1 => hzf j (by omega)
    rcases hz with ⟨p1, w1, w2, w3, w4⟩ | ⟨w1, w2, w3, w4⟩
    · subst w2
      have s1 : ∃ x, z37 1 = dr x := ⟨s1.choose, (hzf 1 (by omega)).trans s1.choose_spec⟩
      have s5 := w3.VS
      have s10 := w4.VS
      have s15 := s15.of (z := z37) fun j h0 h1 => hzf j (by omega)
      have s17 := s17.of (z := z37) fun j h0 h1 => hzf j (by omega)
      have s19 := s19.of (z := z37) fun j h0 h1 => hzf j (by omega)
      obtain ⟨ok1, ok2, hl12⟩ := opn_ok hgao hgbo w1
      refine x_if_eq (tgt := 126) hx hb ⟨by omega, by omega⟩ d_R_giveValue_101 (by decide) (fun hc => by exfalso; omega) (fun hc => ?_)
      refine lv_aload_n hx hb d_R_giveValue_104 rfl (lv_at hl 0 rfl) ?_
      refine w_calli (va_runV (As := []) (rest := []) ⟨hx, hb, hml, hown, hts⟩ (c_quieten l D ct st ke b N z37 hN n v ff38 p1 ok1 ok2 hl12 w3 w4) (cwV 0 hts (gV t_359 t_361 (tb_sel ((y_R_quietenOperands), 11) (List.mem_of_getElem? (i := 7) (by decide +kernel))) t_1 t_362) rfl rfl rfl (by decide +kernel) ⟨Nat.le_of_ble_eq_true rfl, Nat.le_of_ble_eq_true rfl⟩) (pre_V E hP hS (0) (by omega) ff38 rfl) rfl rfl hl.1 rfl (lv_room (Nat.le_of_ble_eq_true rfl)) d_R_giveValue_105 ⟨(Nat.le_of_ble_eq_true rfl), (Nat.le_of_ble_eq_true rfl)⟩) hS (fun r z44 H locs hz hP hS => ?_)
      obtain ⟨hz, hzg⟩ := hz
      have ff45 : z44 0 = .inr (5, [.ref (b + 1), .ref (b + 21), .ref (b + 2), .ref (b + 4), .int (iI ((n : Int))), .int (iI ((v : Int))), .ref (b + 5), .ref (b + 10), .ref (b + 15), .ref (b + 17), .ref (b + 19)]) := (hzg 0 (by omega)).trans ff38
      have ff46 : z44 4 = qr ct 3 24 (gf) := (hzg 4 (by omega)).trans ff39
      have ff47 : z44 (44 + 8 * v) = .inr (1, [.ref (ke (G v).1), .int (iI ((G v).2.1)), .int (iI ((G v).2.2.1)), .int (iI ((G v).2.2.2.1)), .ref (b + (44 + 8 * v + 1)), .ref (b + (44 + 8 * v + 3))]) := (hzg (44 + 8 * v) (by omega)).trans ff40
      have ff48 : z44 (44 + 8 * v + 1) = .inr (3, [.int (iI (1)), .ref (b + (44 + 8 * v + 2))]) := (hzg (44 + 8 * v + 1) (by omega)).trans ff41
      have ff49 : z44 (44 + 8 * v + 2) = ir ct 8 (gp) := (hzg (44 + 8 * v + 2) (by omega)).trans ff42
      have fr50 : ∀ j : Nat, (j = 0 ∨ (2 ≤ j ∧ j ≤ 4) ∨ (21 ≤ j ∧ (j < 47 + 8 * v ∨ 52 + 8 * v ≤ j))) → z44 j = u j := fun j h0 => (hzg j (by omega)).trans (fr43 j h0)
      have sv := sv.of (z := z44) fun j h0 h1 => hzg j (by omega)
      rcases hz with ⟨p2, v1, v2, v3, v4⟩ | ⟨v1, v2, v3, v4⟩
      · subst v2
        have s1 : ∃ x, z44 1 = dr x := ⟨s1.choose, (hzg 1 (by omega)).trans s1.choose_spec⟩
        have s5 := v3.VS
        have s10 := v4.VS
        have s15 := s15.of (z := z44) fun j h0 h1 => hzg j (by omega)
        have s17 := s17.of (z := z44) fun j h0 h1 => hzg j (by omega)
        have s19 := s19.of (z := z44) fun j h0 h1 => hzg j (by omega)
        have hqu := qt_ok 4 ok1 ok2 hl12 (by have := ok1.2.1; omega) v1
        refine x_if_eq (tgt := 126) hx hb ⟨by omega, by omega⟩ d_R_giveValue_108 (by decide) (fun hc => by exfalso; omega) (fun hc => ?_)
        refine lv_aload_n hx hb d_R_giveValue_111 rfl (lv_at hl 0 rfl) ?_
        refine lv_aload_n hx hb d_R_giveValue_112 rfl (lv_at hl 1 rfl) ?_
        refine w_get (C := "LevelledRing$Gate") (T := T_G) (M := 6) hx hb hts hinG hown hK hP (44 + 8 * v) (by omega) ff47 rfl 5 (by decide) kk3 (fun _ h => h) rfl d_R_giveValue_113 ?_
        have hK9 := hKS.of (z := z44) fun j h0 h1 => fr50 j (by omega)
        refine w_calli (va_runV (As := [.ref (b + (44 + 8 * v + 3))]) (rest := []) ⟨hx, hb, hml, hown, hts⟩ (c_giveProduct l D ct st ke b N z44 hN n v ff45 p2 hqu.1 hqu.2.1 hqu.2.2.1 v3 v4 K hK9 hqu (44 + 8 * v + 3) (by omega) (by omega) sv s15 s17) (cwV 1 hts (gV t_365 t_367 (tb_sel ((y_R_giveProduct), 11) (List.mem_of_getElem? (i := 8) (by decide +kernel))) t_1 t_368) rfl rfl rfl (by decide +kernel) ⟨Nat.le_of_ble_eq_true rfl, Nat.le_of_ble_eq_true rfl⟩) (pre_V E hP hS (0) (by omega) ff45 rfl) rfl rfl hl.1 rfl (lv_room (Nat.le_of_ble_eq_true rfl)) d_R_giveValue_116 ⟨(Nat.le_of_ble_eq_true rfl), (Nat.le_of_ble_eq_true rfl)⟩) hS (fun r z51 H locs hz hP hS => ?_)
        obtain ⟨hz, n15, n17, hzh⟩ := hz
        have ff52 : z51 0 = .inr (5, [.ref (b + 1), .ref (b + 21), .ref (b + 2), .ref (b + 4), .int (iI ((n : Int))), .int (iI ((v : Int))), .ref (b + 5), .ref (b + 10), .ref (b + 15), .ref (b + 17), .ref (b + 19)]) := (hzh 0 (by omega) (by omega) (by omega)).trans ff45
        have ff53 : z51 4 = qr ct 3 24 (gf) := (hzh 4 (by omega) (by omega) (by omega)).trans ff46
        have ff54 : z51 (44 + 8 * v) = .inr (1, [.ref (ke (G v).1), .int (iI ((G v).2.1)), .int (iI ((G v).2.2.1)), .int (iI ((G v).2.2.2.1)), .ref (b + (44 + 8 * v + 1)), .ref (b + (44 + 8 * v + 3))]) := (hzh (44 + 8 * v) (by omega) (by omega) (by omega)).trans ff47
        have ff55 : z51 (44 + 8 * v + 1) = .inr (3, [.int (iI (1)), .ref (b + (44 + 8 * v + 2))]) := (hzh (44 + 8 * v + 1) (by omega) (by omega) (by omega)).trans ff48
        have ff56 : z51 (44 + 8 * v + 2) = ir ct 8 (gp) := (hzh (44 + 8 * v + 2) (by omega) (by omega) (by omega)).trans ff49
        have fr57 : ∀ j : Nat, (j = 0 ∨ (2 ≤ j ∧ j ≤ 4) ∨ (21 ≤ j ∧ (j < 47 + 8 * v ∨ 52 + 8 * v ≤ j))) → z51 j = u j := fun j h0 => (hzh j (by omega) (by omega) (by omega)).trans (fr50 j h0)
        have s1 : ∃ x, z51 1 = dr x := ⟨s1.choose, (hzh 1 (by omega) (by omega) (by omega)).trans s1.choose_spec⟩
        have s5 := s5.of (z := z51) fun j h0 h1 => hzh j (by omega) (by omega) (by omega)
        have s10 := s10.of (z := z51) fun j h0 h1 => hzh j (by omega) (by omega) (by omega)
        have s15 := n15
        have s17 := n17
        have s19 := s19.of (z := z51) fun j h0 h1 => hzh j (by omega) (by omega) (by omega)
        rcases hz with ⟨w9, t1, t2, t3⟩ | ⟨t1, t2, t3⟩
        · subst t2
          refine x_if_eq (tgt := 126) hx hb ⟨by omega, by omega⟩ d_R_giveValue_119 (by decide) (fun hc => by exfalso; omega) (fun hc => ?_)
          refine lv_iconst (v := iI (1)) hx hb d_R_giveValue_122 rfl ?_
          refine lv_goto (tgt := 127) hx hb d_R_giveValue_123 (by decide) ?_
          refine ret 1 z51 H locs 127 ls (Or.inr rfl) ⟨?_, ⟨s1, s5, s10, s15, s17, s19⟩, fr57⟩ hP hS d_R_giveValue_127
          rw [show 47 + 8 * v = 44 + 8 * v + 3 by omega]
          exact Or.inl ⟨w9, by unfold gv; rw [if_neg (by omega), if_neg (by omega), if_neg (by omega), if_pos hkd, hga, hgb, w1]; show (qt 4 p1).bind (prV K) = _; rw [v1]; exact t1, rfl, t3⟩
        · subst t2
          refine x_if_eq (tgt := 126) hx hb ⟨by omega, by omega⟩ d_R_giveValue_119 (by decide) (fun hc => ?_) (fun hc => by exfalso; omega)
          refine lv_iconst (v := iI (0)) hx hb d_R_giveValue_126 rfl ?_
          refine ret 0 z51 H locs 127 ls (Or.inl rfl) ⟨?_, ⟨s1, s5, s10, s15, s17, s19⟩, fr57⟩ hP hS d_R_giveValue_127
          rw [show 47 + 8 * v = 44 + 8 * v + 3 by omega]
          exact Or.inr ⟨by unfold gv; rw [if_neg (by omega), if_neg (by omega), if_neg (by omega), if_pos hkd, hga, hgb, w1]; show (qt 4 p1).bind (prV K) = _; rw [v1]; exact t1, rfl, t3⟩
      · subst v2
        have s1 : ∃ x, z44 1 = dr x := ⟨s1.choose, (hzg 1 (by omega)).trans s1.choose_spec⟩
        have s5 := v3
        have s10 := v4
        have s15 := s15.of (z := z44) fun j h0 h1 => hzg j (by omega)
        have s17 := s17.of (z := z44) fun j h0 h1 => hzg j (by omega)
        have s19 := s19.of (z := z44) fun j h0 h1 => hzg j (by omega)
        refine x_if_eq (tgt := 126) hx hb ⟨by omega, by omega⟩ d_R_giveValue_108 (by decide) (fun hc => ?_) (fun hc => by exfalso; omega)
        refine lv_iconst (v := iI (0)) hx hb d_R_giveValue_126 rfl ?_
        refine ret 0 z44 H locs 127 ls (Or.inl rfl) ⟨?_, ⟨s1, s5, s10, s15, s17, s19⟩, fr50⟩ hP hS d_R_giveValue_127
        rw [show 47 + 8 * v = 44 + 8 * v + 3 by omega]
        exact Or.inr ⟨by unfold gv; rw [if_neg (by omega), if_neg (by omega), if_neg (by omega), if_pos hkd, hga, hgb, w1]; show (qt 4 p1).bind (prV K) = _; rw [v1]; rfl, rfl, sv⟩
    · subst w2
      have s1 : ∃ x, z37 1 = dr x := ⟨s1.choose, (hzf 1 (by omega)).trans s1.choose_spec⟩
      have s5 := w3
      have s10 := w4
      have s15 := s15.of (z := z37) fun j h0 h1 => hzf j (by omega)
      have s17 := s17.of (z := z37) fun j h0 h1 => hzf j (by omega)
      have s19 := s19.of (z := z37) fun j h0 h1 => hzf j (by omega)
      refine x_if_eq (tgt := 126) hx hb ⟨by omega, by omega⟩ d_R_giveValue_101 (by decide) (fun hc => ?_) (fun hc => by exfalso; omega)
      refine lv_iconst (v := iI (0)) hx hb d_R_giveValue_126 rfl ?_
      refine ret 0 z37 H locs 127 ls (Or.inl rfl) ⟨?_, ⟨s1, s5, s10, s15, s17, s19⟩, fr43⟩ hP hS d_R_giveValue_127
      rw [show 47 + 8 * v = 44 + 8 * v + 3 by omega]
      exact Or.inr ⟨by unfold gv; rw [if_neg (by omega), if_neg (by omega), if_neg (by omega), if_pos hkd, hga, hgb, w1]; rfl, rfl, sv⟩
  · refine x_ie (y := 4) (by rw [hkd]; rfl) ?_
    refine lv_tableIn (off := 117) (tgt := 128) hx hb d_R_giveValue_11 (by decide) (by decide) (by decide) (by decide) ?_
    obtain ⟨ga, hga⟩ := Int.eq_ofNat_of_zero_le (hop1 (by omega)).1
    have hgal : ga < v := by have := (hop1 (by omega)).2; omega
    have hgaV := hGC.2.2 ga hgal
    rw [show 47 + 8 * ga = 44 + 8 * ga + 3 by omega] at hgaV
    have hgag := (hGC.2.1 ga (by omega)).1
    have hgao := (hI.2.2.2.2 ga hgal).1
    have ht4 := hop4 hkd
    have hq9 : u (44 + 8 * v) = gt b ke (44 + 8 * v) (G v).1 (ga : Int) (G v).2.2.1 (G v).2.2.2.1 := by rw [← hga]; exact hg0
    refine lv_aload_n hx hb d_R_giveValue_128 rfl (lv_at hl 1 rfl) ?_
    refine w_get (C := "LevelledRing$Gate") (T := T_G) (M := 6) hx hb hts hinG hown hK hP (44 + 8 * v) (by omega) hq9 rfl 5 (by decide) kk3 (fun _ h => h) rfl d_R_giveValue_129 ?_
    refine lv_aload_n hx hb d_R_giveValue_132 rfl (lv_at hl 0 rfl) ?_
    refine w_get (C := "LevelledRing") (T := T_R) (M := 11) hx hb hts hinR hown hK hP (0) (by omega) hO rfl 3 (by decide) kk6 (fun _ h => h) rfl d_R_giveValue_133 ?_
    refine lv_aload_n hx hb d_R_giveValue_136 rfl (lv_at hl 1 rfl) ?_
    refine w_get (C := "LevelledRing$Gate") (T := T_G) (M := 6) hx hb hts hinG hown hK hP (44 + 8 * v) (by omega) hq9 rfl 1 (by decide) kk8 (fun _ h => h) rfl d_R_giveValue_137 ?_
    refine w_aald (r := b + (44 + 8 * ga)) hx hb hK hP (4) (by omega) 3 hgr rfl (by omega) (by omega) (by decide) (hgf ga (by omega)) d_R_giveValue_140 ?_
    refine w_get (C := "LevelledRing$Gate") (T := T_G) (M := 6) hx hb hts hinG hown hK hP (44 + 8 * ga) (by omega) hgag rfl 5 (by decide) kk3 (fun _ h => h) rfl d_R_giveValue_141 ?_
    refine lv_aload_n hx hb d_R_giveValue_144 rfl (lv_at hl 1 rfl) ?_
    refine w_get (C := "LevelledRing$Gate") (T := T_G) (M := 6) hx hb hts hinG hown hK hP (44 + 8 * v) (by omega) hq9 rfl 3 (by decide) kk5 (fun _ h => h) rfl d_R_giveValue_145 ?_
    refine w_callv (va_runS (As := [.ref (b + (44 + 8 * v + 3)), .ref (b + (44 + 8 * ga + 3)), .int (iI ((G v).2.2.2.1))]) (rest := []) ⟨hx, hb, hml, hown, hts⟩ (c_turnValue l D ct st ke b N u (44 + 8 * v + 3) (by omega) sv (44 + 8 * ga + 3) (by omega) (V ga) hgao hgaV (by omega) (G v).2.2.2.1 ht4.1 ht4.2) (cwS 3 hts (gS t_387 t_388 t_1 t_389) rfl rfl rfl (by decide +kernel) ⟨Nat.le_of_ble_eq_true rfl, Nat.le_of_ble_eq_true rfl⟩) (pre_S E hP hS) rfl rfl hl.1 rfl (lv_room (Nat.le_of_ble_eq_true rfl)) d_R_giveValue_148 ⟨(Nat.le_of_ble_eq_true rfl), (Nat.le_of_ble_eq_true rfl)⟩) hS (fun z58 H locs hz hP hS => ?_)
    obtain ⟨w3, hzf⟩ := hz
    have ff60 : z58 0 = .inr (5, [.ref (b + 1), .ref (b + 21), .ref (b + 2), .ref (b + 4), .int (iI ((n : Int))), .int (iI ((v : Int))), .ref (b + 5), .ref (b + 10), .ref (b + 15), .ref (b + 17), .ref (b + 19)]) := (hzf 0 (by omega)).trans hO
    have ff61 : z58 4 = qr ct 3 24 (gf) := (hzf 4 (by omega)).trans hgr
    have ff62 : z58 (44 + 8 * v) = .inr (1, [.ref (ke (G v).1), .int (iI ((ga : Int))), .int (iI ((G v).2.2.1)), .int (iI ((G v).2.2.2.1)), .ref (b + (44 + 8 * v + 1)), .ref (b + (44 + 8 * v + 3))]) := (hzf (44 + 8 * v) (by omega)).trans hq9
    have ff63 : z58 (44 + 8 * v + 1) = .inr (3, [.int (iI (1)), .ref (b + (44 + 8 * v + 2))]) := (hzf (44 + 8 * v + 1) (by omega)).trans hg1
    have ff64 : z58 (44 + 8 * v + 2) = ir ct 8 (gp) := (hzf (44 + 8 * v + 2) (by omega)).trans hg2
    have ff65 : z58 (44 + 8 * ga) = .inr (1, [.ref (ke (G ga).1), .int (iI ((G ga).2.1)), .int (iI ((G ga).2.2.1)), .int (iI ((G ga).2.2.2.1)), .ref (b + (44 + 8 * ga + 1)), .ref (b + (44 + 8 * ga + 3))]) := (hzf (44 + 8 * ga) (by omega)).trans hgag
    have fr66 : ∀ j : Nat, (j = 0 ∨ (2 ≤ j ∧ j ≤ 4) ∨ (21 ≤ j ∧ (j < 47 + 8 * v ∨ 52 + 8 * v ≤ j))) → z58 j = u j := fun j h0 => (hzf j (by omega)).trans (fr0 j h0)
    have s1 : ∃ x, z58 1 = dr x := ⟨s1.choose, (hzf 1 (by omega)).trans s1.choose_spec⟩
    have s5 := s5.of (z := z58) fun j h0 h1 => hzf j (by omega)
    have s10 := s10.of (z := z58) fun j h0 h1 => hzf j (by omega)
    have s15 := s15.of (z := z58) fun j h0 h1 => hzf j (by omega)
    have s17 := s17.of (z := z58) fun j h0 h1 => hzf j (by omega)
    have s19 := s19.of (z := z58) fun j h0 h1 => hzf j (by omega)
    refine lv_iconst (v := iI (1)) hx hb d_R_giveValue_151 rfl ?_
    refine ret 1 z58 H locs 152 ls (Or.inr rfl) ⟨?_, ⟨s1, s5, s10, s15, s17, s19⟩, fr66⟩ hP hS d_R_giveValue_152
    rw [show 47 + 8 * v = 44 + 8 * v + 3 by omega]
    exact Or.inl ⟨_, by unfold gv; rw [if_neg (by omega), if_neg (by omega), if_neg (by omega), if_neg (by omega), if_pos hkd, hga], rfl, w3⟩
  · refine x_ie (y := 5) (by rw [hkd]; rfl) ?_
    refine lv_tableIn (off := 142) (tgt := 153) hx hb d_R_giveValue_11 (by decide) (by decide) (by decide) (by decide) ?_
    obtain ⟨ga, hga⟩ := Int.eq_ofNat_of_zero_le (hop1 (by omega)).1
    have hgal : ga < v := by have := (hop1 (by omega)).2; omega
    have hgaV := hGC.2.2 ga hgal
    rw [show 47 + 8 * ga = 44 + 8 * ga + 3 by omega] at hgaV
    have hgag := (hGC.2.1 ga (by omega)).1
    have hgao := (hI.2.2.2.2 ga hgal).1
    have hq9 : u (44 + 8 * v) = gt b ke (44 + 8 * v) (G v).1 (ga : Int) (G v).2.2.1 (G v).2.2.2.1 := by rw [← hga]; exact hg0
    obtain ⟨cl, cm, c0, c1, cV⟩ := sv
    obtain ⟨x0, x1, xV, xR0, xR1⟩ := hgaV
    refine lv_aload_n hx hb d_R_giveValue_153 rfl (lv_at hl 1 rfl) ?_
    refine w_get (C := "LevelledRing$Gate") (T := T_G) (M := 6) hx hb hts hinG hown hK hP (44 + 8 * v) (by omega) hq9 rfl 5 (by decide) kk3 (fun _ h => h) rfl d_R_giveValue_154 ?_
    refine lv_aload_n hx hb d_R_giveValue_157 rfl (lv_at hl 0 rfl) ?_
    refine w_get (C := "LevelledRing") (T := T_R) (M := 11) hx hb hts hinR hown hK hP (0) (by omega) hO rfl 3 (by decide) kk6 (fun _ h => h) rfl d_R_giveValue_158 ?_
    refine lv_aload_n hx hb d_R_giveValue_161 rfl (lv_at hl 1 rfl) ?_
    refine w_get (C := "LevelledRing$Gate") (T := T_G) (M := 6) hx hb hts hinG hown hK hP (44 + 8 * v) (by omega) hq9 rfl 1 (by decide) kk8 (fun _ h => h) rfl d_R_giveValue_162 ?_
    refine w_aald (r := b + (44 + 8 * ga)) hx hb hK hP (4) (by omega) 3 hgr rfl (by omega) (by omega) (by decide) (hgf ga (by omega)) d_R_giveValue_165 ?_
    refine w_get (C := "LevelledRing$Gate") (T := T_G) (M := 6) hx hb hts hinG hown hK hP (44 + 8 * ga) (by omega) hgag rfl 5 (by decide) kk3 (fun _ h => h) rfl d_R_giveValue_166 ?_
    refine w_callv (va_runV (As := [.ref (b + (44 + 8 * ga + 3))]) (rest := []) ⟨hx, hb, hml, hown, hts⟩ (c_V_copyFrom l D ct st ke b N u (44 + 8 * v + 3) cl cm c0 c1 (by omega) ⟨cV.1, cV.2.1, cV.2.2.1, cV.2.2.2.1, cV.2.2.2.2⟩ (44 + 8 * ga + 3) (V ga).1 (V ga).2.1 x0 x1 (by omega) ⟨xV.1, xV.2.1, xV.2.2.1, xV.2.2.2.1, xV.2.2.2.2⟩ (by omega)) (cwV 1 hts (gV t_321 t_322 t_323 t_4 t_324) rfl rfl rfl (by decide +kernel) ⟨Nat.le_of_ble_eq_true rfl, Nat.le_of_ble_eq_true rfl⟩) (pre_V E hP hS (44 + 8 * v + 3) (by omega) cV.1 rfl) rfl rfl hl.1 rfl (lv_room (Nat.le_of_ble_eq_true rfl)) d_R_giveValue_169 ⟨(Nat.le_of_ble_eq_true rfl), (Nat.le_of_ble_eq_true rfl)⟩) hS (fun z67 H locs hz hP hS => ?_)
    obtain ⟨y0, y1, yV, ya, yb, hzf⟩ := hz
    have ff69 : z67 0 = .inr (5, [.ref (b + 1), .ref (b + 21), .ref (b + 2), .ref (b + 4), .int (iI ((n : Int))), .int (iI ((v : Int))), .ref (b + 5), .ref (b + 10), .ref (b + 15), .ref (b + 17), .ref (b + 19)]) := (hzf 0 (by omega)).trans hO
    have ff70 : z67 4 = qr ct 3 24 (gf) := (hzf 4 (by omega)).trans hgr
    have ff71 : z67 (44 + 8 * v) = .inr (1, [.ref (ke (G v).1), .int (iI ((ga : Int))), .int (iI ((G v).2.2.1)), .int (iI ((G v).2.2.2.1)), .ref (b + (44 + 8 * v + 1)), .ref (b + (44 + 8 * v + 3))]) := (hzf (44 + 8 * v) (by omega)).trans hq9
    have ff72 : z67 (44 + 8 * v + 1) = .inr (3, [.int (iI (1)), .ref (b + (44 + 8 * v + 2))]) := (hzf (44 + 8 * v + 1) (by omega)).trans hg1
    have ff73 : z67 (44 + 8 * v + 2) = ir ct 8 (gp) := (hzf (44 + 8 * v + 2) (by omega)).trans hg2
    have ff74 : z67 (44 + 8 * ga) = .inr (1, [.ref (ke (G ga).1), .int (iI ((G ga).2.1)), .int (iI ((G ga).2.2.1)), .int (iI ((G ga).2.2.2.1)), .ref (b + (44 + 8 * ga + 1)), .ref (b + (44 + 8 * ga + 3))]) := (hzf (44 + 8 * ga) (by omega)).trans hgag
    have ff75 : z67 (44 + 8 * ga + 3) = .inr (4, [.int (iI ((V ga).1)), .long (lI ((V ga).2.1)), .ref (b + (44 + 8 * ga + 4)), .ref (b + (44 + 8 * ga + 6))]) := (hzf (44 + 8 * ga + 3) (by omega)).trans xV.1
    have ff76 : z67 (44 + 8 * ga + 4) = .inr (3, [.int (iI (0)), .ref (b + (44 + 8 * ga + 5))]) := (hzf (44 + 8 * ga + 4) (by omega)).trans xV.2.1
    have ff77 : z67 (44 + 8 * ga + 5) = ir ct 32 (x0) := (hzf (44 + 8 * ga + 5) (by omega)).trans xV.2.2.1
    have ff78 : z67 (44 + 8 * ga + 6) = .inr (3, [.int (iI (0)), .ref (b + (44 + 8 * ga + 7))]) := (hzf (44 + 8 * ga + 6) (by omega)).trans xV.2.2.2.1
    have ff79 : z67 (44 + 8 * ga + 7) = ir ct 32 (x1) := (hzf (44 + 8 * ga + 7) (by omega)).trans xV.2.2.2.2
    have fr80 : ∀ j : Nat, (j = 0 ∨ (2 ≤ j ∧ j ≤ 4) ∨ (21 ≤ j ∧ (j < 47 + 8 * v ∨ 52 + 8 * v ≤ j))) → z67 j = u j := fun j h0 => (hzf j (by omega)).trans (fr0 j h0)
    have yR0 := xR0.of (d := y0) fun j h0 h1 => ya j h0 (by have := hgao.2.1; omega)
    have yR1 := xR1.of (d := y1) fun j h0 h1 => yb j h0 (by have := hgao.2.1; omega)
    have s1 : ∃ x, z67 1 = dr x := ⟨s1.choose, (hzf 1 (by omega)).trans s1.choose_spec⟩
    have s5 := s5.of (z := z67) fun j h0 h1 => hzf j (by omega)
    have s10 := s10.of (z := z67) fun j h0 h1 => hzf j (by omega)
    have s15 := s15.of (z := z67) fun j h0 h1 => hzf j (by omega)
    have s17 := s17.of (z := z67) fun j h0 h1 => hzf j (by omega)
    have s19 := s19.of (z := z67) fun j h0 h1 => hzf j (by omega)
    have xo := hgao
    have xl3 := xo.2.1
    have xm0 := xo.2.2.1
    have xm1 := xo.bd
    have xl0 := xo.1
    refine lv_aload_n hx hb d_R_giveValue_172 rfl (lv_at hl 1 rfl) ?_
    refine w_get (C := "LevelledRing$Gate") (T := T_G) (M := 6) hx hb hts hinG hown hK hP (44 + 8 * v) (by omega) ff71 rfl 5 (by decide) kk3 (fun _ h => h) rfl d_R_giveValue_173 ?_
    refine w_calli (va_runV (As := []) (rest := []) ⟨hx, hb, hml, hown, hts⟩ (c_lowerOnce l D ct st ke b N z67 (44 + 8 * v + 3) (V ga).1 (V ga).2.1 y0 y1 (by omega) ⟨yV.1, yV.2.1, yV.2.2.1, yV.2.2.2.1, yV.2.2.2.2⟩ xl0 xl3 xm0 (by omega) (V ga).2.2.1 (V ga).2.2.2 yR0 yR1) (cwV 0 hts (gV t_364 t_331 t_332 t_4 t_333) rfl rfl rfl (by decide +kernel) ⟨Nat.le_of_ble_eq_true rfl, Nat.le_of_ble_eq_true rfl⟩) (pre_V E hP hS (44 + 8 * v + 3) (by omega) yV.1 rfl) rfl rfl hl.1 rfl (lv_room (Nat.le_of_ble_eq_true rfl)) d_R_giveValue_176 ⟨(Nat.le_of_ble_eq_true rfl), (Nat.le_of_ble_eq_true rfl)⟩) hS (fun r z81 H locs hz hP hS => ?_)
    rcases hz with ⟨hq, hr, rfl⟩ | ⟨hq, hr, q0, q1, hVL, e0, e1, hzg⟩
    · subst hr
      refine ret 0 z67 H locs 179 ls (Or.inl rfl) ⟨?_, ⟨s1, s5, s10, s15, s17, s19⟩, fr80⟩ hP hS d_R_giveValue_179
      rw [show 47 + 8 * v = 44 + 8 * v + 3 by omega]
      exact Or.inr ⟨by unfold gv; rw [if_neg (by omega), if_neg (by omega), if_neg (by omega), if_neg (by omega), if_neg (by omega), hga]; exact low1_0 (by omega), rfl, ⟨_, _, _, _, ⟨yV.1, yV.2.1, yV.2.2.1, yV.2.2.2.1, yV.2.2.2.2⟩⟩⟩
    · subst hr
      have ff82 : z81 0 = .inr (5, [.ref (b + 1), .ref (b + 21), .ref (b + 2), .ref (b + 4), .int (iI ((n : Int))), .int (iI ((v : Int))), .ref (b + 5), .ref (b + 10), .ref (b + 15), .ref (b + 17), .ref (b + 19)]) := (hzg 0 (by omega)).trans ff69
      have ff83 : z81 4 = qr ct 3 24 (gf) := (hzg 4 (by omega)).trans ff70
      have ff84 : z81 (44 + 8 * v) = .inr (1, [.ref (ke (G v).1), .int (iI ((ga : Int))), .int (iI ((G v).2.2.1)), .int (iI ((G v).2.2.2.1)), .ref (b + (44 + 8 * v + 1)), .ref (b + (44 + 8 * v + 3))]) := (hzg (44 + 8 * v) (by omega)).trans ff71
      have ff85 : z81 (44 + 8 * v + 1) = .inr (3, [.int (iI (1)), .ref (b + (44 + 8 * v + 2))]) := (hzg (44 + 8 * v + 1) (by omega)).trans ff72
      have ff86 : z81 (44 + 8 * v + 2) = ir ct 8 (gp) := (hzg (44 + 8 * v + 2) (by omega)).trans ff73
      have ff87 : z81 (44 + 8 * ga) = .inr (1, [.ref (ke (G ga).1), .int (iI ((G ga).2.1)), .int (iI ((G ga).2.2.1)), .int (iI ((G ga).2.2.2.1)), .ref (b + (44 + 8 * ga + 1)), .ref (b + (44 + 8 * ga + 3))]) := (hzg (44 + 8 * ga) (by omega)).trans ff74
      have ff88 : z81 (44 + 8 * ga + 3) = .inr (4, [.int (iI ((V ga).1)), .long (lI ((V ga).2.1)), .ref (b + (44 + 8 * ga + 4)), .ref (b + (44 + 8 * ga + 6))]) := (hzg (44 + 8 * ga + 3) (by omega)).trans ff75
      have ff89 : z81 (44 + 8 * ga + 4) = .inr (3, [.int (iI (0)), .ref (b + (44 + 8 * ga + 5))]) := (hzg (44 + 8 * ga + 4) (by omega)).trans ff76
      have ff90 : z81 (44 + 8 * ga + 5) = ir ct 32 (x0) := (hzg (44 + 8 * ga + 5) (by omega)).trans ff77
      have ff91 : z81 (44 + 8 * ga + 6) = .inr (3, [.int (iI (0)), .ref (b + (44 + 8 * ga + 7))]) := (hzg (44 + 8 * ga + 6) (by omega)).trans ff78
      have ff92 : z81 (44 + 8 * ga + 7) = ir ct 32 (x1) := (hzg (44 + 8 * ga + 7) (by omega)).trans ff79
      have fr93 : ∀ j : Nat, (j = 0 ∨ (2 ≤ j ∧ j ≤ 4) ∨ (21 ≤ j ∧ (j < 47 + 8 * v ∨ 52 + 8 * v ≤ j))) → z81 j = u j := fun j h0 => (hzg j (by omega)).trans (fr80 j h0)
      have s1 : ∃ x, z81 1 = dr x := ⟨s1.choose, (hzg 1 (by omega)).trans s1.choose_spec⟩
      have s5 := s5.of (z := z81) fun j h0 h1 => hzg j (by omega)
      have s10 := s10.of (z := z81) fun j h0 h1 => hzg j (by omega)
      have s15 := s15.of (z := z81) fun j h0 h1 => hzg j (by omega)
      have s17 := s17.of (z := z81) fun j h0 h1 => hzg j (by omega)
      have s19 := s19.of (z := z81) fun j h0 h1 => hzg j (by omega)
      have hLL : VV ct b z81 (44 + 8 * v + 3) (lw1 (V ga)) := ⟨q0, q1, hVL, e0.mod (by omega), e1.mod (by omega)⟩
      have ht := tg_01 ((V ga).1 - 1) ((V ga).2.1 / lq (V ga).1 + 77)
      refine ret _ z81 H locs 179 ls (by omega) ⟨?_, ⟨s1, s5, s10, s15, s17, s19⟩, fr93⟩ hP hS d_R_giveValue_179
      rw [show 47 + 8 * v = 44 + 8 * v + 3 by omega]
      rcases ht with ht | ht
      · exact Or.inl ⟨lw1 (V ga), by unfold gv; rw [if_neg (by omega), if_neg (by omega), if_neg (by omega), if_neg (by omega), if_neg (by omega), hga]; exact low1_s hq ht, by rw [ht]; rfl, hLL⟩
      · exact Or.inr ⟨by unfold gv; rw [if_neg (by omega), if_neg (by omega), if_neg (by omega), if_neg (by omega), if_neg (by omega), hga]; exact low1_n hq ht, by rw [ht]; rfl, hLL.VS⟩
