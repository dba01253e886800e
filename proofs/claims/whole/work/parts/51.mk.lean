abbrev rm_c_Mlevel : Room := { frames := 2, cells := 0, slots := 0, locals := 42 }
set_option maxHeartbeats 4000000 in
set_option maxRecDepth 100000 in
/-- level(x) -/
theorem c_Mlevel (l : Launch) (D : va_G) (ct : Nat → ClassId) (st ke : Nat → Nat) (b N : Nat) (u : Nat → va_E) (hN : 254 ≤ N) (K : Ky) (okk : okK K) (n v : Nat) (msg : Int → Int) (G : Int → Gt) (V : Int → Val) (hC : MS ct b u K n v msg G V) (hI : PI n v msg G V) (x : Int) (hx0 : r32 x) : Met l y_M_level (w_M_level) rm_c_Mlevel (va_Pc [.ref (b + 236), .int (iI (x))] (fun U => ev D ct st ke b U ∧ va_P D vwCl (wl N b u) U.heap)) (va_Qi (fun (r : Int32) (z : Nat → va_E) => r = iI (if 0 ≤ x ∧ x < v then (V x).1 else -1) ∧ u = z) (fun (z : Nat → va_E) t => va_P D vwCl (wl (N) b (z)) t.heap) (AA b)) 0 0 (AA b) := by
  refine M_i (cc := c9_M_level) (maxL := 2) (by decide) rfl (Nat.le_of_ble_eq_true rfl) ?_
  intro p e s m args below meth c Q ls H locs hx hb hml hown hts hnm E hP hS hl ret
  have hl : lv_has ls 2 [(0, .ref (b + 236)), (1, .int (iI (x)))] := hl
  have hK := ev_K E
  have kk0 := hts (.fieldLink "LevelledRingModel" 48 "LevelledRingModel" "level" "[I") (List.mem_cons_of_mem _ t_507)
  have hinM : ∀ w ∈ u_ws "LevelledRingModel" T_M 19, w ∈ (w_M_level) := hin_M _
  have hn24 := hI.1
  have hvn := hI.2.1
  have hC9 := hC
  obtain ⟨z0, R, sm, ms, kd, fi, se, pl, hs, lv, mt, wv, wm, vv, hW, hkR, hms, hMG, hMH, hMV⟩ := hC
  obtain ⟨mM, ⟨⟨pr, hp1, hp2⟩, ⟨bg, hb1, hb2⟩, ut, hut1, hut2⟩, ⟨sc, hs1, hs2⟩, m0, m1, m2, m3, m4, m5, m6, m7, m8, m9, m10, m11, m12⟩ := hW
  refine lv_aload_n hx hb d_M_level_0 rfl (lv_at hl 0 rfl) ?_
  refine lv_iload_n hx hb d_M_level_1 rfl (lv_at hl 1 rfl) ?_
  refine w_calli (va_runV (As := [.int (iI (x))]) (rest := []) ⟨hx, hb, hml, hown, hts⟩ (c_valued l D ct st ke b N u (by omega) K okk n v msg G V hC9 hI (x) hx0) (cwV 1 hts (gV t_664 t_666 (tb_sel ((y_M_valued), 19) (List.mem_of_getElem? (i := 33) (by decide +kernel))) t_9 t_667) rfl rfl rfl (by decide +kernel) ⟨Nat.le_of_ble_eq_true rfl, Nat.le_of_ble_eq_true rfl⟩) (pre_V E hP hS (236) (by omega) mM rfl) rfl rfl hl.1 rfl (lv_room (Nat.le_of_ble_eq_true rfl)) d_M_level_2 ⟨(Nat.le_of_ble_eq_true rfl), (Nat.le_of_ble_eq_true rfl)⟩) hS (fun r2 z1 H locs hz hP hS => ?_)
  obtain ⟨rfl, rfl⟩ := hz
  have hi01 := inb_01 (x) (v : Int)
  refine x_if_eq (tgt := 17) hx hb ⟨by omega, by omega⟩ d_M_level_5 (by decide) (fun hc => ?_) (fun hc => ?_)
  · refine lv_iconst (v := iI (-1)) hx hb d_M_level_17 rfl ?_
    refine x_ie (y := if 0 ≤ x ∧ x < v then (V x).1 else -1) (by rw [if_neg (inb_z hc)]) ?_
    exact ret _ u H locs 18 ls ⟨rfl, rfl⟩ hP hS d_M_level_18
  · have hxv := inb_n hc
    refine lv_aload_n hx hb d_M_level_8 rfl (lv_at hl 0 rfl) ?_
    refine w_get (C := "LevelledRingModel") (T := T_M) (M := 19) hx hb hts hinM hown hK hP (236) (by omega) mM rfl 14 (by decide) kk0 (fun _ h => h) rfl d_M_level_9 ?_
    refine lv_iload_n hx hb d_M_level_12 rfl (lv_at hl 1 rfl) ?_
    refine w_iald hx hb hK hP (249) (by omega) m8 (by omega) (by omega) (by omega) d_M_level_13 ?_
    refine x_ie (y := if 0 ≤ x ∧ x < v then (V x).1 else -1) (by rw [if_pos hxv]; exact (hMV x hxv.1 hxv.2).1) ?_
    refine lv_goto (tgt := 18) hx hb d_M_level_14 (by decide) ?_
    exact ret _ u H locs 18 ls ⟨rfl, rfl⟩ hP hS d_M_level_18
abbrev rm_c_Mmeter : Room := { frames := 2, cells := 0, slots := 0, locals := 42 }
set_option maxHeartbeats 4000000 in
set_option maxRecDepth 100000 in
/-- meter(x) -/
theorem c_Mmeter (l : Launch) (D : va_G) (ct : Nat → ClassId) (st ke : Nat → Nat) (b N : Nat) (u : Nat → va_E) (hN : 254 ≤ N) (K : Ky) (okk : okK K) (n v : Nat) (msg : Int → Int) (G : Int → Gt) (V : Int → Val) (hC : MS ct b u K n v msg G V) (hI : PI n v msg G V) (x : Int) (hx0 : r32 x) : Met l y_M_meter (w_M_meter) rm_c_Mmeter (va_Pc [.ref (b + 236), .int (iI (x))] (fun U => ev D ct st ke b U ∧ va_P D vwCl (wl N b u) U.heap)) (va_Ql (fun (r : Int64) (z : Nat → va_E) => r = lI (if 0 ≤ x ∧ x < v then (V x).2.1 else -1) ∧ u = z) (fun (z : Nat → va_E) t => va_P D vwCl (wl (N) b (z)) t.heap) (AA b)) 0 0 (AA b) := by
  refine M_l (cc := c9_M_meter) (maxL := 2) (by decide) rfl (Nat.le_of_ble_eq_true rfl) ?_
  intro p e s m args below meth c Q ls H locs hx hb hml hown hts hnm E hP hS hl ret
  have hl : lv_has ls 2 [(0, .ref (b + 236)), (1, .int (iI (x)))] := hl
  have hK := ev_K E
  have kk0 := hts (.constantLong "LevelledRingModel" 172 (-1)) (List.mem_cons_of_mem _ t_672)
  have kk1 := hts (.fieldLink "LevelledRingModel" 51 "LevelledRingModel" "meter" "[J") (List.mem_cons_of_mem _ t_508)
  have hinM : ∀ w ∈ u_ws "LevelledRingModel" T_M 19, w ∈ (w_M_meter) := hin_M _
  have hn24 := hI.1
  have hvn := hI.2.1
  have hC9 := hC
  obtain ⟨z0, R, sm, ms, kd, fi, se, pl, hs, lv, mt, wv, wm, vv, hW, hkR, hms, hMG, hMH, hMV⟩ := hC
  obtain ⟨mM, ⟨⟨pr, hp1, hp2⟩, ⟨bg, hb1, hb2⟩, ut, hut1, hut2⟩, ⟨sc, hs1, hs2⟩, m0, m1, m2, m3, m4, m5, m6, m7, m8, m9, m10, m11, m12⟩ := hW
  refine lv_aload_n hx hb d_M_meter_0 rfl (lv_at hl 0 rfl) ?_
  refine lv_iload_n hx hb d_M_meter_1 rfl (lv_at hl 1 rfl) ?_
  refine w_calli (va_runV (As := [.int (iI (x))]) (rest := []) ⟨hx, hb, hml, hown, hts⟩ (c_valued l D ct st ke b N u (by omega) K okk n v msg G V hC9 hI (x) hx0) (cwV 1 hts (gV t_664 t_666 (tb_sel ((y_M_valued), 19) (List.mem_of_getElem? (i := 33) (by decide +kernel))) t_9 t_667) rfl rfl rfl (by decide +kernel) ⟨Nat.le_of_ble_eq_true rfl, Nat.le_of_ble_eq_true rfl⟩) (pre_V E hP hS (236) (by omega) mM rfl) rfl rfl hl.1 rfl (lv_room (Nat.le_of_ble_eq_true rfl)) d_M_meter_2 ⟨(Nat.le_of_ble_eq_true rfl), (Nat.le_of_ble_eq_true rfl)⟩) hS (fun r2 z1 H locs hz hP hS => ?_)
  obtain ⟨rfl, rfl⟩ := hz
  have hi01 := inb_01 (x) (v : Int)
  refine x_if_eq (tgt := 17) hx hb ⟨by omega, by omega⟩ d_M_meter_5 (by decide) (fun hc => ?_) (fun hc => ?_)
  · refine lv_ldc2 hx hb hown kk0 d_M_meter_17 ?_
    refine x_l (y := lI (-1)) (by decide +kernel) ?_
    refine x_le (y := if 0 ≤ x ∧ x < v then (V x).2.1 else -1) (by rw [if_neg (inb_z hc)]) ?_
    exact ret _ u H locs 20 ls ⟨rfl, rfl⟩ hP hS d_M_meter_20
  · have hxv := inb_n hc
    refine lv_aload_n hx hb d_M_meter_8 rfl (lv_at hl 0 rfl) ?_
    refine w_get (C := "LevelledRingModel") (T := T_M) (M := 19) hx hb hts hinM hown hK hP (236) (by omega) mM rfl 15 (by decide) kk1 (fun _ h => h) rfl d_M_meter_9 ?_
    refine lv_iload_n hx hb d_M_meter_12 rfl (lv_at hl 1 rfl) ?_
    refine w_lald hx hb hK hP (250) (by omega) m9 (by omega) (by omega) (by omega) d_M_meter_13 ?_
    refine x_le (y := if 0 ≤ x ∧ x < v then (V x).2.1 else -1) (by rw [if_pos hxv]; exact (hMV x hxv.1 hxv.2).2.1) ?_
    refine lv_goto (tgt := 20) hx hb d_M_meter_14 (by decide) ?_
    exact ret _ u H locs 20 ls ⟨rfl, rfl⟩ hP hS d_M_meter_20
abbrev rm_c_Mplain : Room := { frames := 1, cells := 0, slots := 0, locals := 21 }
set_option maxHeartbeats 4000000 in
set_option maxRecDepth 100000 in
/-- plain(x, y) -/
theorem c_Mplain (l : Launch) (D : va_G) (ct : Nat → ClassId) (st ke : Nat → Nat) (b N : Nat) (u : Nat → va_E) (hN : 254 ≤ N) (K : Ky) (okk : okK K) (n v : Nat) (msg : Int → Int) (G : Int → Gt) (V : Int → Val) (hC : MS ct b u K n v msg G V) (hI : PI n v msg G V) (x y : Int) (hx0 : r32 x) (hy0 : r32 y) : Met l y_M_plain (w_M_plain) rm_c_Mplain (va_Pc [.ref (b + 236), .int (iI (x)), .int (iI (y))] (fun U => ev D ct st ke b U ∧ va_P D vwCl (wl N b u) U.heap)) (va_Qi (fun (r : Int32) (z : Nat → va_E) => r = iI (if (0 ≤ x ∧ x < n) ∧ 0 ≤ y ∧ y < 8 then (G x).2.2.2.2 y else -1) ∧ u = z) (fun (z : Nat → va_E) t => va_P D vwCl (wl (N) b (z)) t.heap) (AA b)) 0 0 (AA b) := by
  refine M_i (cc := c9_M_plain) (maxL := 3) (by decide) rfl (Nat.le_of_ble_eq_true rfl) ?_
  intro p e s m args below meth c Q ls H locs hx hb hml hown hts hnm E hP hS hl ret
  have hl : lv_has ls 3 [(0, .ref (b + 236)), (1, .int (iI (x))), (2, .int (iI (y)))] := hl
  have hK := ev_K E
  have kk0 := hts (.fieldLink "LevelledRingModel" 41 "LevelledRingModel" "plain" "[I") (List.mem_cons_of_mem _ t_505)
  have hinM : ∀ w ∈ u_ws "LevelledRingModel" T_M 19, w ∈ (w_M_plain) := hin_M _
  have hn24 := hI.1
  have hvn := hI.2.1
  have hC9 := hC
  obtain ⟨z0, R, sm, ms, kd, fi, se, pl, hs, lv, mt, wv, wm, vv, hW, hkR, hms, hMG, hMH, hMV⟩ := hC
  obtain ⟨mM, ⟨⟨pr, hp1, hp2⟩, ⟨bg, hb1, hb2⟩, ut, hut1, hut2⟩, ⟨sc, hs1, hs2⟩, m0, m1, m2, m3, m4, m5, m6, m7, m8, m9, m10, m11, m12⟩ := hW
  refine lv_aload_n hx hb d_M_plain_0 rfl (lv_at hl 0 rfl) ?_
  refine lv_iload_n hx hb d_M_plain_1 rfl (lv_at hl 1 rfl) ?_
  refine w_calli (va_runV (As := [.int (iI (x))]) (rest := []) ⟨hx, hb, hml, hown, hts⟩ (c_MisGate l D ct st ke b N u (by omega) z0 n hn24 mM (x) hx0) (cwV 1 hts (gV t_581 t_583 (tb_sel ((y_M_isGate), 19) (List.mem_of_getElem? (i := 22) (by decide +kernel))) t_9 t_584) rfl rfl rfl (by decide +kernel) ⟨Nat.le_of_ble_eq_true rfl, Nat.le_of_ble_eq_true rfl⟩) (pre_V E hP hS (236) (by omega) mM rfl) rfl rfl hl.1 rfl (lv_room (Nat.le_of_ble_eq_true rfl)) d_M_plain_2 ⟨(Nat.le_of_ble_eq_true rfl), (Nat.le_of_ble_eq_true rfl)⟩) hS (fun r2 z1 H locs hz hP hS => ?_)
  obtain ⟨rfl, rfl⟩ := hz
  have hi01 := inb_01 (x) (n : Int)
  refine x_if_eq (tgt := 18) hx hb ⟨by omega, by omega⟩ d_M_plain_5 (by decide) (fun hc => ?_) (fun hc => ?_)
  · refine lv_iconst (v := iI (-1)) hx hb d_M_plain_18 rfl ?_
    refine lv_goto (tgt := 33) hx hb d_M_plain_19 (by decide) ?_
    refine x_ie (y := if (0 ≤ x ∧ x < n) ∧ 0 ≤ y ∧ y < 8 then (G x).2.2.2.2 y else -1) (by rw [if_neg (fun h => inb_z hc h.1)]) ?_
    exact ret _ u H locs 33 ls ⟨rfl, rfl⟩ hP hS d_M_plain_33
  · have hxv := inb_n hc
    refine lv_iload_n hx hb d_M_plain_8 rfl (lv_at hl 2 rfl) ?_
    refine x_if_lt (tgt := 18) hx hb hy0 d_M_plain_9 (by decide) (fun hd => ?_) (fun hd => ?_)
    · refine lv_iconst (v := iI (-1)) hx hb d_M_plain_18 rfl ?_
      refine lv_goto (tgt := 33) hx hb d_M_plain_19 (by decide) ?_
      refine x_ie (y := if (0 ≤ x ∧ x < n) ∧ 0 ≤ y ∧ y < 8 then (G x).2.2.2.2 y else -1) (by rw [if_neg (fun h => by have := h.2; omega)]) ?_
      exact ret _ u H locs 33 ls ⟨rfl, rfl⟩ hP hS d_M_plain_33
    · refine lv_iload_n hx hb d_M_plain_12 rfl (lv_at hl 2 rfl) ?_
      refine lv_bipush (v := iI (7)) hx hb d_M_plain_13 (by decide +kernel) ?_
      refine x_icmp_le (tgt := 22) hx hb hy0 ⟨by omega, by omega⟩ d_M_plain_15 (by decide) (fun he => ?_) (fun he => ?_)
      · refine lv_aload_n hx hb d_M_plain_22 rfl (lv_at hl 0 rfl) ?_
        refine w_get (C := "LevelledRingModel") (T := T_M) (M := 19) hx hb hts hinM hown hK hP (236) (by omega) mM rfl 12 (by decide) kk0 (fun _ h => h) rfl d_M_plain_23 ?_
        refine lv_bipush (v := iI (8)) hx hb d_M_plain_26 (by decide +kernel) ?_
        refine lv_iload_n hx hb d_M_plain_28 rfl (lv_at hl 1 rfl) ?_
        refine x_imul hx hb d_M_plain_29 ?_
        refine lv_iload_n hx hb d_M_plain_30 rfl (lv_at hl 2 rfl) ?_
        refine x_iadd hx hb d_M_plain_31 ?_
        refine w_iald hx hb hK hP (247) (by omega) m6 (by omega) (by omega) (by omega) d_M_plain_32 ?_
        refine x_ie (y := if (0 ≤ x ∧ x < n) ∧ 0 ≤ y ∧ y < 8 then (G x).2.2.2.2 y else -1) (by rw [if_pos ⟨hxv, by omega, by omega⟩]; exact (hMG x hxv.1 hxv.2).2.2.2 y (by omega) (by omega)) ?_
        exact ret _ u H locs 33 ls ⟨rfl, rfl⟩ hP hS d_M_plain_33
      · refine lv_iconst (v := iI (-1)) hx hb d_M_plain_18 rfl ?_
        refine lv_goto (tgt := 33) hx hb d_M_plain_19 (by decide) ?_
        refine x_ie (y := if (0 ≤ x ∧ x < n) ∧ 0 ≤ y ∧ y < 8 then (G x).2.2.2.2 y else -1) (by rw [if_neg (fun h => by have := h.2; omega)]) ?_
        exact ret _ u H locs 33 ls ⟨rfl, rfl⟩ hP hS d_M_plain_33
abbrev rm_c_Msecret : Room := { frames := 0, cells := 0, slots := 0, locals := 0 }
set_option maxHeartbeats 4000000 in
set_option maxRecDepth 100000 in
/-- secret(x) -/
theorem c_Msecret (l : Launch) (D : va_G) (ct : Nat → ClassId) (st ke : Nat → Nat) (b N : Nat) (u : Nat → va_E) (hN : 254 ≤ N) (K : Ky) (okk : okK K) (n v : Nat) (msg : Int → Int) (G : Int → Gt) (V : Int → Val) (hC : MS ct b u K n v msg G V) (hI : PI n v msg G V) (x : Int) (hx0 : r32 x) : Met l y_M_secret (w_M_secret) rm_c_Msecret (va_Pc [.ref (b + 236), .int (iI (x))] (fun U => ev D ct st ke b U ∧ va_P D vwCl (wl N b u) U.heap)) (va_Qi (fun (r : Int32) (z : Nat → va_E) => r = iI (if 0 ≤ x ∧ x < 8 then K.1 x else 0) ∧ u = z) (fun (z : Nat → va_E) t => va_P D vwCl (wl (N) b (z)) t.heap) (AA b)) 0 0 (AA b) := by
  refine M_i (cc := c9_M_secret) (maxL := 2) (by decide) rfl (Nat.le_of_ble_eq_true rfl) ?_
  intro p e s m args below meth c Q ls H locs hx hb hml hown hts hnm E hP hS hl ret
  have hl : lv_has ls 2 [(0, .ref (b + 236)), (1, .int (iI (x)))] := hl
  have hK := ev_K E
  have kk0 := hts (.fieldLink "LevelledRingModel" 23 "LevelledRingModel" "secret" "[I") (List.mem_cons_of_mem _ t_497)
  have hinM : ∀ w ∈ u_ws "LevelledRingModel" T_M 19, w ∈ (w_M_secret) := hin_M _
  have hn24 := hI.1
  have hvn := hI.2.1
  have hC9 := hC
  obtain ⟨z0, R, sm, ms, kd, fi, se, pl, hs, lv, mt, wv, wm, vv, hW, hkR, hms, hMG, hMH, hMV⟩ := hC
  obtain ⟨mM, ⟨⟨pr, hp1, hp2⟩, ⟨bg, hb1, hb2⟩, ut, hut1, hut2⟩, ⟨sc, hs1, hs2⟩, m0, m1, m2, m3, m4, m5, m6, m7, m8, m9, m10, m11, m12⟩ := hW
  refine lv_iload_n hx hb d_M_secret_0 rfl (lv_at hl 1 rfl) ?_
  refine x_if_lt (tgt := 10) hx hb hx0 d_M_secret_1 (by decide) (fun hd => ?_) (fun hd => ?_)
  · refine lv_iconst (v := iI (0)) hx hb d_M_secret_10 rfl ?_
    refine lv_goto (tgt := 20) hx hb d_M_secret_11 (by decide) ?_
    refine x_ie (y := if 0 ≤ x ∧ x < 8 then K.1 x else 0) (by rw [if_neg (fun h => by omega)]) ?_
    exact ret _ u H locs 20 ls ⟨rfl, rfl⟩ hP hS d_M_secret_20
  · refine lv_iload_n hx hb d_M_secret_4 rfl (lv_at hl 1 rfl) ?_
    refine lv_bipush (v := iI (7)) hx hb d_M_secret_5 (by decide +kernel) ?_
    refine x_icmp_le (tgt := 14) hx hb hx0 ⟨by omega, by omega⟩ d_M_secret_7 (by decide) (fun he => ?_) (fun he => ?_)
    · refine lv_aload_n hx hb d_M_secret_14 rfl (lv_at hl 0 rfl) ?_
      refine w_get (C := "LevelledRingModel") (T := T_M) (M := 19) hx hb hts hinM hown hK hP (236) (by omega) mM rfl 4 (by decide) kk0 (fun _ h => h) rfl d_M_secret_15 ?_
      refine lv_iload_n hx hb d_M_secret_18 rfl (lv_at hl 1 rfl) ?_
      refine w_iald hx hb hK hP (241) (by omega) hs1 (by omega) (by omega) (by omega) d_M_secret_19 ?_
      refine x_ie (y := if 0 ≤ x ∧ x < 8 then K.1 x else 0) (by rw [if_pos ⟨by omega, by omega⟩]; exact hs2 x (by omega) (by omega)) ?_
      exact ret _ u H locs 20 ls ⟨rfl, rfl⟩ hP hS d_M_secret_20
    · refine lv_iconst (v := iI (0)) hx hb d_M_secret_10 rfl ?_
      refine lv_goto (tgt := 20) hx hb d_M_secret_11 (by decide) ?_
      refine x_ie (y := if 0 ≤ x ∧ x < 8 then K.1 x else 0) (by rw [if_neg (fun h => by omega)]) ?_
      exact ret _ u H locs 20 ls ⟨rfl, rfl⟩ hP hS d_M_secret_20
abbrev rm_c_Mpart : Room := { frames := 2, cells := 0, slots := 0, locals := 42 }
set_option maxHeartbeats 4000000 in
set_option maxRecDepth 100000 in
/-- part(x, y, t) -/
theorem c_Mpart (l : Launch) (D : va_G) (ct : Nat → ClassId) (st ke : Nat → Nat) (b N : Nat) (u : Nat → va_E) (hN : 254 ≤ N) (K : Ky) (okk : okK K) (n v : Nat) (msg : Int → Int) (G : Int → Gt) (V : Int → Val) (hC : MS ct b u K n v msg G V) (hI : PI n v msg G V) (x y t : Int) (hx0 : r32 x) (hy0 : r32 y) (ht0 : r32 t) : Met l y_M_part (w_M_part) rm_c_Mpart (va_Pc [.ref (b + 236), .int (iI (x)), .int (iI (y)), .int (iI (t))] (fun U => ev D ct st ke b U ∧ va_P D vwCl (wl N b u) U.heap)) (va_Ql (fun (r : Int64) (z : Nat → va_E) => r = lI (if (0 ≤ x ∧ x < v) ∧ (0 ≤ y ∧ y ≤ 1) ∧ 0 ≤ t ∧ t < 8 then (if y = 0 then (V x).2.2.1 t else (V x).2.2.2 t) else -1) ∧ u = z) (fun (z : Nat → va_E) t => va_P D vwCl (wl (N) b (z)) t.heap) (AA b)) 0 0 (AA b) := by
  refine M_l (cc := c9_M_part) (maxL := 4) (by decide) rfl (Nat.le_of_ble_eq_true rfl) ?_
  intro p e s m args below meth c Q ls H locs hx hb hml hown hts hnm E hP hS hl ret
  have hl : lv_has ls 4 [(0, .ref (b + 236)), (1, .int (iI (x))), (2, .int (iI (y))), (3, .int (iI (t)))] := hl
  have hK := ev_K E
  have kk0 := hts (.constantLong "LevelledRingModel" 172 (-1)) (List.mem_cons_of_mem _ t_672)
  have kk1 := hts (.fieldLink "LevelledRingModel" 7 "LevelledRingModel" "row" "[J") (List.mem_cons_of_mem _ t_493)
  have hinM : ∀ w ∈ u_ws "LevelledRingModel" T_M 19, w ∈ (w_M_part) := hin_M _
  have hn24 := hI.1
  have hvn := hI.2.1
  have hC9 := hC
  obtain ⟨z0, R, sm, ms, kd, fi, se, pl, hs, lv, mt, wv, wm, vv, hW, hkR, hms, hMG, hMH, hMV⟩ := hC
  obtain ⟨mM, ⟨⟨pr, hp1, hp2⟩, ⟨bg, hb1, hb2⟩, ut, hut1, hut2⟩, ⟨sc, hs1, hs2⟩, m0, m1, m2, m3, m4, m5, m6, m7, m8, m9, m10, m11, m12⟩ := hW
  refine lv_aload_n hx hb d_M_part_0 rfl (lv_at hl 0 rfl) ?_
  refine lv_iload_n hx hb d_M_part_1 rfl (lv_at hl 1 rfl) ?_
  refine w_calli (va_runV (As := [.int (iI (x))]) (rest := []) ⟨hx, hb, hml, hown, hts⟩ (c_valued l D ct st ke b N u (by omega) K okk n v msg G V hC9 hI (x) hx0) (cwV 1 hts (gV t_664 t_666 (tb_sel ((y_M_valued), 19) (List.mem_of_getElem? (i := 33) (by decide +kernel))) t_9 t_667) rfl rfl rfl (by decide +kernel) ⟨Nat.le_of_ble_eq_true rfl, Nat.le_of_ble_eq_true rfl⟩) (pre_V E hP hS (236) (by omega) mM rfl) rfl rfl hl.1 rfl (lv_room (Nat.le_of_ble_eq_true rfl)) d_M_part_2 ⟨(Nat.le_of_ble_eq_true rfl), (Nat.le_of_ble_eq_true rfl)⟩) hS (fun r2 z1 H locs hz hP hS => ?_)
  obtain ⟨rfl, rfl⟩ := hz
  have hi01 := inb_01 (x) (v : Int)
  refine x_if_eq (tgt := 27) hx hb ⟨by omega, by omega⟩ d_M_part_5 (by decide) (fun hc => ?_) (fun hc => ?_)
  · refine lv_ldc2 hx hb hown kk0 d_M_part_27 ?_
    refine x_l (y := lI (-1)) (by decide +kernel) ?_
    refine lv_goto (tgt := 51) hx hb d_M_part_30 (by decide) ?_
    refine x_le (y := if (0 ≤ x ∧ x < v) ∧ (0 ≤ y ∧ y ≤ 1) ∧ 0 ≤ t ∧ t < 8 then (if y = 0 then (V x).2.2.1 t else (V x).2.2.2 t) else -1) (by rw [if_neg (fun h => inb_z hc h.1)]) ?_
    exact ret _ u H locs 51 ls ⟨rfl, rfl⟩ hP hS d_M_part_51
  · have hxv := inb_n hc
    refine lv_iload_n hx hb d_M_part_8 rfl (lv_at hl 2 rfl) ?_
    refine x_if_lt (tgt := 27) hx hb hy0 d_M_part_9 (by decide) (fun hd => ?_) (fun hd => ?_)
    · refine lv_ldc2 hx hb hown kk0 d_M_part_27 ?_
      refine x_l (y := lI (-1)) (by decide +kernel) ?_
      refine lv_goto (tgt := 51) hx hb d_M_part_30 (by decide) ?_
      refine x_le (y := if (0 ≤ x ∧ x < v) ∧ (0 ≤ y ∧ y ≤ 1) ∧ 0 ≤ t ∧ t < 8 then (if y = 0 then (V x).2.2.1 t else (V x).2.2.2 t) else -1) (by rw [if_neg (fun h => by have := h.2; omega)]) ?_
      exact ret _ u H locs 51 ls ⟨rfl, rfl⟩ hP hS d_M_part_51
    · refine lv_iload_n hx hb d_M_part_12 rfl (lv_at hl 2 rfl) ?_
      refine lv_iconst (v := iI (1)) hx hb d_M_part_13 rfl ?_
      refine x_icmp_gt (tgt := 27) hx hb hy0 ⟨by omega, by omega⟩ d_M_part_14 (by decide) (fun he => ?_) (fun he => ?_)
      · refine lv_ldc2 hx hb hown kk0 d_M_part_27 ?_
        refine x_l (y := lI (-1)) (by decide +kernel) ?_
        refine lv_goto (tgt := 51) hx hb d_M_part_30 (by decide) ?_
        refine x_le (y := if (0 ≤ x ∧ x < v) ∧ (0 ≤ y ∧ y ≤ 1) ∧ 0 ≤ t ∧ t < 8 then (if y = 0 then (V x).2.2.1 t else (V x).2.2.2 t) else -1) (by rw [if_neg (fun h => by have := h.2; omega)]) ?_
        exact ret _ u H locs 51 ls ⟨rfl, rfl⟩ hP hS d_M_part_51
      · refine lv_iload_n hx hb d_M_part_17 rfl (lv_at hl 3 rfl) ?_
        refine x_if_lt (tgt := 27) hx hb ht0 d_M_part_18 (by decide) (fun hf => ?_) (fun hf => ?_)
        · refine lv_ldc2 hx hb hown kk0 d_M_part_27 ?_
          refine x_l (y := lI (-1)) (by decide +kernel) ?_
          refine lv_goto (tgt := 51) hx hb d_M_part_30 (by decide) ?_
          refine x_le (y := if (0 ≤ x ∧ x < v) ∧ (0 ≤ y ∧ y ≤ 1) ∧ 0 ≤ t ∧ t < 8 then (if y = 0 then (V x).2.2.1 t else (V x).2.2.2 t) else -1) (by rw [if_neg (fun h => by have := h.2; omega)]) ?_
          exact ret _ u H locs 51 ls ⟨rfl, rfl⟩ hP hS d_M_part_51
        · refine lv_iload_n hx hb d_M_part_21 rfl (lv_at hl 3 rfl) ?_
          refine lv_bipush (v := iI (7)) hx hb d_M_part_22 (by decide +kernel) ?_
          refine x_icmp_le (tgt := 33) hx hb ht0 ⟨by omega, by omega⟩ d_M_part_24 (by decide) (fun hg => ?_) (fun hg => ?_)
          · refine lv_aload_n hx hb d_M_part_33 rfl (lv_at hl 0 rfl) ?_
            refine w_get (C := "LevelledRingModel") (T := T_M) (M := 19) hx hb hts hinM hown hK hP (236) (by omega) mM rfl 0 (by decide) kk1 (fun _ h => h) rfl d_M_part_34 ?_
            refine lv_bipush (v := iI (8)) hx hb d_M_part_37 (by decide +kernel) ?_
            refine lv_bipush (v := iI (8)) hx hb d_M_part_39 (by decide +kernel) ?_
            refine lv_iconst (v := iI (2)) hx hb d_M_part_41 rfl ?_
            refine lv_iload_n hx hb d_M_part_42 rfl (lv_at hl 1 rfl) ?_
            refine x_imul hx hb d_M_part_43 ?_
            refine x_iadd hx hb d_M_part_44 ?_
            refine lv_iload_n hx hb d_M_part_45 rfl (lv_at hl 2 rfl) ?_
            refine x_iadd hx hb d_M_part_46 ?_
            refine x_imul hx hb d_M_part_47 ?_
            refine lv_iload_n hx hb d_M_part_48 rfl (lv_at hl 3 rfl) ?_
            refine x_iadd hx hb d_M_part_49 ?_
            refine w_lald hx hb hK hP (237) (by omega) m0 (by omega) (by omega) (by omega) d_M_part_50 ?_
            refine x_le (y := if (0 ≤ x ∧ x < v) ∧ (0 ≤ y ∧ y ≤ 1) ∧ 0 ≤ t ∧ t < 8 then (if y = 0 then (V x).2.2.1 t else (V x).2.2.2 t) else -1) (by rw [if_pos ⟨hxv, ⟨by omega, by omega⟩, by omega, by omega⟩]; exact GV_part (hMV x hxv.1 hxv.2) (by omega) (by omega) (by omega)) ?_
            exact ret _ u H locs 51 ls ⟨rfl, rfl⟩ hP hS d_M_part_51
          · refine lv_ldc2 hx hb hown kk0 d_M_part_27 ?_
            refine x_l (y := lI (-1)) (by decide +kernel) ?_
            refine lv_goto (tgt := 51) hx hb d_M_part_30 (by decide) ?_
            refine x_le (y := if (0 ≤ x ∧ x < v) ∧ (0 ≤ y ∧ y ≤ 1) ∧ 0 ≤ t ∧ t < 8 then (if y = 0 then (V x).2.2.1 t else (V x).2.2.2 t) else -1) (by rw [if_neg (fun h => by have := h.2; omega)]) ?_
            exact ret _ u H locs 51 ls ⟨rfl, rfl⟩ hP hS d_M_part_51
abbrev rm_c_Mput : Room := { frames := 1, cells := 0, slots := 0, locals := 25 }
set_option maxHeartbeats 4000000 in
set_option maxRecDepth 100000 in
/-- put(x, y) -/
theorem c_Mput (l : Launch) (D : va_G) (ct : Nat → ClassId) (st ke : Nat → Nat) (b N : Nat) (u : Nat → va_E) (hN : 254 ≤ N) (K : Ky) (okk : okK K) (n v : Nat) (msg : Int → Int) (G : Int → Gt) (V : Int → Val) (hC : MS ct b u K n v msg G V) (hI : PI n v msg G V) (x y : Int) (hx0 : r32 x) (hy0 : r32 y) : Met l y_M_put (w_M_put) rm_c_Mput (va_Pc [.ref (b + 236), .int (iI (x)), .int (iI (y))] (fun U => ev D ct st ke b U ∧ va_P D vwCl (wl N b u) U.heap)) (va_Qi (fun (r : Int32) (z : Nat → va_E) => r = iI (inb x 8) ∧ MS ct b z K n v (putm msg x y) G V ∧ ∀ j : Nat, j < 236 → z j = u j) (fun (z : Nat → va_E) t => va_P D vwCl (wl (N) b (z)) t.heap) (AA b)) 0 0 (AA b) := by
  refine M_z (cc := c9_M_put) (maxL := 3) (by decide) rfl (Nat.le_of_ble_eq_true rfl) ?_
  intro p e s m args below meth c Q ls H locs hx hb hml hown hts hnm E hP hS hl ret
  have hl : lv_has ls 3 [(0, .ref (b + 236)), (1, .int (iI (x))), (2, .int (iI (y)))] := hl
  have hK := ev_K E
  have kk0 := hts (.fieldLink "LevelledRingModel" 29 "LevelledRingModel" "message" "[I") (List.mem_cons_of_mem _ t_500)
  have hinM : ∀ w ∈ u_ws "LevelledRingModel" T_M 19, w ∈ (w_M_put) := hin_M _
  have kk2 := hts (.constantLong "LevelledRingModel" 96 17) (List.mem_cons_of_mem _ t_557)
  have fr0 : ∀ j : Nat, (j < 236) → u j = u j := fun _ _ => rfl
  have hn24 := hI.1
  have hvn := hI.2.1
  have hC9 := hC
  obtain ⟨z0, R, sm, ms, kd, fi, se, pl, hs, lv, mt, wv, wm, vv, hW, hkR, hms, hMG, hMH, hMV⟩ := hC
  obtain ⟨mM, ⟨⟨pr, hp1, hp2⟩, ⟨bg, hb1, hb2⟩, ut, hut1, hut2⟩, ⟨sc, hs1, hs2⟩, m0, m1, m2, m3, m4, m5, m6, m7, m8, m9, m10, m11, m12⟩ := hW
  refine lv_iload_n hx hb d_M_put_0 rfl (lv_at hl 1 rfl) ?_
  refine x_if_lt (tgt := 10) hx hb hx0 d_M_put_1 (by decide) (fun hd => ?_) (fun hd => ?_)
  · refine lv_iconst (v := iI (0)) hx hb d_M_put_10 rfl ?_
    refine x_ie (y := inb x 8) (by rw [inb_o (by omega)]) ?_
    exact ret _ u H locs 11 ls (inb_01 _ _) ⟨rfl, (by unfold putm; rw [if_neg (by omega)]; exact hC9), fun _ _ => rfl⟩ hP hS d_M_put_11
  · refine lv_iload_n hx hb d_M_put_4 rfl (lv_at hl 1 rfl) ?_
    refine lv_bipush (v := iI (7)) hx hb d_M_put_5 (by decide +kernel) ?_
    refine x_icmp_le (tgt := 12) hx hb hx0 ⟨by omega, by omega⟩ d_M_put_7 (by decide) (fun he => ?_) (fun he => ?_)
    · refine lv_aload_n hx hb d_M_put_12 rfl (lv_at hl 0 rfl) ?_
      refine w_get (C := "LevelledRingModel") (T := T_M) (M := 19) hx hb hts hinM hown hK hP (236) (by omega) mM rfl 7 (by decide) kk0 (fun _ h => h) rfl d_M_put_13 ?_
      refine lv_iload_n hx hb d_M_put_16 rfl (lv_at hl 1 rfl) ?_
      refine lv_iload_n hx hb d_M_put_17 rfl (lv_at hl 2 rfl) ?_
      refine x_i2l hx hb hy0 d_M_put_18 ?_
      refine lv_ldc2 hx hb hown kk2 d_M_put_19 ?_
      refine x_l (y := lI (17)) (by decide +kernel) ?_
      refine w_calll (va_runS (As := [.long (lI (y)), .long (lI (17))]) (rest := [.int (iI (x)), .ref (b + 243)]) ⟨hx, hb, hml, hown, hts⟩ (c_Mmod l D ct st ke b N u (y) (17) ⟨by have := hy0.1; omega, by have := hy0.2; omega⟩ (by decide) (by decide)) (cwS 2 hts (gS t_486 t_487 t_9 t_488) rfl rfl rfl (by decide +kernel) ⟨Nat.le_of_ble_eq_true rfl, Nat.le_of_ble_eq_true rfl⟩) (pre_S E hP hS) rfl rfl hl.1 rfl (lv_room (Nat.le_of_ble_eq_true rfl)) d_M_put_22 ⟨(Nat.le_of_ble_eq_true rfl), (Nat.le_of_ble_eq_true rfl)⟩) hS (fun r2 z1 H locs hz hP hS => ?_)
      obtain ⟨rfl, rfl⟩ := hz
      refine x_l2i hx hb d_M_put_25 ?_
      refine w_iast hx hb hK hP hS (243) (by omega) m2 (by omega) (by omega) (by omega) d_M_put_26 (fun H locs hP hS => ?_)
      obtain ⟨u3, hu4, hP⟩ : ∃ zz : Nat → va_E, zz = va_up u 243 (ir ct 8 (zu ms (x) ((y) % (17)))) ∧ va_P D vwCl (wl N b zz) H := ⟨_, rfl, hP⟩
      have ff5 : u3 236 = .inr (6, [.ref (b + 237), .ref (b + 238), .ref (b + 239), .ref (b + 240), .ref (b + 241), .ref (b + 242), .int (z0), .ref (b + 243), .int (iI ((n : Int))), .ref (b + 244), .ref (b + 245), .ref (b + 246), .ref (b + 247), .ref (b + 248), .ref (b + 249), .ref (b + 250), .ref (b + 251), .ref (b + 252), .ref (b + 253)]) := (congrFun hu4 _).trans ((up_n (by omega)).trans mM)
      have ff6 : u3 238 = ir ct 4 (pr) := (congrFun hu4 _).trans ((up_n (by omega)).trans hp1)
      have ff7 : u3 239 = lr ct 4 (bg) := (congrFun hu4 _).trans ((up_n (by omega)).trans hb1)
      have ff8 : u3 240 = lr ct 4 (ut) := (congrFun hu4 _).trans ((up_n (by omega)).trans hut1)
      have ff9 : u3 241 = ir ct 8 (sc) := (congrFun hu4 _).trans ((up_n (by omega)).trans hs1)
      have ff10 : u3 237 = lr ct 512 (R) := (congrFun hu4 _).trans ((up_n (by omega)).trans m0)
      have ff11 : u3 242 = ir ct 8 (sm) := (congrFun hu4 _).trans ((up_n (by omega)).trans m1)
      have ff12 : u3 243 = ir ct 8 (zu ms (x) ((y) % (17))) := (congrFun hu4 _).trans up_s
      have ff13 : u3 244 = ir ct 24 (kd) := (congrFun hu4 _).trans ((up_n (by omega)).trans m3)
      have ff14 : u3 245 = ir ct 24 (fi) := (congrFun hu4 _).trans ((up_n (by omega)).trans m4)
      have ff15 : u3 246 = ir ct 24 (se) := (congrFun hu4 _).trans ((up_n (by omega)).trans m5)
      have ff16 : u3 247 = ir ct 192 (pl) := (congrFun hu4 _).trans ((up_n (by omega)).trans m6)
      have ff17 : u3 248 = zr ct 24 (hs) := (congrFun hu4 _).trans ((up_n (by omega)).trans m7)
      have ff18 : u3 249 = ir ct 24 (lv) := (congrFun hu4 _).trans ((up_n (by omega)).trans m8)
      have ff19 : u3 250 = lr ct 24 (mt) := (congrFun hu4 _).trans ((up_n (by omega)).trans m9)
      have ff20 : u3 251 = ir ct 2 (wv) := (congrFun hu4 _).trans ((up_n (by omega)).trans m10)
      have ff21 : u3 252 = lr ct 2 (wm) := (congrFun hu4 _).trans ((up_n (by omega)).trans m11)
      have ff22 : u3 253 = lr ct 8 (vv) := (congrFun hu4 _).trans ((up_n (by omega)).trans m12)
      have fr23 : ∀ j : Nat, (j < 236) → u3 j = u j := fun j h0 => (congrFun hu4 j).trans ((up_n (by omega)).trans (fr0 j h0))
      refine lv_iconst (v := iI (1)) hx hb d_M_put_27 rfl ?_
      refine x_ie (y := inb x 8) (by rw [inb_y (by omega) (by omega)]) ?_
      refine ret _ u3 H locs 28 ls (inb_01 _ _) ⟨rfl, ⟨z0, R, sm, _, kd, fi, se, pl, hs, lv, mt, wv, wm, vv, ⟨ff5, ⟨⟨pr, ff6, hp2⟩, ⟨bg, ff7, hb2⟩, ut, ff8, hut2⟩, ⟨sc, ff9, hs2⟩, ff10, ff11, ff12, ff13, ff14, ff15, ff16, ff17, ff18, ff19, ff20, ff21, ff22⟩, hkR, fun i h1 h2 => ?_, hMG, hMH, hMV⟩, fr23⟩ hP hS d_M_put_28
      unfold putm
      rw [if_pos ⟨by omega, by omega⟩]
      unfold zu
      split
      · rfl
      · exact hms i h1 h2
    · refine lv_iconst (v := iI (0)) hx hb d_M_put_10 rfl ?_
      refine x_ie (y := inb x 8) (by rw [inb_o (by omega)]) ?_
      exact ret _ u H locs 11 ls (inb_01 _ _) ⟨rfl, (by unfold putm; rw [if_neg (by omega)]; exact hC9), fun _ _ => rfl⟩ hP hS d_M_put_11
abbrev rm_c_Mopen : Room := { frames := 2, cells := 0, slots := 0, locals := 54 }
set_option maxHeartbeats 4000000 in
set_option maxRecDepth 100000 in
/-- open(x) -/
theorem c_Mopen (l : Launch) (D : va_G) (ct : Nat → ClassId) (st ke : Nat → Nat) (b N : Nat) (u : Nat → va_E) (hN : 254 ≤ N) (z0 : Int32) (cnt : Int) (S R sm ms kd fi se pl hs lv mt wv wm vv : Int → Int) (hW : MW ct b u z0 cnt S R sm ms kd fi se pl hs lv mt wv wm vv) (hS1 : ∀ i : Int, -1 ≤ S i ∧ S i ≤ 1) (x : Int) (hx0 : 0 ≤ x) (hx1 : x < 24) (v1 : Val) (ok1 : okW v1) (hG : GV R lv mt x v1) : Met l y_M_open (w_M_open) rm_c_Mopen (va_Pc [.ref (b + 236), .int (iI (x))] (fun U => ev D ct st ke b U ∧ va_P D vwCl (wl N b u) U.heap)) (va_Qv (fun z : Nat → va_E => ∃ vv2 : Int → Int, MW ct b z z0 cnt S R sm ms kd fi se pl hs lv mt wv wm vv2 ∧ (∀ i : Int, 0 ≤ i → i < 8 → vv2 i = opV S v1 i) ∧ ∀ j : Nat, j < 236 → z j = u j) (fun (z : Nat → va_E) t => va_P D vwCl (wl (N) b (z)) t.heap) (AA b)) 0 0 (AA b) := by
  refine M_v (cc := c9_M_open) (maxL := 7) (by decide) rfl (Nat.le_of_ble_eq_true rfl) ?_
  intro p e s m args below meth c Q ls H locs hx hb hml hown hts hnm E hP hS hl ret
  have hl : lv_has ls 7 [(0, .ref (b + 236)), (1, .int (iI (x)))] := hl
  have hK := ev_K E
  have kk0 := hts (.fieldLink "LevelledRingModel" 17 "LevelledRingModel" "big" "[J") (List.mem_cons_of_mem _ t_495)
  have hinM : ∀ w ∈ u_ws "LevelledRingModel" T_M 19, w ∈ (w_M_open) := hin_M _
  have kk2 := hts (.fieldLink "LevelledRingModel" 48 "LevelledRingModel" "level" "[I") (List.mem_cons_of_mem _ t_507)
  have kk3 := hts (.fieldLink "LevelledRingModel" 7 "LevelledRingModel" "row" "[J") (List.mem_cons_of_mem _ t_493)
  have kk4 := hts (.fieldLink "LevelledRingModel" 60 "LevelledRingModel" "v" "[J") (List.mem_cons_of_mem _ t_511)
  have kk5 := hts (.constantLong "LevelledRingModel" 120 2) (List.mem_cons_of_mem _ t_630)
  have fr0 : ∀ j : Nat, (j < 236) → u j = u j := fun _ _ => rfl
  obtain ⟨mM, ⟨⟨pr, hp1, hp2⟩, ⟨bg, hb1, hb2⟩, ut, hut1, hut2⟩, ⟨sc, hs1, hs2⟩, m0, m1, m2, m3, m4, m5, m6, m7, m8, m9, m10, m11, m12⟩ := hW
  have l0 := ok1.1.1
  have l3 := ok1.1.2.1
  have bQ := lQ_bd v1.1
  refine lv_aload_n hx hb d_M_open_0 rfl (lv_at hl 0 rfl) ?_
  refine w_get (C := "LevelledRingModel") (T := T_M) (M := 19) hx hb hts hinM hown hK hP (236) (by omega) mM rfl 2 (by decide) kk0 (fun _ h => h) rfl d_M_open_1 ?_
  refine lv_aload_n hx hb d_M_open_4 rfl (lv_at hl 0 rfl) ?_
  refine w_get (C := "LevelledRingModel") (T := T_M) (M := 19) hx hb hts hinM hown hK hP (236) (by omega) mM rfl 14 (by decide) kk2 (fun _ h => h) rfl d_M_open_5 ?_
  refine lv_iload_n hx hb d_M_open_8 rfl (lv_at hl 1 rfl) ?_
  refine w_iald hx hb hK hP (249) (by omega) m8 (by omega) (by omega) (by omega) d_M_open_9 ?_
  refine x_ie (y := v1.1) (hG.1) ?_
  refine w_lald hx hb hK hP (239) (by omega) hb1 (by omega) (by omega) (by omega) d_M_open_10 ?_
  refine x_le (y := lQ v1.1) (hb2 _ l0 l3) ?_
  refine lv_lstore_n (lv' := [(2, .long (lI (lQ v1.1))), (0, .ref (b + 236)), (1, .int (iI (x)))]) hx hb d_M_open_11 rfl hl (by decide) rfl (fun ls hl => ?_)
  refine lv_iconst (v := iI (0)) hx hb d_M_open_12 rfl ?_
  refine lv_istore (lv' := [(4, .int (iI (0))), (2, .long (lI (lQ v1.1))), (0, .ref (b + 236)), (1, .int (iI (x)))]) hx hb d_M_open_13 hl (by decide) rfl (fun ls hl => ?_)
  have fr1 : ∀ j : Nat, (j ≠ 253) → u j = u j := fun _ _ => rfl
  have lo : ∀ (d : Nat) (i : Int) (vv2 : Int → Int) (w2 : Nat → va_E) (H : Heap) (locs : List Loc) (ls : Array Slot), (0 ≤ i) → (i ≤ 8) → (8 - i < d) → (∀ q : Int, 0 ≤ q → q < i → vv2 q = opV S v1 q) → w2 253 = lr ct 8 (vv2) → (∀ j : Nat, (j ≠ 253) → w2 j = u j) → va_P D vwCl (wl N b w2) H → va_S (AA b) s.heap H locs → lv_has ls 7 [(4, .int (iI (i))), (2, .long (lI (lQ v1.1))), (0, .ref (b + 236)), (1, .int (iI (x)))] → W p l e rm_c_Mopen s m args below meth c H locs 0 0 Q (F0 m 15 ls []) := by
    intro d
    induction d with
    | zero => intro i vv2 w2 H locs ls h0 h1 hd hg fg3 fr4 hP hS hl; exfalso; omega
    | succ d ihlo =>
      intro i vv2 w2 H locs ls h0 h1 hd hg fg3 fr4 hP hS hl
      have ff5 : w2 236 = .inr (6, [.ref (b + 237), .ref (b + 238), .ref (b + 239), .ref (b + 240), .ref (b + 241), .ref (b + 242), .int (z0), .ref (b + 243), .int (iI (cnt)), .ref (b + 244), .ref (b + 245), .ref (b + 246), .ref (b + 247), .ref (b + 248), .ref (b + 249), .ref (b + 250), .ref (b + 251), .ref (b + 252), .ref (b + 253)]) := (fr4 236 (by omega)).trans mM
      have ff6 : w2 238 = ir ct 4 (pr) := (fr4 238 (by omega)).trans hp1
      have ff7 : w2 239 = lr ct 4 (bg) := (fr4 239 (by omega)).trans hb1
      have ff8 : w2 240 = lr ct 4 (ut) := (fr4 240 (by omega)).trans hut1
      have ff9 : w2 241 = ir ct 8 (sc) := (fr4 241 (by omega)).trans hs1
      have ff10 : w2 237 = lr ct 512 (R) := (fr4 237 (by omega)).trans m0
      have ff11 : w2 242 = ir ct 8 (sm) := (fr4 242 (by omega)).trans m1
      have ff12 : w2 243 = ir ct 8 (ms) := (fr4 243 (by omega)).trans m2
      have ff13 : w2 244 = ir ct 24 (kd) := (fr4 244 (by omega)).trans m3
      have ff14 : w2 245 = ir ct 24 (fi) := (fr4 245 (by omega)).trans m4
      have ff15 : w2 246 = ir ct 24 (se) := (fr4 246 (by omega)).trans m5
      have ff16 : w2 247 = ir ct 192 (pl) := (fr4 247 (by omega)).trans m6
      have ff17 : w2 248 = zr ct 24 (hs) := (fr4 248 (by omega)).trans m7
      have ff18 : w2 249 = ir ct 24 (lv) := (fr4 249 (by omega)).trans m8
      have ff19 : w2 250 = lr ct 24 (mt) := (fr4 250 (by omega)).trans m9
      have ff20 : w2 251 = ir ct 2 (wv) := (fr4 251 (by omega)).trans m10
      have ff21 : w2 252 = lr ct 2 (wm) := (fr4 252 (by omega)).trans m11
      refine lv_iload hx hb d_M_open_15 (lv_at hl 0 rfl) ?_
      refine lv_bipush (v := iI (8)) hx hb d_M_open_17 (by decide +kernel) ?_
      refine x_icmp_ge (tgt := 94) hx hb ⟨by omega, by omega⟩ ⟨by omega, by omega⟩ d_M_open_19 (by decide) (fun hc => ?_) (fun hc => ?_)
      · obtain rfl : i = 8 := by omega
        exact ret w2 H locs 94 ls ⟨vv2, ⟨ff5, ⟨⟨pr, ff6, hp2⟩, ⟨bg, ff7, hb2⟩, ut, ff8, hut2⟩, ⟨sc, ff9, hs2⟩, ff10, ff11, ff12, ff13, ff14, ff15, ff16, ff17, ff18, ff19, ff20, ff21, fg3⟩, hg, fun j h => fr4 j (by omega)⟩ hP hS d_M_open_94
      · have bP := ok1.2.1 i h0 (by omega)
        refine lv_aload_n hx hb d_M_open_22 rfl (lv_at hl 2 rfl) ?_
        refine w_get (C := "LevelledRingModel") (T := T_M) (M := 19) hx hb hts hinM hown hK hP (236) (by omega) ff5 rfl 0 (by decide) kk3 (fun _ h => h) rfl d_M_open_23 ?_
        refine lv_bipush (v := iI (8)) hx hb d_M_open_26 (by decide +kernel) ?_
        refine lv_bipush (v := iI (8)) hx hb d_M_open_28 (by decide +kernel) ?_
        refine lv_iconst (v := iI (2)) hx hb d_M_open_30 rfl ?_
        refine lv_iload_n hx hb d_M_open_31 rfl (lv_at hl 3 rfl) ?_
        refine x_imul hx hb d_M_open_32 ?_
        refine x_iadd hx hb d_M_open_33 ?_
        refine x_imul hx hb d_M_open_34 ?_
        refine lv_iload hx hb d_M_open_35 (lv_at hl 0 rfl) ?_
        refine x_iadd hx hb d_M_open_37 ?_
        refine w_lald hx hb hK hP (237) (by omega) ff10 (by omega) (by omega) (by omega) d_M_open_38 ?_
        refine x_le (y := v1.2.2.1 i) (hG.2.2.1 i h0 (by omega)) ?_
        refine lv_aload_n hx hb d_M_open_39 rfl (lv_at hl 2 rfl) ?_
        refine lv_bipush (v := iI (8)) hx hb d_M_open_40 (by decide +kernel) ?_
        refine lv_iconst (v := iI (2)) hx hb d_M_open_42 rfl ?_
        refine lv_iload_n hx hb d_M_open_43 rfl (lv_at hl 3 rfl) ?_
        refine x_imul hx hb d_M_open_44 ?_
        refine x_iadd hx hb d_M_open_45 ?_
        refine lv_iconst (v := iI (1)) hx hb d_M_open_46 rfl ?_
        refine x_iadd hx hb d_M_open_47 ?_
        refine lv_iload hx hb d_M_open_48 (lv_at hl 0 rfl) ?_
        refine lv_lload_n hx hb d_M_open_50 rfl (lv_at hl 1 rfl) ?_
        have eR : ∀ j : Int, 0 ≤ j → j < 8 → R (8 * (8 + 2 * x + 1) + j) = v1.2.2.2 j := fun j h2 h3 => by rw [show 8 * (8 + 2 * x + 1) + j = 8 * (8 + 2 * x) + 8 + j by omega]; exact hG.2.2.2 j h2 h3
        refine w_calll (va_runV (As := [.int (iI (((8) + (2 * x)) + (1))), .int (iI (i)), .long (lI (lQ v1.1))]) (rest := [.long (lI (v1.2.2.1 i))]) ⟨hx, hb, hml, hown, hts⟩ (c_withSecret l D ct st ke b N w2 (by omega) z0 cnt ff5 S ⟨sc, ff9, hs2⟩ hS1 R ff10 (8 + 2 * x + 1) i (lQ v1.1) (by omega) (by omega) h0 (by omega) (by omega) (by omega) (fun j h2 h3 => by rw [eR j h2 h3]; have := ok1.2.2 j h2 h3; omega)) (cwV 3 hts (gV t_489 t_491 (tb_sel ((y_M_withSecret), 19) (List.mem_of_getElem? (i := 18) (by decide +kernel))) t_9 t_492) rfl rfl rfl (by decide +kernel) ⟨Nat.le_of_ble_eq_true rfl, Nat.le_of_ble_eq_true rfl⟩) (pre_V E hP hS (236) (by omega) ff5 rfl) rfl rfl hl.1 rfl (lv_room (Nat.le_of_ble_eq_true rfl)) d_M_open_51 ⟨(Nat.le_of_ble_eq_true rfl), (Nat.le_of_ble_eq_true rfl)⟩) hS (fun r23 z22 H locs hz hP hS => ?_)
        obtain ⟨rfl, rfl⟩ := hz
        refine x_le (y := nc v1.2.2.2 S i % lQ v1.1) (by rw [nc_eq (fun j h2 h3 => eR j h2 h3) (fun j _ _ => rfl) h0 (by omega)]) ?_
        have bn := mod_b (nc v1.2.2.2 S i) (show 0 < lQ v1.1 by omega)
        refine x_ladd hx hb d_M_open_54 ?_
        refine lv_lload_n hx hb d_M_open_55 rfl (lv_at hl 1 rfl) ?_
        refine x_lremP hx hb ⟨by omega, by omega⟩ ⟨by omega, by omega⟩ (by omega) (by omega) d_M_open_56 ?_
        refine x_le (y := (v1.2.2.1 i + nc v1.2.2.2 S i) % lQ v1.1) (cg_add cg_r cg_mod) ?_
        have bc := mod_b (v1.2.2.1 i + nc v1.2.2.2 S i) (show 0 < lQ v1.1 by omega)
        refine lv_lstore (lv' := [(5, .long (lI ((v1.2.2.1 i + nc v1.2.2.2 S i) % lQ v1.1))), (4, .int (iI (i))), (2, .long (lI (lQ v1.1))), (0, .ref (b + 236)), (1, .int (iI (x)))]) hx hb d_M_open_57 hl (by decide) rfl (fun ls hl => ?_)
        refine lv_aload_n hx hb d_M_open_59 rfl (lv_at hl 3 rfl) ?_
        refine w_get (C := "LevelledRingModel") (T := T_M) (M := 19) hx hb hts hinM hown hK hP (236) (by omega) ff5 rfl 18 (by decide) kk4 (fun _ h => h) rfl d_M_open_60 ?_
        refine lv_iload hx hb d_M_open_63 (lv_at hl 1 rfl) ?_
        refine lv_lload hx hb d_M_open_65 (lv_at hl 0 rfl) ?_
        refine lv_lload_n hx hb d_M_open_67 rfl (lv_at hl 2 rfl) ?_
        refine lv_lconst (v := lI 1) hx hb d_M_open_68 rfl ?_
        refine x_lsub hx hb d_M_open_69 ?_
        refine lv_ldc2 hx hb hown kk5 d_M_open_70 ?_
        refine x_l (y := lI (2)) (by decide +kernel) ?_
        refine x_ldivP hx hb ⟨by omega, by omega⟩ ⟨by omega, by omega⟩ (by omega) (by omega) d_M_open_73 ?_
        refine x_lcmp hx hb ⟨by omega, by omega⟩ ⟨by omega, by omega⟩ d_M_open_74 ?_
        refine x_if_le (tgt := 85) hx hb (cmpz_r _ _) d_M_open_75 (by decide) (fun hc => ?_) (fun hc => ?_)
        · have hc := cmpz_le.mp hc
          refine lv_lload hx hb d_M_open_85 (lv_at hl 0 rfl) ?_
          refine x_le (y := opV S v1 i) (by unfold opV cen; rw [if_neg (by omega)]) ?_
          refine w_last hx hb hK hP hS (253) (by omega) fg3 (by omega) (by omega) (by omega) d_M_open_87 (fun H locs hP hS => ?_)
          obtain ⟨u24, hu25, hP⟩ : ∃ zz : Nat → va_E, zz = va_up w2 253 (lr ct 8 (zu vv2 (i) (opV S v1 i))) ∧ va_P D vwCl (wl N b zz) H := ⟨_, rfl, hP⟩
          have ff26 : u24 236 = .inr (6, [.ref (b + 237), .ref (b + 238), .ref (b + 239), .ref (b + 240), .ref (b + 241), .ref (b + 242), .int (z0), .ref (b + 243), .int (iI (cnt)), .ref (b + 244), .ref (b + 245), .ref (b + 246), .ref (b + 247), .ref (b + 248), .ref (b + 249), .ref (b + 250), .ref (b + 251), .ref (b + 252), .ref (b + 253)]) := (congrFun hu25 _).trans ((up_n (by omega)).trans ff5)
          have ff27 : u24 238 = ir ct 4 (pr) := (congrFun hu25 _).trans ((up_n (by omega)).trans ff6)
          have ff28 : u24 239 = lr ct 4 (bg) := (congrFun hu25 _).trans ((up_n (by omega)).trans ff7)
          have ff29 : u24 240 = lr ct 4 (ut) := (congrFun hu25 _).trans ((up_n (by omega)).trans ff8)
          have ff30 : u24 241 = ir ct 8 (sc) := (congrFun hu25 _).trans ((up_n (by omega)).trans ff9)
          have ff31 : u24 237 = lr ct 512 (R) := (congrFun hu25 _).trans ((up_n (by omega)).trans ff10)
          have ff32 : u24 242 = ir ct 8 (sm) := (congrFun hu25 _).trans ((up_n (by omega)).trans ff11)
          have ff33 : u24 243 = ir ct 8 (ms) := (congrFun hu25 _).trans ((up_n (by omega)).trans ff12)
          have ff34 : u24 244 = ir ct 24 (kd) := (congrFun hu25 _).trans ((up_n (by omega)).trans ff13)
          have ff35 : u24 245 = ir ct 24 (fi) := (congrFun hu25 _).trans ((up_n (by omega)).trans ff14)
          have ff36 : u24 246 = ir ct 24 (se) := (congrFun hu25 _).trans ((up_n (by omega)).trans ff15)
          have ff37 : u24 247 = ir ct 192 (pl) := (congrFun hu25 _).trans ((up_n (by omega)).trans ff16)
          have ff38 : u24 248 = zr ct 24 (hs) := (congrFun hu25 _).trans ((up_n (by omega)).trans ff17)
          have ff39 : u24 249 = ir ct 24 (lv) := (congrFun hu25 _).trans ((up_n (by omega)).trans ff18)
          have ff40 : u24 250 = lr ct 24 (mt) := (congrFun hu25 _).trans ((up_n (by omega)).trans ff19)
          have ff41 : u24 251 = ir ct 2 (wv) := (congrFun hu25 _).trans ((up_n (by omega)).trans ff20)
          have ff42 : u24 252 = lr ct 2 (wm) := (congrFun hu25 _).trans ((up_n (by omega)).trans ff21)
          have ff43 : u24 253 = lr ct 8 (zu vv2 (i) (opV S v1 i)) := (congrFun hu25 _).trans up_s
          have fr44 : ∀ j : Nat, (j ≠ 253) → u24 j = u j := fun j h0 => (congrFun hu25 j).trans ((up_n (by omega)).trans (fr4 j h0))
          refine lv_iinc (k := 1) (v := iI (i + 1)) (lv' := [(4, .int (iI (i + 1))), (5, .long (lI ((v1.2.2.1 i + nc v1.2.2.2 S i) % lQ v1.1))), (2, .long (lI (lQ v1.1))), (0, .ref (b + 236)), (1, .int (iI (x)))]) hx hb d_M_open_88 hl rfl (iI_add _ _) (by decide) rfl (fun ls hl => ?_)
          refine lv_goto (tgt := 15) hx hb d_M_open_91 (by decide) ?_
          have hl : lv_has ls 7 [(4, .int (iI (i + 1))), (2, .long (lI (lQ v1.1))), (0, .ref (b + 236)), (1, .int (iI (x)))] := lv_sub hl [0, 2, 3, 4] rfl
          refine ihlo (i + 1) _ u24 H locs ls (by omega) (by omega) (by omega) (fun q h2 h3 => ?_) ff43 fr44 hP hS hl
          by_cases h4 : q = i
          · rw [h4, zu_s]
          · rw [zu_n h4]; exact hg q h2 (by omega)
        · have hc : ¬ (v1.2.2.1 i + nc v1.2.2.2 S i) % lQ v1.1 ≤ (lQ v1.1 - 1) / 2 := fun h => by have := cmpz_le.mpr h; omega
          refine lv_lload hx hb d_M_open_78 (lv_at hl 0 rfl) ?_
          refine lv_lload_n hx hb d_M_open_80 rfl (lv_at hl 2 rfl) ?_
          refine x_lsub hx hb d_M_open_81 ?_
          refine lv_goto (tgt := 87) hx hb d_M_open_82 (by decide) ?_
          refine x_le (y := opV S v1 i) (by unfold opV cen; rw [if_pos (by omega)]) ?_
          refine w_last hx hb hK hP hS (253) (by omega) fg3 (by omega) (by omega) (by omega) d_M_open_87 (fun H locs hP hS => ?_)
          obtain ⟨u45, hu46, hP⟩ : ∃ zz : Nat → va_E, zz = va_up w2 253 (lr ct 8 (zu vv2 (i) (opV S v1 i))) ∧ va_P D vwCl (wl N b zz) H := ⟨_, rfl, hP⟩
          have ff47 : u45 236 = .inr (6, [.ref (b + 237), .ref (b + 238), .ref (b + 239), .ref (b + 240), .ref (b + 241), .ref (b + 242), .int (z0), .ref (b + 243), .int (iI (cnt)), .ref (b + 244), .ref (b + 245), .ref (b + 246), .ref (b + 247), .ref (b + 248), .ref (b + 249), .ref (b + 250), .ref (b + 251), .ref (b + 252), .ref (b + 253)]) := (congrFun hu46 _).trans ((up_n (by omega)).trans ff5)
          have ff48 : u45 238 = ir ct 4 (pr) := (congrFun hu46 _).trans ((up_n (by omega)).trans ff6)
          have ff49 : u45 239 = lr ct 4 (bg) := (congrFun hu46 _).trans ((up_n (by omega)).trans ff7)
          have ff50 : u45 240 = lr ct 4 (ut) := (congrFun hu46 _).trans ((up_n (by omega)).trans ff8)
          have ff51 : u45 241 = ir ct 8 (sc) := (congrFun hu46 _).trans ((up_n (by omega)).trans ff9)
          have ff52 : u45 237 = lr ct 512 (R) := (congrFun hu46 _).trans ((up_n (by omega)).trans ff10)
          have ff53 : u45 242 = ir ct 8 (sm) := (congrFun hu46 _).trans ((up_n (by omega)).trans ff11)
          have ff54 : u45 243 = ir ct 8 (ms) := (congrFun hu46 _).trans ((up_n (by omega)).trans ff12)
          have ff55 : u45 244 = ir ct 24 (kd) := (congrFun hu46 _).trans ((up_n (by omega)).trans ff13)
          have ff56 : u45 245 = ir ct 24 (fi) := (congrFun hu46 _).trans ((up_n (by omega)).trans ff14)
          have ff57 : u45 246 = ir ct 24 (se) := (congrFun hu46 _).trans ((up_n (by omega)).trans ff15)
          have ff58 : u45 247 = ir ct 192 (pl) := (congrFun hu46 _).trans ((up_n (by omega)).trans ff16)
          have ff59 : u45 248 = zr ct 24 (hs) := (congrFun hu46 _).trans ((up_n (by omega)).trans ff17)
          have ff60 : u45 249 = ir ct 24 (lv) := (congrFun hu46 _).trans ((up_n (by omega)).trans ff18)
          have ff61 : u45 250 = lr ct 24 (mt) := (congrFun hu46 _).trans ((up_n (by omega)).trans ff19)
          have ff62 : u45 251 = ir ct 2 (wv) := (congrFun hu46 _).trans ((up_n (by omega)).trans ff20)
          have ff63 : u45 252 = lr ct 2 (wm) := (congrFun hu46 _).trans ((up_n (by omega)).trans ff21)
          have ff64 : u45 253 = lr ct 8 (zu vv2 (i) (opV S v1 i)) := (congrFun hu46 _).trans up_s
          have fr65 : ∀ j : Nat, (j ≠ 253) → u45 j = u j := fun j h0 => (congrFun hu46 j).trans ((up_n (by omega)).trans (fr4 j h0))
          refine lv_iinc (k := 1) (v := iI (i + 1)) (lv' := [(4, .int (iI (i + 1))), (5, .long (lI ((v1.2.2.1 i + nc v1.2.2.2 S i) % lQ v1.1))), (2, .long (lI (lQ v1.1))), (0, .ref (b + 236)), (1, .int (iI (x)))]) hx hb d_M_open_88 hl rfl (iI_add _ _) (by decide) rfl (fun ls hl => ?_)
          refine lv_goto (tgt := 15) hx hb d_M_open_91 (by decide) ?_
          have hl : lv_has ls 7 [(4, .int (iI (i + 1))), (2, .long (lI (lQ v1.1))), (0, .ref (b + 236)), (1, .int (iI (x)))] := lv_sub hl [0, 2, 3, 4] rfl
          refine ihlo (i + 1) _ u45 H locs ls (by omega) (by omega) (by omega) (fun q h2 h3 => ?_) ff64 fr65 hP hS hl
          by_cases h4 : q = i
          · rw [h4, zu_s]
          · rw [zu_n h4]; exact hg q h2 (by omega)
  exact lo 9 0 vv u H locs ls (by omega) (by omega) (by omega) (fun q h2 h3 => by omega) m12 fr1 hP hS hl
abbrev rm_c_Mnoise : Room := { frames := 3, cells := 0, slots := 0, locals := 80 }
set_option maxHeartbeats 4000000 in
set_option maxRecDepth 100000 in
/-- noise(x) -/
theorem c_Mnoise (l : Launch) (D : va_G) (ct : Nat → ClassId) (st ke : Nat → Nat) (b N : Nat) (u : Nat → va_E) (hN : 254 ≤ N) (K : Ky) (okk : okK K) (n v : Nat) (msg : Int → Int) (G : Int → Gt) (V : Int → Val) (hC : MS ct b u K n v msg G V) (hI : PI n v msg G V) (x : Int) (hx0 : r32 x) : Met l y_M_noise (w_M_noise) rm_c_Mnoise (va_Pc [.ref (b + 236), .int (iI (x))] (fun U => ev D ct st ke b U ∧ va_P D vwCl (wl N b u) U.heap)) (va_Ql (fun (r : Int64) (z : Nat → va_E) => r = lI (if 0 ≤ x ∧ x < v then mxs (opV K.1 (V x)) 8 else -1) ∧ MS ct b z K n v msg G V ∧ ∀ j : Nat, j < 236 → z j = u j) (fun (z : Nat → va_E) t => va_P D vwCl (wl (N) b (z)) t.heap) (AA b)) 0 0 (AA b) := by
  refine M_l (cc := c9_M_noise) (maxL := 7) (by decide) rfl (Nat.le_of_ble_eq_true rfl) ?_
  intro p e s m args below meth c Q ls H locs hx hb hml hown hts hnm E hP hS hl ret
  have hl : lv_has ls 7 [(0, .ref (b + 236)), (1, .int (iI (x)))] := hl
  have hK := ev_K E
  have kk0 := hts (.fieldLink "LevelledRingModel" 60 "LevelledRingModel" "v" "[J") (List.mem_cons_of_mem _ t_511)
  have hinM : ∀ w ∈ u_ws "LevelledRingModel" T_M 19, w ∈ (w_M_noise) := hin_M _
  have kk2 := hts (.constantLong "LevelledRingModel" 172 (-1)) (List.mem_cons_of_mem _ t_672)
  have fr0 : ∀ j : Nat, (j < 236) → u j = u j := fun _ _ => rfl
  have hn24 := hI.1
  have hvn := hI.2.1
  have hC9 := hC
  obtain ⟨z0, R, sm, ms, kd, fi, se, pl, hs, lv, mt, wv, wm, vv, hW, hkR, hms, hMG, hMH, hMV⟩ := hC
  obtain ⟨mM, ⟨⟨pr, hp1, hp2⟩, ⟨bg, hb1, hb2⟩, ut, hut1, hut2⟩, ⟨sc, hs1, hs2⟩, m0, m1, m2, m3, m4, m5, m6, m7, m8, m9, m10, m11, m12⟩ := hW
  refine lv_aload_n hx hb d_M_noise_0 rfl (lv_at hl 0 rfl) ?_
  refine lv_iload_n hx hb d_M_noise_1 rfl (lv_at hl 1 rfl) ?_
  refine w_calli (va_runV (As := [.int (iI (x))]) (rest := []) ⟨hx, hb, hml, hown, hts⟩ (c_valued l D ct st ke b N u (by omega) K okk n v msg G V hC9 hI (x) hx0) (cwV 1 hts (gV t_664 t_666 (tb_sel ((y_M_valued), 19) (List.mem_of_getElem? (i := 33) (by decide +kernel))) t_9 t_667) rfl rfl rfl (by decide +kernel) ⟨Nat.le_of_ble_eq_true rfl, Nat.le_of_ble_eq_true rfl⟩) (pre_V E hP hS (236) (by omega) mM rfl) rfl rfl hl.1 rfl (lv_room (Nat.le_of_ble_eq_true rfl)) d_M_noise_2 ⟨(Nat.le_of_ble_eq_true rfl), (Nat.le_of_ble_eq_true rfl)⟩) hS (fun r2 z1 H locs hz hP hS => ?_)
  obtain ⟨rfl, rfl⟩ := hz
  have hi01 := inb_01 (x) (v : Int)
  refine x_if_ne (tgt := 12) hx hb ⟨by omega, by omega⟩ d_M_noise_5 (by decide) (fun hc => ?_) (fun hc => ?_)
  · have hxv := inb_n hc
    refine lv_aload_n hx hb d_M_noise_12 rfl (lv_at hl 0 rfl) ?_
    refine lv_iload_n hx hb d_M_noise_13 rfl (lv_at hl 1 rfl) ?_
    have okx := PI_okW hI hxv.1 hxv.2
    refine w_callv (va_runV (As := [.int (iI (x))]) (rest := []) ⟨hx, hb, hml, hown, hts⟩ (c_Mopen l D ct st ke b N u (by omega) z0 (n : Int) K.1 R sm ms kd fi se pl hs lv mt wv wm vv ⟨mM, ⟨⟨pr, hp1, hp2⟩, ⟨bg, hb1, hb2⟩, ut, hut1, hut2⟩, ⟨sc, hs1, hs2⟩, m0, m1, m2, m3, m4, m5, m6, m7, m8, m9, m10, m11, m12⟩ okk.1 x hxv.1 (by omega) (V x) okx (hMV x hxv.1 hxv.2)) (cwV 1 hts (gV t_677 t_679 (tb_sel ((y_M_open), 19) (List.mem_of_getElem? (i := 34) (by decide +kernel))) t_9 t_680) rfl rfl rfl (by decide +kernel) ⟨Nat.le_of_ble_eq_true rfl, Nat.le_of_ble_eq_true rfl⟩) (pre_V E hP hS (236) (by omega) mM rfl) rfl rfl hl.1 rfl (lv_room (Nat.le_of_ble_eq_true rfl)) d_M_noise_14 ⟨(Nat.le_of_ble_eq_true rfl), (Nat.le_of_ble_eq_true rfl)⟩) hS (fun z3 H locs hz hP hS => ?_)
    obtain ⟨vv2, hW2, hv2, hzf⟩ := hz
    have hC8 : MS ct b z3 K n v msg G V := ⟨z0, R, sm, ms, kd, fi, se, pl, hs, lv, mt, wv, wm, vv2, hW2, hkR, hms, hMG, hMH, hMV⟩
    have fr6 : ∀ j : Nat, (j < 236) → z3 j = u j := fun j h0 => (hzf j (by omega)).trans (fr0 j h0)
    obtain ⟨q5M, ⟨⟨pr, hp1, hp2⟩, ⟨bg, hb1, hb2⟩, ut, hut1, hut2⟩, ⟨sc, hs1, hs2⟩, q5m0, q5m1, q5m2, q5m3, q5m4, q5m5, q5m6, q5m7, q5m8, q5m9, q5m10, q5m11, q5m12⟩ := hW2
    refine lv_lconst (v := lI 0) hx hb d_M_noise_17 rfl ?_
    refine lv_lstore_n (lv' := [(2, .long (lI (0))), (0, .ref (b + 236)), (1, .int (iI (x)))]) hx hb d_M_noise_18 rfl hl (by decide) rfl (fun ls hl => ?_)
    refine lv_iconst (v := iI (0)) hx hb d_M_noise_19 rfl ?_
    refine lv_istore (lv' := [(4, .int (iI (0))), (2, .long (lI (0))), (0, .ref (b + 236)), (1, .int (iI (x)))]) hx hb d_M_noise_20 hl (by decide) rfl (fun ls hl => ?_)
    have hl : lv_has ls 7 [(4, .int (iI (0))), (2, .long (lI (mxs (opV K.1 (V x)) (0 : Int).toNat))), (0, .ref (b + 236)), (1, .int (iI (x)))] := by rw [show mxs (opV K.1 (V x)) (0 : Int).toNat = 0 from rfl]; exact hl
    have hl : lv_has ls 7 [(4, .int (iI (0))), (2, .long (lI (mxs (opV K.1 (V x)) (0 : Int).toNat))), (0, .ref (b + 236)), (1, .int (iI (x)))] := lv_sub hl [0, 1, 2, 3] rfl
    have lo : ∀ (d : Nat) (i : Int) (H : Heap) (locs : List Loc) (ls : Array Slot), (0 ≤ i) → (i ≤ 8) → (8 - i < d) → va_P D vwCl (wl N b z3) H → va_S (AA b) s.heap H locs → lv_has ls 7 [(4, .int (iI (i))), (2, .long (lI (mxs (opV K.1 (V x)) i.toNat))), (0, .ref (b + 236)), (1, .int (iI (x)))] → W p l e rm_c_Mnoise s m args below meth c H locs 0 0 Q (F0 m 22 ls []) := by
      intro d
      induction d with
      | zero => intro i H locs ls h0 h1 hd hP hS hl; exfalso; omega
      | succ d ihlo =>
        intro i H locs ls h0 h1 hd hP hS hl
        refine lv_iload hx hb d_M_noise_22 (lv_at hl 0 rfl) ?_
        refine lv_bipush (v := iI (8)) hx hb d_M_noise_24 (by decide +kernel) ?_
        refine x_icmp_ge (tgt := 81) hx hb ⟨by omega, by omega⟩ ⟨by omega, by omega⟩ d_M_noise_26 (by decide) (fun hc => ?_) (fun hc => ?_)
        · obtain rfl : i = 8 := by omega
          refine lv_lload_n hx hb d_M_noise_81 rfl (lv_at hl 1 rfl) ?_
          refine x_le (y := if 0 ≤ x ∧ x < v then mxs (opV K.1 (V x)) 8 else -1) (by rw [if_pos hxv]; rfl) ?_
          exact ret _ z3 H locs 82 ls ⟨rfl, hC8, fr6⟩ hP hS d_M_noise_82
        · have bop := opV_bd K.1 (V x) i
          have bab := ab_bd K.1 (V x) i
          have bmx := mxs_bd K.1 (V x) i.toNat
          have hvi := hv2 i h0 (by omega)
          refine lv_aload_n hx hb d_M_noise_29 rfl (lv_at hl 2 rfl) ?_
          refine w_get (C := "LevelledRingModel") (T := T_M) (M := 19) hx hb hts hinM hown hK hP (236) (by omega) q5M rfl 18 (by decide) kk0 (fun _ h => h) rfl d_M_noise_30 ?_
          refine lv_iload hx hb d_M_noise_33 (lv_at hl 0 rfl) ?_
          refine w_lald hx hb hK hP (253) (by omega) q5m12 (by omega) (by omega) (by omega) d_M_noise_35 ?_
          refine x_le (y := opV K.1 (V x) i) (hvi) ?_
          refine lv_lconst (v := lI 0) hx hb d_M_noise_36 rfl ?_
          refine x_lcmp hx hb ⟨by omega, by omega⟩ ⟨by omega, by omega⟩ d_M_noise_37 ?_
          refine x_if_ge (tgt := 52) hx hb (cmpz_r _ _) d_M_noise_38 (by decide) (fun hc => ?_) (fun hc => ?_)
          · have hc : ¬ opV K.1 (V x) i < 0 := fun h => by have := cmpz_lt.mpr h; omega
            refine lv_aload_n hx hb d_M_noise_52 rfl (lv_at hl 2 rfl) ?_
            refine w_get (C := "LevelledRingModel") (T := T_M) (M := 19) hx hb hts hinM hown hK hP (236) (by omega) q5M rfl 18 (by decide) kk0 (fun _ h => h) rfl d_M_noise_53 ?_
            refine lv_iload hx hb d_M_noise_56 (lv_at hl 0 rfl) ?_
            refine w_lald hx hb hK hP (253) (by omega) q5m12 (by omega) (by omega) (by omega) d_M_noise_58 ?_
            refine x_le (y := opV K.1 (V x) i) (hvi) ?_
            refine x_le (y := ab (opV K.1 (V x) i)) (by unfold ab; rw [if_neg hc]) ?_
            refine lv_lstore (lv' := [(5, .long (lI (ab (opV K.1 (V x) i)))), (4, .int (iI (i))), (2, .long (lI (mxs (opV K.1 (V x)) i.toNat))), (0, .ref (b + 236)), (1, .int (iI (x)))]) hx hb d_M_noise_59 hl (by decide) rfl (fun ls hl => ?_)
            refine lv_lload hx hb d_M_noise_61 (lv_at hl 0 rfl) ?_
            refine lv_lload_n hx hb d_M_noise_63 rfl (lv_at hl 2 rfl) ?_
            refine x_lcmp hx hb ⟨by omega, by omega⟩ ⟨by omega, by omega⟩ d_M_noise_64 ?_
            refine x_if_le (tgt := 73) hx hb (cmpz_r _ _) d_M_noise_65 (by decide) (fun he => ?_) (fun he => ?_)
            · have he := cmpz_le.mp he
              refine lv_lload_n hx hb d_M_noise_73 rfl (lv_at hl 2 rfl) ?_
              refine x_le (y := mxs (opV K.1 (V x)) (i + 1).toNat) (by rw [mxs_step _ h0, if_neg (by omega)]) ?_
              refine lv_lstore_n (lv' := [(2, .long (lI (mxs (opV K.1 (V x)) (i + 1).toNat))), (5, .long (lI (ab (opV K.1 (V x) i)))), (4, .int (iI (i))), (0, .ref (b + 236)), (1, .int (iI (x)))]) hx hb d_M_noise_74 rfl hl (by decide) rfl (fun ls hl => ?_)
              refine lv_iinc (k := 2) (v := iI (i + 1)) (lv' := [(4, .int (iI (i + 1))), (2, .long (lI (mxs (opV K.1 (V x)) (i + 1).toNat))), (5, .long (lI (ab (opV K.1 (V x) i)))), (0, .ref (b + 236)), (1, .int (iI (x)))]) hx hb d_M_noise_75 hl rfl (iI_add _ _) (by decide) rfl (fun ls hl => ?_)
              refine lv_goto (tgt := 22) hx hb d_M_noise_78 (by decide) ?_
              have hl : lv_has ls 7 [(4, .int (iI (i + 1))), (2, .long (lI (mxs (opV K.1 (V x)) (i + 1).toNat))), (0, .ref (b + 236)), (1, .int (iI (x)))] := lv_sub hl [0, 1, 3, 4] rfl
              exact ihlo (i + 1) H locs ls (by omega) (by omega) (by omega) hP hS hl
            · have he : ¬ ab (opV K.1 (V x) i) ≤ mxs (opV K.1 (V x)) i.toNat := fun h => by have := cmpz_le.mpr h; omega
              refine lv_lload hx hb d_M_noise_68 (lv_at hl 0 rfl) ?_
              refine lv_goto (tgt := 74) hx hb d_M_noise_70 (by decide) ?_
              refine x_le (y := mxs (opV K.1 (V x)) (i + 1).toNat) (by rw [mxs_step _ h0, if_pos (by omega)]) ?_
              refine lv_lstore_n (lv' := [(2, .long (lI (mxs (opV K.1 (V x)) (i + 1).toNat))), (5, .long (lI (ab (opV K.1 (V x) i)))), (4, .int (iI (i))), (0, .ref (b + 236)), (1, .int (iI (x)))]) hx hb d_M_noise_74 rfl hl (by decide) rfl (fun ls hl => ?_)
              refine lv_iinc (k := 2) (v := iI (i + 1)) (lv' := [(4, .int (iI (i + 1))), (2, .long (lI (mxs (opV K.1 (V x)) (i + 1).toNat))), (5, .long (lI (ab (opV K.1 (V x) i)))), (0, .ref (b + 236)), (1, .int (iI (x)))]) hx hb d_M_noise_75 hl rfl (iI_add _ _) (by decide) rfl (fun ls hl => ?_)
              refine lv_goto (tgt := 22) hx hb d_M_noise_78 (by decide) ?_
              have hl : lv_has ls 7 [(4, .int (iI (i + 1))), (2, .long (lI (mxs (opV K.1 (V x)) (i + 1).toNat))), (0, .ref (b + 236)), (1, .int (iI (x)))] := lv_sub hl [0, 1, 3, 4] rfl
              exact ihlo (i + 1) H locs ls (by omega) (by omega) (by omega) hP hS hl
          · have hc := cmpz_lt.mp hc
            refine lv_aload_n hx hb d_M_noise_41 rfl (lv_at hl 2 rfl) ?_
            refine w_get (C := "LevelledRingModel") (T := T_M) (M := 19) hx hb hts hinM hown hK hP (236) (by omega) q5M rfl 18 (by decide) kk0 (fun _ h => h) rfl d_M_noise_42 ?_
            refine lv_iload hx hb d_M_noise_45 (lv_at hl 0 rfl) ?_
            refine w_lald hx hb hK hP (253) (by omega) q5m12 (by omega) (by omega) (by omega) d_M_noise_47 ?_
            refine x_le (y := opV K.1 (V x) i) (hvi) ?_
            refine x_lneg hx hb d_M_noise_48 ?_
            refine lv_goto (tgt := 59) hx hb d_M_noise_49 (by decide) ?_
            refine x_le (y := ab (opV K.1 (V x) i)) (by unfold ab; rw [if_pos hc]) ?_
            refine lv_lstore (lv' := [(5, .long (lI (ab (opV K.1 (V x) i)))), (4, .int (iI (i))), (2, .long (lI (mxs (opV K.1 (V x)) i.toNat))), (0, .ref (b + 236)), (1, .int (iI (x)))]) hx hb d_M_noise_59 hl (by decide) rfl (fun ls hl => ?_)
            refine lv_lload hx hb d_M_noise_61 (lv_at hl 0 rfl) ?_
            refine lv_lload_n hx hb d_M_noise_63 rfl (lv_at hl 2 rfl) ?_
            refine x_lcmp hx hb ⟨by omega, by omega⟩ ⟨by omega, by omega⟩ d_M_noise_64 ?_
            refine x_if_le (tgt := 73) hx hb (cmpz_r _ _) d_M_noise_65 (by decide) (fun he => ?_) (fun he => ?_)
            · have he := cmpz_le.mp he
              refine lv_lload_n hx hb d_M_noise_73 rfl (lv_at hl 2 rfl) ?_
              refine x_le (y := mxs (opV K.1 (V x)) (i + 1).toNat) (by rw [mxs_step _ h0, if_neg (by omega)]) ?_
              refine lv_lstore_n (lv' := [(2, .long (lI (mxs (opV K.1 (V x)) (i + 1).toNat))), (5, .long (lI (ab (opV K.1 (V x) i)))), (4, .int (iI (i))), (0, .ref (b + 236)), (1, .int (iI (x)))]) hx hb d_M_noise_74 rfl hl (by decide) rfl (fun ls hl => ?_)
              refine lv_iinc (k := 2) (v := iI (i + 1)) (lv' := [(4, .int (iI (i + 1))), (2, .long (lI (mxs (opV K.1 (V x)) (i + 1).toNat))), (5, .long (lI (ab (opV K.1 (V x) i)))), (0, .ref (b + 236)), (1, .int (iI (x)))]) hx hb d_M_noise_75 hl rfl (iI_add _ _) (by decide) rfl (fun ls hl => ?_)
              refine lv_goto (tgt := 22) hx hb d_M_noise_78 (by decide) ?_
              have hl : lv_has ls 7 [(4, .int (iI (i + 1))), (2, .long (lI (mxs (opV K.1 (V x)) (i + 1).toNat))), (0, .ref (b + 236)), (1, .int (iI (x)))] := lv_sub hl [0, 1, 3, 4] rfl
              exact ihlo (i + 1) H locs ls (by omega) (by omega) (by omega) hP hS hl
            · have he : ¬ ab (opV K.1 (V x) i) ≤ mxs (opV K.1 (V x)) i.toNat := fun h => by have := cmpz_le.mpr h; omega
              refine lv_lload hx hb d_M_noise_68 (lv_at hl 0 rfl) ?_
              refine lv_goto (tgt := 74) hx hb d_M_noise_70 (by decide) ?_
              refine x_le (y := mxs (opV K.1 (V x)) (i + 1).toNat) (by rw [mxs_step _ h0, if_pos (by omega)]) ?_
              refine lv_lstore_n (lv' := [(2, .long (lI (mxs (opV K.1 (V x)) (i + 1).toNat))), (5, .long (lI (ab (opV K.1 (V x) i)))), (4, .int (iI (i))), (0, .ref (b + 236)), (1, .int (iI (x)))]) hx hb d_M_noise_74 rfl hl (by decide) rfl (fun ls hl => ?_)
              refine lv_iinc (k := 2) (v := iI (i + 1)) (lv' := [(4, .int (iI (i + 1))), (2, .long (lI (mxs (opV K.1 (V x)) (i + 1).toNat))), (5, .long (lI (ab (opV K.1 (V x) i)))), (0, .ref (b + 236)), (1, .int (iI (x)))]) hx hb d_M_noise_75 hl rfl (iI_add _ _) (by decide) rfl (fun ls hl => ?_)
              refine lv_goto (tgt := 22) hx hb d_M_noise_78 (by decide) ?_
              have hl : lv_has ls 7 [(4, .int (iI (i + 1))), (2, .long (lI (mxs (opV K.1 (V x)) (i + 1).toNat))), (0, .ref (b + 236)), (1, .int (iI (x)))] := lv_sub hl [0, 1, 3, 4] rfl
              exact ihlo (i + 1) H locs ls (by omega) (by omega) (by omega) hP hS hl
    exact lo 9 0 H locs ls (by omega) (by omega) (by omega) hP hS hl
  · refine lv_ldc2 hx hb hown kk2 d_M_noise_8 ?_
    refine x_l (y := lI (-1)) (by decide +kernel) ?_
    refine x_le (y := if 0 ≤ x ∧ x < v then mxs (opV K.1 (V x)) 8 else -1) (by rw [if_neg (inb_z hc)]) ?_
    exact ret _ u H locs 11 ls ⟨rfl, hC9, fun _ _ => rfl⟩ hP hS d_M_noise_11
abbrev rm_c_Mdecrypted : Room := { frames := 3, cells := 0, slots := 0, locals := 80 }
set_option maxHeartbeats 4000000 in
set_option maxRecDepth 100000 in
/-- decrypted(x, y) -/
theorem c_Mdecrypted (l : Launch) (D : va_G) (ct : Nat → ClassId) (st ke : Nat → Nat) (b N : Nat) (u : Nat → va_E) (hN : 254 ≤ N) (K : Ky) (okk : okK K) (n v : Nat) (msg : Int → Int) (G : Int → Gt) (V : Int → Val) (hC : MS ct b u K n v msg G V) (hI : PI n v msg G V) (x y : Int) (hx0 : r32 x) (hy0 : r32 y) : Met l y_M_decrypted (w_M_decrypted) rm_c_Mdecrypted (va_Pc [.ref (b + 236), .int (iI (x)), .int (iI (y))] (fun U => ev D ct st ke b U ∧ va_P D vwCl (wl N b u) U.heap)) (va_Qi (fun (r : Int32) (z : Nat → va_E) => r = iI (if (0 ≤ x ∧ x < v) ∧ 0 ≤ y ∧ y < 8 then opV K.1 (V x) y % 17 else -1) ∧ MS ct b z K n v msg G V ∧ ∀ j : Nat, j < 236 → z j = u j) (fun (z : Nat → va_E) t => va_P D vwCl (wl (N) b (z)) t.heap) (AA b)) 0 0 (AA b) := by
  refine M_i (cc := c9_M_decrypted) (maxL := 3) (by decide) rfl (Nat.le_of_ble_eq_true rfl) ?_
  intro p e s m args below meth c Q ls H locs hx hb hml hown hts hnm E hP hS hl ret
  have hl : lv_has ls 3 [(0, .ref (b + 236)), (1, .int (iI (x))), (2, .int (iI (y)))] := hl
  have hK := ev_K E
  have kk0 := hts (.fieldLink "LevelledRingModel" 60 "LevelledRingModel" "v" "[J") (List.mem_cons_of_mem _ t_511)
  have hinM : ∀ w ∈ u_ws "LevelledRingModel" T_M 19, w ∈ (w_M_decrypted) := hin_M _
  have kk2 := hts (.constantLong "LevelledRingModel" 96 17) (List.mem_cons_of_mem _ t_557)
  have fr0 : ∀ j : Nat, (j < 236) → u j = u j := fun _ _ => rfl
  have hn24 := hI.1
  have hvn := hI.2.1
  have hC9 := hC
  obtain ⟨z0, R, sm, ms, kd, fi, se, pl, hs, lv, mt, wv, wm, vv, hW, hkR, hms, hMG, hMH, hMV⟩ := hC
  obtain ⟨mM, ⟨⟨pr, hp1, hp2⟩, ⟨bg, hb1, hb2⟩, ut, hut1, hut2⟩, ⟨sc, hs1, hs2⟩, m0, m1, m2, m3, m4, m5, m6, m7, m8, m9, m10, m11, m12⟩ := hW
  refine lv_aload_n hx hb d_M_decrypted_0 rfl (lv_at hl 0 rfl) ?_
  refine lv_iload_n hx hb d_M_decrypted_1 rfl (lv_at hl 1 rfl) ?_
  refine w_calli (va_runV (As := [.int (iI (x))]) (rest := []) ⟨hx, hb, hml, hown, hts⟩ (c_valued l D ct st ke b N u (by omega) K okk n v msg G V hC9 hI (x) hx0) (cwV 1 hts (gV t_664 t_666 (tb_sel ((y_M_valued), 19) (List.mem_of_getElem? (i := 33) (by decide +kernel))) t_9 t_667) rfl rfl rfl (by decide +kernel) ⟨Nat.le_of_ble_eq_true rfl, Nat.le_of_ble_eq_true rfl⟩) (pre_V E hP hS (236) (by omega) mM rfl) rfl rfl hl.1 rfl (lv_room (Nat.le_of_ble_eq_true rfl)) d_M_decrypted_2 ⟨(Nat.le_of_ble_eq_true rfl), (Nat.le_of_ble_eq_true rfl)⟩) hS (fun r2 z1 H locs hz hP hS => ?_)
  obtain ⟨rfl, rfl⟩ := hz
  have hi01 := inb_01 (x) (v : Int)
  refine x_if_eq (tgt := 18) hx hb ⟨by omega, by omega⟩ d_M_decrypted_5 (by decide) (fun hc => ?_) (fun hc => ?_)
  · refine lv_iconst (v := iI (-1)) hx hb d_M_decrypted_18 rfl ?_
    refine x_ie (y := if (0 ≤ x ∧ x < v) ∧ 0 ≤ y ∧ y < 8 then opV K.1 (V x) y % 17 else -1) (by rw [if_neg (fun h => inb_z hc h.1)]) ?_
    exact ret _ u H locs 19 ls ⟨rfl, hC9, fun _ _ => rfl⟩ hP hS d_M_decrypted_19
  · have hxv := inb_n hc
    refine lv_iload_n hx hb d_M_decrypted_8 rfl (lv_at hl 2 rfl) ?_
    refine x_if_lt (tgt := 18) hx hb hy0 d_M_decrypted_9 (by decide) (fun hd => ?_) (fun hd => ?_)
    · refine lv_iconst (v := iI (-1)) hx hb d_M_decrypted_18 rfl ?_
      refine x_ie (y := if (0 ≤ x ∧ x < v) ∧ 0 ≤ y ∧ y < 8 then opV K.1 (V x) y % 17 else -1) (by rw [if_neg (fun h => by have := h.2; omega)]) ?_
      exact ret _ u H locs 19 ls ⟨rfl, hC9, fun _ _ => rfl⟩ hP hS d_M_decrypted_19
    · refine lv_iload_n hx hb d_M_decrypted_12 rfl (lv_at hl 2 rfl) ?_
      refine lv_bipush (v := iI (7)) hx hb d_M_decrypted_13 (by decide +kernel) ?_
      refine x_icmp_le (tgt := 20) hx hb hy0 ⟨by omega, by omega⟩ d_M_decrypted_15 (by decide) (fun he => ?_) (fun he => ?_)
      · have bop := opV_bd K.1 (V x) y
        refine lv_aload_n hx hb d_M_decrypted_20 rfl (lv_at hl 0 rfl) ?_
        refine lv_iload_n hx hb d_M_decrypted_21 rfl (lv_at hl 1 rfl) ?_
        have okx := PI_okW hI hxv.1 hxv.2
        refine w_callv (va_runV (As := [.int (iI (x))]) (rest := []) ⟨hx, hb, hml, hown, hts⟩ (c_Mopen l D ct st ke b N u (by omega) z0 (n : Int) K.1 R sm ms kd fi se pl hs lv mt wv wm vv ⟨mM, ⟨⟨pr, hp1, hp2⟩, ⟨bg, hb1, hb2⟩, ut, hut1, hut2⟩, ⟨sc, hs1, hs2⟩, m0, m1, m2, m3, m4, m5, m6, m7, m8, m9, m10, m11, m12⟩ okk.1 x hxv.1 (by omega) (V x) okx (hMV x hxv.1 hxv.2)) (cwV 1 hts (gV t_677 t_679 (tb_sel ((y_M_open), 19) (List.mem_of_getElem? (i := 34) (by decide +kernel))) t_9 t_680) rfl rfl rfl (by decide +kernel) ⟨Nat.le_of_ble_eq_true rfl, Nat.le_of_ble_eq_true rfl⟩) (pre_V E hP hS (236) (by omega) mM rfl) rfl rfl hl.1 rfl (lv_room (Nat.le_of_ble_eq_true rfl)) d_M_decrypted_22 ⟨(Nat.le_of_ble_eq_true rfl), (Nat.le_of_ble_eq_true rfl)⟩) hS (fun z3 H locs hz hP hS => ?_)
        obtain ⟨vv2, hW2, hv2, hzf⟩ := hz
        have hC8 : MS ct b z3 K n v msg G V := ⟨z0, R, sm, ms, kd, fi, se, pl, hs, lv, mt, wv, wm, vv2, hW2, hkR, hms, hMG, hMH, hMV⟩
        have fr6 : ∀ j : Nat, (j < 236) → z3 j = u j := fun j h0 => (hzf j (by omega)).trans (fr0 j h0)
        obtain ⟨q5M, ⟨⟨pr, hp1, hp2⟩, ⟨bg, hb1, hb2⟩, ut, hut1, hut2⟩, ⟨sc, hs1, hs2⟩, q5m0, q5m1, q5m2, q5m3, q5m4, q5m5, q5m6, q5m7, q5m8, q5m9, q5m10, q5m11, q5m12⟩ := hW2
        refine lv_aload_n hx hb d_M_decrypted_25 rfl (lv_at hl 0 rfl) ?_
        refine w_get (C := "LevelledRingModel") (T := T_M) (M := 19) hx hb hts hinM hown hK hP (236) (by omega) q5M rfl 18 (by decide) kk0 (fun _ h => h) rfl d_M_decrypted_26 ?_
        refine lv_iload_n hx hb d_M_decrypted_29 rfl (lv_at hl 2 rfl) ?_
        refine w_lald hx hb hK hP (253) (by omega) q5m12 (by omega) (by omega) (by omega) d_M_decrypted_30 ?_
        refine x_le (y := opV K.1 (V x) y) (hv2 y (by omega) (by omega)) ?_
        refine lv_ldc2 hx hb hown kk2 d_M_decrypted_31 ?_
        refine x_l (y := lI (17)) (by decide +kernel) ?_
        refine w_calll (va_runS (As := [.long (lI (opV K.1 (V x) y)), .long (lI (17))]) (rest := []) ⟨hx, hb, hml, hown, hts⟩ (c_Mmod l D ct st ke b N z3 (opV K.1 (V x) y) (17) ⟨by omega, by omega⟩ (by decide) (by decide)) (cwS 2 hts (gS t_486 t_487 t_9 t_488) rfl rfl rfl (by decide +kernel) ⟨Nat.le_of_ble_eq_true rfl, Nat.le_of_ble_eq_true rfl⟩) (pre_S E hP hS) rfl rfl hl.1 rfl (lv_room (Nat.le_of_ble_eq_true rfl)) d_M_decrypted_34 ⟨(Nat.le_of_ble_eq_true rfl), (Nat.le_of_ble_eq_true rfl)⟩) hS (fun r8 z7 H locs hz hP hS => ?_)
        obtain ⟨rfl, rfl⟩ := hz
        refine x_l2i hx hb d_M_decrypted_37 ?_
        refine x_ie (y := if (0 ≤ x ∧ x < v) ∧ 0 ≤ y ∧ y < 8 then opV K.1 (V x) y % 17 else -1) (by rw [if_pos ⟨hxv, by omega, by omega⟩]) ?_
        exact ret _ z3 H locs 38 ls ⟨rfl, hC8, fr6⟩ hP hS d_M_decrypted_38
      · refine lv_iconst (v := iI (-1)) hx hb d_M_decrypted_18 rfl ?_
        refine x_ie (y := if (0 ≤ x ∧ x < v) ∧ 0 ≤ y ∧ y < 8 then opV K.1 (V x) y % 17 else -1) (by rw [if_neg (fun h => by have := h.2; omega)]) ?_
        exact ret _ u H locs 19 ls ⟨rfl, hC9, fun _ _ => rfl⟩ hP hS d_M_decrypted_19
