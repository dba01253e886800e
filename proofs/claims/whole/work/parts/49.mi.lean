abbrev rm_c_MisGate : Room := { frames := 0, cells := 0, slots := 0, locals := 0 }
set_option maxHeartbeats 4000000 in
set_option maxRecDepth 100000 in
/-- isGate(x) -/
theorem c_MisGate (l : Launch) (D : va_G) (ct : Nat → ClassId) (st ke : Nat → Nat) (b N : Nat) (u : Nat → va_E) (hN : 254 ≤ N) (z0 : Int32) (n : Nat) (hn : n ≤ 24) (hM : u 236 = mo b z0 n) (x : Int) (hx0 : r32 x) : Met l y_M_isGate (w_M_isGate) rm_c_MisGate (va_Pc [.ref (b + 236), .int (iI (x))] (fun U => ev D ct st ke b U ∧ va_P D vwCl (wl N b u) U.heap)) (va_Qi (fun (r : Int32) (z : Nat → va_E) => r = iI (inb x (n : Int)) ∧ u = z) (fun (z : Nat → va_E) t => va_P D vwCl (wl (N) b (z)) t.heap) (AA b)) 0 0 (AA b) := by
  refine M_z (cc := c9_M_isGate) (maxL := 2) (by decide) rfl (Nat.le_of_ble_eq_true rfl) ?_
  intro p e s m args below meth c Q ls H locs hx hb hml hown hts hnm E hP hS hl ret
  have hl : lv_has ls 2 [(0, .ref (b + 236)), (1, .int (iI (x)))] := hl
  have hK := ev_K E
  have kk0 := hts (.fieldLink "LevelledRingModel" 98 "LevelledRingModel" "count" "I") (List.mem_cons_of_mem _ t_501)
  have hinM : ∀ w ∈ u_ws "LevelledRingModel" T_M 19, w ∈ (w_M_isGate) := hin_M _
  have fr0 : ∀ j : Nat, u j = u j := fun _  => rfl
  refine lv_iload_n hx hb d_M_isGate_0 rfl (lv_at hl 1 rfl) ?_
  refine x_if_lt (tgt := 16) hx hb hx0 d_M_isGate_1 (by decide) (fun hc => ?_) (fun hc => ?_)
  · refine lv_iconst (v := iI (0)) hx hb d_M_isGate_16 rfl ?_
    refine x_ie (y := inb x (n : Int)) (by rw [inb_o (by omega)]) ?_
    exact ret _ u H locs 17 ls (inb_01 _ _) ⟨rfl, rfl⟩ hP hS d_M_isGate_17
  · refine lv_iload_n hx hb d_M_isGate_4 rfl (lv_at hl 1 rfl) ?_
    refine lv_aload_n hx hb d_M_isGate_5 rfl (lv_at hl 0 rfl) ?_
    refine w_get (C := "LevelledRingModel") (T := T_M) (M := 19) hx hb hts hinM hown hK hP (236) (by omega) hM rfl 8 (by decide) kk0 (fun _ h => h) rfl d_M_isGate_6 ?_
    refine x_icmp_ge (tgt := 16) hx hb hx0 ⟨by omega, by omega⟩ d_M_isGate_9 (by decide) (fun hc => ?_) (fun hc => ?_)
    · refine lv_iconst (v := iI (0)) hx hb d_M_isGate_16 rfl ?_
      refine x_ie (y := inb x (n : Int)) (by rw [inb_o (by omega)]) ?_
      exact ret _ u H locs 17 ls (inb_01 _ _) ⟨rfl, rfl⟩ hP hS d_M_isGate_17
    · refine lv_iconst (v := iI (1)) hx hb d_M_isGate_12 rfl ?_
      refine lv_goto (tgt := 17) hx hb d_M_isGate_13 (by decide) ?_
      refine x_ie (y := inb x (n : Int)) (by rw [inb_y (by omega) (by omega)]) ?_
      exact ret _ u H locs 17 ls (inb_01 _ _) ⟨rfl, rfl⟩ hP hS d_M_isGate_17
abbrev rm_c_valued : Room := { frames := 1, cells := 0, slots := 0, locals := 21 }
set_option maxHeartbeats 4000000 in
set_option maxRecDepth 100000 in
/-- valued(x) -/
theorem c_valued (l : Launch) (D : va_G) (ct : Nat → ClassId) (st ke : Nat → Nat) (b N : Nat) (u : Nat → va_E) (hN : 254 ≤ N) (K : Ky) (okk : okK K) (n v : Nat) (msg : Int → Int) (G : Int → Gt) (V : Int → Val) (hC : MS ct b u K n v msg G V) (hI : PI n v msg G V) (x : Int) (hx0 : r32 x) : Met l y_M_valued (w_M_valued) rm_c_valued (va_Pc [.ref (b + 236), .int (iI (x))] (fun U => ev D ct st ke b U ∧ va_P D vwCl (wl N b u) U.heap)) (va_Qi (fun (r : Int32) (z : Nat → va_E) => r = iI (inb x (v : Int)) ∧ u = z) (fun (z : Nat → va_E) t => va_P D vwCl (wl (N) b (z)) t.heap) (AA b)) 0 0 (AA b) := by
  refine M_z (cc := c9_M_valued) (maxL := 2) (by decide) rfl (Nat.le_of_ble_eq_true rfl) ?_
  intro p e s m args below meth c Q ls H locs hx hb hml hown hts hnm E hP hS hl ret
  have hl : lv_has ls 2 [(0, .ref (b + 236)), (1, .int (iI (x)))] := hl
  have hK := ev_K E
  have kk0 := hts (.fieldLink "LevelledRingModel" 44 "LevelledRingModel" "has" "[Z") (List.mem_cons_of_mem _ t_506)
  have hinM : ∀ w ∈ u_ws "LevelledRingModel" T_M 19, w ∈ (w_M_valued) := hin_M _
  have hn24 := hI.1
  have hvn := hI.2.1
  have hC9 := hC
  obtain ⟨z0, R, sm, ms, kd, fi, se, pl, hs, lv, mt, wv, wm, vv, hW, hkR, hms, hMG, hMH, hMV⟩ := hC
  obtain ⟨mM, ⟨⟨pr, hp1, hp2⟩, ⟨bg, hb1, hb2⟩, ut, hut1, hut2⟩, ⟨sc, hs1, hs2⟩, m0, m1, m2, m3, m4, m5, m6, m7, m8, m9, m10, m11, m12⟩ := hW
  refine lv_aload_n hx hb d_M_valued_0 rfl (lv_at hl 0 rfl) ?_
  refine lv_iload_n hx hb d_M_valued_1 rfl (lv_at hl 1 rfl) ?_
  refine w_calli (va_runV (As := [.int (iI (x))]) (rest := []) ⟨hx, hb, hml, hown, hts⟩ (c_MisGate l D ct st ke b N u (by omega) z0 n hn24 mM (x) hx0) (cwV 1 hts (gV t_581 t_583 (tb_sel ((y_M_isGate), 19) (List.mem_of_getElem? (i := 22) (by decide +kernel))) t_9 t_584) rfl rfl rfl (by decide +kernel) ⟨Nat.le_of_ble_eq_true rfl, Nat.le_of_ble_eq_true rfl⟩) (pre_V E hP hS (236) (by omega) mM rfl) rfl rfl hl.1 rfl (lv_room (Nat.le_of_ble_eq_true rfl)) d_M_valued_2 ⟨(Nat.le_of_ble_eq_true rfl), (Nat.le_of_ble_eq_true rfl)⟩) hS (fun r2 z1 H locs hz hP hS => ?_)
  obtain ⟨rfl, rfl⟩ := hz
  have hi01 := inb_01 (x) (n : Int)
  refine x_if_eq (tgt := 21) hx hb ⟨by omega, by omega⟩ d_M_valued_5 (by decide) (fun hc => ?_) (fun hc => ?_)
  · refine lv_iconst (v := iI (0)) hx hb d_M_valued_21 rfl ?_
    refine x_ie (y := inb x (v : Int)) (by rw [inb_o (fun h => inb_z hc ⟨h.1, by omega⟩)]) ?_
    exact ret _ u H locs 22 ls (inb_01 _ _) ⟨rfl, rfl⟩ hP hS d_M_valued_22
  · have hxv := inb_n hc
    refine lv_aload_n hx hb d_M_valued_8 rfl (lv_at hl 0 rfl) ?_
    refine w_get (C := "LevelledRingModel") (T := T_M) (M := 19) hx hb hts hinM hown hK hP (236) (by omega) mM rfl 13 (by decide) kk0 (fun _ h => h) rfl d_M_valued_9 ?_
    refine lv_iload_n hx hb d_M_valued_12 rfl (lv_at hl 1 rfl) ?_
    refine w_zald hx hb hK hP (248) (by omega) m7 (by omega) (by omega) (by omega) d_M_valued_13 ?_
    refine x_ie (y := inb x (v : Int)) (by rw [hMH x hxv.1 hxv.2]; exact inb_v hxv.1) ?_
    have hj01 := inb_01 x (v : Int)
    refine x_if_eq (tgt := 21) hx hb ⟨by omega, by omega⟩ d_M_valued_14 (by decide) (fun hd => ?_) (fun hd => ?_)
    · refine lv_iconst (v := iI (0)) hx hb d_M_valued_21 rfl ?_
      refine x_ie (y := inb x (v : Int)) (by rw [hd]) ?_
      exact ret _ u H locs 22 ls (inb_01 _ _) ⟨rfl, rfl⟩ hP hS d_M_valued_22
    · refine lv_iconst (v := iI (1)) hx hb d_M_valued_17 rfl ?_
      refine lv_goto (tgt := 22) hx hb d_M_valued_18 (by decide) ?_
      refine x_ie (y := inb x (v : Int)) (by omega) ?_
      exact ret _ u H locs 22 ls (inb_01 _ _) ⟨rfl, rfl⟩ hP hS d_M_valued_22
abbrev rm_c_Mcount : Room := { frames := 0, cells := 0, slots := 0, locals := 0 }
set_option maxHeartbeats 4000000 in
set_option maxRecDepth 100000 in
/-- count() -/
theorem c_Mcount (l : Launch) (D : va_G) (ct : Nat → ClassId) (st ke : Nat → Nat) (b N : Nat) (u : Nat → va_E) (hN : 254 ≤ N) (K : Ky) (okk : okK K) (n v : Nat) (msg : Int → Int) (G : Int → Gt) (V : Int → Val) (hC : MS ct b u K n v msg G V) (hI : PI n v msg G V) : Met l y_M_count (w_M_count) rm_c_Mcount (va_Pc [.ref (b + 236)] (fun U => ev D ct st ke b U ∧ va_P D vwCl (wl N b u) U.heap)) (va_Qi (fun (r : Int32) (z : Nat → va_E) => r = iI ((n : Int)) ∧ u = z) (fun (z : Nat → va_E) t => va_P D vwCl (wl (N) b (z)) t.heap) (AA b)) 0 0 (AA b) := by
  refine M_i (cc := c9_M_count) (maxL := 1) (by decide) rfl (Nat.le_of_ble_eq_true rfl) ?_
  intro p e s m args below meth c Q ls H locs hx hb hml hown hts hnm E hP hS hl ret
  have hl : lv_has ls 1 [(0, .ref (b + 236))] := hl
  have hK := ev_K E
  have kk0 := hts (.fieldLink "LevelledRingModel" 98 "LevelledRingModel" "count" "I") (List.mem_cons_of_mem _ t_501)
  have hinM : ∀ w ∈ u_ws "LevelledRingModel" T_M 19, w ∈ (w_M_count) := hin_M _
  have hn24 := hI.1
  have hvn := hI.2.1
  have hC9 := hC
  obtain ⟨z0, R, sm, ms, kd, fi, se, pl, hs, lv, mt, wv, wm, vv, hW, hkR, hms, hMG, hMH, hMV⟩ := hC
  obtain ⟨mM, ⟨⟨pr, hp1, hp2⟩, ⟨bg, hb1, hb2⟩, ut, hut1, hut2⟩, ⟨sc, hs1, hs2⟩, m0, m1, m2, m3, m4, m5, m6, m7, m8, m9, m10, m11, m12⟩ := hW
  refine lv_aload_n hx hb d_M_count_0 rfl (lv_at hl 0 rfl) ?_
  refine w_get (C := "LevelledRingModel") (T := T_M) (M := 19) hx hb hts hinM hown hK hP (236) (by omega) mM rfl 8 (by decide) kk0 (fun _ h => h) rfl d_M_count_1 ?_
  exact ret _ u H locs 4 ls ⟨rfl, rfl⟩ hP hS d_M_count_4
abbrev rm_c_Mcut : Room := { frames := 1, cells := 0, slots := 0, locals := 21 }
set_option maxHeartbeats 4000000 in
set_option maxRecDepth 100000 in
/-- cut(x) -/
theorem c_Mcut (l : Launch) (D : va_G) (ct : Nat → ClassId) (st ke : Nat → Nat) (b N : Nat) (u : Nat → va_E) (hN : 254 ≤ N) (K : Ky) (okk : okK K) (n v : Nat) (msg : Int → Int) (G : Int → Gt) (V : Int → Val) (hC : MS ct b u K n v msg G V) (hI : PI n v msg G V) (x : Int) (hx0 : r32 x) : Met l y_M_cut (w_M_cut) rm_c_Mcut (va_Pc [.ref (b + 236), .int (iI (x))] (fun U => ev D ct st ke b U ∧ va_P D vwCl (wl N b u) U.heap)) (va_Qi (fun (r : Int32) (z : Nat → va_E) => ((0 ≤ x ∧ x < n) ∧ r = iI 1 ∧ MS ct b z K x.toNat (min v x.toNat) msg G V ∧ ∀ j : Nat, j < 236 → z j = u j) ∨ (¬ (0 ≤ x ∧ x < n) ∧ r = iI 0 ∧ u = z)) (fun (z : Nat → va_E) t => va_P D vwCl (wl (N) b (z)) t.heap) (AA b)) 0 0 (AA b) := by
  refine M_z (cc := c9_M_cut) (maxL := 2) (by decide) rfl (Nat.le_of_ble_eq_true rfl) ?_
  intro p e s m args below meth c Q ls H locs hx hb hml hown hts hnm E hP hS hl ret
  have hl : lv_has ls 2 [(0, .ref (b + 236)), (1, .int (iI (x)))] := hl
  have hK := ev_K E
  have kk0 := hts (.fieldLink "LevelledRingModel" 98 "LevelledRingModel" "count" "I") (List.mem_cons_of_mem _ t_501)
  have hinM : ∀ w ∈ u_ws "LevelledRingModel" T_M 19, w ∈ (w_M_cut) := hin_M _
  have fr0 : ∀ j : Nat, (j < 236) → u j = u j := fun _ _ => rfl
  have hn24 := hI.1
  have hvn := hI.2.1
  have hC9 := hC
  obtain ⟨z0, R, sm, ms, kd, fi, se, pl, hs, lv, mt, wv, wm, vv, hW, hkR, hms, hMG, hMH, hMV⟩ := hC
  obtain ⟨mM, ⟨⟨pr, hp1, hp2⟩, ⟨bg, hb1, hb2⟩, ut, hut1, hut2⟩, ⟨sc, hs1, hs2⟩, m0, m1, m2, m3, m4, m5, m6, m7, m8, m9, m10, m11, m12⟩ := hW
  refine lv_aload_n hx hb d_M_cut_0 rfl (lv_at hl 0 rfl) ?_
  refine lv_iload_n hx hb d_M_cut_1 rfl (lv_at hl 1 rfl) ?_
  refine w_calli (va_runV (As := [.int (iI (x))]) (rest := []) ⟨hx, hb, hml, hown, hts⟩ (c_MisGate l D ct st ke b N u (by omega) z0 n hn24 mM (x) hx0) (cwV 1 hts (gV t_581 t_583 (tb_sel ((y_M_isGate), 19) (List.mem_of_getElem? (i := 22) (by decide +kernel))) t_9 t_584) rfl rfl rfl (by decide +kernel) ⟨Nat.le_of_ble_eq_true rfl, Nat.le_of_ble_eq_true rfl⟩) (pre_V E hP hS (236) (by omega) mM rfl) rfl rfl hl.1 rfl (lv_room (Nat.le_of_ble_eq_true rfl)) d_M_cut_2 ⟨(Nat.le_of_ble_eq_true rfl), (Nat.le_of_ble_eq_true rfl)⟩) hS (fun r2 z1 H locs hz hP hS => ?_)
  obtain ⟨rfl, rfl⟩ := hz
  have hi01 := inb_01 (x) (n : Int)
  refine x_if_ne (tgt := 10) hx hb ⟨by omega, by omega⟩ d_M_cut_5 (by decide) (fun hc => ?_) (fun hc => ?_)
  · have hxv := inb_n hc
    obtain ⟨g, rfl⟩ := Int.eq_ofNat_of_zero_le hxv.1
    refine lv_aload_n hx hb d_M_cut_10 rfl (lv_at hl 0 rfl) ?_
    refine lv_iload_n hx hb d_M_cut_11 rfl (lv_at hl 1 rfl) ?_
    refine w_put (C := "LevelledRingModel") (T := T_M) (M := 19) (ty := .int) (v := .int (iI ((g : Int)))) hx hb hts hinM ty_M tyok_M nm_M hown hK hP hS (236) (by omega) mM rfl 8 (by decide) kk0 (fun _ h => h) rfl (by decide +kernel) rfl rfl (Nat.le_of_ble_eq_true rfl) d_M_cut_12 (fun H locs hP hS => ?_)
    obtain ⟨u3, hu4, hP⟩ : ∃ zz : Nat → va_E, zz = va_up u 236 (.inr (6, [.ref (b + 237), .ref (b + 238), .ref (b + 239), .ref (b + 240), .ref (b + 241), .ref (b + 242), .int (z0), .ref (b + 243), .int (iI ((g : Int))), .ref (b + 244), .ref (b + 245), .ref (b + 246), .ref (b + 247), .ref (b + 248), .ref (b + 249), .ref (b + 250), .ref (b + 251), .ref (b + 252), .ref (b + 253)])) ∧ va_P D vwCl (wl N b zz) H := ⟨_, rfl, hP⟩
    have ff5 : u3 236 = .inr (6, [.ref (b + 237), .ref (b + 238), .ref (b + 239), .ref (b + 240), .ref (b + 241), .ref (b + 242), .int (z0), .ref (b + 243), .int (iI ((g : Int))), .ref (b + 244), .ref (b + 245), .ref (b + 246), .ref (b + 247), .ref (b + 248), .ref (b + 249), .ref (b + 250), .ref (b + 251), .ref (b + 252), .ref (b + 253)]) := (congrFun hu4 _).trans up_s
    have ff6 : u3 238 = ir ct 4 (pr) := (congrFun hu4 _).trans ((up_n (by omega)).trans hp1)
    have ff7 : u3 239 = lr ct 4 (bg) := (congrFun hu4 _).trans ((up_n (by omega)).trans hb1)
    have ff8 : u3 240 = lr ct 4 (ut) := (congrFun hu4 _).trans ((up_n (by omega)).trans hut1)
    have ff9 : u3 241 = ir ct 8 (sc) := (congrFun hu4 _).trans ((up_n (by omega)).trans hs1)
    have ff10 : u3 237 = lr ct 512 (R) := (congrFun hu4 _).trans ((up_n (by omega)).trans m0)
    have ff11 : u3 242 = ir ct 8 (sm) := (congrFun hu4 _).trans ((up_n (by omega)).trans m1)
    have ff12 : u3 243 = ir ct 8 (ms) := (congrFun hu4 _).trans ((up_n (by omega)).trans m2)
    have ff13 : u3 244 = ir ct 24 (kd) := (congrFun hu4 _).trans ((up_n (by omega)).trans m3)
    have ff14 : u3 245 = ir ct 24 (fi) := (congrFun hu4 _).trans ((up_n (by omega)).trans m4)
    have ff15 : u3 246 = ir ct 24 (se) := (congrFun hu4 _).trans ((up_n (by omega)).trans m5)
    have ff16 : u3 247 = ir ct 192 (pl) := (congrFun hu4 _).trans ((up_n (by omega)).trans m6)
    have ff17 : u3 248 = zr ct 24 (hs) := (congrFun hu4 _).trans ((up_n (by omega)).trans m7)
    have ff18 : u3 249 = ir ct 24 (lv) := (congrFun hu4 _).trans ((up_n (by omega)).trans m8)
    have ff19 : u3 250 = lr ct 24 (mt) := (congrFun hu4 _).trans ((up_n (by omega)).trans m9)
    have ff20 : u3 251 = ir ct 2 (wv) := (congrFun hu4 _).trans ((up_n (by omega)).trans m10)
    have ff21 : u3 252 = lr ct 2 (wm) := (congrFun hu4 _).trans ((up_n (by omega)).trans m11)
    have ff22 : u3 253 = lr ct 8 (vv) := (congrFun hu4 _).trans ((up_n (by omega)).trans m12)
    have fr23 : ∀ j : Nat, (j < 236) → u3 j = u j := fun j h0 => (congrFun hu4 j).trans ((up_n (by omega)).trans (fr0 j h0))
    refine lv_iconst (v := iI (1)) hx hb d_M_cut_15 rfl ?_
    exact ret 1 u3 H locs 16 ls (Or.inr rfl) (Or.inl ⟨hxv, rfl, MS_cut (by omega) hkR hms hMG hMH hMV ⟨ff5, ⟨⟨pr, ff6, hp2⟩, ⟨bg, ff7, hb2⟩, ut, ff8, hut2⟩, ⟨sc, ff9, hs2⟩, ff10, ff11, ff12, ff13, ff14, ff15, ff16, ff17, ff18, ff19, ff20, ff21, ff22⟩, fr23⟩) hP hS d_M_cut_16
  · refine lv_iconst (v := iI (0)) hx hb d_M_cut_8 rfl ?_
    exact ret 0 u H locs 9 ls (Or.inl rfl) (Or.inr ⟨inb_z hc, rfl, rfl⟩) hP hS d_M_cut_9
abbrev rm_c_Mrun : Room := { frames := 5, cells := 0, slots := 0, locals := 136 }
set_option maxHeartbeats 4000000 in
set_option maxRecDepth 100000 in
/-- run() -/
theorem c_Mrun (l : Launch) (D : va_G) (ct : Nat → ClassId) (st ke : Nat → Nat) (b N : Nat) (u : Nat → va_E) (hN : 254 ≤ N) (K : Ky) (okk : okK K) (n v : Nat) (msg : Int → Int) (G : Int → Gt) (V : Int → Val) (hC : MS ct b u K n v msg G V) (hI : PI n v msg G V) : Met l y_M_run (w_M_run) rm_c_Mrun (va_Pc [.ref (b + 236)] (fun U => ev D ct st ke b U ∧ va_P D vwCl (wl N b u) U.heap)) (va_Qi (fun (r : Int32) (z : Nat → va_E) => r = iI (rnA n (rnS K G n 24 v V)) ∧ MS ct b z K n (rnS K G n 24 v V).1 msg G (rnS K G n 24 v V).2 ∧ ∀ j : Nat, j < 236 → z j = u j) (fun (z : Nat → va_E) t => va_P D vwCl (wl (N) b (z)) t.heap) (AA b)) 0 0 (AA b) := by
  refine M_i (cc := c9_M_run) (maxL := 2) (by decide) rfl (Nat.le_of_ble_eq_true rfl) ?_
  intro p e s m args below meth c Q ls H locs hx hb hml hown hts hnm E hP hS hl ret
  have hl : lv_has ls 2 [(0, .ref (b + 236))] := hl
  have hK := ev_K E
  have kk0 := hts (.fieldLink "LevelledRingModel" 98 "LevelledRingModel" "count" "I") (List.mem_cons_of_mem _ t_501)
  have hinM : ∀ w ∈ u_ws "LevelledRingModel" T_M 19, w ∈ (w_M_run) := hin_M _
  have kk2 := hts (.fieldLink "LevelledRingModel" 44 "LevelledRingModel" "has" "[Z") (List.mem_cons_of_mem _ t_506)
  have fr0 : ∀ j : Nat, (j < 236) → u j = u j := fun _ _ => rfl
  have hn24 := hI.1
  have hvn := hI.2.1
  refine lv_iconst (v := iI (0)) hx hb d_M_run_0 rfl ?_
  refine lv_istore_n (lv' := [(1, .int (iI (0))), (0, .ref (b + 236))]) hx hb d_M_run_1 rfl hl (by decide) rfl (fun ls hl => ?_)
  have lo : ∀ (d : Nat) (g : Nat) (v1 : Nat) (V1 : Int → Val) (f : Nat) (w1 : Nat → va_E) (H : Heap) (locs : List Loc) (ls : Array Slot), (g ≤ 24) → (24 - g < d) → (g ≤ v1) → (n ≤ f + v1) → (PI n v1 msg G V1) → (rnS K G n f v1 V1 = rnS K G n 24 v V) → (MS ct b w1 K n v1 msg G V1) → (∀ j : Nat, (j < 236) → w1 j = u j) → va_P D vwCl (wl N b w1) H → va_S (AA b) s.heap H locs → lv_has ls 2 [(1, .int (iI ((g : Int)))), (0, .ref (b + 236))] → W p l e rm_c_Mrun s m args below meth c H locs 0 0 Q (F0 m 2 ls []) := by
    intro d
    induction d with
    | zero => intro g v1 V1 f w1 H locs ls hg24 hd hgv hf hI1 hrn hC1 fr2 hP hS hl; exfalso; omega
    | succ d ihlo =>
      intro g v1 V1 f w1 H locs ls hg24 hd hgv hf hI1 hrn hC1 fr2 hP hS hl
      have hC8 := hC1
      have hv1n := hI1.2.1
      obtain ⟨z0, R, sm, ms, kd, fi, se, pl, hs, lv, mt, wv, wm, vv, hW, hkR, hms, hMG, hMH, hMV⟩ := hC1
      obtain ⟨mM, ⟨⟨pr, hp1, hp2⟩, ⟨bg, hb1, hb2⟩, ut, hut1, hut2⟩, ⟨sc, hs1, hs2⟩, m0, m1, m2, m3, m4, m5, m6, m7, m8, m9, m10, m11, m12⟩ := hW
      refine lv_iload_n hx hb d_M_run_2 rfl (lv_at hl 0 rfl) ?_
      refine lv_aload_n hx hb d_M_run_3 rfl (lv_at hl 1 rfl) ?_
      refine w_get (C := "LevelledRingModel") (T := T_M) (M := 19) hx hb hts hinM hown hK hP (236) (by omega) mM rfl 8 (by decide) kk0 (fun _ h => h) rfl d_M_run_4 ?_
      refine x_icmp_ge (tgt := 35) hx hb ⟨by omega, by omega⟩ ⟨by omega, by omega⟩ d_M_run_7 (by decide) (fun hc => ?_) (fun hc => ?_)
      · refine lv_iconst (v := iI (-1)) hx hb d_M_run_35 rfl ?_
        have hx9 := rnS_x (K := K) (G := G) (n := n) (f := f) (v := v1) (V := V1) (by omega)
        rw [hx9] at hrn
        exact ret _ w1 H locs 36 ls ⟨by rw [← hrn]; unfold rnA; rw [if_neg (show ¬ v1 < n by omega)], by rw [← hrn]; exact hC8, fr2⟩ hP hS d_M_run_36
      · have hgn : g < n := by omega
        refine lv_aload_n hx hb d_M_run_10 rfl (lv_at hl 1 rfl) ?_
        refine w_get (C := "LevelledRingModel") (T := T_M) (M := 19) hx hb hts hinM hown hK hP (236) (by omega) mM rfl 13 (by decide) kk2 (fun _ h => h) rfl d_M_run_11 ?_
        refine lv_iload_n hx hb d_M_run_14 rfl (lv_at hl 0 rfl) ?_
        refine w_zald hx hb hK hP (248) (by omega) m7 (by omega) (by omega) (by omega) d_M_run_15 ?_
        have hhs := hMH (g : Int) (by omega) (by omega)
        rcases (show g < v1 ∨ g = v1 by omega) with hlt | heq
        · refine x_ie (y := 1) (by rw [hhs, if_pos (by omega)]) ?_
          refine x_if_ne (tgt := 29) hx hb ⟨by omega, by omega⟩ d_M_run_16 (by decide) (fun hc => ?_) (fun hc => by exfalso; omega)
          refine lv_iinc (k := 0) (v := iI ((g : Int) + 1)) (lv' := [(1, .int (iI ((g : Int) + 1))), (0, .ref (b + 236))]) hx hb d_M_run_29 hl rfl (iI_add _ _) (by decide) rfl (fun ls hl => ?_)
          have hl : lv_has ls 2 [(1, .int (iI (((g + 1 : Nat) : Int)))), (0, .ref (b + 236))] := by rw [show ((g + 1 : Nat) : Int) = (g : Int) + 1 from by omega]; exact hl
          refine lv_goto (tgt := 2) hx hb d_M_run_32 (by decide) ?_
          exact ihlo (g + 1) v1 V1 f w1 H locs ls (by omega) (by omega) (by omega) hf hI1 hrn hC8 fr2 hP hS hl
        · refine x_ie (y := 0) (by rw [hhs, if_neg (by omega)]) ?_
          refine x_if_ne (tgt := 29) hx hb ⟨by omega, by omega⟩ d_M_run_16 (by decide) (fun hc => by exfalso; omega) (fun hc => ?_)
          have hvl : v1 < n := by omega
          have hl : lv_has ls 2 [(1, .int (iI ((v1 : Int)))), (0, .ref (b + 236))] := by rw [show (v1 : Int) = (g : Int) from by omega]; exact hl
          obtain ⟨o6, op17, op1, op2, op4⟩ := hI1.2.2.2.1 v1 hvl
          obtain ⟨q1, q2, q3, q4⟩ := hMG (v1 : Int) (by omega) (by omega)
          have hh0 : hs (v1 : Int) = 0 := by rw [hMH _ (by omega) (by omega), if_neg (by omega)]
          refine lv_aload_n hx hb d_M_run_19 rfl (lv_at hl 1 rfl) ?_
          refine lv_iload_n hx hb d_M_run_20 rfl (lv_at hl 0 rfl) ?_
          refine w_calli (va_runV (As := [.int (iI ((v1 : Int)))]) (rest := []) ⟨hx, hb, hml, hown, hts⟩ (c_Mvalue l D ct st ke b N w1 (by omega) z0 (n : Int) K.1 R sm ms kd fi se pl hs lv mt wv wm vv ⟨mM, ⟨⟨pr, hp1, hp2⟩, ⟨bg, hb1, hb2⟩, ut, hut1, hut2⟩, ⟨sc, hs1, hs2⟩, m0, m1, m2, m3, m4, m5, m6, m7, m8, m9, m10, m11, m12⟩ K rfl okk hkR (v1 : Int) (by omega) (by omega) hh0 (G v1) o6 q1 q2 q3 op17 q4 op4 V1 (fun h => ⟨⟨(op1 h).1, by have := (op1 h).2; omega⟩, hMV _ (op1 h).1 (op1 h).2, PI_okW hI1 (op1 h).1 (op1 h).2⟩) (fun h => ⟨⟨(op2 h).1, by have := (op2 h).2; omega⟩, hMV _ (op2 h).1 (op2 h).2, PI_okW hI1 (op2 h).1 (op2 h).2⟩)) (cwV 1 hts (gV t_613 t_615 (tb_sel ((y_M_value), 19) (List.mem_of_getElem? (i := 23) (by decide +kernel))) t_9 t_616) rfl rfl rfl (by decide +kernel) ⟨Nat.le_of_ble_eq_true rfl, Nat.le_of_ble_eq_true rfl⟩) (pre_V E hP hS (236) (by omega) mM rfl) rfl rfl hl.1 rfl (lv_room (Nat.le_of_ble_eq_true rfl)) d_M_run_21 ⟨(Nat.le_of_ble_eq_true rfl), (Nat.le_of_ble_eq_true rfl)⟩) hS (fun r z3 H locs hz hP hS => ?_)
          obtain ⟨⟨z1, R2, sm2, hs2, lv2, mt2, wv2, wm2, hW2, hR2, hy2, hz⟩, hVf⟩ := hz
          obtain ⟨f1, rfl⟩ : ∃ f1, f = f1 + 1 := ⟨f - 1, by omega⟩
          have fr4 : ∀ j : Nat, (j < 236) → z3 j = u j := fun j h0 => (hVf j (by omega)).trans (fr2 j h0)
          rcases hz with ⟨w9, e1, rfl, e3, e4⟩ | ⟨e1, rfl, e3⟩
          · refine x_if_ne (tgt := 29) hx hb ⟨by omega, by omega⟩ d_M_run_24 (by decide) (fun hc => ?_) (fun hc => by exfalso; omega)
            rw [rnS_s hvl e1] at hrn
            refine lv_iinc (k := 0) (v := iI ((v1 : Int) + 1)) (lv' := [(1, .int (iI ((v1 : Int) + 1))), (0, .ref (b + 236))]) hx hb d_M_run_29 hl rfl (iI_add _ _) (by decide) rfl (fun ls hl => ?_)
            have hl : lv_has ls 2 [(1, .int (iI (((v1 + 1 : Nat) : Int)))), (0, .ref (b + 236))] := by rw [show ((v1 + 1 : Nat) : Int) = (v1 : Int) + 1 from by omega]; exact hl
            refine lv_goto (tgt := 2) hx hb d_M_run_32 (by decide) ?_
            exact ihlo (v1 + 1) (v1 + 1) _ f1 z3 H locs ls (by omega) (by omega) (by omega) (by omega) (PI_val hI1 hvl (gv_ok hI1 hvl e1)) hrn (MS_val hn24 hvl hkR hms hMG hMH hMV hW2 hR2 hy2 e3 e4) fr4 hP hS hl
          · refine x_if_ne (tgt := 29) hx hb ⟨by omega, by omega⟩ d_M_run_24 (by decide) (fun hc => by exfalso; omega) (fun hc => ?_)
            rw [rnS_n hvl e1] at hrn
            refine lv_iload_n hx hb d_M_run_27 rfl (lv_at hl 0 rfl) ?_
            exact ret _ z3 H locs 28 ls ⟨by rw [← hrn]; unfold rnA; rw [if_pos (show v1 < n by omega)], by rw [← hrn]; exact MS_no hn24 hvl hkR hms hMG hMH hMV hW2 hR2 hy2 e3, fr4⟩ hP hS d_M_run_28
  exact lo 25 0 v V 24 u H locs ls (by omega) (by omega) (by omega) (by omega) hI rfl hC fr0 hP hS hl
