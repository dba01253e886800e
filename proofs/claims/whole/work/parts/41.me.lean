abbrev rm_c_keep : Room := { frames := 1, cells := 0, slots := 0, locals := 23 }
set_option maxHeartbeats 4000000 in
set_option maxRecDepth 100000 in
/-- keep(x, l1, mm) -/
theorem c_keep (l : Launch) (D : va_G) (ct : Nat → ClassId) (st ke : Nat → Nat) (b N : Nat) (u : Nat → va_E) (hN : 254 ≤ N) (z0 : Int32) (cnt : Int) (S R sm ms kd fi se pl hs lv mt wv wm vv : Int → Int) (hW : MW ct b u z0 cnt S R sm ms kd fi se pl hs lv mt wv wm vv) (x l1 mm : Int) (hx0 : 0 ≤ x) (hx1 : x < 24) (hl0 : 0 ≤ l1) (hl3 : l1 ≤ 3) (hmm : r64 mm) : Met l y_M_keep (w_M_keep) rm_c_keep (va_Pc [.ref (b + 236), .int (iI (x)), .int (iI (l1)), .long (lI (mm))] (fun U => ev D ct st ke b U ∧ va_P D vwCl (wl N b u) U.heap)) (va_Qi (fun (r : Int32) (z : Nat → va_E) => r = iI (1 - tg l1 mm) ∧ MW ct b z z0 cnt S R sm ms kd fi se pl (zu hs x (1 - tg l1 mm)) (zu lv x l1) (zu mt x mm) wv wm vv ∧ ∀ j : Nat, j < 236 → z j = u j) (fun (z : Nat → va_E) t => va_P D vwCl (wl (N) b (z)) t.heap) (AA b)) 0 0 (AA b) := by
  refine M_z (cc := c9_M_keep) (maxL := 5) (by decide) rfl (Nat.le_of_ble_eq_true rfl) ?_
  intro p e s m args below meth c Q ls H locs hx hb hml hown hts hnm E hP hS hl ret
  have hl : lv_has ls 5 [(0, .ref (b + 236)), (1, .int (iI (x))), (2, .int (iI (l1))), (3, .long (lI (mm)))] := hl
  have hK := ev_K E
  have kk0 := hts (.fieldLink "LevelledRingModel" 48 "LevelledRingModel" "level" "[I") (List.mem_cons_of_mem _ t_507)
  have hinM : ∀ w ∈ u_ws "LevelledRingModel" T_M 19, w ∈ (w_M_keep) := hin_M _
  have kk2 := hts (.fieldLink "LevelledRingModel" 51 "LevelledRingModel" "meter" "[J") (List.mem_cons_of_mem _ t_508)
  have kk3 := hts (.fieldLink "LevelledRingModel" 44 "LevelledRingModel" "has" "[Z") (List.mem_cons_of_mem _ t_506)
  have fr0 : ∀ j : Nat, (j < 236) → u j = u j := fun _ _ => rfl
  obtain ⟨mM, ⟨⟨pr, hp1, hp2⟩, ⟨bg, hb1, hb2⟩, ut, hut1, hut2⟩, ⟨sc, hs1, hs2⟩, m0, m1, m2, m3, m4, m5, m6, m7, m8, m9, m10, m11, m12⟩ := hW
  refine lv_aload_n hx hb d_M_keep_0 rfl (lv_at hl 0 rfl) ?_
  refine w_get (C := "LevelledRingModel") (T := T_M) (M := 19) hx hb hts hinM hown hK hP (236) (by omega) mM rfl 14 (by decide) kk0 (fun _ h => h) rfl d_M_keep_1 ?_
  refine lv_iload_n hx hb d_M_keep_4 rfl (lv_at hl 1 rfl) ?_
  refine lv_iload_n hx hb d_M_keep_5 rfl (lv_at hl 2 rfl) ?_
  refine w_iast hx hb hK hP hS (249) (by omega) m8 (by omega) (by omega) (by omega) d_M_keep_6 (fun H locs hP hS => ?_)
  obtain ⟨u1, hu2, hP⟩ : ∃ zz : Nat → va_E, zz = va_up u 249 (ir ct 24 (zu lv (x) (l1))) ∧ va_P D vwCl (wl N b zz) H := ⟨_, rfl, hP⟩
  have ff3 : u1 236 = .inr (6, [.ref (b + 237), .ref (b + 238), .ref (b + 239), .ref (b + 240), .ref (b + 241), .ref (b + 242), .int (z0), .ref (b + 243), .int (iI (cnt)), .ref (b + 244), .ref (b + 245), .ref (b + 246), .ref (b + 247), .ref (b + 248), .ref (b + 249), .ref (b + 250), .ref (b + 251), .ref (b + 252), .ref (b + 253)]) := (congrFun hu2 _).trans ((up_n (by omega)).trans mM)
  have ff4 : u1 238 = ir ct 4 (pr) := (congrFun hu2 _).trans ((up_n (by omega)).trans hp1)
  have ff5 : u1 239 = lr ct 4 (bg) := (congrFun hu2 _).trans ((up_n (by omega)).trans hb1)
  have ff6 : u1 240 = lr ct 4 (ut) := (congrFun hu2 _).trans ((up_n (by omega)).trans hut1)
  have ff7 : u1 241 = ir ct 8 (sc) := (congrFun hu2 _).trans ((up_n (by omega)).trans hs1)
  have ff8 : u1 237 = lr ct 512 (R) := (congrFun hu2 _).trans ((up_n (by omega)).trans m0)
  have ff9 : u1 242 = ir ct 8 (sm) := (congrFun hu2 _).trans ((up_n (by omega)).trans m1)
  have ff10 : u1 243 = ir ct 8 (ms) := (congrFun hu2 _).trans ((up_n (by omega)).trans m2)
  have ff11 : u1 244 = ir ct 24 (kd) := (congrFun hu2 _).trans ((up_n (by omega)).trans m3)
  have ff12 : u1 245 = ir ct 24 (fi) := (congrFun hu2 _).trans ((up_n (by omega)).trans m4)
  have ff13 : u1 246 = ir ct 24 (se) := (congrFun hu2 _).trans ((up_n (by omega)).trans m5)
  have ff14 : u1 247 = ir ct 192 (pl) := (congrFun hu2 _).trans ((up_n (by omega)).trans m6)
  have ff15 : u1 248 = zr ct 24 (hs) := (congrFun hu2 _).trans ((up_n (by omega)).trans m7)
  have ff16 : u1 249 = ir ct 24 (zu lv (x) (l1)) := (congrFun hu2 _).trans up_s
  have ff17 : u1 250 = lr ct 24 (mt) := (congrFun hu2 _).trans ((up_n (by omega)).trans m9)
  have ff18 : u1 251 = ir ct 2 (wv) := (congrFun hu2 _).trans ((up_n (by omega)).trans m10)
  have ff19 : u1 252 = lr ct 2 (wm) := (congrFun hu2 _).trans ((up_n (by omega)).trans m11)
  have ff20 : u1 253 = lr ct 8 (vv) := (congrFun hu2 _).trans ((up_n (by omega)).trans m12)
  have fr21 : ∀ j : Nat, (j < 236) → u1 j = u j := fun j h0 => (congrFun hu2 j).trans ((up_n (by omega)).trans (fr0 j h0))
  refine lv_aload_n hx hb d_M_keep_7 rfl (lv_at hl 0 rfl) ?_
  refine w_get (C := "LevelledRingModel") (T := T_M) (M := 19) hx hb hts hinM hown hK hP (236) (by omega) ff3 rfl 15 (by decide) kk2 (fun _ h => h) rfl d_M_keep_8 ?_
  refine lv_iload_n hx hb d_M_keep_11 rfl (lv_at hl 1 rfl) ?_
  refine lv_lload_n hx hb d_M_keep_12 rfl (lv_at hl 3 rfl) ?_
  refine w_last hx hb hK hP hS (250) (by omega) ff17 (by omega) (by omega) (by omega) d_M_keep_13 (fun H locs hP hS => ?_)
  obtain ⟨u22, hu23, hP⟩ : ∃ zz : Nat → va_E, zz = va_up u1 250 (lr ct 24 (zu mt (x) (mm))) ∧ va_P D vwCl (wl N b zz) H := ⟨_, rfl, hP⟩
  have ff24 : u22 236 = .inr (6, [.ref (b + 237), .ref (b + 238), .ref (b + 239), .ref (b + 240), .ref (b + 241), .ref (b + 242), .int (z0), .ref (b + 243), .int (iI (cnt)), .ref (b + 244), .ref (b + 245), .ref (b + 246), .ref (b + 247), .ref (b + 248), .ref (b + 249), .ref (b + 250), .ref (b + 251), .ref (b + 252), .ref (b + 253)]) := (congrFun hu23 _).trans ((up_n (by omega)).trans ff3)
  have ff25 : u22 238 = ir ct 4 (pr) := (congrFun hu23 _).trans ((up_n (by omega)).trans ff4)
  have ff26 : u22 239 = lr ct 4 (bg) := (congrFun hu23 _).trans ((up_n (by omega)).trans ff5)
  have ff27 : u22 240 = lr ct 4 (ut) := (congrFun hu23 _).trans ((up_n (by omega)).trans ff6)
  have ff28 : u22 241 = ir ct 8 (sc) := (congrFun hu23 _).trans ((up_n (by omega)).trans ff7)
  have ff29 : u22 237 = lr ct 512 (R) := (congrFun hu23 _).trans ((up_n (by omega)).trans ff8)
  have ff30 : u22 242 = ir ct 8 (sm) := (congrFun hu23 _).trans ((up_n (by omega)).trans ff9)
  have ff31 : u22 243 = ir ct 8 (ms) := (congrFun hu23 _).trans ((up_n (by omega)).trans ff10)
  have ff32 : u22 244 = ir ct 24 (kd) := (congrFun hu23 _).trans ((up_n (by omega)).trans ff11)
  have ff33 : u22 245 = ir ct 24 (fi) := (congrFun hu23 _).trans ((up_n (by omega)).trans ff12)
  have ff34 : u22 246 = ir ct 24 (se) := (congrFun hu23 _).trans ((up_n (by omega)).trans ff13)
  have ff35 : u22 247 = ir ct 192 (pl) := (congrFun hu23 _).trans ((up_n (by omega)).trans ff14)
  have ff36 : u22 248 = zr ct 24 (hs) := (congrFun hu23 _).trans ((up_n (by omega)).trans ff15)
  have ff37 : u22 249 = ir ct 24 (zu lv (x) (l1)) := (congrFun hu23 _).trans ((up_n (by omega)).trans ff16)
  have ff38 : u22 250 = lr ct 24 (zu mt (x) (mm)) := (congrFun hu23 _).trans up_s
  have ff39 : u22 251 = ir ct 2 (wv) := (congrFun hu23 _).trans ((up_n (by omega)).trans ff18)
  have ff40 : u22 252 = lr ct 2 (wm) := (congrFun hu23 _).trans ((up_n (by omega)).trans ff19)
  have ff41 : u22 253 = lr ct 8 (vv) := (congrFun hu23 _).trans ((up_n (by omega)).trans ff20)
  have fr42 : ∀ j : Nat, (j < 236) → u22 j = u j := fun j h0 => (congrFun hu23 j).trans ((up_n (by omega)).trans (fr21 j h0))
  refine lv_aload_n hx hb d_M_keep_14 rfl (lv_at hl 0 rfl) ?_
  refine w_get (C := "LevelledRingModel") (T := T_M) (M := 19) hx hb hts hinM hown hK hP (236) (by omega) ff24 rfl 13 (by decide) kk3 (fun _ h => h) rfl d_M_keep_15 ?_
  refine lv_iload_n hx hb d_M_keep_18 rfl (lv_at hl 1 rfl) ?_
  refine lv_aload_n hx hb d_M_keep_19 rfl (lv_at hl 0 rfl) ?_
  refine lv_lload_n hx hb d_M_keep_20 rfl (lv_at hl 3 rfl) ?_
  refine lv_iload_n hx hb d_M_keep_21 rfl (lv_at hl 2 rfl) ?_
  refine w_calli (va_runV (As := [.long (lI (mm)), .int (iI (l1))]) (rest := [.int (iI (x)), .ref (b + 248)]) ⟨hx, hb, hml, hown, hts⟩ (c_MtooGreat l D ct st ke b N u22 (by omega) z0 cnt ff24 ⟨⟨pr, ff25, hp2⟩, ⟨bg, ff26, hb2⟩, ut, ff27, hut2⟩ mm l1 hmm hl0 hl3) (cwV 2 hts (gV t_626 t_628 (tb_sel ((y_M_tooGreat), 19) (List.mem_of_getElem? (i := 26) (by decide +kernel))) t_9 t_629) rfl rfl rfl (by decide +kernel) ⟨Nat.le_of_ble_eq_true rfl, Nat.le_of_ble_eq_true rfl⟩) (pre_V E hP hS (236) (by omega) ff24 rfl) rfl rfl hl.1 rfl (lv_room (Nat.le_of_ble_eq_true rfl)) d_M_keep_22 ⟨(Nat.le_of_ble_eq_true rfl), (Nat.le_of_ble_eq_true rfl)⟩) hS (fun r44 z43 H locs hz hP hS => ?_)
  obtain ⟨rfl, rfl⟩ := hz
  have htg := tg_01 l1 mm
  refine x_if_ne (tgt := 32) hx hb ⟨by omega, by omega⟩ d_M_keep_25 (by decide) (fun hc => ?_) (fun hc => ?_)
  · refine lv_iconst (v := iI (0)) hx hb d_M_keep_32 rfl ?_
    refine x_ie (y := 1 - tg l1 mm) (by omega) ?_
    refine w_zast hx hb hK hP hS (248) (by omega) ff36 (by omega) (by omega) (by omega) (by omega) d_M_keep_33 (fun H locs hP hS => ?_)
    obtain ⟨u45, hu46, hP⟩ : ∃ zz : Nat → va_E, zz = va_up u22 248 (zr ct 24 (zu hs (x) (1 - tg l1 mm))) ∧ va_P D vwCl (wl N b zz) H := ⟨_, rfl, hP⟩
    have ff47 : u45 236 = .inr (6, [.ref (b + 237), .ref (b + 238), .ref (b + 239), .ref (b + 240), .ref (b + 241), .ref (b + 242), .int (z0), .ref (b + 243), .int (iI (cnt)), .ref (b + 244), .ref (b + 245), .ref (b + 246), .ref (b + 247), .ref (b + 248), .ref (b + 249), .ref (b + 250), .ref (b + 251), .ref (b + 252), .ref (b + 253)]) := (congrFun hu46 _).trans ((up_n (by omega)).trans ff24)
    have ff48 : u45 238 = ir ct 4 (pr) := (congrFun hu46 _).trans ((up_n (by omega)).trans ff25)
    have ff49 : u45 239 = lr ct 4 (bg) := (congrFun hu46 _).trans ((up_n (by omega)).trans ff26)
    have ff50 : u45 240 = lr ct 4 (ut) := (congrFun hu46 _).trans ((up_n (by omega)).trans ff27)
    have ff51 : u45 241 = ir ct 8 (sc) := (congrFun hu46 _).trans ((up_n (by omega)).trans ff28)
    have ff52 : u45 237 = lr ct 512 (R) := (congrFun hu46 _).trans ((up_n (by omega)).trans ff29)
    have ff53 : u45 242 = ir ct 8 (sm) := (congrFun hu46 _).trans ((up_n (by omega)).trans ff30)
    have ff54 : u45 243 = ir ct 8 (ms) := (congrFun hu46 _).trans ((up_n (by omega)).trans ff31)
    have ff55 : u45 244 = ir ct 24 (kd) := (congrFun hu46 _).trans ((up_n (by omega)).trans ff32)
    have ff56 : u45 245 = ir ct 24 (fi) := (congrFun hu46 _).trans ((up_n (by omega)).trans ff33)
    have ff57 : u45 246 = ir ct 24 (se) := (congrFun hu46 _).trans ((up_n (by omega)).trans ff34)
    have ff58 : u45 247 = ir ct 192 (pl) := (congrFun hu46 _).trans ((up_n (by omega)).trans ff35)
    have ff59 : u45 248 = zr ct 24 (zu hs (x) (1 - tg l1 mm)) := (congrFun hu46 _).trans up_s
    have ff60 : u45 249 = ir ct 24 (zu lv (x) (l1)) := (congrFun hu46 _).trans ((up_n (by omega)).trans ff37)
    have ff61 : u45 250 = lr ct 24 (zu mt (x) (mm)) := (congrFun hu46 _).trans ((up_n (by omega)).trans ff38)
    have ff62 : u45 251 = ir ct 2 (wv) := (congrFun hu46 _).trans ((up_n (by omega)).trans ff39)
    have ff63 : u45 252 = lr ct 2 (wm) := (congrFun hu46 _).trans ((up_n (by omega)).trans ff40)
    have ff64 : u45 253 = lr ct 8 (vv) := (congrFun hu46 _).trans ((up_n (by omega)).trans ff41)
    have fr65 : ∀ j : Nat, (j < 236) → u45 j = u j := fun j h0 => (congrFun hu46 j).trans ((up_n (by omega)).trans (fr42 j h0))
    refine lv_aload_n hx hb d_M_keep_34 rfl (lv_at hl 0 rfl) ?_
    refine w_get (C := "LevelledRingModel") (T := T_M) (M := 19) hx hb hts hinM hown hK hP (236) (by omega) ff47 rfl 13 (by decide) kk3 (fun _ h => h) rfl d_M_keep_35 ?_
    refine lv_iload_n hx hb d_M_keep_38 rfl (lv_at hl 1 rfl) ?_
    refine w_zald hx hb hK hP (248) (by omega) ff59 (by omega) (by omega) (by omega) d_M_keep_39 ?_
    refine x_ie (y := 1 - tg l1 mm) (zu_s) ?_
    exact ret _ u45 H locs 40 ls (by omega) ⟨rfl, ⟨ff47, ⟨⟨pr, ff48, hp2⟩, ⟨bg, ff49, hb2⟩, ut, ff50, hut2⟩, ⟨sc, ff51, hs2⟩, ff52, ff53, ff54, ff55, ff56, ff57, ff58, ff59, ff60, ff61, ff62, ff63, ff64⟩, fr65⟩ hP hS d_M_keep_40
  · refine lv_iconst (v := iI (1)) hx hb d_M_keep_28 rfl ?_
    refine lv_goto (tgt := 33) hx hb d_M_keep_29 (by decide) ?_
    refine x_ie (y := 1 - tg l1 mm) (by omega) ?_
    refine w_zast hx hb hK hP hS (248) (by omega) ff36 (by omega) (by omega) (by omega) (by omega) d_M_keep_33 (fun H locs hP hS => ?_)
    obtain ⟨u66, hu67, hP⟩ : ∃ zz : Nat → va_E, zz = va_up u22 248 (zr ct 24 (zu hs (x) (1 - tg l1 mm))) ∧ va_P D vwCl (wl N b zz) H := ⟨_, rfl, hP⟩
    have ff68 : u66 236 = .inr (6, [.ref (b + 237), .ref (b + 238), .ref (b + 239), .ref (b + 240), .ref (b + 241), .ref (b + 242), .int (z0), .ref (b + 243), .int (iI (cnt)), .ref (b + 244), .ref (b + 245), .ref (b + 246), .ref (b + 247), .ref (b + 248), .ref (b + 249), .ref (b + 250), .ref (b + 251), .ref (b + 252), .ref (b + 253)]) := (congrFun hu67 _).trans ((up_n (by omega)).trans ff24)
    have ff69 : u66 238 = ir ct 4 (pr) := (congrFun hu67 _).trans ((up_n (by omega)).trans ff25)
    have ff70 : u66 239 = lr ct 4 (bg) := (congrFun hu67 _).trans ((up_n (by omega)).trans ff26)
    have ff71 : u66 240 = lr ct 4 (ut) := (congrFun hu67 _).trans ((up_n (by omega)).trans ff27)
    have ff72 : u66 241 = ir ct 8 (sc) := (congrFun hu67 _).trans ((up_n (by omega)).trans ff28)
    have ff73 : u66 237 = lr ct 512 (R) := (congrFun hu67 _).trans ((up_n (by omega)).trans ff29)
    have ff74 : u66 242 = ir ct 8 (sm) := (congrFun hu67 _).trans ((up_n (by omega)).trans ff30)
    have ff75 : u66 243 = ir ct 8 (ms) := (congrFun hu67 _).trans ((up_n (by omega)).trans ff31)
    have ff76 : u66 244 = ir ct 24 (kd) := (congrFun hu67 _).trans ((up_n (by omega)).trans ff32)
    have ff77 : u66 245 = ir ct 24 (fi) := (congrFun hu67 _).trans ((up_n (by omega)).trans ff33)
    have ff78 : u66 246 = ir ct 24 (se) := (congrFun hu67 _).trans ((up_n (by omega)).trans ff34)
    have ff79 : u66 247 = ir ct 192 (pl) := (congrFun hu67 _).trans ((up_n (by omega)).trans ff35)
    have ff80 : u66 248 = zr ct 24 (zu hs (x) (1 - tg l1 mm)) := (congrFun hu67 _).trans up_s
    have ff81 : u66 249 = ir ct 24 (zu lv (x) (l1)) := (congrFun hu67 _).trans ((up_n (by omega)).trans ff37)
    have ff82 : u66 250 = lr ct 24 (zu mt (x) (mm)) := (congrFun hu67 _).trans ((up_n (by omega)).trans ff38)
    have ff83 : u66 251 = ir ct 2 (wv) := (congrFun hu67 _).trans ((up_n (by omega)).trans ff39)
    have ff84 : u66 252 = lr ct 2 (wm) := (congrFun hu67 _).trans ((up_n (by omega)).trans ff40)
    have ff85 : u66 253 = lr ct 8 (vv) := (congrFun hu67 _).trans ((up_n (by omega)).trans ff41)
    have fr86 : ∀ j : Nat, (j < 236) → u66 j = u j := fun j h0 => (congrFun hu67 j).trans ((up_n (by omega)).trans (fr42 j h0))
    refine lv_aload_n hx hb d_M_keep_34 rfl (lv_at hl 0 rfl) ?_
    refine w_get (C := "LevelledRingModel") (T := T_M) (M := 19) hx hb hts hinM hown hK hP (236) (by omega) ff68 rfl 13 (by decide) kk3 (fun _ h => h) rfl d_M_keep_35 ?_
    refine lv_iload_n hx hb d_M_keep_38 rfl (lv_at hl 1 rfl) ?_
    refine w_zald hx hb hK hP (248) (by omega) ff80 (by omega) (by omega) (by omega) d_M_keep_39 ?_
    refine x_ie (y := 1 - tg l1 mm) (zu_s) ?_
    exact ret _ u66 H locs 40 ls (by omega) ⟨rfl, ⟨ff68, ⟨⟨pr, ff69, hp2⟩, ⟨bg, ff70, hb2⟩, ut, ff71, hut2⟩, ⟨sc, ff72, hs2⟩, ff73, ff74, ff75, ff76, ff77, ff78, ff79, ff80, ff81, ff82, ff83, ff84, ff85⟩, fr86⟩ hP hS d_M_keep_40
abbrev rm_c_level2 : Room := { frames := 2, cells := 0, slots := 0, locals := 56 }
set_option maxHeartbeats 4000000 in
set_option maxRecDepth 100000 in
/-- level2(x, y) -/
theorem c_level2 (l : Launch) (D : va_G) (ct : Nat → ClassId) (st ke : Nat → Nat) (b N : Nat) (u : Nat → va_E) (hN : 254 ≤ N) (z0 : Int32) (cnt : Int) (S R sm ms kd fi se pl hs lv mt wv wm vv : Int → Int) (hW : MW ct b u z0 cnt S R sm ms kd fi se pl hs lv mt wv wm vv) (x y : Int) (hx0 : 0 ≤ x) (hx1 : x < 24) (hy0 : 0 ≤ y) (hy1 : y < 24) (v1 v2 : Val) (o1 : okW v1) (o2 : okW v2) (hG1 : GV R lv mt x v1) (hG2 : GV R lv mt y v2) : Met l y_M_level2 (w_M_level2) rm_c_level2 (va_Pc [.ref (b + 236), .int (iI (x)), .int (iI (y))] (fun U => ev D ct st ke b U ∧ va_P D vwCl (wl N b u) U.heap)) (va_Qi (fun (r : Int32) (z : Nat → va_E) => ∃ R2 wv2 wm2 : Int → Int, MW ct b z z0 cnt S R2 sm ms kd fi se pl hs lv mt wv2 wm2 vv ∧ (∀ j : Int, j < 448 → R2 j = R j) ∧ ((∃ p, opn v1 v2 = some p ∧ r = iI 1 ∧ WV R2 wv2 wm2 0 p.1 ∧ WV R2 wv2 wm2 1 p.2 ∧ okW p.1 ∧ okW p.2) ∨ (opn v1 v2 = none ∧ r = iI 0)) ∧ ∀ j : Nat, j < 236 → z j = u j) (fun (z : Nat → va_E) t => va_P D vwCl (wl (N) b (z)) t.heap) (AA b)) 0 0 (AA b) := by
  refine M_z (cc := c9_M_level2) (maxL := 5) (by decide) rfl (Nat.le_of_ble_eq_true rfl) ?_
  intro p e s m args below meth c Q ls H locs hx hb hml hown hts hnm E hP hS hl ret
  have hl : lv_has ls 5 [(0, .ref (b + 236)), (1, .int (iI (x))), (2, .int (iI (y)))] := hl
  have hK := ev_K E
  have kk0 := hts (.fieldLink "LevelledRingModel" 54 "LevelledRingModel" "workLevel" "[I") (List.mem_cons_of_mem _ t_509)
  have hinM : ∀ w ∈ u_ws "LevelledRingModel" T_M 19, w ∈ (w_M_level2) := hin_M _
  have fr0 : ∀ j : Nat, (j < 236) → u j = u j := fun _ _ => rfl
  obtain ⟨mM, ⟨⟨pr, hp1, hp2⟩, ⟨bg, hb1, hb2⟩, ut, hut1, hut2⟩, ⟨sc, hs1, hs2⟩, m0, m1, m2, m3, m4, m5, m6, m7, m8, m9, m10, m11, m12⟩ := hW
  refine lv_aload_n hx hb d_M_level2_0 rfl (lv_at hl 0 rfl) ?_
  refine lv_iconst (v := iI (0)) hx hb d_M_level2_1 rfl ?_
  refine lv_iload_n hx hb d_M_level2_2 rfl (lv_at hl 1 rfl) ?_
  refine w_callv (va_runV (As := [.int (iI (0)), .int (iI (x))]) (rest := []) ⟨hx, hb, hml, hown, hts⟩ (c_load l D ct st ke b N u (by omega) z0 cnt mM (R) lv mt (wv) (wm) m0 m8 m9 m10 m11 0 x (by decide) (by decide) hx0 hx1) (cwV 2 hts (gV t_639 t_641 (tb_sel ((y_M_load), 19) (List.mem_of_getElem? (i := 29) (by decide +kernel))) t_9 t_642) rfl rfl rfl (by decide +kernel) ⟨Nat.le_of_ble_eq_true rfl, Nat.le_of_ble_eq_true rfl⟩) (pre_V E hP hS (236) (by omega) mM rfl) rfl rfl hl.1 rfl (lv_room (Nat.le_of_ble_eq_true rfl)) d_M_level2_3 ⟨(Nat.le_of_ble_eq_true rfl), (Nat.le_of_ble_eq_true rfl)⟩) hS (fun z1 H locs hz hP hS => ?_)
  obtain ⟨aR, a1, a2, a3, a4, a5, a6⟩ := hz
  have ff3 : z1 236 = .inr (6, [.ref (b + 237), .ref (b + 238), .ref (b + 239), .ref (b + 240), .ref (b + 241), .ref (b + 242), .int (z0), .ref (b + 243), .int (iI (cnt)), .ref (b + 244), .ref (b + 245), .ref (b + 246), .ref (b + 247), .ref (b + 248), .ref (b + 249), .ref (b + 250), .ref (b + 251), .ref (b + 252), .ref (b + 253)]) := (a6 236 (by omega) (by omega) (by omega)).trans mM
  have ff4 : z1 238 = ir ct 4 (pr) := (a6 238 (by omega) (by omega) (by omega)).trans hp1
  have ff5 : z1 239 = lr ct 4 (bg) := (a6 239 (by omega) (by omega) (by omega)).trans hb1
  have ff6 : z1 240 = lr ct 4 (ut) := (a6 240 (by omega) (by omega) (by omega)).trans hut1
  have ff7 : z1 241 = ir ct 8 (sc) := (a6 241 (by omega) (by omega) (by omega)).trans hs1
  have ff8 : z1 242 = ir ct 8 (sm) := (a6 242 (by omega) (by omega) (by omega)).trans m1
  have ff9 : z1 243 = ir ct 8 (ms) := (a6 243 (by omega) (by omega) (by omega)).trans m2
  have ff10 : z1 244 = ir ct 24 (kd) := (a6 244 (by omega) (by omega) (by omega)).trans m3
  have ff11 : z1 245 = ir ct 24 (fi) := (a6 245 (by omega) (by omega) (by omega)).trans m4
  have ff12 : z1 246 = ir ct 24 (se) := (a6 246 (by omega) (by omega) (by omega)).trans m5
  have ff13 : z1 247 = ir ct 192 (pl) := (a6 247 (by omega) (by omega) (by omega)).trans m6
  have ff14 : z1 248 = zr ct 24 (hs) := (a6 248 (by omega) (by omega) (by omega)).trans m7
  have ff15 : z1 249 = ir ct 24 (lv) := (a6 249 (by omega) (by omega) (by omega)).trans m8
  have ff16 : z1 250 = lr ct 24 (mt) := (a6 250 (by omega) (by omega) (by omega)).trans m9
  have ff17 : z1 253 = lr ct 8 (vv) := (a6 253 (by omega) (by omega) (by omega)).trans m12
  have fr18 : ∀ j : Nat, (j < 236) → z1 j = u j := fun j h0 => (a6 j (by omega) (by omega) (by omega)).trans (fr0 j h0)
  refine lv_aload_n hx hb d_M_level2_6 rfl (lv_at hl 0 rfl) ?_
  refine lv_iconst (v := iI (1)) hx hb d_M_level2_7 rfl ?_
  refine lv_iload_n hx hb d_M_level2_8 rfl (lv_at hl 2 rfl) ?_
  refine w_callv (va_runV (As := [.int (iI (1)), .int (iI (y))]) (rest := []) ⟨hx, hb, hml, hown, hts⟩ (c_load l D ct st ke b N z1 (by omega) z0 cnt ff3 (aR) lv mt (zu (wv) 0 (lv x)) (zu (wm) 0 (mt x)) a1 ff15 ff16 a2 a3 1 y (by decide) (by decide) hy0 hy1) (cwV 2 hts (gV t_639 t_641 (tb_sel ((y_M_load), 19) (List.mem_of_getElem? (i := 29) (by decide +kernel))) t_9 t_642) rfl rfl rfl (by decide +kernel) ⟨Nat.le_of_ble_eq_true rfl, Nat.le_of_ble_eq_true rfl⟩) (pre_V E hP hS (236) (by omega) ff3 rfl) rfl rfl hl.1 rfl (lv_room (Nat.le_of_ble_eq_true rfl)) d_M_level2_9 ⟨(Nat.le_of_ble_eq_true rfl), (Nat.le_of_ble_eq_true rfl)⟩) hS (fun z19 H locs hz hP hS => ?_)
  obtain ⟨cR, c1, c2, c3, c4, c5, c6⟩ := hz
  have ff21 : z19 236 = .inr (6, [.ref (b + 237), .ref (b + 238), .ref (b + 239), .ref (b + 240), .ref (b + 241), .ref (b + 242), .int (z0), .ref (b + 243), .int (iI (cnt)), .ref (b + 244), .ref (b + 245), .ref (b + 246), .ref (b + 247), .ref (b + 248), .ref (b + 249), .ref (b + 250), .ref (b + 251), .ref (b + 252), .ref (b + 253)]) := (c6 236 (by omega) (by omega) (by omega)).trans ff3
  have ff22 : z19 238 = ir ct 4 (pr) := (c6 238 (by omega) (by omega) (by omega)).trans ff4
  have ff23 : z19 239 = lr ct 4 (bg) := (c6 239 (by omega) (by omega) (by omega)).trans ff5
  have ff24 : z19 240 = lr ct 4 (ut) := (c6 240 (by omega) (by omega) (by omega)).trans ff6
  have ff25 : z19 241 = ir ct 8 (sc) := (c6 241 (by omega) (by omega) (by omega)).trans ff7
  have ff26 : z19 242 = ir ct 8 (sm) := (c6 242 (by omega) (by omega) (by omega)).trans ff8
  have ff27 : z19 243 = ir ct 8 (ms) := (c6 243 (by omega) (by omega) (by omega)).trans ff9
  have ff28 : z19 244 = ir ct 24 (kd) := (c6 244 (by omega) (by omega) (by omega)).trans ff10
  have ff29 : z19 245 = ir ct 24 (fi) := (c6 245 (by omega) (by omega) (by omega)).trans ff11
  have ff30 : z19 246 = ir ct 24 (se) := (c6 246 (by omega) (by omega) (by omega)).trans ff12
  have ff31 : z19 247 = ir ct 192 (pl) := (c6 247 (by omega) (by omega) (by omega)).trans ff13
  have ff32 : z19 248 = zr ct 24 (hs) := (c6 248 (by omega) (by omega) (by omega)).trans ff14
  have ff33 : z19 249 = ir ct 24 (lv) := (c6 249 (by omega) (by omega) (by omega)).trans ff15
  have ff34 : z19 250 = lr ct 24 (mt) := (c6 250 (by omega) (by omega) (by omega)).trans ff16
  have ff35 : z19 253 = lr ct 8 (vv) := (c6 253 (by omega) (by omega) (by omega)).trans ff17
  have fr36 : ∀ j : Nat, (j < 236) → z19 j = u j := fun j h0 => (c6 j (by omega) (by omega) (by omega)).trans (fr18 j h0)
  have hW1 : WV cR (zu (zu (wv) 0 (lv x)) 1 (lv y)) (zu (zu (wm) 0 (mt x)) 1 (mt y)) 0 v1 := ⟨by rw [zu_n (by decide), zu_s]; exact hG1.1, by rw [zu_n (by decide), zu_s]; exact hG1.2.1, hG1.2.2.of fun i h0 h1 => (c5 _ (by omega)).trans (a4 i h0 h1)⟩
  have hW2 : WV cR (zu (zu (wv) 0 (lv x)) 1 (lv y)) (zu (zu (wm) 0 (mt x)) 1 (mt y)) 1 v2 := ⟨by rw [zu_s]; exact hG2.1, by rw [zu_s]; exact hG2.2.1, hG2.2.2.of fun i h0 h1 => (c4 i h0 h1).trans (a5 _ (by omega))⟩
  have hR0 : ∀ j : Int, j < 448 → cR j = R j := fun j h => (c5 j (by omega)).trans (a5 j (by omega))
  refine lv_iconst (v := iI (1)) hx hb d_M_level2_12 rfl ?_
  refine lv_istore_n (lv' := [(3, .int (iI (1))), (0, .ref (b + 236)), (1, .int (iI (x))), (2, .int (iI (y)))]) hx hb d_M_level2_13 rfl hl (by decide) rfl (fun ls hl => ?_)
  refine lv_iconst (v := iI (0)) hx hb d_M_level2_14 rfl ?_
  refine lv_istore (lv' := [(4, .int (iI (0))), (3, .int (iI (1))), (0, .ref (b + 236)), (1, .int (iI (x))), (2, .int (iI (y)))]) hx hb d_M_level2_15 hl (by decide) rfl (fun ls hl => ?_)
  have fr37 : ∀ j : Nat, (j ≠ 237) → (j ≠ 251) → (j ≠ 252) → z19 j = z19 j := fun _ _ _ _ => rfl
  have lo : ∀ (d : Nat) (kk : Int) (gd : Int) (R2 : Int → Int) (wv2 : Int → Int) (wm2 : Int → Int) (pq : V2) (w38 : Nat → va_E) (H : Heap) (locs : List Loc) (ls : Array Slot), (0 ≤ kk) → (kk ≤ 4) → (4 - kk < d) → (∀ j : Int, j < 448 → R2 j = R j) → ((gd = 1 ∧ WV R2 wv2 wm2 0 pq.1 ∧ WV R2 wv2 wm2 1 pq.2 ∧ okW pq.1 ∧ okW pq.2 ∧ opn pq.1 pq.2 = opn v1 v2 ∧ pq.1.1 - pq.2.1 + kk ≤ 3 ∧ pq.2.1 - pq.1.1 + kk ≤ 3) ∨ (gd = 0 ∧ opn v1 v2 = none)) → w38 237 = lr ct 512 (R2) → w38 251 = ir ct 2 (wv2) → w38 252 = lr ct 2 (wm2) → (∀ j : Nat, (j ≠ 237) → (j ≠ 251) → (j ≠ 252) → w38 j = z19 j) → va_P D vwCl (wl N b w38) H → va_S (AA b) s.heap H locs → lv_has ls 5 [(4, .int (iI (kk))), (3, .int (iI (gd))), (0, .ref (b + 236)), (1, .int (iI (x))), (2, .int (iI (y)))] → W p l e rm_c_level2 s m args below meth c H locs 0 0 Q (F0 m 17 ls []) := by
    intro d
    induction d with
    | zero => intro kk gd R2 wv2 wm2 pq w38 H locs ls h0 hk4 hd hR hst fg39 fg40 fg41 fr42 hP hS hl; exfalso; omega
    | succ d ihlo =>
      intro kk gd R2 wv2 wm2 pq w38 H locs ls h0 hk4 hd hR hst fg39 fg40 fg41 fr42 hP hS hl
      have ff43 : w38 236 = .inr (6, [.ref (b + 237), .ref (b + 238), .ref (b + 239), .ref (b + 240), .ref (b + 241), .ref (b + 242), .int (z0), .ref (b + 243), .int (iI (cnt)), .ref (b + 244), .ref (b + 245), .ref (b + 246), .ref (b + 247), .ref (b + 248), .ref (b + 249), .ref (b + 250), .ref (b + 251), .ref (b + 252), .ref (b + 253)]) := (fr42 236 (by omega) (by omega) (by omega)).trans ff21
      have ff44 : w38 238 = ir ct 4 (pr) := (fr42 238 (by omega) (by omega) (by omega)).trans ff22
      have ff45 : w38 239 = lr ct 4 (bg) := (fr42 239 (by omega) (by omega) (by omega)).trans ff23
      have ff46 : w38 240 = lr ct 4 (ut) := (fr42 240 (by omega) (by omega) (by omega)).trans ff24
      have ff47 : w38 241 = ir ct 8 (sc) := (fr42 241 (by omega) (by omega) (by omega)).trans ff25
      have ff48 : w38 242 = ir ct 8 (sm) := (fr42 242 (by omega) (by omega) (by omega)).trans ff26
      have ff49 : w38 243 = ir ct 8 (ms) := (fr42 243 (by omega) (by omega) (by omega)).trans ff27
      have ff50 : w38 244 = ir ct 24 (kd) := (fr42 244 (by omega) (by omega) (by omega)).trans ff28
      have ff51 : w38 245 = ir ct 24 (fi) := (fr42 245 (by omega) (by omega) (by omega)).trans ff29
      have ff52 : w38 246 = ir ct 24 (se) := (fr42 246 (by omega) (by omega) (by omega)).trans ff30
      have ff53 : w38 247 = ir ct 192 (pl) := (fr42 247 (by omega) (by omega) (by omega)).trans ff31
      have ff54 : w38 248 = zr ct 24 (hs) := (fr42 248 (by omega) (by omega) (by omega)).trans ff32
      have ff55 : w38 249 = ir ct 24 (lv) := (fr42 249 (by omega) (by omega) (by omega)).trans ff33
      have ff56 : w38 250 = lr ct 24 (mt) := (fr42 250 (by omega) (by omega) (by omega)).trans ff34
      have ff57 : w38 253 = lr ct 8 (vv) := (fr42 253 (by omega) (by omega) (by omega)).trans ff35
      have hg01 : gd = 0 ∨ gd = 1 := by rcases hst with h | h; (exact Or.inr h.1); (exact Or.inl h.1)
      refine lv_iload hx hb d_M_level2_17 (lv_at hl 0 rfl) ?_
      refine lv_iconst (v := iI (4)) hx hb d_M_level2_19 rfl ?_
      refine x_icmp_ge (tgt := 73) hx hb ⟨by omega, by omega⟩ ⟨by omega, by omega⟩ d_M_level2_20 (by decide) (fun hc => ?_) (fun hc => ?_)
      · rcases hst with ⟨s1, s2, s3, s4, s5, s6, s7, s8⟩ | ⟨s1, s2⟩
        · refine lv_iload_n hx hb d_M_level2_73 rfl (lv_at hl 1 rfl) ?_
          exact ret gd w38 H locs 74 ls (by omega) ⟨R2, wv2, wm2, ⟨ff43, ⟨⟨pr, ff44, hp2⟩, ⟨bg, ff45, hb2⟩, ut, ff46, hut2⟩, ⟨sc, ff47, hs2⟩, fg39, ff48, ff49, ff50, ff51, ff52, ff53, ff54, ff55, ff56, fg40, fg41, ff57⟩, hR, (Or.inl ⟨pq, by rw [← s6]; exact opn_e (by omega), by rw [s1], s2, s3, s4, s5⟩), fun j h => (fr42 j (by omega) (by omega) (by omega)).trans (fr36 j h)⟩ hP hS d_M_level2_74
        · refine lv_iload_n hx hb d_M_level2_73 rfl (lv_at hl 1 rfl) ?_
          exact ret gd w38 H locs 74 ls (by omega) ⟨R2, wv2, wm2, ⟨ff43, ⟨⟨pr, ff44, hp2⟩, ⟨bg, ff45, hb2⟩, ut, ff46, hut2⟩, ⟨sc, ff47, hs2⟩, fg39, ff48, ff49, ff50, ff51, ff52, ff53, ff54, ff55, ff56, fg40, fg41, ff57⟩, hR, (Or.inr ⟨s2, by rw [s1]⟩), fun j h => (fr42 j (by omega) (by omega) (by omega)).trans (fr36 j h)⟩ hP hS d_M_level2_74
      · refine lv_iload_n hx hb d_M_level2_23 rfl (lv_at hl 1 rfl) ?_
        refine x_if_eq (tgt := 73) hx hb ⟨by omega, by omega⟩ d_M_level2_24 (by decide) (fun hc => ?_) (fun hc => ?_)
        · rcases hst with ⟨s1, s2, s3, s4, s5, s6, s7, s8⟩ | ⟨s1, s2⟩
          · exfalso; omega
          refine lv_iload_n hx hb d_M_level2_73 rfl (lv_at hl 1 rfl) ?_
          exact ret gd w38 H locs 74 ls (by omega) ⟨R2, wv2, wm2, ⟨ff43, ⟨⟨pr, ff44, hp2⟩, ⟨bg, ff45, hb2⟩, ut, ff46, hut2⟩, ⟨sc, ff47, hs2⟩, fg39, ff48, ff49, ff50, ff51, ff52, ff53, ff54, ff55, ff56, fg40, fg41, ff57⟩, hR, (Or.inr ⟨s2, by rw [s1]⟩), fun j h => (fr42 j (by omega) (by omega) (by omega)).trans (fr36 j h)⟩ hP hS d_M_level2_74
        · rcases hst with ⟨s1, s2, s3, s4, s5, s6, s7, s8⟩ | ⟨s1, s2⟩
          · have la0 := s4.1.1
            have la3 := s4.1.2.1
            have lb0 := s5.1.1
            have lb3 := s5.1.2.1
            refine lv_aload_n hx hb d_M_level2_27 rfl (lv_at hl 2 rfl) ?_
            refine w_get (C := "LevelledRingModel") (T := T_M) (M := 19) hx hb hts hinM hown hK hP (236) (by omega) ff43 rfl 16 (by decide) kk0 (fun _ h => h) rfl d_M_level2_28 ?_
            refine lv_iconst (v := iI (0)) hx hb d_M_level2_31 rfl ?_
            refine w_iald hx hb hK hP (251) (by omega) fg40 (by omega) (by omega) (by omega) d_M_level2_32 ?_
            refine x_ie (y := pq.1.1) (s2.1) ?_
            refine lv_aload_n hx hb d_M_level2_33 rfl (lv_at hl 2 rfl) ?_
            refine w_get (C := "LevelledRingModel") (T := T_M) (M := 19) hx hb hts hinM hown hK hP (236) (by omega) ff43 rfl 16 (by decide) kk0 (fun _ h => h) rfl d_M_level2_34 ?_
            refine lv_iconst (v := iI (1)) hx hb d_M_level2_37 rfl ?_
            refine w_iald hx hb hK hP (251) (by omega) fg40 (by omega) (by omega) (by omega) d_M_level2_38 ?_
            refine x_ie (y := pq.2.1) (s3.1) ?_
            refine x_icmp_eq (tgt := 73) hx hb ⟨by omega, by omega⟩ ⟨by omega, by omega⟩ d_M_level2_39 (by decide) (fun hc => ?_) (fun hc => ?_)
            · refine lv_iload_n hx hb d_M_level2_73 rfl (lv_at hl 1 rfl) ?_
              exact ret gd w38 H locs 74 ls (by omega) ⟨R2, wv2, wm2, ⟨ff43, ⟨⟨pr, ff44, hp2⟩, ⟨bg, ff45, hb2⟩, ut, ff46, hut2⟩, ⟨sc, ff47, hs2⟩, fg39, ff48, ff49, ff50, ff51, ff52, ff53, ff54, ff55, ff56, fg40, fg41, ff57⟩, hR, (Or.inl ⟨pq, by rw [← s6]; exact opn_e hc, by rw [s1], s2, s3, s4, s5⟩), fun j h => (fr42 j (by omega) (by omega) (by omega)).trans (fr36 j h)⟩ hP hS d_M_level2_74
            · refine lv_aload_n hx hb d_M_level2_42 rfl (lv_at hl 2 rfl) ?_
              refine lv_aload_n hx hb d_M_level2_43 rfl (lv_at hl 2 rfl) ?_
              refine w_get (C := "LevelledRingModel") (T := T_M) (M := 19) hx hb hts hinM hown hK hP (236) (by omega) ff43 rfl 16 (by decide) kk0 (fun _ h => h) rfl d_M_level2_44 ?_
              refine lv_iconst (v := iI (0)) hx hb d_M_level2_47 rfl ?_
              refine w_iald hx hb hK hP (251) (by omega) fg40 (by omega) (by omega) (by omega) d_M_level2_48 ?_
              refine x_ie (y := pq.1.1) (s2.1) ?_
              refine lv_aload_n hx hb d_M_level2_49 rfl (lv_at hl 2 rfl) ?_
              refine w_get (C := "LevelledRingModel") (T := T_M) (M := 19) hx hb hts hinM hown hK hP (236) (by omega) ff43 rfl 16 (by decide) kk0 (fun _ h => h) rfl d_M_level2_50 ?_
              refine lv_iconst (v := iI (1)) hx hb d_M_level2_53 rfl ?_
              refine w_iald hx hb hK hP (251) (by omega) fg40 (by omega) (by omega) (by omega) d_M_level2_54 ?_
              refine x_ie (y := pq.2.1) (s3.1) ?_
              refine x_icmp_le (tgt := 62) hx hb ⟨by omega, by omega⟩ ⟨by omega, by omega⟩ d_M_level2_55 (by decide) (fun hc2 => ?_) (fun hc2 => ?_)
              · refine lv_iconst (v := iI (1)) hx hb d_M_level2_62 rfl ?_
                have lo9o := s5
                have lo9b := lo9o.1.bd
                refine w_calli (va_runV (As := [.int (iI (1))]) (rest := []) ⟨hx, hb, hml, hown, hts⟩ (c_lower l D ct st ke b N w38 (by omega) z0 cnt ff43 ⟨⟨pr, ff44, hp2⟩, ⟨bg, ff45, hb2⟩, ut, ff46, hut2⟩ (R2) (wv2) (wm2) fg39 fg40 fg41 1 (by decide) (by decide) pq.2.1 pq.2.2.1 s3.1 s3.2.1 lo9o.1.1 lo9o.1.2.1 lo9o.1.2.2.1 (by omega) (fun i h0 h1 => s3.2.2.bd lo9o.2.1 lo9o.2.2 h0 h1)) (cwV 1 hts (gV t_643 t_645 (tb_sel ((y_M_lower), 19) (List.mem_of_getElem? (i := 30) (by decide +kernel))) t_9 t_646) rfl rfl rfl (by decide +kernel) ⟨Nat.le_of_ble_eq_true rfl, Nat.le_of_ble_eq_true rfl⟩) (pre_V E hP hS (236) (by omega) ff43 rfl) rfl rfl hl.1 rfl (lv_room (Nat.le_of_ble_eq_true rfl)) d_M_level2_63 ⟨(Nat.le_of_ble_eq_true rfl), (Nat.le_of_ble_eq_true rfl)⟩) hS (fun r z58 H locs hz hP hS => ?_)
                rcases hz with ⟨hq, -, -⟩ | ⟨hq, hr, nR, n1, n2, n3, n4, n5, n6⟩
                · exfalso; omega
                subst hr
                have ff59 : z58 236 = .inr (6, [.ref (b + 237), .ref (b + 238), .ref (b + 239), .ref (b + 240), .ref (b + 241), .ref (b + 242), .int (z0), .ref (b + 243), .int (iI (cnt)), .ref (b + 244), .ref (b + 245), .ref (b + 246), .ref (b + 247), .ref (b + 248), .ref (b + 249), .ref (b + 250), .ref (b + 251), .ref (b + 252), .ref (b + 253)]) := (n6 236 (by omega) (by omega) (by omega)).trans ff43
                have ff60 : z58 238 = ir ct 4 (pr) := (n6 238 (by omega) (by omega) (by omega)).trans ff44
                have ff61 : z58 239 = lr ct 4 (bg) := (n6 239 (by omega) (by omega) (by omega)).trans ff45
                have ff62 : z58 240 = lr ct 4 (ut) := (n6 240 (by omega) (by omega) (by omega)).trans ff46
                have ff63 : z58 241 = ir ct 8 (sc) := (n6 241 (by omega) (by omega) (by omega)).trans ff47
                have ff64 : z58 242 = ir ct 8 (sm) := (n6 242 (by omega) (by omega) (by omega)).trans ff48
                have ff65 : z58 243 = ir ct 8 (ms) := (n6 243 (by omega) (by omega) (by omega)).trans ff49
                have ff66 : z58 244 = ir ct 24 (kd) := (n6 244 (by omega) (by omega) (by omega)).trans ff50
                have ff67 : z58 245 = ir ct 24 (fi) := (n6 245 (by omega) (by omega) (by omega)).trans ff51
                have ff68 : z58 246 = ir ct 24 (se) := (n6 246 (by omega) (by omega) (by omega)).trans ff52
                have ff69 : z58 247 = ir ct 192 (pl) := (n6 247 (by omega) (by omega) (by omega)).trans ff53
                have ff70 : z58 248 = zr ct 24 (hs) := (n6 248 (by omega) (by omega) (by omega)).trans ff54
                have ff71 : z58 249 = ir ct 24 (lv) := (n6 249 (by omega) (by omega) (by omega)).trans ff55
                have ff72 : z58 250 = lr ct 24 (mt) := (n6 250 (by omega) (by omega) (by omega)).trans ff56
                have ff73 : z58 253 = lr ct 8 (vv) := (n6 253 (by omega) (by omega) (by omega)).trans ff57
                have fr74 : ∀ j : Nat, (j ≠ 237) → (j ≠ 251) → (j ≠ 252) → z58 j = z19 j := fun j h0 h1 h2 => (n6 j (by omega) (by omega) (by omega)).trans (fr42 j h0 h1 h2)
                refine lv_istore_n (lv' := [(3, .int (iI (1 - tg (pq.2.1 - 1) (pq.2.2.1 / lq pq.2.1 + 77)))), (4, .int (iI (kk))), (0, .ref (b + 236)), (1, .int (iI (x))), (2, .int (iI (y)))]) hx hb d_M_level2_66 rfl hl (by decide) rfl (fun ls hl => ?_)
                refine lv_iinc (k := 1) (v := iI (kk + 1)) (lv' := [(4, .int (iI (kk + 1))), (3, .int (iI (1 - tg (pq.2.1 - 1) (pq.2.2.1 / lq pq.2.1 + 77)))), (0, .ref (b + 236)), (1, .int (iI (x))), (2, .int (iI (y)))]) hx hb d_M_level2_67 hl rfl (iI_add _ _) (by decide) rfl (fun ls hl => ?_)
                refine lv_goto (tgt := 17) hx hb d_M_level2_70 (by decide) ?_
                have hl : lv_has ls 5 [(4, .int (iI (kk + 1))), (3, .int (iI (1 - tg (pq.2.1 - 1) (pq.2.2.1 / lq pq.2.1 + 77)))), (0, .ref (b + 236)), (1, .int (iI (x))), (2, .int (iI (y)))] := lv_sub hl [0, 1, 2, 3, 4] rfl
                have htg := tg_01 (pq.2.1 - 1) (pq.2.2.1 / lq pq.2.1 + 77)
                have nW : WV nR (zu wv2 1 (pq.2.1 - 1)) (zu wm2 1 (pq.2.2.1 / lq pq.2.1 + 77)) 1 (lw1 pq.2) := ⟨zu_s, zu_s, s3.2.2.low n4⟩
                have nO : WV nR (zu wv2 1 (pq.2.1 - 1)) (zu wm2 1 (pq.2.2.1 / lq pq.2.1 + 77)) 0 pq.1 := ⟨by rw [zu_n (by decide)]; exact s2.1, by rw [zu_n (by decide)]; exact s2.2.1, s2.2.2.of fun i h0 h1 => n5 _ (by omega)⟩
                refine ihlo (kk + 1) _ nR _ _ (pq.1, lw1 pq.2) z58 H locs ls (by omega) (by omega) (by omega) (fun j h => (n5 j (by omega)).trans (hR j h)) ?_ n1 n2 n3 fr74 hP hS hl
                rcases htg with htg | htg
                · exact Or.inl ⟨by rw [htg]; rfl, nO, nW, s4, low1_okW s5.1 (low1_s hq htg), by rw [← s6, opn_r s5.1 (by omega), low1_s hq htg]; rfl, by show pq.1.1 - (pq.2.1 - 1) + (kk + 1) ≤ 3; omega, by show pq.2.1 - 1 - pq.1.1 + (kk + 1) ≤ 3; omega⟩
                · exact Or.inr ⟨by rw [htg]; rfl, by rw [← s6, opn_r s5.1 (by omega), low1_n hq htg]; rfl⟩
              · refine lv_iconst (v := iI (0)) hx hb d_M_level2_58 rfl ?_
                refine lv_goto (tgt := 63) hx hb d_M_level2_59 (by decide) ?_
                have lo9o := s4
                have lo9b := lo9o.1.bd
                refine w_calli (va_runV (As := [.int (iI (0))]) (rest := []) ⟨hx, hb, hml, hown, hts⟩ (c_lower l D ct st ke b N w38 (by omega) z0 cnt ff43 ⟨⟨pr, ff44, hp2⟩, ⟨bg, ff45, hb2⟩, ut, ff46, hut2⟩ (R2) (wv2) (wm2) fg39 fg40 fg41 0 (by decide) (by decide) pq.1.1 pq.1.2.1 s2.1 s2.2.1 lo9o.1.1 lo9o.1.2.1 lo9o.1.2.2.1 (by omega) (fun i h0 h1 => s2.2.2.bd lo9o.2.1 lo9o.2.2 h0 h1)) (cwV 1 hts (gV t_643 t_645 (tb_sel ((y_M_lower), 19) (List.mem_of_getElem? (i := 30) (by decide +kernel))) t_9 t_646) rfl rfl rfl (by decide +kernel) ⟨Nat.le_of_ble_eq_true rfl, Nat.le_of_ble_eq_true rfl⟩) (pre_V E hP hS (236) (by omega) ff43 rfl) rfl rfl hl.1 rfl (lv_room (Nat.le_of_ble_eq_true rfl)) d_M_level2_63 ⟨(Nat.le_of_ble_eq_true rfl), (Nat.le_of_ble_eq_true rfl)⟩) hS (fun r z75 H locs hz hP hS => ?_)
                rcases hz with ⟨hq, -, -⟩ | ⟨hq, hr, nR, n1, n2, n3, n4, n5, n6⟩
                · exfalso; omega
                subst hr
                have ff76 : z75 236 = .inr (6, [.ref (b + 237), .ref (b + 238), .ref (b + 239), .ref (b + 240), .ref (b + 241), .ref (b + 242), .int (z0), .ref (b + 243), .int (iI (cnt)), .ref (b + 244), .ref (b + 245), .ref (b + 246), .ref (b + 247), .ref (b + 248), .ref (b + 249), .ref (b + 250), .ref (b + 251), .ref (b + 252), .ref (b + 253)]) := (n6 236 (by omega) (by omega) (by omega)).trans ff43
                have ff77 : z75 238 = ir ct 4 (pr) := (n6 238 (by omega) (by omega) (by omega)).trans ff44
                have ff78 : z75 239 = lr ct 4 (bg) := (n6 239 (by omega) (by omega) (by omega)).trans ff45
                have ff79 : z75 240 = lr ct 4 (ut) := (n6 240 (by omega) (by omega) (by omega)).trans ff46
                have ff80 : z75 241 = ir ct 8 (sc) := (n6 241 (by omega) (by omega) (by omega)).trans ff47
                have ff81 : z75 242 = ir ct 8 (sm) := (n6 242 (by omega) (by omega) (by omega)).trans ff48
                have ff82 : z75 243 = ir ct 8 (ms) := (n6 243 (by omega) (by omega) (by omega)).trans ff49
                have ff83 : z75 244 = ir ct 24 (kd) := (n6 244 (by omega) (by omega) (by omega)).trans ff50
                have ff84 : z75 245 = ir ct 24 (fi) := (n6 245 (by omega) (by omega) (by omega)).trans ff51
                have ff85 : z75 246 = ir ct 24 (se) := (n6 246 (by omega) (by omega) (by omega)).trans ff52
                have ff86 : z75 247 = ir ct 192 (pl) := (n6 247 (by omega) (by omega) (by omega)).trans ff53
                have ff87 : z75 248 = zr ct 24 (hs) := (n6 248 (by omega) (by omega) (by omega)).trans ff54
                have ff88 : z75 249 = ir ct 24 (lv) := (n6 249 (by omega) (by omega) (by omega)).trans ff55
                have ff89 : z75 250 = lr ct 24 (mt) := (n6 250 (by omega) (by omega) (by omega)).trans ff56
                have ff90 : z75 253 = lr ct 8 (vv) := (n6 253 (by omega) (by omega) (by omega)).trans ff57
                have fr91 : ∀ j : Nat, (j ≠ 237) → (j ≠ 251) → (j ≠ 252) → z75 j = z19 j := fun j h0 h1 h2 => (n6 j (by omega) (by omega) (by omega)).trans (fr42 j h0 h1 h2)
                refine lv_istore_n (lv' := [(3, .int (iI (1 - tg (pq.1.1 - 1) (pq.1.2.1 / lq pq.1.1 + 77)))), (4, .int (iI (kk))), (0, .ref (b + 236)), (1, .int (iI (x))), (2, .int (iI (y)))]) hx hb d_M_level2_66 rfl hl (by decide) rfl (fun ls hl => ?_)
                refine lv_iinc (k := 1) (v := iI (kk + 1)) (lv' := [(4, .int (iI (kk + 1))), (3, .int (iI (1 - tg (pq.1.1 - 1) (pq.1.2.1 / lq pq.1.1 + 77)))), (0, .ref (b + 236)), (1, .int (iI (x))), (2, .int (iI (y)))]) hx hb d_M_level2_67 hl rfl (iI_add _ _) (by decide) rfl (fun ls hl => ?_)
                refine lv_goto (tgt := 17) hx hb d_M_level2_70 (by decide) ?_
                have hl : lv_has ls 5 [(4, .int (iI (kk + 1))), (3, .int (iI (1 - tg (pq.1.1 - 1) (pq.1.2.1 / lq pq.1.1 + 77)))), (0, .ref (b + 236)), (1, .int (iI (x))), (2, .int (iI (y)))] := lv_sub hl [0, 1, 2, 3, 4] rfl
                have htg := tg_01 (pq.1.1 - 1) (pq.1.2.1 / lq pq.1.1 + 77)
                have nW : WV nR (zu wv2 0 (pq.1.1 - 1)) (zu wm2 0 (pq.1.2.1 / lq pq.1.1 + 77)) 0 (lw1 pq.1) := ⟨zu_s, zu_s, s2.2.2.low n4⟩
                have nO : WV nR (zu wv2 0 (pq.1.1 - 1)) (zu wm2 0 (pq.1.2.1 / lq pq.1.1 + 77)) 1 pq.2 := ⟨by rw [zu_n (by decide)]; exact s3.1, by rw [zu_n (by decide)]; exact s3.2.1, s3.2.2.of fun i h0 h1 => n5 _ (by omega)⟩
                refine ihlo (kk + 1) _ nR _ _ (lw1 pq.1, pq.2) z75 H locs ls (by omega) (by omega) (by omega) (fun j h => (n5 j (by omega)).trans (hR j h)) ?_ n1 n2 n3 fr91 hP hS hl
                rcases htg with htg | htg
                · exact Or.inl ⟨by rw [htg]; rfl, nW, nO, low1_okW s4.1 (low1_s hq htg), s5, by rw [← s6, opn_l s4.1 (by omega), low1_s hq htg]; rfl, by show pq.1.1 - 1 - pq.2.1 + (kk + 1) ≤ 3; omega, by show pq.2.1 - (pq.1.1 - 1) + (kk + 1) ≤ 3; omega⟩
                · exact Or.inr ⟨by rw [htg]; rfl, by rw [← s6, opn_l s4.1 (by omega), low1_n hq htg]; rfl⟩
          · exfalso; omega
  have l10 := o1.1.1
  have l13 := o1.1.2.1
  have l20 := o2.1.1
  have l23 := o2.1.2.1
  exact lo 5 0 1 cR _ _ (v1, v2) z19 H locs ls (by omega) (by omega) (by omega) hR0 (Or.inl ⟨rfl, hW1, hW2, o1, o2, rfl, by show v1.1 - v2.1 + 0 ≤ 3; omega, by show v2.1 - v1.1 + 0 ≤ 3; omega⟩) c1 c2 c3 fr37 hP hS hl
