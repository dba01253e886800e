abbrev rm_c_Mvalue : Room := { frames := 4, cells := 0, slots := 0, locals := 109 }
set_option maxHeartbeats 4000000 in
set_option maxRecDepth 100000 in
/-- value(x) -/
theorem c_Mvalue (l : Launch) (D : va_G) (ct : Nat → ClassId) (st ke : Nat → Nat) (b N : Nat) (u : Nat → va_E) (hN : 254 ≤ N) (z0 : Int32) (cnt : Int) (S R sm ms kd fi se pl hs lv mt wv wm vv : Int → Int) (hW : MW ct b u z0 cnt S R sm ms kd fi se pl hs lv mt wv wm vv) (K : Ky) (hKS : K.1 = S) (okk : okK K) (hkR : kR R K) (x : Int) (hx0 : 0 ≤ x) (hx1 : x < 24) (hh0 : hs x = 0) (G1 : Gt) (h6 : G1.1 < 6) (hk : kd x = (G1.1 : Int)) (hf : fi x = mfi G1) (hse : se x = mse G1) (hpX : p17 G1.2.2.2.2) (hpl : ∀ i : Int, 0 ≤ i → i < 8 → pl (8 * x + i) = G1.2.2.2.2 i) (h4 : G1.1 = 4 → 0 ≤ G1.2.2.2.1 ∧ G1.2.2.2.1 < 16) (V : Int → Val) (hVa : 1 ≤ G1.1 → (0 ≤ G1.2.1 ∧ G1.2.1 < 24) ∧ GV R lv mt G1.2.1 (V G1.2.1) ∧ okW (V G1.2.1)) (hVb : 1 ≤ G1.1 → (0 ≤ G1.2.2.1 ∧ G1.2.2.1 < 24) ∧ GV R lv mt G1.2.2.1 (V G1.2.2.1) ∧ okW (V G1.2.2.1)) : Met l y_M_value (w_M_value) rm_c_Mvalue (va_Pc [.ref (b + 236), .int (iI (x))] (fun U => ev D ct st ke b U ∧ va_P D vwCl (wl N b u) U.heap)) (va_Qi (fun (r : Int32) (z : Nat → va_E) => VP ct b z cnt S R ms kd fi se pl hs lv mt vv x (gv K V G1) r ∧ ∀ j : Nat, j < 236 → z j = u j) (fun (z : Nat → va_E) t => va_P D vwCl (wl (N) b (z)) t.heap) (AA b)) 0 0 (AA b) := by
  refine M_z (cc := c9_M_value) (maxL := 8) (by decide) rfl (Nat.le_of_ble_eq_true rfl) ?_
  intro p e s m args below meth c Q ls H locs hx hb hml hown hts hnm E hP hS hl ret
  have hl : lv_has ls 8 [(0, .ref (b + 236)), (1, .int (iI (x)))] := hl
  have hK := ev_K E
  have kk0 := hts (.fieldLink "LevelledRingModel" 54 "LevelledRingModel" "workLevel" "[I") (List.mem_cons_of_mem _ t_509)
  have hinM : ∀ w ∈ u_ws "LevelledRingModel" T_M 19, w ∈ (w_M_value) := hin_M _
  have kk2 := hts (.fieldLink "LevelledRingModel" 57 "LevelledRingModel" "workMeter" "[J") (List.mem_cons_of_mem _ t_510)
  have kk3 := hts (.fieldLink "LevelledRingModel" 7 "LevelledRingModel" "row" "[J") (List.mem_cons_of_mem _ t_493)
  have kk4 := hts (.fieldLink "LevelledRingModel" 17 "LevelledRingModel" "big" "[J") (List.mem_cons_of_mem _ t_495)
  have kk5 := hts (.fieldLink "LevelledRingModel" 32 "LevelledRingModel" "kind" "[I") (List.mem_cons_of_mem _ t_502)
  have kk6 := hts (.fieldLink "LevelledRingModel" 35 "LevelledRingModel" "first" "[I") (List.mem_cons_of_mem _ t_503)
  have kk7 := hts (.fieldLink "LevelledRingModel" 38 "LevelledRingModel" "second" "[I") (List.mem_cons_of_mem _ t_504)
  have fr0 : ∀ j : Nat, (j < 236) → u j = u j := fun _ _ => rfl
  have hS1 : ∀ i : Int, -1 ≤ S i ∧ S i ≤ 1 := by rw [← hKS]; exact okk.1
  obtain ⟨mM, ⟨⟨pr, hp1, hp2⟩, ⟨bg, hb1, hb2⟩, ut, hut1, hut2⟩, ⟨sc, hs1, hs2⟩, m0, m1, m2, m3, m4, m5, m6, m7, m8, m9, m10, m11, m12⟩ := hW
  have tl : ∀ (R3 : Int → Int) (wv3 : Int → Int) (wm3 : Int → Int) (v3 : Val) (t3 : Int) (ww1 : Nat → va_E) (H : Heap) (locs : List Loc) (ls : Array Slot), (∀ j : Int, j < 448 → R3 j = R j) → (WV R3 wv3 wm3 0 v3) → (okW v3) → (0 ≤ t3) → (t3 < 16) → (∀ R2 lv2 mt2 : Int → Int, GV R2 lv2 mt2 x (trV t3 v3) → ∃ w, gv K V G1 = some w ∧ GV R2 lv2 mt2 x w) → (MW ct b ww1 z0 cnt S R3 sm ms kd fi se pl hs lv mt wv3 wm3 vv) → (∀ j : Nat, (j < 236) → ww1 j = u j) → va_P D vwCl (wl N b ww1) H → va_S (AA b) s.heap H locs → lv_has ls 8 [(2, .int (iI (t3))), (0, .ref (b + 236)), (1, .int (iI (x)))] → W p l e rm_c_Mvalue s m args below meth c H locs 0 0 Q (F0 m 124 ls []) := by
    intro R3 wv3 wm3 v3 t3 ww1 H locs ls hR3 a1 a3 ht0 ht1 hO hMW fr2 hP hS hl
    obtain ⟨tmM, ⟨⟨pr, hp1, hp2⟩, ⟨bg, hb1, hb2⟩, ut, hut1, hut2⟩, ⟨sc, hs1, hs2⟩, tm0, tm1, tm2, tm3, tm4, tm5, tm6, tm7, tm8, tm9, tm10, tm11, tm12⟩ := hMW
    have l0 := a3.1.1
    have l3 := a3.1.2.1
    have bm := a3.1.bd
    have nm0 := a3.1.2.2.1
    have bQ := lQ_bd v3.1
    refine lv_aload_n hx hb d_M_value_124 rfl (lv_at hl 1 rfl) ?_
    refine w_get (C := "LevelledRingModel") (T := T_M) (M := 19) hx hb hts hinM hown hK hP (236) (by omega) tmM rfl 16 (by decide) kk0 (fun _ h => h) rfl d_M_value_125 ?_
    refine lv_iconst (v := iI (0)) hx hb d_M_value_128 rfl ?_
    refine w_iald hx hb hK hP (251) (by omega) tm10 (by omega) (by omega) (by omega) d_M_value_129 ?_
    refine x_ie (y := v3.1) (a1.1) ?_
    refine lv_istore_n (lv' := [(3, .int (iI (v3.1))), (2, .int (iI (t3))), (0, .ref (b + 236)), (1, .int (iI (x)))]) hx hb d_M_value_130 rfl hl (by decide) rfl (fun ls hl => ?_)
    refine lv_iconst (v := iI (0)) hx hb d_M_value_131 rfl ?_
    refine lv_istore (lv' := [(4, .int (iI (0))), (3, .int (iI (v3.1))), (2, .int (iI (t3))), (0, .ref (b + 236)), (1, .int (iI (x)))]) hx hb d_M_value_132 hl (by decide) rfl (fun ls hl => ?_)
    have fr3 : ∀ j : Nat, (j ≠ 237) → ww1 j = ww1 j := fun _ _ => rfl
    have lo : ∀ (d : Nat) (pt : Int) (R4 : Int → Int) (w4 : Nat → va_E) (H : Heap) (locs : List Loc) (ls : Array Slot), (0 ≤ pt) → (pt ≤ 2) → (2 - pt < d) → (∀ q i : Int, 0 ≤ q → 0 ≤ i → i < 8 → 8 * q + i < 8 * pt → R4 (8 * (8 + 2 * x + q) + i) = tsg t3 i * R3 (8 * (56 + q) + (i - t3) % 8) % lQ v3.1) → (∀ j : Int, (j < 8 * (8 + 2 * x) ∨ 8 * (8 + 2 * x) + 16 ≤ j) → R4 j = R3 j) → w4 237 = lr ct 512 (R4) → (∀ j : Nat, (j ≠ 237) → w4 j = ww1 j) → va_P D vwCl (wl N b w4) H → va_S (AA b) s.heap H locs → lv_has ls 8 [(4, .int (iI (pt))), (3, .int (iI (v3.1))), (2, .int (iI (t3))), (0, .ref (b + 236)), (1, .int (iI (x)))] → W p l e rm_c_Mvalue s m args below meth c H locs 0 0 Q (F0 m 134 ls []) := by
      intro d
      induction d with
      | zero => intro pt R4 w4 H locs ls h0 h1 hd hg hk fg5 fr6 hP hS hl; exfalso; omega
      | succ d ihlo =>
        intro pt R4 w4 H locs ls h0 h1 hd hg hk fg5 fr6 hP hS hl
        have ff7 : w4 236 = .inr (6, [.ref (b + 237), .ref (b + 238), .ref (b + 239), .ref (b + 240), .ref (b + 241), .ref (b + 242), .int (z0), .ref (b + 243), .int (iI (cnt)), .ref (b + 244), .ref (b + 245), .ref (b + 246), .ref (b + 247), .ref (b + 248), .ref (b + 249), .ref (b + 250), .ref (b + 251), .ref (b + 252), .ref (b + 253)]) := (fr6 236 (by omega)).trans tmM
        have ff8 : w4 238 = ir ct 4 (pr) := (fr6 238 (by omega)).trans hp1
        have ff9 : w4 239 = lr ct 4 (bg) := (fr6 239 (by omega)).trans hb1
        have ff10 : w4 240 = lr ct 4 (ut) := (fr6 240 (by omega)).trans hut1
        have ff11 : w4 241 = ir ct 8 (sc) := (fr6 241 (by omega)).trans hs1
        have ff12 : w4 242 = ir ct 8 (sm) := (fr6 242 (by omega)).trans tm1
        have ff13 : w4 243 = ir ct 8 (ms) := (fr6 243 (by omega)).trans tm2
        have ff14 : w4 244 = ir ct 24 (kd) := (fr6 244 (by omega)).trans tm3
        have ff15 : w4 245 = ir ct 24 (fi) := (fr6 245 (by omega)).trans tm4
        have ff16 : w4 246 = ir ct 24 (se) := (fr6 246 (by omega)).trans tm5
        have ff17 : w4 247 = ir ct 192 (pl) := (fr6 247 (by omega)).trans tm6
        have ff18 : w4 248 = zr ct 24 (hs) := (fr6 248 (by omega)).trans tm7
        have ff19 : w4 249 = ir ct 24 (lv) := (fr6 249 (by omega)).trans tm8
        have ff20 : w4 250 = lr ct 24 (mt) := (fr6 250 (by omega)).trans tm9
        have ff21 : w4 251 = ir ct 2 (wv3) := (fr6 251 (by omega)).trans tm10
        have ff22 : w4 252 = lr ct 2 (wm3) := (fr6 252 (by omega)).trans tm11
        have ff23 : w4 253 = lr ct 8 (vv) := (fr6 253 (by omega)).trans tm12
        refine lv_iload hx hb d_M_value_134 (lv_at hl 0 rfl) ?_
        refine lv_iconst (v := iI (2)) hx hb d_M_value_136 rfl ?_
        refine x_icmp_ge (tgt := 224) hx hb ⟨by omega, by omega⟩ ⟨by omega, by omega⟩ d_M_value_137 (by decide) (fun hc => ?_) (fun hc => ?_)
        · obtain rfl : pt = 2 := by omega
          refine lv_aload_n hx hb d_M_value_224 rfl (lv_at hl 3 rfl) ?_
          refine lv_iload_n hx hb d_M_value_225 rfl (lv_at hl 4 rfl) ?_
          refine lv_iload_n hx hb d_M_value_226 rfl (lv_at hl 1 rfl) ?_
          refine lv_aload_n hx hb d_M_value_227 rfl (lv_at hl 3 rfl) ?_
          refine w_get (C := "LevelledRingModel") (T := T_M) (M := 19) hx hb hts hinM hown hK hP (236) (by omega) ff7 rfl 17 (by decide) kk2 (fun _ h => h) rfl d_M_value_228 ?_
          refine lv_iconst (v := iI (0)) hx hb d_M_value_231 rfl ?_
          refine w_lald hx hb hK hP (252) (by omega) ff22 (by omega) (by omega) (by omega) d_M_value_232 ?_
          refine x_le (y := v3.2.1) (a1.2.1) ?_
          refine w_calli (va_runV (As := [.int (iI (x)), .int (iI (v3.1)), .long (lI (v3.2.1))]) (rest := []) ⟨hx, hb, hml, hown, hts⟩ (c_keep l D ct st ke b N w4 (by omega) z0 cnt S R4 sm ms kd fi se pl hs lv mt wv3 wm3 vv ⟨ff7, ⟨⟨pr, ff8, hp2⟩, ⟨bg, ff9, hb2⟩, ut, ff10, hut2⟩, ⟨sc, ff11, hs2⟩, fg5, ff12, ff13, ff14, ff15, ff16, ff17, ff18, ff19, ff20, ff21, ff22, ff23⟩ x (v3.1) (v3.2.1) hx0 hx1 l0 l3 ⟨by omega, by omega⟩) (cwV 3 hts (gV t_622 t_624 (tb_sel ((y_M_keep), 19) (List.mem_of_getElem? (i := 25) (by decide +kernel))) t_9 t_625) rfl rfl rfl (by decide +kernel) ⟨Nat.le_of_ble_eq_true rfl, Nat.le_of_ble_eq_true rfl⟩) (pre_V E hP hS (236) (by omega) ff7 rfl) rfl rfl hl.1 rfl (lv_room (Nat.le_of_ble_eq_true rfl)) d_M_value_233 ⟨(Nat.le_of_ble_eq_true rfl), (Nat.le_of_ble_eq_true rfl)⟩) hS (fun r25 z24 H locs hz hP hS => ?_)
          obtain ⟨rfl, hKW, hKf⟩ := hz
          have ht : tg v3.1 v3.2.1 = 0 := tg_le.mpr a3.1.2.2.2
          have hGV : GV R4 (zu lv x v3.1) (zu mt x v3.2.1) x (trV t3 v3) := ⟨zu_s, zu_s, fun i e0 e1 => by have h := hg 0 i (by omega) e0 e1 (by omega); rw [show 8 * (8 + 2 * x + 0) + i = 8 * (8 + 2 * x) + i by omega] at h; rw [h]; show _ = tsg t3 i * v3.2.2.1 ((i - t3) % 8) % lQ v3.1; rw [← a1.2.2.1 ((i - t3) % 8) (by omega) (by omega)]; rfl, fun i e0 e1 => by have h := hg 1 i (by omega) e0 e1 (by omega); rw [show 8 * (8 + 2 * x + 1) + i = 8 * (8 + 2 * x) + 8 + i by omega] at h; rw [h]; show _ = tsg t3 i * v3.2.2.2 ((i - t3) % 8) % lQ v3.1; rw [← a1.2.2.2 ((i - t3) % 8) (by omega) (by omega)]; rfl⟩
          obtain ⟨w9, g1, g2⟩ := hO _ _ _ hGV
          exact ret _ z24 H locs 236 ls (by omega) ⟨⟨z0, R4, sm, _, _, _, wv3, wm3, hKW, fun j h2 h3 => (hk j h3).trans (hR3 j h2), fun y hy => ⟨zu_n hy, zu_n hy, zu_n hy⟩, Or.inl ⟨w9, g1, by rw [ht]; rfl, by rw [zu_s, ht]; rfl, g2⟩⟩, fun j h => (hKf j h).trans ((fr6 j (by omega)).trans (fr2 j h))⟩ hP hS d_M_value_236
        · refine lv_iconst (v := iI (0)) hx hb d_M_value_140 rfl ?_
          refine lv_istore (lv' := [(5, .int (iI (0))), (4, .int (iI (pt))), (3, .int (iI (v3.1))), (2, .int (iI (t3))), (0, .ref (b + 236)), (1, .int (iI (x)))]) hx hb d_M_value_141 hl (by decide) rfl (fun ls hl => ?_)
          have li : ∀ (d2 : Nat) (i : Int) (R4 : Int → Int) (w26 : Nat → va_E) (H : Heap) (locs : List Loc) (ls : Array Slot), (0 ≤ i) → (i ≤ 8) → (8 - i < d2) → (∀ q y : Int, 0 ≤ q → 0 ≤ y → y < 8 → 8 * q + y < 8 * pt + i → R4 (8 * (8 + 2 * x + q) + y) = tsg t3 y * R3 (8 * (56 + q) + (y - t3) % 8) % lQ v3.1) → (∀ j : Int, (j < 8 * (8 + 2 * x) ∨ 8 * (8 + 2 * x) + 16 ≤ j) → R4 j = R3 j) → w26 237 = lr ct 512 (R4) → (∀ j : Nat, (j ≠ 237) → w26 j = ww1 j) → va_P D vwCl (wl N b w26) H → va_S (AA b) s.heap H locs → lv_has ls 8 [(5, .int (iI (i))), (4, .int (iI (pt))), (3, .int (iI (v3.1))), (2, .int (iI (t3))), (0, .ref (b + 236)), (1, .int (iI (x)))] → W p l e rm_c_Mvalue s m args below meth c H locs 0 0 Q (F0 m 143 ls []) := by
            intro d2
            induction d2 with
            | zero => intro i R4 w26 H locs ls hi0 hi8 hd2 hg hk fg27 fr28 hP hS hl; exfalso; omega
            | succ d2 ihli =>
              intro i R4 w26 H locs ls hi0 hi8 hd2 hg hk fg27 fr28 hP hS hl
              have ff29 : w26 236 = .inr (6, [.ref (b + 237), .ref (b + 238), .ref (b + 239), .ref (b + 240), .ref (b + 241), .ref (b + 242), .int (z0), .ref (b + 243), .int (iI (cnt)), .ref (b + 244), .ref (b + 245), .ref (b + 246), .ref (b + 247), .ref (b + 248), .ref (b + 249), .ref (b + 250), .ref (b + 251), .ref (b + 252), .ref (b + 253)]) := (fr28 236 (by omega)).trans tmM
              have ff30 : w26 238 = ir ct 4 (pr) := (fr28 238 (by omega)).trans hp1
              have ff31 : w26 239 = lr ct 4 (bg) := (fr28 239 (by omega)).trans hb1
              have ff32 : w26 240 = lr ct 4 (ut) := (fr28 240 (by omega)).trans hut1
              have ff33 : w26 241 = ir ct 8 (sc) := (fr28 241 (by omega)).trans hs1
              have ff34 : w26 242 = ir ct 8 (sm) := (fr28 242 (by omega)).trans tm1
              have ff35 : w26 243 = ir ct 8 (ms) := (fr28 243 (by omega)).trans tm2
              have ff36 : w26 244 = ir ct 24 (kd) := (fr28 244 (by omega)).trans tm3
              have ff37 : w26 245 = ir ct 24 (fi) := (fr28 245 (by omega)).trans tm4
              have ff38 : w26 246 = ir ct 24 (se) := (fr28 246 (by omega)).trans tm5
              have ff39 : w26 247 = ir ct 192 (pl) := (fr28 247 (by omega)).trans tm6
              have ff40 : w26 248 = zr ct 24 (hs) := (fr28 248 (by omega)).trans tm7
              have ff41 : w26 249 = ir ct 24 (lv) := (fr28 249 (by omega)).trans tm8
              have ff42 : w26 250 = lr ct 24 (mt) := (fr28 250 (by omega)).trans tm9
              have ff43 : w26 251 = ir ct 2 (wv3) := (fr28 251 (by omega)).trans tm10
              have ff44 : w26 252 = lr ct 2 (wm3) := (fr28 252 (by omega)).trans tm11
              have ff45 : w26 253 = lr ct 8 (vv) := (fr28 253 (by omega)).trans tm12
              refine lv_iload hx hb d_M_value_143 (lv_at hl 0 rfl) ?_
              refine lv_bipush (v := iI (8)) hx hb d_M_value_145 (by decide +kernel) ?_
              refine x_icmp_ge (tgt := 218) hx hb ⟨by omega, by omega⟩ ⟨by omega, by omega⟩ d_M_value_147 (by decide) (fun hc => ?_) (fun hc => ?_)
              · refine lv_iinc (k := 1) (v := iI (pt + 1)) (lv' := [(4, .int (iI (pt + 1))), (5, .int (iI (i))), (3, .int (iI (v3.1))), (2, .int (iI (t3))), (0, .ref (b + 236)), (1, .int (iI (x)))]) hx hb d_M_value_218 hl rfl (iI_add _ _) (by decide) rfl (fun ls hl => ?_)
                refine lv_goto (tgt := 134) hx hb d_M_value_221 (by decide) ?_
                have hl : lv_has ls 8 [(4, .int (iI (pt + 1))), (3, .int (iI (v3.1))), (2, .int (iI (t3))), (0, .ref (b + 236)), (1, .int (iI (x)))] := lv_sub hl [0, 2, 3, 4, 5] rfl
                exact ihlo (pt + 1) R4 w26 H locs ls (by omega) (by omega) (by omega) (fun q y h2 h3 h4 h5 => hg q y h2 h3 h4 (by omega)) hk fg27 fr28 hP hS hl
              · have bt := tsg_01 t3 i
                have bR : 0 ≤ R3 (8 * (56 + pt) + (i - t3) % 8) ∧ R3 (8 * (56 + pt) + (i - t3) % 8) < lQ v3.1 := by have h := a1.2.2.bd a3.2.1 a3.2.2 (i := 8 * pt + (i - t3) % 8) (by omega) (by omega); rw [show 8 * (56 + 2 * (0 : Int)) + (8 * pt + (i - t3) % 8) = 8 * (56 + pt) + (i - t3) % 8 by omega] at h; exact h
                have bs := mul_s (s := tsg t3 i) (x := R3 (8 * (56 + pt) + (i - t3) % 8)) (by omega) (by omega) bR.1 (by omega)
                refine lv_iload_n hx hb d_M_value_150 rfl (lv_at hl 3 rfl) ?_
                refine lv_iload hx hb d_M_value_151 (lv_at hl 0 rfl) ?_
                refine w_calli (va_runS (As := [.int (iI (t3)), .int (iI (i))]) (rest := []) ⟨hx, hb, hml, hown, hts⟩ (c_sign l D ct st ke b N w26 t3 i ht0 ht1 hi0 (by omega)) (cwS 2 hts (gS t_570 t_571 t_9 t_572) rfl rfl rfl (by decide +kernel) ⟨Nat.le_of_ble_eq_true rfl, Nat.le_of_ble_eq_true rfl⟩) (pre_S E hP hS) rfl rfl hl.1 rfl (lv_room (Nat.le_of_ble_eq_true rfl)) d_M_value_153 ⟨(Nat.le_of_ble_eq_true rfl), (Nat.le_of_ble_eq_true rfl)⟩) hS (fun r47 z46 H locs hz hP hS => ?_)
                obtain ⟨rfl, rfl⟩ := hz
                refine x_i2l hx hb ⟨by omega, by omega⟩ d_M_value_156 ?_
                refine lv_aload_n hx hb d_M_value_157 rfl (lv_at hl 4 rfl) ?_
                refine w_get (C := "LevelledRingModel") (T := T_M) (M := 19) hx hb hts hinM hown hK hP (236) (by omega) ff29 rfl 0 (by decide) kk3 (fun _ h => h) rfl d_M_value_158 ?_
                refine lv_bipush (v := iI (8)) hx hb d_M_value_161 (by decide +kernel) ?_
                refine lv_bipush (v := iI (56)) hx hb d_M_value_163 (by decide +kernel) ?_
                refine lv_iload hx hb d_M_value_165 (lv_at hl 1 rfl) ?_
                refine x_iadd hx hb d_M_value_167 ?_
                refine x_imul hx hb d_M_value_168 ?_
                refine lv_iload hx hb d_M_value_169 (lv_at hl 0 rfl) ?_
                refine lv_iload_n hx hb d_M_value_171 rfl (lv_at hl 3 rfl) ?_
                refine x_isub hx hb d_M_value_172 ?_
                refine lv_bipush (v := iI (7)) hx hb d_M_value_173 (by decide +kernel) ?_
                refine lv_iand hx hb d_M_value_175 ?_
                refine x_i (y := iI ((i - t3) % 8)) (iI_and7 _) ?_
                refine x_iadd hx hb d_M_value_176 ?_
                refine w_lald hx hb hK hP (237) (by omega) fg27 (by omega) (by omega) (by omega) d_M_value_177 ?_
                refine x_le (y := R3 (8 * (56 + pt) + (i - t3) % 8)) (hk _ (by omega)) ?_
                refine x_lmul hx hb d_M_value_178 ?_
                refine lv_lstore (lv' := [(6, .long (lI ((tsg t3 i) * (R3 (8 * (56 + pt) + (i - t3) % 8))))), (5, .int (iI (i))), (4, .int (iI (pt))), (3, .int (iI (v3.1))), (2, .int (iI (t3))), (0, .ref (b + 236)), (1, .int (iI (x)))]) hx hb d_M_value_179 hl (by decide) rfl (fun ls hl => ?_)
                refine lv_aload_n hx hb d_M_value_181 rfl (lv_at hl 5 rfl) ?_
                refine w_get (C := "LevelledRingModel") (T := T_M) (M := 19) hx hb hts hinM hown hK hP (236) (by omega) ff29 rfl 0 (by decide) kk3 (fun _ h => h) rfl d_M_value_182 ?_
                refine lv_bipush (v := iI (8)) hx hb d_M_value_185 (by decide +kernel) ?_
                refine lv_bipush (v := iI (8)) hx hb d_M_value_187 (by decide +kernel) ?_
                refine lv_iconst (v := iI (2)) hx hb d_M_value_189 rfl ?_
                refine lv_iload_n hx hb d_M_value_190 rfl (lv_at hl 6 rfl) ?_
                refine x_imul hx hb d_M_value_191 ?_
                refine x_iadd hx hb d_M_value_192 ?_
                refine lv_iload hx hb d_M_value_193 (lv_at hl 2 rfl) ?_
                refine x_iadd hx hb d_M_value_195 ?_
                refine x_imul hx hb d_M_value_196 ?_
                refine lv_iload hx hb d_M_value_197 (lv_at hl 1 rfl) ?_
                refine x_iadd hx hb d_M_value_199 ?_
                refine lv_lload hx hb d_M_value_200 (lv_at hl 0 rfl) ?_
                refine lv_aload_n hx hb d_M_value_202 rfl (lv_at hl 5 rfl) ?_
                refine w_get (C := "LevelledRingModel") (T := T_M) (M := 19) hx hb hts hinM hown hK hP (236) (by omega) ff29 rfl 2 (by decide) kk4 (fun _ h => h) rfl d_M_value_203 ?_
                refine lv_iload_n hx hb d_M_value_206 rfl (lv_at hl 3 rfl) ?_
                refine w_lald hx hb hK hP (239) (by omega) ff31 (by omega) (by omega) (by omega) d_M_value_207 ?_
                refine x_le (y := lQ v3.1) (hb2 _ l0 l3) ?_
                refine w_calll (va_runS (As := [.long (lI ((tsg t3 i) * (R3 (8 * (56 + pt) + (i - t3) % 8)))), .long (lI (lQ v3.1))]) (rest := [.int (iI (((8) * (((8) + (2 * x)) + (pt))) + (i))), .ref (b + 237)]) ⟨hx, hb, hml, hown, hts⟩ (c_Mmod l D ct st ke b N w26 ((tsg t3 i) * (R3 (8 * (56 + pt) + (i - t3) % 8))) (lQ v3.1) ⟨by omega, by omega⟩ (by omega) (by omega)) (cwS 2 hts (gS t_486 t_487 t_9 t_488) rfl rfl rfl (by decide +kernel) ⟨Nat.le_of_ble_eq_true rfl, Nat.le_of_ble_eq_true rfl⟩) (pre_S E hP hS) rfl rfl hl.1 rfl (lv_room (Nat.le_of_ble_eq_true rfl)) d_M_value_208 ⟨(Nat.le_of_ble_eq_true rfl), (Nat.le_of_ble_eq_true rfl)⟩) hS (fun r49 z48 H locs hz hP hS => ?_)
                obtain ⟨rfl, rfl⟩ := hz
                refine w_last hx hb hK hP hS (237) (by omega) fg27 (by omega) (by omega) (by omega) d_M_value_211 (fun H locs hP hS => ?_)
                obtain ⟨u50, hu51, hP⟩ : ∃ zz : Nat → va_E, zz = va_up w26 237 (lr ct 512 (zu R4 (((8) * (((8) + (2 * x)) + (pt))) + (i)) (((tsg t3 i) * (R3 (8 * (56 + pt) + (i - t3) % 8))) % (lQ v3.1)))) ∧ va_P D vwCl (wl N b zz) H := ⟨_, rfl, hP⟩
                have ff52 : u50 236 = .inr (6, [.ref (b + 237), .ref (b + 238), .ref (b + 239), .ref (b + 240), .ref (b + 241), .ref (b + 242), .int (z0), .ref (b + 243), .int (iI (cnt)), .ref (b + 244), .ref (b + 245), .ref (b + 246), .ref (b + 247), .ref (b + 248), .ref (b + 249), .ref (b + 250), .ref (b + 251), .ref (b + 252), .ref (b + 253)]) := (congrFun hu51 _).trans ((up_n (by omega)).trans ff29)
                have ff53 : u50 238 = ir ct 4 (pr) := (congrFun hu51 _).trans ((up_n (by omega)).trans ff30)
                have ff54 : u50 239 = lr ct 4 (bg) := (congrFun hu51 _).trans ((up_n (by omega)).trans ff31)
                have ff55 : u50 240 = lr ct 4 (ut) := (congrFun hu51 _).trans ((up_n (by omega)).trans ff32)
                have ff56 : u50 241 = ir ct 8 (sc) := (congrFun hu51 _).trans ((up_n (by omega)).trans ff33)
                have ff57 : u50 242 = ir ct 8 (sm) := (congrFun hu51 _).trans ((up_n (by omega)).trans ff34)
                have ff58 : u50 243 = ir ct 8 (ms) := (congrFun hu51 _).trans ((up_n (by omega)).trans ff35)
                have ff59 : u50 244 = ir ct 24 (kd) := (congrFun hu51 _).trans ((up_n (by omega)).trans ff36)
                have ff60 : u50 245 = ir ct 24 (fi) := (congrFun hu51 _).trans ((up_n (by omega)).trans ff37)
                have ff61 : u50 246 = ir ct 24 (se) := (congrFun hu51 _).trans ((up_n (by omega)).trans ff38)
                have ff62 : u50 247 = ir ct 192 (pl) := (congrFun hu51 _).trans ((up_n (by omega)).trans ff39)
                have ff63 : u50 248 = zr ct 24 (hs) := (congrFun hu51 _).trans ((up_n (by omega)).trans ff40)
                have ff64 : u50 249 = ir ct 24 (lv) := (congrFun hu51 _).trans ((up_n (by omega)).trans ff41)
                have ff65 : u50 250 = lr ct 24 (mt) := (congrFun hu51 _).trans ((up_n (by omega)).trans ff42)
                have ff66 : u50 251 = ir ct 2 (wv3) := (congrFun hu51 _).trans ((up_n (by omega)).trans ff43)
                have ff67 : u50 252 = lr ct 2 (wm3) := (congrFun hu51 _).trans ((up_n (by omega)).trans ff44)
                have ff68 : u50 253 = lr ct 8 (vv) := (congrFun hu51 _).trans ((up_n (by omega)).trans ff45)
                have ff69 : u50 237 = lr ct 512 (zu R4 (((8) * (((8) + (2 * x)) + (pt))) + (i)) (((tsg t3 i) * (R3 (8 * (56 + pt) + (i - t3) % 8))) % (lQ v3.1))) := (congrFun hu51 _).trans up_s
                have fr70 : ∀ j : Nat, (j ≠ 237) → u50 j = ww1 j := fun j h0 => (congrFun hu51 j).trans ((up_n (by omega)).trans (fr28 j h0))
                refine lv_iinc (k := 1) (v := iI (i + 1)) (lv' := [(5, .int (iI (i + 1))), (6, .long (lI ((tsg t3 i) * (R3 (8 * (56 + pt) + (i - t3) % 8))))), (4, .int (iI (pt))), (3, .int (iI (v3.1))), (2, .int (iI (t3))), (0, .ref (b + 236)), (1, .int (iI (x)))]) hx hb d_M_value_212 hl rfl (iI_add _ _) (by decide) rfl (fun ls hl => ?_)
                refine lv_goto (tgt := 143) hx hb d_M_value_215 (by decide) ?_
                have hl : lv_has ls 8 [(5, .int (iI (i + 1))), (4, .int (iI (pt))), (3, .int (iI (v3.1))), (2, .int (iI (t3))), (0, .ref (b + 236)), (1, .int (iI (x)))] := lv_sub hl [0, 2, 3, 4, 5, 6] rfl
                refine ihli (i + 1) _ u50 H locs ls (by omega) (by omega) (by omega) (fun q y h2 h3 h4 h5 => ?_) (fun j h2 => by rw [zu_n (by omega)]; exact hk j h2) ff69 fr70 hP hS hl
                by_cases h7 : 8 * q + y = 8 * pt + i
                · obtain ⟨rfl, rfl⟩ : q = pt ∧ y = i := by omega
                  rw [zu_s]
                · rw [zu_n (by omega)]; exact hg q y h2 h3 h4 (by omega)
          exact li 9 0 R4 w4 H locs ls (by omega) (by omega) (by omega) (fun q y h2 h3 h4 h5 => hg q y h2 h3 h4 (by omega)) hk fg5 fr6 hP hS hl
    exact lo 3 0 R3 ww1 H locs ls (by omega) (by omega) (by omega) (fun q i h2 h3 h4 h5 => by omega) (fun _ _ => rfl) tm0 fr3 hP hS hl
  refine lv_aload_n hx hb d_M_value_0 rfl (lv_at hl 0 rfl) ?_
  refine w_get (C := "LevelledRingModel") (T := T_M) (M := 19) hx hb hts hinM hown hK hP (236) (by omega) mM rfl 9 (by decide) kk5 (fun _ h => h) rfl d_M_value_1 ?_
  refine lv_iload_n hx hb d_M_value_4 rfl (lv_at hl 1 rfl) ?_
  refine w_iald hx hb hK hP (244) (by omega) m3 (by omega) (by omega) (by omega) d_M_value_5 ?_
  refine x_ie (y := (G1.1 : Int)) (hk) ?_
  refine x_if_ne (tgt := 15) hx hb ⟨by omega, by omega⟩ d_M_value_6 (by decide) (fun hc => ?_) (fun hc => ?_)
  · refine lv_aload_n hx hb d_M_value_15 rfl (lv_at hl 0 rfl) ?_
    refine w_get (C := "LevelledRingModel") (T := T_M) (M := 19) hx hb hts hinM hown hK hP (236) (by omega) mM rfl 9 (by decide) kk5 (fun _ h => h) rfl d_M_value_16 ?_
    refine lv_iload_n hx hb d_M_value_19 rfl (lv_at hl 1 rfl) ?_
    refine w_iald hx hb hK hP (244) (by omega) m3 (by omega) (by omega) (by omega) d_M_value_20 ?_
    refine x_ie (y := (G1.1 : Int)) (hk) ?_
    refine lv_iconst (v := iI (3)) hx hb d_M_value_21 rfl ?_
    refine x_icmp_ne (tgt := 31) hx hb ⟨by omega, by omega⟩ ⟨by omega, by omega⟩ d_M_value_22 (by decide) (fun hc => ?_) (fun hc => ?_)
    · refine lv_aload_n hx hb d_M_value_31 rfl (lv_at hl 0 rfl) ?_
      refine w_get (C := "LevelledRingModel") (T := T_M) (M := 19) hx hb hts hinM hown hK hP (236) (by omega) mM rfl 9 (by decide) kk5 (fun _ h => h) rfl d_M_value_32 ?_
      refine lv_iload_n hx hb d_M_value_35 rfl (lv_at hl 1 rfl) ?_
      refine w_iald hx hb hK hP (244) (by omega) m3 (by omega) (by omega) (by omega) d_M_value_36 ?_
      refine x_ie (y := (G1.1 : Int)) (hk) ?_
      refine lv_iconst (v := iI (1)) hx hb d_M_value_37 rfl ?_
      refine x_icmp_eq (tgt := 51) hx hb ⟨by omega, by omega⟩ ⟨by omega, by omega⟩ d_M_value_38 (by decide) (fun hk1 => ?_) (fun hk1 => ?_)
      · refine lv_aload_n hx hb d_M_value_51 rfl (lv_at hl 0 rfl) ?_
        refine lv_iload_n hx hb d_M_value_52 rfl (lv_at hl 1 rfl) ?_
        refine lv_aload_n hx hb d_M_value_53 rfl (lv_at hl 0 rfl) ?_
        refine w_get (C := "LevelledRingModel") (T := T_M) (M := 19) hx hb hts hinM hown hK hP (236) (by omega) mM rfl 9 (by decide) kk5 (fun _ h => h) rfl d_M_value_54 ?_
        refine lv_iload_n hx hb d_M_value_57 rfl (lv_at hl 1 rfl) ?_
        refine w_iald hx hb hK hP (244) (by omega) m3 (by omega) (by omega) (by omega) d_M_value_58 ?_
        refine x_ie (y := (G1.1 : Int)) (hk) ?_
        refine lv_iconst (v := iI (1)) hx hb d_M_value_59 rfl ?_
        refine x_icmp_ne (tgt := 67) hx hb ⟨by omega, by omega⟩ ⟨by omega, by omega⟩ d_M_value_60 (by decide) (fun hc => by exfalso; omega) (fun hc => ?_)
        have ef : fi x = G1.2.1 := by rw [hf]; unfold mfi; rw [if_neg (by omega)]
        have es : se x = G1.2.2.1 := by rw [hse]; unfold mse; rw [if_neg (by omega), if_neg (by omega), if_neg (by omega)]
        obtain ⟨va1, va2, va3⟩ := hVa (by omega)
        obtain ⟨vb1, vb2, vb3⟩ := hVb (by omega)
        refine lv_iconst (v := iI (1)) hx hb d_M_value_63 rfl ?_
        refine lv_goto (tgt := 68) hx hb d_M_value_64 (by decide) ?_
        refine w_calli (va_runV (As := [.int (iI (x)), .int (iI (1))]) (rest := []) ⟨hx, hb, hml, hown, hts⟩ (c_combine l D ct st ke b N u (by omega) z0 cnt S R sm ms kd fi se pl hs lv mt wv wm vv ⟨mM, ⟨⟨pr, hp1, hp2⟩, ⟨bg, hb1, hb2⟩, ut, hut1, hut2⟩, ⟨sc, hs1, hs2⟩, m0, m1, m2, m3, m4, m5, m6, m7, m8, m9, m10, m11, m12⟩ x hx0 hx1 hh0 (V G1.2.1) (V G1.2.2.1) va3 vb3 (by omega) (by omega) (by omega) (by omega) (by rw [ef]; exact va2) (by rw [es]; exact vb2) 1 (Or.inl rfl)) (cwV 2 hts (gV t_656 t_658 (tb_sel ((y_M_combine), 19) (List.mem_of_getElem? (i := 32) (by decide +kernel))) t_9 t_659) rfl rfl rfl (by decide +kernel) ⟨Nat.le_of_ble_eq_true rfl, Nat.le_of_ble_eq_true rfl⟩) (pre_V E hP hS (236) (by omega) mM rfl) rfl rfl hl.1 rfl (lv_room (Nat.le_of_ble_eq_true rfl)) d_M_value_68 ⟨(Nat.le_of_ble_eq_true rfl), (Nat.le_of_ble_eq_true rfl)⟩) hS (fun r z71 H locs hz hP hS => ?_)
        obtain ⟨hV, hVf⟩ := hz
        obtain ⟨gd, rfl, hg01⟩ := VP_r hV
        have eg : gv K V G1 = (opn (V G1.2.1) (V G1.2.2.1)).bind (sumV 1) := by unfold gv; rw [if_neg (by omega), if_pos (by omega)]
        exact ret gd z71 H locs 71 ls hg01 ⟨by rw [eg]; exact hV, hVf⟩ hP hS d_M_value_71
      · refine lv_aload_n hx hb d_M_value_41 rfl (lv_at hl 0 rfl) ?_
        refine w_get (C := "LevelledRingModel") (T := T_M) (M := 19) hx hb hts hinM hown hK hP (236) (by omega) mM rfl 9 (by decide) kk5 (fun _ h => h) rfl d_M_value_42 ?_
        refine lv_iload_n hx hb d_M_value_45 rfl (lv_at hl 1 rfl) ?_
        refine w_iald hx hb hK hP (244) (by omega) m3 (by omega) (by omega) (by omega) d_M_value_46 ?_
        refine x_ie (y := (G1.1 : Int)) (hk) ?_
        refine lv_iconst (v := iI (2)) hx hb d_M_value_47 rfl ?_
        refine x_icmp_ne (tgt := 72) hx hb ⟨by omega, by omega⟩ ⟨by omega, by omega⟩ d_M_value_48 (by decide) (fun hk2 => ?_) (fun hk2 => ?_)
        · have h45 : G1.1 = 4 ∨ G1.1 = 5 := by omega
          have ef : fi x = G1.2.1 := by rw [hf]; unfold mfi; rw [if_neg (by omega)]
          obtain ⟨va1, va2, va3⟩ := hVa (by omega)
          refine lv_aload_n hx hb d_M_value_72 rfl (lv_at hl 0 rfl) ?_
          refine lv_iconst (v := iI (0)) hx hb d_M_value_73 rfl ?_
          refine lv_aload_n hx hb d_M_value_74 rfl (lv_at hl 0 rfl) ?_
          refine w_get (C := "LevelledRingModel") (T := T_M) (M := 19) hx hb hts hinM hown hK hP (236) (by omega) mM rfl 10 (by decide) kk6 (fun _ h => h) rfl d_M_value_75 ?_
          refine lv_iload_n hx hb d_M_value_78 rfl (lv_at hl 1 rfl) ?_
          refine w_iald hx hb hK hP (245) (by omega) m4 (by omega) (by omega) (by omega) d_M_value_79 ?_
          refine x_ie (y := G1.2.1) (ef) ?_
          refine w_callv (va_runV (As := [.int (iI (0)), .int (iI (G1.2.1))]) (rest := []) ⟨hx, hb, hml, hown, hts⟩ (c_load l D ct st ke b N u (by omega) z0 cnt mM R lv mt wv wm m0 m8 m9 m10 m11 0 G1.2.1 (by decide) (by decide) va1.1 va1.2) (cwV 2 hts (gV t_639 t_641 (tb_sel ((y_M_load), 19) (List.mem_of_getElem? (i := 29) (by decide +kernel))) t_9 t_642) rfl rfl rfl (by decide +kernel) ⟨Nat.le_of_ble_eq_true rfl, Nat.le_of_ble_eq_true rfl⟩) (pre_V E hP hS (236) (by omega) mM rfl) rfl rfl hl.1 rfl (lv_room (Nat.le_of_ble_eq_true rfl)) d_M_value_80 ⟨(Nat.le_of_ble_eq_true rfl), (Nat.le_of_ble_eq_true rfl)⟩) hS (fun z72 H locs hz hP hS => ?_)
          obtain ⟨R1, b1, b2, b3, b4, b5, b6⟩ := hz
          have ff74 : z72 236 = .inr (6, [.ref (b + 237), .ref (b + 238), .ref (b + 239), .ref (b + 240), .ref (b + 241), .ref (b + 242), .int (z0), .ref (b + 243), .int (iI (cnt)), .ref (b + 244), .ref (b + 245), .ref (b + 246), .ref (b + 247), .ref (b + 248), .ref (b + 249), .ref (b + 250), .ref (b + 251), .ref (b + 252), .ref (b + 253)]) := (b6 236 (by omega) (by omega) (by omega)).trans mM
          have ff75 : z72 238 = ir ct 4 (pr) := (b6 238 (by omega) (by omega) (by omega)).trans hp1
          have ff76 : z72 239 = lr ct 4 (bg) := (b6 239 (by omega) (by omega) (by omega)).trans hb1
          have ff77 : z72 240 = lr ct 4 (ut) := (b6 240 (by omega) (by omega) (by omega)).trans hut1
          have ff78 : z72 241 = ir ct 8 (sc) := (b6 241 (by omega) (by omega) (by omega)).trans hs1
          have ff79 : z72 242 = ir ct 8 (sm) := (b6 242 (by omega) (by omega) (by omega)).trans m1
          have ff80 : z72 243 = ir ct 8 (ms) := (b6 243 (by omega) (by omega) (by omega)).trans m2
          have ff81 : z72 244 = ir ct 24 (kd) := (b6 244 (by omega) (by omega) (by omega)).trans m3
          have ff82 : z72 245 = ir ct 24 (fi) := (b6 245 (by omega) (by omega) (by omega)).trans m4
          have ff83 : z72 246 = ir ct 24 (se) := (b6 246 (by omega) (by omega) (by omega)).trans m5
          have ff84 : z72 247 = ir ct 192 (pl) := (b6 247 (by omega) (by omega) (by omega)).trans m6
          have ff85 : z72 248 = zr ct 24 (hs) := (b6 248 (by omega) (by omega) (by omega)).trans m7
          have ff86 : z72 249 = ir ct 24 (lv) := (b6 249 (by omega) (by omega) (by omega)).trans m8
          have ff87 : z72 250 = lr ct 24 (mt) := (b6 250 (by omega) (by omega) (by omega)).trans m9
          have ff88 : z72 253 = lr ct 8 (vv) := (b6 253 (by omega) (by omega) (by omega)).trans m12
          have fr89 : ∀ j : Nat, (j < 236) → z72 j = u j := fun j h0 => (b6 j (by omega) (by omega) (by omega)).trans (fr0 j h0)
          have hWV : WV R1 (zu wv 0 (lv G1.2.1)) (zu wm 0 (mt G1.2.1)) 0 (V G1.2.1) := ⟨by rw [zu_s]; exact va2.1, by rw [zu_s]; exact va2.2.1, va2.2.2.of b4⟩
          have hR1 : ∀ j : Int, j < 448 → R1 j = R j := fun j h => b5 j (by omega)
          refine lv_aload_n hx hb d_M_value_83 rfl (lv_at hl 0 rfl) ?_
          refine w_get (C := "LevelledRingModel") (T := T_M) (M := 19) hx hb hts hinM hown hK hP (236) (by omega) ff74 rfl 9 (by decide) kk5 (fun _ h => h) rfl d_M_value_84 ?_
          refine lv_iload_n hx hb d_M_value_87 rfl (lv_at hl 1 rfl) ?_
          refine w_iald hx hb hK hP (244) (by omega) ff81 (by omega) (by omega) (by omega) d_M_value_88 ?_
          refine x_ie (y := (G1.1 : Int)) (hk) ?_
          refine lv_iconst (v := iI (5)) hx hb d_M_value_89 rfl ?_
          refine x_icmp_ne (tgt := 103) hx hb ⟨by omega, by omega⟩ ⟨by omega, by omega⟩ d_M_value_90 (by decide) (fun hk5 => ?_) (fun hk5 => ?_)
          · refine lv_aload_n hx hb d_M_value_103 rfl (lv_at hl 0 rfl) ?_
            refine w_get (C := "LevelledRingModel") (T := T_M) (M := 19) hx hb hts hinM hown hK hP (236) (by omega) ff74 rfl 9 (by decide) kk5 (fun _ h => h) rfl d_M_value_104 ?_
            refine lv_iload_n hx hb d_M_value_107 rfl (lv_at hl 1 rfl) ?_
            refine w_iald hx hb hK hP (244) (by omega) ff81 (by omega) (by omega) (by omega) d_M_value_108 ?_
            refine x_ie (y := (G1.1 : Int)) (hk) ?_
            refine lv_iconst (v := iI (4)) hx hb d_M_value_109 rfl ?_
            refine x_icmp_ne (tgt := 122) hx hb ⟨by omega, by omega⟩ ⟨by omega, by omega⟩ d_M_value_110 (by decide) (fun hc => by exfalso; omega) (fun hc => ?_)
            refine lv_aload_n hx hb d_M_value_113 rfl (lv_at hl 0 rfl) ?_
            refine w_get (C := "LevelledRingModel") (T := T_M) (M := 19) hx hb hts hinM hown hK hP (236) (by omega) ff74 rfl 11 (by decide) kk7 (fun _ h => h) rfl d_M_value_114 ?_
            refine lv_iload_n hx hb d_M_value_117 rfl (lv_at hl 1 rfl) ?_
            refine w_iald hx hb hK hP (246) (by omega) ff83 (by omega) (by omega) (by omega) d_M_value_118 ?_
            refine x_ie (y := G1.2.2.2.1) (by rw [hse]; unfold mse; rw [if_neg (by omega), if_pos (by omega)]) ?_
            refine lv_goto (tgt := 123) hx hb d_M_value_119 (by decide) ?_
            refine lv_istore_n (lv' := [(2, .int (iI (G1.2.2.2.1))), (0, .ref (b + 236)), (1, .int (iI (x)))]) hx hb d_M_value_123 rfl hl (by decide) rfl (fun ls hl => ?_)
            have hl : lv_has ls 8 [(2, .int (iI (G1.2.2.2.1))), (0, .ref (b + 236)), (1, .int (iI (x)))] := lv_sub hl [0, 1, 2] rfl
            exact tl R1 (zu wv 0 (lv G1.2.1)) (zu wm 0 (mt G1.2.1)) (V G1.2.1) G1.2.2.2.1 z72 H locs ls hR1 hWV va3 (h4 (by omega)).1 (h4 (by omega)).2 (fun _ _ _ h => ⟨_, by unfold gv; rw [if_neg (by omega), if_neg (by omega), if_neg (by omega), if_neg (by omega), if_pos (by omega)], h⟩) ⟨ff74, ⟨⟨pr, ff75, hp2⟩, ⟨bg, ff76, hb2⟩, ut, ff77, hut2⟩, ⟨sc, ff78, hs2⟩, b1, ff79, ff80, ff81, ff82, ff83, ff84, ff85, ff86, ff87, b2, b3, ff88⟩ fr89 hP hS hl
          · refine lv_aload_n hx hb d_M_value_93 rfl (lv_at hl 0 rfl) ?_
            refine lv_iconst (v := iI (0)) hx hb d_M_value_94 rfl ?_
            have u9o := va3
            have u9b := u9o.1.bd
            refine w_calli (va_runV (As := [.int (iI (0))]) (rest := []) ⟨hx, hb, hml, hown, hts⟩ (c_lower l D ct st ke b N z72 (by omega) z0 cnt ff74 ⟨⟨pr, ff75, hp2⟩, ⟨bg, ff76, hb2⟩, ut, ff77, hut2⟩ (R1) (zu wv 0 (lv G1.2.1)) (zu wm 0 (mt G1.2.1)) b1 b2 b3 0 (by decide) (by decide) (V G1.2.1).1 (V G1.2.1).2.1 hWV.1 hWV.2.1 u9o.1.1 u9o.1.2.1 u9o.1.2.2.1 (by omega) (fun i h0 h1 => hWV.2.2.bd u9o.2.1 u9o.2.2 h0 h1)) (cwV 1 hts (gV t_643 t_645 (tb_sel ((y_M_lower), 19) (List.mem_of_getElem? (i := 30) (by decide +kernel))) t_9 t_646) rfl rfl rfl (by decide +kernel) ⟨Nat.le_of_ble_eq_true rfl, Nat.le_of_ble_eq_true rfl⟩) (pre_V E hP hS (236) (by omega) ff74 rfl) rfl rfl hl.1 rfl (lv_room (Nat.le_of_ble_eq_true rfl)) d_M_value_95 ⟨(Nat.le_of_ble_eq_true rfl), (Nat.le_of_ble_eq_true rfl)⟩) hS (fun r z90 H locs hz hP hS => ?_)
            rcases hz with ⟨hq, hr, rfl⟩ | ⟨hq, hr, nR, n1, n2, n3, n4, n5, n6⟩
            · subst hr
              refine x_if_ne (tgt := 103) hx hb ⟨by omega, by omega⟩ d_M_value_98 (by decide) (fun hc => by exfalso; omega) (fun hc => ?_)
              refine lv_iconst (v := iI (0)) hx hb d_M_value_101 rfl ?_
              exact ret 0 z72 H locs 102 ls (Or.inl rfl) ⟨⟨z0, R1, sm, hs, lv, mt, _, _, ⟨ff74, ⟨⟨pr, ff75, hp2⟩, ⟨bg, ff76, hb2⟩, ut, ff77, hut2⟩, ⟨sc, ff78, hs2⟩, b1, ff79, ff80, ff81, ff82, ff83, ff84, ff85, ff86, ff87, b2, b3, ff88⟩, fun j h2 h3 => hR1 j h2, fun y hy => ⟨rfl, rfl, rfl⟩, Or.inr ⟨by unfold gv; rw [if_neg (by omega), if_neg (by omega), if_neg (by omega), if_neg (by omega), if_neg (by omega)]; exact low1_0 (by omega), rfl, hh0⟩⟩, fr89⟩ hP hS d_M_value_102
            · subst hr
              have ff91 : z90 236 = .inr (6, [.ref (b + 237), .ref (b + 238), .ref (b + 239), .ref (b + 240), .ref (b + 241), .ref (b + 242), .int (z0), .ref (b + 243), .int (iI (cnt)), .ref (b + 244), .ref (b + 245), .ref (b + 246), .ref (b + 247), .ref (b + 248), .ref (b + 249), .ref (b + 250), .ref (b + 251), .ref (b + 252), .ref (b + 253)]) := (n6 236 (by omega) (by omega) (by omega)).trans ff74
              have ff92 : z90 238 = ir ct 4 (pr) := (n6 238 (by omega) (by omega) (by omega)).trans ff75
              have ff93 : z90 239 = lr ct 4 (bg) := (n6 239 (by omega) (by omega) (by omega)).trans ff76
              have ff94 : z90 240 = lr ct 4 (ut) := (n6 240 (by omega) (by omega) (by omega)).trans ff77
              have ff95 : z90 241 = ir ct 8 (sc) := (n6 241 (by omega) (by omega) (by omega)).trans ff78
              have ff96 : z90 242 = ir ct 8 (sm) := (n6 242 (by omega) (by omega) (by omega)).trans ff79
              have ff97 : z90 243 = ir ct 8 (ms) := (n6 243 (by omega) (by omega) (by omega)).trans ff80
              have ff98 : z90 244 = ir ct 24 (kd) := (n6 244 (by omega) (by omega) (by omega)).trans ff81
              have ff99 : z90 245 = ir ct 24 (fi) := (n6 245 (by omega) (by omega) (by omega)).trans ff82
              have ff100 : z90 246 = ir ct 24 (se) := (n6 246 (by omega) (by omega) (by omega)).trans ff83
              have ff101 : z90 247 = ir ct 192 (pl) := (n6 247 (by omega) (by omega) (by omega)).trans ff84
              have ff102 : z90 248 = zr ct 24 (hs) := (n6 248 (by omega) (by omega) (by omega)).trans ff85
              have ff103 : z90 249 = ir ct 24 (lv) := (n6 249 (by omega) (by omega) (by omega)).trans ff86
              have ff104 : z90 250 = lr ct 24 (mt) := (n6 250 (by omega) (by omega) (by omega)).trans ff87
              have ff105 : z90 253 = lr ct 8 (vv) := (n6 253 (by omega) (by omega) (by omega)).trans ff88
              have fr106 : ∀ j : Nat, (j < 236) → z90 j = u j := fun j h0 => (n6 j (by omega) (by omega) (by omega)).trans (fr89 j h0)
              have nW : WV nR (zu (zu wv 0 (lv G1.2.1)) 0 ((V G1.2.1).1 - 1)) (zu (zu wm 0 (mt G1.2.1)) 0 ((V G1.2.1).2.1 / lq (V G1.2.1).1 + 77)) 0 (lw1 (V G1.2.1)) := ⟨zu_s, zu_s, hWV.2.2.low n4⟩
              have ht9 := tg_01 ((V G1.2.1).1 - 1) ((V G1.2.1).2.1 / lq (V G1.2.1).1 + 77)
              have hRn : ∀ j : Int, j < 448 → nR j = R j := fun j h => (n5 j (by omega)).trans (hR1 j h)
              refine x_if_ne (tgt := 103) hx hb ⟨by omega, by omega⟩ d_M_value_98 (by decide) (fun hd1 => ?_) (fun hd1 => ?_)
              · have hl1 : low1 (V G1.2.1) = some (lw1 (V G1.2.1)) := low1_s hq (by omega)
                have okl := low1_okW va3.1 hl1
                refine lv_aload_n hx hb d_M_value_103 rfl (lv_at hl 0 rfl) ?_
                refine w_get (C := "LevelledRingModel") (T := T_M) (M := 19) hx hb hts hinM hown hK hP (236) (by omega) ff91 rfl 9 (by decide) kk5 (fun _ h => h) rfl d_M_value_104 ?_
                refine lv_iload_n hx hb d_M_value_107 rfl (lv_at hl 1 rfl) ?_
                refine w_iald hx hb hK hP (244) (by omega) ff98 (by omega) (by omega) (by omega) d_M_value_108 ?_
                refine x_ie (y := (G1.1 : Int)) (hk) ?_
                refine lv_iconst (v := iI (4)) hx hb d_M_value_109 rfl ?_
                refine x_icmp_ne (tgt := 122) hx hb ⟨by omega, by omega⟩ ⟨by omega, by omega⟩ d_M_value_110 (by decide) (fun hc => ?_) (fun hc => by exfalso; omega)
                refine lv_iconst (v := iI (0)) hx hb d_M_value_122 rfl ?_
                refine lv_istore_n (lv' := [(2, .int (iI (0))), (0, .ref (b + 236)), (1, .int (iI (x)))]) hx hb d_M_value_123 rfl hl (by decide) rfl (fun ls hl => ?_)
                have hl : lv_has ls 8 [(2, .int (iI (0))), (0, .ref (b + 236)), (1, .int (iI (x)))] := lv_sub hl [0, 1, 2] rfl
                exact tl nR (zu (zu wv 0 (lv G1.2.1)) 0 ((V G1.2.1).1 - 1)) (zu (zu wm 0 (mt G1.2.1)) 0 ((V G1.2.1).2.1 / lq (V G1.2.1).1 + 77)) (lw1 (V G1.2.1)) 0 z90 H locs ls hRn nW okl (by decide) (by decide) (fun _ _ _ h => ⟨lw1 (V G1.2.1), by unfold gv; rw [if_neg (by omega), if_neg (by omega), if_neg (by omega), if_neg (by omega), if_neg (by omega)]; exact hl1, GV_0 okl.2.1 okl.2.2 h⟩) ⟨ff91, ⟨⟨pr, ff92, hp2⟩, ⟨bg, ff93, hb2⟩, ut, ff94, hut2⟩, ⟨sc, ff95, hs2⟩, n1, ff96, ff97, ff98, ff99, ff100, ff101, ff102, ff103, ff104, n2, n3, ff105⟩ fr106 hP hS hl
              · refine lv_iconst (v := iI (0)) hx hb d_M_value_101 rfl ?_
                exact ret 0 z90 H locs 102 ls (Or.inl rfl) ⟨⟨z0, nR, sm, hs, lv, mt, _, _, ⟨ff91, ⟨⟨pr, ff92, hp2⟩, ⟨bg, ff93, hb2⟩, ut, ff94, hut2⟩, ⟨sc, ff95, hs2⟩, n1, ff96, ff97, ff98, ff99, ff100, ff101, ff102, ff103, ff104, n2, n3, ff105⟩, fun j h2 h3 => hRn j h2, fun y hy => ⟨rfl, rfl, rfl⟩, Or.inr ⟨by unfold gv; rw [if_neg (by omega), if_neg (by omega), if_neg (by omega), if_neg (by omega), if_neg (by omega)]; exact low1_n hq (by omega), rfl, hh0⟩⟩, fr106⟩ hP hS d_M_value_102
        · refine lv_aload_n hx hb d_M_value_51 rfl (lv_at hl 0 rfl) ?_
          refine lv_iload_n hx hb d_M_value_52 rfl (lv_at hl 1 rfl) ?_
          refine lv_aload_n hx hb d_M_value_53 rfl (lv_at hl 0 rfl) ?_
          refine w_get (C := "LevelledRingModel") (T := T_M) (M := 19) hx hb hts hinM hown hK hP (236) (by omega) mM rfl 9 (by decide) kk5 (fun _ h => h) rfl d_M_value_54 ?_
          refine lv_iload_n hx hb d_M_value_57 rfl (lv_at hl 1 rfl) ?_
          refine w_iald hx hb hK hP (244) (by omega) m3 (by omega) (by omega) (by omega) d_M_value_58 ?_
          refine x_ie (y := (G1.1 : Int)) (hk) ?_
          refine lv_iconst (v := iI (1)) hx hb d_M_value_59 rfl ?_
          refine x_icmp_ne (tgt := 67) hx hb ⟨by omega, by omega⟩ ⟨by omega, by omega⟩ d_M_value_60 (by decide) (fun hc => ?_) (fun hc => by exfalso; omega)
          have ef : fi x = G1.2.1 := by rw [hf]; unfold mfi; rw [if_neg (by omega)]
          have es : se x = G1.2.2.1 := by rw [hse]; unfold mse; rw [if_neg (by omega), if_neg (by omega), if_neg (by omega)]
          obtain ⟨va1, va2, va3⟩ := hVa (by omega)
          obtain ⟨vb1, vb2, vb3⟩ := hVb (by omega)
          refine lv_iconst (v := iI (-1)) hx hb d_M_value_67 rfl ?_
          refine w_calli (va_runV (As := [.int (iI (x)), .int (iI (-1))]) (rest := []) ⟨hx, hb, hml, hown, hts⟩ (c_combine l D ct st ke b N u (by omega) z0 cnt S R sm ms kd fi se pl hs lv mt wv wm vv ⟨mM, ⟨⟨pr, hp1, hp2⟩, ⟨bg, hb1, hb2⟩, ut, hut1, hut2⟩, ⟨sc, hs1, hs2⟩, m0, m1, m2, m3, m4, m5, m6, m7, m8, m9, m10, m11, m12⟩ x hx0 hx1 hh0 (V G1.2.1) (V G1.2.2.1) va3 vb3 (by omega) (by omega) (by omega) (by omega) (by rw [ef]; exact va2) (by rw [es]; exact vb2) (-1) (Or.inr rfl)) (cwV 2 hts (gV t_656 t_658 (tb_sel ((y_M_combine), 19) (List.mem_of_getElem? (i := 32) (by decide +kernel))) t_9 t_659) rfl rfl rfl (by decide +kernel) ⟨Nat.le_of_ble_eq_true rfl, Nat.le_of_ble_eq_true rfl⟩) (pre_V E hP hS (236) (by omega) mM rfl) rfl rfl hl.1 rfl (lv_room (Nat.le_of_ble_eq_true rfl)) d_M_value_68 ⟨(Nat.le_of_ble_eq_true rfl), (Nat.le_of_ble_eq_true rfl)⟩) hS (fun r z107 H locs hz hP hS => ?_)
          obtain ⟨hV, hVf⟩ := hz
          obtain ⟨gd, rfl, hg01⟩ := VP_r hV
          have eg : gv K V G1 = (opn (V G1.2.1) (V G1.2.2.1)).bind (sumV (-1)) := by unfold gv; rw [if_neg (by omega), if_neg (by omega), if_pos (by omega)]
          exact ret gd z107 H locs 71 ls hg01 ⟨by rw [eg]; exact hV, hVf⟩ hP hS d_M_value_71
    · have ef : fi x = G1.2.1 := by rw [hf]; unfold mfi; rw [if_neg (by omega)]
      have es : se x = G1.2.2.1 := by rw [hse]; unfold mse; rw [if_neg (by omega), if_neg (by omega), if_neg (by omega)]
      obtain ⟨va1, va2, va3⟩ := hVa (by omega)
      obtain ⟨vb1, vb2, vb3⟩ := hVb (by omega)
      refine lv_aload_n hx hb d_M_value_25 rfl (lv_at hl 0 rfl) ?_
      refine lv_iload_n hx hb d_M_value_26 rfl (lv_at hl 1 rfl) ?_
      refine w_calli (va_runV (As := [.int (iI (x))]) (rest := []) ⟨hx, hb, hml, hown, hts⟩ (c_multiply l D ct st ke b N u (by omega) z0 cnt S R sm ms kd fi se pl hs lv mt wv wm vv ⟨mM, ⟨⟨pr, hp1, hp2⟩, ⟨bg, hb1, hb2⟩, ut, hut1, hut2⟩, ⟨sc, hs1, hs2⟩, m0, m1, m2, m3, m4, m5, m6, m7, m8, m9, m10, m11, m12⟩ K hKS okk hkR x hx0 hx1 hh0 (V G1.2.1) (V G1.2.2.1) va3 vb3 (by omega) (by omega) (by omega) (by omega) (by rw [ef]; exact va2) (by rw [es]; exact vb2)) (cwV 1 hts (gV t_631 t_633 (tb_sel ((y_M_multiply), 19) (List.mem_of_getElem? (i := 27) (by decide +kernel))) t_9 t_634) rfl rfl rfl (by decide +kernel) ⟨Nat.le_of_ble_eq_true rfl, Nat.le_of_ble_eq_true rfl⟩) (pre_V E hP hS (236) (by omega) mM rfl) rfl rfl hl.1 rfl (lv_room (Nat.le_of_ble_eq_true rfl)) d_M_value_27 ⟨(Nat.le_of_ble_eq_true rfl), (Nat.le_of_ble_eq_true rfl)⟩) hS (fun r z108 H locs hz hP hS => ?_)
      obtain ⟨hV, hVf⟩ := hz
      obtain ⟨gd, rfl, hg01⟩ := VP_r hV
      have eg : gv K V G1 = (opn (V G1.2.1) (V G1.2.2.1)).bind fun p => (qt 4 p).bind (prV K) := by unfold gv; rw [if_neg (by omega), if_neg (by omega), if_neg (by omega), if_pos (by omega)]
      exact ret gd z108 H locs 30 ls hg01 ⟨by rw [eg]; exact hV, hVf⟩ hP hS d_M_value_30
  · refine lv_aload_n hx hb d_M_value_9 rfl (lv_at hl 0 rfl) ?_
    refine lv_iload_n hx hb d_M_value_10 rfl (lv_at hl 1 rfl) ?_
    refine w_calli (va_runV (As := [.int (iI (x))]) (rest := []) ⟨hx, hb, hml, hown, hts⟩ (c_encrypt l D ct st ke b N u (by omega) z0 cnt S R sm ms kd fi se pl hs lv mt wv wm vv ⟨mM, ⟨⟨pr, hp1, hp2⟩, ⟨bg, hb1, hb2⟩, ut, hut1, hut2⟩, ⟨sc, hs1, hs2⟩, m0, m1, m2, m3, m4, m5, m6, m7, m8, m9, m10, m11, m12⟩ hS1 x hx0 hx1 hh0 G1.2.2.2.2 hpX hpl) (cwV 1 hts (gV t_617 t_619 (tb_sel ((y_M_encrypt), 19) (List.mem_of_getElem? (i := 24) (by decide +kernel))) t_9 t_620) rfl rfl rfl (by decide +kernel) ⟨Nat.le_of_ble_eq_true rfl, Nat.le_of_ble_eq_true rfl⟩) (pre_V E hP hS (236) (by omega) mM rfl) rfl rfl hl.1 rfl (lv_room (Nat.le_of_ble_eq_true rfl)) d_M_value_11 ⟨(Nat.le_of_ble_eq_true rfl), (Nat.le_of_ble_eq_true rfl)⟩) hS (fun r z109 H locs hz hP hS => ?_)
    obtain ⟨hV, hVf⟩ := hz
    obtain ⟨gd, rfl, hg01⟩ := VP_r hV
    have eg : gv K V G1 = some (inV S (iI (fi x)) G1.2.2.2.2) := by unfold gv; rw [if_pos (by omega), hKS, hf]; unfold mfi; rw [if_pos (by omega)]
    exact ret gd z109 H locs 14 ls hg01 ⟨by rw [eg]; exact hV, hVf⟩ hP hS d_M_value_14
