abbrev rm_c_multiply : Room := { frames := 3, cells := 0, slots := 0, locals := 80 }
set_option maxHeartbeats 4000000 in
set_option maxRecDepth 100000 in
/-- multiply(x) -/
theorem c_multiply (l : Launch) (D : va_G) (ct : Nat → ClassId) (st ke : Nat → Nat) (b N : Nat) (u : Nat → va_E) (hN : 254 ≤ N) (z0 : Int32) (cnt : Int) (S R sm ms kd fi se pl hs lv mt wv wm vv : Int → Int) (hW : MW ct b u z0 cnt S R sm ms kd fi se pl hs lv mt wv wm vv) (K : Ky) (hKS : K.1 = S) (okk : okK K) (hkR : kR R K) (x : Int) (hx0 : 0 ≤ x) (hx1 : x < 24) (hh0 : hs x = 0) (v1 v2 : Val) (o1 : okW v1) (o2 : okW v2) (hf0 : 0 ≤ fi x) (hf1 : fi x < 24) (hs00 : 0 ≤ se x) (hs11 : se x < 24) (hG1 : GV R lv mt (fi x) v1) (hG2 : GV R lv mt (se x) v2) : Met l y_M_multiply (w_M_multiply) rm_c_multiply (va_Pc [.ref (b + 236), .int (iI (x))] (fun U => ev D ct st ke b U ∧ va_P D vwCl (wl N b u) U.heap)) (va_Qi (fun (r : Int32) (z : Nat → va_E) => VP ct b z cnt S R ms kd fi se pl hs lv mt vv x ((opn v1 v2).bind fun p => (qt 4 p).bind (prV K)) r ∧ ∀ j : Nat, j < 236 → z j = u j) (fun (z : Nat → va_E) t => va_P D vwCl (wl (N) b (z)) t.heap) (AA b)) 0 0 (AA b) := by
  refine M_z (cc := c9_M_multiply) (maxL := 10) (by decide) rfl (Nat.le_of_ble_eq_true rfl) ?_
  intro p e s m args below meth c Q ls H locs hx hb hml hown hts hnm E hP hS hl ret
  have hl : lv_has ls 10 [(0, .ref (b + 236)), (1, .int (iI (x)))] := hl
  have hK := ev_K E
  have kk0 := hts (.fieldLink "LevelledRingModel" 35 "LevelledRingModel" "first" "[I") (List.mem_cons_of_mem _ t_503)
  have hinM : ∀ w ∈ u_ws "LevelledRingModel" T_M 19, w ∈ (w_M_multiply) := hin_M _
  have kk2 := hts (.fieldLink "LevelledRingModel" 38 "LevelledRingModel" "second" "[I") (List.mem_cons_of_mem _ t_504)
  have kk3 := hts (.fieldLink "LevelledRingModel" 54 "LevelledRingModel" "workLevel" "[I") (List.mem_cons_of_mem _ t_509)
  have kk4 := hts (.fieldLink "LevelledRingModel" 17 "LevelledRingModel" "big" "[J") (List.mem_cons_of_mem _ t_495)
  have kk5 := hts (.constantLong "LevelledRingModel" 124 8) (List.mem_cons_of_mem _ t_648)
  have kk6 := hts (.fieldLink "LevelledRingModel" 57 "LevelledRingModel" "workMeter" "[J") (List.mem_cons_of_mem _ t_510)
  have kk7 := hts (.fieldLink "LevelledRingModel" 7 "LevelledRingModel" "row" "[J") (List.mem_cons_of_mem _ t_493)
  have kk8 := hts (.constantLong "LevelledRingModel" 164 136) (List.mem_cons_of_mem _ t_655)
  have kk9 := hts (.fieldLink "LevelledRingModel" 13 "LevelledRingModel" "prime" "[I") (List.mem_cons_of_mem _ t_494)
  have kk10 := hts (.constantLong "LevelledRingModel" 158 1000) (List.mem_cons_of_mem _ t_650)
  have fr0 : ∀ j : Nat, (j < 236) → u j = u j := fun _ _ => rfl
  obtain ⟨mM, ⟨⟨pr, hp1, hp2⟩, ⟨bg, hb1, hb2⟩, ut, hut1, hut2⟩, ⟨sc, hs1, hs2⟩, m0, m1, m2, m3, m4, m5, m6, m7, m8, m9, m10, m11, m12⟩ := hW
  refine lv_aload_n hx hb d_M_multiply_0 rfl (lv_at hl 0 rfl) ?_
  refine lv_aload_n hx hb d_M_multiply_1 rfl (lv_at hl 0 rfl) ?_
  refine w_get (C := "LevelledRingModel") (T := T_M) (M := 19) hx hb hts hinM hown hK hP (236) (by omega) mM rfl 10 (by decide) kk0 (fun _ h => h) rfl d_M_multiply_2 ?_
  refine lv_iload_n hx hb d_M_multiply_5 rfl (lv_at hl 1 rfl) ?_
  refine w_iald hx hb hK hP (245) (by omega) m4 (by omega) (by omega) (by omega) d_M_multiply_6 ?_
  refine lv_aload_n hx hb d_M_multiply_7 rfl (lv_at hl 0 rfl) ?_
  refine w_get (C := "LevelledRingModel") (T := T_M) (M := 19) hx hb hts hinM hown hK hP (236) (by omega) mM rfl 11 (by decide) kk2 (fun _ h => h) rfl d_M_multiply_8 ?_
  refine lv_iload_n hx hb d_M_multiply_11 rfl (lv_at hl 1 rfl) ?_
  refine w_iald hx hb hK hP (246) (by omega) m5 (by omega) (by omega) (by omega) d_M_multiply_12 ?_
  refine w_calli (va_runV (As := [.int (iI (fi (x))), .int (iI (se (x)))]) (rest := []) ⟨hx, hb, hml, hown, hts⟩ (c_level2 l D ct st ke b N u (by omega) z0 cnt S R sm ms kd fi se pl hs lv mt wv wm vv ⟨mM, ⟨⟨pr, hp1, hp2⟩, ⟨bg, hb1, hb2⟩, ut, hut1, hut2⟩, ⟨sc, hs1, hs2⟩, m0, m1, m2, m3, m4, m5, m6, m7, m8, m9, m10, m11, m12⟩ (fi x) (se x) hf0 hf1 hs00 hs11 v1 v2 o1 o2 hG1 hG2) (cwV 2 hts (gV t_635 t_637 (tb_sel ((y_M_level2), 19) (List.mem_of_getElem? (i := 28) (by decide +kernel))) t_9 t_638) rfl rfl rfl (by decide +kernel) ⟨Nat.le_of_ble_eq_true rfl, Nat.le_of_ble_eq_true rfl⟩) (pre_V E hP hS (236) (by omega) mM rfl) rfl rfl hl.1 rfl (lv_room (Nat.le_of_ble_eq_true rfl)) d_M_multiply_13 ⟨(Nat.le_of_ble_eq_true rfl), (Nat.le_of_ble_eq_true rfl)⟩) hS (fun r z1 H locs hz hP hS => ?_)
  obtain ⟨R2, wv2, wm2, hW2, hR2, hz, hzf⟩ := hz
  have fr3 : ∀ j : Nat, (j < 236) → z1 j = u j := fun j h0 => (hzf j (by omega)).trans (fr0 j h0)
  obtain ⟨q2M, ⟨⟨pr, hp1, hp2⟩, ⟨bg, hb1, hb2⟩, ut, hut1, hut2⟩, ⟨sc, hs1, hs2⟩, q2m0, q2m1, q2m2, q2m3, q2m4, q2m5, q2m6, q2m7, q2m8, q2m9, q2m10, q2m11, q2m12⟩ := hW2
  obtain ⟨o, hO⟩ : ∃ o, o = (opn v1 v2).bind fun p => (qt 4 p).bind (prV K) := ⟨_, rfl⟩
  have fr4 : ∀ j : Nat, (j ≠ 237) → (j ≠ 251) → (j ≠ 252) → z1 j = z1 j := fun _ _ _ _ => rfl
  have tl : ∀ (R3 : Int → Int) (wv3 : Int → Int) (wm3 : Int → Int) (pq : V2) (ww5 : Nat → va_E) (H : Heap) (locs : List Loc) (ls : Array Slot), (∀ j : Int, j < 448 → R3 j = R j) → (WV R3 wv3 wm3 0 pq.1) → (WV R3 wv3 wm3 1 pq.2) → (okW pq.1) → (okW pq.2) → (qu pq) → (prV K pq = o) → ww5 237 = lr ct 512 (R3) → ww5 251 = ir ct 2 (wv3) → ww5 252 = lr ct 2 (wm3) → (∀ j : Nat, (j ≠ 237) → (j ≠ 251) → (j ≠ 252) → ww5 j = z1 j) → va_P D vwCl (wl N b ww5) H → va_S (AA b) s.heap H locs → lv_has ls 10 [(0, .ref (b + 236)), (1, .int (iI (x)))] → W p l e rm_c_multiply s m args below meth c H locs 0 0 Q (F0 m 99 ls []) := by
    intro R3 wv3 wm3 pq ww5 H locs ls hR3 a1 a2 a3 a4 a5 a6 fg6 fg7 fg8 fr9 hP hS hl
    have ff10 : ww5 236 = .inr (6, [.ref (b + 237), .ref (b + 238), .ref (b + 239), .ref (b + 240), .ref (b + 241), .ref (b + 242), .int (z0), .ref (b + 243), .int (iI (cnt)), .ref (b + 244), .ref (b + 245), .ref (b + 246), .ref (b + 247), .ref (b + 248), .ref (b + 249), .ref (b + 250), .ref (b + 251), .ref (b + 252), .ref (b + 253)]) := (fr9 236 (by omega) (by omega) (by omega)).trans q2M
    have ff11 : ww5 238 = ir ct 4 (pr) := (fr9 238 (by omega) (by omega) (by omega)).trans hp1
    have ff12 : ww5 239 = lr ct 4 (bg) := (fr9 239 (by omega) (by omega) (by omega)).trans hb1
    have ff13 : ww5 240 = lr ct 4 (ut) := (fr9 240 (by omega) (by omega) (by omega)).trans hut1
    have ff14 : ww5 241 = ir ct 8 (sc) := (fr9 241 (by omega) (by omega) (by omega)).trans hs1
    have ff15 : ww5 242 = ir ct 8 (sm) := (fr9 242 (by omega) (by omega) (by omega)).trans q2m1
    have ff16 : ww5 243 = ir ct 8 (ms) := (fr9 243 (by omega) (by omega) (by omega)).trans q2m2
    have ff17 : ww5 244 = ir ct 24 (kd) := (fr9 244 (by omega) (by omega) (by omega)).trans q2m3
    have ff18 : ww5 245 = ir ct 24 (fi) := (fr9 245 (by omega) (by omega) (by omega)).trans q2m4
    have ff19 : ww5 246 = ir ct 24 (se) := (fr9 246 (by omega) (by omega) (by omega)).trans q2m5
    have ff20 : ww5 247 = ir ct 192 (pl) := (fr9 247 (by omega) (by omega) (by omega)).trans q2m6
    have ff21 : ww5 248 = zr ct 24 (hs) := (fr9 248 (by omega) (by omega) (by omega)).trans q2m7
    have ff22 : ww5 249 = ir ct 24 (lv) := (fr9 249 (by omega) (by omega) (by omega)).trans q2m8
    have ff23 : ww5 250 = lr ct 24 (mt) := (fr9 250 (by omega) (by omega) (by omega)).trans q2m9
    have ff24 : ww5 253 = lr ct 8 (vv) := (fr9 253 (by omega) (by omega) (by omega)).trans q2m12
    have l0 := a3.1.1
    have l3 := a3.1.2.1
    have le12 := a5.2.2.1
    have bQ := lQ_bd pq.1.1
    refine lv_aload_n hx hb d_M_multiply_99 rfl (lv_at hl 0 rfl) ?_
    refine w_get (C := "LevelledRingModel") (T := T_M) (M := 19) hx hb hts hinM hown hK hP (236) (by omega) ff10 rfl 16 (by decide) kk3 (fun _ h => h) rfl d_M_multiply_100 ?_
    refine lv_iconst (v := iI (0)) hx hb d_M_multiply_103 rfl ?_
    refine w_iald hx hb hK hP (251) (by omega) fg7 (by omega) (by omega) (by omega) d_M_multiply_104 ?_
    refine x_ie (y := pq.1.1) (a1.1) ?_
    refine lv_istore_n (lv' := [(3, .int (iI (pq.1.1))), (0, .ref (b + 236)), (1, .int (iI (x)))]) hx hb d_M_multiply_105 rfl hl (by decide) rfl (fun ls hl => ?_)
    refine lv_aload_n hx hb d_M_multiply_106 rfl (lv_at hl 1 rfl) ?_
    refine w_get (C := "LevelledRingModel") (T := T_M) (M := 19) hx hb hts hinM hown hK hP (236) (by omega) ff10 rfl 2 (by decide) kk4 (fun _ h => h) rfl d_M_multiply_107 ?_
    refine lv_iload_n hx hb d_M_multiply_110 rfl (lv_at hl 0 rfl) ?_
    refine w_lald hx hb hK hP (239) (by omega) ff12 (by omega) (by omega) (by omega) d_M_multiply_111 ?_
    refine x_le (y := lQ pq.1.1) (hb2 _ l0 l3) ?_
    refine lv_lstore (lv' := [(4, .long (lI (lQ pq.1.1))), (3, .int (iI (pq.1.1))), (0, .ref (b + 236)), (1, .int (iI (x)))]) hx hb d_M_multiply_112 hl (by decide) rfl (fun ls hl => ?_)
    refine lv_iconst (v := iI (0)) hx hb d_M_multiply_114 rfl ?_
    refine lv_istore (lv' := [(6, .int (iI (0))), (4, .long (lI (lQ pq.1.1))), (3, .int (iI (pq.1.1))), (0, .ref (b + 236)), (1, .int (iI (x)))]) hx hb d_M_multiply_115 hl (by decide) rfl (fun ls hl => ?_)
    have fr25 : ∀ j : Nat, (j ≠ 237) → ww5 j = ww5 j := fun _ _ => rfl
    have lz : ∀ (d : Nat) (i : Int) (R4 : Int → Int) (w26 : Nat → va_E) (H : Heap) (locs : List Loc) (ls : Array Slot), (0 ≤ i) → (i ≤ 24) → (24 - i < d) → (∀ q : Int, 0 ≤ q → q < i → R4 (480 + q) = 0) → (∀ j : Int, (j < 480 ∨ 504 ≤ j) → R4 j = R3 j) → w26 237 = lr ct 512 (R4) → (∀ j : Nat, (j ≠ 237) → w26 j = ww5 j) → va_P D vwCl (wl N b w26) H → va_S (AA b) s.heap H locs → lv_has ls 10 [(6, .int (iI (i))), (4, .long (lI (lQ pq.1.1))), (3, .int (iI (pq.1.1))), (0, .ref (b + 236)), (1, .int (iI (x)))] → W p l e rm_c_multiply s m args below meth c H locs 0 0 Q (F0 m 117 ls []) := by
      intro d
      induction d with
      | zero => intro i R4 w26 H locs ls h0 h1 hd hg hk fg27 fr28 hP hS hl; exfalso; omega
      | succ d ihlz =>
        intro i R4 w26 H locs ls h0 h1 hd hg hk fg27 fr28 hP hS hl
        have ff29 : w26 236 = .inr (6, [.ref (b + 237), .ref (b + 238), .ref (b + 239), .ref (b + 240), .ref (b + 241), .ref (b + 242), .int (z0), .ref (b + 243), .int (iI (cnt)), .ref (b + 244), .ref (b + 245), .ref (b + 246), .ref (b + 247), .ref (b + 248), .ref (b + 249), .ref (b + 250), .ref (b + 251), .ref (b + 252), .ref (b + 253)]) := (fr28 236 (by omega)).trans ff10
        have ff30 : w26 238 = ir ct 4 (pr) := (fr28 238 (by omega)).trans ff11
        have ff31 : w26 239 = lr ct 4 (bg) := (fr28 239 (by omega)).trans ff12
        have ff32 : w26 240 = lr ct 4 (ut) := (fr28 240 (by omega)).trans ff13
        have ff33 : w26 241 = ir ct 8 (sc) := (fr28 241 (by omega)).trans ff14
        have ff34 : w26 242 = ir ct 8 (sm) := (fr28 242 (by omega)).trans ff15
        have ff35 : w26 243 = ir ct 8 (ms) := (fr28 243 (by omega)).trans ff16
        have ff36 : w26 244 = ir ct 24 (kd) := (fr28 244 (by omega)).trans ff17
        have ff37 : w26 245 = ir ct 24 (fi) := (fr28 245 (by omega)).trans ff18
        have ff38 : w26 246 = ir ct 24 (se) := (fr28 246 (by omega)).trans ff19
        have ff39 : w26 247 = ir ct 192 (pl) := (fr28 247 (by omega)).trans ff20
        have ff40 : w26 248 = zr ct 24 (hs) := (fr28 248 (by omega)).trans ff21
        have ff41 : w26 249 = ir ct 24 (lv) := (fr28 249 (by omega)).trans ff22
        have ff42 : w26 250 = lr ct 24 (mt) := (fr28 250 (by omega)).trans ff23
        have ff43 : w26 253 = lr ct 8 (vv) := (fr28 253 (by omega)).trans ff24
        have ff44 : w26 251 = ir ct 2 (wv3) := (fr28 251 (by omega)).trans fg7
        have ff45 : w26 252 = lr ct 2 (wm3) := (fr28 252 (by omega)).trans fg8
        refine lv_iload hx hb d_M_multiply_117 (lv_at hl 0 rfl) ?_
        refine lv_bipush (v := iI (24)) hx hb d_M_multiply_119 (by decide +kernel) ?_
        refine x_icmp_ge (tgt := 142) hx hb ⟨by omega, by omega⟩ ⟨by omega, by omega⟩ d_M_multiply_121 (by decide) (fun hc => ?_) (fun hc => ?_)
        · obtain rfl : i = 24 := by omega
          have xr : ∀ j : Int, j < 480 → R4 j = R3 j := fun j h => hk j (by omega)
          have e56 : ∀ i : Int, 0 ≤ i → i < 8 → R3 (8 * 56 + i) = pq.1.2.2.1 i := fun i h0 h1 => by rw [show 8 * 56 + i = 8 * (56 + 2 * (0 : Int)) + i by omega]; exact a1.2.2.1 i h0 h1
          have d56 : ∀ i : Int, 0 ≤ i → i < 8 → 0 ≤ pq.1.2.2.1 i ∧ pq.1.2.2.1 i < lQ pq.1.1 := fun i h0 h1 => a3.2.1 i h0 h1
          have e57 : ∀ i : Int, 0 ≤ i → i < 8 → R3 (8 * 57 + i) = pq.1.2.2.2 i := fun i h0 h1 => by rw [show 8 * 57 + i = 8 * (56 + 2 * (0 : Int)) + 8 + i by omega]; exact a1.2.2.2 i h0 h1
          have d57 : ∀ i : Int, 0 ≤ i → i < 8 → 0 ≤ pq.1.2.2.2 i ∧ pq.1.2.2.2 i < lQ pq.1.1 := fun i h0 h1 => a3.2.2 i h0 h1
          have e58 : ∀ i : Int, 0 ≤ i → i < 8 → R3 (8 * 58 + i) = pq.2.2.2.1 i := fun i h0 h1 => by rw [show 8 * 58 + i = 8 * (56 + 2 * (1 : Int)) + i by omega]; exact a2.2.2.1 i h0 h1
          have d58 : ∀ i : Int, 0 ≤ i → i < 8 → 0 ≤ pq.2.2.2.1 i ∧ pq.2.2.2.1 i < lQ pq.1.1 := fun i h0 h1 => by rw [le12]; exact a4.2.1 i h0 h1
          have e59 : ∀ i : Int, 0 ≤ i → i < 8 → R3 (8 * 59 + i) = pq.2.2.2.2 i := fun i h0 h1 => by rw [show 8 * 59 + i = 8 * (56 + 2 * (1 : Int)) + 8 + i by omega]; exact a2.2.2.2 i h0 h1
          have d59 : ∀ i : Int, 0 ≤ i → i < 8 → 0 ≤ pq.2.2.2.2 i ∧ pq.2.2.2.2 i < lQ pq.1.1 := fun i h0 h1 => by rw [le12]; exact a4.2.2 i h0 h1
          have z60 : ∀ i : Int, 0 ≤ i → i < 8 → R4 (8 * 60 + i) = 0 := fun i h0 h1 => hg i h0 (by omega)
          have z61 : ∀ i : Int, 0 ≤ i → i < 8 → R4 (8 * 61 + i) = 0 := fun i h0 h1 => by rw [show 8 * 61 + i = 480 + (8 + i) by omega]; exact hg (8 + i) (by omega) (by omega)
          have z62 : ∀ i : Int, 0 ≤ i → i < 8 → R4 (8 * 62 + i) = 0 := fun i h0 h1 => by rw [show 8 * 62 + i = 480 + (16 + i) by omega]; exact hg (16 + i) (by omega) (by omega)
          refine lv_aload_n hx hb d_M_multiply_142 rfl (lv_at hl 3 rfl) ?_
          refine lv_bipush (v := iI (60)) hx hb d_M_multiply_143 (by decide +kernel) ?_
          refine lv_bipush (v := iI (56)) hx hb d_M_multiply_145 (by decide +kernel) ?_
          refine lv_bipush (v := iI (58)) hx hb d_M_multiply_147 (by decide +kernel) ?_
          refine lv_lload hx hb d_M_multiply_149 (lv_at hl 1 rfl) ?_
          refine w_callv (va_runV (As := [.int (iI (60)), .int (iI (56)), .int (iI (58)), .long (lI (lQ pq.1.1))]) (rest := []) ⟨hx, hb, hml, hown, hts⟩ (c_MaddProduct l D ct st ke b N w26 (by omega) z0 cnt ff29 R4 fg27 60 56 58 (lQ pq.1.1) (by decide) (by decide) (by decide) (by decide) (by decide) (by decide) (by decide) (by decide) (lQ_p _) (lQ_bd _).2 (fun j h0 h1 => by rw [show R4 (8 * 60 + j) = 0 from z60 j h0 h1]; exact ⟨by decide, lQ_p _⟩) (fun j h0 h1 => by rw [xr _ (by omega), e56 j h0 h1]; exact d56 j h0 h1) (fun j h0 h1 => by rw [xr _ (by omega), e58 j h0 h1]; have := d58 j h0 h1; omega)) (cwV 4 hts (gV t_651 t_653 (tb_sel ((y_M_addProduct), 19) (List.mem_of_getElem? (i := 31) (by decide +kernel))) t_9 t_654) rfl rfl rfl (by decide +kernel) ⟨Nat.le_of_ble_eq_true rfl, Nat.le_of_ble_eq_true rfl⟩) (pre_V E hP hS (236) (by omega) ff29 rfl) rfl rfl hl.1 rfl (lv_room (Nat.le_of_ble_eq_true rfl)) d_M_multiply_151 ⟨(Nat.le_of_ble_eq_true rfl), (Nat.le_of_ble_eq_true rfl)⟩) hS (fun z46 H locs hz hP hS => ?_)
          obtain ⟨bR, b1, b2, b3, b4⟩ := hz
          have ff48 : z46 236 = .inr (6, [.ref (b + 237), .ref (b + 238), .ref (b + 239), .ref (b + 240), .ref (b + 241), .ref (b + 242), .int (z0), .ref (b + 243), .int (iI (cnt)), .ref (b + 244), .ref (b + 245), .ref (b + 246), .ref (b + 247), .ref (b + 248), .ref (b + 249), .ref (b + 250), .ref (b + 251), .ref (b + 252), .ref (b + 253)]) := (b4 236 (by omega)).trans ff29
          have ff49 : z46 238 = ir ct 4 (pr) := (b4 238 (by omega)).trans ff30
          have ff50 : z46 239 = lr ct 4 (bg) := (b4 239 (by omega)).trans ff31
          have ff51 : z46 240 = lr ct 4 (ut) := (b4 240 (by omega)).trans ff32
          have ff52 : z46 241 = ir ct 8 (sc) := (b4 241 (by omega)).trans ff33
          have ff53 : z46 242 = ir ct 8 (sm) := (b4 242 (by omega)).trans ff34
          have ff54 : z46 243 = ir ct 8 (ms) := (b4 243 (by omega)).trans ff35
          have ff55 : z46 244 = ir ct 24 (kd) := (b4 244 (by omega)).trans ff36
          have ff56 : z46 245 = ir ct 24 (fi) := (b4 245 (by omega)).trans ff37
          have ff57 : z46 246 = ir ct 24 (se) := (b4 246 (by omega)).trans ff38
          have ff58 : z46 247 = ir ct 192 (pl) := (b4 247 (by omega)).trans ff39
          have ff59 : z46 248 = zr ct 24 (hs) := (b4 248 (by omega)).trans ff40
          have ff60 : z46 249 = ir ct 24 (lv) := (b4 249 (by omega)).trans ff41
          have ff61 : z46 250 = lr ct 24 (mt) := (b4 250 (by omega)).trans ff42
          have ff62 : z46 253 = lr ct 8 (vv) := (b4 253 (by omega)).trans ff43
          have ff63 : z46 251 = ir ct 2 (wv3) := (b4 251 (by omega)).trans ff44
          have ff64 : z46 252 = lr ct 2 (wm3) := (b4 252 (by omega)).trans ff45
          have fr65 : ∀ j : Nat, (j ≠ 237) → z46 j = ww5 j := fun j h0 => (b4 j (by omega)).trans (fr28 j h0)
          have bk : ∀ j : Int, j < 480 → bR j = R3 j := fun j h => (b3 j (by omega)).trans (xr j h)
          have bn : ∀ i : Int, 0 ≤ i → i < 8 → nc (fun j => R4 (8 * 56 + j)) (fun j => R4 (8 * 58 + j)) i = nc (pq.1.2.2.1) (pq.2.2.2.1) i := fun i h0 h1 => nc_eq (fun j h2 h3 => by rw [xr _ (by omega), e56 j h2 h3]) (fun j h2 h3 => by rw [xr _ (by omega), e58 j h2 h3]) h0 h1
          have b60 : ∀ i : Int, 0 ≤ i → i < 8 → bR (8 * 60 + i) = nc pq.1.2.2.1 pq.2.2.2.1 i % lQ pq.1.1 := fun i h0 h1 => by rw [b2 i h0 h1, bn i h0 h1, z60 i h0 h1, Int.zero_add]
          refine lv_aload_n hx hb d_M_multiply_154 rfl (lv_at hl 3 rfl) ?_
          refine lv_bipush (v := iI (61)) hx hb d_M_multiply_155 (by decide +kernel) ?_
          refine lv_bipush (v := iI (56)) hx hb d_M_multiply_157 (by decide +kernel) ?_
          refine lv_bipush (v := iI (59)) hx hb d_M_multiply_159 (by decide +kernel) ?_
          refine lv_lload hx hb d_M_multiply_161 (lv_at hl 1 rfl) ?_
          refine w_callv (va_runV (As := [.int (iI (61)), .int (iI (56)), .int (iI (59)), .long (lI (lQ pq.1.1))]) (rest := []) ⟨hx, hb, hml, hown, hts⟩ (c_MaddProduct l D ct st ke b N z46 (by omega) z0 cnt ff48 bR b1 61 56 59 (lQ pq.1.1) (by decide) (by decide) (by decide) (by decide) (by decide) (by decide) (by decide) (by decide) (lQ_p _) (lQ_bd _).2 (fun j h0 h1 => by rw [show bR (8 * 61 + j) = 0 from (b3 _ (by omega)).trans (z61 j h0 h1)]; exact ⟨by decide, lQ_p _⟩) (fun j h0 h1 => by rw [bk _ (by omega), e56 j h0 h1]; exact d56 j h0 h1) (fun j h0 h1 => by rw [bk _ (by omega), e59 j h0 h1]; have := d59 j h0 h1; omega)) (cwV 4 hts (gV t_651 t_653 (tb_sel ((y_M_addProduct), 19) (List.mem_of_getElem? (i := 31) (by decide +kernel))) t_9 t_654) rfl rfl rfl (by decide +kernel) ⟨Nat.le_of_ble_eq_true rfl, Nat.le_of_ble_eq_true rfl⟩) (pre_V E hP hS (236) (by omega) ff48 rfl) rfl rfl hl.1 rfl (lv_room (Nat.le_of_ble_eq_true rfl)) d_M_multiply_163 ⟨(Nat.le_of_ble_eq_true rfl), (Nat.le_of_ble_eq_true rfl)⟩) hS (fun z66 H locs hz hP hS => ?_)
          obtain ⟨cR, c1, c2, c3, c4⟩ := hz
          have ff68 : z66 236 = .inr (6, [.ref (b + 237), .ref (b + 238), .ref (b + 239), .ref (b + 240), .ref (b + 241), .ref (b + 242), .int (z0), .ref (b + 243), .int (iI (cnt)), .ref (b + 244), .ref (b + 245), .ref (b + 246), .ref (b + 247), .ref (b + 248), .ref (b + 249), .ref (b + 250), .ref (b + 251), .ref (b + 252), .ref (b + 253)]) := (c4 236 (by omega)).trans ff48
          have ff69 : z66 238 = ir ct 4 (pr) := (c4 238 (by omega)).trans ff49
          have ff70 : z66 239 = lr ct 4 (bg) := (c4 239 (by omega)).trans ff50
          have ff71 : z66 240 = lr ct 4 (ut) := (c4 240 (by omega)).trans ff51
          have ff72 : z66 241 = ir ct 8 (sc) := (c4 241 (by omega)).trans ff52
          have ff73 : z66 242 = ir ct 8 (sm) := (c4 242 (by omega)).trans ff53
          have ff74 : z66 243 = ir ct 8 (ms) := (c4 243 (by omega)).trans ff54
          have ff75 : z66 244 = ir ct 24 (kd) := (c4 244 (by omega)).trans ff55
          have ff76 : z66 245 = ir ct 24 (fi) := (c4 245 (by omega)).trans ff56
          have ff77 : z66 246 = ir ct 24 (se) := (c4 246 (by omega)).trans ff57
          have ff78 : z66 247 = ir ct 192 (pl) := (c4 247 (by omega)).trans ff58
          have ff79 : z66 248 = zr ct 24 (hs) := (c4 248 (by omega)).trans ff59
          have ff80 : z66 249 = ir ct 24 (lv) := (c4 249 (by omega)).trans ff60
          have ff81 : z66 250 = lr ct 24 (mt) := (c4 250 (by omega)).trans ff61
          have ff82 : z66 253 = lr ct 8 (vv) := (c4 253 (by omega)).trans ff62
          have ff83 : z66 251 = ir ct 2 (wv3) := (c4 251 (by omega)).trans ff63
          have ff84 : z66 252 = lr ct 2 (wm3) := (c4 252 (by omega)).trans ff64
          have fr85 : ∀ j : Nat, (j ≠ 237) → z66 j = ww5 j := fun j h0 => (c4 j (by omega)).trans (fr65 j h0)
          have ck : ∀ j : Int, j < 480 → cR j = R3 j := fun j h => (c3 j (by omega)).trans (bk j h)
          have cn : ∀ i : Int, 0 ≤ i → i < 8 → nc (fun j => bR (8 * 56 + j)) (fun j => bR (8 * 59 + j)) i = nc (pq.1.2.2.1) (pq.2.2.2.2) i := fun i h0 h1 => nc_eq (fun j h2 h3 => by rw [bk _ (by omega), e56 j h2 h3]) (fun j h2 h3 => by rw [bk _ (by omega), e59 j h2 h3]) h0 h1
          have c61 : ∀ i : Int, 0 ≤ i → i < 8 → cR (8 * 61 + i) = nc pq.1.2.2.1 pq.2.2.2.2 i % lQ pq.1.1 := fun i h0 h1 => by rw [c2 i h0 h1, cn i h0 h1, show bR (8 * 61 + i) = 0 from (b3 _ (by omega)).trans (z61 i h0 h1), Int.zero_add]
          refine lv_aload_n hx hb d_M_multiply_166 rfl (lv_at hl 3 rfl) ?_
          refine lv_bipush (v := iI (61)) hx hb d_M_multiply_167 (by decide +kernel) ?_
          refine lv_bipush (v := iI (57)) hx hb d_M_multiply_169 (by decide +kernel) ?_
          refine lv_bipush (v := iI (58)) hx hb d_M_multiply_171 (by decide +kernel) ?_
          refine lv_lload hx hb d_M_multiply_173 (lv_at hl 1 rfl) ?_
          refine w_callv (va_runV (As := [.int (iI (61)), .int (iI (57)), .int (iI (58)), .long (lI (lQ pq.1.1))]) (rest := []) ⟨hx, hb, hml, hown, hts⟩ (c_MaddProduct l D ct st ke b N z66 (by omega) z0 cnt ff68 cR c1 61 57 58 (lQ pq.1.1) (by decide) (by decide) (by decide) (by decide) (by decide) (by decide) (by decide) (by decide) (lQ_p _) (lQ_bd _).2 (fun j h0 h1 => by rw [c61 j h0 h1]; exact md_b _ _) (fun j h0 h1 => by rw [ck _ (by omega), e57 j h0 h1]; exact d57 j h0 h1) (fun j h0 h1 => by rw [ck _ (by omega), e58 j h0 h1]; have := d58 j h0 h1; omega)) (cwV 4 hts (gV t_651 t_653 (tb_sel ((y_M_addProduct), 19) (List.mem_of_getElem? (i := 31) (by decide +kernel))) t_9 t_654) rfl rfl rfl (by decide +kernel) ⟨Nat.le_of_ble_eq_true rfl, Nat.le_of_ble_eq_true rfl⟩) (pre_V E hP hS (236) (by omega) ff68 rfl) rfl rfl hl.1 rfl (lv_room (Nat.le_of_ble_eq_true rfl)) d_M_multiply_175 ⟨(Nat.le_of_ble_eq_true rfl), (Nat.le_of_ble_eq_true rfl)⟩) hS (fun z86 H locs hz hP hS => ?_)
          obtain ⟨dR, d1, d2, d3, d4⟩ := hz
          have ff88 : z86 236 = .inr (6, [.ref (b + 237), .ref (b + 238), .ref (b + 239), .ref (b + 240), .ref (b + 241), .ref (b + 242), .int (z0), .ref (b + 243), .int (iI (cnt)), .ref (b + 244), .ref (b + 245), .ref (b + 246), .ref (b + 247), .ref (b + 248), .ref (b + 249), .ref (b + 250), .ref (b + 251), .ref (b + 252), .ref (b + 253)]) := (d4 236 (by omega)).trans ff68
          have ff89 : z86 238 = ir ct 4 (pr) := (d4 238 (by omega)).trans ff69
          have ff90 : z86 239 = lr ct 4 (bg) := (d4 239 (by omega)).trans ff70
          have ff91 : z86 240 = lr ct 4 (ut) := (d4 240 (by omega)).trans ff71
          have ff92 : z86 241 = ir ct 8 (sc) := (d4 241 (by omega)).trans ff72
          have ff93 : z86 242 = ir ct 8 (sm) := (d4 242 (by omega)).trans ff73
          have ff94 : z86 243 = ir ct 8 (ms) := (d4 243 (by omega)).trans ff74
          have ff95 : z86 244 = ir ct 24 (kd) := (d4 244 (by omega)).trans ff75
          have ff96 : z86 245 = ir ct 24 (fi) := (d4 245 (by omega)).trans ff76
          have ff97 : z86 246 = ir ct 24 (se) := (d4 246 (by omega)).trans ff77
          have ff98 : z86 247 = ir ct 192 (pl) := (d4 247 (by omega)).trans ff78
          have ff99 : z86 248 = zr ct 24 (hs) := (d4 248 (by omega)).trans ff79
          have ff100 : z86 249 = ir ct 24 (lv) := (d4 249 (by omega)).trans ff80
          have ff101 : z86 250 = lr ct 24 (mt) := (d4 250 (by omega)).trans ff81
          have ff102 : z86 253 = lr ct 8 (vv) := (d4 253 (by omega)).trans ff82
          have ff103 : z86 251 = ir ct 2 (wv3) := (d4 251 (by omega)).trans ff83
          have ff104 : z86 252 = lr ct 2 (wm3) := (d4 252 (by omega)).trans ff84
          have fr105 : ∀ j : Nat, (j ≠ 237) → z86 j = ww5 j := fun j h0 => (d4 j (by omega)).trans (fr85 j h0)
          have dk : ∀ j : Int, j < 480 → dR j = R3 j := fun j h => (d3 j (by omega)).trans (ck j h)
          have dn : ∀ i : Int, 0 ≤ i → i < 8 → nc (fun j => cR (8 * 57 + j)) (fun j => cR (8 * 58 + j)) i = nc (pq.1.2.2.2) (pq.2.2.2.1) i := fun i h0 h1 => nc_eq (fun j h2 h3 => by rw [ck _ (by omega), e57 j h2 h3]) (fun j h2 h3 => by rw [ck _ (by omega), e58 j h2 h3]) h0 h1
          have d61 : ∀ i : Int, 0 ≤ i → i < 8 → dR (8 * 61 + i) = (nc pq.1.2.2.1 pq.2.2.2.2 i + nc pq.1.2.2.2 pq.2.2.2.1 i) % lQ pq.1.1 := fun i h0 h1 => by rw [d2 i h0 h1, dn i h0 h1, c61 i h0 h1]; exact add_md
          have y62 : ∀ i : Int, 0 ≤ i → i < 8 → dR (8 * 62 + i) = 0 := fun i h0 h1 => (d3 _ (by omega)).trans ((c3 _ (by omega)).trans ((b3 _ (by omega)).trans (z62 i h0 h1)))
          refine lv_aload_n hx hb d_M_multiply_178 rfl (lv_at hl 3 rfl) ?_
          refine lv_bipush (v := iI (62)) hx hb d_M_multiply_179 (by decide +kernel) ?_
          refine lv_bipush (v := iI (57)) hx hb d_M_multiply_181 (by decide +kernel) ?_
          refine lv_bipush (v := iI (59)) hx hb d_M_multiply_183 (by decide +kernel) ?_
          refine lv_lload hx hb d_M_multiply_185 (lv_at hl 1 rfl) ?_
          refine w_callv (va_runV (As := [.int (iI (62)), .int (iI (57)), .int (iI (59)), .long (lI (lQ pq.1.1))]) (rest := []) ⟨hx, hb, hml, hown, hts⟩ (c_MaddProduct l D ct st ke b N z86 (by omega) z0 cnt ff88 dR d1 62 57 59 (lQ pq.1.1) (by decide) (by decide) (by decide) (by decide) (by decide) (by decide) (by decide) (by decide) (lQ_p _) (lQ_bd _).2 (fun j h0 h1 => by rw [show dR (8 * 62 + j) = 0 from y62 j h0 h1]; exact ⟨by decide, lQ_p _⟩) (fun j h0 h1 => by rw [dk _ (by omega), e57 j h0 h1]; exact d57 j h0 h1) (fun j h0 h1 => by rw [dk _ (by omega), e59 j h0 h1]; have := d59 j h0 h1; omega)) (cwV 4 hts (gV t_651 t_653 (tb_sel ((y_M_addProduct), 19) (List.mem_of_getElem? (i := 31) (by decide +kernel))) t_9 t_654) rfl rfl rfl (by decide +kernel) ⟨Nat.le_of_ble_eq_true rfl, Nat.le_of_ble_eq_true rfl⟩) (pre_V E hP hS (236) (by omega) ff88 rfl) rfl rfl hl.1 rfl (lv_room (Nat.le_of_ble_eq_true rfl)) d_M_multiply_187 ⟨(Nat.le_of_ble_eq_true rfl), (Nat.le_of_ble_eq_true rfl)⟩) hS (fun z106 H locs hz hP hS => ?_)
          obtain ⟨fR, f1, f2, f3, f4⟩ := hz
          have ff108 : z106 236 = .inr (6, [.ref (b + 237), .ref (b + 238), .ref (b + 239), .ref (b + 240), .ref (b + 241), .ref (b + 242), .int (z0), .ref (b + 243), .int (iI (cnt)), .ref (b + 244), .ref (b + 245), .ref (b + 246), .ref (b + 247), .ref (b + 248), .ref (b + 249), .ref (b + 250), .ref (b + 251), .ref (b + 252), .ref (b + 253)]) := (f4 236 (by omega)).trans ff88
          have ff109 : z106 238 = ir ct 4 (pr) := (f4 238 (by omega)).trans ff89
          have ff110 : z106 239 = lr ct 4 (bg) := (f4 239 (by omega)).trans ff90
          have ff111 : z106 240 = lr ct 4 (ut) := (f4 240 (by omega)).trans ff91
          have ff112 : z106 241 = ir ct 8 (sc) := (f4 241 (by omega)).trans ff92
          have ff113 : z106 242 = ir ct 8 (sm) := (f4 242 (by omega)).trans ff93
          have ff114 : z106 243 = ir ct 8 (ms) := (f4 243 (by omega)).trans ff94
          have ff115 : z106 244 = ir ct 24 (kd) := (f4 244 (by omega)).trans ff95
          have ff116 : z106 245 = ir ct 24 (fi) := (f4 245 (by omega)).trans ff96
          have ff117 : z106 246 = ir ct 24 (se) := (f4 246 (by omega)).trans ff97
          have ff118 : z106 247 = ir ct 192 (pl) := (f4 247 (by omega)).trans ff98
          have ff119 : z106 248 = zr ct 24 (hs) := (f4 248 (by omega)).trans ff99
          have ff120 : z106 249 = ir ct 24 (lv) := (f4 249 (by omega)).trans ff100
          have ff121 : z106 250 = lr ct 24 (mt) := (f4 250 (by omega)).trans ff101
          have ff122 : z106 253 = lr ct 8 (vv) := (f4 253 (by omega)).trans ff102
          have ff123 : z106 251 = ir ct 2 (wv3) := (f4 251 (by omega)).trans ff103
          have ff124 : z106 252 = lr ct 2 (wm3) := (f4 252 (by omega)).trans ff104
          have fr125 : ∀ j : Nat, (j ≠ 237) → z106 j = ww5 j := fun j h0 => (f4 j (by omega)).trans (fr105 j h0)
          have fk : ∀ j : Int, j < 480 → fR j = R3 j := fun j h => (f3 j (by omega)).trans (dk j h)
          have fn : ∀ i : Int, 0 ≤ i → i < 8 → nc (fun j => dR (8 * 57 + j)) (fun j => dR (8 * 59 + j)) i = nc (pq.1.2.2.2) (pq.2.2.2.2) i := fun i h0 h1 => nc_eq (fun j h2 h3 => by rw [dk _ (by omega), e57 j h2 h3]) (fun j h2 h3 => by rw [dk _ (by omega), e59 j h2 h3]) h0 h1
          have f62 : ∀ i : Int, 0 ≤ i → i < 8 → fR (8 * 62 + i) = nc pq.1.2.2.2 pq.2.2.2.2 i % lQ pq.1.1 := fun i h0 h1 => by rw [f2 i h0 h1, fn i h0 h1, y62 i h0 h1, Int.zero_add]
          have f60 : ∀ i : Int, 0 ≤ i → i < 8 → fR (8 * 60 + i) = nc pq.1.2.2.1 pq.2.2.2.1 i % lQ pq.1.1 := fun i h0 h1 => (f3 _ (by omega)).trans ((d3 _ (by omega)).trans ((c3 _ (by omega)).trans (b60 i h0 h1)))
          have f61 : ∀ i : Int, 0 ≤ i → i < 8 → fR (8 * 61 + i) = (nc pq.1.2.2.1 pq.2.2.2.2 i + nc pq.1.2.2.2 pq.2.2.2.1 i) % lQ pq.1.1 := fun i h0 h1 => (f3 _ (by omega)).trans (d61 i h0 h1)
          refine lv_ldc2 hx hb hown kk5 d_M_multiply_190 ?_
          refine x_l (y := lI (8)) (by decide +kernel) ?_
          refine lv_aload_n hx hb d_M_multiply_193 rfl (lv_at hl 3 rfl) ?_
          refine w_get (C := "LevelledRingModel") (T := T_M) (M := 19) hx hb hts hinM hown hK hP (236) (by omega) ff108 rfl 17 (by decide) kk6 (fun _ h => h) rfl d_M_multiply_194 ?_
          refine lv_iconst (v := iI (0)) hx hb d_M_multiply_197 rfl ?_
          refine w_lald hx hb hK hP (252) (by omega) ff124 (by omega) (by omega) (by omega) d_M_multiply_198 ?_
          refine x_le (y := pq.1.2.1) (a1.2.1) ?_
          refine x_lmul hx hb d_M_multiply_199 ?_
          refine lv_aload_n hx hb d_M_multiply_200 rfl (lv_at hl 3 rfl) ?_
          refine w_get (C := "LevelledRingModel") (T := T_M) (M := 19) hx hb hts hinM hown hK hP (236) (by omega) ff108 rfl 17 (by decide) kk6 (fun _ h => h) rfl d_M_multiply_201 ?_
          refine lv_iconst (v := iI (1)) hx hb d_M_multiply_204 rfl ?_
          refine w_lald hx hb hK hP (252) (by omega) ff124 (by omega) (by omega) (by omega) d_M_multiply_205 ?_
          refine x_le (y := pq.2.2.1) (a2.2.1) ?_
          refine x_lmul hx hb d_M_multiply_206 ?_
          refine x_le (y := 8 * pq.1.2.1 * pq.2.2.1 + 136 * sn (fun k => lq k - 1) 0) (by show _ = _ + 136 * 0; omega) ?_
          refine lv_lstore (lv' := [(6, .long (lI (8 * pq.1.2.1 * pq.2.2.1 + 136 * sn (fun k => lq k - 1) 0))), (4, .long (lI (lQ pq.1.1))), (3, .int (iI (pq.1.1))), (0, .ref (b + 236)), (1, .int (iI (x)))]) hx hb d_M_multiply_207 hl (by decide) rfl (fun ls hl => ?_)
          refine lv_iconst (v := iI (0)) hx hb d_M_multiply_209 rfl ?_
          refine lv_istore (lv' := [(8, .int (iI (0))), (6, .long (lI (8 * pq.1.2.1 * pq.2.2.1 + 136 * sn (fun k => lq k - 1) 0))), (4, .long (lI (lQ pq.1.1))), (3, .int (iI (pq.1.1))), (0, .ref (b + 236)), (1, .int (iI (x)))]) hx hb d_M_multiply_210 hl (by decide) rfl (fun ls hl => ?_)
          have hl : lv_has ls 10 [(8, .int (iI (0))), (6, .long (lI (8 * pq.1.2.1 * pq.2.2.1 + 136 * sn (fun k => lq k - 1) 0))), (4, .long (lI (lQ pq.1.1))), (3, .int (iI (pq.1.1))), (0, .ref (b + 236)), (1, .int (iI (x)))] := lv_sub hl [0, 1, 2, 3, 4, 5] rfl
          have lj : ∀ (d3 : Nat) (jn : Nat) (R5 : Int → Int) (w126 : Nat → va_E) (H : Heap) (locs : List Loc) (ls : Array Slot), ((jn : Int) ≤ pq.1.1 + 1) → (pq.1.1 + 1 - jn < d3) → (∀ j : Int, j < 480 → R5 j = R3 j) → (∀ i : Int, 0 ≤ i → i < 8 → R5 (8 * 60 + i) = (nc pq.1.2.2.1 pq.2.2.2.1 i + sws (nc pq.1.2.2.2 pq.2.2.2.2) K.2.2 i jn) % lQ pq.1.1) → (∀ i : Int, 0 ≤ i → i < 8 → R5 (8 * 61 + i) = (nc pq.1.2.2.1 pq.2.2.2.2 i + nc pq.1.2.2.2 pq.2.2.2.1 i + sws (nc pq.1.2.2.2 pq.2.2.2.2) K.2.1 i jn) % lQ pq.1.1) → (∀ i : Int, 0 ≤ i → i < 8 → R5 (8 * 62 + i) = nc pq.1.2.2.2 pq.2.2.2.2 i % lQ pq.1.1) → w126 237 = lr ct 512 (R5) → (∀ j : Nat, (j ≠ 237) → w126 j = ww5 j) → va_P D vwCl (wl N b w126) H → va_S (AA b) s.heap H locs → lv_has ls 10 [(8, .int (iI ((jn : Int)))), (6, .long (lI (8 * pq.1.2.1 * pq.2.2.1 + 136 * sn (fun k => lq k - 1) jn))), (4, .long (lI (lQ pq.1.1))), (3, .int (iI (pq.1.1))), (0, .ref (b + 236)), (1, .int (iI (x)))] → W p l e rm_c_multiply s m args below meth c H locs 0 0 Q (F0 m 212 ls []) := by
            intro d3
            induction d3 with
            | zero => intro jn R5 w126 H locs ls hj hdj k5 p0 p1 p2 fg127 fr128 hP hS hl; exfalso; omega
            | succ d3 ihlj =>
              intro jn R5 w126 H locs ls hj hdj k5 p0 p1 p2 fg127 fr128 hP hS hl
              have ff129 : w126 236 = .inr (6, [.ref (b + 237), .ref (b + 238), .ref (b + 239), .ref (b + 240), .ref (b + 241), .ref (b + 242), .int (z0), .ref (b + 243), .int (iI (cnt)), .ref (b + 244), .ref (b + 245), .ref (b + 246), .ref (b + 247), .ref (b + 248), .ref (b + 249), .ref (b + 250), .ref (b + 251), .ref (b + 252), .ref (b + 253)]) := (fr128 236 (by omega)).trans ff10
              have ff130 : w126 238 = ir ct 4 (pr) := (fr128 238 (by omega)).trans ff11
              have ff131 : w126 239 = lr ct 4 (bg) := (fr128 239 (by omega)).trans ff12
              have ff132 : w126 240 = lr ct 4 (ut) := (fr128 240 (by omega)).trans ff13
              have ff133 : w126 241 = ir ct 8 (sc) := (fr128 241 (by omega)).trans ff14
              have ff134 : w126 242 = ir ct 8 (sm) := (fr128 242 (by omega)).trans ff15
              have ff135 : w126 243 = ir ct 8 (ms) := (fr128 243 (by omega)).trans ff16
              have ff136 : w126 244 = ir ct 24 (kd) := (fr128 244 (by omega)).trans ff17
              have ff137 : w126 245 = ir ct 24 (fi) := (fr128 245 (by omega)).trans ff18
              have ff138 : w126 246 = ir ct 24 (se) := (fr128 246 (by omega)).trans ff19
              have ff139 : w126 247 = ir ct 192 (pl) := (fr128 247 (by omega)).trans ff20
              have ff140 : w126 248 = zr ct 24 (hs) := (fr128 248 (by omega)).trans ff21
              have ff141 : w126 249 = ir ct 24 (lv) := (fr128 249 (by omega)).trans ff22
              have ff142 : w126 250 = lr ct 24 (mt) := (fr128 250 (by omega)).trans ff23
              have ff143 : w126 253 = lr ct 8 (vv) := (fr128 253 (by omega)).trans ff24
              have ff144 : w126 251 = ir ct 2 (wv3) := (fr128 251 (by omega)).trans fg7
              have ff145 : w126 252 = lr ct 2 (wm3) := (fr128 252 (by omega)).trans fg8
              refine lv_iload hx hb d_M_multiply_212 (lv_at hl 0 rfl) ?_
              refine lv_iload_n hx hb d_M_multiply_214 rfl (lv_at hl 3 rfl) ?_
              refine x_icmp_gt (tgt := 316) hx hb ⟨by omega, by omega⟩ ⟨by omega, by omega⟩ d_M_multiply_215 (by decide) (fun hc => ?_) (fun hc => ?_)
              · obtain ⟨hjl⟩ : Nonempty (jn = (pq.1.1 + 1).toNat) := ⟨by omega⟩
                refine lv_iconst (v := iI (0)) hx hb d_M_multiply_316 rfl ?_
                refine lv_istore (lv' := [(8, .int (iI (0))), (6, .long (lI (8 * pq.1.2.1 * pq.2.2.1 + 136 * sn (fun k => lq k - 1) jn))), (4, .long (lI (lQ pq.1.1))), (3, .int (iI (pq.1.1))), (0, .ref (b + 236)), (1, .int (iI (x)))]) hx hb d_M_multiply_317 hl (by decide) rfl (fun ls hl => ?_)
                have hl : lv_has ls 10 [(8, .int (iI (0))), (6, .long (lI (8 * pq.1.2.1 * pq.2.2.1 + 136 * sn (fun k => lq k - 1) jn))), (4, .long (lI (lQ pq.1.1))), (3, .int (iI (pq.1.1))), (0, .ref (b + 236)), (1, .int (iI (x)))] := lv_sub hl [0, 1, 2, 3, 4, 5] rfl
                have lc : ∀ (d4 : Nat) (i : Int) (R6 : Int → Int) (w146 : Nat → va_E) (H : Heap) (locs : List Loc) (ls : Array Slot), (0 ≤ i) → (i ≤ 16) → (16 - i < d4) → (∀ q : Int, 0 ≤ q → q < i → R6 (8 * (8 + 2 * x) + q) = R5 (480 + q)) → (∀ j : Int, (j < 8 * (8 + 2 * x) ∨ 8 * (8 + 2 * x) + 16 ≤ j) → R6 j = R5 j) → w146 237 = lr ct 512 (R6) → (∀ j : Nat, (j ≠ 237) → w146 j = ww5 j) → va_P D vwCl (wl N b w146) H → va_S (AA b) s.heap H locs → lv_has ls 10 [(8, .int (iI (i))), (6, .long (lI (8 * pq.1.2.1 * pq.2.2.1 + 136 * sn (fun k => lq k - 1) jn))), (4, .long (lI (lQ pq.1.1))), (3, .int (iI (pq.1.1))), (0, .ref (b + 236)), (1, .int (iI (x)))] → W p l e rm_c_multiply s m args below meth c H locs 0 0 Q (F0 m 319 ls []) := by
                  intro d4
                  induction d4 with
                  | zero => intro i R6 w146 H locs ls h0 h1 hdc hg6 hk6 fg147 fr148 hP hS hl; exfalso; omega
                  | succ d4 ihlc =>
                    intro i R6 w146 H locs ls h0 h1 hdc hg6 hk6 fg147 fr148 hP hS hl
                    have ff149 : w146 236 = .inr (6, [.ref (b + 237), .ref (b + 238), .ref (b + 239), .ref (b + 240), .ref (b + 241), .ref (b + 242), .int (z0), .ref (b + 243), .int (iI (cnt)), .ref (b + 244), .ref (b + 245), .ref (b + 246), .ref (b + 247), .ref (b + 248), .ref (b + 249), .ref (b + 250), .ref (b + 251), .ref (b + 252), .ref (b + 253)]) := (fr148 236 (by omega)).trans ff10
                    have ff150 : w146 238 = ir ct 4 (pr) := (fr148 238 (by omega)).trans ff11
                    have ff151 : w146 239 = lr ct 4 (bg) := (fr148 239 (by omega)).trans ff12
                    have ff152 : w146 240 = lr ct 4 (ut) := (fr148 240 (by omega)).trans ff13
                    have ff153 : w146 241 = ir ct 8 (sc) := (fr148 241 (by omega)).trans ff14
                    have ff154 : w146 242 = ir ct 8 (sm) := (fr148 242 (by omega)).trans ff15
                    have ff155 : w146 243 = ir ct 8 (ms) := (fr148 243 (by omega)).trans ff16
                    have ff156 : w146 244 = ir ct 24 (kd) := (fr148 244 (by omega)).trans ff17
                    have ff157 : w146 245 = ir ct 24 (fi) := (fr148 245 (by omega)).trans ff18
                    have ff158 : w146 246 = ir ct 24 (se) := (fr148 246 (by omega)).trans ff19
                    have ff159 : w146 247 = ir ct 192 (pl) := (fr148 247 (by omega)).trans ff20
                    have ff160 : w146 248 = zr ct 24 (hs) := (fr148 248 (by omega)).trans ff21
                    have ff161 : w146 249 = ir ct 24 (lv) := (fr148 249 (by omega)).trans ff22
                    have ff162 : w146 250 = lr ct 24 (mt) := (fr148 250 (by omega)).trans ff23
                    have ff163 : w146 253 = lr ct 8 (vv) := (fr148 253 (by omega)).trans ff24
                    have ff164 : w146 251 = ir ct 2 (wv3) := (fr148 251 (by omega)).trans fg7
                    have ff165 : w146 252 = lr ct 2 (wm3) := (fr148 252 (by omega)).trans fg8
                    refine lv_iload hx hb d_M_multiply_319 (lv_at hl 0 rfl) ?_
                    refine lv_bipush (v := iI (16)) hx hb d_M_multiply_321 (by decide +kernel) ?_
                    refine x_icmp_ge (tgt := 360) hx hb ⟨by omega, by omega⟩ ⟨by omega, by omega⟩ d_M_multiply_323 (by decide) (fun hc => ?_) (fun hc => ?_)
                    · obtain rfl : i = 16 := by omega
                      have hpm : 8 * pq.1.2.1 * pq.2.2.1 + 136 * sn (fun k => lq k - 1) jn = pmt pq := by rw [hjl]; rfl
                      have bp := qu_bd a5
                      refine lv_aload_n hx hb d_M_multiply_360 rfl (lv_at hl 4 rfl) ?_
                      refine lv_iload_n hx hb d_M_multiply_361 rfl (lv_at hl 5 rfl) ?_
                      refine lv_iload_n hx hb d_M_multiply_362 rfl (lv_at hl 3 rfl) ?_
                      refine lv_lload hx hb d_M_multiply_363 (lv_at hl 1 rfl) ?_
                      refine x_le (y := pmt pq) (hpm) ?_
                      refine w_calli (va_runV (As := [.int (iI (x)), .int (iI (pq.1.1)), .long (lI (pmt pq))]) (rest := []) ⟨hx, hb, hml, hown, hts⟩ (c_keep l D ct st ke b N w146 (by omega) z0 cnt S R6 sm ms kd fi se pl hs lv mt wv3 wm3 vv ⟨ff149, ⟨⟨pr, ff150, hp2⟩, ⟨bg, ff151, hb2⟩, ut, ff152, hut2⟩, ⟨sc, ff153, hs2⟩, fg147, ff154, ff155, ff156, ff157, ff158, ff159, ff160, ff161, ff162, ff164, ff165, ff163⟩ x (pq.1.1) (pmt pq) hx0 hx1 l0 l3 ⟨by omega, by omega⟩) (cwV 3 hts (gV t_622 t_624 (tb_sel ((y_M_keep), 19) (List.mem_of_getElem? (i := 25) (by decide +kernel))) t_9 t_625) rfl rfl rfl (by decide +kernel) ⟨Nat.le_of_ble_eq_true rfl, Nat.le_of_ble_eq_true rfl⟩) (pre_V E hP hS (236) (by omega) ff149 rfl) rfl rfl hl.1 rfl (lv_room (Nat.le_of_ble_eq_true rfl)) d_M_multiply_365 ⟨(Nat.le_of_ble_eq_true rfl), (Nat.le_of_ble_eq_true rfl)⟩) hS (fun r167 z166 H locs hz hP hS => ?_)
                      obtain ⟨rfl, hKW, hKf⟩ := hz
                      have ht := tg_01 pq.1.1 (pmt pq)
                      have hRV : RV R6 (8 * (8 + 2 * x)) (pq.1.1, pmt pq, fun i => (nc pq.1.2.2.1 pq.2.2.2.1 i + sws (nc pq.1.2.2.2 pq.2.2.2.2) K.2.2 i (pq.1.1 + 1).toNat) % lQ pq.1.1, fun i => (nc pq.1.2.2.1 pq.2.2.2.2 i + nc pq.1.2.2.2 pq.2.2.2.1 i + sws (nc pq.1.2.2.2 pq.2.2.2.2) K.2.1 i (pq.1.1 + 1).toNat) % lQ pq.1.1) := by
                        subst hjl
                        exact ⟨fun i h0 h1 => by rw [hg6 i h0 (by omega)]; exact p0 i h0 h1, fun i h0 h1 => by rw [Int.add_assoc, hg6 (8 + i) (by omega) (by omega), show 480 + (8 + i) = 8 * 61 + i by omega]; exact p1 i h0 h1⟩
                      refine ret _ z166 H locs 368 ls (by omega) ⟨⟨z0, R6, sm, _, _, _, wv3, wm3, hKW, fun j h0 h1 => (hk6 j h1).trans ((k5 j (by omega)).trans (hR3 j h0)), fun y hy => ⟨zu_n hy, zu_n hy, zu_n hy⟩, ?_⟩, fun j h => (hKf j h).trans ((fr148 j (by omega)).trans ((fr9 j (by omega) (by omega) (by omega)).trans (fr3 j h)))⟩ hP hS d_M_multiply_368
                      rw [← hO, ← a6]
                      unfold prV
                      rcases ht with ht | ht
                      · rw [if_neg (by omega)]; exact Or.inl ⟨_, rfl, by rw [ht]; rfl, by rw [zu_s, ht]; rfl, zu_s, zu_s, hRV⟩
                      · rw [if_pos ht]; exact Or.inr ⟨rfl, by rw [ht]; rfl, by rw [zu_s, ht]; rfl⟩
                    · refine lv_aload_n hx hb d_M_multiply_326 rfl (lv_at hl 4 rfl) ?_
                      refine w_get (C := "LevelledRingModel") (T := T_M) (M := 19) hx hb hts hinM hown hK hP (236) (by omega) ff149 rfl 0 (by decide) kk7 (fun _ h => h) rfl d_M_multiply_327 ?_
                      refine lv_bipush (v := iI (8)) hx hb d_M_multiply_330 (by decide +kernel) ?_
                      refine lv_bipush (v := iI (8)) hx hb d_M_multiply_332 (by decide +kernel) ?_
                      refine lv_iconst (v := iI (2)) hx hb d_M_multiply_334 rfl ?_
                      refine lv_iload_n hx hb d_M_multiply_335 rfl (lv_at hl 5 rfl) ?_
                      refine x_imul hx hb d_M_multiply_336 ?_
                      refine x_iadd hx hb d_M_multiply_337 ?_
                      refine x_imul hx hb d_M_multiply_338 ?_
                      refine lv_iload hx hb d_M_multiply_339 (lv_at hl 0 rfl) ?_
                      refine x_iadd hx hb d_M_multiply_341 ?_
                      refine lv_aload_n hx hb d_M_multiply_342 rfl (lv_at hl 4 rfl) ?_
                      refine w_get (C := "LevelledRingModel") (T := T_M) (M := 19) hx hb hts hinM hown hK hP (236) (by omega) ff149 rfl 0 (by decide) kk7 (fun _ h => h) rfl d_M_multiply_343 ?_
                      refine lv_sipush (v := iI (480)) hx hb d_M_multiply_346 (by decide +kernel) ?_
                      refine lv_iload hx hb d_M_multiply_349 (lv_at hl 0 rfl) ?_
                      refine x_iadd hx hb d_M_multiply_351 ?_
                      refine w_lald hx hb hK hP (237) (by omega) fg147 (by omega) (by omega) (by omega) d_M_multiply_352 ?_
                      refine x_le (y := R5 (480 + i)) (hk6 _ (by omega)) ?_
                      refine w_last hx hb hK hP hS (237) (by omega) fg147 (by omega) (by omega) (by omega) d_M_multiply_353 (fun H locs hP hS => ?_)
                      obtain ⟨u168, hu169, hP⟩ : ∃ zz : Nat → va_E, zz = va_up w146 237 (lr ct 512 (zu R6 (((8) * ((8) + (2 * x))) + (i)) (R5 (480 + i)))) ∧ va_P D vwCl (wl N b zz) H := ⟨_, rfl, hP⟩
                      have ff170 : u168 236 = .inr (6, [.ref (b + 237), .ref (b + 238), .ref (b + 239), .ref (b + 240), .ref (b + 241), .ref (b + 242), .int (z0), .ref (b + 243), .int (iI (cnt)), .ref (b + 244), .ref (b + 245), .ref (b + 246), .ref (b + 247), .ref (b + 248), .ref (b + 249), .ref (b + 250), .ref (b + 251), .ref (b + 252), .ref (b + 253)]) := (congrFun hu169 _).trans ((up_n (by omega)).trans ff149)
                      have ff171 : u168 238 = ir ct 4 (pr) := (congrFun hu169 _).trans ((up_n (by omega)).trans ff150)
                      have ff172 : u168 239 = lr ct 4 (bg) := (congrFun hu169 _).trans ((up_n (by omega)).trans ff151)
                      have ff173 : u168 240 = lr ct 4 (ut) := (congrFun hu169 _).trans ((up_n (by omega)).trans ff152)
                      have ff174 : u168 241 = ir ct 8 (sc) := (congrFun hu169 _).trans ((up_n (by omega)).trans ff153)
                      have ff175 : u168 242 = ir ct 8 (sm) := (congrFun hu169 _).trans ((up_n (by omega)).trans ff154)
                      have ff176 : u168 243 = ir ct 8 (ms) := (congrFun hu169 _).trans ((up_n (by omega)).trans ff155)
                      have ff177 : u168 244 = ir ct 24 (kd) := (congrFun hu169 _).trans ((up_n (by omega)).trans ff156)
                      have ff178 : u168 245 = ir ct 24 (fi) := (congrFun hu169 _).trans ((up_n (by omega)).trans ff157)
                      have ff179 : u168 246 = ir ct 24 (se) := (congrFun hu169 _).trans ((up_n (by omega)).trans ff158)
                      have ff180 : u168 247 = ir ct 192 (pl) := (congrFun hu169 _).trans ((up_n (by omega)).trans ff159)
                      have ff181 : u168 248 = zr ct 24 (hs) := (congrFun hu169 _).trans ((up_n (by omega)).trans ff160)
                      have ff182 : u168 249 = ir ct 24 (lv) := (congrFun hu169 _).trans ((up_n (by omega)).trans ff161)
                      have ff183 : u168 250 = lr ct 24 (mt) := (congrFun hu169 _).trans ((up_n (by omega)).trans ff162)
                      have ff184 : u168 253 = lr ct 8 (vv) := (congrFun hu169 _).trans ((up_n (by omega)).trans ff163)
                      have ff185 : u168 251 = ir ct 2 (wv3) := (congrFun hu169 _).trans ((up_n (by omega)).trans ff164)
                      have ff186 : u168 252 = lr ct 2 (wm3) := (congrFun hu169 _).trans ((up_n (by omega)).trans ff165)
                      have ff187 : u168 237 = lr ct 512 (zu R6 (((8) * ((8) + (2 * x))) + (i)) (R5 (480 + i))) := (congrFun hu169 _).trans up_s
                      have fr188 : ∀ j : Nat, (j ≠ 237) → u168 j = ww5 j := fun j h0 => (congrFun hu169 j).trans ((up_n (by omega)).trans (fr148 j h0))
                      refine lv_iinc (k := 0) (v := iI (i + 1)) (lv' := [(8, .int (iI (i + 1))), (6, .long (lI (8 * pq.1.2.1 * pq.2.2.1 + 136 * sn (fun k => lq k - 1) jn))), (4, .long (lI (lQ pq.1.1))), (3, .int (iI (pq.1.1))), (0, .ref (b + 236)), (1, .int (iI (x)))]) hx hb d_M_multiply_354 hl rfl (iI_add _ _) (by decide) rfl (fun ls hl => ?_)
                      refine lv_goto (tgt := 319) hx hb d_M_multiply_357 (by decide) ?_
                      have hl : lv_has ls 10 [(8, .int (iI (i + 1))), (6, .long (lI (8 * pq.1.2.1 * pq.2.2.1 + 136 * sn (fun k => lq k - 1) jn))), (4, .long (lI (lQ pq.1.1))), (3, .int (iI (pq.1.1))), (0, .ref (b + 236)), (1, .int (iI (x)))] := lv_sub hl [0, 1, 2, 3, 4, 5] rfl
                      refine ihlc (i + 1) _ u168 H locs ls (by omega) (by omega) (by omega) (fun q h2 h3 => ?_) (fun j h2 => by rw [zu_n (by omega)]; exact hk6 j h2) ff187 fr188 hP hS hl
                      by_cases h4 : q = i
                      · rw [h4, zu_s]
                      · rw [zu_n (by omega)]; exact hg6 q h2 (by omega)
                exact lc 17 0 R5 w126 H locs ls (by omega) (by omega) (by omega) (fun q h2 h3 => by omega) (fun _ _ => rfl) fg127 fr128 hP hS hl
              · have hlq := lq_bd (jn : Int)
                have hle := lq_le_lQ (j := (jn : Int)) (l := pq.1.1) (by omega) (by omega) l3
                refine lv_iconst (v := iI (0)) hx hb d_M_multiply_218 rfl ?_
                refine lv_istore (lv' := [(9, .int (iI (0))), (8, .int (iI ((jn : Int)))), (6, .long (lI (8 * pq.1.2.1 * pq.2.2.1 + 136 * sn (fun k => lq k - 1) jn))), (4, .long (lI (lQ pq.1.1))), (3, .int (iI (pq.1.1))), (0, .ref (b + 236)), (1, .int (iI (x)))]) hx hb d_M_multiply_219 hl (by decide) rfl (fun ls hl => ?_)
                have hl : lv_has ls 10 [(9, .int (iI (0))), (8, .int (iI ((jn : Int)))), (6, .long (lI (8 * pq.1.2.1 * pq.2.2.1 + 136 * sn (fun k => lq k - 1) jn))), (4, .long (lI (lQ pq.1.1))), (3, .int (iI (pq.1.1))), (0, .ref (b + 236)), (1, .int (iI (x)))] := lv_sub hl [0, 1, 2, 3, 4, 5, 6] rfl
                have ld : ∀ (d4 : Nat) (i : Int) (R6 : Int → Int) (w189 : Nat → va_E) (H : Heap) (locs : List Loc) (ls : Array Slot), (0 ≤ i) → (i ≤ 8) → (8 - i < d4) → (∀ q : Int, 0 ≤ q → q < i → R6 (8 * 63 + q) = nc pq.1.2.2.2 pq.2.2.2.2 q % lq jn) → (∀ j : Int, (j < 504 ∨ 512 ≤ j) → R6 j = R5 j) → w189 237 = lr ct 512 (R6) → (∀ j : Nat, (j ≠ 237) → w189 j = ww5 j) → va_P D vwCl (wl N b w189) H → va_S (AA b) s.heap H locs → lv_has ls 10 [(9, .int (iI (i))), (8, .int (iI ((jn : Int)))), (6, .long (lI (8 * pq.1.2.1 * pq.2.2.1 + 136 * sn (fun k => lq k - 1) jn))), (4, .long (lI (lQ pq.1.1))), (3, .int (iI (pq.1.1))), (0, .ref (b + 236)), (1, .int (iI (x)))] → W p l e rm_c_multiply s m args below meth c H locs 0 0 Q (F0 m 221 ls []) := by
                  intro d4
                  induction d4 with
                  | zero => intro i R6 w189 H locs ls h0 h1 hdd hg6 hk6 fg190 fr191 hP hS hl; exfalso; omega
                  | succ d4 ihld =>
                    intro i R6 w189 H locs ls h0 h1 hdd hg6 hk6 fg190 fr191 hP hS hl
                    have ff192 : w189 236 = .inr (6, [.ref (b + 237), .ref (b + 238), .ref (b + 239), .ref (b + 240), .ref (b + 241), .ref (b + 242), .int (z0), .ref (b + 243), .int (iI (cnt)), .ref (b + 244), .ref (b + 245), .ref (b + 246), .ref (b + 247), .ref (b + 248), .ref (b + 249), .ref (b + 250), .ref (b + 251), .ref (b + 252), .ref (b + 253)]) := (fr191 236 (by omega)).trans ff10
                    have ff193 : w189 238 = ir ct 4 (pr) := (fr191 238 (by omega)).trans ff11
                    have ff194 : w189 239 = lr ct 4 (bg) := (fr191 239 (by omega)).trans ff12
                    have ff195 : w189 240 = lr ct 4 (ut) := (fr191 240 (by omega)).trans ff13
                    have ff196 : w189 241 = ir ct 8 (sc) := (fr191 241 (by omega)).trans ff14
                    have ff197 : w189 242 = ir ct 8 (sm) := (fr191 242 (by omega)).trans ff15
                    have ff198 : w189 243 = ir ct 8 (ms) := (fr191 243 (by omega)).trans ff16
                    have ff199 : w189 244 = ir ct 24 (kd) := (fr191 244 (by omega)).trans ff17
                    have ff200 : w189 245 = ir ct 24 (fi) := (fr191 245 (by omega)).trans ff18
                    have ff201 : w189 246 = ir ct 24 (se) := (fr191 246 (by omega)).trans ff19
                    have ff202 : w189 247 = ir ct 192 (pl) := (fr191 247 (by omega)).trans ff20
                    have ff203 : w189 248 = zr ct 24 (hs) := (fr191 248 (by omega)).trans ff21
                    have ff204 : w189 249 = ir ct 24 (lv) := (fr191 249 (by omega)).trans ff22
                    have ff205 : w189 250 = lr ct 24 (mt) := (fr191 250 (by omega)).trans ff23
                    have ff206 : w189 253 = lr ct 8 (vv) := (fr191 253 (by omega)).trans ff24
                    have ff207 : w189 251 = ir ct 2 (wv3) := (fr191 251 (by omega)).trans fg7
                    have ff208 : w189 252 = lr ct 2 (wm3) := (fr191 252 (by omega)).trans fg8
                    refine lv_iload hx hb d_M_multiply_221 (lv_at hl 0 rfl) ?_
                    refine lv_bipush (v := iI (8)) hx hb d_M_multiply_223 (by decide +kernel) ?_
                    refine x_icmp_ge (tgt := 265) hx hb ⟨by omega, by omega⟩ ⟨by omega, by omega⟩ d_M_multiply_225 (by decide) (fun hc => ?_) (fun hc => ?_)
                    · obtain rfl : i = 8 := by omega
                      have kB : ∀ j : Int, 0 ≤ j → j < 8 → R6 (8 * (4 + (jn : Int)) + j) = K.2.2 jn j := fun j h2 h3 => (hk6 _ (by omega)).trans ((k5 _ (by omega)).trans ((hR3 _ (by omega)).trans (hkR jn j (by omega) (by omega) h2 h3).2))
                      have kA : ∀ j : Int, 0 ≤ j → j < 8 → R6 (8 * (jn : Int) + j) = K.2.1 jn j := fun j h2 h3 => (hk6 _ (by omega)).trans ((k5 _ (by omega)).trans ((hR3 _ (by omega)).trans (hkR jn j (by omega) (by omega) h2 h3).1))
                      have dD : ∀ j : Int, 0 ≤ j → j < 8 → 0 ≤ R6 (8 * 63 + j) ∧ R6 (8 * 63 + j) < lQ pq.1.1 := fun j h2 h3 => by rw [hg6 j h2 h3]; have := mod_b (nc pq.1.2.2.2 pq.2.2.2.2 j) (lq_p jn); omega
                      refine lv_aload_n hx hb d_M_multiply_265 rfl (lv_at hl 5 rfl) ?_
                      refine lv_bipush (v := iI (60)) hx hb d_M_multiply_266 (by decide +kernel) ?_
                      refine lv_bipush (v := iI (63)) hx hb d_M_multiply_268 (by decide +kernel) ?_
                      refine lv_iconst (v := iI (4)) hx hb d_M_multiply_270 rfl ?_
                      refine lv_iload hx hb d_M_multiply_271 (lv_at hl 1 rfl) ?_
                      refine x_iadd hx hb d_M_multiply_273 ?_
                      refine lv_lload hx hb d_M_multiply_274 (lv_at hl 3 rfl) ?_
                      have q0 : ∀ i : Int, 0 ≤ i → i < 8 → R6 (8 * 60 + i) = _ := fun i h2 h3 => (hk6 _ (by omega)).trans (p0 i h2 h3)
                      have q1 : ∀ i : Int, 0 ≤ i → i < 8 → R6 (8 * 61 + i) = _ := fun i h2 h3 => (hk6 _ (by omega)).trans (p1 i h2 h3)
                      refine w_callv (va_runV (As := [.int (iI (60)), .int (iI (63)), .int (iI ((4) + ((jn : Int)))), .long (lI (lQ pq.1.1))]) (rest := []) ⟨hx, hb, hml, hown, hts⟩ (c_MaddProduct l D ct st ke b N w189 (by omega) z0 cnt ff192 R6 fg190 60 63 (4 + (jn : Int)) (lQ pq.1.1) (by decide) (by decide) (by decide) (by decide) (by omega) (by omega) (by decide) (by omega) (lQ_p _) (lQ_bd _).2 (fun j h2 h3 => by rw [q0 j h2 h3]; exact md_b _ _) (dD) (fun j h2 h3 => by rw [kB j h2 h3]; exact (okk.2 jn j (by omega) (by omega) h2 h3).2)) (cwV 4 hts (gV t_651 t_653 (tb_sel ((y_M_addProduct), 19) (List.mem_of_getElem? (i := 31) (by decide +kernel))) t_9 t_654) rfl rfl rfl (by decide +kernel) ⟨Nat.le_of_ble_eq_true rfl, Nat.le_of_ble_eq_true rfl⟩) (pre_V E hP hS (236) (by omega) ff192 rfl) rfl rfl hl.1 rfl (lv_room (Nat.le_of_ble_eq_true rfl)) d_M_multiply_276 ⟨(Nat.le_of_ble_eq_true rfl), (Nat.le_of_ble_eq_true rfl)⟩) hS (fun z209 H locs hz hP hS => ?_)
                      obtain ⟨sR, s1, s2, s3, s4⟩ := hz
                      have ff211 : z209 236 = .inr (6, [.ref (b + 237), .ref (b + 238), .ref (b + 239), .ref (b + 240), .ref (b + 241), .ref (b + 242), .int (z0), .ref (b + 243), .int (iI (cnt)), .ref (b + 244), .ref (b + 245), .ref (b + 246), .ref (b + 247), .ref (b + 248), .ref (b + 249), .ref (b + 250), .ref (b + 251), .ref (b + 252), .ref (b + 253)]) := (s4 236 (by omega)).trans ff192
                      have ff212 : z209 238 = ir ct 4 (pr) := (s4 238 (by omega)).trans ff193
                      have ff213 : z209 239 = lr ct 4 (bg) := (s4 239 (by omega)).trans ff194
                      have ff214 : z209 240 = lr ct 4 (ut) := (s4 240 (by omega)).trans ff195
                      have ff215 : z209 241 = ir ct 8 (sc) := (s4 241 (by omega)).trans ff196
                      have ff216 : z209 242 = ir ct 8 (sm) := (s4 242 (by omega)).trans ff197
                      have ff217 : z209 243 = ir ct 8 (ms) := (s4 243 (by omega)).trans ff198
                      have ff218 : z209 244 = ir ct 24 (kd) := (s4 244 (by omega)).trans ff199
                      have ff219 : z209 245 = ir ct 24 (fi) := (s4 245 (by omega)).trans ff200
                      have ff220 : z209 246 = ir ct 24 (se) := (s4 246 (by omega)).trans ff201
                      have ff221 : z209 247 = ir ct 192 (pl) := (s4 247 (by omega)).trans ff202
                      have ff222 : z209 248 = zr ct 24 (hs) := (s4 248 (by omega)).trans ff203
                      have ff223 : z209 249 = ir ct 24 (lv) := (s4 249 (by omega)).trans ff204
                      have ff224 : z209 250 = lr ct 24 (mt) := (s4 250 (by omega)).trans ff205
                      have ff225 : z209 253 = lr ct 8 (vv) := (s4 253 (by omega)).trans ff206
                      have ff226 : z209 251 = ir ct 2 (wv3) := (s4 251 (by omega)).trans ff207
                      have ff227 : z209 252 = lr ct 2 (wm3) := (s4 252 (by omega)).trans ff208
                      have fr228 : ∀ j : Nat, (j ≠ 237) → z209 j = ww5 j := fun j h0 => (s4 j (by omega)).trans (fr191 j h0)
                      refine lv_aload_n hx hb d_M_multiply_279 rfl (lv_at hl 5 rfl) ?_
                      refine lv_bipush (v := iI (61)) hx hb d_M_multiply_280 (by decide +kernel) ?_
                      refine lv_bipush (v := iI (63)) hx hb d_M_multiply_282 (by decide +kernel) ?_
                      refine lv_iload hx hb d_M_multiply_284 (lv_at hl 1 rfl) ?_
                      refine lv_lload hx hb d_M_multiply_286 (lv_at hl 3 rfl) ?_
                      refine w_callv (va_runV (As := [.int (iI (61)), .int (iI (63)), .int (iI ((jn : Int))), .long (lI (lQ pq.1.1))]) (rest := []) ⟨hx, hb, hml, hown, hts⟩ (c_MaddProduct l D ct st ke b N z209 (by omega) z0 cnt ff211 sR s1 61 63 (jn : Int) (lQ pq.1.1) (by decide) (by decide) (by decide) (by decide) (by omega) (by omega) (by decide) (by omega) (lQ_p _) (lQ_bd _).2 (fun j h2 h3 => by rw [s3 _ (by omega), q1 j h2 h3]; exact md_b _ _) (fun j h2 h3 => by rw [s3 _ (by omega)]; exact dD j h2 h3) (fun j h2 h3 => by rw [s3 _ (by omega), kA j h2 h3]; exact (okk.2 jn j (by omega) (by omega) h2 h3).1)) (cwV 4 hts (gV t_651 t_653 (tb_sel ((y_M_addProduct), 19) (List.mem_of_getElem? (i := 31) (by decide +kernel))) t_9 t_654) rfl rfl rfl (by decide +kernel) ⟨Nat.le_of_ble_eq_true rfl, Nat.le_of_ble_eq_true rfl⟩) (pre_V E hP hS (236) (by omega) ff211 rfl) rfl rfl hl.1 rfl (lv_room (Nat.le_of_ble_eq_true rfl)) d_M_multiply_288 ⟨(Nat.le_of_ble_eq_true rfl), (Nat.le_of_ble_eq_true rfl)⟩) hS (fun z229 H locs hz hP hS => ?_)
                      obtain ⟨tR, t1, t2, t3, t4⟩ := hz
                      have ff231 : z229 236 = .inr (6, [.ref (b + 237), .ref (b + 238), .ref (b + 239), .ref (b + 240), .ref (b + 241), .ref (b + 242), .int (z0), .ref (b + 243), .int (iI (cnt)), .ref (b + 244), .ref (b + 245), .ref (b + 246), .ref (b + 247), .ref (b + 248), .ref (b + 249), .ref (b + 250), .ref (b + 251), .ref (b + 252), .ref (b + 253)]) := (t4 236 (by omega)).trans ff211
                      have ff232 : z229 238 = ir ct 4 (pr) := (t4 238 (by omega)).trans ff212
                      have ff233 : z229 239 = lr ct 4 (bg) := (t4 239 (by omega)).trans ff213
                      have ff234 : z229 240 = lr ct 4 (ut) := (t4 240 (by omega)).trans ff214
                      have ff235 : z229 241 = ir ct 8 (sc) := (t4 241 (by omega)).trans ff215
                      have ff236 : z229 242 = ir ct 8 (sm) := (t4 242 (by omega)).trans ff216
                      have ff237 : z229 243 = ir ct 8 (ms) := (t4 243 (by omega)).trans ff217
                      have ff238 : z229 244 = ir ct 24 (kd) := (t4 244 (by omega)).trans ff218
                      have ff239 : z229 245 = ir ct 24 (fi) := (t4 245 (by omega)).trans ff219
                      have ff240 : z229 246 = ir ct 24 (se) := (t4 246 (by omega)).trans ff220
                      have ff241 : z229 247 = ir ct 192 (pl) := (t4 247 (by omega)).trans ff221
                      have ff242 : z229 248 = zr ct 24 (hs) := (t4 248 (by omega)).trans ff222
                      have ff243 : z229 249 = ir ct 24 (lv) := (t4 249 (by omega)).trans ff223
                      have ff244 : z229 250 = lr ct 24 (mt) := (t4 250 (by omega)).trans ff224
                      have ff245 : z229 253 = lr ct 8 (vv) := (t4 253 (by omega)).trans ff225
                      have ff246 : z229 251 = ir ct 2 (wv3) := (t4 251 (by omega)).trans ff226
                      have ff247 : z229 252 = lr ct 2 (wm3) := (t4 252 (by omega)).trans ff227
                      have fr248 : ∀ j : Nat, (j ≠ 237) → z229 j = ww5 j := fun j h0 => (t4 j (by omega)).trans (fr228 j h0)
                      refine lv_lload hx hb d_M_multiply_291 (lv_at hl 2 rfl) ?_
                      refine lv_ldc2 hx hb hown kk8 d_M_multiply_293 ?_
                      refine x_l (y := lI (136)) (by decide +kernel) ?_
                      refine lv_aload_n hx hb d_M_multiply_296 rfl (lv_at hl 5 rfl) ?_
                      refine w_get (C := "LevelledRingModel") (T := T_M) (M := 19) hx hb hts hinM hown hK hP (236) (by omega) ff231 rfl 1 (by decide) kk9 (fun _ h => h) rfl d_M_multiply_297 ?_
                      refine lv_iload hx hb d_M_multiply_300 (lv_at hl 1 rfl) ?_
                      refine w_iald hx hb hK hP (238) (by omega) ff232 (by omega) (by omega) (by omega) d_M_multiply_302 ?_
                      refine x_ie (y := lq jn) (hp2 _ (by omega) (by omega)) ?_
                      refine lv_iconst (v := iI (1)) hx hb d_M_multiply_303 rfl ?_
                      refine x_isub hx hb d_M_multiply_304 ?_
                      refine x_i2l hx hb ⟨by omega, by omega⟩ d_M_multiply_305 ?_
                      refine x_lmul hx hb d_M_multiply_306 ?_
                      refine x_ladd hx hb d_M_multiply_307 ?_
                      refine x_le (y := 8 * pq.1.2.1 * pq.2.2.1 + 136 * sn (fun k => lq k - 1) (jn + 1)) (by show _ = _ + 136 * (sn (fun k => lq k - 1) jn + (lq jn - 1)); omega) ?_
                      refine lv_lstore (lv' := [(6, .long (lI (8 * pq.1.2.1 * pq.2.2.1 + 136 * sn (fun k => lq k - 1) (jn + 1)))), (9, .int (iI ((8 : Int)))), (8, .int (iI ((jn : Int)))), (4, .long (lI (lQ pq.1.1))), (3, .int (iI (pq.1.1))), (0, .ref (b + 236)), (1, .int (iI (x)))]) hx hb d_M_multiply_308 hl (by decide) rfl (fun ls hl => ?_)
                      refine lv_iinc (k := 2) (v := iI ((jn : Int) + 1)) (lv' := [(8, .int (iI ((jn : Int) + 1))), (6, .long (lI (8 * pq.1.2.1 * pq.2.2.1 + 136 * sn (fun k => lq k - 1) (jn + 1)))), (9, .int (iI ((8 : Int)))), (4, .long (lI (lQ pq.1.1))), (3, .int (iI (pq.1.1))), (0, .ref (b + 236)), (1, .int (iI (x)))]) hx hb d_M_multiply_310 hl rfl (iI_add _ _) (by decide) rfl (fun ls hl => ?_)
                      have hl : lv_has ls 10 [(8, .int (iI (((jn + 1 : Nat) : Int)))), (6, .long (lI (8 * pq.1.2.1 * pq.2.2.1 + 136 * sn (fun k => lq k - 1) (jn + 1)))), (9, .int (iI ((8 : Int)))), (4, .long (lI (lQ pq.1.1))), (3, .int (iI (pq.1.1))), (0, .ref (b + 236)), (1, .int (iI (x)))] := by rw [show ((jn + 1 : Nat) : Int) = (jn : Int) + 1 from by omega]; exact hl
                      have hl : lv_has ls 10 [(8, .int (iI (((jn + 1 : Nat) : Int)))), (6, .long (lI (8 * pq.1.2.1 * pq.2.2.1 + 136 * sn (fun k => lq k - 1) (jn + 1)))), (4, .long (lI (lQ pq.1.1))), (3, .int (iI (pq.1.1))), (0, .ref (b + 236)), (1, .int (iI (x)))] := lv_sub hl [0, 1, 3, 4, 5, 6] rfl
                      refine lv_goto (tgt := 212) hx hb d_M_multiply_313 (by decide) ?_
                      refine ihlj (jn + 1) _ z229 H locs ls (by omega) (by omega) (fun j h => (t3 j (by omega)).trans ((s3 j (by omega)).trans ((hk6 j (by omega)).trans (k5 j h)))) (fun i h2 h3 => ?_) (fun i h2 h3 => ?_) (fun i h2 h3 => (t3 _ (by omega)).trans ((s3 _ (by omega)).trans ((hk6 _ (by omega)).trans (p2 i h2 h3)))) t1 fr248 hP hS hl
                      · rw [t3 _ (by omega), s2 i h2 h3, q0 i h2 h3, nc_eq (X1 := fun i => nc pq.1.2.2.2 pq.2.2.2.2 i % lq jn) (Y1 := K.2.2 jn) (fun j h4 h5 => hg6 j h4 h5) (fun j h4 h5 => kB j h4 h5) h2 h3, add_md, Int.add_assoc]; rfl
                      · rw [t2 i h2 h3, s3 _ (by omega), q1 i h2 h3, nc_eq (X1 := fun i => nc pq.1.2.2.2 pq.2.2.2.2 i % lq jn) (Y1 := K.2.1 jn) (fun j h4 h5 => (s3 _ (by omega)).trans (hg6 j h4 h5)) (fun j h4 h5 => (s3 _ (by omega)).trans (kA j h4 h5)) h2 h3, add_md, Int.add_assoc]; rfl
                    · have em : nc pq.1.2.2.2 pq.2.2.2.2 i % lQ pq.1.1 % lq jn = nc pq.1.2.2.2 pq.2.2.2.2 i % lq jn := Int.emod_emod_of_dvd _ (lq_dvd (by omega) (by omega) l3)
                      have bm := md_b (nc pq.1.2.2.2 pq.2.2.2.2 i) pq.1.1
                      refine lv_aload_n hx hb d_M_multiply_228 rfl (lv_at hl 5 rfl) ?_
                      refine w_get (C := "LevelledRingModel") (T := T_M) (M := 19) hx hb hts hinM hown hK hP (236) (by omega) ff192 rfl 0 (by decide) kk7 (fun _ h => h) rfl d_M_multiply_229 ?_
                      refine lv_sipush (v := iI (504)) hx hb d_M_multiply_232 (by decide +kernel) ?_
                      refine lv_iload hx hb d_M_multiply_235 (lv_at hl 0 rfl) ?_
                      refine x_iadd hx hb d_M_multiply_237 ?_
                      refine lv_aload_n hx hb d_M_multiply_238 rfl (lv_at hl 5 rfl) ?_
                      refine w_get (C := "LevelledRingModel") (T := T_M) (M := 19) hx hb hts hinM hown hK hP (236) (by omega) ff192 rfl 0 (by decide) kk7 (fun _ h => h) rfl d_M_multiply_239 ?_
                      refine lv_sipush (v := iI (496)) hx hb d_M_multiply_242 (by decide +kernel) ?_
                      refine lv_iload hx hb d_M_multiply_245 (lv_at hl 0 rfl) ?_
                      refine x_iadd hx hb d_M_multiply_247 ?_
                      refine w_lald hx hb hK hP (237) (by omega) fg190 (by omega) (by omega) (by omega) d_M_multiply_248 ?_
                      refine x_le (y := nc pq.1.2.2.2 pq.2.2.2.2 i % lQ pq.1.1) ((hk6 _ (by omega)).trans (by rw [show 496 + i = 8 * 62 + i by omega]; exact p2 i h0 (by omega))) ?_
                      refine lv_aload_n hx hb d_M_multiply_249 rfl (lv_at hl 5 rfl) ?_
                      refine w_get (C := "LevelledRingModel") (T := T_M) (M := 19) hx hb hts hinM hown hK hP (236) (by omega) ff192 rfl 1 (by decide) kk9 (fun _ h => h) rfl d_M_multiply_250 ?_
                      refine lv_iload hx hb d_M_multiply_253 (lv_at hl 1 rfl) ?_
                      refine w_iald hx hb hK hP (238) (by omega) ff193 (by omega) (by omega) (by omega) d_M_multiply_255 ?_
                      refine x_ie (y := lq jn) (hp2 _ (by omega) (by omega)) ?_
                      refine x_i2l hx hb ⟨by omega, by omega⟩ d_M_multiply_256 ?_
                      refine x_lremP hx hb ⟨by omega, by omega⟩ (lq_r6 _) (lq_p _) bm.1 d_M_multiply_257 ?_
                      refine x_le (y := nc pq.1.2.2.2 pq.2.2.2.2 i % lq jn) (em) ?_
                      refine w_last hx hb hK hP hS (237) (by omega) fg190 (by omega) (by omega) (by omega) d_M_multiply_258 (fun H locs hP hS => ?_)
                      obtain ⟨u249, hu250, hP⟩ : ∃ zz : Nat → va_E, zz = va_up w189 237 (lr ct 512 (zu R6 (504 + i) (nc pq.1.2.2.2 pq.2.2.2.2 i % lq jn))) ∧ va_P D vwCl (wl N b zz) H := ⟨_, rfl, hP⟩
                      have ff251 : u249 236 = .inr (6, [.ref (b + 237), .ref (b + 238), .ref (b + 239), .ref (b + 240), .ref (b + 241), .ref (b + 242), .int (z0), .ref (b + 243), .int (iI (cnt)), .ref (b + 244), .ref (b + 245), .ref (b + 246), .ref (b + 247), .ref (b + 248), .ref (b + 249), .ref (b + 250), .ref (b + 251), .ref (b + 252), .ref (b + 253)]) := (congrFun hu250 _).trans ((up_n (by omega)).trans ff192)
                      have ff252 : u249 238 = ir ct 4 (pr) := (congrFun hu250 _).trans ((up_n (by omega)).trans ff193)
                      have ff253 : u249 239 = lr ct 4 (bg) := (congrFun hu250 _).trans ((up_n (by omega)).trans ff194)
                      have ff254 : u249 240 = lr ct 4 (ut) := (congrFun hu250 _).trans ((up_n (by omega)).trans ff195)
                      have ff255 : u249 241 = ir ct 8 (sc) := (congrFun hu250 _).trans ((up_n (by omega)).trans ff196)
                      have ff256 : u249 242 = ir ct 8 (sm) := (congrFun hu250 _).trans ((up_n (by omega)).trans ff197)
                      have ff257 : u249 243 = ir ct 8 (ms) := (congrFun hu250 _).trans ((up_n (by omega)).trans ff198)
                      have ff258 : u249 244 = ir ct 24 (kd) := (congrFun hu250 _).trans ((up_n (by omega)).trans ff199)
                      have ff259 : u249 245 = ir ct 24 (fi) := (congrFun hu250 _).trans ((up_n (by omega)).trans ff200)
                      have ff260 : u249 246 = ir ct 24 (se) := (congrFun hu250 _).trans ((up_n (by omega)).trans ff201)
                      have ff261 : u249 247 = ir ct 192 (pl) := (congrFun hu250 _).trans ((up_n (by omega)).trans ff202)
                      have ff262 : u249 248 = zr ct 24 (hs) := (congrFun hu250 _).trans ((up_n (by omega)).trans ff203)
                      have ff263 : u249 249 = ir ct 24 (lv) := (congrFun hu250 _).trans ((up_n (by omega)).trans ff204)
                      have ff264 : u249 250 = lr ct 24 (mt) := (congrFun hu250 _).trans ((up_n (by omega)).trans ff205)
                      have ff265 : u249 253 = lr ct 8 (vv) := (congrFun hu250 _).trans ((up_n (by omega)).trans ff206)
                      have ff266 : u249 251 = ir ct 2 (wv3) := (congrFun hu250 _).trans ((up_n (by omega)).trans ff207)
                      have ff267 : u249 252 = lr ct 2 (wm3) := (congrFun hu250 _).trans ((up_n (by omega)).trans ff208)
                      have ff268 : u249 237 = lr ct 512 (zu R6 (504 + i) (nc pq.1.2.2.2 pq.2.2.2.2 i % lq jn)) := (congrFun hu250 _).trans up_s
                      have fr269 : ∀ j : Nat, (j ≠ 237) → u249 j = ww5 j := fun j h0 => (congrFun hu250 j).trans ((up_n (by omega)).trans (fr191 j h0))
                      refine lv_iinc (k := 0) (v := iI (i + 1)) (lv' := [(9, .int (iI (i + 1))), (8, .int (iI ((jn : Int)))), (6, .long (lI (8 * pq.1.2.1 * pq.2.2.1 + 136 * sn (fun k => lq k - 1) jn))), (4, .long (lI (lQ pq.1.1))), (3, .int (iI (pq.1.1))), (0, .ref (b + 236)), (1, .int (iI (x)))]) hx hb d_M_multiply_259 hl rfl (iI_add _ _) (by decide) rfl (fun ls hl => ?_)
                      refine lv_goto (tgt := 221) hx hb d_M_multiply_262 (by decide) ?_
                      have hl : lv_has ls 10 [(9, .int (iI (i + 1))), (8, .int (iI ((jn : Int)))), (6, .long (lI (8 * pq.1.2.1 * pq.2.2.1 + 136 * sn (fun k => lq k - 1) jn))), (4, .long (lI (lQ pq.1.1))), (3, .int (iI (pq.1.1))), (0, .ref (b + 236)), (1, .int (iI (x)))] := lv_sub hl [0, 1, 2, 3, 4, 5, 6] rfl
                      refine ihld (i + 1) _ u249 H locs ls (by omega) (by omega) (by omega) (fun q h2 h3 => ?_) (fun j h2 => by rw [zu_n (by omega)]; exact hk6 j h2) ff268 fr269 hP hS hl
                      by_cases h4 : q = i
                      · rw [h4, show 8 * 63 + i = 504 + i by omega, zu_s]
                      · rw [zu_n (by omega)]; exact hg6 q h2 (by omega)
                exact ld 9 0 R5 w126 H locs ls (by omega) (by omega) (by omega) (fun q h2 h3 => by omega) (fun _ _ => rfl) fg127 fr128 hP hS hl
          exact lj (pq.1.1 + 2).toNat 0 fR z106 H locs ls (by omega) (by omega) fk (fun i h2 h3 => by rw [f60 i h2 h3]; show _ = (nc pq.1.2.2.1 pq.2.2.2.1 i + 0) % _; rw [Int.add_zero]) (fun i h2 h3 => by rw [f61 i h2 h3]; show _ = (nc pq.1.2.2.1 pq.2.2.2.2 i + nc pq.1.2.2.2 pq.2.2.2.1 i + 0) % _; rw [Int.add_zero]) f62 f1 fr125 hP hS hl
        · refine lv_aload_n hx hb d_M_multiply_124 rfl (lv_at hl 3 rfl) ?_
          refine w_get (C := "LevelledRingModel") (T := T_M) (M := 19) hx hb hts hinM hown hK hP (236) (by omega) ff29 rfl 0 (by decide) kk7 (fun _ h => h) rfl d_M_multiply_125 ?_
          refine lv_sipush (v := iI (480)) hx hb d_M_multiply_128 (by decide +kernel) ?_
          refine lv_iload hx hb d_M_multiply_131 (lv_at hl 0 rfl) ?_
          refine x_iadd hx hb d_M_multiply_133 ?_
          refine lv_lconst (v := lI 0) hx hb d_M_multiply_134 rfl ?_
          refine w_last hx hb hK hP hS (237) (by omega) fg27 (by omega) (by omega) (by omega) d_M_multiply_135 (fun H locs hP hS => ?_)
          obtain ⟨u270, hu271, hP⟩ : ∃ zz : Nat → va_E, zz = va_up w26 237 (lr ct 512 (zu R4 (480 + i) (0))) ∧ va_P D vwCl (wl N b zz) H := ⟨_, rfl, hP⟩
          have ff272 : u270 236 = .inr (6, [.ref (b + 237), .ref (b + 238), .ref (b + 239), .ref (b + 240), .ref (b + 241), .ref (b + 242), .int (z0), .ref (b + 243), .int (iI (cnt)), .ref (b + 244), .ref (b + 245), .ref (b + 246), .ref (b + 247), .ref (b + 248), .ref (b + 249), .ref (b + 250), .ref (b + 251), .ref (b + 252), .ref (b + 253)]) := (congrFun hu271 _).trans ((up_n (by omega)).trans ff29)
          have ff273 : u270 238 = ir ct 4 (pr) := (congrFun hu271 _).trans ((up_n (by omega)).trans ff30)
          have ff274 : u270 239 = lr ct 4 (bg) := (congrFun hu271 _).trans ((up_n (by omega)).trans ff31)
          have ff275 : u270 240 = lr ct 4 (ut) := (congrFun hu271 _).trans ((up_n (by omega)).trans ff32)
          have ff276 : u270 241 = ir ct 8 (sc) := (congrFun hu271 _).trans ((up_n (by omega)).trans ff33)
          have ff277 : u270 242 = ir ct 8 (sm) := (congrFun hu271 _).trans ((up_n (by omega)).trans ff34)
          have ff278 : u270 243 = ir ct 8 (ms) := (congrFun hu271 _).trans ((up_n (by omega)).trans ff35)
          have ff279 : u270 244 = ir ct 24 (kd) := (congrFun hu271 _).trans ((up_n (by omega)).trans ff36)
          have ff280 : u270 245 = ir ct 24 (fi) := (congrFun hu271 _).trans ((up_n (by omega)).trans ff37)
          have ff281 : u270 246 = ir ct 24 (se) := (congrFun hu271 _).trans ((up_n (by omega)).trans ff38)
          have ff282 : u270 247 = ir ct 192 (pl) := (congrFun hu271 _).trans ((up_n (by omega)).trans ff39)
          have ff283 : u270 248 = zr ct 24 (hs) := (congrFun hu271 _).trans ((up_n (by omega)).trans ff40)
          have ff284 : u270 249 = ir ct 24 (lv) := (congrFun hu271 _).trans ((up_n (by omega)).trans ff41)
          have ff285 : u270 250 = lr ct 24 (mt) := (congrFun hu271 _).trans ((up_n (by omega)).trans ff42)
          have ff286 : u270 253 = lr ct 8 (vv) := (congrFun hu271 _).trans ((up_n (by omega)).trans ff43)
          have ff287 : u270 251 = ir ct 2 (wv3) := (congrFun hu271 _).trans ((up_n (by omega)).trans ff44)
          have ff288 : u270 252 = lr ct 2 (wm3) := (congrFun hu271 _).trans ((up_n (by omega)).trans ff45)
          have ff289 : u270 237 = lr ct 512 (zu R4 (480 + i) (0)) := (congrFun hu271 _).trans up_s
          have fr290 : ∀ j : Nat, (j ≠ 237) → u270 j = ww5 j := fun j h0 => (congrFun hu271 j).trans ((up_n (by omega)).trans (fr28 j h0))
          refine lv_iinc (k := 0) (v := iI (i + 1)) (lv' := [(6, .int (iI (i + 1))), (4, .long (lI (lQ pq.1.1))), (3, .int (iI (pq.1.1))), (0, .ref (b + 236)), (1, .int (iI (x)))]) hx hb d_M_multiply_136 hl rfl (iI_add _ _) (by decide) rfl (fun ls hl => ?_)
          refine lv_goto (tgt := 117) hx hb d_M_multiply_139 (by decide) ?_
          have hl : lv_has ls 10 [(6, .int (iI (i + 1))), (4, .long (lI (lQ pq.1.1))), (3, .int (iI (pq.1.1))), (0, .ref (b + 236)), (1, .int (iI (x)))] := lv_sub hl [0, 1, 2, 3, 4] rfl
          refine ihlz (i + 1) _ u270 H locs ls (by omega) (by omega) (by omega) (fun q h2 h3 => ?_) (fun j h2 => by rw [zu_n (by omega)]; exact hk j h2) ff289 fr290 hP hS hl
          by_cases h4 : q = i
          · rw [h4, zu_s]
          · rw [zu_n (by omega)]; exact hg q h2 (by omega)
    exact lz 25 0 R3 ww5 H locs ls (by omega) (by omega) (by omega) (fun q h2 h3 => by omega) (fun _ _ => rfl) fg6 fr25 hP hS hl
  obtain ⟨gd, hgd⟩ : ∃ gd : Int, r = iI gd ∧ (gd = 0 ∨ gd = 1) := by rcases hz with ⟨_, _, h, _⟩ | ⟨_, h⟩; (exact ⟨1, h, Or.inr rfl⟩); (exact ⟨0, h, Or.inl rfl⟩)
  obtain ⟨rfl, hg01⟩ := hgd
  refine lv_istore_n (lv' := [(2, .int (iI (gd))), (0, .ref (b + 236)), (1, .int (iI (x)))]) hx hb d_M_multiply_16 rfl hl (by decide) rfl (fun ls hl => ?_)
  refine lv_iconst (v := iI (0)) hx hb d_M_multiply_17 rfl ?_
  refine lv_istore_n (lv' := [(3, .int (iI (0))), (2, .int (iI (gd))), (0, .ref (b + 236)), (1, .int (iI (x)))]) hx hb d_M_multiply_18 rfl hl (by decide) rfl (fun ls hl => ?_)
  have hl : lv_has ls 10 [(3, .int (iI (0))), (2, .int (iI (gd))), (0, .ref (b + 236)), (1, .int (iI (x)))] := lv_sub hl [0, 1, 2, 3] rfl
  have lq9 : ∀ (d : Nat) (kk : Int) (gd : Int) (R3 : Int → Int) (wv3 : Int → Int) (wm3 : Int → Int) (pq : V2) (f : Nat) (w291 : Nat → va_E) (H : Heap) (locs : List Loc) (ls : Array Slot), (0 ≤ kk) → (kk ≤ 4) → (4 - kk < d) → (∀ j : Int, j < 448 → R3 j = R j) → ((gd = 1 ∧ WV R3 wv3 wm3 0 pq.1 ∧ WV R3 wv3 wm3 1 pq.2 ∧ okW pq.1 ∧ okW pq.2 ∧ pq.1.1 = pq.2.1 ∧ (qt f pq).bind (prV K) = o ∧ pq.1.1 < f ∧ kk + f = 4) ∨ (gd = 0 ∧ o = none)) → w291 237 = lr ct 512 (R3) → w291 251 = ir ct 2 (wv3) → w291 252 = lr ct 2 (wm3) → (∀ j : Nat, (j ≠ 237) → (j ≠ 251) → (j ≠ 252) → w291 j = z1 j) → va_P D vwCl (wl N b w291) H → va_S (AA b) s.heap H locs → lv_has ls 10 [(3, .int (iI (kk))), (2, .int (iI (gd))), (0, .ref (b + 236)), (1, .int (iI (x)))] → W p l e rm_c_multiply s m args below meth c H locs 0 0 Q (F0 m 19 ls []) := by
    intro d
    induction d with
    | zero => intro kk gd R3 wv3 wm3 pq f w291 H locs ls h0 hk4 hd hR hst fg292 fg293 fg294 fr295 hP hS hl; exfalso; omega
    | succ d ihlq9 =>
      intro kk gd R3 wv3 wm3 pq f w291 H locs ls h0 hk4 hd hR hst fg292 fg293 fg294 fr295 hP hS hl
      have ff296 : w291 236 = .inr (6, [.ref (b + 237), .ref (b + 238), .ref (b + 239), .ref (b + 240), .ref (b + 241), .ref (b + 242), .int (z0), .ref (b + 243), .int (iI (cnt)), .ref (b + 244), .ref (b + 245), .ref (b + 246), .ref (b + 247), .ref (b + 248), .ref (b + 249), .ref (b + 250), .ref (b + 251), .ref (b + 252), .ref (b + 253)]) := (fr295 236 (by omega) (by omega) (by omega)).trans q2M
      have ff297 : w291 238 = ir ct 4 (pr) := (fr295 238 (by omega) (by omega) (by omega)).trans hp1
      have ff298 : w291 239 = lr ct 4 (bg) := (fr295 239 (by omega) (by omega) (by omega)).trans hb1
      have ff299 : w291 240 = lr ct 4 (ut) := (fr295 240 (by omega) (by omega) (by omega)).trans hut1
      have ff300 : w291 241 = ir ct 8 (sc) := (fr295 241 (by omega) (by omega) (by omega)).trans hs1
      have ff301 : w291 242 = ir ct 8 (sm) := (fr295 242 (by omega) (by omega) (by omega)).trans q2m1
      have ff302 : w291 243 = ir ct 8 (ms) := (fr295 243 (by omega) (by omega) (by omega)).trans q2m2
      have ff303 : w291 244 = ir ct 24 (kd) := (fr295 244 (by omega) (by omega) (by omega)).trans q2m3
      have ff304 : w291 245 = ir ct 24 (fi) := (fr295 245 (by omega) (by omega) (by omega)).trans q2m4
      have ff305 : w291 246 = ir ct 24 (se) := (fr295 246 (by omega) (by omega) (by omega)).trans q2m5
      have ff306 : w291 247 = ir ct 192 (pl) := (fr295 247 (by omega) (by omega) (by omega)).trans q2m6
      have ff307 : w291 248 = zr ct 24 (hs) := (fr295 248 (by omega) (by omega) (by omega)).trans q2m7
      have ff308 : w291 249 = ir ct 24 (lv) := (fr295 249 (by omega) (by omega) (by omega)).trans q2m8
      have ff309 : w291 250 = lr ct 24 (mt) := (fr295 250 (by omega) (by omega) (by omega)).trans q2m9
      have ff310 : w291 253 = lr ct 8 (vv) := (fr295 253 (by omega) (by omega) (by omega)).trans q2m12
      have hg01 : gd = 0 ∨ gd = 1 := by rcases hst with h | h; (exact Or.inr h.1); (exact Or.inl h.1)
      refine lv_iload_n hx hb d_M_multiply_19 rfl (lv_at hl 0 rfl) ?_
      refine lv_iconst (v := iI (4)) hx hb d_M_multiply_20 rfl ?_
      refine x_icmp_ge (tgt := 93) hx hb ⟨by omega, by omega⟩ ⟨by omega, by omega⟩ d_M_multiply_21 (by decide) (fun hc => ?_) (fun hc => ?_)
      · rcases hst with ⟨s1, s2, s3, s4, s5, s6, s7, s8, s9⟩ | ⟨s1, s2⟩
        · exfalso; have := s4.1.1; omega
        subst s1
        refine lv_iload_n hx hb d_M_multiply_93 rfl (lv_at hl 1 rfl) ?_
        refine x_if_ne (tgt := 99) hx hb ⟨by omega, by omega⟩ d_M_multiply_94 (by decide) (fun hc => by exfalso; omega) (fun hc => ?_)
        refine lv_iconst (v := iI (0)) hx hb d_M_multiply_97 rfl ?_
        exact ret 0 w291 H locs 98 ls (Or.inl rfl) ⟨⟨z0, R3, sm, hs, lv, mt, wv3, wm3, ⟨ff296, ⟨⟨pr, ff297, hp2⟩, ⟨bg, ff298, hb2⟩, ut, ff299, hut2⟩, ⟨sc, ff300, hs2⟩, fg292, ff301, ff302, ff303, ff304, ff305, ff306, ff307, ff308, ff309, fg293, fg294, ff310⟩, fun j h1 h2 => hR j h1, fun y hy => ⟨rfl, rfl, rfl⟩, Or.inr ⟨by rw [← hO]; exact s2, rfl, hh0⟩⟩, fun j h => (fr295 j (by omega) (by omega) (by omega)).trans (fr3 j h)⟩ hP hS d_M_multiply_98
      · refine lv_iload_n hx hb d_M_multiply_24 rfl (lv_at hl 1 rfl) ?_
        refine x_if_eq (tgt := 93) hx hb ⟨by omega, by omega⟩ d_M_multiply_25 (by decide) (fun hc => ?_) (fun hc => ?_)
        · rcases hst with ⟨s1, s2, s3, s4, s5, s6, s7, s8, s9⟩ | ⟨s1, s2⟩
          · exfalso; omega
          subst s1
          refine lv_iload_n hx hb d_M_multiply_93 rfl (lv_at hl 1 rfl) ?_
          refine x_if_ne (tgt := 99) hx hb ⟨by omega, by omega⟩ d_M_multiply_94 (by decide) (fun hc => by exfalso; omega) (fun hc => ?_)
          refine lv_iconst (v := iI (0)) hx hb d_M_multiply_97 rfl ?_
          exact ret 0 w291 H locs 98 ls (Or.inl rfl) ⟨⟨z0, R3, sm, hs, lv, mt, wv3, wm3, ⟨ff296, ⟨⟨pr, ff297, hp2⟩, ⟨bg, ff298, hb2⟩, ut, ff299, hut2⟩, ⟨sc, ff300, hs2⟩, fg292, ff301, ff302, ff303, ff304, ff305, ff306, ff307, ff308, ff309, fg293, fg294, ff310⟩, fun j h1 h2 => hR j h1, fun y hy => ⟨rfl, rfl, rfl⟩, Or.inr ⟨by rw [← hO]; exact s2, rfl, hh0⟩⟩, fun j h => (fr295 j (by omega) (by omega) (by omega)).trans (fr3 j h)⟩ hP hS d_M_multiply_98
        · rcases hst with ⟨s1, s2, s3, s4, s5, s6, s7, s8, s9⟩ | ⟨s1, s2⟩
          · subst s1
            have la0 := s4.1.1
            have la3 := s4.1.2.1
            have mb1 := s4.1.bd
            have mb2 := s5.1.bd
            have mz1 := s4.1.2.2.1
            have mz2 := s5.1.2.2.1
            refine lv_aload_n hx hb d_M_multiply_28 rfl (lv_at hl 2 rfl) ?_
            refine w_get (C := "LevelledRingModel") (T := T_M) (M := 19) hx hb hts hinM hown hK hP (236) (by omega) ff296 rfl 16 (by decide) kk3 (fun _ h => h) rfl d_M_multiply_29 ?_
            refine lv_iconst (v := iI (0)) hx hb d_M_multiply_32 rfl ?_
            refine w_iald hx hb hK hP (251) (by omega) fg293 (by omega) (by omega) (by omega) d_M_multiply_33 ?_
            refine x_ie (y := pq.1.1) (s2.1) ?_
            refine x_if_le (tgt := 93) hx hb ⟨by omega, by omega⟩ d_M_multiply_34 (by decide) (fun hc => ?_) (fun hc => ?_)
            · have hqx : qt f pq = some pq := qt_x (by omega) (by omega)
              have hqu := qt_ok f s4.1 s5.1 s6 s8 hqx
              rw [hqx] at s7
              refine lv_iload_n hx hb d_M_multiply_93 rfl (lv_at hl 1 rfl) ?_
              refine x_if_ne (tgt := 99) hx hb ⟨by omega, by omega⟩ d_M_multiply_94 (by decide) (fun hc => ?_) (fun hc => by exfalso; omega)
              have hl : lv_has ls 10 [(0, .ref (b + 236)), (1, .int (iI (x)))] := lv_sub hl [2, 3] rfl
              exact tl R3 wv3 wm3 pq w291 H locs ls hR s2 s3 s4 s5 hqu s7 fg292 fg293 fg294 fr295 hP hS hl
            · refine lv_aload_n hx hb d_M_multiply_37 rfl (lv_at hl 2 rfl) ?_
              refine w_get (C := "LevelledRingModel") (T := T_M) (M := 19) hx hb hts hinM hown hK hP (236) (by omega) ff296 rfl 17 (by decide) kk6 (fun _ h => h) rfl d_M_multiply_38 ?_
              refine lv_iconst (v := iI (0)) hx hb d_M_multiply_41 rfl ?_
              refine w_lald hx hb hK hP (252) (by omega) fg294 (by omega) (by omega) (by omega) d_M_multiply_42 ?_
              refine x_le (y := pq.1.2.1) (s2.2.1) ?_
              refine lv_ldc2 hx hb hown kk10 d_M_multiply_43 ?_
              refine x_l (y := lI (1000)) (by decide +kernel) ?_
              refine x_lcmp hx hb ⟨by omega, by omega⟩ ⟨by omega, by omega⟩ d_M_multiply_46 ?_
              refine x_if_gt (tgt := 63) hx hb (cmpz_r _ _) d_M_multiply_47 (by decide) (fun hc1 => ?_) (fun hc1 => ?_)
              · have hc1 : ¬ pq.1.2.1 ≤ 1000 := fun h => by have := cmpz_le.mpr h; omega
                have hcc : 0 < pq.1.1 ∧ (1000 < pq.1.2.1 ∨ 1000 < pq.2.2.1) := ⟨by omega, Or.inl (by omega)⟩
                obtain ⟨f9, rfl⟩ : ∃ f9, f = f9 + 1 := ⟨f - 1, by omega⟩
                refine lv_aload_n hx hb d_M_multiply_63 rfl (lv_at hl 2 rfl) ?_
                refine lv_iconst (v := iI (0)) hx hb d_M_multiply_64 rfl ?_
                have u9o := s4
                have u9b := u9o.1.bd
                refine w_calli (va_runV (As := [.int (iI (0))]) (rest := []) ⟨hx, hb, hml, hown, hts⟩ (c_lower l D ct st ke b N w291 (by omega) z0 cnt ff296 ⟨⟨pr, ff297, hp2⟩, ⟨bg, ff298, hb2⟩, ut, ff299, hut2⟩ (R3) (wv3) (wm3) fg292 fg293 fg294 0 (by decide) (by decide) pq.1.1 pq.1.2.1 s2.1 s2.2.1 u9o.1.1 u9o.1.2.1 u9o.1.2.2.1 (by omega) (fun i h0 h1 => s2.2.2.bd u9o.2.1 u9o.2.2 h0 h1)) (cwV 1 hts (gV t_643 t_645 (tb_sel ((y_M_lower), 19) (List.mem_of_getElem? (i := 30) (by decide +kernel))) t_9 t_646) rfl rfl rfl (by decide +kernel) ⟨Nat.le_of_ble_eq_true rfl, Nat.le_of_ble_eq_true rfl⟩) (pre_V E hP hS (236) (by omega) ff296 rfl) rfl rfl hl.1 rfl (lv_room (Nat.le_of_ble_eq_true rfl)) d_M_multiply_65 ⟨(Nat.le_of_ble_eq_true rfl), (Nat.le_of_ble_eq_true rfl)⟩) hS (fun r z311 H locs hz hP hS => ?_)
                rcases hz with ⟨hq, -, -⟩ | ⟨hq, hr, nR, n1, n2, n3, n4, n5, n6⟩
                · exfalso; omega
                subst hr
                have ff312 : z311 236 = .inr (6, [.ref (b + 237), .ref (b + 238), .ref (b + 239), .ref (b + 240), .ref (b + 241), .ref (b + 242), .int (z0), .ref (b + 243), .int (iI (cnt)), .ref (b + 244), .ref (b + 245), .ref (b + 246), .ref (b + 247), .ref (b + 248), .ref (b + 249), .ref (b + 250), .ref (b + 251), .ref (b + 252), .ref (b + 253)]) := (n6 236 (by omega) (by omega) (by omega)).trans ff296
                have ff313 : z311 238 = ir ct 4 (pr) := (n6 238 (by omega) (by omega) (by omega)).trans ff297
                have ff314 : z311 239 = lr ct 4 (bg) := (n6 239 (by omega) (by omega) (by omega)).trans ff298
                have ff315 : z311 240 = lr ct 4 (ut) := (n6 240 (by omega) (by omega) (by omega)).trans ff299
                have ff316 : z311 241 = ir ct 8 (sc) := (n6 241 (by omega) (by omega) (by omega)).trans ff300
                have ff317 : z311 242 = ir ct 8 (sm) := (n6 242 (by omega) (by omega) (by omega)).trans ff301
                have ff318 : z311 243 = ir ct 8 (ms) := (n6 243 (by omega) (by omega) (by omega)).trans ff302
                have ff319 : z311 244 = ir ct 24 (kd) := (n6 244 (by omega) (by omega) (by omega)).trans ff303
                have ff320 : z311 245 = ir ct 24 (fi) := (n6 245 (by omega) (by omega) (by omega)).trans ff304
                have ff321 : z311 246 = ir ct 24 (se) := (n6 246 (by omega) (by omega) (by omega)).trans ff305
                have ff322 : z311 247 = ir ct 192 (pl) := (n6 247 (by omega) (by omega) (by omega)).trans ff306
                have ff323 : z311 248 = zr ct 24 (hs) := (n6 248 (by omega) (by omega) (by omega)).trans ff307
                have ff324 : z311 249 = ir ct 24 (lv) := (n6 249 (by omega) (by omega) (by omega)).trans ff308
                have ff325 : z311 250 = lr ct 24 (mt) := (n6 250 (by omega) (by omega) (by omega)).trans ff309
                have ff326 : z311 253 = lr ct 8 (vv) := (n6 253 (by omega) (by omega) (by omega)).trans ff310
                have fr327 : ∀ j : Nat, (j ≠ 237) → (j ≠ 251) → (j ≠ 252) → z311 j = z1 j := fun j h0 h1 h2 => (n6 j (by omega) (by omega) (by omega)).trans (fr295 j h0 h1 h2)
                have nW : WV nR (zu wv3 0 (pq.1.1 - 1)) (zu wm3 0 (pq.1.2.1 / lq pq.1.1 + 77)) 0 (lw1 pq.1) := ⟨zu_s, zu_s, s2.2.2.low n4⟩
                have nO : WV nR (zu wv3 0 (pq.1.1 - 1)) (zu wm3 0 (pq.1.2.1 / lq pq.1.1 + 77)) 1 pq.2 := ⟨by rw [zu_n (by decide)]; exact s3.1, by rw [zu_n (by decide)]; exact s3.2.1, s3.2.2.of fun i h0 h1 => n5 _ (by omega)⟩
                have ht0 := tg_01 (pq.1.1 - 1) (pq.1.2.1 / lq pq.1.1 + 77)
                refine lv_istore_n (lv' := [(2, .int (iI (1 - tg (pq.1.1 - 1) (pq.1.2.1 / lq pq.1.1 + 77)))), (3, .int (iI (kk))), (0, .ref (b + 236)), (1, .int (iI (x)))]) hx hb d_M_multiply_68 rfl hl (by decide) rfl (fun ls hl => ?_)
                refine lv_aload_n hx hb d_M_multiply_69 rfl (lv_at hl 2 rfl) ?_
                refine lv_iconst (v := iI (1)) hx hb d_M_multiply_70 rfl ?_
                have v9o := s5
                have v9b := v9o.1.bd
                refine w_calli (va_runV (As := [.int (iI (1))]) (rest := []) ⟨hx, hb, hml, hown, hts⟩ (c_lower l D ct st ke b N z311 (by omega) z0 cnt ff312 ⟨⟨pr, ff313, hp2⟩, ⟨bg, ff314, hb2⟩, ut, ff315, hut2⟩ (nR) (zu wv3 0 (pq.1.1 - 1)) (zu wm3 0 (pq.1.2.1 / lq pq.1.1 + 77)) n1 n2 n3 1 (by decide) (by decide) pq.2.1 pq.2.2.1 nO.1 nO.2.1 v9o.1.1 v9o.1.2.1 v9o.1.2.2.1 (by omega) (fun i h0 h1 => nO.2.2.bd v9o.2.1 v9o.2.2 h0 h1)) (cwV 1 hts (gV t_643 t_645 (tb_sel ((y_M_lower), 19) (List.mem_of_getElem? (i := 30) (by decide +kernel))) t_9 t_646) rfl rfl rfl (by decide +kernel) ⟨Nat.le_of_ble_eq_true rfl, Nat.le_of_ble_eq_true rfl⟩) (pre_V E hP hS (236) (by omega) ff312 rfl) rfl rfl hl.1 rfl (lv_room (Nat.le_of_ble_eq_true rfl)) d_M_multiply_71 ⟨(Nat.le_of_ble_eq_true rfl), (Nat.le_of_ble_eq_true rfl)⟩) hS (fun r z328 H locs hz hP hS => ?_)
                rcases hz with ⟨hq2, -, -⟩ | ⟨hq2, hr, oR, x1, x2, x3, x4, x5, x6⟩
                · exfalso; omega
                subst hr
                have ff329 : z328 236 = .inr (6, [.ref (b + 237), .ref (b + 238), .ref (b + 239), .ref (b + 240), .ref (b + 241), .ref (b + 242), .int (z0), .ref (b + 243), .int (iI (cnt)), .ref (b + 244), .ref (b + 245), .ref (b + 246), .ref (b + 247), .ref (b + 248), .ref (b + 249), .ref (b + 250), .ref (b + 251), .ref (b + 252), .ref (b + 253)]) := (x6 236 (by omega) (by omega) (by omega)).trans ff312
                have ff330 : z328 238 = ir ct 4 (pr) := (x6 238 (by omega) (by omega) (by omega)).trans ff313
                have ff331 : z328 239 = lr ct 4 (bg) := (x6 239 (by omega) (by omega) (by omega)).trans ff314
                have ff332 : z328 240 = lr ct 4 (ut) := (x6 240 (by omega) (by omega) (by omega)).trans ff315
                have ff333 : z328 241 = ir ct 8 (sc) := (x6 241 (by omega) (by omega) (by omega)).trans ff316
                have ff334 : z328 242 = ir ct 8 (sm) := (x6 242 (by omega) (by omega) (by omega)).trans ff317
                have ff335 : z328 243 = ir ct 8 (ms) := (x6 243 (by omega) (by omega) (by omega)).trans ff318
                have ff336 : z328 244 = ir ct 24 (kd) := (x6 244 (by omega) (by omega) (by omega)).trans ff319
                have ff337 : z328 245 = ir ct 24 (fi) := (x6 245 (by omega) (by omega) (by omega)).trans ff320
                have ff338 : z328 246 = ir ct 24 (se) := (x6 246 (by omega) (by omega) (by omega)).trans ff321
                have ff339 : z328 247 = ir ct 192 (pl) := (x6 247 (by omega) (by omega) (by omega)).trans ff322
                have ff340 : z328 248 = zr ct 24 (hs) := (x6 248 (by omega) (by omega) (by omega)).trans ff323
                have ff341 : z328 249 = ir ct 24 (lv) := (x6 249 (by omega) (by omega) (by omega)).trans ff324
                have ff342 : z328 250 = lr ct 24 (mt) := (x6 250 (by omega) (by omega) (by omega)).trans ff325
                have ff343 : z328 253 = lr ct 8 (vv) := (x6 253 (by omega) (by omega) (by omega)).trans ff326
                have fr344 : ∀ j : Nat, (j ≠ 237) → (j ≠ 251) → (j ≠ 252) → z328 j = z1 j := fun j h0 h1 h2 => (x6 j (by omega) (by omega) (by omega)).trans (fr327 j h0 h1 h2)
                have oW : WV oR (zu (zu wv3 0 (pq.1.1 - 1)) 1 (pq.2.1 - 1)) (zu (zu wm3 0 (pq.1.2.1 / lq pq.1.1 + 77)) 1 (pq.2.2.1 / lq pq.2.1 + 77)) 1 (lw1 pq.2) := ⟨zu_s, zu_s, nO.2.2.low x4⟩
                have oO : WV oR (zu (zu wv3 0 (pq.1.1 - 1)) 1 (pq.2.1 - 1)) (zu (zu wm3 0 (pq.1.2.1 / lq pq.1.1 + 77)) 1 (pq.2.2.1 / lq pq.2.1 + 77)) 0 (lw1 pq.1) := ⟨by rw [zu_n (by decide)]; exact nW.1, by rw [zu_n (by decide)]; exact nW.2.1, nW.2.2.of fun i h0 h1 => x5 _ (by omega)⟩
                have ht1 := tg_01 (pq.2.1 - 1) (pq.2.2.1 / lq pq.2.1 + 77)
                have hRo : ∀ j : Int, j < 448 → oR j = R j := fun j h => (x5 j (by omega)).trans ((n5 j (by omega)).trans (hR j h))
                refine x_if_eq (tgt := 85) hx hb ⟨by omega, by omega⟩ d_M_multiply_74 (by decide) (fun hd1 => ?_) (fun hd1 => ?_)
                · refine lv_iconst (v := iI (0)) hx hb d_M_multiply_85 rfl ?_
                  refine lv_istore_n (lv' := [(2, .int (iI (0))), (3, .int (iI (kk))), (0, .ref (b + 236)), (1, .int (iI (x)))]) hx hb d_M_multiply_86 rfl hl (by decide) rfl (fun ls hl => ?_)
                  rcases ht0 with ht0 | ht0
                  · refine lv_iinc (k := 1) (v := iI (kk + 1)) (lv' := [(3, .int (iI (kk + 1))), (2, .int (iI (0))), (0, .ref (b + 236)), (1, .int (iI (x)))]) hx hb d_M_multiply_87 hl rfl (iI_add _ _) (by decide) rfl (fun ls hl => ?_)
                    refine lv_goto (tgt := 19) hx hb d_M_multiply_90 (by decide) ?_
                    have hl : lv_has ls 10 [(3, .int (iI (kk + 1))), (2, .int (iI (0))), (0, .ref (b + 236)), (1, .int (iI (x)))] := lv_sub hl [0, 1, 2, 3] rfl
                    exact ihlq9 (kk + 1) 0 oR _ _ (lw1 pq.1, lw1 pq.2) f9 z328 H locs ls (by omega) (by omega) (by omega) hRo (Or.inr ⟨rfl, by rw [← s7, qt_n2 hcc (low1_s hq (by omega)) (low1_n hq2 (by omega))]; rfl⟩) x1 x2 x3 fr344 hP hS hl
                  · refine lv_iinc (k := 1) (v := iI (kk + 1)) (lv' := [(3, .int (iI (kk + 1))), (2, .int (iI (0))), (0, .ref (b + 236)), (1, .int (iI (x)))]) hx hb d_M_multiply_87 hl rfl (iI_add _ _) (by decide) rfl (fun ls hl => ?_)
                    refine lv_goto (tgt := 19) hx hb d_M_multiply_90 (by decide) ?_
                    have hl : lv_has ls 10 [(3, .int (iI (kk + 1))), (2, .int (iI (0))), (0, .ref (b + 236)), (1, .int (iI (x)))] := lv_sub hl [0, 1, 2, 3] rfl
                    exact ihlq9 (kk + 1) 0 oR _ _ (lw1 pq.1, lw1 pq.2) f9 z328 H locs ls (by omega) (by omega) (by omega) hRo (Or.inr ⟨rfl, by rw [← s7, qt_n1 hcc (low1_n hq (by omega))]; rfl⟩) x1 x2 x3 fr344 hP hS hl
                · refine lv_iload_n hx hb d_M_multiply_77 rfl (lv_at hl 0 rfl) ?_
                  refine x_if_eq (tgt := 85) hx hb ⟨by omega, by omega⟩ d_M_multiply_78 (by decide) (fun hd0 => ?_) (fun hd0 => ?_)
                  · refine lv_iconst (v := iI (0)) hx hb d_M_multiply_85 rfl ?_
                    refine lv_istore_n (lv' := [(2, .int (iI (0))), (3, .int (iI (kk))), (0, .ref (b + 236)), (1, .int (iI (x)))]) hx hb d_M_multiply_86 rfl hl (by decide) rfl (fun ls hl => ?_)
                    refine lv_iinc (k := 1) (v := iI (kk + 1)) (lv' := [(3, .int (iI (kk + 1))), (2, .int (iI (0))), (0, .ref (b + 236)), (1, .int (iI (x)))]) hx hb d_M_multiply_87 hl rfl (iI_add _ _) (by decide) rfl (fun ls hl => ?_)
                    refine lv_goto (tgt := 19) hx hb d_M_multiply_90 (by decide) ?_
                    have hl : lv_has ls 10 [(3, .int (iI (kk + 1))), (2, .int (iI (0))), (0, .ref (b + 236)), (1, .int (iI (x)))] := lv_sub hl [0, 1, 2, 3] rfl
                    exact ihlq9 (kk + 1) 0 oR _ _ (lw1 pq.1, lw1 pq.2) f9 z328 H locs ls (by omega) (by omega) (by omega) hRo (Or.inr ⟨rfl, by rw [← s7, qt_n1 hcc (low1_n hq (by omega))]; rfl⟩) x1 x2 x3 fr344 hP hS hl
                  · refine lv_iconst (v := iI (1)) hx hb d_M_multiply_81 rfl ?_
                    refine lv_goto (tgt := 86) hx hb d_M_multiply_82 (by decide) ?_
                    refine lv_istore_n (lv' := [(2, .int (iI (1))), (3, .int (iI (kk))), (0, .ref (b + 236)), (1, .int (iI (x)))]) hx hb d_M_multiply_86 rfl hl (by decide) rfl (fun ls hl => ?_)
                    refine lv_iinc (k := 1) (v := iI (kk + 1)) (lv' := [(3, .int (iI (kk + 1))), (2, .int (iI (1))), (0, .ref (b + 236)), (1, .int (iI (x)))]) hx hb d_M_multiply_87 hl rfl (iI_add _ _) (by decide) rfl (fun ls hl => ?_)
                    refine lv_goto (tgt := 19) hx hb d_M_multiply_90 (by decide) ?_
                    have hl : lv_has ls 10 [(3, .int (iI (kk + 1))), (2, .int (iI (1))), (0, .ref (b + 236)), (1, .int (iI (x)))] := lv_sub hl [0, 1, 2, 3] rfl
                    exact ihlq9 (kk + 1) 1 oR _ _ (lw1 pq.1, lw1 pq.2) f9 z328 H locs ls (by omega) (by omega) (by omega) hRo (Or.inl ⟨rfl, oO, oW, low1_okW s4.1 (low1_s hq (by omega)), low1_okW s5.1 (low1_s hq2 (by omega)), by show pq.1.1 - 1 = pq.2.1 - 1; omega, by rw [← s7, qt_n3 hcc (low1_s hq (by omega)) (low1_s hq2 (by omega))], by show pq.1.1 - 1 < _; omega, by omega⟩) x1 x2 x3 fr344 hP hS hl
              · have hc1 := cmpz_le.mp hc1
                refine lv_aload_n hx hb d_M_multiply_50 rfl (lv_at hl 2 rfl) ?_
                refine w_get (C := "LevelledRingModel") (T := T_M) (M := 19) hx hb hts hinM hown hK hP (236) (by omega) ff296 rfl 17 (by decide) kk6 (fun _ h => h) rfl d_M_multiply_51 ?_
                refine lv_iconst (v := iI (1)) hx hb d_M_multiply_54 rfl ?_
                refine w_lald hx hb hK hP (252) (by omega) fg294 (by omega) (by omega) (by omega) d_M_multiply_55 ?_
                refine x_le (y := pq.2.2.1) (s3.2.1) ?_
                refine lv_ldc2 hx hb hown kk10 d_M_multiply_56 ?_
                refine x_l (y := lI (1000)) (by decide +kernel) ?_
                refine x_lcmp hx hb ⟨by omega, by omega⟩ ⟨by omega, by omega⟩ d_M_multiply_59 ?_
                refine x_if_le (tgt := 93) hx hb (cmpz_r _ _) d_M_multiply_60 (by decide) (fun hc3 => ?_) (fun hc3 => ?_)
                · have hc3 := cmpz_le.mp hc3
                  have hqx : qt f pq = some pq := qt_x (by omega) (by omega)
                  have hqu := qt_ok f s4.1 s5.1 s6 s8 hqx
                  rw [hqx] at s7
                  refine lv_iload_n hx hb d_M_multiply_93 rfl (lv_at hl 1 rfl) ?_
                  refine x_if_ne (tgt := 99) hx hb ⟨by omega, by omega⟩ d_M_multiply_94 (by decide) (fun hc => ?_) (fun hc => by exfalso; omega)
                  have hl : lv_has ls 10 [(0, .ref (b + 236)), (1, .int (iI (x)))] := lv_sub hl [2, 3] rfl
                  exact tl R3 wv3 wm3 pq w291 H locs ls hR s2 s3 s4 s5 hqu s7 fg292 fg293 fg294 fr295 hP hS hl
                · have hc3 : ¬ pq.2.2.1 ≤ 1000 := fun h => by have := cmpz_le.mpr h; omega
                  have hcc : 0 < pq.1.1 ∧ (1000 < pq.1.2.1 ∨ 1000 < pq.2.2.1) := ⟨by omega, Or.inr (by omega)⟩
                  obtain ⟨f9, rfl⟩ : ∃ f9, f = f9 + 1 := ⟨f - 1, by omega⟩
                  refine lv_aload_n hx hb d_M_multiply_63 rfl (lv_at hl 2 rfl) ?_
                  refine lv_iconst (v := iI (0)) hx hb d_M_multiply_64 rfl ?_
                  have u9o := s4
                  have u9b := u9o.1.bd
                  refine w_calli (va_runV (As := [.int (iI (0))]) (rest := []) ⟨hx, hb, hml, hown, hts⟩ (c_lower l D ct st ke b N w291 (by omega) z0 cnt ff296 ⟨⟨pr, ff297, hp2⟩, ⟨bg, ff298, hb2⟩, ut, ff299, hut2⟩ (R3) (wv3) (wm3) fg292 fg293 fg294 0 (by decide) (by decide) pq.1.1 pq.1.2.1 s2.1 s2.2.1 u9o.1.1 u9o.1.2.1 u9o.1.2.2.1 (by omega) (fun i h0 h1 => s2.2.2.bd u9o.2.1 u9o.2.2 h0 h1)) (cwV 1 hts (gV t_643 t_645 (tb_sel ((y_M_lower), 19) (List.mem_of_getElem? (i := 30) (by decide +kernel))) t_9 t_646) rfl rfl rfl (by decide +kernel) ⟨Nat.le_of_ble_eq_true rfl, Nat.le_of_ble_eq_true rfl⟩) (pre_V E hP hS (236) (by omega) ff296 rfl) rfl rfl hl.1 rfl (lv_room (Nat.le_of_ble_eq_true rfl)) d_M_multiply_65 ⟨(Nat.le_of_ble_eq_true rfl), (Nat.le_of_ble_eq_true rfl)⟩) hS (fun r z345 H locs hz hP hS => ?_)
                  rcases hz with ⟨hq, -, -⟩ | ⟨hq, hr, nR, n1, n2, n3, n4, n5, n6⟩
                  · exfalso; omega
                  subst hr
                  have ff346 : z345 236 = .inr (6, [.ref (b + 237), .ref (b + 238), .ref (b + 239), .ref (b + 240), .ref (b + 241), .ref (b + 242), .int (z0), .ref (b + 243), .int (iI (cnt)), .ref (b + 244), .ref (b + 245), .ref (b + 246), .ref (b + 247), .ref (b + 248), .ref (b + 249), .ref (b + 250), .ref (b + 251), .ref (b + 252), .ref (b + 253)]) := (n6 236 (by omega) (by omega) (by omega)).trans ff296
                  have ff347 : z345 238 = ir ct 4 (pr) := (n6 238 (by omega) (by omega) (by omega)).trans ff297
                  have ff348 : z345 239 = lr ct 4 (bg) := (n6 239 (by omega) (by omega) (by omega)).trans ff298
                  have ff349 : z345 240 = lr ct 4 (ut) := (n6 240 (by omega) (by omega) (by omega)).trans ff299
                  have ff350 : z345 241 = ir ct 8 (sc) := (n6 241 (by omega) (by omega) (by omega)).trans ff300
                  have ff351 : z345 242 = ir ct 8 (sm) := (n6 242 (by omega) (by omega) (by omega)).trans ff301
                  have ff352 : z345 243 = ir ct 8 (ms) := (n6 243 (by omega) (by omega) (by omega)).trans ff302
                  have ff353 : z345 244 = ir ct 24 (kd) := (n6 244 (by omega) (by omega) (by omega)).trans ff303
                  have ff354 : z345 245 = ir ct 24 (fi) := (n6 245 (by omega) (by omega) (by omega)).trans ff304
                  have ff355 : z345 246 = ir ct 24 (se) := (n6 246 (by omega) (by omega) (by omega)).trans ff305
                  have ff356 : z345 247 = ir ct 192 (pl) := (n6 247 (by omega) (by omega) (by omega)).trans ff306
                  have ff357 : z345 248 = zr ct 24 (hs) := (n6 248 (by omega) (by omega) (by omega)).trans ff307
                  have ff358 : z345 249 = ir ct 24 (lv) := (n6 249 (by omega) (by omega) (by omega)).trans ff308
                  have ff359 : z345 250 = lr ct 24 (mt) := (n6 250 (by omega) (by omega) (by omega)).trans ff309
                  have ff360 : z345 253 = lr ct 8 (vv) := (n6 253 (by omega) (by omega) (by omega)).trans ff310
                  have fr361 : ∀ j : Nat, (j ≠ 237) → (j ≠ 251) → (j ≠ 252) → z345 j = z1 j := fun j h0 h1 h2 => (n6 j (by omega) (by omega) (by omega)).trans (fr295 j h0 h1 h2)
                  have nW : WV nR (zu wv3 0 (pq.1.1 - 1)) (zu wm3 0 (pq.1.2.1 / lq pq.1.1 + 77)) 0 (lw1 pq.1) := ⟨zu_s, zu_s, s2.2.2.low n4⟩
                  have nO : WV nR (zu wv3 0 (pq.1.1 - 1)) (zu wm3 0 (pq.1.2.1 / lq pq.1.1 + 77)) 1 pq.2 := ⟨by rw [zu_n (by decide)]; exact s3.1, by rw [zu_n (by decide)]; exact s3.2.1, s3.2.2.of fun i h0 h1 => n5 _ (by omega)⟩
                  have ht0 := tg_01 (pq.1.1 - 1) (pq.1.2.1 / lq pq.1.1 + 77)
                  refine lv_istore_n (lv' := [(2, .int (iI (1 - tg (pq.1.1 - 1) (pq.1.2.1 / lq pq.1.1 + 77)))), (3, .int (iI (kk))), (0, .ref (b + 236)), (1, .int (iI (x)))]) hx hb d_M_multiply_68 rfl hl (by decide) rfl (fun ls hl => ?_)
                  refine lv_aload_n hx hb d_M_multiply_69 rfl (lv_at hl 2 rfl) ?_
                  refine lv_iconst (v := iI (1)) hx hb d_M_multiply_70 rfl ?_
                  have v9o := s5
                  have v9b := v9o.1.bd
                  refine w_calli (va_runV (As := [.int (iI (1))]) (rest := []) ⟨hx, hb, hml, hown, hts⟩ (c_lower l D ct st ke b N z345 (by omega) z0 cnt ff346 ⟨⟨pr, ff347, hp2⟩, ⟨bg, ff348, hb2⟩, ut, ff349, hut2⟩ (nR) (zu wv3 0 (pq.1.1 - 1)) (zu wm3 0 (pq.1.2.1 / lq pq.1.1 + 77)) n1 n2 n3 1 (by decide) (by decide) pq.2.1 pq.2.2.1 nO.1 nO.2.1 v9o.1.1 v9o.1.2.1 v9o.1.2.2.1 (by omega) (fun i h0 h1 => nO.2.2.bd v9o.2.1 v9o.2.2 h0 h1)) (cwV 1 hts (gV t_643 t_645 (tb_sel ((y_M_lower), 19) (List.mem_of_getElem? (i := 30) (by decide +kernel))) t_9 t_646) rfl rfl rfl (by decide +kernel) ⟨Nat.le_of_ble_eq_true rfl, Nat.le_of_ble_eq_true rfl⟩) (pre_V E hP hS (236) (by omega) ff346 rfl) rfl rfl hl.1 rfl (lv_room (Nat.le_of_ble_eq_true rfl)) d_M_multiply_71 ⟨(Nat.le_of_ble_eq_true rfl), (Nat.le_of_ble_eq_true rfl)⟩) hS (fun r z362 H locs hz hP hS => ?_)
                  rcases hz with ⟨hq2, -, -⟩ | ⟨hq2, hr, oR, x1, x2, x3, x4, x5, x6⟩
                  · exfalso; omega
                  subst hr
                  have ff363 : z362 236 = .inr (6, [.ref (b + 237), .ref (b + 238), .ref (b + 239), .ref (b + 240), .ref (b + 241), .ref (b + 242), .int (z0), .ref (b + 243), .int (iI (cnt)), .ref (b + 244), .ref (b + 245), .ref (b + 246), .ref (b + 247), .ref (b + 248), .ref (b + 249), .ref (b + 250), .ref (b + 251), .ref (b + 252), .ref (b + 253)]) := (x6 236 (by omega) (by omega) (by omega)).trans ff346
                  have ff364 : z362 238 = ir ct 4 (pr) := (x6 238 (by omega) (by omega) (by omega)).trans ff347
                  have ff365 : z362 239 = lr ct 4 (bg) := (x6 239 (by omega) (by omega) (by omega)).trans ff348
                  have ff366 : z362 240 = lr ct 4 (ut) := (x6 240 (by omega) (by omega) (by omega)).trans ff349
                  have ff367 : z362 241 = ir ct 8 (sc) := (x6 241 (by omega) (by omega) (by omega)).trans ff350
                  have ff368 : z362 242 = ir ct 8 (sm) := (x6 242 (by omega) (by omega) (by omega)).trans ff351
                  have ff369 : z362 243 = ir ct 8 (ms) := (x6 243 (by omega) (by omega) (by omega)).trans ff352
                  have ff370 : z362 244 = ir ct 24 (kd) := (x6 244 (by omega) (by omega) (by omega)).trans ff353
                  have ff371 : z362 245 = ir ct 24 (fi) := (x6 245 (by omega) (by omega) (by omega)).trans ff354
                  have ff372 : z362 246 = ir ct 24 (se) := (x6 246 (by omega) (by omega) (by omega)).trans ff355
                  have ff373 : z362 247 = ir ct 192 (pl) := (x6 247 (by omega) (by omega) (by omega)).trans ff356
                  have ff374 : z362 248 = zr ct 24 (hs) := (x6 248 (by omega) (by omega) (by omega)).trans ff357
                  have ff375 : z362 249 = ir ct 24 (lv) := (x6 249 (by omega) (by omega) (by omega)).trans ff358
                  have ff376 : z362 250 = lr ct 24 (mt) := (x6 250 (by omega) (by omega) (by omega)).trans ff359
                  have ff377 : z362 253 = lr ct 8 (vv) := (x6 253 (by omega) (by omega) (by omega)).trans ff360
                  have fr378 : ∀ j : Nat, (j ≠ 237) → (j ≠ 251) → (j ≠ 252) → z362 j = z1 j := fun j h0 h1 h2 => (x6 j (by omega) (by omega) (by omega)).trans (fr361 j h0 h1 h2)
                  have oW : WV oR (zu (zu wv3 0 (pq.1.1 - 1)) 1 (pq.2.1 - 1)) (zu (zu wm3 0 (pq.1.2.1 / lq pq.1.1 + 77)) 1 (pq.2.2.1 / lq pq.2.1 + 77)) 1 (lw1 pq.2) := ⟨zu_s, zu_s, nO.2.2.low x4⟩
                  have oO : WV oR (zu (zu wv3 0 (pq.1.1 - 1)) 1 (pq.2.1 - 1)) (zu (zu wm3 0 (pq.1.2.1 / lq pq.1.1 + 77)) 1 (pq.2.2.1 / lq pq.2.1 + 77)) 0 (lw1 pq.1) := ⟨by rw [zu_n (by decide)]; exact nW.1, by rw [zu_n (by decide)]; exact nW.2.1, nW.2.2.of fun i h0 h1 => x5 _ (by omega)⟩
                  have ht1 := tg_01 (pq.2.1 - 1) (pq.2.2.1 / lq pq.2.1 + 77)
                  have hRo : ∀ j : Int, j < 448 → oR j = R j := fun j h => (x5 j (by omega)).trans ((n5 j (by omega)).trans (hR j h))
                  refine x_if_eq (tgt := 85) hx hb ⟨by omega, by omega⟩ d_M_multiply_74 (by decide) (fun hd1 => ?_) (fun hd1 => ?_)
                  · refine lv_iconst (v := iI (0)) hx hb d_M_multiply_85 rfl ?_
                    refine lv_istore_n (lv' := [(2, .int (iI (0))), (3, .int (iI (kk))), (0, .ref (b + 236)), (1, .int (iI (x)))]) hx hb d_M_multiply_86 rfl hl (by decide) rfl (fun ls hl => ?_)
                    rcases ht0 with ht0 | ht0
                    · refine lv_iinc (k := 1) (v := iI (kk + 1)) (lv' := [(3, .int (iI (kk + 1))), (2, .int (iI (0))), (0, .ref (b + 236)), (1, .int (iI (x)))]) hx hb d_M_multiply_87 hl rfl (iI_add _ _) (by decide) rfl (fun ls hl => ?_)
                      refine lv_goto (tgt := 19) hx hb d_M_multiply_90 (by decide) ?_
                      have hl : lv_has ls 10 [(3, .int (iI (kk + 1))), (2, .int (iI (0))), (0, .ref (b + 236)), (1, .int (iI (x)))] := lv_sub hl [0, 1, 2, 3] rfl
                      exact ihlq9 (kk + 1) 0 oR _ _ (lw1 pq.1, lw1 pq.2) f9 z362 H locs ls (by omega) (by omega) (by omega) hRo (Or.inr ⟨rfl, by rw [← s7, qt_n2 hcc (low1_s hq (by omega)) (low1_n hq2 (by omega))]; rfl⟩) x1 x2 x3 fr378 hP hS hl
                    · refine lv_iinc (k := 1) (v := iI (kk + 1)) (lv' := [(3, .int (iI (kk + 1))), (2, .int (iI (0))), (0, .ref (b + 236)), (1, .int (iI (x)))]) hx hb d_M_multiply_87 hl rfl (iI_add _ _) (by decide) rfl (fun ls hl => ?_)
                      refine lv_goto (tgt := 19) hx hb d_M_multiply_90 (by decide) ?_
                      have hl : lv_has ls 10 [(3, .int (iI (kk + 1))), (2, .int (iI (0))), (0, .ref (b + 236)), (1, .int (iI (x)))] := lv_sub hl [0, 1, 2, 3] rfl
                      exact ihlq9 (kk + 1) 0 oR _ _ (lw1 pq.1, lw1 pq.2) f9 z362 H locs ls (by omega) (by omega) (by omega) hRo (Or.inr ⟨rfl, by rw [← s7, qt_n1 hcc (low1_n hq (by omega))]; rfl⟩) x1 x2 x3 fr378 hP hS hl
                  · refine lv_iload_n hx hb d_M_multiply_77 rfl (lv_at hl 0 rfl) ?_
                    refine x_if_eq (tgt := 85) hx hb ⟨by omega, by omega⟩ d_M_multiply_78 (by decide) (fun hd0 => ?_) (fun hd0 => ?_)
                    · refine lv_iconst (v := iI (0)) hx hb d_M_multiply_85 rfl ?_
                      refine lv_istore_n (lv' := [(2, .int (iI (0))), (3, .int (iI (kk))), (0, .ref (b + 236)), (1, .int (iI (x)))]) hx hb d_M_multiply_86 rfl hl (by decide) rfl (fun ls hl => ?_)
                      refine lv_iinc (k := 1) (v := iI (kk + 1)) (lv' := [(3, .int (iI (kk + 1))), (2, .int (iI (0))), (0, .ref (b + 236)), (1, .int (iI (x)))]) hx hb d_M_multiply_87 hl rfl (iI_add _ _) (by decide) rfl (fun ls hl => ?_)
                      refine lv_goto (tgt := 19) hx hb d_M_multiply_90 (by decide) ?_
                      have hl : lv_has ls 10 [(3, .int (iI (kk + 1))), (2, .int (iI (0))), (0, .ref (b + 236)), (1, .int (iI (x)))] := lv_sub hl [0, 1, 2, 3] rfl
                      exact ihlq9 (kk + 1) 0 oR _ _ (lw1 pq.1, lw1 pq.2) f9 z362 H locs ls (by omega) (by omega) (by omega) hRo (Or.inr ⟨rfl, by rw [← s7, qt_n1 hcc (low1_n hq (by omega))]; rfl⟩) x1 x2 x3 fr378 hP hS hl
                    · refine lv_iconst (v := iI (1)) hx hb d_M_multiply_81 rfl ?_
                      refine lv_goto (tgt := 86) hx hb d_M_multiply_82 (by decide) ?_
                      refine lv_istore_n (lv' := [(2, .int (iI (1))), (3, .int (iI (kk))), (0, .ref (b + 236)), (1, .int (iI (x)))]) hx hb d_M_multiply_86 rfl hl (by decide) rfl (fun ls hl => ?_)
                      refine lv_iinc (k := 1) (v := iI (kk + 1)) (lv' := [(3, .int (iI (kk + 1))), (2, .int (iI (1))), (0, .ref (b + 236)), (1, .int (iI (x)))]) hx hb d_M_multiply_87 hl rfl (iI_add _ _) (by decide) rfl (fun ls hl => ?_)
                      refine lv_goto (tgt := 19) hx hb d_M_multiply_90 (by decide) ?_
                      have hl : lv_has ls 10 [(3, .int (iI (kk + 1))), (2, .int (iI (1))), (0, .ref (b + 236)), (1, .int (iI (x)))] := lv_sub hl [0, 1, 2, 3] rfl
                      exact ihlq9 (kk + 1) 1 oR _ _ (lw1 pq.1, lw1 pq.2) f9 z362 H locs ls (by omega) (by omega) (by omega) hRo (Or.inl ⟨rfl, oO, oW, low1_okW s4.1 (low1_s hq (by omega)), low1_okW s5.1 (low1_s hq2 (by omega)), by show pq.1.1 - 1 = pq.2.1 - 1; omega, by rw [← s7, qt_n3 hcc (low1_s hq (by omega)) (low1_s hq2 (by omega))], by show pq.1.1 - 1 < _; omega, by omega⟩) x1 x2 x3 fr378 hP hS hl
          · exfalso; omega
  rcases hz with ⟨p8, w1, w2, w3, w4, w5, w6⟩ | ⟨w1, w2⟩
  · have e1 : gd = 1 := (iI_inj (by rcases hg01 with h | h <;> (rw [h]; exact ⟨by decide, by decide⟩)) ⟨by decide, by decide⟩).mp w2
    have oe := (opn_ok o1.1 o2.1 w1).2.2
    exact lq9 5 0 gd R2 wv2 wm2 p8 4 z1 H locs ls (by omega) (by omega) (by omega) hR2 (Or.inl ⟨e1, w3, w4, w5, w6, oe, by rw [hO, w1]; rfl, by have := w5.1.2.1; omega, by omega⟩) q2m0 q2m10 q2m11 fr4 hP hS hl
  · have e1 : gd = 0 := (iI_inj (by rcases hg01 with h | h <;> (rw [h]; exact ⟨by decide, by decide⟩)) ⟨by decide, by decide⟩).mp w2
    exact lq9 5 0 gd R2 wv2 wm2 (v1, v2) 4 z1 H locs ls (by omega) (by omega) (by omega) hR2 (Or.inr ⟨e1, by rw [hO, w1]; rfl⟩) q2m0 q2m10 q2m11 fr4 hP hS hl
