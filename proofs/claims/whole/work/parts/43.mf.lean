abbrev rm_c_encrypt : Room := { frames := 2, cells := 0, slots := 0, locals := 58 }
set_option maxHeartbeats 4000000 in
set_option maxRecDepth 100000 in
/-- encrypt(x) -/
theorem c_encrypt (l : Launch) (D : va_G) (ct : Nat → ClassId) (st ke : Nat → Nat) (b N : Nat) (u : Nat → va_E) (hN : 254 ≤ N) (z0 : Int32) (cnt : Int) (S R sm ms kd fi se pl hs lv mt wv wm vv : Int → Int) (hW : MW ct b u z0 cnt S R sm ms kd fi se pl hs lv mt wv wm vv) (hS1 : ∀ i : Int, -1 ≤ S i ∧ S i ≤ 1) (x : Int) (hx0 : 0 ≤ x) (hx1 : x < 24) (hh0 : hs x = 0) (X : Int → Int) (hX : p17 X) (hpl : ∀ i : Int, 0 ≤ i → i < 8 → pl (8 * x + i) = X i) : Met l y_M_encrypt (w_M_encrypt) rm_c_encrypt (va_Pc [.ref (b + 236), .int (iI (x))] (fun U => ev D ct st ke b U ∧ va_P D vwCl (wl N b u) U.heap)) (va_Qi (fun (r : Int32) (z : Nat → va_E) => VP ct b z cnt S R ms kd fi se pl hs lv mt vv x (some (inV S (iI (fi x)) X)) r ∧ ∀ j : Nat, j < 236 → z j = u j) (fun (z : Nat → va_E) t => va_P D vwCl (wl (N) b (z)) t.heap) (AA b)) 0 0 (AA b) := by
  refine M_z (cc := c9_M_encrypt) (maxL := 6) (by decide) rfl (Nat.le_of_ble_eq_true rfl) ?_
  intro p e s m args below meth c Q ls H locs hx hb hml hown hts hnm E hP hS hl ret
  have hl : lv_has ls 6 [(0, .ref (b + 236)), (1, .int (iI (x)))] := hl
  have hK := ev_K E
  have kk0 := hts (.fieldLink "LevelledRingModel" 35 "LevelledRingModel" "first" "[I") (List.mem_cons_of_mem _ t_503)
  have hinM : ∀ w ∈ u_ws "LevelledRingModel" T_M 19, w ∈ (w_M_encrypt) := hin_M _
  have kk2 := hts (.fieldLink "LevelledRingModel" 64 "LevelledRingModel" "z" "I") (List.mem_cons_of_mem _ t_499)
  have kk3 := hts (.constantLong "LevelledRingModel" 153 33) (List.mem_cons_of_mem _ t_621)
  have kk4 := hts (.fieldLink "LevelledRingModel" 41 "LevelledRingModel" "plain" "[I") (List.mem_cons_of_mem _ t_505)
  have kk5 := hts (.fieldLink "LevelledRingModel" 26 "LevelledRingModel" "small" "[I") (List.mem_cons_of_mem _ t_498)
  have kk6 := hts (.fieldLink "LevelledRingModel" 17 "LevelledRingModel" "big" "[J") (List.mem_cons_of_mem _ t_495)
  have kk7 := hts (.fieldLink "LevelledRingModel" 7 "LevelledRingModel" "row" "[J") (List.mem_cons_of_mem _ t_493)
  have fr0 : ∀ j : Nat, (j < 236) → u j = u j := fun _ _ => rfl
  obtain ⟨mM, ⟨⟨pr, hp1, hp2⟩, ⟨bg, hb1, hb2⟩, ut, hut1, hut2⟩, ⟨sc, hs1, hs2⟩, m0, m1, m2, m3, m4, m5, m6, m7, m8, m9, m10, m11, m12⟩ := hW
  refine lv_aload_n hx hb d_M_encrypt_0 rfl (lv_at hl 0 rfl) ?_
  refine lv_aload_n hx hb d_M_encrypt_1 rfl (lv_at hl 0 rfl) ?_
  refine w_get (C := "LevelledRingModel") (T := T_M) (M := 19) hx hb hts hinM hown hK hP (236) (by omega) mM rfl 10 (by decide) kk0 (fun _ h => h) rfl d_M_encrypt_2 ?_
  refine lv_iload_n hx hb d_M_encrypt_5 rfl (lv_at hl 1 rfl) ?_
  refine w_iald hx hb hK hP (245) (by omega) m4 (by omega) (by omega) (by omega) d_M_encrypt_6 ?_
  refine w_put (C := "LevelledRingModel") (T := T_M) (M := 19) (ty := .int) (v := .int (iI (fi (x)))) hx hb hts hinM ty_M tyok_M nm_M hown hK hP hS (236) (by omega) mM rfl 6 (by decide) kk2 (fun _ h => h) rfl (by decide +kernel) rfl rfl (Nat.le_of_ble_eq_true rfl) d_M_encrypt_7 (fun H locs hP hS => ?_)
  obtain ⟨u1, hu2, hP⟩ : ∃ zz : Nat → va_E, zz = va_up u 236 (.inr (6, [.ref (b + 237), .ref (b + 238), .ref (b + 239), .ref (b + 240), .ref (b + 241), .ref (b + 242), .int (iI (fi (x))), .ref (b + 243), .int (iI (cnt)), .ref (b + 244), .ref (b + 245), .ref (b + 246), .ref (b + 247), .ref (b + 248), .ref (b + 249), .ref (b + 250), .ref (b + 251), .ref (b + 252), .ref (b + 253)])) ∧ va_P D vwCl (wl N b zz) H := ⟨_, rfl, hP⟩
  have ff3 : u1 236 = .inr (6, [.ref (b + 237), .ref (b + 238), .ref (b + 239), .ref (b + 240), .ref (b + 241), .ref (b + 242), .int (iI (fi (x))), .ref (b + 243), .int (iI (cnt)), .ref (b + 244), .ref (b + 245), .ref (b + 246), .ref (b + 247), .ref (b + 248), .ref (b + 249), .ref (b + 250), .ref (b + 251), .ref (b + 252), .ref (b + 253)]) := (congrFun hu2 _).trans up_s
  have ff4 : u1 238 = ir ct 4 (pr) := (congrFun hu2 _).trans ((up_n (by omega)).trans hp1)
  have ff5 : u1 239 = lr ct 4 (bg) := (congrFun hu2 _).trans ((up_n (by omega)).trans hb1)
  have ff6 : u1 240 = lr ct 4 (ut) := (congrFun hu2 _).trans ((up_n (by omega)).trans hut1)
  have ff7 : u1 241 = ir ct 8 (sc) := (congrFun hu2 _).trans ((up_n (by omega)).trans hs1)
  have ff8 : u1 237 = lr ct 512 (R) := (congrFun hu2 _).trans ((up_n (by omega)).trans m0)
  have ff9 : u1 242 = ir ct 8 (sm) := (congrFun hu2 _).trans ((up_n (by omega)).trans m1)
  have ff10 : u1 243 = ir ct 8 (ms) := (congrFun hu2 _).trans ((up_n (by omega)).trans m2)
  have ff11 : u1 244 = ir ct 24 (kd) := (congrFun hu2 _).trans ((up_n (by omega)).trans m3)
  have ff12 : u1 245 = ir ct 24 (fi) := (congrFun hu2 _).trans ((up_n (by omega)).trans m4)
  have ff13 : u1 246 = ir ct 24 (se) := (congrFun hu2 _).trans ((up_n (by omega)).trans m5)
  have ff14 : u1 247 = ir ct 192 (pl) := (congrFun hu2 _).trans ((up_n (by omega)).trans m6)
  have ff15 : u1 248 = zr ct 24 (hs) := (congrFun hu2 _).trans ((up_n (by omega)).trans m7)
  have ff16 : u1 249 = ir ct 24 (lv) := (congrFun hu2 _).trans ((up_n (by omega)).trans m8)
  have ff17 : u1 250 = lr ct 24 (mt) := (congrFun hu2 _).trans ((up_n (by omega)).trans m9)
  have ff18 : u1 251 = ir ct 2 (wv) := (congrFun hu2 _).trans ((up_n (by omega)).trans m10)
  have ff19 : u1 252 = lr ct 2 (wm) := (congrFun hu2 _).trans ((up_n (by omega)).trans m11)
  have ff20 : u1 253 = lr ct 8 (vv) := (congrFun hu2 _).trans ((up_n (by omega)).trans m12)
  have fr21 : ∀ j : Nat, (j < 236) → u1 j = u j := fun j h0 => (congrFun hu2 j).trans ((up_n (by omega)).trans (fr0 j h0))
  refine lv_bipush (v := iI (8)) hx hb d_M_encrypt_10 (by decide +kernel) ?_
  refine lv_iconst (v := iI (2)) hx hb d_M_encrypt_12 rfl ?_
  refine lv_iload_n hx hb d_M_encrypt_13 rfl (lv_at hl 1 rfl) ?_
  refine x_imul hx hb d_M_encrypt_14 ?_
  refine x_iadd hx hb d_M_encrypt_15 ?_
  refine lv_iconst (v := iI (1)) hx hb d_M_encrypt_16 rfl ?_
  refine x_iadd hx hb d_M_encrypt_17 ?_
  refine x_ie (y := 9 + 2 * x) (by omega) ?_
  refine lv_istore_n (lv' := [(2, .int (iI (9 + 2 * x))), (0, .ref (b + 236)), (1, .int (iI (x)))]) hx hb d_M_encrypt_18 rfl hl (by decide) rfl (fun ls hl => ?_)
  refine lv_aload_n hx hb d_M_encrypt_19 rfl (lv_at hl 1 rfl) ?_
  refine lv_iload_n hx hb d_M_encrypt_20 rfl (lv_at hl 0 rfl) ?_
  refine w_callv (va_runV (As := [.int (iI (9 + 2 * x))]) (rest := []) ⟨hx, hb, hml, hown, hts⟩ (c_MdrawUniform l D ct st ke b N u1 (by omega) (iI (fi x)) cnt ff3 ⟨⟨pr, ff4, hp2⟩, ⟨bg, ff5, hb2⟩, ut, ff6, hut2⟩ R ff8 (9 + 2 * x) (by omega) (by omega)) (cwV 1 hts (gV t_475 t_477 (tb_sel ((y_M_drawUniform), 19) (List.mem_of_getElem? (i := 16) (by decide +kernel))) t_9 t_478) rfl rfl rfl (by decide +kernel) ⟨Nat.le_of_ble_eq_true rfl, Nat.le_of_ble_eq_true rfl⟩) (pre_V E hP hS (236) (by omega) ff3 rfl) rfl rfl hl.1 rfl (lv_room (Nat.le_of_ble_eq_true rfl)) d_M_encrypt_21 ⟨(Nat.le_of_ble_eq_true rfl), (Nat.le_of_ble_eq_true rfl)⟩) hS (fun z22 H locs hz hP hS => ?_)
  obtain ⟨R1, a1, a2, a3, a4, a5⟩ := hz
  have ff24 : z22 238 = ir ct 4 (pr) := (a5 238 (by omega) (by omega)).trans ff4
  have ff25 : z22 239 = lr ct 4 (bg) := (a5 239 (by omega) (by omega)).trans ff5
  have ff26 : z22 240 = lr ct 4 (ut) := (a5 240 (by omega) (by omega)).trans ff6
  have ff27 : z22 241 = ir ct 8 (sc) := (a5 241 (by omega) (by omega)).trans ff7
  have ff28 : z22 242 = ir ct 8 (sm) := (a5 242 (by omega) (by omega)).trans ff9
  have ff29 : z22 243 = ir ct 8 (ms) := (a5 243 (by omega) (by omega)).trans ff10
  have ff30 : z22 244 = ir ct 24 (kd) := (a5 244 (by omega) (by omega)).trans ff11
  have ff31 : z22 245 = ir ct 24 (fi) := (a5 245 (by omega) (by omega)).trans ff12
  have ff32 : z22 246 = ir ct 24 (se) := (a5 246 (by omega) (by omega)).trans ff13
  have ff33 : z22 247 = ir ct 192 (pl) := (a5 247 (by omega) (by omega)).trans ff14
  have ff34 : z22 248 = zr ct 24 (hs) := (a5 248 (by omega) (by omega)).trans ff15
  have ff35 : z22 249 = ir ct 24 (lv) := (a5 249 (by omega) (by omega)).trans ff16
  have ff36 : z22 250 = lr ct 24 (mt) := (a5 250 (by omega) (by omega)).trans ff17
  have ff37 : z22 251 = ir ct 2 (wv) := (a5 251 (by omega) (by omega)).trans ff18
  have ff38 : z22 252 = lr ct 2 (wm) := (a5 252 (by omega) (by omega)).trans ff19
  have ff39 : z22 253 = lr ct 8 (vv) := (a5 253 (by omega) (by omega)).trans ff20
  have fr40 : ∀ j : Nat, (j < 236) → z22 j = u j := fun j h0 => (a5 j (by omega) (by omega)).trans (fr21 j h0)
  refine lv_aload_n hx hb d_M_encrypt_24 rfl (lv_at hl 1 rfl) ?_
  refine w_callv (va_runV (As := []) (rest := []) ⟨hx, hb, hml, hown, hts⟩ (c_MdrawSmall l D ct st ke b N z22 (by omega) (it 32 (iI (fi x))) cnt a2 sm ff28) (cwV 0 hts (gV t_465 t_467 (tb_sel ((y_M_drawSmall), 19) (List.mem_of_getElem? (i := 14) (by decide +kernel))) t_9 t_468) rfl rfl rfl (by decide +kernel) ⟨Nat.le_of_ble_eq_true rfl, Nat.le_of_ble_eq_true rfl⟩) (pre_V E hP hS (236) (by omega) a2 rfl) rfl rfl hl.1 rfl (lv_room (Nat.le_of_ble_eq_true rfl)) d_M_encrypt_25 ⟨(Nat.le_of_ble_eq_true rfl), (Nat.le_of_ble_eq_true rfl)⟩) hS (fun z41 H locs hz hP hS => ?_)
  obtain ⟨sm1, b1, b2, b3, b4⟩ := hz
  have ff43 : z41 238 = ir ct 4 (pr) := (b4 238 (by omega) (by omega)).trans ff24
  have ff44 : z41 239 = lr ct 4 (bg) := (b4 239 (by omega) (by omega)).trans ff25
  have ff45 : z41 240 = lr ct 4 (ut) := (b4 240 (by omega) (by omega)).trans ff26
  have ff46 : z41 241 = ir ct 8 (sc) := (b4 241 (by omega) (by omega)).trans ff27
  have ff47 : z41 243 = ir ct 8 (ms) := (b4 243 (by omega) (by omega)).trans ff29
  have ff48 : z41 244 = ir ct 24 (kd) := (b4 244 (by omega) (by omega)).trans ff30
  have ff49 : z41 245 = ir ct 24 (fi) := (b4 245 (by omega) (by omega)).trans ff31
  have ff50 : z41 246 = ir ct 24 (se) := (b4 246 (by omega) (by omega)).trans ff32
  have ff51 : z41 247 = ir ct 192 (pl) := (b4 247 (by omega) (by omega)).trans ff33
  have ff52 : z41 248 = zr ct 24 (hs) := (b4 248 (by omega) (by omega)).trans ff34
  have ff53 : z41 249 = ir ct 24 (lv) := (b4 249 (by omega) (by omega)).trans ff35
  have ff54 : z41 250 = lr ct 24 (mt) := (b4 250 (by omega) (by omega)).trans ff36
  have ff55 : z41 251 = ir ct 2 (wv) := (b4 251 (by omega) (by omega)).trans ff37
  have ff56 : z41 252 = lr ct 2 (wm) := (b4 252 (by omega) (by omega)).trans ff38
  have ff57 : z41 253 = lr ct 8 (vv) := (b4 253 (by omega) (by omega)).trans ff39
  have ff58 : z41 237 = lr ct 512 (R1) := (b4 237 (by omega) (by omega)).trans a1
  have fr59 : ∀ j : Nat, (j < 236) → z41 j = u j := fun j h0 => (b4 j (by omega) (by omega)).trans (fr40 j h0)
  refine lv_iconst (v := iI (0)) hx hb d_M_encrypt_28 rfl ?_
  refine lv_istore_n (lv' := [(3, .int (iI (0))), (2, .int (iI (9 + 2 * x))), (0, .ref (b + 236)), (1, .int (iI (x)))]) hx hb d_M_encrypt_29 rfl hl (by decide) rfl (fun ls hl => ?_)
  have fr60 : ∀ j : Nat, (j ≠ 237) → z41 j = z41 j := fun _ _ => rfl
  have lo : ∀ (d : Nat) (i : Int) (R2 : Int → Int) (w61 : Nat → va_E) (H : Heap) (locs : List Loc) (ls : Array Slot), (0 ≤ i) → (i ≤ 8) → (8 - i < d) → (∀ q : Int, 0 ≤ q → q < i → R2 (8 * (8 + 2 * x) + q) = (17 * sml (it 32 (iI (fi x))) q - nc (uni (iI (fi x))) S q + X q) % lQ 3) → (∀ j : Int, (j < 8 * (8 + 2 * x) ∨ 8 * (8 + 2 * x) + 8 ≤ j) → R2 j = R1 j) → w61 237 = lr ct 512 (R2) → (∀ j : Nat, (j ≠ 237) → w61 j = z41 j) → va_P D vwCl (wl N b w61) H → va_S (AA b) s.heap H locs → lv_has ls 6 [(3, .int (iI (i))), (2, .int (iI (9 + 2 * x))), (0, .ref (b + 236)), (1, .int (iI (x)))] → W p l e rm_c_encrypt s m args below meth c H locs 0 0 Q (F0 m 30 ls []) := by
    intro d
    induction d with
    | zero => intro i R2 w61 H locs ls h0 h1 hd hg hk fg62 fr63 hP hS hl; exfalso; omega
    | succ d ihlo =>
      intro i R2 w61 H locs ls h0 h1 hd hg hk fg62 fr63 hP hS hl
      have ff64 : w61 238 = ir ct 4 (pr) := (fr63 238 (by omega)).trans ff43
      have ff65 : w61 239 = lr ct 4 (bg) := (fr63 239 (by omega)).trans ff44
      have ff66 : w61 240 = lr ct 4 (ut) := (fr63 240 (by omega)).trans ff45
      have ff67 : w61 241 = ir ct 8 (sc) := (fr63 241 (by omega)).trans ff46
      have ff68 : w61 243 = ir ct 8 (ms) := (fr63 243 (by omega)).trans ff47
      have ff69 : w61 244 = ir ct 24 (kd) := (fr63 244 (by omega)).trans ff48
      have ff70 : w61 245 = ir ct 24 (fi) := (fr63 245 (by omega)).trans ff49
      have ff71 : w61 246 = ir ct 24 (se) := (fr63 246 (by omega)).trans ff50
      have ff72 : w61 247 = ir ct 192 (pl) := (fr63 247 (by omega)).trans ff51
      have ff73 : w61 248 = zr ct 24 (hs) := (fr63 248 (by omega)).trans ff52
      have ff74 : w61 249 = ir ct 24 (lv) := (fr63 249 (by omega)).trans ff53
      have ff75 : w61 250 = lr ct 24 (mt) := (fr63 250 (by omega)).trans ff54
      have ff76 : w61 251 = ir ct 2 (wv) := (fr63 251 (by omega)).trans ff55
      have ff77 : w61 252 = lr ct 2 (wm) := (fr63 252 (by omega)).trans ff56
      have ff78 : w61 253 = lr ct 8 (vv) := (fr63 253 (by omega)).trans ff57
      have ff79 : w61 242 = ir ct 8 (sm1) := (fr63 242 (by omega)).trans b1
      have ff80 : w61 236 = .inr (6, [.ref (b + 237), .ref (b + 238), .ref (b + 239), .ref (b + 240), .ref (b + 241), .ref (b + 242), .int (it 8 (it 32 (iI (fi x)))), .ref (b + 243), .int (iI (cnt)), .ref (b + 244), .ref (b + 245), .ref (b + 246), .ref (b + 247), .ref (b + 248), .ref (b + 249), .ref (b + 250), .ref (b + 251), .ref (b + 252), .ref (b + 253)]) := (fr63 236 (by omega)).trans b2
      refine lv_iload_n hx hb d_M_encrypt_30 rfl (lv_at hl 0 rfl) ?_
      refine lv_bipush (v := iI (8)) hx hb d_M_encrypt_31 (by decide +kernel) ?_
      refine x_icmp_ge (tgt := 103) hx hb ⟨by omega, by omega⟩ ⟨by omega, by omega⟩ d_M_encrypt_33 (by decide) (fun hc => ?_) (fun hc => ?_)
      · obtain rfl : i = 8 := by omega
        refine lv_aload_n hx hb d_M_encrypt_103 rfl (lv_at hl 2 rfl) ?_
        refine lv_iload_n hx hb d_M_encrypt_104 rfl (lv_at hl 3 rfl) ?_
        refine lv_iconst (v := iI (3)) hx hb d_M_encrypt_105 rfl ?_
        refine lv_ldc2 hx hb hown kk3 d_M_encrypt_106 ?_
        refine x_l (y := lI (33)) (by decide +kernel) ?_
        refine w_calli (va_runV (As := [.int (iI (x)), .int (iI (3)), .long (lI (33))]) (rest := []) ⟨hx, hb, hml, hown, hts⟩ (c_keep l D ct st ke b N w61 (by omega) (it 8 (it 32 (iI (fi x)))) cnt S R2 sm1 ms kd fi se pl hs lv mt wv wm vv ⟨ff80, ⟨⟨pr, ff64, hp2⟩, ⟨bg, ff65, hb2⟩, ut, ff66, hut2⟩, ⟨sc, ff67, hs2⟩, fg62, ff79, ff68, ff69, ff70, ff71, ff72, ff73, ff74, ff75, ff76, ff77, ff78⟩ x (3) (33) hx0 hx1 (by decide) (by decide) ⟨by decide, by decide⟩) (cwV 3 hts (gV t_622 t_624 (tb_sel ((y_M_keep), 19) (List.mem_of_getElem? (i := 25) (by decide +kernel))) t_9 t_625) rfl rfl rfl (by decide +kernel) ⟨Nat.le_of_ble_eq_true rfl, Nat.le_of_ble_eq_true rfl⟩) (pre_V E hP hS (236) (by omega) ff80 rfl) rfl rfl hl.1 rfl (lv_room (Nat.le_of_ble_eq_true rfl)) d_M_encrypt_109 ⟨(Nat.le_of_ble_eq_true rfl), (Nat.le_of_ble_eq_true rfl)⟩) hS (fun r82 z81 H locs hz hP hS => ?_)
        obtain ⟨rfl, hKW, hKf⟩ := hz
        have ht : tg 3 33 = 0 := by decide
        have hRV : RV R2 (8 * (8 + 2 * x)) (inV S (iI (fi x)) X) := ⟨hg, fun i h0 h1 => by rw [hk _ (by omega), show 8 * (8 + 2 * x) + 8 + i = 8 * (9 + 2 * x) + i by omega]; exact a3 i h0 h1⟩
        exact ret _ z81 H locs 112 ls (by omega) ⟨⟨_, R2, sm1, _, _, _, _, _, hKW, fun j h0 h1 => (hk j (by omega)).trans (a4 j (by omega)), fun y hy => ⟨zu_n hy, zu_n hy, zu_n hy⟩, Or.inl ⟨_, rfl, by rw [ht]; rfl, by rw [zu_s, ht]; rfl, zu_s, zu_s, hRV⟩⟩, fun j h => (hKf j h).trans ((fr63 j (by omega)).trans (fr59 j h))⟩ hP hS d_M_encrypt_112
      · have bX := hX i h0 (by omega)
        have bs := sml_bd (it 32 (iI (fi x))) i
        refine lv_aload_n hx hb d_M_encrypt_36 rfl (lv_at hl 2 rfl) ?_
        refine w_get (C := "LevelledRingModel") (T := T_M) (M := 19) hx hb hts hinM hown hK hP (236) (by omega) ff80 rfl 12 (by decide) kk4 (fun _ h => h) rfl d_M_encrypt_37 ?_
        refine lv_bipush (v := iI (8)) hx hb d_M_encrypt_40 (by decide +kernel) ?_
        refine lv_iload_n hx hb d_M_encrypt_42 rfl (lv_at hl 3 rfl) ?_
        refine x_imul hx hb d_M_encrypt_43 ?_
        refine lv_iload_n hx hb d_M_encrypt_44 rfl (lv_at hl 0 rfl) ?_
        refine x_iadd hx hb d_M_encrypt_45 ?_
        refine w_iald hx hb hK hP (247) (by omega) ff72 (by omega) (by omega) (by omega) d_M_encrypt_46 ?_
        refine x_ie (y := X i) (hpl i h0 (by omega)) ?_
        refine lv_bipush (v := iI (17)) hx hb d_M_encrypt_47 (by decide +kernel) ?_
        refine lv_aload_n hx hb d_M_encrypt_49 rfl (lv_at hl 2 rfl) ?_
        refine w_get (C := "LevelledRingModel") (T := T_M) (M := 19) hx hb hts hinM hown hK hP (236) (by omega) ff80 rfl 5 (by decide) kk5 (fun _ h => h) rfl d_M_encrypt_50 ?_
        refine lv_iload_n hx hb d_M_encrypt_53 rfl (lv_at hl 0 rfl) ?_
        refine w_iald hx hb hK hP (242) (by omega) ff79 (by omega) (by omega) (by omega) d_M_encrypt_54 ?_
        refine x_ie (y := sml (it 32 (iI (fi x))) i) (b3 i h0 (by omega)) ?_
        refine x_imul hx hb d_M_encrypt_55 ?_
        refine x_iadd hx hb d_M_encrypt_56 ?_
        refine x_i2l hx hb ⟨by omega, by omega⟩ d_M_encrypt_57 ?_
        refine lv_aload_n hx hb d_M_encrypt_58 rfl (lv_at hl 2 rfl) ?_
        refine lv_iload_n hx hb d_M_encrypt_59 rfl (lv_at hl 1 rfl) ?_
        refine lv_iload_n hx hb d_M_encrypt_60 rfl (lv_at hl 0 rfl) ?_
        refine lv_aload_n hx hb d_M_encrypt_61 rfl (lv_at hl 2 rfl) ?_
        refine w_get (C := "LevelledRingModel") (T := T_M) (M := 19) hx hb hts hinM hown hK hP (236) (by omega) ff80 rfl 2 (by decide) kk6 (fun _ h => h) rfl d_M_encrypt_62 ?_
        refine lv_iconst (v := iI (3)) hx hb d_M_encrypt_65 rfl ?_
        refine w_lald hx hb hK hP (239) (by omega) ff65 (by omega) (by omega) (by omega) d_M_encrypt_66 ?_
        refine x_le (y := lQ 3) (hb2 3 (by decide) (by decide)) ?_
        have hRu : ∀ j : Int, 0 ≤ j → j < 8 → R2 (8 * (9 + 2 * x) + j) = uni (iI (fi x)) j := fun j h2 h3 => (hk _ (by omega)).trans (a3 j h2 h3)
        refine w_calll (va_runV (As := [.int (iI (9 + 2 * x)), .int (iI (i)), .long (lI (lQ 3))]) (rest := [.long (lI ((X i) + ((17) * (sml (it 32 (iI (fi x))) i))))]) ⟨hx, hb, hml, hown, hts⟩ (c_withSecret l D ct st ke b N w61 (by omega) (it 8 (it 32 (iI (fi x)))) cnt ff80 S ⟨sc, ff67, hs2⟩ hS1 R2 fg62 (9 + 2 * x) i (lQ 3) (by omega) (by omega) h0 (by omega) (lQ_p 3) (lQ_bd 3).2 (fun j h2 h3 => by rw [hRu j h2 h3]; exact ⟨(uni_bd _ _).1, Int.le_of_lt (uni_bd _ _).2⟩)) (cwV 3 hts (gV t_489 t_491 (tb_sel ((y_M_withSecret), 19) (List.mem_of_getElem? (i := 18) (by decide +kernel))) t_9 t_492) rfl rfl rfl (by decide +kernel) ⟨Nat.le_of_ble_eq_true rfl, Nat.le_of_ble_eq_true rfl⟩) (pre_V E hP hS (236) (by omega) ff80 rfl) rfl rfl hl.1 rfl (lv_room (Nat.le_of_ble_eq_true rfl)) d_M_encrypt_67 ⟨(Nat.le_of_ble_eq_true rfl), (Nat.le_of_ble_eq_true rfl)⟩) hS (fun r84 z83 H locs hz hP hS => ?_)
        obtain ⟨rfl, rfl⟩ := hz
        have bw := md_b (nc (fun j => R2 (8 * (9 + 2 * x) + j)) S i) 3
        have bQ := lQ_bd 3
        refine x_lsub hx hb d_M_encrypt_70 ?_
        refine lv_lstore (lv' := [(4, .long (lI (((X i) + ((17) * (sml (it 32 (iI (fi x))) i))) - (nc (fun j => R2 (8 * (9 + 2 * x) + j)) S i % lQ 3)))), (3, .int (iI (i))), (2, .int (iI (9 + 2 * x))), (0, .ref (b + 236)), (1, .int (iI (x)))]) hx hb d_M_encrypt_71 hl (by decide) rfl (fun ls hl => ?_)
        refine lv_aload_n hx hb d_M_encrypt_73 rfl (lv_at hl 3 rfl) ?_
        refine w_get (C := "LevelledRingModel") (T := T_M) (M := 19) hx hb hts hinM hown hK hP (236) (by omega) ff80 rfl 0 (by decide) kk7 (fun _ h => h) rfl d_M_encrypt_74 ?_
        refine lv_bipush (v := iI (8)) hx hb d_M_encrypt_77 (by decide +kernel) ?_
        refine lv_iload_n hx hb d_M_encrypt_79 rfl (lv_at hl 2 rfl) ?_
        refine lv_iconst (v := iI (1)) hx hb d_M_encrypt_80 rfl ?_
        refine x_isub hx hb d_M_encrypt_81 ?_
        refine x_imul hx hb d_M_encrypt_82 ?_
        refine lv_iload_n hx hb d_M_encrypt_83 rfl (lv_at hl 1 rfl) ?_
        refine x_iadd hx hb d_M_encrypt_84 ?_
        refine lv_lload hx hb d_M_encrypt_85 (lv_at hl 0 rfl) ?_
        refine lv_aload_n hx hb d_M_encrypt_87 rfl (lv_at hl 3 rfl) ?_
        refine w_get (C := "LevelledRingModel") (T := T_M) (M := 19) hx hb hts hinM hown hK hP (236) (by omega) ff80 rfl 2 (by decide) kk6 (fun _ h => h) rfl d_M_encrypt_88 ?_
        refine lv_iconst (v := iI (3)) hx hb d_M_encrypt_91 rfl ?_
        refine w_lald hx hb hK hP (239) (by omega) ff65 (by omega) (by omega) (by omega) d_M_encrypt_92 ?_
        refine x_le (y := lQ 3) (hb2 3 (by decide) (by decide)) ?_
        refine w_calll (va_runS (As := [.long (lI (((X i) + ((17) * (sml (it 32 (iI (fi x))) i))) - (nc (fun j => R2 (8 * (9 + 2 * x) + j)) S i % lQ 3))), .long (lI (lQ 3))]) (rest := [.int (iI (((8) * ((9 + 2 * x) - (1))) + (i))), .ref (b + 237)]) ⟨hx, hb, hml, hown, hts⟩ (c_Mmod l D ct st ke b N w61 (((X i) + ((17) * (sml (it 32 (iI (fi x))) i))) - (nc (fun j => R2 (8 * (9 + 2 * x) + j)) S i % lQ 3)) (lQ 3) ⟨by omega, by omega⟩ (lQ_p 3) (lQ_m 3)) (cwS 2 hts (gS t_486 t_487 t_9 t_488) rfl rfl rfl (by decide +kernel) ⟨Nat.le_of_ble_eq_true rfl, Nat.le_of_ble_eq_true rfl⟩) (pre_S E hP hS) rfl rfl hl.1 rfl (lv_room (Nat.le_of_ble_eq_true rfl)) d_M_encrypt_93 ⟨(Nat.le_of_ble_eq_true rfl), (Nat.le_of_ble_eq_true rfl)⟩) hS (fun r86 z85 H locs hz hP hS => ?_)
        obtain ⟨rfl, rfl⟩ := hz
        have en : nc (fun j => R2 (8 * (9 + 2 * x) + j)) S i = nc (uni (iI (fi x))) S i := nc_eq hRu (fun _ _ _ => rfl) h0 (by omega)
        refine x_le (y := (17 * sml (it 32 (iI (fi x))) i - nc (uni (iI (fi x))) S i + X i) % lQ 3) (by rw [en]; exact enc_eq _ _ _ _) ?_
        refine w_last hx hb hK hP hS (237) (by omega) fg62 (by omega) (by omega) (by omega) d_M_encrypt_96 (fun H locs hP hS => ?_)
        obtain ⟨u87, hu88, hP⟩ : ∃ zz : Nat → va_E, zz = va_up w61 237 (lr ct 512 (zu R2 (((8) * ((9 + 2 * x) - (1))) + (i)) ((17 * sml (it 32 (iI (fi x))) i - nc (uni (iI (fi x))) S i + X i) % lQ 3))) ∧ va_P D vwCl (wl N b zz) H := ⟨_, rfl, hP⟩
        have ff89 : u87 238 = ir ct 4 (pr) := (congrFun hu88 _).trans ((up_n (by omega)).trans ff64)
        have ff90 : u87 239 = lr ct 4 (bg) := (congrFun hu88 _).trans ((up_n (by omega)).trans ff65)
        have ff91 : u87 240 = lr ct 4 (ut) := (congrFun hu88 _).trans ((up_n (by omega)).trans ff66)
        have ff92 : u87 241 = ir ct 8 (sc) := (congrFun hu88 _).trans ((up_n (by omega)).trans ff67)
        have ff93 : u87 243 = ir ct 8 (ms) := (congrFun hu88 _).trans ((up_n (by omega)).trans ff68)
        have ff94 : u87 244 = ir ct 24 (kd) := (congrFun hu88 _).trans ((up_n (by omega)).trans ff69)
        have ff95 : u87 245 = ir ct 24 (fi) := (congrFun hu88 _).trans ((up_n (by omega)).trans ff70)
        have ff96 : u87 246 = ir ct 24 (se) := (congrFun hu88 _).trans ((up_n (by omega)).trans ff71)
        have ff97 : u87 247 = ir ct 192 (pl) := (congrFun hu88 _).trans ((up_n (by omega)).trans ff72)
        have ff98 : u87 248 = zr ct 24 (hs) := (congrFun hu88 _).trans ((up_n (by omega)).trans ff73)
        have ff99 : u87 249 = ir ct 24 (lv) := (congrFun hu88 _).trans ((up_n (by omega)).trans ff74)
        have ff100 : u87 250 = lr ct 24 (mt) := (congrFun hu88 _).trans ((up_n (by omega)).trans ff75)
        have ff101 : u87 251 = ir ct 2 (wv) := (congrFun hu88 _).trans ((up_n (by omega)).trans ff76)
        have ff102 : u87 252 = lr ct 2 (wm) := (congrFun hu88 _).trans ((up_n (by omega)).trans ff77)
        have ff103 : u87 253 = lr ct 8 (vv) := (congrFun hu88 _).trans ((up_n (by omega)).trans ff78)
        have ff104 : u87 242 = ir ct 8 (sm1) := (congrFun hu88 _).trans ((up_n (by omega)).trans ff79)
        have ff105 : u87 236 = .inr (6, [.ref (b + 237), .ref (b + 238), .ref (b + 239), .ref (b + 240), .ref (b + 241), .ref (b + 242), .int (it 8 (it 32 (iI (fi x)))), .ref (b + 243), .int (iI (cnt)), .ref (b + 244), .ref (b + 245), .ref (b + 246), .ref (b + 247), .ref (b + 248), .ref (b + 249), .ref (b + 250), .ref (b + 251), .ref (b + 252), .ref (b + 253)]) := (congrFun hu88 _).trans ((up_n (by omega)).trans ff80)
        have ff106 : u87 237 = lr ct 512 (zu R2 (((8) * ((9 + 2 * x) - (1))) + (i)) ((17 * sml (it 32 (iI (fi x))) i - nc (uni (iI (fi x))) S i + X i) % lQ 3)) := (congrFun hu88 _).trans up_s
        have fr107 : ∀ j : Nat, (j ≠ 237) → u87 j = z41 j := fun j h0 => (congrFun hu88 j).trans ((up_n (by omega)).trans (fr63 j h0))
        refine lv_iinc (k := 1) (v := iI (i + 1)) (lv' := [(3, .int (iI (i + 1))), (4, .long (lI (((X i) + ((17) * (sml (it 32 (iI (fi x))) i))) - (nc (fun j => R2 (8 * (9 + 2 * x) + j)) S i % lQ 3)))), (2, .int (iI (9 + 2 * x))), (0, .ref (b + 236)), (1, .int (iI (x)))]) hx hb d_M_encrypt_97 hl rfl (iI_add _ _) (by decide) rfl (fun ls hl => ?_)
        have hl : lv_has ls 6 [(3, .int (iI (i + 1))), (2, .int (iI (9 + 2 * x))), (0, .ref (b + 236)), (1, .int (iI (x)))] := lv_sub hl [0, 2, 3, 4] rfl
        refine lv_goto (tgt := 30) hx hb d_M_encrypt_100 (by decide) ?_
        refine ihlo (i + 1) _ u87 H locs ls (by omega) (by omega) (by omega) (fun q h2 h3 => ?_) (fun j h2 => by rw [zu_n (by omega)]; exact hk j h2) ff106 fr107 hP hS hl
        by_cases h4 : q = i
        · rw [h4, show 8 * (9 + 2 * x - 1) + i = 8 * (8 + 2 * x) + i by omega, zu_s]
        · rw [zu_n (by omega)]; exact hg q h2 (by omega)
  exact lo 9 0 R1 z41 H locs ls (by omega) (by omega) (by omega) (fun q h2 h3 => by omega) (fun _ _ => rfl) ff58 fr60 hP hS hl
abbrev rm_c_combine : Room := { frames := 3, cells := 0, slots := 0, locals := 80 }
set_option maxHeartbeats 4000000 in
set_option maxRecDepth 100000 in
/-- combine(x, sg) -/
theorem c_combine (l : Launch) (D : va_G) (ct : Nat → ClassId) (st ke : Nat → Nat) (b N : Nat) (u : Nat → va_E) (hN : 254 ≤ N) (z0 : Int32) (cnt : Int) (S R sm ms kd fi se pl hs lv mt wv wm vv : Int → Int) (hW : MW ct b u z0 cnt S R sm ms kd fi se pl hs lv mt wv wm vv) (x : Int) (hx0 : 0 ≤ x) (hx1 : x < 24) (hh0 : hs x = 0) (v1 v2 : Val) (o1 : okW v1) (o2 : okW v2) (hf0 : 0 ≤ fi x) (hf1 : fi x < 24) (hs00 : 0 ≤ se x) (hs11 : se x < 24) (hG1 : GV R lv mt (fi x) v1) (hG2 : GV R lv mt (se x) v2) (sg : Int) (hsg : sg = 1 ∨ sg = -1) : Met l y_M_combine (w_M_combine) rm_c_combine (va_Pc [.ref (b + 236), .int (iI (x)), .int (iI (sg))] (fun U => ev D ct st ke b U ∧ va_P D vwCl (wl N b u) U.heap)) (va_Qi (fun (r : Int32) (z : Nat → va_E) => VP ct b z cnt S R ms kd fi se pl hs lv mt vv x ((opn v1 v2).bind (sumV sg)) r ∧ ∀ j : Nat, j < 236 → z j = u j) (fun (z : Nat → va_E) t => va_P D vwCl (wl (N) b (z)) t.heap) (AA b)) 0 0 (AA b) := by
  refine M_z (cc := c9_M_combine) (maxL := 5) (by decide) rfl (Nat.le_of_ble_eq_true rfl) ?_
  intro p e s m args below meth c Q ls H locs hx hb hml hown hts hnm E hP hS hl ret
  have hl : lv_has ls 5 [(0, .ref (b + 236)), (1, .int (iI (x))), (2, .int (iI (sg)))] := hl
  have hK := ev_K E
  have kk0 := hts (.fieldLink "LevelledRingModel" 35 "LevelledRingModel" "first" "[I") (List.mem_cons_of_mem _ t_503)
  have hinM : ∀ w ∈ u_ws "LevelledRingModel" T_M 19, w ∈ (w_M_combine) := hin_M _
  have kk2 := hts (.fieldLink "LevelledRingModel" 38 "LevelledRingModel" "second" "[I") (List.mem_cons_of_mem _ t_504)
  have kk3 := hts (.fieldLink "LevelledRingModel" 54 "LevelledRingModel" "workLevel" "[I") (List.mem_cons_of_mem _ t_509)
  have kk4 := hts (.fieldLink "LevelledRingModel" 57 "LevelledRingModel" "workMeter" "[J") (List.mem_cons_of_mem _ t_510)
  have kk5 := hts (.fieldLink "LevelledRingModel" 7 "LevelledRingModel" "row" "[J") (List.mem_cons_of_mem _ t_493)
  have kk6 := hts (.fieldLink "LevelledRingModel" 17 "LevelledRingModel" "big" "[J") (List.mem_cons_of_mem _ t_495)
  have fr0 : ∀ j : Nat, (j < 236) → u j = u j := fun _ _ => rfl
  obtain ⟨mM, ⟨⟨pr, hp1, hp2⟩, ⟨bg, hb1, hb2⟩, ut, hut1, hut2⟩, ⟨sc, hs1, hs2⟩, m0, m1, m2, m3, m4, m5, m6, m7, m8, m9, m10, m11, m12⟩ := hW
  refine lv_aload_n hx hb d_M_combine_0 rfl (lv_at hl 0 rfl) ?_
  refine lv_aload_n hx hb d_M_combine_1 rfl (lv_at hl 0 rfl) ?_
  refine w_get (C := "LevelledRingModel") (T := T_M) (M := 19) hx hb hts hinM hown hK hP (236) (by omega) mM rfl 10 (by decide) kk0 (fun _ h => h) rfl d_M_combine_2 ?_
  refine lv_iload_n hx hb d_M_combine_5 rfl (lv_at hl 1 rfl) ?_
  refine w_iald hx hb hK hP (245) (by omega) m4 (by omega) (by omega) (by omega) d_M_combine_6 ?_
  refine lv_aload_n hx hb d_M_combine_7 rfl (lv_at hl 0 rfl) ?_
  refine w_get (C := "LevelledRingModel") (T := T_M) (M := 19) hx hb hts hinM hown hK hP (236) (by omega) mM rfl 11 (by decide) kk2 (fun _ h => h) rfl d_M_combine_8 ?_
  refine lv_iload_n hx hb d_M_combine_11 rfl (lv_at hl 1 rfl) ?_
  refine w_iald hx hb hK hP (246) (by omega) m5 (by omega) (by omega) (by omega) d_M_combine_12 ?_
  refine w_calli (va_runV (As := [.int (iI (fi (x))), .int (iI (se (x)))]) (rest := []) ⟨hx, hb, hml, hown, hts⟩ (c_level2 l D ct st ke b N u (by omega) z0 cnt S R sm ms kd fi se pl hs lv mt wv wm vv ⟨mM, ⟨⟨pr, hp1, hp2⟩, ⟨bg, hb1, hb2⟩, ut, hut1, hut2⟩, ⟨sc, hs1, hs2⟩, m0, m1, m2, m3, m4, m5, m6, m7, m8, m9, m10, m11, m12⟩ (fi x) (se x) hf0 hf1 hs00 hs11 v1 v2 o1 o2 hG1 hG2) (cwV 2 hts (gV t_635 t_637 (tb_sel ((y_M_level2), 19) (List.mem_of_getElem? (i := 28) (by decide +kernel))) t_9 t_638) rfl rfl rfl (by decide +kernel) ⟨Nat.le_of_ble_eq_true rfl, Nat.le_of_ble_eq_true rfl⟩) (pre_V E hP hS (236) (by omega) mM rfl) rfl rfl hl.1 rfl (lv_room (Nat.le_of_ble_eq_true rfl)) d_M_combine_13 ⟨(Nat.le_of_ble_eq_true rfl), (Nat.le_of_ble_eq_true rfl)⟩) hS (fun r z1 H locs hz hP hS => ?_)
  obtain ⟨R2, wv2, wm2, hW2, hR2, hz, hzf⟩ := hz
  have fr3 : ∀ j : Nat, (j < 236) → z1 j = u j := fun j h0 => (hzf j (by omega)).trans (fr0 j h0)
  obtain ⟨q2M, ⟨⟨pr, hp1, hp2⟩, ⟨bg, hb1, hb2⟩, ut, hut1, hut2⟩, ⟨sc, hs1, hs2⟩, q2m0, q2m1, q2m2, q2m3, q2m4, q2m5, q2m6, q2m7, q2m8, q2m9, q2m10, q2m11, q2m12⟩ := hW2
  rcases hz with ⟨pq, t1, t2, t3, t4, t5, t6⟩ | ⟨t1, t2⟩
  · subst t2
    refine x_if_ne (tgt := 21) hx hb ⟨by omega, by omega⟩ d_M_combine_16 (by decide) (fun hc => ?_) (fun hc => by exfalso; omega)
    have oe := (opn_ok o1.1 o2.1 t1).2.2
    have l0 := t5.1.1
    have l3 := t5.1.2.1
    have bm1 := t5.1.bd
    have bm2 := t6.1.bd
    have n1 := t5.1.2.2.1
    have n2 := t6.1.2.2.1
    refine lv_aload_n hx hb d_M_combine_21 rfl (lv_at hl 0 rfl) ?_
    refine w_get (C := "LevelledRingModel") (T := T_M) (M := 19) hx hb hts hinM hown hK hP (236) (by omega) q2M rfl 16 (by decide) kk3 (fun _ h => h) rfl d_M_combine_22 ?_
    refine lv_iconst (v := iI (0)) hx hb d_M_combine_25 rfl ?_
    refine w_iald hx hb hK hP (251) (by omega) q2m10 (by omega) (by omega) (by omega) d_M_combine_26 ?_
    refine x_ie (y := pq.1.1) (t3.1) ?_
    refine lv_istore_n (lv' := [(3, .int (iI (pq.1.1))), (0, .ref (b + 236)), (1, .int (iI (x))), (2, .int (iI (sg)))]) hx hb d_M_combine_27 rfl hl (by decide) rfl (fun ls hl => ?_)
    refine lv_iconst (v := iI (0)) hx hb d_M_combine_28 rfl ?_
    refine lv_istore (lv' := [(4, .int (iI (0))), (3, .int (iI (pq.1.1))), (0, .ref (b + 236)), (1, .int (iI (x))), (2, .int (iI (sg)))]) hx hb d_M_combine_29 hl (by decide) rfl (fun ls hl => ?_)
    have fr4 : ∀ j : Nat, (j ≠ 237) → z1 j = z1 j := fun _ _ => rfl
    have lo : ∀ (d : Nat) (i : Int) (R3 : Int → Int) (w5 : Nat → va_E) (H : Heap) (locs : List Loc) (ls : Array Slot), (0 ≤ i) → (i ≤ 16) → (16 - i < d) → (∀ q : Int, 0 ≤ q → q < i → R3 (8 * (8 + 2 * x) + q) = (R2 (448 + q) + sg * R2 (464 + q)) % lQ pq.1.1) → (∀ j : Int, (j < 8 * (8 + 2 * x) ∨ 8 * (8 + 2 * x) + 16 ≤ j) → R3 j = R2 j) → w5 237 = lr ct 512 (R3) → (∀ j : Nat, (j ≠ 237) → w5 j = z1 j) → va_P D vwCl (wl N b w5) H → va_S (AA b) s.heap H locs → lv_has ls 5 [(4, .int (iI (i))), (3, .int (iI (pq.1.1))), (0, .ref (b + 236)), (1, .int (iI (x))), (2, .int (iI (sg)))] → W p l e rm_c_combine s m args below meth c H locs 0 0 Q (F0 m 31 ls []) := by
      intro d
      induction d with
      | zero => intro i R3 w5 H locs ls h0 h1 hd hg hk fg6 fr7 hP hS hl; exfalso; omega
      | succ d ihlo =>
        intro i R3 w5 H locs ls h0 h1 hd hg hk fg6 fr7 hP hS hl
        have ff8 : w5 236 = .inr (6, [.ref (b + 237), .ref (b + 238), .ref (b + 239), .ref (b + 240), .ref (b + 241), .ref (b + 242), .int (z0), .ref (b + 243), .int (iI (cnt)), .ref (b + 244), .ref (b + 245), .ref (b + 246), .ref (b + 247), .ref (b + 248), .ref (b + 249), .ref (b + 250), .ref (b + 251), .ref (b + 252), .ref (b + 253)]) := (fr7 236 (by omega)).trans q2M
        have ff9 : w5 238 = ir ct 4 (pr) := (fr7 238 (by omega)).trans hp1
        have ff10 : w5 239 = lr ct 4 (bg) := (fr7 239 (by omega)).trans hb1
        have ff11 : w5 240 = lr ct 4 (ut) := (fr7 240 (by omega)).trans hut1
        have ff12 : w5 241 = ir ct 8 (sc) := (fr7 241 (by omega)).trans hs1
        have ff13 : w5 242 = ir ct 8 (sm) := (fr7 242 (by omega)).trans q2m1
        have ff14 : w5 243 = ir ct 8 (ms) := (fr7 243 (by omega)).trans q2m2
        have ff15 : w5 244 = ir ct 24 (kd) := (fr7 244 (by omega)).trans q2m3
        have ff16 : w5 245 = ir ct 24 (fi) := (fr7 245 (by omega)).trans q2m4
        have ff17 : w5 246 = ir ct 24 (se) := (fr7 246 (by omega)).trans q2m5
        have ff18 : w5 247 = ir ct 192 (pl) := (fr7 247 (by omega)).trans q2m6
        have ff19 : w5 248 = zr ct 24 (hs) := (fr7 248 (by omega)).trans q2m7
        have ff20 : w5 249 = ir ct 24 (lv) := (fr7 249 (by omega)).trans q2m8
        have ff21 : w5 250 = lr ct 24 (mt) := (fr7 250 (by omega)).trans q2m9
        have ff22 : w5 251 = ir ct 2 (wv2) := (fr7 251 (by omega)).trans q2m10
        have ff23 : w5 252 = lr ct 2 (wm2) := (fr7 252 (by omega)).trans q2m11
        have ff24 : w5 253 = lr ct 8 (vv) := (fr7 253 (by omega)).trans q2m12
        refine lv_iload hx hb d_M_combine_31 (lv_at hl 0 rfl) ?_
        refine lv_bipush (v := iI (16)) hx hb d_M_combine_33 (by decide +kernel) ?_
        refine x_icmp_ge (tgt := 96) hx hb ⟨by omega, by omega⟩ ⟨by omega, by omega⟩ d_M_combine_35 (by decide) (fun hc => ?_) (fun hc => ?_)
        · obtain rfl : i = 16 := by omega
          refine lv_aload_n hx hb d_M_combine_96 rfl (lv_at hl 2 rfl) ?_
          refine lv_iload_n hx hb d_M_combine_97 rfl (lv_at hl 3 rfl) ?_
          refine lv_iload_n hx hb d_M_combine_98 rfl (lv_at hl 1 rfl) ?_
          refine lv_aload_n hx hb d_M_combine_99 rfl (lv_at hl 2 rfl) ?_
          refine w_get (C := "LevelledRingModel") (T := T_M) (M := 19) hx hb hts hinM hown hK hP (236) (by omega) ff8 rfl 17 (by decide) kk4 (fun _ h => h) rfl d_M_combine_100 ?_
          refine lv_iconst (v := iI (0)) hx hb d_M_combine_103 rfl ?_
          refine w_lald hx hb hK hP (252) (by omega) ff23 (by omega) (by omega) (by omega) d_M_combine_104 ?_
          refine x_le (y := pq.1.2.1) (t3.2.1) ?_
          refine lv_aload_n hx hb d_M_combine_105 rfl (lv_at hl 2 rfl) ?_
          refine w_get (C := "LevelledRingModel") (T := T_M) (M := 19) hx hb hts hinM hown hK hP (236) (by omega) ff8 rfl 17 (by decide) kk4 (fun _ h => h) rfl d_M_combine_106 ?_
          refine lv_iconst (v := iI (1)) hx hb d_M_combine_109 rfl ?_
          refine w_lald hx hb hK hP (252) (by omega) ff23 (by omega) (by omega) (by omega) d_M_combine_110 ?_
          refine x_le (y := pq.2.2.1) (t4.2.1) ?_
          refine x_ladd hx hb d_M_combine_111 ?_
          refine w_calli (va_runV (As := [.int (iI (x)), .int (iI (pq.1.1)), .long (lI ((pq.1.2.1) + (pq.2.2.1)))]) (rest := []) ⟨hx, hb, hml, hown, hts⟩ (c_keep l D ct st ke b N w5 (by omega) z0 cnt S R3 sm ms kd fi se pl hs lv mt wv2 wm2 vv ⟨ff8, ⟨⟨pr, ff9, hp2⟩, ⟨bg, ff10, hb2⟩, ut, ff11, hut2⟩, ⟨sc, ff12, hs2⟩, fg6, ff13, ff14, ff15, ff16, ff17, ff18, ff19, ff20, ff21, ff22, ff23, ff24⟩ x (pq.1.1) (pq.1.2.1 + pq.2.2.1) hx0 hx1 l0 l3 ⟨by omega, by omega⟩) (cwV 3 hts (gV t_622 t_624 (tb_sel ((y_M_keep), 19) (List.mem_of_getElem? (i := 25) (by decide +kernel))) t_9 t_625) rfl rfl rfl (by decide +kernel) ⟨Nat.le_of_ble_eq_true rfl, Nat.le_of_ble_eq_true rfl⟩) (pre_V E hP hS (236) (by omega) ff8 rfl) rfl rfl hl.1 rfl (lv_room (Nat.le_of_ble_eq_true rfl)) d_M_combine_112 ⟨(Nat.le_of_ble_eq_true rfl), (Nat.le_of_ble_eq_true rfl)⟩) hS (fun r26 z25 H locs hz hP hS => ?_)
          obtain ⟨rfl, hKW, hKf⟩ := hz
          have ht := tg_01 pq.1.1 (pq.1.2.1 + pq.2.2.1)
          have hRV : RV R3 (8 * (8 + 2 * x)) (pq.1.1, pq.1.2.1 + pq.2.2.1, fun i => (pq.1.2.2.1 i + sg * pq.2.2.2.1 i) % lQ pq.1.1, fun i => (pq.1.2.2.2 i + sg * pq.2.2.2.2 i) % lQ pq.1.1) := ⟨fun i h0 h1 => by rw [hg i h0 (by omega)]; show _ = (pq.1.2.2.1 i + sg * pq.2.2.2.1 i) % lQ pq.1.1; rw [← t3.2.2.1 i h0 h1, ← t4.2.2.1 i h0 h1]; rfl, fun i h0 h1 => by rw [Int.add_assoc, hg (8 + i) (by omega) (by omega)]; show _ = (pq.1.2.2.2 i + sg * pq.2.2.2.2 i) % lQ pq.1.1; rw [← t3.2.2.2 i h0 h1, ← t4.2.2.2 i h0 h1, show (448 : Int) + (8 + i) = 8 * (56 + 2 * 0) + 8 + i by omega, show (464 : Int) + (8 + i) = 8 * (56 + 2 * 1) + 8 + i by omega]⟩
          refine ret _ z25 H locs 115 ls (by omega) ⟨⟨z0, R3, sm, _, _, _, wv2, wm2, hKW, fun j h0 h1 => (hk j h1).trans (hR2 j h0), fun y hy => ⟨zu_n hy, zu_n hy, zu_n hy⟩, ?_⟩, fun j h => (hKf j h).trans ((fr7 j (by omega)).trans (fr3 j h))⟩ hP hS d_M_combine_115
          rw [t1]
          show (∃ w, sumV sg pq = some w ∧ _) ∨ _
          unfold sumV
          rcases ht with ht | ht
          · rw [if_neg (by omega)]; exact Or.inl ⟨_, rfl, by rw [ht]; rfl, by rw [zu_s, ht]; rfl, zu_s, zu_s, hRV⟩
          · rw [if_pos ht]; exact Or.inr ⟨by show (if _ then _ else _) = _; rw [if_pos ht], by rw [ht]; rfl, by rw [zu_s, ht]; rfl⟩
        · have bQ := lQ_bd pq.1.1
          have b1 := t3.2.2.bd t5.2.1 t5.2.2 (i := i) h0 (by omega)
          have b2 := t4.2.2.bd t6.2.1 t6.2.2 (i := i) h0 (by omega)
          rw [← oe] at b2
          rw [show 8 * (56 + 2 * (0 : Int)) + i = 448 + i by omega] at b1
          rw [show 8 * (56 + 2 * (1 : Int)) + i = 464 + i by omega] at b2
          have bs : -715450762997731793 ≤ sg * R2 (464 + i) ∧ sg * R2 (464 + i) ≤ 715450762997731793 := mul_s (by omega) (by omega) b2.1 (by omega)
          refine lv_aload_n hx hb d_M_combine_38 rfl (lv_at hl 2 rfl) ?_
          refine w_get (C := "LevelledRingModel") (T := T_M) (M := 19) hx hb hts hinM hown hK hP (236) (by omega) ff8 rfl 0 (by decide) kk5 (fun _ h => h) rfl d_M_combine_39 ?_
          refine lv_bipush (v := iI (8)) hx hb d_M_combine_42 (by decide +kernel) ?_
          refine lv_bipush (v := iI (8)) hx hb d_M_combine_44 (by decide +kernel) ?_
          refine lv_iconst (v := iI (2)) hx hb d_M_combine_46 rfl ?_
          refine lv_iload_n hx hb d_M_combine_47 rfl (lv_at hl 3 rfl) ?_
          refine x_imul hx hb d_M_combine_48 ?_
          refine x_iadd hx hb d_M_combine_49 ?_
          refine x_imul hx hb d_M_combine_50 ?_
          refine lv_iload hx hb d_M_combine_51 (lv_at hl 0 rfl) ?_
          refine x_iadd hx hb d_M_combine_53 ?_
          refine lv_aload_n hx hb d_M_combine_54 rfl (lv_at hl 2 rfl) ?_
          refine w_get (C := "LevelledRingModel") (T := T_M) (M := 19) hx hb hts hinM hown hK hP (236) (by omega) ff8 rfl 0 (by decide) kk5 (fun _ h => h) rfl d_M_combine_55 ?_
          refine lv_sipush (v := iI (448)) hx hb d_M_combine_58 (by decide +kernel) ?_
          refine lv_iload hx hb d_M_combine_61 (lv_at hl 0 rfl) ?_
          refine x_iadd hx hb d_M_combine_63 ?_
          refine w_lald hx hb hK hP (237) (by omega) fg6 (by omega) (by omega) (by omega) d_M_combine_64 ?_
          refine x_le (y := R2 (448 + i)) (hk _ (by omega)) ?_
          refine lv_iload_n hx hb d_M_combine_65 rfl (lv_at hl 4 rfl) ?_
          refine x_i2l hx hb ⟨by omega, by omega⟩ d_M_combine_66 ?_
          refine lv_aload_n hx hb d_M_combine_67 rfl (lv_at hl 2 rfl) ?_
          refine w_get (C := "LevelledRingModel") (T := T_M) (M := 19) hx hb hts hinM hown hK hP (236) (by omega) ff8 rfl 0 (by decide) kk5 (fun _ h => h) rfl d_M_combine_68 ?_
          refine lv_sipush (v := iI (464)) hx hb d_M_combine_71 (by decide +kernel) ?_
          refine lv_iload hx hb d_M_combine_74 (lv_at hl 0 rfl) ?_
          refine x_iadd hx hb d_M_combine_76 ?_
          refine w_lald hx hb hK hP (237) (by omega) fg6 (by omega) (by omega) (by omega) d_M_combine_77 ?_
          refine x_le (y := R2 (464 + i)) (hk _ (by omega)) ?_
          refine x_lmul hx hb d_M_combine_78 ?_
          refine x_ladd hx hb d_M_combine_79 ?_
          refine lv_aload_n hx hb d_M_combine_80 rfl (lv_at hl 2 rfl) ?_
          refine w_get (C := "LevelledRingModel") (T := T_M) (M := 19) hx hb hts hinM hown hK hP (236) (by omega) ff8 rfl 2 (by decide) kk6 (fun _ h => h) rfl d_M_combine_81 ?_
          refine lv_iload_n hx hb d_M_combine_84 rfl (lv_at hl 1 rfl) ?_
          refine w_lald hx hb hK hP (239) (by omega) ff10 (by omega) (by omega) (by omega) d_M_combine_85 ?_
          refine x_le (y := lQ pq.1.1) (hb2 _ l0 l3) ?_
          refine w_calll (va_runS (As := [.long (lI ((R2 (448 + i)) + ((sg) * (R2 (464 + i))))), .long (lI (lQ pq.1.1))]) (rest := [.int (iI (((8) * ((8) + (2 * x))) + (i))), .ref (b + 237)]) ⟨hx, hb, hml, hown, hts⟩ (c_Mmod l D ct st ke b N w5 ((R2 (448 + i)) + ((sg) * (R2 (464 + i)))) (lQ pq.1.1) ⟨by omega, by omega⟩ (by omega) (by omega)) (cwS 2 hts (gS t_486 t_487 t_9 t_488) rfl rfl rfl (by decide +kernel) ⟨Nat.le_of_ble_eq_true rfl, Nat.le_of_ble_eq_true rfl⟩) (pre_S E hP hS) rfl rfl hl.1 rfl (lv_room (Nat.le_of_ble_eq_true rfl)) d_M_combine_86 ⟨(Nat.le_of_ble_eq_true rfl), (Nat.le_of_ble_eq_true rfl)⟩) hS (fun r28 z27 H locs hz hP hS => ?_)
          obtain ⟨rfl, rfl⟩ := hz
          refine w_last hx hb hK hP hS (237) (by omega) fg6 (by omega) (by omega) (by omega) d_M_combine_89 (fun H locs hP hS => ?_)
          obtain ⟨u29, hu30, hP⟩ : ∃ zz : Nat → va_E, zz = va_up w5 237 (lr ct 512 (zu R3 (((8) * ((8) + (2 * x))) + (i)) (((R2 (448 + i)) + ((sg) * (R2 (464 + i)))) % (lQ pq.1.1)))) ∧ va_P D vwCl (wl N b zz) H := ⟨_, rfl, hP⟩
          have ff31 : u29 236 = .inr (6, [.ref (b + 237), .ref (b + 238), .ref (b + 239), .ref (b + 240), .ref (b + 241), .ref (b + 242), .int (z0), .ref (b + 243), .int (iI (cnt)), .ref (b + 244), .ref (b + 245), .ref (b + 246), .ref (b + 247), .ref (b + 248), .ref (b + 249), .ref (b + 250), .ref (b + 251), .ref (b + 252), .ref (b + 253)]) := (congrFun hu30 _).trans ((up_n (by omega)).trans ff8)
          have ff32 : u29 238 = ir ct 4 (pr) := (congrFun hu30 _).trans ((up_n (by omega)).trans ff9)
          have ff33 : u29 239 = lr ct 4 (bg) := (congrFun hu30 _).trans ((up_n (by omega)).trans ff10)
          have ff34 : u29 240 = lr ct 4 (ut) := (congrFun hu30 _).trans ((up_n (by omega)).trans ff11)
          have ff35 : u29 241 = ir ct 8 (sc) := (congrFun hu30 _).trans ((up_n (by omega)).trans ff12)
          have ff36 : u29 242 = ir ct 8 (sm) := (congrFun hu30 _).trans ((up_n (by omega)).trans ff13)
          have ff37 : u29 243 = ir ct 8 (ms) := (congrFun hu30 _).trans ((up_n (by omega)).trans ff14)
          have ff38 : u29 244 = ir ct 24 (kd) := (congrFun hu30 _).trans ((up_n (by omega)).trans ff15)
          have ff39 : u29 245 = ir ct 24 (fi) := (congrFun hu30 _).trans ((up_n (by omega)).trans ff16)
          have ff40 : u29 246 = ir ct 24 (se) := (congrFun hu30 _).trans ((up_n (by omega)).trans ff17)
          have ff41 : u29 247 = ir ct 192 (pl) := (congrFun hu30 _).trans ((up_n (by omega)).trans ff18)
          have ff42 : u29 248 = zr ct 24 (hs) := (congrFun hu30 _).trans ((up_n (by omega)).trans ff19)
          have ff43 : u29 249 = ir ct 24 (lv) := (congrFun hu30 _).trans ((up_n (by omega)).trans ff20)
          have ff44 : u29 250 = lr ct 24 (mt) := (congrFun hu30 _).trans ((up_n (by omega)).trans ff21)
          have ff45 : u29 251 = ir ct 2 (wv2) := (congrFun hu30 _).trans ((up_n (by omega)).trans ff22)
          have ff46 : u29 252 = lr ct 2 (wm2) := (congrFun hu30 _).trans ((up_n (by omega)).trans ff23)
          have ff47 : u29 253 = lr ct 8 (vv) := (congrFun hu30 _).trans ((up_n (by omega)).trans ff24)
          have ff48 : u29 237 = lr ct 512 (zu R3 (((8) * ((8) + (2 * x))) + (i)) (((R2 (448 + i)) + ((sg) * (R2 (464 + i)))) % (lQ pq.1.1))) := (congrFun hu30 _).trans up_s
          have fr49 : ∀ j : Nat, (j ≠ 237) → u29 j = z1 j := fun j h0 => (congrFun hu30 j).trans ((up_n (by omega)).trans (fr7 j h0))
          refine lv_iinc (k := 0) (v := iI (i + 1)) (lv' := [(4, .int (iI (i + 1))), (3, .int (iI (pq.1.1))), (0, .ref (b + 236)), (1, .int (iI (x))), (2, .int (iI (sg)))]) hx hb d_M_combine_90 hl rfl (iI_add _ _) (by decide) rfl (fun ls hl => ?_)
          have hl : lv_has ls 5 [(4, .int (iI (i + 1))), (3, .int (iI (pq.1.1))), (0, .ref (b + 236)), (1, .int (iI (x))), (2, .int (iI (sg)))] := lv_sub hl [0, 1, 2, 3, 4] rfl
          refine lv_goto (tgt := 31) hx hb d_M_combine_93 (by decide) ?_
          refine ihlo (i + 1) _ u29 H locs ls (by omega) (by omega) (by omega) (fun q h2 h3 => ?_) (fun j h2 => by rw [zu_n (by omega)]; exact hk j h2) ff48 fr49 hP hS hl
          by_cases h4 : q = i
          · rw [h4, zu_s]
          · rw [zu_n (by omega)]; exact hg q h2 (by omega)
    exact lo 17 0 R2 z1 H locs ls (by omega) (by omega) (by omega) (fun q h2 h3 => by omega) (fun _ _ => rfl) q2m0 fr4 hP hS hl
  · subst t2
    refine x_if_ne (tgt := 21) hx hb ⟨by omega, by omega⟩ d_M_combine_16 (by decide) (fun hc => by exfalso; omega) (fun hc => ?_)
    refine lv_iconst (v := iI (0)) hx hb d_M_combine_19 rfl ?_
    exact ret 0 z1 H locs 20 ls (Or.inl rfl) ⟨⟨z0, R2, sm, hs, lv, mt, wv2, wm2, ⟨q2M, ⟨⟨pr, hp1, hp2⟩, ⟨bg, hb1, hb2⟩, ut, hut1, hut2⟩, ⟨sc, hs1, hs2⟩, q2m0, q2m1, q2m2, q2m3, q2m4, q2m5, q2m6, q2m7, q2m8, q2m9, q2m10, q2m11, q2m12⟩, fun j h0 h1 => hR2 j h0, fun y hy => ⟨rfl, rfl, rfl⟩, Or.inr ⟨by rw [t1]; rfl, rfl, hh0⟩⟩, fr3⟩ hP hS d_M_combine_20
