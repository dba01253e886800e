abbrev rm_law : Room := room_1
abbrev w_L_law : List Cond := .initialized "LevelledRingLaw" :: TB
set_option maxHeartbeats 8000000 in
set_option maxRecDepth 100000 in
/-- the law, from its start on -/
theorem law_body (l : Launch) (D : va_G) (ct : Nat → ClassId) (st ke : Nat → Nat) (b bs L : Nat) (xs : Nat → Int32) (hL : L ≤ 2049) (u : Nat → va_E) {p : Program} {e : Env} {s : State} {m : MethodId} {args : Array Value} {below : List Frame} {meth : Method} {c : Code} {Q : State → Prop} (hx : p.tables.exec = Jvm.exec) (hb : c.code = c9_L_law) (hml : c.maxLocals = 4) (hown : s.vm.findClass "LevelledRingLaw" = some m.cls) (hts : ∀ w ∈ w_L_law, w.before args s = true) (E : ev D ct st ke b s) (hX : va_X bs L xs s s.heap) (hbs : bs < b) (hsz : s.heap.size = b) (ls : Array Slot) (hl : lv_has ls 4 [(0, .ref bs)]) (ret : ∀ (H : Heap) (locs : List Loc) (ls : Array Slot), va_S (AA b) s.heap H locs → W p l e room_1 s m args below meth c H locs 254 4606 Q (F0 m 595 ls [.int (iI 1)])) : W p l e room_1 s m args below meth c s.heap [] 0 0 Q (F0 m 0 ls []) := by
  have hK := ev_K E
  have hbl : bs < s.heap.size := by omega
  have hbA : ¬ AA b bs := by show ¬ b ≤ bs; omega
  have okk := okK_kyO (sd L xs)
  have kk0 := hts (.classLink "LevelledRingLaw" 7 "LevelledRing") (List.mem_cons_of_mem _ t_13)
  have kk1 := hts (.instantiable "LevelledRing" 11) (List.mem_cons_of_mem _ t_14)
  have kk2 := hts (.initialized "LevelledRing") (List.mem_cons_of_mem _ t_1)
  have hinR : ∀ w ∈ u_ws "LevelledRing" T_R 11, w ∈ (w_L_law) := hin_R _
  have kk4 := hts (.instanceMethod y_R_init) (List.mem_cons_of_mem _ t_16)
  have kk5 := hts (.methodLink "LevelledRingLaw" 15 y_R_init) (List.mem_cons_of_mem _ t_15)
  have kk6 := hts (.classLink "LevelledRingLaw" 18 "LevelledRingModel") (List.mem_cons_of_mem _ t_458)
  have kk7 := hts (.instantiable "LevelledRingModel" 19) (List.mem_cons_of_mem _ t_459)
  have kk8 := hts (.initialized "LevelledRingModel") (List.mem_cons_of_mem _ t_9)
  have hinM : ∀ w ∈ u_ws "LevelledRingModel" T_M 19, w ∈ (w_L_law) := hin_M _
  have kk10 := hts (.instanceMethod y_M_init) (List.mem_cons_of_mem _ t_461)
  have kk11 := hts (.methodLink "LevelledRingLaw" 20 y_M_init) (List.mem_cons_of_mem _ t_460)
  have hS : va_S (AA b) s.heap s.heap [] := va_S.rf
  have hP : va_P D vwCl (wl 0 b u) s.heap := wl_0
  refine W.eq (g2 := F0 m 0 ls []) rfl ?_
  refine w_new (C := "LevelledRing") (T := T_R) (M := 11) (ci := 5) (fs := [.null, .null, .null, .null, .int (iI (0)), .int (iI (0)), .null, .null, .null, .null, .null]) hx hb hts hinR ty_R tyok_R hown kk0 kk1 kk2 hK hP hS (ev_b E) (by omega) rfl (fun j hj => by rcases (show j = 0 ∨ j = 1 ∨ j = 2 ∨ j = 3 ∨ j = 4 ∨ j = 5 ∨ j = 6 ∨ j = 7 ∨ j = 8 ∨ j = 9 ∨ j = 10 by omega) with rfl | rfl | rfl | rfl | rfl | rfl | rfl | rfl | rfl | rfl | rfl <;> rfl) (Nat.le_of_ble_eq_true rfl) (Nat.le_of_ble_eq_true rfl) d_L_law_0 (fun H hP hS => ?_)
  obtain ⟨u1, hu2, hP⟩ : ∃ zz : Nat → va_E, zz = va_up u 0 (.inr (5, [.null, .null, .null, .null, .int (iI (0)), .int (iI (0)), .null, .null, .null, .null, .null])) ∧ va_P D vwCl (wl 1 b zz) H := ⟨_, rfl, hP⟩
  have ff3 : u1 0 = .inr (5, [.null, .null, .null, .null, .int (iI (0)), .int (iI (0)), .null, .null, .null, .null, .null]) := (congrFun hu2 _).trans up_s
  refine lv_dup hx hb d_L_law_3 rfl ?_
  refine lv_aload_n hx hb d_L_law_4 rfl (lv_at hl 0 rfl) ?_
  refine lv_iconst (v := iI (0)) hx hb d_L_law_5 rfl ?_
  refine w_calli (va_runS (As := [.ref bs, .int (iI 0)]) (rest := [.ref (b + 0), .ref (b + 0)]) ⟨hx, hb, hml, hown, hts⟩ (c_cell l D ct st ke b 1 u1 bs L xs hbs hL) (cwS 2 hts (gS t_455 t_456 t_0 t_457) rfl rfl rfl (by decide +kernel) ⟨Nat.le_of_ble_eq_true rfl, Nat.le_of_ble_eq_true rfl⟩) (pre_X E hP hS hX hbl hbA) rfl rfl hl.1 rfl (lv_room (Nat.le_of_ble_eq_true rfl)) d_L_law_6 ⟨(Nat.le_of_ble_eq_true rfl), (Nat.le_of_ble_eq_true rfl)⟩) hS (fun r z4 H locs hz hP hS => ?_)
  obtain ⟨rfl, rfl⟩ := hz
  refine w_sz hP (by omega) (by omega) (fun hHs => ?_)
  refine w_callv (va_runI (As := [.int (sd L xs)]) (rest := [.ref (b + 0)]) ⟨hx, hb, hml, hown, hts⟩ (c_R_init l D ct st ke b u1 (sd L xs) ff3) (cwI 1 hts (gC t_17) rfl rfl rfl kk2 kk5 kk4 rfl (by decide +kernel) ⟨Nat.le_of_ble_eq_true rfl, Nat.le_of_ble_eq_true rfl⟩) (pre_C E hP hS hHs) rfl rfl hl.1 rfl (lv_room (Nat.le_of_ble_eq_true rfl)) d_L_law_9 ⟨(Nat.le_of_ble_eq_true rfl), (Nat.le_of_ble_eq_true rfl)⟩) hS (fun z5 H locs hz hP hS => ?_)
  have hC0 := hz (fun _ => (0, 0, 0, 0, fun _ => 0)) (fun _ => (0, 0, fun _ => 0, fun _ => 0))
  refine lv_astore_n (lv' := [(1, .ref (b + 0)), (0, .ref (bs))]) hx hb d_L_law_12 rfl hl (by decide) rfl (fun ls hl => ?_)
  have xf7 : ∀ j : Nat, (j < 236) → z5 j = z5 j := fun _ _ => rfl
  refine w_new (C := "LevelledRingModel") (T := T_M) (M := 19) (ci := 6) (fs := [.null, .null, .null, .null, .null, .null, .int (iI (0)), .null, .int (iI (0)), .null, .null, .null, .null, .null, .null, .null, .null, .null, .null]) hx hb hts hinM ty_M tyok_M hown kk6 kk7 kk8 hK hP hS (ev_b E) (by omega) rfl (fun j hj => by rcases (show j = 0 ∨ j = 1 ∨ j = 2 ∨ j = 3 ∨ j = 4 ∨ j = 5 ∨ j = 6 ∨ j = 7 ∨ j = 8 ∨ j = 9 ∨ j = 10 ∨ j = 11 ∨ j = 12 ∨ j = 13 ∨ j = 14 ∨ j = 15 ∨ j = 16 ∨ j = 17 ∨ j = 18 by omega) with rfl | rfl | rfl | rfl | rfl | rfl | rfl | rfl | rfl | rfl | rfl | rfl | rfl | rfl | rfl | rfl | rfl | rfl | rfl <;> rfl) (Nat.le_of_ble_eq_true rfl) (Nat.le_of_ble_eq_true rfl) d_L_law_13 (fun H hP hS => ?_)
  obtain ⟨u8, hu9, hP⟩ : ∃ zz : Nat → va_E, zz = va_up z5 236 (.inr (6, [.null, .null, .null, .null, .null, .null, .int (iI (0)), .null, .int (iI (0)), .null, .null, .null, .null, .null, .null, .null, .null, .null, .null])) ∧ va_P D vwCl (wl 237 b zz) H := ⟨_, rfl, hP⟩
  have ff10 : u8 236 = .inr (6, [.null, .null, .null, .null, .null, .null, .int (iI (0)), .null, .int (iI (0)), .null, .null, .null, .null, .null, .null, .null, .null, .null, .null]) := (congrFun hu9 _).trans up_s
  have xf11 : ∀ j : Nat, (j < 236) → u8 j = z5 j := fun j h0 => (congrFun hu9 j).trans ((up_n (by omega)).trans (xf7 j h0))
  refine lv_dup hx hb d_L_law_16 rfl ?_
  refine lv_aload_n hx hb d_L_law_17 rfl (lv_at hl 1 rfl) ?_
  refine lv_iconst (v := iI (0)) hx hb d_L_law_18 rfl ?_
  refine w_calli (va_runS (As := [.ref bs, .int (iI 0)]) (rest := [.ref (b + 236), .ref (b + 236)]) ⟨hx, hb, hml, hown, hts⟩ (c_cell l D ct st ke b 237 u8 bs L xs hbs hL) (cwS 2 hts (gS t_455 t_456 t_0 t_457) rfl rfl rfl (by decide +kernel) ⟨Nat.le_of_ble_eq_true rfl, Nat.le_of_ble_eq_true rfl⟩) (pre_X E hP hS hX hbl hbA) rfl rfl hl.1 rfl (lv_room (Nat.le_of_ble_eq_true rfl)) d_L_law_19 ⟨(Nat.le_of_ble_eq_true rfl), (Nat.le_of_ble_eq_true rfl)⟩) hS (fun r z12 H locs hz hP hS => ?_)
  obtain ⟨rfl, rfl⟩ := hz
  have hC1 := hC0.of (z := u8) (by decide) (by decide) xf11
  refine w_sz hP (by omega) (by omega) (fun hHs => ?_)
  refine w_callv (va_runI (As := [.int (sd L xs)]) (rest := [.ref (b + 236)]) ⟨hx, hb, hml, hown, hts⟩ (c_M_init l D ct st ke b u8 (sd L xs) ff10) (cwI 1 hts (gC t_462) rfl rfl rfl kk8 kk11 kk10 rfl (by decide +kernel) ⟨Nat.le_of_ble_eq_true rfl, Nat.le_of_ble_eq_true rfl⟩) (pre_C E hP hS hHs) rfl rfl hl.1 rfl (lv_room (Nat.le_of_ble_eq_true rfl)) d_L_law_22 ⟨(Nat.le_of_ble_eq_true rfl), (Nat.le_of_ble_eq_true rfl)⟩) hS (fun z13 H locs hz hP hS => ?_)
  obtain ⟨hM0, hz⟩ := hz
  have hM1 := hM0 (fun _ => (0, 0, 0, 0, fun _ => 0)) (fun _ => (0, 0, fun _ => 0, fun _ => 0))
  have hC2 := hC1.of (z := z13) (by decide) (by decide) hz
  refine lv_astore_n (lv' := [(2, .ref (b + 236)), (1, .ref (b + 0)), (0, .ref (bs))]) hx hb d_L_law_25 rfl hl (by decide) rfl (fun ls hl => ?_)
  refine lv_iconst (v := iI (1)) hx hb d_L_law_26 rfl ?_
  refine lv_istore_n (lv' := [(3, .int (iI (1))), (2, .ref (b + 236)), (1, .ref (b + 0)), (0, .ref (bs))]) hx hb d_L_law_27 rfl hl (by decide) rfl (fun ls hl => ?_)
  have hl : lv_has ls 4 [(3, .int (iI ((1 + 4 * ((0 : Nat) : Int))))), (2, .ref (b + 236)), (1, .ref (b + 0)), (0, .ref (bs))] := by rw [show (1 + 4 * ((0 : Nat) : Int)) = 1 from by omega]; exact hl
  have hl : lv_has ls 4 [(3, .int (iI ((1 + 4 * ((0 : Nat) : Int))))), (2, .ref (b + 236)), (1, .ref (b + 0)), (0, .ref (bs))] := lv_sub hl [0, 1, 2, 3] rfl
  refine W.widen (k := 254) (n := 4606) (by decide) (by decide) ?_
  have lo : ∀ (d : Nat) (jn : Nat) (n : Nat) (v : Nat) (msg : Int → Int) (G : Int → Gt) (V : Int → Val) (w15 : Nat → va_E) (H : Heap) (locs : List Loc) (ls : Array Slot), (4 * jn ≤ L) → (L + 4 < d + 4 * jn) → (CS ct b ke w15 (kyO (sd L xs)) n v msg G V) → (MS ct b w15 (kyO (sd L xs)) n v msg G V) → (PI n v msg G V) → (∀ j : Nat, (j < 0) → w15 j = u j) → va_P D vwCl (wl 254 b w15) H → va_S (AA b) s.heap H locs → lv_has ls 4 [(3, .int (iI ((1 + 4 * (jn : Int))))), (2, .ref (b + 236)), (1, .ref (b + 0)), (0, .ref (bs))] → W p l e rm_law s m args below meth c H locs 254 4606 Q (F0 m 28 ls []) := by
    intro d
    induction d with
    | zero => intro jn n v msg G V w15 H locs ls hj hd hC hM hI fr16 hP hS hl; exfalso; omega
    | succ d ihlo =>
      intro jn n v msg G V w15 H locs ls hj hd hC hM hI fr16 hP hS hl
      refine lv_iload_n hx hb d_L_law_28 rfl (lv_at hl 0 rfl) ?_
      refine lv_aload_n hx hb d_L_law_29 rfl (lv_at hl 3 rfl) ?_
      refine x_slen hx hb hX hbl hbA hS d_L_law_30 ?_
      refine lv_iconst (v := iI (4)) hx hb d_L_law_31 rfl ?_
      refine x_isub hx hb d_L_law_32 ?_
      refine x_icmp_gt (tgt := 594) hx hb ⟨by omega, by omega⟩ ⟨by omega, by omega⟩ d_L_law_33 (by decide) (fun hc => ?_) (fun hc => ?_)
      · refine lv_iconst (v := iI (1)) hx hb d_L_law_594 rfl ?_
        exact ret H locs ls hS
      · have hn24 := hI.1
        have hvn := hI.2.1
        obtain ⟨mz, hmo⟩ := MS_mo hM
        have nx : ∀ (n1 : Nat) (v1 : Nat) (msg1 : Int → Int) (G1 : Int → Gt) (V1 : Int → Val) (ww17 : Nat → va_E) (H : Heap) (locs : List Loc) (ls : Array Slot), (CS ct b ke ww17 (kyO (sd L xs)) n1 v1 msg1 G1 V1) → (MS ct b ww17 (kyO (sd L xs)) n1 v1 msg1 G1 V1) → (PI n1 v1 msg1 G1 V1) → (∀ j : Nat, (j < 0) → ww17 j = u j) → va_P D vwCl (wl 254 b ww17) H → va_S (AA b) s.heap H locs → lv_has ls 4 [(3, .int (iI ((1 + 4 * (jn : Int))))), (2, .ref (b + 236)), (1, .ref (b + 0)), (0, .ref (bs))] → W p l e rm_law s m args below meth c H locs 254 4606 Q (F0 m 588 ls []) := by
          intro n1 v1 msg1 G1 V1 ww17 H locs ls hC1 hM1 hI1 fr18 hP hS hl
          refine lv_iinc (k := 0) (v := iI ((1 + 4 * (jn : Int)) + 4)) (lv' := [(3, .int (iI ((1 + 4 * (jn : Int)) + 4))), (2, .ref (b + 236)), (1, .ref (b + 0)), (0, .ref (bs))]) hx hb d_L_law_588 hl rfl (iI_add _ _) (by decide) rfl (fun ls hl => ?_)
          have hl : lv_has ls 4 [(3, .int (iI ((1 + 4 * ((jn + 1 : Nat) : Int))))), (2, .ref (b + 236)), (1, .ref (b + 0)), (0, .ref (bs))] := by rw [show (1 + 4 * ((jn + 1 : Nat) : Int)) = (1 + 4 * (jn : Int)) + 4 from by omega]; exact hl
          refine lv_goto (tgt := 28) hx hb d_L_law_591 (by decide) ?_
          have hl : lv_has ls 4 [(3, .int (iI ((1 + 4 * ((jn + 1 : Nat) : Int))))), (2, .ref (b + 236)), (1, .ref (b + 0)), (0, .ref (bs))] := lv_sub hl [0, 1, 2, 3] rfl
          exact ihlo (jn + 1) n1 v1 msg1 G1 V1 ww17 H locs ls (by omega) (by omega) hC1 hM1 hI1 (fun j h => absurd h (Nat.not_lt_zero j)) hP hS hl
        refine lv_aload_n hx hb d_L_law_36 rfl (lv_at hl 3 rfl) ?_
        refine lv_iload_n hx hb d_L_law_37 rfl (lv_at hl 0 rfl) ?_
        refine x_sld hx hb hX hbl hbA hS (a := (1 + 4 * (jn : Int))) (by omega) (by omega) (by omega) d_L_law_38 ?_
        refine lv_bipush (v := iI (31)) hx hb d_L_law_39 (by decide +kernel) ?_
        refine lv_iand hx hb d_L_law_41 ?_
        refine x_i (y := iI (_ % 32)) (iI_and31 _) ?_
        obtain ⟨t, ht⟩ : ∃ t, t = sx xs ((1 + 4 * (jn : Int))) % 32 := ⟨_, rfl⟩
        rw [← ht]
        rcases (show t = 0 ∨ t = 1 ∨ t = 2 ∨ t = 3 ∨ t = 4 ∨ t = 5 ∨ t = 6 ∨ t = 7 ∨ t = 8 ∨ t = 9 ∨ t = 10 ∨ t = 11 ∨ t = 12 ∨ t = 13 ∨ t = 14 ∨ t = 15 ∨ t = 16 ∨ t = 17 ∨ t = 18 ∨ t = 19 ∨ t = 20 ∨ t = 21 ∨ t = 22 ∨ t = 23 ∨ t = 24 ∨ t = 25 ∨ t = 26 ∨ t = 27 ∨ t = 28 ∨ t = 29 ∨ t = 30 ∨ t = 31 by omega) with rfl | rfl | rfl | rfl | rfl | rfl | rfl | rfl | rfl | rfl | rfl | rfl | rfl | rfl | rfl | rfl | rfl | rfl | rfl | rfl | rfl | rfl | rfl | rfl | rfl | rfl | rfl | rfl | rfl | rfl | rfl | rfl
        · refine lv_tableIn (off := 82) (tgt := 124) hx hb d_L_law_42 (by decide) (by decide) (by decide) (by decide) ?_
          refine lv_aload_n hx hb d_L_law_124 rfl (lv_at hl 2 rfl) ?_
          refine lv_aload_n hx hb d_L_law_125 rfl (lv_at hl 3 rfl) ?_
          refine lv_iload_n hx hb d_L_law_126 rfl (lv_at hl 0 rfl) ?_
          refine lv_iconst (v := iI (1)) hx hb d_L_law_127 rfl ?_
          refine x_iadd hx hb d_L_law_128 ?_
          refine x_sld hx hb hX hbl hbA hS (a := ((1 + 4 * (jn : Int))) + (1)) (by omega) (by omega) (by omega) d_L_law_129 ?_
          refine lv_aload_n hx hb d_L_law_130 rfl (lv_at hl 3 rfl) ?_
          refine lv_iload_n hx hb d_L_law_131 rfl (lv_at hl 0 rfl) ?_
          refine lv_iconst (v := iI (2)) hx hb d_L_law_132 rfl ?_
          refine x_iadd hx hb d_L_law_133 ?_
          refine x_sld hx hb hX hbl hbA hS (a := ((1 + 4 * (jn : Int))) + (2)) (by omega) (by omega) (by omega) d_L_law_134 ?_
          refine w_calli (va_runV (As := [.int (iI (sx xs (((1 + 4 * (jn : Int))) + (1)))), .int (iI (sx xs (((1 + 4 * (jn : Int))) + (2))))]) (rest := []) ⟨hx, hb, hml, hown, hts⟩ (c_put l D ct st ke b 254 w15 (by omega) (kyO (sd L xs)) n v msg G V hC hI (sx xs ((1 + 4 * (jn : Int)) + (1))) (sx xs ((1 + 4 * (jn : Int)) + (2))) (sx_r _ _) (sx_r _ _)) (cwV 2 hts (gV t_207 t_208 t_209 t_1 t_210) rfl rfl rfl (by decide +kernel) ⟨Nat.le_of_ble_eq_true rfl, Nat.le_of_ble_eq_true rfl⟩) (pre_V E hP hS (0) (by omega) hC.1 rfl) rfl rfl hl.1 rfl (lv_room (Nat.le_of_ble_eq_true rfl)) d_L_law_135 ⟨(Nat.le_of_ble_eq_true rfl), (Nat.le_of_ble_eq_true rfl)⟩) hS (fun r1 z19 H locs hz1 hP hS => ?_)
          obtain ⟨e1, hC1, hf1⟩ := hz1
          have hM1 : MS ct b z19 (kyO (sd L xs)) n v msg G V := hM.of (fun j h _ => hf1 j (by omega))
          obtain ⟨mz1, hmo1⟩ := MS_mo hM1
          refine lv_aload_n hx hb d_L_law_138 rfl (lv_at hl 1 rfl) ?_
          refine lv_aload_n hx hb d_L_law_139 rfl (lv_at hl 3 rfl) ?_
          refine lv_iload_n hx hb d_L_law_140 rfl (lv_at hl 0 rfl) ?_
          refine lv_iconst (v := iI (1)) hx hb d_L_law_141 rfl ?_
          refine x_iadd hx hb d_L_law_142 ?_
          refine x_sld hx hb hX hbl hbA hS (a := ((1 + 4 * (jn : Int))) + (1)) (by omega) (by omega) (by omega) d_L_law_143 ?_
          refine lv_aload_n hx hb d_L_law_144 rfl (lv_at hl 3 rfl) ?_
          refine lv_iload_n hx hb d_L_law_145 rfl (lv_at hl 0 rfl) ?_
          refine lv_iconst (v := iI (2)) hx hb d_L_law_146 rfl ?_
          refine x_iadd hx hb d_L_law_147 ?_
          refine x_sld hx hb hX hbl hbA hS (a := ((1 + 4 * (jn : Int))) + (2)) (by omega) (by omega) (by omega) d_L_law_148 ?_
          refine w_calli (va_runV (As := [.int (iI (sx xs (((1 + 4 * (jn : Int))) + (1)))), .int (iI (sx xs (((1 + 4 * (jn : Int))) + (2))))]) (rest := [.int r1]) ⟨hx, hb, hml, hown, hts⟩ (c_Mput l D ct st ke b 254 z19 (by omega) (kyO (sd L xs)) okk n v msg G V hM1 hI (sx xs ((1 + 4 * (jn : Int)) + (1))) (sx xs ((1 + 4 * (jn : Int)) + (2))) (sx_r _ _) (sx_r _ _)) (cwV 2 hts (gV t_553 t_554 t_555 t_9 t_556) rfl rfl rfl (by decide +kernel) ⟨Nat.le_of_ble_eq_true rfl, Nat.le_of_ble_eq_true rfl⟩) (pre_V E hP hS (236) (by omega) hmo1 rfl) rfl rfl hl.1 rfl (lv_room (Nat.le_of_ble_eq_true rfl)) d_L_law_149 ⟨(Nat.le_of_ble_eq_true rfl), (Nat.le_of_ble_eq_true rfl)⟩) hS (fun r2 z20 H locs hz2 hP hS => ?_)
          obtain ⟨e2, hM2, hf2⟩ := hz2
          have hI1 := PI_put hI (sx xs ((1 + 4 * (jn : Int)) + (1))) (sx xs ((1 + 4 * (jn : Int)) + (2)))
          have hC2 := hC1.of (z := z20) hI1.1 hI1.2.1 hf2
          obtain rfl : r2 = r1 := e2.trans e1.symm
          refine x_same (tgt := 588) hx hb d_L_law_152 (by decide) ?_
          exact nx _ _ _ _ _ z20 H locs ls hC2 hM2 hI1 (fun j h => absurd h (Nat.not_lt_zero j)) hP hS hl
        · refine lv_tableIn (off := 115) (tgt := 157) hx hb d_L_law_42 (by decide) (by decide) (by decide) (by decide) ?_
          refine lv_aload_n hx hb d_L_law_157 rfl (lv_at hl 2 rfl) ?_
          refine lv_aload_n hx hb d_L_law_158 rfl (lv_at hl 3 rfl) ?_
          refine lv_iload_n hx hb d_L_law_159 rfl (lv_at hl 0 rfl) ?_
          refine lv_iconst (v := iI (1)) hx hb d_L_law_160 rfl ?_
          refine x_iadd hx hb d_L_law_161 ?_
          refine x_sld hx hb hX hbl hbA hS (a := ((1 + 4 * (jn : Int))) + (1)) (by omega) (by omega) (by omega) d_L_law_162 ?_
          refine w_calli (va_runV (As := [.int (iI (sx xs (((1 + 4 * (jn : Int))) + (1))))]) (rest := []) ⟨hx, hb, hml, hown, hts⟩ (c_input l D ct st ke b 254 w15 (by omega) (kyO (sd L xs)) n v msg G V hC hI (sx xs ((1 + 4 * (jn : Int)) + (1)))) (cwV 1 hts (gV t_215 t_216 t_217 t_1 t_218) rfl rfl rfl (by decide +kernel) ⟨Nat.le_of_ble_eq_true rfl, Nat.le_of_ble_eq_true rfl⟩) (pre_V E hP hS (0) (by omega) hC.1 rfl) rfl rfl hl.1 rfl (lv_room (Nat.le_of_ble_eq_true rfl)) d_L_law_163 ⟨(Nat.le_of_ble_eq_true rfl), (Nat.le_of_ble_eq_true rfl)⟩) hS (fun r1 z21 H locs hz1 hP hS => ?_)
          rcases hz1 with ⟨k1, e1, hC1, hf1⟩ | ⟨k1, e1, rfl⟩
          · have hM1 : MS ct b z21 (kyO (sd L xs)) n v msg G V := hM.of (fun j h _ => hf1 j (by omega))
            obtain ⟨mz1, hmo1⟩ := MS_mo hM1
            refine lv_aload_n hx hb d_L_law_166 rfl (lv_at hl 1 rfl) ?_
            refine lv_aload_n hx hb d_L_law_167 rfl (lv_at hl 3 rfl) ?_
            refine lv_iload_n hx hb d_L_law_168 rfl (lv_at hl 0 rfl) ?_
            refine lv_iconst (v := iI (1)) hx hb d_L_law_169 rfl ?_
            refine x_iadd hx hb d_L_law_170 ?_
            refine x_sld hx hb hX hbl hbA hS (a := ((1 + 4 * (jn : Int))) + (1)) (by omega) (by omega) (by omega) d_L_law_171 ?_
            refine w_calli (va_runV (As := [.int (iI (sx xs (((1 + 4 * (jn : Int))) + (1))))]) (rest := [.int r1]) ⟨hx, hb, hml, hown, hts⟩ (c_Minput l D ct st ke b 254 z21 (by omega) (kyO (sd L xs)) okk n v msg G V hM1 hI (sx xs ((1 + 4 * (jn : Int)) + (1))) ) (cwV 1 hts (gV t_558 t_559 t_560 t_9 t_561) rfl rfl rfl (by decide +kernel) ⟨Nat.le_of_ble_eq_true rfl, Nat.le_of_ble_eq_true rfl⟩) (pre_V E hP hS (236) (by omega) hmo1 rfl) rfl rfl hl.1 rfl (lv_room (Nat.le_of_ble_eq_true rfl)) d_L_law_172 ⟨(Nat.le_of_ble_eq_true rfl), (Nat.le_of_ble_eq_true rfl)⟩) hS (fun r2 z22 H locs hz2 hP hS => ?_)
            rcases hz2 with ⟨k2, e2, hM2, hf2⟩ | ⟨k2, e2, rfl⟩
            · have hI1 := PI_add hI k1 (g := (0, -1, -1, (sx xs ((1 + 4 * (jn : Int)) + (1))), msg)) ⟨by show 0 < 6; decide, hI.2.2.1, fun h => absurd h (by show ¬ 1 ≤ 0; decide), fun h => absurd h (by show ¬ 1 ≤ 0; decide), fun h => absurd h (by show ¬ 0 = 4; decide)⟩
              have hC2 := hC1.of (z := z22) hI1.1 hI1.2.1 hf2
              obtain rfl : r2 = r1 := e2.trans e1.symm
              refine x_same (tgt := 588) hx hb d_L_law_175 (by decide) ?_
              exact nx _ _ _ _ _ z22 H locs ls hC2 hM2 hI1 (fun j h => absurd h (Nat.not_lt_zero j)) hP hS hl
            · exact absurd k1 k2
          · refine lv_aload_n hx hb d_L_law_166 rfl (lv_at hl 1 rfl) ?_
            refine lv_aload_n hx hb d_L_law_167 rfl (lv_at hl 3 rfl) ?_
            refine lv_iload_n hx hb d_L_law_168 rfl (lv_at hl 0 rfl) ?_
            refine lv_iconst (v := iI (1)) hx hb d_L_law_169 rfl ?_
            refine x_iadd hx hb d_L_law_170 ?_
            refine x_sld hx hb hX hbl hbA hS (a := ((1 + 4 * (jn : Int))) + (1)) (by omega) (by omega) (by omega) d_L_law_171 ?_
            refine w_calli (va_runV (As := [.int (iI (sx xs (((1 + 4 * (jn : Int))) + (1))))]) (rest := [.int r1]) ⟨hx, hb, hml, hown, hts⟩ (c_Minput l D ct st ke b 254 w15 (by omega) (kyO (sd L xs)) okk n v msg G V hM hI (sx xs ((1 + 4 * (jn : Int)) + (1))) ) (cwV 1 hts (gV t_558 t_559 t_560 t_9 t_561) rfl rfl rfl (by decide +kernel) ⟨Nat.le_of_ble_eq_true rfl, Nat.le_of_ble_eq_true rfl⟩) (pre_V E hP hS (236) (by omega) hmo rfl) rfl rfl hl.1 rfl (lv_room (Nat.le_of_ble_eq_true rfl)) d_L_law_172 ⟨(Nat.le_of_ble_eq_true rfl), (Nat.le_of_ble_eq_true rfl)⟩) hS (fun r2 z23 H locs hz2 hP hS => ?_)
            rcases hz2 with ⟨k2, e2, hM2, hf2⟩ | ⟨k2, e2, rfl⟩
            · exact absurd k2 k1
            · obtain rfl : r2 = r1 := e2.trans e1.symm
              refine x_same (tgt := 588) hx hb d_L_law_175 (by decide) ?_
              exact nx n v msg G V w15 H locs ls hC hM hI (fun j h => absurd h (Nat.not_lt_zero j)) hP hS hl
        · refine lv_tableIn (off := 138) (tgt := 180) hx hb d_L_law_42 (by decide) (by decide) (by decide) (by decide) ?_
          refine lv_aload_n hx hb d_L_law_180 rfl (lv_at hl 2 rfl) ?_
          refine lv_aload_n hx hb d_L_law_181 rfl (lv_at hl 3 rfl) ?_
          refine lv_iload_n hx hb d_L_law_182 rfl (lv_at hl 0 rfl) ?_
          refine lv_iconst (v := iI (1)) hx hb d_L_law_183 rfl ?_
          refine x_iadd hx hb d_L_law_184 ?_
          refine x_sld hx hb hX hbl hbA hS (a := ((1 + 4 * (jn : Int))) + (1)) (by omega) (by omega) (by omega) d_L_law_185 ?_
          refine lv_aload_n hx hb d_L_law_186 rfl (lv_at hl 3 rfl) ?_
          refine lv_iload_n hx hb d_L_law_187 rfl (lv_at hl 0 rfl) ?_
          refine lv_iconst (v := iI (2)) hx hb d_L_law_188 rfl ?_
          refine x_iadd hx hb d_L_law_189 ?_
          refine x_sld hx hb hX hbl hbA hS (a := ((1 + 4 * (jn : Int))) + (2)) (by omega) (by omega) (by omega) d_L_law_190 ?_
          refine w_calli (va_runV (As := [.int (iI (sx xs (((1 + 4 * (jn : Int))) + (1)))), .int (iI (sx xs (((1 + 4 * (jn : Int))) + (2))))]) (rest := []) ⟨hx, hb, hml, hown, hts⟩ (c_sum l D ct st ke b 254 w15 (by omega) (kyO (sd L xs)) n v msg G V hC hI (sx xs ((1 + 4 * (jn : Int)) + (1))) (sx xs ((1 + 4 * (jn : Int)) + (2))) (sx_r _ _) (sx_r _ _)) (cwV 2 hts (gV t_238 t_239 t_240 t_1 t_241) rfl rfl rfl (by decide +kernel) ⟨Nat.le_of_ble_eq_true rfl, Nat.le_of_ble_eq_true rfl⟩) (pre_V E hP hS (0) (by omega) hC.1 rfl) rfl rfl hl.1 rfl (lv_room (Nat.le_of_ble_eq_true rfl)) d_L_law_191 ⟨(Nat.le_of_ble_eq_true rfl), (Nat.le_of_ble_eq_true rfl)⟩) hS (fun r1 z24 H locs hz1 hP hS => ?_)
          rcases hz1 with ⟨k1, e1, hC1, hf1⟩ | ⟨k1, e1, rfl⟩
          · have hM1 : MS ct b z24 (kyO (sd L xs)) n v msg G V := hM.of (fun j h _ => hf1 j (by omega))
            obtain ⟨mz1, hmo1⟩ := MS_mo hM1
            refine lv_aload_n hx hb d_L_law_194 rfl (lv_at hl 1 rfl) ?_
            refine lv_aload_n hx hb d_L_law_195 rfl (lv_at hl 3 rfl) ?_
            refine lv_iload_n hx hb d_L_law_196 rfl (lv_at hl 0 rfl) ?_
            refine lv_iconst (v := iI (1)) hx hb d_L_law_197 rfl ?_
            refine x_iadd hx hb d_L_law_198 ?_
            refine x_sld hx hb hX hbl hbA hS (a := ((1 + 4 * (jn : Int))) + (1)) (by omega) (by omega) (by omega) d_L_law_199 ?_
            refine lv_aload_n hx hb d_L_law_200 rfl (lv_at hl 3 rfl) ?_
            refine lv_iload_n hx hb d_L_law_201 rfl (lv_at hl 0 rfl) ?_
            refine lv_iconst (v := iI (2)) hx hb d_L_law_202 rfl ?_
            refine x_iadd hx hb d_L_law_203 ?_
            refine x_sld hx hb hX hbl hbA hS (a := ((1 + 4 * (jn : Int))) + (2)) (by omega) (by omega) (by omega) d_L_law_204 ?_
            refine w_calli (va_runV (As := [.int (iI (sx xs (((1 + 4 * (jn : Int))) + (1)))), .int (iI (sx xs (((1 + 4 * (jn : Int))) + (2))))]) (rest := [.int r1]) ⟨hx, hb, hml, hown, hts⟩ (c_Msum l D ct st ke b 254 z24 (by omega) (kyO (sd L xs)) okk n v msg G V hM1 hI (sx xs ((1 + 4 * (jn : Int)) + (1))) (sx xs ((1 + 4 * (jn : Int)) + (2))) (sx_r _ _) (sx_r _ _)) (cwV 2 hts (gV t_573 t_574 t_575 t_9 t_576) rfl rfl rfl (by decide +kernel) ⟨Nat.le_of_ble_eq_true rfl, Nat.le_of_ble_eq_true rfl⟩) (pre_V E hP hS (236) (by omega) hmo1 rfl) rfl rfl hl.1 rfl (lv_room (Nat.le_of_ble_eq_true rfl)) d_L_law_205 ⟨(Nat.le_of_ble_eq_true rfl), (Nat.le_of_ble_eq_true rfl)⟩) hS (fun r2 z25 H locs hz2 hP hS => ?_)
            rcases hz2 with ⟨k2, e2, hM2, hf2⟩ | ⟨k2, e2, rfl⟩
            · have hI1 := PI_add hI k1.2.2 (g := (1, (sx xs ((1 + 4 * (jn : Int)) + (1))), (sx xs ((1 + 4 * (jn : Int)) + (2))), 0, gpl 1 (G (sx xs ((1 + 4 * (jn : Int)) + (1)))).2.2.2.2 (G (sx xs ((1 + 4 * (jn : Int)) + (2)))).2.2.2.2 0)) ⟨by show 1 < 6; decide, p17_gpl (kd := 1) (Y := (G (sx xs ((1 + 4 * (jn : Int)) + (2)))).2.2.2.2) (t := 0) (by decide) (by decide) (PI_p17 hI k1.1.1 k1.1.2), fun _ => k1.1, fun _ => k1.2.1, fun h => absurd h (by show ¬ 1 = 4; decide)⟩
              have hC2 := hC1.of (z := z25) hI1.1 hI1.2.1 hf2
              obtain rfl : r2 = r1 := e2.trans e1.symm
              refine x_same (tgt := 588) hx hb d_L_law_208 (by decide) ?_
              exact nx _ _ _ _ _ z25 H locs ls hC2 hM2 hI1 (fun j h => absurd h (Nat.not_lt_zero j)) hP hS hl
            · exact absurd k1 k2
          · refine lv_aload_n hx hb d_L_law_194 rfl (lv_at hl 1 rfl) ?_
            refine lv_aload_n hx hb d_L_law_195 rfl (lv_at hl 3 rfl) ?_
            refine lv_iload_n hx hb d_L_law_196 rfl (lv_at hl 0 rfl) ?_
            refine lv_iconst (v := iI (1)) hx hb d_L_law_197 rfl ?_
            refine x_iadd hx hb d_L_law_198 ?_
            refine x_sld hx hb hX hbl hbA hS (a := ((1 + 4 * (jn : Int))) + (1)) (by omega) (by omega) (by omega) d_L_law_199 ?_
            refine lv_aload_n hx hb d_L_law_200 rfl (lv_at hl 3 rfl) ?_
            refine lv_iload_n hx hb d_L_law_201 rfl (lv_at hl 0 rfl) ?_
            refine lv_iconst (v := iI (2)) hx hb d_L_law_202 rfl ?_
            refine x_iadd hx hb d_L_law_203 ?_
            refine x_sld hx hb hX hbl hbA hS (a := ((1 + 4 * (jn : Int))) + (2)) (by omega) (by omega) (by omega) d_L_law_204 ?_
            refine w_calli (va_runV (As := [.int (iI (sx xs (((1 + 4 * (jn : Int))) + (1)))), .int (iI (sx xs (((1 + 4 * (jn : Int))) + (2))))]) (rest := [.int r1]) ⟨hx, hb, hml, hown, hts⟩ (c_Msum l D ct st ke b 254 w15 (by omega) (kyO (sd L xs)) okk n v msg G V hM hI (sx xs ((1 + 4 * (jn : Int)) + (1))) (sx xs ((1 + 4 * (jn : Int)) + (2))) (sx_r _ _) (sx_r _ _)) (cwV 2 hts (gV t_573 t_574 t_575 t_9 t_576) rfl rfl rfl (by decide +kernel) ⟨Nat.le_of_ble_eq_true rfl, Nat.le_of_ble_eq_true rfl⟩) (pre_V E hP hS (236) (by omega) hmo rfl) rfl rfl hl.1 rfl (lv_room (Nat.le_of_ble_eq_true rfl)) d_L_law_205 ⟨(Nat.le_of_ble_eq_true rfl), (Nat.le_of_ble_eq_true rfl)⟩) hS (fun r2 z26 H locs hz2 hP hS => ?_)
            rcases hz2 with ⟨k2, e2, hM2, hf2⟩ | ⟨k2, e2, rfl⟩
            · exact absurd k2 k1
            · obtain rfl : r2 = r1 := e2.trans e1.symm
              refine x_same (tgt := 588) hx hb d_L_law_208 (by decide) ?_
              exact nx n v msg G V w15 H locs ls hC hM hI (fun j h => absurd h (Nat.not_lt_zero j)) hP hS hl
        · refine lv_tableIn (off := 171) (tgt := 213) hx hb d_L_law_42 (by decide) (by decide) (by decide) (by decide) ?_
          refine lv_aload_n hx hb d_L_law_213 rfl (lv_at hl 2 rfl) ?_
          refine lv_aload_n hx hb d_L_law_214 rfl (lv_at hl 3 rfl) ?_
          refine lv_iload_n hx hb d_L_law_215 rfl (lv_at hl 0 rfl) ?_
          refine lv_iconst (v := iI (1)) hx hb d_L_law_216 rfl ?_
          refine x_iadd hx hb d_L_law_217 ?_
          refine x_sld hx hb hX hbl hbA hS (a := ((1 + 4 * (jn : Int))) + (1)) (by omega) (by omega) (by omega) d_L_law_218 ?_
          refine lv_aload_n hx hb d_L_law_219 rfl (lv_at hl 3 rfl) ?_
          refine lv_iload_n hx hb d_L_law_220 rfl (lv_at hl 0 rfl) ?_
          refine lv_iconst (v := iI (2)) hx hb d_L_law_221 rfl ?_
          refine x_iadd hx hb d_L_law_222 ?_
          refine x_sld hx hb hX hbl hbA hS (a := ((1 + 4 * (jn : Int))) + (2)) (by omega) (by omega) (by omega) d_L_law_223 ?_
          refine w_calli (va_runV (As := [.int (iI (sx xs (((1 + 4 * (jn : Int))) + (1)))), .int (iI (sx xs (((1 + 4 * (jn : Int))) + (2))))]) (rest := []) ⟨hx, hb, hml, hown, hts⟩ (c_difference l D ct st ke b 254 w15 (by omega) (kyO (sd L xs)) n v msg G V hC hI (sx xs ((1 + 4 * (jn : Int)) + (1))) (sx xs ((1 + 4 * (jn : Int)) + (2))) (sx_r _ _) (sx_r _ _)) (cwV 2 hts (gV t_276 t_277 t_278 t_1 t_279) rfl rfl rfl (by decide +kernel) ⟨Nat.le_of_ble_eq_true rfl, Nat.le_of_ble_eq_true rfl⟩) (pre_V E hP hS (0) (by omega) hC.1 rfl) rfl rfl hl.1 rfl (lv_room (Nat.le_of_ble_eq_true rfl)) d_L_law_224 ⟨(Nat.le_of_ble_eq_true rfl), (Nat.le_of_ble_eq_true rfl)⟩) hS (fun r1 z27 H locs hz1 hP hS => ?_)
          rcases hz1 with ⟨k1, e1, hC1, hf1⟩ | ⟨k1, e1, rfl⟩
          · have hM1 : MS ct b z27 (kyO (sd L xs)) n v msg G V := hM.of (fun j h _ => hf1 j (by omega))
            obtain ⟨mz1, hmo1⟩ := MS_mo hM1
            refine lv_aload_n hx hb d_L_law_227 rfl (lv_at hl 1 rfl) ?_
            refine lv_aload_n hx hb d_L_law_228 rfl (lv_at hl 3 rfl) ?_
            refine lv_iload_n hx hb d_L_law_229 rfl (lv_at hl 0 rfl) ?_
            refine lv_iconst (v := iI (1)) hx hb d_L_law_230 rfl ?_
            refine x_iadd hx hb d_L_law_231 ?_
            refine x_sld hx hb hX hbl hbA hS (a := ((1 + 4 * (jn : Int))) + (1)) (by omega) (by omega) (by omega) d_L_law_232 ?_
            refine lv_aload_n hx hb d_L_law_233 rfl (lv_at hl 3 rfl) ?_
            refine lv_iload_n hx hb d_L_law_234 rfl (lv_at hl 0 rfl) ?_
            refine lv_iconst (v := iI (2)) hx hb d_L_law_235 rfl ?_
            refine x_iadd hx hb d_L_law_236 ?_
            refine x_sld hx hb hX hbl hbA hS (a := ((1 + 4 * (jn : Int))) + (2)) (by omega) (by omega) (by omega) d_L_law_237 ?_
            refine w_calli (va_runV (As := [.int (iI (sx xs (((1 + 4 * (jn : Int))) + (1)))), .int (iI (sx xs (((1 + 4 * (jn : Int))) + (2))))]) (rest := [.int r1]) ⟨hx, hb, hml, hown, hts⟩ (c_Mdifference l D ct st ke b 254 z27 (by omega) (kyO (sd L xs)) okk n v msg G V hM1 hI (sx xs ((1 + 4 * (jn : Int)) + (1))) (sx xs ((1 + 4 * (jn : Int)) + (2))) (sx_r _ _) (sx_r _ _)) (cwV 2 hts (gV t_585 t_586 t_587 t_9 t_588) rfl rfl rfl (by decide +kernel) ⟨Nat.le_of_ble_eq_true rfl, Nat.le_of_ble_eq_true rfl⟩) (pre_V E hP hS (236) (by omega) hmo1 rfl) rfl rfl hl.1 rfl (lv_room (Nat.le_of_ble_eq_true rfl)) d_L_law_238 ⟨(Nat.le_of_ble_eq_true rfl), (Nat.le_of_ble_eq_true rfl)⟩) hS (fun r2 z28 H locs hz2 hP hS => ?_)
            rcases hz2 with ⟨k2, e2, hM2, hf2⟩ | ⟨k2, e2, rfl⟩
            · have hI1 := PI_add hI k1.2.2 (g := (2, (sx xs ((1 + 4 * (jn : Int)) + (1))), (sx xs ((1 + 4 * (jn : Int)) + (2))), 0, gpl 2 (G (sx xs ((1 + 4 * (jn : Int)) + (1)))).2.2.2.2 (G (sx xs ((1 + 4 * (jn : Int)) + (2)))).2.2.2.2 0)) ⟨by show 2 < 6; decide, p17_gpl (kd := 2) (Y := (G (sx xs ((1 + 4 * (jn : Int)) + (2)))).2.2.2.2) (t := 0) (by decide) (by decide) (PI_p17 hI k1.1.1 k1.1.2), fun _ => k1.1, fun _ => k1.2.1, fun h => absurd h (by show ¬ 2 = 4; decide)⟩
              have hC2 := hC1.of (z := z28) hI1.1 hI1.2.1 hf2
              obtain rfl : r2 = r1 := e2.trans e1.symm
              refine x_same (tgt := 588) hx hb d_L_law_241 (by decide) ?_
              exact nx _ _ _ _ _ z28 H locs ls hC2 hM2 hI1 (fun j h => absurd h (Nat.not_lt_zero j)) hP hS hl
            · exact absurd k1 k2
          · refine lv_aload_n hx hb d_L_law_227 rfl (lv_at hl 1 rfl) ?_
            refine lv_aload_n hx hb d_L_law_228 rfl (lv_at hl 3 rfl) ?_
            refine lv_iload_n hx hb d_L_law_229 rfl (lv_at hl 0 rfl) ?_
            refine lv_iconst (v := iI (1)) hx hb d_L_law_230 rfl ?_
            refine x_iadd hx hb d_L_law_231 ?_
            refine x_sld hx hb hX hbl hbA hS (a := ((1 + 4 * (jn : Int))) + (1)) (by omega) (by omega) (by omega) d_L_law_232 ?_
            refine lv_aload_n hx hb d_L_law_233 rfl (lv_at hl 3 rfl) ?_
            refine lv_iload_n hx hb d_L_law_234 rfl (lv_at hl 0 rfl) ?_
            refine lv_iconst (v := iI (2)) hx hb d_L_law_235 rfl ?_
            refine x_iadd hx hb d_L_law_236 ?_
            refine x_sld hx hb hX hbl hbA hS (a := ((1 + 4 * (jn : Int))) + (2)) (by omega) (by omega) (by omega) d_L_law_237 ?_
            refine w_calli (va_runV (As := [.int (iI (sx xs (((1 + 4 * (jn : Int))) + (1)))), .int (iI (sx xs (((1 + 4 * (jn : Int))) + (2))))]) (rest := [.int r1]) ⟨hx, hb, hml, hown, hts⟩ (c_Mdifference l D ct st ke b 254 w15 (by omega) (kyO (sd L xs)) okk n v msg G V hM hI (sx xs ((1 + 4 * (jn : Int)) + (1))) (sx xs ((1 + 4 * (jn : Int)) + (2))) (sx_r _ _) (sx_r _ _)) (cwV 2 hts (gV t_585 t_586 t_587 t_9 t_588) rfl rfl rfl (by decide +kernel) ⟨Nat.le_of_ble_eq_true rfl, Nat.le_of_ble_eq_true rfl⟩) (pre_V E hP hS (236) (by omega) hmo rfl) rfl rfl hl.1 rfl (lv_room (Nat.le_of_ble_eq_true rfl)) d_L_law_238 ⟨(Nat.le_of_ble_eq_true rfl), (Nat.le_of_ble_eq_true rfl)⟩) hS (fun r2 z29 H locs hz2 hP hS => ?_)
            rcases hz2 with ⟨k2, e2, hM2, hf2⟩ | ⟨k2, e2, rfl⟩
            · exact absurd k2 k1
            · obtain rfl : r2 = r1 := e2.trans e1.symm
              refine x_same (tgt := 588) hx hb d_L_law_241 (by decide) ?_
              exact nx n v msg G V w15 H locs ls hC hM hI (fun j h => absurd h (Nat.not_lt_zero j)) hP hS hl
        · refine lv_tableIn (off := 204) (tgt := 246) hx hb d_L_law_42 (by decide) (by decide) (by decide) (by decide) ?_
          refine lv_aload_n hx hb d_L_law_246 rfl (lv_at hl 2 rfl) ?_
          refine lv_aload_n hx hb d_L_law_247 rfl (lv_at hl 3 rfl) ?_
          refine lv_iload_n hx hb d_L_law_248 rfl (lv_at hl 0 rfl) ?_
          refine lv_iconst (v := iI (1)) hx hb d_L_law_249 rfl ?_
          refine x_iadd hx hb d_L_law_250 ?_
          refine x_sld hx hb hX hbl hbA hS (a := ((1 + 4 * (jn : Int))) + (1)) (by omega) (by omega) (by omega) d_L_law_251 ?_
          refine lv_aload_n hx hb d_L_law_252 rfl (lv_at hl 3 rfl) ?_
          refine lv_iload_n hx hb d_L_law_253 rfl (lv_at hl 0 rfl) ?_
          refine lv_iconst (v := iI (2)) hx hb d_L_law_254 rfl ?_
          refine x_iadd hx hb d_L_law_255 ?_
          refine x_sld hx hb hX hbl hbA hS (a := ((1 + 4 * (jn : Int))) + (2)) (by omega) (by omega) (by omega) d_L_law_256 ?_
          refine w_calli (va_runV (As := [.int (iI (sx xs (((1 + 4 * (jn : Int))) + (1)))), .int (iI (sx xs (((1 + 4 * (jn : Int))) + (2))))]) (rest := []) ⟨hx, hb, hml, hown, hts⟩ (c_product l D ct st ke b 254 w15 (by omega) (kyO (sd L xs)) n v msg G V hC hI (sx xs ((1 + 4 * (jn : Int)) + (1))) (sx xs ((1 + 4 * (jn : Int)) + (2))) (sx_r _ _) (sx_r _ _)) (cwV 2 hts (gV t_282 t_283 t_284 t_1 t_285) rfl rfl rfl (by decide +kernel) ⟨Nat.le_of_ble_eq_true rfl, Nat.le_of_ble_eq_true rfl⟩) (pre_V E hP hS (0) (by omega) hC.1 rfl) rfl rfl hl.1 rfl (lv_room (Nat.le_of_ble_eq_true rfl)) d_L_law_257 ⟨(Nat.le_of_ble_eq_true rfl), (Nat.le_of_ble_eq_true rfl)⟩) hS (fun r1 z30 H locs hz1 hP hS => ?_)
          rcases hz1 with ⟨k1, e1, hC1, hf1⟩ | ⟨k1, e1, rfl⟩
          · have hM1 : MS ct b z30 (kyO (sd L xs)) n v msg G V := hM.of (fun j h _ => hf1 j (by omega))
            obtain ⟨mz1, hmo1⟩ := MS_mo hM1
            refine lv_aload_n hx hb d_L_law_260 rfl (lv_at hl 1 rfl) ?_
            refine lv_aload_n hx hb d_L_law_261 rfl (lv_at hl 3 rfl) ?_
            refine lv_iload_n hx hb d_L_law_262 rfl (lv_at hl 0 rfl) ?_
            refine lv_iconst (v := iI (1)) hx hb d_L_law_263 rfl ?_
            refine x_iadd hx hb d_L_law_264 ?_
            refine x_sld hx hb hX hbl hbA hS (a := ((1 + 4 * (jn : Int))) + (1)) (by omega) (by omega) (by omega) d_L_law_265 ?_
            refine lv_aload_n hx hb d_L_law_266 rfl (lv_at hl 3 rfl) ?_
            refine lv_iload_n hx hb d_L_law_267 rfl (lv_at hl 0 rfl) ?_
            refine lv_iconst (v := iI (2)) hx hb d_L_law_268 rfl ?_
            refine x_iadd hx hb d_L_law_269 ?_
            refine x_sld hx hb hX hbl hbA hS (a := ((1 + 4 * (jn : Int))) + (2)) (by omega) (by omega) (by omega) d_L_law_270 ?_
            refine w_calli (va_runV (As := [.int (iI (sx xs (((1 + 4 * (jn : Int))) + (1)))), .int (iI (sx xs (((1 + 4 * (jn : Int))) + (2))))]) (rest := [.int r1]) ⟨hx, hb, hml, hown, hts⟩ (c_Mproduct l D ct st ke b 254 z30 (by omega) (kyO (sd L xs)) okk n v msg G V hM1 hI (sx xs ((1 + 4 * (jn : Int)) + (1))) (sx xs ((1 + 4 * (jn : Int)) + (2))) (sx_r _ _) (sx_r _ _)) (cwV 2 hts (gV t_589 t_590 t_591 t_9 t_592) rfl rfl rfl (by decide +kernel) ⟨Nat.le_of_ble_eq_true rfl, Nat.le_of_ble_eq_true rfl⟩) (pre_V E hP hS (236) (by omega) hmo1 rfl) rfl rfl hl.1 rfl (lv_room (Nat.le_of_ble_eq_true rfl)) d_L_law_271 ⟨(Nat.le_of_ble_eq_true rfl), (Nat.le_of_ble_eq_true rfl)⟩) hS (fun r2 z31 H locs hz2 hP hS => ?_)
            rcases hz2 with ⟨k2, e2, hM2, hf2⟩ | ⟨k2, e2, rfl⟩
            · have hI1 := PI_add hI k1.2.2 (g := (3, (sx xs ((1 + 4 * (jn : Int)) + (1))), (sx xs ((1 + 4 * (jn : Int)) + (2))), 0, gpl 3 (G (sx xs ((1 + 4 * (jn : Int)) + (1)))).2.2.2.2 (G (sx xs ((1 + 4 * (jn : Int)) + (2)))).2.2.2.2 0)) ⟨by show 3 < 6; decide, p17_gpl (kd := 3) (Y := (G (sx xs ((1 + 4 * (jn : Int)) + (2)))).2.2.2.2) (t := 0) (by decide) (by decide) (PI_p17 hI k1.1.1 k1.1.2), fun _ => k1.1, fun _ => k1.2.1, fun h => absurd h (by show ¬ 3 = 4; decide)⟩
              have hC2 := hC1.of (z := z31) hI1.1 hI1.2.1 hf2
              obtain rfl : r2 = r1 := e2.trans e1.symm
              refine x_same (tgt := 588) hx hb d_L_law_274 (by decide) ?_
              exact nx _ _ _ _ _ z31 H locs ls hC2 hM2 hI1 (fun j h => absurd h (Nat.not_lt_zero j)) hP hS hl
            · exact absurd k1 k2
          · refine lv_aload_n hx hb d_L_law_260 rfl (lv_at hl 1 rfl) ?_
            refine lv_aload_n hx hb d_L_law_261 rfl (lv_at hl 3 rfl) ?_
            refine lv_iload_n hx hb d_L_law_262 rfl (lv_at hl 0 rfl) ?_
            refine lv_iconst (v := iI (1)) hx hb d_L_law_263 rfl ?_
            refine x_iadd hx hb d_L_law_264 ?_
            refine x_sld hx hb hX hbl hbA hS (a := ((1 + 4 * (jn : Int))) + (1)) (by omega) (by omega) (by omega) d_L_law_265 ?_
            refine lv_aload_n hx hb d_L_law_266 rfl (lv_at hl 3 rfl) ?_
            refine lv_iload_n hx hb d_L_law_267 rfl (lv_at hl 0 rfl) ?_
            refine lv_iconst (v := iI (2)) hx hb d_L_law_268 rfl ?_
            refine x_iadd hx hb d_L_law_269 ?_
            refine x_sld hx hb hX hbl hbA hS (a := ((1 + 4 * (jn : Int))) + (2)) (by omega) (by omega) (by omega) d_L_law_270 ?_
            refine w_calli (va_runV (As := [.int (iI (sx xs (((1 + 4 * (jn : Int))) + (1)))), .int (iI (sx xs (((1 + 4 * (jn : Int))) + (2))))]) (rest := [.int r1]) ⟨hx, hb, hml, hown, hts⟩ (c_Mproduct l D ct st ke b 254 w15 (by omega) (kyO (sd L xs)) okk n v msg G V hM hI (sx xs ((1 + 4 * (jn : Int)) + (1))) (sx xs ((1 + 4 * (jn : Int)) + (2))) (sx_r _ _) (sx_r _ _)) (cwV 2 hts (gV t_589 t_590 t_591 t_9 t_592) rfl rfl rfl (by decide +kernel) ⟨Nat.le_of_ble_eq_true rfl, Nat.le_of_ble_eq_true rfl⟩) (pre_V E hP hS (236) (by omega) hmo rfl) rfl rfl hl.1 rfl (lv_room (Nat.le_of_ble_eq_true rfl)) d_L_law_271 ⟨(Nat.le_of_ble_eq_true rfl), (Nat.le_of_ble_eq_true rfl)⟩) hS (fun r2 z32 H locs hz2 hP hS => ?_)
            rcases hz2 with ⟨k2, e2, hM2, hf2⟩ | ⟨k2, e2, rfl⟩
            · exact absurd k2 k1
            · obtain rfl : r2 = r1 := e2.trans e1.symm
              refine x_same (tgt := 588) hx hb d_L_law_274 (by decide) ?_
              exact nx n v msg G V w15 H locs ls hC hM hI (fun j h => absurd h (Nat.not_lt_zero j)) hP hS hl
        · refine lv_tableIn (off := 237) (tgt := 279) hx hb d_L_law_42 (by decide) (by decide) (by decide) (by decide) ?_
          refine lv_aload_n hx hb d_L_law_279 rfl (lv_at hl 2 rfl) ?_
          refine lv_aload_n hx hb d_L_law_280 rfl (lv_at hl 3 rfl) ?_
          refine lv_iload_n hx hb d_L_law_281 rfl (lv_at hl 0 rfl) ?_
          refine lv_iconst (v := iI (1)) hx hb d_L_law_282 rfl ?_
          refine x_iadd hx hb d_L_law_283 ?_
          refine x_sld hx hb hX hbl hbA hS (a := ((1 + 4 * (jn : Int))) + (1)) (by omega) (by omega) (by omega) d_L_law_284 ?_
          refine lv_aload_n hx hb d_L_law_285 rfl (lv_at hl 3 rfl) ?_
          refine lv_iload_n hx hb d_L_law_286 rfl (lv_at hl 0 rfl) ?_
          refine lv_iconst (v := iI (2)) hx hb d_L_law_287 rfl ?_
          refine x_iadd hx hb d_L_law_288 ?_
          refine x_sld hx hb hX hbl hbA hS (a := ((1 + 4 * (jn : Int))) + (2)) (by omega) (by omega) (by omega) d_L_law_289 ?_
          refine w_calli (va_runV (As := [.int (iI (sx xs (((1 + 4 * (jn : Int))) + (1)))), .int (iI (sx xs (((1 + 4 * (jn : Int))) + (2))))]) (rest := []) ⟨hx, hb, hml, hown, hts⟩ (c_shift l D ct st ke b 254 w15 (by omega) (kyO (sd L xs)) n v msg G V hC hI (sx xs ((1 + 4 * (jn : Int)) + (1))) (sx xs ((1 + 4 * (jn : Int)) + (2))) (sx_r _ _) (sx_r _ _)) (cwV 2 hts (gV t_288 t_289 t_290 t_1 t_291) rfl rfl rfl (by decide +kernel) ⟨Nat.le_of_ble_eq_true rfl, Nat.le_of_ble_eq_true rfl⟩) (pre_V E hP hS (0) (by omega) hC.1 rfl) rfl rfl hl.1 rfl (lv_room (Nat.le_of_ble_eq_true rfl)) d_L_law_290 ⟨(Nat.le_of_ble_eq_true rfl), (Nat.le_of_ble_eq_true rfl)⟩) hS (fun r1 z33 H locs hz1 hP hS => ?_)
          rcases hz1 with ⟨k1, k3, e1, hC1, hf1⟩ | ⟨k1, e1, rfl⟩
          · have hM1 : MS ct b z33 (kyO (sd L xs)) n v msg G V := hM.of (fun j h _ => hf1 j (by omega))
            obtain ⟨mz1, hmo1⟩ := MS_mo hM1
            refine lv_aload_n hx hb d_L_law_293 rfl (lv_at hl 1 rfl) ?_
            refine lv_aload_n hx hb d_L_law_294 rfl (lv_at hl 3 rfl) ?_
            refine lv_iload_n hx hb d_L_law_295 rfl (lv_at hl 0 rfl) ?_
            refine lv_iconst (v := iI (1)) hx hb d_L_law_296 rfl ?_
            refine x_iadd hx hb d_L_law_297 ?_
            refine x_sld hx hb hX hbl hbA hS (a := ((1 + 4 * (jn : Int))) + (1)) (by omega) (by omega) (by omega) d_L_law_298 ?_
            refine lv_aload_n hx hb d_L_law_299 rfl (lv_at hl 3 rfl) ?_
            refine lv_iload_n hx hb d_L_law_300 rfl (lv_at hl 0 rfl) ?_
            refine lv_iconst (v := iI (2)) hx hb d_L_law_301 rfl ?_
            refine x_iadd hx hb d_L_law_302 ?_
            refine x_sld hx hb hX hbl hbA hS (a := ((1 + 4 * (jn : Int))) + (2)) (by omega) (by omega) (by omega) d_L_law_303 ?_
            refine w_calli (va_runV (As := [.int (iI (sx xs (((1 + 4 * (jn : Int))) + (1)))), .int (iI (sx xs (((1 + 4 * (jn : Int))) + (2))))]) (rest := [.int r1]) ⟨hx, hb, hml, hown, hts⟩ (c_Mshift l D ct st ke b 254 z33 (by omega) (kyO (sd L xs)) okk n v msg G V hM1 hI (sx xs ((1 + 4 * (jn : Int)) + (1))) (sx xs ((1 + 4 * (jn : Int)) + (2))) (sx_r _ _) (sx_r _ _)) (cwV 2 hts (gV t_593 t_594 t_595 t_9 t_596) rfl rfl rfl (by decide +kernel) ⟨Nat.le_of_ble_eq_true rfl, Nat.le_of_ble_eq_true rfl⟩) (pre_V E hP hS (236) (by omega) hmo1 rfl) rfl rfl hl.1 rfl (lv_room (Nat.le_of_ble_eq_true rfl)) d_L_law_304 ⟨(Nat.le_of_ble_eq_true rfl), (Nat.le_of_ble_eq_true rfl)⟩) hS (fun r2 z34 H locs hz2 hP hS => ?_)
            rcases hz2 with ⟨k2, k4, e2, hM2, hf2⟩ | ⟨k2, e2, rfl⟩
            · have hI1 := PI_add hI k3.2.2 (g := (4, (sx xs ((1 + 4 * (jn : Int)) + (1))), (sx xs ((1 + 4 * (jn : Int)) + (1))), (sx xs ((1 + 4 * (jn : Int)) + (2))), gpl 4 (G (sx xs ((1 + 4 * (jn : Int)) + (1)))).2.2.2.2 (G (sx xs ((1 + 4 * (jn : Int)) + (1)))).2.2.2.2 (sx xs ((1 + 4 * (jn : Int)) + (2))))) ⟨by show 4 < 6; decide, p17_gpl (kd := 4) (Y := (G (sx xs ((1 + 4 * (jn : Int)) + (1)))).2.2.2.2) (t := (sx xs ((1 + 4 * (jn : Int)) + (2)))) (by decide) (by decide) (PI_p17 hI k3.1.1 k3.1.2), fun _ => k3.1, fun _ => k3.2.1, fun _ => k1⟩
              have hC2 := hC1.of (z := z34) hI1.1 hI1.2.1 hf2
              obtain rfl : r2 = r1 := e2.trans e1.symm
              refine x_same (tgt := 588) hx hb d_L_law_307 (by decide) ?_
              exact nx _ _ _ _ _ z34 H locs ls hC2 hM2 hI1 (fun j h => absurd h (Nat.not_lt_zero j)) hP hS hl
            · exact absurd ⟨k1, k3⟩ k2
          · refine lv_aload_n hx hb d_L_law_293 rfl (lv_at hl 1 rfl) ?_
            refine lv_aload_n hx hb d_L_law_294 rfl (lv_at hl 3 rfl) ?_
            refine lv_iload_n hx hb d_L_law_295 rfl (lv_at hl 0 rfl) ?_
            refine lv_iconst (v := iI (1)) hx hb d_L_law_296 rfl ?_
            refine x_iadd hx hb d_L_law_297 ?_
            refine x_sld hx hb hX hbl hbA hS (a := ((1 + 4 * (jn : Int))) + (1)) (by omega) (by omega) (by omega) d_L_law_298 ?_
            refine lv_aload_n hx hb d_L_law_299 rfl (lv_at hl 3 rfl) ?_
            refine lv_iload_n hx hb d_L_law_300 rfl (lv_at hl 0 rfl) ?_
            refine lv_iconst (v := iI (2)) hx hb d_L_law_301 rfl ?_
            refine x_iadd hx hb d_L_law_302 ?_
            refine x_sld hx hb hX hbl hbA hS (a := ((1 + 4 * (jn : Int))) + (2)) (by omega) (by omega) (by omega) d_L_law_303 ?_
            refine w_calli (va_runV (As := [.int (iI (sx xs (((1 + 4 * (jn : Int))) + (1)))), .int (iI (sx xs (((1 + 4 * (jn : Int))) + (2))))]) (rest := [.int r1]) ⟨hx, hb, hml, hown, hts⟩ (c_Mshift l D ct st ke b 254 w15 (by omega) (kyO (sd L xs)) okk n v msg G V hM hI (sx xs ((1 + 4 * (jn : Int)) + (1))) (sx xs ((1 + 4 * (jn : Int)) + (2))) (sx_r _ _) (sx_r _ _)) (cwV 2 hts (gV t_593 t_594 t_595 t_9 t_596) rfl rfl rfl (by decide +kernel) ⟨Nat.le_of_ble_eq_true rfl, Nat.le_of_ble_eq_true rfl⟩) (pre_V E hP hS (236) (by omega) hmo rfl) rfl rfl hl.1 rfl (lv_room (Nat.le_of_ble_eq_true rfl)) d_L_law_304 ⟨(Nat.le_of_ble_eq_true rfl), (Nat.le_of_ble_eq_true rfl)⟩) hS (fun r2 z35 H locs hz2 hP hS => ?_)
            rcases hz2 with ⟨k2, k4, e2, hM2, hf2⟩ | ⟨k2, e2, rfl⟩
            · exact absurd ⟨k2, k4⟩ k1
            · obtain rfl : r2 = r1 := e2.trans e1.symm
              refine x_same (tgt := 588) hx hb d_L_law_307 (by decide) ?_
              exact nx n v msg G V w15 H locs ls hC hM hI (fun j h => absurd h (Nat.not_lt_zero j)) hP hS hl
        · refine lv_tableIn (off := 270) (tgt := 312) hx hb d_L_law_42 (by decide) (by decide) (by decide) (by decide) ?_
          refine lv_aload_n hx hb d_L_law_312 rfl (lv_at hl 2 rfl) ?_
          refine lv_aload_n hx hb d_L_law_313 rfl (lv_at hl 3 rfl) ?_
          refine lv_iload_n hx hb d_L_law_314 rfl (lv_at hl 0 rfl) ?_
          refine lv_iconst (v := iI (1)) hx hb d_L_law_315 rfl ?_
          refine x_iadd hx hb d_L_law_316 ?_
          refine x_sld hx hb hX hbl hbA hS (a := ((1 + 4 * (jn : Int))) + (1)) (by omega) (by omega) (by omega) d_L_law_317 ?_
          refine w_calli (va_runV (As := [.int (iI (sx xs (((1 + 4 * (jn : Int))) + (1))))]) (rest := []) ⟨hx, hb, hml, hown, hts⟩ (c_lowered l D ct st ke b 254 w15 (by omega) (kyO (sd L xs)) n v msg G V hC hI (sx xs ((1 + 4 * (jn : Int)) + (1))) (sx_r _ _)) (cwV 1 hts (gV t_294 t_295 t_296 t_1 t_297) rfl rfl rfl (by decide +kernel) ⟨Nat.le_of_ble_eq_true rfl, Nat.le_of_ble_eq_true rfl⟩) (pre_V E hP hS (0) (by omega) hC.1 rfl) rfl rfl hl.1 rfl (lv_room (Nat.le_of_ble_eq_true rfl)) d_L_law_318 ⟨(Nat.le_of_ble_eq_true rfl), (Nat.le_of_ble_eq_true rfl)⟩) hS (fun r1 z36 H locs hz1 hP hS => ?_)
          rcases hz1 with ⟨k1, e1, hC1, hf1⟩ | ⟨k1, e1, rfl⟩
          · have hM1 : MS ct b z36 (kyO (sd L xs)) n v msg G V := hM.of (fun j h _ => hf1 j (by omega))
            obtain ⟨mz1, hmo1⟩ := MS_mo hM1
            refine lv_aload_n hx hb d_L_law_321 rfl (lv_at hl 1 rfl) ?_
            refine lv_aload_n hx hb d_L_law_322 rfl (lv_at hl 3 rfl) ?_
            refine lv_iload_n hx hb d_L_law_323 rfl (lv_at hl 0 rfl) ?_
            refine lv_iconst (v := iI (1)) hx hb d_L_law_324 rfl ?_
            refine x_iadd hx hb d_L_law_325 ?_
            refine x_sld hx hb hX hbl hbA hS (a := ((1 + 4 * (jn : Int))) + (1)) (by omega) (by omega) (by omega) d_L_law_326 ?_
            refine w_calli (va_runV (As := [.int (iI (sx xs (((1 + 4 * (jn : Int))) + (1))))]) (rest := [.int r1]) ⟨hx, hb, hml, hown, hts⟩ (c_Mlowered l D ct st ke b 254 z36 (by omega) (kyO (sd L xs)) okk n v msg G V hM1 hI (sx xs ((1 + 4 * (jn : Int)) + (1))) (sx_r _ _)) (cwV 1 hts (gV t_597 t_598 t_599 t_9 t_600) rfl rfl rfl (by decide +kernel) ⟨Nat.le_of_ble_eq_true rfl, Nat.le_of_ble_eq_true rfl⟩) (pre_V E hP hS (236) (by omega) hmo1 rfl) rfl rfl hl.1 rfl (lv_room (Nat.le_of_ble_eq_true rfl)) d_L_law_327 ⟨(Nat.le_of_ble_eq_true rfl), (Nat.le_of_ble_eq_true rfl)⟩) hS (fun r2 z37 H locs hz2 hP hS => ?_)
            rcases hz2 with ⟨k2, e2, hM2, hf2⟩ | ⟨k2, e2, rfl⟩
            · have hI1 := PI_add hI k1.2.2 (g := (5, (sx xs ((1 + 4 * (jn : Int)) + (1))), (sx xs ((1 + 4 * (jn : Int)) + (1))), 0, gpl 5 (G (sx xs ((1 + 4 * (jn : Int)) + (1)))).2.2.2.2 (G (sx xs ((1 + 4 * (jn : Int)) + (1)))).2.2.2.2 0)) ⟨by show 5 < 6; decide, p17_gpl (kd := 5) (Y := (G (sx xs ((1 + 4 * (jn : Int)) + (1)))).2.2.2.2) (t := 0) (by decide) (by decide) (PI_p17 hI k1.1.1 k1.1.2), fun _ => k1.1, fun _ => k1.2.1, fun h => absurd h (by show ¬ 5 = 4; decide)⟩
              have hC2 := hC1.of (z := z37) hI1.1 hI1.2.1 hf2
              obtain rfl : r2 = r1 := e2.trans e1.symm
              refine x_same (tgt := 588) hx hb d_L_law_330 (by decide) ?_
              exact nx _ _ _ _ _ z37 H locs ls hC2 hM2 hI1 (fun j h => absurd h (Nat.not_lt_zero j)) hP hS hl
            · exact absurd k1 k2
          · refine lv_aload_n hx hb d_L_law_321 rfl (lv_at hl 1 rfl) ?_
            refine lv_aload_n hx hb d_L_law_322 rfl (lv_at hl 3 rfl) ?_
            refine lv_iload_n hx hb d_L_law_323 rfl (lv_at hl 0 rfl) ?_
            refine lv_iconst (v := iI (1)) hx hb d_L_law_324 rfl ?_
            refine x_iadd hx hb d_L_law_325 ?_
            refine x_sld hx hb hX hbl hbA hS (a := ((1 + 4 * (jn : Int))) + (1)) (by omega) (by omega) (by omega) d_L_law_326 ?_
            refine w_calli (va_runV (As := [.int (iI (sx xs (((1 + 4 * (jn : Int))) + (1))))]) (rest := [.int r1]) ⟨hx, hb, hml, hown, hts⟩ (c_Mlowered l D ct st ke b 254 w15 (by omega) (kyO (sd L xs)) okk n v msg G V hM hI (sx xs ((1 + 4 * (jn : Int)) + (1))) (sx_r _ _)) (cwV 1 hts (gV t_597 t_598 t_599 t_9 t_600) rfl rfl rfl (by decide +kernel) ⟨Nat.le_of_ble_eq_true rfl, Nat.le_of_ble_eq_true rfl⟩) (pre_V E hP hS (236) (by omega) hmo rfl) rfl rfl hl.1 rfl (lv_room (Nat.le_of_ble_eq_true rfl)) d_L_law_327 ⟨(Nat.le_of_ble_eq_true rfl), (Nat.le_of_ble_eq_true rfl)⟩) hS (fun r2 z38 H locs hz2 hP hS => ?_)
            rcases hz2 with ⟨k2, e2, hM2, hf2⟩ | ⟨k2, e2, rfl⟩
            · exact absurd k2 k1
            · obtain rfl : r2 = r1 := e2.trans e1.symm
              refine x_same (tgt := 588) hx hb d_L_law_330 (by decide) ?_
              exact nx n v msg G V w15 H locs ls hC hM hI (fun j h => absurd h (Nat.not_lt_zero j)) hP hS hl
        · refine lv_tableIn (off := 293) (tgt := 335) hx hb d_L_law_42 (by decide) (by decide) (by decide) (by decide) ?_
          refine lv_aload_n hx hb d_L_law_335 rfl (lv_at hl 2 rfl) ?_
          refine w_calli (va_runV (As := []) (rest := []) ⟨hx, hb, hml, hown, hts⟩ (c_count l D ct st ke b 254 w15 (by omega) n v hC.1) (cwV 0 hts (gV t_300 t_301 t_302 t_1 t_303) rfl rfl rfl (by decide +kernel) ⟨Nat.le_of_ble_eq_true rfl, Nat.le_of_ble_eq_true rfl⟩) (pre_V E hP hS (0) (by omega) hC.1 rfl) rfl rfl hl.1 rfl (lv_room (Nat.le_of_ble_eq_true rfl)) d_L_law_336 ⟨(Nat.le_of_ble_eq_true rfl), (Nat.le_of_ble_eq_true rfl)⟩) hS (fun r1 z39 H locs hz1 hP hS => ?_)
          obtain ⟨e1, rfl⟩ := hz1
          refine lv_aload_n hx hb d_L_law_339 rfl (lv_at hl 1 rfl) ?_
          refine w_calli (va_runV (As := []) (rest := [.int r1]) ⟨hx, hb, hml, hown, hts⟩ (c_Mcount l D ct st ke b 254 w15 (by omega) (kyO (sd L xs)) okk n v msg G V hM hI  ) (cwV 0 hts (gV t_601 t_602 t_603 t_9 t_604) rfl rfl rfl (by decide +kernel) ⟨Nat.le_of_ble_eq_true rfl, Nat.le_of_ble_eq_true rfl⟩) (pre_V E hP hS (236) (by omega) hmo rfl) rfl rfl hl.1 rfl (lv_room (Nat.le_of_ble_eq_true rfl)) d_L_law_340 ⟨(Nat.le_of_ble_eq_true rfl), (Nat.le_of_ble_eq_true rfl)⟩) hS (fun r2 z40 H locs hz2 hP hS => ?_)
          obtain ⟨e2, rfl⟩ := hz2
          obtain rfl : r2 = r1 := e2.trans e1.symm
          refine x_same (tgt := 588) hx hb d_L_law_343 (by decide) ?_
          exact nx n v msg G V w15 H locs ls hC hM hI (fun j h => absurd h (Nat.not_lt_zero j)) hP hS hl
        · refine lv_tableIn (off := 306) (tgt := 348) hx hb d_L_law_42 (by decide) (by decide) (by decide) (by decide) ?_
          refine lv_aload_n hx hb d_L_law_348 rfl (lv_at hl 2 rfl) ?_
          refine lv_aload_n hx hb d_L_law_349 rfl (lv_at hl 3 rfl) ?_
          refine lv_iload_n hx hb d_L_law_350 rfl (lv_at hl 0 rfl) ?_
          refine lv_iconst (v := iI (1)) hx hb d_L_law_351 rfl ?_
          refine x_iadd hx hb d_L_law_352 ?_
          refine x_sld hx hb hX hbl hbA hS (a := ((1 + 4 * (jn : Int))) + (1)) (by omega) (by omega) (by omega) d_L_law_353 ?_
          refine w_calli (va_runV (As := [.int (iI (sx xs (((1 + 4 * (jn : Int))) + (1))))]) (rest := []) ⟨hx, hb, hml, hown, hts⟩ (c_cut l D ct st ke b 254 w15 (by omega) (kyO (sd L xs)) n v msg G V hC hI (sx xs ((1 + 4 * (jn : Int)) + (1))) (sx_r _ _)) (cwV 1 hts (gV t_304 t_305 t_306 t_1 t_307) rfl rfl rfl (by decide +kernel) ⟨Nat.le_of_ble_eq_true rfl, Nat.le_of_ble_eq_true rfl⟩) (pre_V E hP hS (0) (by omega) hC.1 rfl) rfl rfl hl.1 rfl (lv_room (Nat.le_of_ble_eq_true rfl)) d_L_law_354 ⟨(Nat.le_of_ble_eq_true rfl), (Nat.le_of_ble_eq_true rfl)⟩) hS (fun r1 z41 H locs hz1 hP hS => ?_)
          rcases hz1 with ⟨k1, e1, hC1, hf1⟩ | ⟨k1, e1, rfl⟩
          · have hM1 : MS ct b z41 (kyO (sd L xs)) n v msg G V := hM.of (fun j h _ => hf1 j (by omega))
            obtain ⟨mz1, hmo1⟩ := MS_mo hM1
            refine lv_aload_n hx hb d_L_law_357 rfl (lv_at hl 1 rfl) ?_
            refine lv_aload_n hx hb d_L_law_358 rfl (lv_at hl 3 rfl) ?_
            refine lv_iload_n hx hb d_L_law_359 rfl (lv_at hl 0 rfl) ?_
            refine lv_iconst (v := iI (1)) hx hb d_L_law_360 rfl ?_
            refine x_iadd hx hb d_L_law_361 ?_
            refine x_sld hx hb hX hbl hbA hS (a := ((1 + 4 * (jn : Int))) + (1)) (by omega) (by omega) (by omega) d_L_law_362 ?_
            refine w_calli (va_runV (As := [.int (iI (sx xs (((1 + 4 * (jn : Int))) + (1))))]) (rest := [.int r1]) ⟨hx, hb, hml, hown, hts⟩ (c_Mcut l D ct st ke b 254 z41 (by omega) (kyO (sd L xs)) okk n v msg G V hM1 hI (sx xs ((1 + 4 * (jn : Int)) + (1))) (sx_r _ _)) (cwV 1 hts (gV t_605 t_606 t_607 t_9 t_608) rfl rfl rfl (by decide +kernel) ⟨Nat.le_of_ble_eq_true rfl, Nat.le_of_ble_eq_true rfl⟩) (pre_V E hP hS (236) (by omega) hmo1 rfl) rfl rfl hl.1 rfl (lv_room (Nat.le_of_ble_eq_true rfl)) d_L_law_363 ⟨(Nat.le_of_ble_eq_true rfl), (Nat.le_of_ble_eq_true rfl)⟩) hS (fun r2 z42 H locs hz2 hP hS => ?_)
            rcases hz2 with ⟨k2, e2, hM2, hf2⟩ | ⟨k2, e2, rfl⟩
            · have hI1 := PI_cut (g := (sx xs ((1 + 4 * (jn : Int)) + (1))).toNat) hI (by omega)
              have hC2 := hC1.of (z := z42) hI1.1 hI1.2.1 hf2
              obtain rfl : r2 = r1 := e2.trans e1.symm
              refine x_same (tgt := 588) hx hb d_L_law_366 (by decide) ?_
              exact nx _ _ _ _ _ z42 H locs ls hC2 hM2 hI1 (fun j h => absurd h (Nat.not_lt_zero j)) hP hS hl
            · exact absurd k1 k2
          · refine lv_aload_n hx hb d_L_law_357 rfl (lv_at hl 1 rfl) ?_
            refine lv_aload_n hx hb d_L_law_358 rfl (lv_at hl 3 rfl) ?_
            refine lv_iload_n hx hb d_L_law_359 rfl (lv_at hl 0 rfl) ?_
            refine lv_iconst (v := iI (1)) hx hb d_L_law_360 rfl ?_
            refine x_iadd hx hb d_L_law_361 ?_
            refine x_sld hx hb hX hbl hbA hS (a := ((1 + 4 * (jn : Int))) + (1)) (by omega) (by omega) (by omega) d_L_law_362 ?_
            refine w_calli (va_runV (As := [.int (iI (sx xs (((1 + 4 * (jn : Int))) + (1))))]) (rest := [.int r1]) ⟨hx, hb, hml, hown, hts⟩ (c_Mcut l D ct st ke b 254 w15 (by omega) (kyO (sd L xs)) okk n v msg G V hM hI (sx xs ((1 + 4 * (jn : Int)) + (1))) (sx_r _ _)) (cwV 1 hts (gV t_605 t_606 t_607 t_9 t_608) rfl rfl rfl (by decide +kernel) ⟨Nat.le_of_ble_eq_true rfl, Nat.le_of_ble_eq_true rfl⟩) (pre_V E hP hS (236) (by omega) hmo rfl) rfl rfl hl.1 rfl (lv_room (Nat.le_of_ble_eq_true rfl)) d_L_law_363 ⟨(Nat.le_of_ble_eq_true rfl), (Nat.le_of_ble_eq_true rfl)⟩) hS (fun r2 z43 H locs hz2 hP hS => ?_)
            rcases hz2 with ⟨k2, e2, hM2, hf2⟩ | ⟨k2, e2, rfl⟩
            · exact absurd k2 k1
            · obtain rfl : r2 = r1 := e2.trans e1.symm
              refine x_same (tgt := 588) hx hb d_L_law_366 (by decide) ?_
              exact nx n v msg G V w15 H locs ls hC hM hI (fun j h => absurd h (Nat.not_lt_zero j)) hP hS hl
        · refine lv_tableIn (off := 329) (tgt := 371) hx hb d_L_law_42 (by decide) (by decide) (by decide) (by decide) ?_
          refine lv_aload_n hx hb d_L_law_371 rfl (lv_at hl 2 rfl) ?_
          refine w_calli (va_runV (As := []) (rest := []) ⟨hx, hb, hml, hown, hts⟩ (c_run l D ct st ke b 254 w15 (by omega) (kyO (sd L xs)) n v msg G V hC hI  ) (cwV 0 hts (gV t_309 t_310 t_311 t_1 t_312) rfl rfl rfl (by decide +kernel) ⟨Nat.le_of_ble_eq_true rfl, Nat.le_of_ble_eq_true rfl⟩) (pre_V E hP hS (0) (by omega) hC.1 rfl) rfl rfl hl.1 rfl (lv_room (Nat.le_of_ble_eq_true rfl)) d_L_law_372 ⟨(Nat.le_of_ble_eq_true rfl), (Nat.le_of_ble_eq_true rfl)⟩) hS (fun r1 z44 H locs hz1 hP hS => ?_)
          obtain ⟨e1, hC1, hf1⟩ := hz1
          have hM1 : MS ct b z44 (kyO (sd L xs)) n v msg G V := hM.of (fun j h _ => hf1 j (by omega))
          obtain ⟨mz1, hmo1⟩ := MS_mo hM1
          refine lv_aload_n hx hb d_L_law_375 rfl (lv_at hl 1 rfl) ?_
          refine w_calli (va_runV (As := []) (rest := [.int r1]) ⟨hx, hb, hml, hown, hts⟩ (c_Mrun l D ct st ke b 254 z44 (by omega) (kyO (sd L xs)) okk n v msg G V hM1 hI  ) (cwV 0 hts (gV t_609 t_610 t_611 t_9 t_612) rfl rfl rfl (by decide +kernel) ⟨Nat.le_of_ble_eq_true rfl, Nat.le_of_ble_eq_true rfl⟩) (pre_V E hP hS (236) (by omega) hmo1 rfl) rfl rfl hl.1 rfl (lv_room (Nat.le_of_ble_eq_true rfl)) d_L_law_376 ⟨(Nat.le_of_ble_eq_true rfl), (Nat.le_of_ble_eq_true rfl)⟩) hS (fun r2 z45 H locs hz2 hP hS => ?_)
          obtain ⟨e2, hM2, hf2⟩ := hz2
          have hI1 := PI_rn (K := (kyO (sd L xs))) 24 v V hI
          have hC2 := hC1.of (z := z45) hI1.1 hI1.2.1 hf2
          obtain rfl : r2 = r1 := e2.trans e1.symm
          refine x_same (tgt := 588) hx hb d_L_law_379 (by decide) ?_
          exact nx _ _ _ _ _ z45 H locs ls hC2 hM2 hI1 (fun j h => absurd h (Nat.not_lt_zero j)) hP hS hl
        · refine lv_tableIn (off := 342) (tgt := 384) hx hb d_L_law_42 (by decide) (by decide) (by decide) (by decide) ?_
          refine lv_aload_n hx hb d_L_law_384 rfl (lv_at hl 2 rfl) ?_
          refine lv_aload_n hx hb d_L_law_385 rfl (lv_at hl 3 rfl) ?_
          refine lv_iload_n hx hb d_L_law_386 rfl (lv_at hl 0 rfl) ?_
          refine lv_iconst (v := iI (1)) hx hb d_L_law_387 rfl ?_
          refine x_iadd hx hb d_L_law_388 ?_
          refine x_sld hx hb hX hbl hbA hS (a := ((1 + 4 * (jn : Int))) + (1)) (by omega) (by omega) (by omega) d_L_law_389 ?_
          refine w_calli (va_runV (As := [.int (iI (sx xs (((1 + 4 * (jn : Int))) + (1))))]) (rest := []) ⟨hx, hb, hml, hown, hts⟩ (c_level l D ct st ke b 254 w15 (by omega) (kyO (sd L xs)) n v msg G V hC hI (sx xs ((1 + 4 * (jn : Int)) + (1))) (sx_r _ _)) (cwV 1 hts (gV t_400 t_401 t_402 t_1 t_403) rfl rfl rfl (by decide +kernel) ⟨Nat.le_of_ble_eq_true rfl, Nat.le_of_ble_eq_true rfl⟩) (pre_V E hP hS (0) (by omega) hC.1 rfl) rfl rfl hl.1 rfl (lv_room (Nat.le_of_ble_eq_true rfl)) d_L_law_390 ⟨(Nat.le_of_ble_eq_true rfl), (Nat.le_of_ble_eq_true rfl)⟩) hS (fun r1 z46 H locs hz1 hP hS => ?_)
          obtain ⟨e1, rfl⟩ := hz1
          refine lv_aload_n hx hb d_L_law_393 rfl (lv_at hl 1 rfl) ?_
          refine lv_aload_n hx hb d_L_law_394 rfl (lv_at hl 3 rfl) ?_
          refine lv_iload_n hx hb d_L_law_395 rfl (lv_at hl 0 rfl) ?_
          refine lv_iconst (v := iI (1)) hx hb d_L_law_396 rfl ?_
          refine x_iadd hx hb d_L_law_397 ?_
          refine x_sld hx hb hX hbl hbA hS (a := ((1 + 4 * (jn : Int))) + (1)) (by omega) (by omega) (by omega) d_L_law_398 ?_
          refine w_calli (va_runV (As := [.int (iI (sx xs (((1 + 4 * (jn : Int))) + (1))))]) (rest := [.int r1]) ⟨hx, hb, hml, hown, hts⟩ (c_Mlevel l D ct st ke b 254 w15 (by omega) (kyO (sd L xs)) okk n v msg G V hM hI (sx xs ((1 + 4 * (jn : Int)) + (1))) (sx_r _ _)) (cwV 1 hts (gV t_660 t_661 t_662 t_9 t_663) rfl rfl rfl (by decide +kernel) ⟨Nat.le_of_ble_eq_true rfl, Nat.le_of_ble_eq_true rfl⟩) (pre_V E hP hS (236) (by omega) hmo rfl) rfl rfl hl.1 rfl (lv_room (Nat.le_of_ble_eq_true rfl)) d_L_law_399 ⟨(Nat.le_of_ble_eq_true rfl), (Nat.le_of_ble_eq_true rfl)⟩) hS (fun r2 z47 H locs hz2 hP hS => ?_)
          obtain ⟨e2, rfl⟩ := hz2
          obtain rfl : r2 = r1 := e2.trans e1.symm
          refine x_same (tgt := 588) hx hb d_L_law_402 (by decide) ?_
          exact nx n v msg G V w15 H locs ls hC hM hI (fun j h => absurd h (Nat.not_lt_zero j)) hP hS hl
        · refine lv_tableIn (off := 365) (tgt := 407) hx hb d_L_law_42 (by decide) (by decide) (by decide) (by decide) ?_
          refine lv_aload_n hx hb d_L_law_407 rfl (lv_at hl 2 rfl) ?_
          refine lv_aload_n hx hb d_L_law_408 rfl (lv_at hl 3 rfl) ?_
          refine lv_iload_n hx hb d_L_law_409 rfl (lv_at hl 0 rfl) ?_
          refine lv_iconst (v := iI (1)) hx hb d_L_law_410 rfl ?_
          refine x_iadd hx hb d_L_law_411 ?_
          refine x_sld hx hb hX hbl hbA hS (a := ((1 + 4 * (jn : Int))) + (1)) (by omega) (by omega) (by omega) d_L_law_412 ?_
          refine w_calll (va_runV (As := [.int (iI (sx xs (((1 + 4 * (jn : Int))) + (1))))]) (rest := []) ⟨hx, hb, hml, hown, hts⟩ (c_meter l D ct st ke b 254 w15 (by omega) (kyO (sd L xs)) n v msg G V hC hI (sx xs ((1 + 4 * (jn : Int)) + (1))) (sx_r _ _)) (cwV 1 hts (gV t_408 t_409 t_410 t_1 t_411) rfl rfl rfl (by decide +kernel) ⟨Nat.le_of_ble_eq_true rfl, Nat.le_of_ble_eq_true rfl⟩) (pre_V E hP hS (0) (by omega) hC.1 rfl) rfl rfl hl.1 rfl (lv_room (Nat.le_of_ble_eq_true rfl)) d_L_law_413 ⟨(Nat.le_of_ble_eq_true rfl), (Nat.le_of_ble_eq_true rfl)⟩) hS (fun r1 z48 H locs hz1 hP hS => ?_)
          obtain ⟨e1, rfl⟩ := hz1
          refine lv_aload_n hx hb d_L_law_416 rfl (lv_at hl 1 rfl) ?_
          refine lv_aload_n hx hb d_L_law_417 rfl (lv_at hl 3 rfl) ?_
          refine lv_iload_n hx hb d_L_law_418 rfl (lv_at hl 0 rfl) ?_
          refine lv_iconst (v := iI (1)) hx hb d_L_law_419 rfl ?_
          refine x_iadd hx hb d_L_law_420 ?_
          refine x_sld hx hb hX hbl hbA hS (a := ((1 + 4 * (jn : Int))) + (1)) (by omega) (by omega) (by omega) d_L_law_421 ?_
          refine w_calll (va_runV (As := [.int (iI (sx xs (((1 + 4 * (jn : Int))) + (1))))]) (rest := [.long r1]) ⟨hx, hb, hml, hown, hts⟩ (c_Mmeter l D ct st ke b 254 w15 (by omega) (kyO (sd L xs)) okk n v msg G V hM hI (sx xs ((1 + 4 * (jn : Int)) + (1))) (sx_r _ _)) (cwV 1 hts (gV t_668 t_669 t_670 t_9 t_671) rfl rfl rfl (by decide +kernel) ⟨Nat.le_of_ble_eq_true rfl, Nat.le_of_ble_eq_true rfl⟩) (pre_V E hP hS (236) (by omega) hmo rfl) rfl rfl hl.1 rfl (lv_room (Nat.le_of_ble_eq_true rfl)) d_L_law_422 ⟨(Nat.le_of_ble_eq_true rfl), (Nat.le_of_ble_eq_true rfl)⟩) hS (fun r2 z49 H locs hz2 hP hS => ?_)
          obtain ⟨e2, rfl⟩ := hz2
          obtain rfl : r2 = r1 := e2.trans e1.symm
          refine x_lsame (tgt := 588) hx hb d_L_law_425 d_L_law_426 (by decide) ?_
          exact nx n v msg G V w15 H locs ls hC hM hI (fun j h => absurd h (Nat.not_lt_zero j)) hP hS hl
        · refine lv_tableIn (off := 389) (tgt := 431) hx hb d_L_law_42 (by decide) (by decide) (by decide) (by decide) ?_
          refine lv_aload_n hx hb d_L_law_431 rfl (lv_at hl 2 rfl) ?_
          refine lv_aload_n hx hb d_L_law_432 rfl (lv_at hl 3 rfl) ?_
          refine lv_iload_n hx hb d_L_law_433 rfl (lv_at hl 0 rfl) ?_
          refine lv_iconst (v := iI (1)) hx hb d_L_law_434 rfl ?_
          refine x_iadd hx hb d_L_law_435 ?_
          refine x_sld hx hb hX hbl hbA hS (a := ((1 + 4 * (jn : Int))) + (1)) (by omega) (by omega) (by omega) d_L_law_436 ?_
          refine w_calll (va_runV (As := [.int (iI (sx xs (((1 + 4 * (jn : Int))) + (1))))]) (rest := []) ⟨hx, hb, hml, hown, hts⟩ (c_noise l D ct st ke b 254 w15 (by omega) (kyO (sd L xs)) n v msg G V hC hI (sx xs ((1 + 4 * (jn : Int)) + (1))) (sx_r _ _)) (cwV 1 hts (gV t_413 t_414 t_415 t_1 t_416) rfl rfl rfl (by decide +kernel) ⟨Nat.le_of_ble_eq_true rfl, Nat.le_of_ble_eq_true rfl⟩) (pre_V E hP hS (0) (by omega) hC.1 rfl) rfl rfl hl.1 rfl (lv_room (Nat.le_of_ble_eq_true rfl)) d_L_law_437 ⟨(Nat.le_of_ble_eq_true rfl), (Nat.le_of_ble_eq_true rfl)⟩) hS (fun r1 z50 H locs hz1 hP hS => ?_)
          obtain ⟨e1, hC1, hf1⟩ := hz1
          have hM1 : MS ct b z50 (kyO (sd L xs)) n v msg G V := hM.of (fun j h _ => hf1 j (by omega))
          obtain ⟨mz1, hmo1⟩ := MS_mo hM1
          refine lv_aload_n hx hb d_L_law_440 rfl (lv_at hl 1 rfl) ?_
          refine lv_aload_n hx hb d_L_law_441 rfl (lv_at hl 3 rfl) ?_
          refine lv_iload_n hx hb d_L_law_442 rfl (lv_at hl 0 rfl) ?_
          refine lv_iconst (v := iI (1)) hx hb d_L_law_443 rfl ?_
          refine x_iadd hx hb d_L_law_444 ?_
          refine x_sld hx hb hX hbl hbA hS (a := ((1 + 4 * (jn : Int))) + (1)) (by omega) (by omega) (by omega) d_L_law_445 ?_
          refine w_calll (va_runV (As := [.int (iI (sx xs (((1 + 4 * (jn : Int))) + (1))))]) (rest := [.long r1]) ⟨hx, hb, hml, hown, hts⟩ (c_Mnoise l D ct st ke b 254 z50 (by omega) (kyO (sd L xs)) okk n v msg G V hM1 hI (sx xs ((1 + 4 * (jn : Int)) + (1))) (sx_r _ _)) (cwV 1 hts (gV t_673 t_674 t_675 t_9 t_676) rfl rfl rfl (by decide +kernel) ⟨Nat.le_of_ble_eq_true rfl, Nat.le_of_ble_eq_true rfl⟩) (pre_V E hP hS (236) (by omega) hmo1 rfl) rfl rfl hl.1 rfl (lv_room (Nat.le_of_ble_eq_true rfl)) d_L_law_446 ⟨(Nat.le_of_ble_eq_true rfl), (Nat.le_of_ble_eq_true rfl)⟩) hS (fun r2 z51 H locs hz2 hP hS => ?_)
          obtain ⟨e2, hM2, hf2⟩ := hz2
          have hI1 := hI
          have hC2 := hC1.of (z := z51) hI1.1 hI1.2.1 hf2
          obtain rfl : r2 = r1 := e2.trans e1.symm
          refine x_lsame (tgt := 588) hx hb d_L_law_449 d_L_law_450 (by decide) ?_
          exact nx _ _ _ _ _ z51 H locs ls hC2 hM2 hI1 (fun j h => absurd h (Nat.not_lt_zero j)) hP hS hl
        · refine lv_tableIn (off := 413) (tgt := 455) hx hb d_L_law_42 (by decide) (by decide) (by decide) (by decide) ?_
          refine lv_aload_n hx hb d_L_law_455 rfl (lv_at hl 2 rfl) ?_
          refine lv_aload_n hx hb d_L_law_456 rfl (lv_at hl 3 rfl) ?_
          refine lv_iload_n hx hb d_L_law_457 rfl (lv_at hl 0 rfl) ?_
          refine lv_iconst (v := iI (1)) hx hb d_L_law_458 rfl ?_
          refine x_iadd hx hb d_L_law_459 ?_
          refine x_sld hx hb hX hbl hbA hS (a := ((1 + 4 * (jn : Int))) + (1)) (by omega) (by omega) (by omega) d_L_law_460 ?_
          refine lv_aload_n hx hb d_L_law_461 rfl (lv_at hl 3 rfl) ?_
          refine lv_iload_n hx hb d_L_law_462 rfl (lv_at hl 0 rfl) ?_
          refine lv_iconst (v := iI (2)) hx hb d_L_law_463 rfl ?_
          refine x_iadd hx hb d_L_law_464 ?_
          refine x_sld hx hb hX hbl hbA hS (a := ((1 + 4 * (jn : Int))) + (2)) (by omega) (by omega) (by omega) d_L_law_465 ?_
          refine lv_aload_n hx hb d_L_law_466 rfl (lv_at hl 3 rfl) ?_
          refine lv_iload_n hx hb d_L_law_467 rfl (lv_at hl 0 rfl) ?_
          refine lv_iconst (v := iI (3)) hx hb d_L_law_468 rfl ?_
          refine x_iadd hx hb d_L_law_469 ?_
          refine x_sld hx hb hX hbl hbA hS (a := ((1 + 4 * (jn : Int))) + (3)) (by omega) (by omega) (by omega) d_L_law_470 ?_
          refine w_calll (va_runV (As := [.int (iI (sx xs (((1 + 4 * (jn : Int))) + (1)))), .int (iI (sx xs (((1 + 4 * (jn : Int))) + (2)))), .int (iI (sx xs (((1 + 4 * (jn : Int))) + (3))))]) (rest := []) ⟨hx, hb, hml, hown, hts⟩ (c_part l D ct st ke b 254 w15 (by omega) (kyO (sd L xs)) n v msg G V hC hI (sx xs ((1 + 4 * (jn : Int)) + (1))) (sx xs ((1 + 4 * (jn : Int)) + (2))) (sx xs ((1 + 4 * (jn : Int)) + (3))) (sx_r _ _) (sx_r _ _) (sx_r _ _)) (cwV 3 hts (gV t_438 t_439 t_440 t_1 t_441) rfl rfl rfl (by decide +kernel) ⟨Nat.le_of_ble_eq_true rfl, Nat.le_of_ble_eq_true rfl⟩) (pre_V E hP hS (0) (by omega) hC.1 rfl) rfl rfl hl.1 rfl (lv_room (Nat.le_of_ble_eq_true rfl)) d_L_law_471 ⟨(Nat.le_of_ble_eq_true rfl), (Nat.le_of_ble_eq_true rfl)⟩) hS (fun r1 z52 H locs hz1 hP hS => ?_)
          obtain ⟨e1, rfl⟩ := hz1
          refine lv_aload_n hx hb d_L_law_474 rfl (lv_at hl 1 rfl) ?_
          refine lv_aload_n hx hb d_L_law_475 rfl (lv_at hl 3 rfl) ?_
          refine lv_iload_n hx hb d_L_law_476 rfl (lv_at hl 0 rfl) ?_
          refine lv_iconst (v := iI (1)) hx hb d_L_law_477 rfl ?_
          refine x_iadd hx hb d_L_law_478 ?_
          refine x_sld hx hb hX hbl hbA hS (a := ((1 + 4 * (jn : Int))) + (1)) (by omega) (by omega) (by omega) d_L_law_479 ?_
          refine lv_aload_n hx hb d_L_law_480 rfl (lv_at hl 3 rfl) ?_
          refine lv_iload_n hx hb d_L_law_481 rfl (lv_at hl 0 rfl) ?_
          refine lv_iconst (v := iI (2)) hx hb d_L_law_482 rfl ?_
          refine x_iadd hx hb d_L_law_483 ?_
          refine x_sld hx hb hX hbl hbA hS (a := ((1 + 4 * (jn : Int))) + (2)) (by omega) (by omega) (by omega) d_L_law_484 ?_
          refine lv_aload_n hx hb d_L_law_485 rfl (lv_at hl 3 rfl) ?_
          refine lv_iload_n hx hb d_L_law_486 rfl (lv_at hl 0 rfl) ?_
          refine lv_iconst (v := iI (3)) hx hb d_L_law_487 rfl ?_
          refine x_iadd hx hb d_L_law_488 ?_
          refine x_sld hx hb hX hbl hbA hS (a := ((1 + 4 * (jn : Int))) + (3)) (by omega) (by omega) (by omega) d_L_law_489 ?_
          refine w_calll (va_runV (As := [.int (iI (sx xs (((1 + 4 * (jn : Int))) + (1)))), .int (iI (sx xs (((1 + 4 * (jn : Int))) + (2)))), .int (iI (sx xs (((1 + 4 * (jn : Int))) + (3))))]) (rest := [.long r1]) ⟨hx, hb, hml, hown, hts⟩ (c_Mpart l D ct st ke b 254 w15 (by omega) (kyO (sd L xs)) okk n v msg G V hM hI (sx xs ((1 + 4 * (jn : Int)) + (1))) (sx xs ((1 + 4 * (jn : Int)) + (2))) (sx xs ((1 + 4 * (jn : Int)) + (3))) (sx_r _ _) (sx_r _ _) (sx_r _ _)) (cwV 3 hts (gV t_681 t_682 t_683 t_9 t_684) rfl rfl rfl (by decide +kernel) ⟨Nat.le_of_ble_eq_true rfl, Nat.le_of_ble_eq_true rfl⟩) (pre_V E hP hS (236) (by omega) hmo rfl) rfl rfl hl.1 rfl (lv_room (Nat.le_of_ble_eq_true rfl)) d_L_law_490 ⟨(Nat.le_of_ble_eq_true rfl), (Nat.le_of_ble_eq_true rfl)⟩) hS (fun r2 z53 H locs hz2 hP hS => ?_)
          obtain ⟨e2, rfl⟩ := hz2
          obtain rfl : r2 = r1 := e2.trans e1.symm
          refine x_lsame (tgt := 588) hx hb d_L_law_493 d_L_law_494 (by decide) ?_
          exact nx n v msg G V w15 H locs ls hC hM hI (fun j h => absurd h (Nat.not_lt_zero j)) hP hS hl
        · refine lv_tableIn (off := 457) (tgt := 499) hx hb d_L_law_42 (by decide) (by decide) (by decide) (by decide) ?_
          refine lv_aload_n hx hb d_L_law_499 rfl (lv_at hl 2 rfl) ?_
          refine lv_aload_n hx hb d_L_law_500 rfl (lv_at hl 3 rfl) ?_
          refine lv_iload_n hx hb d_L_law_501 rfl (lv_at hl 0 rfl) ?_
          refine lv_iconst (v := iI (1)) hx hb d_L_law_502 rfl ?_
          refine x_iadd hx hb d_L_law_503 ?_
          refine x_sld hx hb hX hbl hbA hS (a := ((1 + 4 * (jn : Int))) + (1)) (by omega) (by omega) (by omega) d_L_law_504 ?_
          refine lv_aload_n hx hb d_L_law_505 rfl (lv_at hl 3 rfl) ?_
          refine lv_iload_n hx hb d_L_law_506 rfl (lv_at hl 0 rfl) ?_
          refine lv_iconst (v := iI (2)) hx hb d_L_law_507 rfl ?_
          refine x_iadd hx hb d_L_law_508 ?_
          refine x_sld hx hb hX hbl hbA hS (a := ((1 + 4 * (jn : Int))) + (2)) (by omega) (by omega) (by omega) d_L_law_509 ?_
          refine w_calli (va_runV (As := [.int (iI (sx xs (((1 + 4 * (jn : Int))) + (1)))), .int (iI (sx xs (((1 + 4 * (jn : Int))) + (2))))]) (rest := []) ⟨hx, hb, hml, hown, hts⟩ (c_decrypted l D ct st ke b 254 w15 (by omega) (kyO (sd L xs)) n v msg G V hC hI (sx xs ((1 + 4 * (jn : Int)) + (1))) (sx xs ((1 + 4 * (jn : Int)) + (2))) (sx_r _ _) (sx_r _ _)) (cwV 2 hts (gV t_443 t_444 t_445 t_1 t_446) rfl rfl rfl (by decide +kernel) ⟨Nat.le_of_ble_eq_true rfl, Nat.le_of_ble_eq_true rfl⟩) (pre_V E hP hS (0) (by omega) hC.1 rfl) rfl rfl hl.1 rfl (lv_room (Nat.le_of_ble_eq_true rfl)) d_L_law_510 ⟨(Nat.le_of_ble_eq_true rfl), (Nat.le_of_ble_eq_true rfl)⟩) hS (fun r1 z54 H locs hz1 hP hS => ?_)
          obtain ⟨e1, hC1, hf1⟩ := hz1
          have hM1 : MS ct b z54 (kyO (sd L xs)) n v msg G V := hM.of (fun j h _ => hf1 j (by omega))
          obtain ⟨mz1, hmo1⟩ := MS_mo hM1
          refine lv_aload_n hx hb d_L_law_513 rfl (lv_at hl 1 rfl) ?_
          refine lv_aload_n hx hb d_L_law_514 rfl (lv_at hl 3 rfl) ?_
          refine lv_iload_n hx hb d_L_law_515 rfl (lv_at hl 0 rfl) ?_
          refine lv_iconst (v := iI (1)) hx hb d_L_law_516 rfl ?_
          refine x_iadd hx hb d_L_law_517 ?_
          refine x_sld hx hb hX hbl hbA hS (a := ((1 + 4 * (jn : Int))) + (1)) (by omega) (by omega) (by omega) d_L_law_518 ?_
          refine lv_aload_n hx hb d_L_law_519 rfl (lv_at hl 3 rfl) ?_
          refine lv_iload_n hx hb d_L_law_520 rfl (lv_at hl 0 rfl) ?_
          refine lv_iconst (v := iI (2)) hx hb d_L_law_521 rfl ?_
          refine x_iadd hx hb d_L_law_522 ?_
          refine x_sld hx hb hX hbl hbA hS (a := ((1 + 4 * (jn : Int))) + (2)) (by omega) (by omega) (by omega) d_L_law_523 ?_
          refine w_calli (va_runV (As := [.int (iI (sx xs (((1 + 4 * (jn : Int))) + (1)))), .int (iI (sx xs (((1 + 4 * (jn : Int))) + (2))))]) (rest := [.int r1]) ⟨hx, hb, hml, hown, hts⟩ (c_Mdecrypted l D ct st ke b 254 z54 (by omega) (kyO (sd L xs)) okk n v msg G V hM1 hI (sx xs ((1 + 4 * (jn : Int)) + (1))) (sx xs ((1 + 4 * (jn : Int)) + (2))) (sx_r _ _) (sx_r _ _)) (cwV 2 hts (gV t_685 t_686 t_687 t_9 t_688) rfl rfl rfl (by decide +kernel) ⟨Nat.le_of_ble_eq_true rfl, Nat.le_of_ble_eq_true rfl⟩) (pre_V E hP hS (236) (by omega) hmo1 rfl) rfl rfl hl.1 rfl (lv_room (Nat.le_of_ble_eq_true rfl)) d_L_law_524 ⟨(Nat.le_of_ble_eq_true rfl), (Nat.le_of_ble_eq_true rfl)⟩) hS (fun r2 z55 H locs hz2 hP hS => ?_)
          obtain ⟨e2, hM2, hf2⟩ := hz2
          have hI1 := hI
          have hC2 := hC1.of (z := z55) hI1.1 hI1.2.1 hf2
          obtain rfl : r2 = r1 := e2.trans e1.symm
          refine x_same (tgt := 588) hx hb d_L_law_527 (by decide) ?_
          exact nx _ _ _ _ _ z55 H locs ls hC2 hM2 hI1 (fun j h => absurd h (Nat.not_lt_zero j)) hP hS hl
        · refine lv_tableIn (off := 490) (tgt := 532) hx hb d_L_law_42 (by decide) (by decide) (by decide) (by decide) ?_
          refine lv_aload_n hx hb d_L_law_532 rfl (lv_at hl 2 rfl) ?_
          refine lv_aload_n hx hb d_L_law_533 rfl (lv_at hl 3 rfl) ?_
          refine lv_iload_n hx hb d_L_law_534 rfl (lv_at hl 0 rfl) ?_
          refine lv_iconst (v := iI (1)) hx hb d_L_law_535 rfl ?_
          refine x_iadd hx hb d_L_law_536 ?_
          refine x_sld hx hb hX hbl hbA hS (a := ((1 + 4 * (jn : Int))) + (1)) (by omega) (by omega) (by omega) d_L_law_537 ?_
          refine lv_aload_n hx hb d_L_law_538 rfl (lv_at hl 3 rfl) ?_
          refine lv_iload_n hx hb d_L_law_539 rfl (lv_at hl 0 rfl) ?_
          refine lv_iconst (v := iI (2)) hx hb d_L_law_540 rfl ?_
          refine x_iadd hx hb d_L_law_541 ?_
          refine x_sld hx hb hX hbl hbA hS (a := ((1 + 4 * (jn : Int))) + (2)) (by omega) (by omega) (by omega) d_L_law_542 ?_
          refine w_calli (va_runV (As := [.int (iI (sx xs (((1 + 4 * (jn : Int))) + (1)))), .int (iI (sx xs (((1 + 4 * (jn : Int))) + (2))))]) (rest := []) ⟨hx, hb, hml, hown, hts⟩ (c_plain l D ct st ke b 254 w15 (by omega) (kyO (sd L xs)) n v msg G V hC hI (sx xs ((1 + 4 * (jn : Int)) + (1))) (sx xs ((1 + 4 * (jn : Int)) + (2))) (sx_r _ _) (sx_r _ _)) (cwV 2 hts (gV t_447 t_448 t_449 t_1 t_450) rfl rfl rfl (by decide +kernel) ⟨Nat.le_of_ble_eq_true rfl, Nat.le_of_ble_eq_true rfl⟩) (pre_V E hP hS (0) (by omega) hC.1 rfl) rfl rfl hl.1 rfl (lv_room (Nat.le_of_ble_eq_true rfl)) d_L_law_543 ⟨(Nat.le_of_ble_eq_true rfl), (Nat.le_of_ble_eq_true rfl)⟩) hS (fun r1 z56 H locs hz1 hP hS => ?_)
          obtain ⟨e1, rfl⟩ := hz1
          refine lv_aload_n hx hb d_L_law_546 rfl (lv_at hl 1 rfl) ?_
          refine lv_aload_n hx hb d_L_law_547 rfl (lv_at hl 3 rfl) ?_
          refine lv_iload_n hx hb d_L_law_548 rfl (lv_at hl 0 rfl) ?_
          refine lv_iconst (v := iI (1)) hx hb d_L_law_549 rfl ?_
          refine x_iadd hx hb d_L_law_550 ?_
          refine x_sld hx hb hX hbl hbA hS (a := ((1 + 4 * (jn : Int))) + (1)) (by omega) (by omega) (by omega) d_L_law_551 ?_
          refine lv_aload_n hx hb d_L_law_552 rfl (lv_at hl 3 rfl) ?_
          refine lv_iload_n hx hb d_L_law_553 rfl (lv_at hl 0 rfl) ?_
          refine lv_iconst (v := iI (2)) hx hb d_L_law_554 rfl ?_
          refine x_iadd hx hb d_L_law_555 ?_
          refine x_sld hx hb hX hbl hbA hS (a := ((1 + 4 * (jn : Int))) + (2)) (by omega) (by omega) (by omega) d_L_law_556 ?_
          refine w_calli (va_runV (As := [.int (iI (sx xs (((1 + 4 * (jn : Int))) + (1)))), .int (iI (sx xs (((1 + 4 * (jn : Int))) + (2))))]) (rest := [.int r1]) ⟨hx, hb, hml, hown, hts⟩ (c_Mplain l D ct st ke b 254 w15 (by omega) (kyO (sd L xs)) okk n v msg G V hM hI (sx xs ((1 + 4 * (jn : Int)) + (1))) (sx xs ((1 + 4 * (jn : Int)) + (2))) (sx_r _ _) (sx_r _ _)) (cwV 2 hts (gV t_689 t_690 t_691 t_9 t_692) rfl rfl rfl (by decide +kernel) ⟨Nat.le_of_ble_eq_true rfl, Nat.le_of_ble_eq_true rfl⟩) (pre_V E hP hS (236) (by omega) hmo rfl) rfl rfl hl.1 rfl (lv_room (Nat.le_of_ble_eq_true rfl)) d_L_law_557 ⟨(Nat.le_of_ble_eq_true rfl), (Nat.le_of_ble_eq_true rfl)⟩) hS (fun r2 z57 H locs hz2 hP hS => ?_)
          obtain ⟨e2, rfl⟩ := hz2
          obtain rfl : r2 = r1 := e2.trans e1.symm
          refine x_same (tgt := 588) hx hb d_L_law_560 (by decide) ?_
          exact nx n v msg G V w15 H locs ls hC hM hI (fun j h => absurd h (Nat.not_lt_zero j)) hP hS hl
        · refine lv_tableIn (off := 523) (tgt := 565) hx hb d_L_law_42 (by decide) (by decide) (by decide) (by decide) ?_
          refine lv_aload_n hx hb d_L_law_565 rfl (lv_at hl 2 rfl) ?_
          refine lv_aload_n hx hb d_L_law_566 rfl (lv_at hl 3 rfl) ?_
          refine lv_iload_n hx hb d_L_law_567 rfl (lv_at hl 0 rfl) ?_
          refine lv_iconst (v := iI (1)) hx hb d_L_law_568 rfl ?_
          refine x_iadd hx hb d_L_law_569 ?_
          refine x_sld hx hb hX hbl hbA hS (a := ((1 + 4 * (jn : Int))) + (1)) (by omega) (by omega) (by omega) d_L_law_570 ?_
          refine w_calli (va_runV (As := [.int (iI (sx xs (((1 + 4 * (jn : Int))) + (1))))]) (rest := []) ⟨hx, hb, hml, hown, hts⟩ (c_secret l D ct st ke b 254 w15 (by omega) (kyO (sd L xs)) n v msg G V hC hI okk.1 (sx xs ((1 + 4 * (jn : Int)) + (1))) (sx_r _ _)) (cwV 1 hts (gV t_451 t_452 t_453 t_1 t_454) rfl rfl rfl (by decide +kernel) ⟨Nat.le_of_ble_eq_true rfl, Nat.le_of_ble_eq_true rfl⟩) (pre_V E hP hS (0) (by omega) hC.1 rfl) rfl rfl hl.1 rfl (lv_room (Nat.le_of_ble_eq_true rfl)) d_L_law_571 ⟨(Nat.le_of_ble_eq_true rfl), (Nat.le_of_ble_eq_true rfl)⟩) hS (fun r1 z58 H locs hz1 hP hS => ?_)
          obtain ⟨e1, rfl⟩ := hz1
          refine lv_aload_n hx hb d_L_law_574 rfl (lv_at hl 1 rfl) ?_
          refine lv_aload_n hx hb d_L_law_575 rfl (lv_at hl 3 rfl) ?_
          refine lv_iload_n hx hb d_L_law_576 rfl (lv_at hl 0 rfl) ?_
          refine lv_iconst (v := iI (1)) hx hb d_L_law_577 rfl ?_
          refine x_iadd hx hb d_L_law_578 ?_
          refine x_sld hx hb hX hbl hbA hS (a := ((1 + 4 * (jn : Int))) + (1)) (by omega) (by omega) (by omega) d_L_law_579 ?_
          refine w_calli (va_runV (As := [.int (iI (sx xs (((1 + 4 * (jn : Int))) + (1))))]) (rest := [.int r1]) ⟨hx, hb, hml, hown, hts⟩ (c_Msecret l D ct st ke b 254 w15 (by omega) (kyO (sd L xs)) okk n v msg G V hM hI (sx xs ((1 + 4 * (jn : Int)) + (1))) (sx_r _ _)) (cwV 1 hts (gV t_693 t_694 t_695 t_9 t_696) rfl rfl rfl (by decide +kernel) ⟨Nat.le_of_ble_eq_true rfl, Nat.le_of_ble_eq_true rfl⟩) (pre_V E hP hS (236) (by omega) hmo rfl) rfl rfl hl.1 rfl (lv_room (Nat.le_of_ble_eq_true rfl)) d_L_law_580 ⟨(Nat.le_of_ble_eq_true rfl), (Nat.le_of_ble_eq_true rfl)⟩) hS (fun r2 z59 H locs hz2 hP hS => ?_)
          obtain ⟨e2, rfl⟩ := hz2
          obtain rfl : r2 = r1 := e2.trans e1.symm
          refine x_same (tgt := 588) hx hb d_L_law_583 (by decide) ?_
          exact nx n v msg G V w15 H locs ls hC hM hI (fun j h => absurd h (Nat.not_lt_zero j)) hP hS hl
        · refine lv_tableOut (tgt := 588) hx hb d_L_law_42 (by decide) (by decide) ?_
          exact nx n v msg G V w15 H locs ls hC hM hI (fun j h => absurd h (Nat.not_lt_zero j)) hP hS hl
        · refine lv_tableOut (tgt := 588) hx hb d_L_law_42 (by decide) (by decide) ?_
          exact nx n v msg G V w15 H locs ls hC hM hI (fun j h => absurd h (Nat.not_lt_zero j)) hP hS hl
        · refine lv_tableOut (tgt := 588) hx hb d_L_law_42 (by decide) (by decide) ?_
          exact nx n v msg G V w15 H locs ls hC hM hI (fun j h => absurd h (Nat.not_lt_zero j)) hP hS hl
        · refine lv_tableOut (tgt := 588) hx hb d_L_law_42 (by decide) (by decide) ?_
          exact nx n v msg G V w15 H locs ls hC hM hI (fun j h => absurd h (Nat.not_lt_zero j)) hP hS hl
        · refine lv_tableOut (tgt := 588) hx hb d_L_law_42 (by decide) (by decide) ?_
          exact nx n v msg G V w15 H locs ls hC hM hI (fun j h => absurd h (Nat.not_lt_zero j)) hP hS hl
        · refine lv_tableOut (tgt := 588) hx hb d_L_law_42 (by decide) (by decide) ?_
          exact nx n v msg G V w15 H locs ls hC hM hI (fun j h => absurd h (Nat.not_lt_zero j)) hP hS hl
        · refine lv_tableOut (tgt := 588) hx hb d_L_law_42 (by decide) (by decide) ?_
          exact nx n v msg G V w15 H locs ls hC hM hI (fun j h => absurd h (Nat.not_lt_zero j)) hP hS hl
        · refine lv_tableOut (tgt := 588) hx hb d_L_law_42 (by decide) (by decide) ?_
          exact nx n v msg G V w15 H locs ls hC hM hI (fun j h => absurd h (Nat.not_lt_zero j)) hP hS hl
        · refine lv_tableOut (tgt := 588) hx hb d_L_law_42 (by decide) (by decide) ?_
          exact nx n v msg G V w15 H locs ls hC hM hI (fun j h => absurd h (Nat.not_lt_zero j)) hP hS hl
        · refine lv_tableOut (tgt := 588) hx hb d_L_law_42 (by decide) (by decide) ?_
          exact nx n v msg G V w15 H locs ls hC hM hI (fun j h => absurd h (Nat.not_lt_zero j)) hP hS hl
        · refine lv_tableOut (tgt := 588) hx hb d_L_law_42 (by decide) (by decide) ?_
          exact nx n v msg G V w15 H locs ls hC hM hI (fun j h => absurd h (Nat.not_lt_zero j)) hP hS hl
        · refine lv_tableOut (tgt := 588) hx hb d_L_law_42 (by decide) (by decide) ?_
          exact nx n v msg G V w15 H locs ls hC hM hI (fun j h => absurd h (Nat.not_lt_zero j)) hP hS hl
        · refine lv_tableOut (tgt := 588) hx hb d_L_law_42 (by decide) (by decide) ?_
          exact nx n v msg G V w15 H locs ls hC hM hI (fun j h => absurd h (Nat.not_lt_zero j)) hP hS hl
        · refine lv_tableOut (tgt := 588) hx hb d_L_law_42 (by decide) (by decide) ?_
          exact nx n v msg G V w15 H locs ls hC hM hI (fun j h => absurd h (Nat.not_lt_zero j)) hP hS hl
        · refine lv_tableOut (tgt := 588) hx hb d_L_law_42 (by decide) (by decide) ?_
          exact nx n v msg G V w15 H locs ls hC hM hI (fun j h => absurd h (Nat.not_lt_zero j)) hP hS hl
  exact lo (L + 5) 0 0 0 _ _ _ z13 H locs ls (by omega) (by omega) hC2 hM1 PI_0 (fun j h => absurd h (Nat.not_lt_zero j)) hP hS hl
