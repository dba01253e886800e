abbrev rm_c_openValue : Room := { frames := 2, cells := 0, slots := 0, locals := 61 }
set_option maxHeartbeats 4000000 in
set_option maxRecDepth 100000 in
/-- openValue(value) -/
theorem c_openValue (l : Launch) (D : va_G) (ct : Nat → ClassId) (st ke : Nat → Nat) (b N : Nat) (u : Nat → va_E) (hN : 236 ≤ N) (K : Ky) (nn vv : Int) (hO : u 0 = ob b nn vv) (hKS : KS ct b u K) (hP19 : PS ct b u 19) (k : Nat) (hk44 : 44 ≤ k) (hk : k + 4 < N) (v : Val) (hv : okV v) (hV : VV ct b u k v) : Met l y_R_openValue (w_R_openValue) rm_c_openValue (va_Pc [.ref (b + 0), .ref (b + k)] (fun U => ev D ct st ke b U ∧ va_P D vwCl (wl N b u) U.heap)) (va_Qv (fun z : Nat → va_E => ∃ g2 : Int → Int, z 20 = ir ct 32 g2 ∧ Rep g2 0 v.1 (fun i => v.2.2.1 i + nc v.2.2.2 K.1 i) ∧ ∀ j : Nat, j ≠ 20 → z j = u j) (fun (z : Nat → va_E) t => va_P D vwCl (wl (N) b (z)) t.heap) (AA b)) 0 0 (AA b) := by
  refine M_v (cc := c9_R_openValue) (maxL := 2) (by decide) rfl (Nat.le_of_ble_eq_true rfl) ?_
  intro p e s m args below meth c Q ls H locs hx hb hml hown hts hnm E hP hS hl ret
  have hl : lv_has ls 2 [(0, .ref (b + 0)), (1, .ref (b + k))] := hl
  have hK := ev_K E
  have kk0 := hts (.fieldLink "LevelledRing" 54 "LevelledRing" "opened" "LLevelledRing$Poly;") (List.mem_cons_of_mem _ t_183)
  have hinR : ∀ w ∈ u_ws "LevelledRing" T_R 11, w ∈ (w_R_openValue) := hin_R _
  have kk2 := hts (.fieldLink "LevelledRing" 167 "LevelledRing$Value" "c0" "LLevelledRing$Poly;") (List.mem_cons_of_mem _ t_61)
  have hinV : ∀ w ∈ u_ws "LevelledRing$Value" T_V 4, w ∈ (w_R_openValue) := hin_V _
  have kk4 := hts (.fieldLink "LevelledRing" 170 "LevelledRing$Value" "c1" "LLevelledRing$Poly;") (List.mem_cons_of_mem _ t_63)
  have kk5 := hts (.fieldLink "LevelledRing" 66 "LevelledRing" "keys" "LLevelledRing$Keys;") (List.mem_cons_of_mem _ t_174)
  have kk6 := hts (.fieldLink "LevelledRing" 176 "LevelledRing$Keys" "secret" "LLevelledRing$Poly;") (List.mem_cons_of_mem _ t_125)
  have hinK : ∀ w ∈ u_ws "LevelledRing$Keys" T_K 3, w ∈ (w_R_openValue) := hin_K _
  have kk8 := hts (.fieldLink "LevelledRing" 142 "LevelledRing$Value" "level" "I") (List.mem_cons_of_mem _ t_57)
  have fr0 : ∀ j : Nat, (j ≠ 20) → u j = u j := fun _ _ => rfl
  have hKS9 := hKS
  obtain ⟨ks0, ⟨ks1, gs, ks2, ks3⟩, ⟨fa, ka1, ka2⟩, ⟨fb, kb1, kb2⟩, kab⟩ := hKS
  obtain ⟨oa, og, ob⟩ := hP19
  obtain ⟨v0, v1, vV, vR0, vR1⟩ := hV
  have l0 := hv.1
  have l3 := hv.2.1
  refine lv_aload_n hx hb d_R_openValue_0 rfl (lv_at hl 0 rfl) ?_
  refine w_get (C := "LevelledRing") (T := T_R) (M := 11) hx hb hts hinR hown hK hP (0) (by omega) hO rfl 10 (by decide) kk0 (fun _ h => h) rfl d_R_openValue_1 ?_
  refine lv_aload_n hx hb d_R_openValue_4 rfl (lv_at hl 1 rfl) ?_
  refine w_get (C := "LevelledRing$Value") (T := T_V) (M := 4) hx hb hts hinV hown hK hP (k) (by omega) vV.1 rfl 2 (by decide) kk2 (fun _ h => h) rfl d_R_openValue_5 ?_
  refine w_callv (va_runV (As := [.ref (b + (k + 1))]) (rest := []) ⟨hx, hb, hml, hown, hts⟩ (c_copyFrom l D ct st ke b N u 19 0 32 og (by omega) (by decide) oa ob (k + 1) v0 (by omega) vV.2.1 vV.2.2.1) (cwV 1 hts (gV t_224 t_225 t_226 t_3 t_227) rfl rfl rfl (by decide +kernel) ⟨Nat.le_of_ble_eq_true rfl, Nat.le_of_ble_eq_true rfl⟩) (pre_V E hP hS (19) (by omega) oa rfl) rfl rfl hl.1 rfl (lv_room (Nat.le_of_ble_eq_true rfl)) d_R_openValue_8 ⟨(Nat.le_of_ble_eq_true rfl), (Nat.le_of_ble_eq_true rfl)⟩) hS (fun z1 H locs hz hP hS => ?_)
  obtain ⟨cg, c1, c2, c3⟩ := hz
  have ff3 : z1 0 = .inr (5, [.ref (b + 1), .ref (b + 21), .ref (b + 2), .ref (b + 4), .int (iI (nn)), .int (iI (vv)), .ref (b + 5), .ref (b + 10), .ref (b + 15), .ref (b + 17), .ref (b + 19)]) := (c3 0 (by omega)).trans hO
  have ff4 : z1 21 = .inr (2, [.ref (b + 22), .ref (b + 24), .ref (b + 25)]) := (c3 21 (by omega)).trans ks0
  have ff5 : z1 22 = .inr (3, [.int (iI (0)), .ref (b + 23)]) := (c3 22 (by omega)).trans ks1
  have ff6 : z1 23 = ir ct 32 (gs) := (c3 23 (by omega)).trans ks2
  have ff7 : z1 24 = qr ct 4 4 (fa) := (c3 24 (by omega)).trans ka1
  have ff8 : z1 25 = qr ct 4 4 (fb) := (c3 25 (by omega)).trans kb1
  have ff9 : z1 19 = .inr (3, [.int (iI (0)), .ref (b + 20)]) := (c3 19 (by omega)).trans oa
  have ff10 : z1 k = .inr (4, [.int (iI (v.1)), .long (lI (v.2.1)), .ref (b + (k + 1)), .ref (b + (k + 3))]) := (c3 k (by omega)).trans vV.1
  have ff11 : z1 (k + 1) = .inr (3, [.int (iI (0)), .ref (b + (k + 2))]) := (c3 (k + 1) (by omega)).trans vV.2.1
  have ff12 : z1 (k + 2) = ir ct 32 (v0) := (c3 (k + 2) (by omega)).trans vV.2.2.1
  have ff13 : z1 (k + 3) = .inr (3, [.int (iI (0)), .ref (b + (k + 4))]) := (c3 (k + 3) (by omega)).trans vV.2.2.2.1
  have ff14 : z1 (k + 4) = ir ct 32 (v1) := (c3 (k + 4) (by omega)).trans vV.2.2.2.2
  have fr15 : ∀ j : Nat, (j ≠ 20) → z1 j = u j := fun j h0 => (c3 j (by omega)).trans (fr0 j h0)
  refine lv_aload_n hx hb d_R_openValue_11 rfl (lv_at hl 0 rfl) ?_
  refine w_get (C := "LevelledRing") (T := T_R) (M := 11) hx hb hts hinR hown hK hP (0) (by omega) ff3 rfl 10 (by decide) kk0 (fun _ h => h) rfl d_R_openValue_12 ?_
  refine lv_iconst (v := iI (1)) hx hb d_R_openValue_15 rfl ?_
  refine lv_aload_n hx hb d_R_openValue_16 rfl (lv_at hl 1 rfl) ?_
  refine w_get (C := "LevelledRing$Value") (T := T_V) (M := 4) hx hb hts hinV hown hK hP (k) (by omega) ff10 rfl 3 (by decide) kk4 (fun _ h => h) rfl d_R_openValue_17 ?_
  refine lv_aload_n hx hb d_R_openValue_20 rfl (lv_at hl 0 rfl) ?_
  refine w_get (C := "LevelledRing") (T := T_R) (M := 11) hx hb hts hinR hown hK hP (0) (by omega) ff3 rfl 1 (by decide) kk5 (fun _ h => h) rfl d_R_openValue_21 ?_
  refine w_get (C := "LevelledRing$Keys") (T := T_K) (M := 3) hx hb hts hinK hown hK hP (21) (by omega) ff4 rfl 0 (by decide) kk6 (fun _ h => h) rfl d_R_openValue_24 ?_
  refine lv_aload_n hx hb d_R_openValue_27 rfl (lv_at hl 1 rfl) ?_
  refine w_get (C := "LevelledRing$Value") (T := T_V) (M := 4) hx hb hts hinV hown hK hP (k) (by omega) ff10 rfl 0 (by decide) kk8 (fun _ h => h) rfl d_R_openValue_28 ?_
  refine w_callv (va_runV (As := [.int (iI (1)), .ref (b + (k + 3)), .ref (b + 22), .int (iI (v.1))]) (rest := []) ⟨hx, hb, hml, hown, hts⟩ (c_addProduct l D ct st ke b N z1 19 0 32 cg (by omega) (by decide) ff9 c1 v.1 (by omega) (by omega) (by omega) (Or.inl rfl) (k + 3) 32 v1 (by omega) (by decide) (by omega) (by omega) ff13 ff14 22 32 gs (by omega) (by decide) (by omega) (by omega) ff5 ff6 1 (Or.inl rfl) (v.2.2.1) (v.2.2.2) (K.1) (vR0.of fun j h0 h1 => c2 j h0 (by omega)) vR1 (ks3.down l3)) (cwV 4 hts (gV t_271 t_102 t_103 t_3 t_104) rfl rfl rfl (by decide +kernel) ⟨Nat.le_of_ble_eq_true rfl, Nat.le_of_ble_eq_true rfl⟩) (pre_V E hP hS (19) (by omega) ff9 rfl) rfl rfl hl.1 rfl (lv_room (Nat.le_of_ble_eq_true rfl)) d_R_openValue_31 ⟨(Nat.le_of_ble_eq_true rfl), (Nat.le_of_ble_eq_true rfl)⟩) hS (fun z16 H locs hz hP hS => ?_)
  obtain ⟨dg, d1, d2, d3⟩ := hz
  have ff18 : z16 0 = .inr (5, [.ref (b + 1), .ref (b + 21), .ref (b + 2), .ref (b + 4), .int (iI (nn)), .int (iI (vv)), .ref (b + 5), .ref (b + 10), .ref (b + 15), .ref (b + 17), .ref (b + 19)]) := (d3 0 (by omega)).trans ff3
  have ff19 : z16 21 = .inr (2, [.ref (b + 22), .ref (b + 24), .ref (b + 25)]) := (d3 21 (by omega)).trans ff4
  have ff20 : z16 22 = .inr (3, [.int (iI (0)), .ref (b + 23)]) := (d3 22 (by omega)).trans ff5
  have ff21 : z16 23 = ir ct 32 (gs) := (d3 23 (by omega)).trans ff6
  have ff22 : z16 24 = qr ct 4 4 (fa) := (d3 24 (by omega)).trans ff7
  have ff23 : z16 25 = qr ct 4 4 (fb) := (d3 25 (by omega)).trans ff8
  have ff24 : z16 19 = .inr (3, [.int (iI (0)), .ref (b + 20)]) := (d3 19 (by omega)).trans ff9
  have ff25 : z16 k = .inr (4, [.int (iI (v.1)), .long (lI (v.2.1)), .ref (b + (k + 1)), .ref (b + (k + 3))]) := (d3 k (by omega)).trans ff10
  have ff26 : z16 (k + 1) = .inr (3, [.int (iI (0)), .ref (b + (k + 2))]) := (d3 (k + 1) (by omega)).trans ff11
  have ff27 : z16 (k + 2) = ir ct 32 (v0) := (d3 (k + 2) (by omega)).trans ff12
  have ff28 : z16 (k + 3) = .inr (3, [.int (iI (0)), .ref (b + (k + 4))]) := (d3 (k + 3) (by omega)).trans ff13
  have ff29 : z16 (k + 4) = ir ct 32 (v1) := (d3 (k + 4) (by omega)).trans ff14
  have fr30 : ∀ j : Nat, (j ≠ 20) → z16 j = u j := fun j h0 => (d3 j (by omega)).trans (fr15 j h0)
  exact ret z16 H locs 34 ls ⟨dg, d1, d2.cg (fun q i _ _ _ _ => by rw [Int.one_mul]; exact cg_r), fr30⟩ hP hS d_R_openValue_34
abbrev rm_c_decrypted : Room := { frames := 3, cells := 0, slots := 0, locals := 82 }
set_option maxHeartbeats 4000000 in
set_option maxRecDepth 100000 in
/-- decrypted(x, y) -/
theorem c_decrypted (l : Launch) (D : va_G) (ct : Nat → ClassId) (st ke : Nat → Nat) (b N : Nat) (u : Nat → va_E) (hN : 236 ≤ N) (K : Ky) (n v : Nat) (msg : Int → Int) (G : Int → Gt) (V : Int → Val) (hC : CS ct b ke u K n v msg G V) (hI : PI n v msg G V) (x y : Int) (hx0 : r32 x) (hy0 : r32 y) : Met l y_R_decrypted (w_R_decrypted) rm_c_decrypted (va_Pc [.ref (b + 0), .int (iI (x)), .int (iI (y))] (fun U => ev D ct st ke b U ∧ va_P D vwCl (wl N b u) U.heap)) (va_Qi (fun (r : Int32) (z : Nat → va_E) => r = iI (if (0 ≤ x ∧ x < v) ∧ 0 ≤ y ∧ y < 8 then opV K.1 (V x) y % 17 else -1) ∧ CS ct b ke z K n v msg G V ∧ ∀ j : Nat, j ≠ 20 → z j = u j) (fun (z : Nat → va_E) t => va_P D vwCl (wl (N) b (z)) t.heap) (AA b)) 0 0 (AA b) := by
  refine M_i (cc := c9_R_decrypted) (maxL := 4) (by decide) rfl (Nat.le_of_ble_eq_true rfl) ?_
  intro p e s m args below meth c Q ls H locs hx hb hml hown hts hnm E hP hS hl ret
  have hl : lv_has ls 4 [(0, .ref (b + 0)), (1, .int (iI (x))), (2, .int (iI (y)))] := hl
  have hK := ev_K E
  have kk0 := hts (.fieldLink "LevelledRing" 27 "LevelledRing" "gates" "[LLevelledRing$Gate;") (List.mem_cons_of_mem _ t_176)
  have hinR : ∀ w ∈ u_ws "LevelledRing" T_R 11, w ∈ (w_R_decrypted) := hin_R _
  have kk2 := hts (.fieldLink "LevelledRing" 139 "LevelledRing$Gate" "value" "LLevelledRing$Value;") (List.mem_cons_of_mem _ t_159)
  have hinG : ∀ w ∈ u_ws "LevelledRing$Gate" T_G 6, w ∈ (w_R_decrypted) := hin_G _
  have kk4 := hts (.fieldLink "LevelledRing" 54 "LevelledRing" "opened" "LLevelledRing$Poly;") (List.mem_cons_of_mem _ t_183)
  have kk5 := hts (.fieldLink "LevelledRing" 142 "LevelledRing$Value" "level" "I") (List.mem_cons_of_mem _ t_57)
  have hinV : ∀ w ∈ u_ws "LevelledRing$Value" T_V 4, w ∈ (w_R_decrypted) := hin_V _
  have fr0 : ∀ j : Nat, (j ≠ 20) → u j = u j := fun _ _ => rfl
  have hC9 := hC
  have hn24 := hI.1
  have hvn := hI.2.1
  obtain ⟨hO, hSC, hSV, ⟨gf, hgr, hgf⟩, hKS, hGC⟩ := hC
  refine lv_aload_n hx hb d_R_decrypted_0 rfl (lv_at hl 0 rfl) ?_
  refine lv_iload_n hx hb d_R_decrypted_1 rfl (lv_at hl 1 rfl) ?_
  refine w_calli (va_runV (As := [.int (iI (x))]) (rest := []) ⟨hx, hb, hml, hown, hts⟩ (c_hasValue l D ct st ke b N u (by omega) n v (by omega) (by omega) hO (x) hx0) (cwV 1 hts (gV t_404 t_406 (tb_sel ((y_R_hasValue), 11) (List.mem_of_getElem? (i := 12) (by decide +kernel))) t_1 t_407) rfl rfl rfl (by decide +kernel) ⟨Nat.le_of_ble_eq_true rfl, Nat.le_of_ble_eq_true rfl⟩) (pre_V E hP hS (0) (by omega) hO rfl) rfl rfl hl.1 rfl (lv_room (Nat.le_of_ble_eq_true rfl)) d_R_decrypted_2 ⟨(Nat.le_of_ble_eq_true rfl), (Nat.le_of_ble_eq_true rfl)⟩) hS (fun r2 z1 H locs hz hP hS => ?_)
  obtain ⟨rfl, rfl⟩ := hz
  have hi01 := inb_01 (x) (v : Int)
  refine x_if_eq (tgt := 15) hx hb ⟨by omega, by omega⟩ d_R_decrypted_5 (by decide) (fun hc => ?_) (fun hc => ?_)
  · refine lv_iconst (v := iI (-1)) hx hb d_R_decrypted_15 rfl ?_
    refine x_ie (y := if (0 ≤ x ∧ x < v) ∧ 0 ≤ y ∧ y < 8 then opV K.1 (V x) y % 17 else -1) (by rw [if_neg (fun h => inb_z hc h.1)]) ?_
    exact ret _ u H locs 16 ls ⟨rfl, hC9, fun _ _ => rfl⟩ hP hS d_R_decrypted_16
  · have hxv := inb_n hc
    refine lv_iload_n hx hb d_R_decrypted_8 rfl (lv_at hl 2 rfl) ?_
    refine w_calli (va_runS (As := [.int (iI (y))]) (rest := []) ⟨hx, hb, hml, hown, hts⟩ (c_isC l D ct st ke b N u (y) hy0) (cwS 1 hts (gS t_211 t_212 t_1 t_213) rfl rfl rfl (by decide +kernel) ⟨Nat.le_of_ble_eq_true rfl, Nat.le_of_ble_eq_true rfl⟩) (pre_S E hP hS) rfl rfl hl.1 rfl (lv_room (Nat.le_of_ble_eq_true rfl)) d_R_decrypted_9 ⟨(Nat.le_of_ble_eq_true rfl), (Nat.le_of_ble_eq_true rfl)⟩) hS (fun r4 z3 H locs hz hP hS => ?_)
    obtain ⟨rfl, rfl⟩ := hz
    have hi01 := inb_01 (y) 8
    refine x_if_ne (tgt := 17) hx hb ⟨by omega, by omega⟩ d_R_decrypted_12 (by decide) (fun hc => ?_) (fun hc => ?_)
    · have hyv := inb_n hc
      obtain ⟨g, rfl⟩ := Int.eq_ofNat_of_zero_le hxv.1
      have okv := hI.2.2.2.2 g (by omega)
      have okl0 := okv.1.1
      have okl3 := okv.1.2.1
      have hvv := hGC.2.2 g (by omega)
      rw [show 47 + 8 * g = 44 + 8 * g + 3 by omega] at hvv
      obtain ⟨hg0, hg1, gp, hg2, hg3⟩ := hGC.2.1 g (by omega)
      have hv := hGC.2.2 g (by omega)
      rw [show 47 + 8 * g = 44 + 8 * g + 3 by omega] at hv
      obtain ⟨v0, v1, hVR, hR0, hR1⟩ := hv
      obtain ⟨oa, og, ob_⟩ := hSC.2.2.2.2.2
      refine lv_aload_n hx hb d_R_decrypted_17 rfl (lv_at hl 0 rfl) ?_
      refine w_get (C := "LevelledRing") (T := T_R) (M := 11) hx hb hts hinR hown hK hP (0) (by omega) hO rfl 3 (by decide) kk0 (fun _ h => h) rfl d_R_decrypted_18 ?_
      refine lv_iload_n hx hb d_R_decrypted_21 rfl (lv_at hl 1 rfl) ?_
      refine w_aald (r := b + (44 + 8 * g)) hx hb hK hP (4) (by omega) 3 hgr rfl (by omega) (by omega) (by decide) (hgf g (by omega)) d_R_decrypted_22 ?_
      refine w_get (C := "LevelledRing$Gate") (T := T_G) (M := 6) hx hb hts hinG hown hK hP (44 + 8 * g) (by omega) hg0 rfl 5 (by decide) kk2 (fun _ h => h) rfl d_R_decrypted_23 ?_
      refine lv_astore_n (lv' := [(3, .ref (b + (44 + 8 * g + 3))), (0, .ref (b + 0)), (1, .int (iI ((g : Int)))), (2, .int (iI (y)))]) hx hb d_R_decrypted_26 rfl hl (by decide) rfl (fun ls hl => ?_)
      refine lv_aload_n hx hb d_R_decrypted_27 rfl (lv_at hl 1 rfl) ?_
      refine lv_aload_n hx hb d_R_decrypted_28 rfl (lv_at hl 0 rfl) ?_
      refine w_callv (va_runV (As := [.ref (b + (44 + 8 * g + 3))]) (rest := []) ⟨hx, hb, hml, hown, hts⟩ (c_openValue l D ct st ke b N u hN K n v hO hKS ⟨oa, og, ob_⟩ (44 + 8 * g + 3) (by omega) (by omega) (V g) okv.1 hvv) (cwV 1 hts (gV t_417 t_419 (tb_sel ((y_R_openValue), 11) (List.mem_of_getElem? (i := 13) (by decide +kernel))) t_1 t_420) rfl rfl rfl (by decide +kernel) ⟨Nat.le_of_ble_eq_true rfl, Nat.le_of_ble_eq_true rfl⟩) (pre_V E hP hS (0) (by omega) hO rfl) rfl rfl hl.1 rfl (lv_room (Nat.le_of_ble_eq_true rfl)) d_R_decrypted_29 ⟨(Nat.le_of_ble_eq_true rfl), (Nat.le_of_ble_eq_true rfl)⟩) hS (fun z5 H locs hz hP hS => ?_)
      obtain ⟨g2, e1, e2, e3⟩ := hz
      have ff7 : z5 0 = .inr (5, [.ref (b + 1), .ref (b + 21), .ref (b + 2), .ref (b + 4), .int (iI ((n : Int))), .int (iI ((v : Int))), .ref (b + 5), .ref (b + 10), .ref (b + 15), .ref (b + 17), .ref (b + 19)]) := (e3 0 (by omega)).trans hO
      have ff8 : z5 4 = qr ct 3 24 (gf) := (e3 4 (by omega)).trans hgr
      have ff9 : z5 (44 + 8 * g) = .inr (1, [.ref (ke (G g).1), .int (iI ((G g).2.1)), .int (iI ((G g).2.2.1)), .int (iI ((G g).2.2.2.1)), .ref (b + (44 + 8 * g + 1)), .ref (b + (44 + 8 * g + 3))]) := (e3 (44 + 8 * g) (by omega)).trans hg0
      have ff10 : z5 (44 + 8 * g + 1) = .inr (3, [.int (iI (1)), .ref (b + (44 + 8 * g + 2))]) := (e3 (44 + 8 * g + 1) (by omega)).trans hg1
      have ff11 : z5 (44 + 8 * g + 2) = ir ct 8 (gp) := (e3 (44 + 8 * g + 2) (by omega)).trans hg2
      have ff12 : z5 (44 + 8 * g + 3) = .inr (4, [.int (iI ((V g).1)), .long (lI ((V g).2.1)), .ref (b + (44 + 8 * g + 4)), .ref (b + (44 + 8 * g + 6))]) := (e3 (44 + 8 * g + 3) (by omega)).trans hVR.1
      have ff13 : z5 (44 + 8 * g + 4) = .inr (3, [.int (iI (0)), .ref (b + (44 + 8 * g + 5))]) := (e3 (44 + 8 * g + 4) (by omega)).trans hVR.2.1
      have ff14 : z5 (44 + 8 * g + 5) = ir ct 32 (v0) := (e3 (44 + 8 * g + 5) (by omega)).trans hVR.2.2.1
      have ff15 : z5 (44 + 8 * g + 6) = .inr (3, [.int (iI (0)), .ref (b + (44 + 8 * g + 7))]) := (e3 (44 + 8 * g + 6) (by omega)).trans hVR.2.2.2.1
      have ff16 : z5 (44 + 8 * g + 7) = ir ct 32 (v1) := (e3 (44 + 8 * g + 7) (by omega)).trans hVR.2.2.2.2
      have ff17 : z5 19 = .inr (3, [.int (iI (0)), .ref (b + 20)]) := (e3 19 (by omega)).trans oa
      have fr18 : ∀ j : Nat, (j ≠ 20) → z5 j = u j := fun j h0 => (e3 j (by omega)).trans (fr0 j h0)
      refine lv_aload_n hx hb d_R_decrypted_32 rfl (lv_at hl 1 rfl) ?_
      refine w_get (C := "LevelledRing") (T := T_R) (M := 11) hx hb hts hinR hown hK hP (0) (by omega) ff7 rfl 10 (by decide) kk4 (fun _ h => h) rfl d_R_decrypted_33 ?_
      refine lv_iload_n hx hb d_R_decrypted_36 rfl (lv_at hl 3 rfl) ?_
      refine lv_aload_n hx hb d_R_decrypted_37 rfl (lv_at hl 0 rfl) ?_
      refine w_get (C := "LevelledRing$Value") (T := T_V) (M := 4) hx hb hts hinV hown hK hP (44 + 8 * g + 3) (by omega) ff12 rfl 0 (by decide) kk5 (fun _ h => h) rfl d_R_decrypted_38 ?_
      refine w_calll (va_runV (As := [.int (iI (y)), .int (iI ((V g).1))]) (rest := []) ⟨hx, hb, hml, hown, hts⟩ (c_centredC l D ct st ke b N z5 19 32 g2 (by omega) (by decide) ff17 e1 y (V g).1 hyv.1 hyv.2 okl0 okl3 (by omega) _ e2) (cwV 2 hts (gV t_421 t_422 t_423 t_3 t_424) rfl rfl rfl (by decide +kernel) ⟨Nat.le_of_ble_eq_true rfl, Nat.le_of_ble_eq_true rfl⟩) (pre_V E hP hS (19) (by omega) ff17 rfl) rfl rfl hl.1 rfl (lv_room (Nat.le_of_ble_eq_true rfl)) d_R_decrypted_41 ⟨(Nat.le_of_ble_eq_true rfl), (Nat.le_of_ble_eq_true rfl)⟩) hS (fun r20 z19 H locs hz hP hS => ?_)
      obtain ⟨rfl, rfl⟩ := hz
      have bop := opV_bd K.1 (V g) y
      refine lv_bipush (v := iI (17)) hx hb d_R_decrypted_44 (by decide +kernel) ?_
      refine w_calli (va_runS (As := [.long (lI (opV K.1 (V g) y)), .int (iI (17))]) (rest := []) ⟨hx, hb, hml, hown, hts⟩ (c_modulo l D ct st ke b N z5 (opV K.1 (V g) y) (17) ⟨by omega, by omega⟩ (by decide) (by decide)) (cwS 2 hts (gS t_214 t_99 t_1 t_100) rfl rfl rfl (by decide +kernel) ⟨Nat.le_of_ble_eq_true rfl, Nat.le_of_ble_eq_true rfl⟩) (pre_S E hP hS) rfl rfl hl.1 rfl (lv_room (Nat.le_of_ble_eq_true rfl)) d_R_decrypted_46 ⟨(Nat.le_of_ble_eq_true rfl), (Nat.le_of_ble_eq_true rfl)⟩) hS (fun r22 z21 H locs hz hP hS => ?_)
      obtain ⟨rfl, rfl⟩ := hz
      refine x_ie (y := if (0 ≤ (g : Int) ∧ (g : Int) < v) ∧ 0 ≤ y ∧ y < 8 then opV K.1 (V (g : Int)) y % 17 else -1) (by rw [if_pos ⟨hxv, hyv⟩]) ?_
      have hC8 : CS ct b ke z5 K n v msg G V := ⟨ff7, ⟨⟨hSC.1.choose, (fr18 1 (by omega)).trans hSC.1.choose_spec⟩, hSC.2.1.of fun j h1 h2 => fr18 j (by omega), hSC.2.2.1.of fun j h1 h2 => fr18 j (by omega), hSC.2.2.2.1.of fun j h1 h2 => fr18 j (by omega), hSC.2.2.2.2.1.of fun j h1 h2 => fr18 j (by omega), ⟨ff17, _, e1⟩⟩, hSV.of fun j h1 h2 => fr18 j (by omega), ⟨gf, ff8, hgf⟩, hKS.of fun j h1 h2 => fr18 j (by omega), hGC.of hn24 (by omega) fun j h1 h2 => fr18 j (by omega)⟩
      exact ret _ z5 H locs 49 ls ⟨rfl, hC8, fr18⟩ hP hS d_R_decrypted_49
    · refine lv_iconst (v := iI (-1)) hx hb d_R_decrypted_15 rfl ?_
      refine x_ie (y := if (0 ≤ x ∧ x < v) ∧ 0 ≤ y ∧ y < 8 then opV K.1 (V x) y % 17 else -1) (by rw [if_neg (fun h => inb_z hc h.2)]) ?_
      exact ret _ u H locs 16 ls ⟨rfl, hC9, fun _ _ => rfl⟩ hP hS d_R_decrypted_16
abbrev rm_c_noise : Room := { frames := 3, cells := 0, slots := 0, locals := 82 }
set_option maxHeartbeats 4000000 in
set_option maxRecDepth 100000 in
/-- noise(x) -/
theorem c_noise (l : Launch) (D : va_G) (ct : Nat → ClassId) (st ke : Nat → Nat) (b N : Nat) (u : Nat → va_E) (hN : 236 ≤ N) (K : Ky) (n v : Nat) (msg : Int → Int) (G : Int → Gt) (V : Int → Val) (hC : CS ct b ke u K n v msg G V) (hI : PI n v msg G V) (x : Int) (hx0 : r32 x) : Met l y_R_noise (w_R_noise) rm_c_noise (va_Pc [.ref (b + 0), .int (iI (x))] (fun U => ev D ct st ke b U ∧ va_P D vwCl (wl N b u) U.heap)) (va_Ql (fun (r : Int64) (z : Nat → va_E) => r = lI (if 0 ≤ x ∧ x < v then mxs (opV K.1 (V x)) 8 else -1) ∧ CS ct b ke z K n v msg G V ∧ ∀ j : Nat, j ≠ 20 → z j = u j) (fun (z : Nat → va_E) t => va_P D vwCl (wl (N) b (z)) t.heap) (AA b)) 0 0 (AA b) := by
  refine M_l (cc := c9_R_noise) (maxL := 6) (by decide) rfl (Nat.le_of_ble_eq_true rfl) ?_
  intro p e s m args below meth c Q ls H locs hx hb hml hown hts hnm E hP hS hl ret
  have hl : lv_has ls 6 [(0, .ref (b + 0)), (1, .int (iI (x)))] := hl
  have hK := ev_K E
  have kk0 := hts (.fieldLink "LevelledRing" 27 "LevelledRing" "gates" "[LLevelledRing$Gate;") (List.mem_cons_of_mem _ t_176)
  have hinR : ∀ w ∈ u_ws "LevelledRing" T_R 11, w ∈ (w_R_noise) := hin_R _
  have kk2 := hts (.fieldLink "LevelledRing" 139 "LevelledRing$Gate" "value" "LLevelledRing$Value;") (List.mem_cons_of_mem _ t_159)
  have hinG : ∀ w ∈ u_ws "LevelledRing$Gate" T_G 6, w ∈ (w_R_noise) := hin_G _
  have kk4 := hts (.fieldLink "LevelledRing" 54 "LevelledRing" "opened" "LLevelledRing$Poly;") (List.mem_cons_of_mem _ t_183)
  have kk5 := hts (.fieldLink "LevelledRing" 142 "LevelledRing$Value" "level" "I") (List.mem_cons_of_mem _ t_57)
  have hinV : ∀ w ∈ u_ws "LevelledRing$Value" T_V 4, w ∈ (w_R_noise) := hin_V _
  have kk7 := hts (.initialized "java/lang/Math") (List.mem_cons_of_mem _ t_10)
  have kk8 := hts (.methodLink "LevelledRing" 159 Lib.MathLoose.abs_long.x) (List.mem_cons_of_mem _ t_432)
  have kk9 := hts (.static Lib.MathLoose.abs_long.x) (List.mem_cons_of_mem _ t_433)
  have kk10 := hts (.code Lib.MathLoose.abs_long.x Lib.MathLoose.abs_long.code 2 (some .long)) (List.mem_cons_of_mem _ t_434)
  have kk11 := hts (.methodLink "LevelledRing" 163 Lib.MathLoose.max_long.x) (List.mem_cons_of_mem _ t_435)
  have kk12 := hts (.static Lib.MathLoose.max_long.x) (List.mem_cons_of_mem _ t_436)
  have kk13 := hts (.code Lib.MathLoose.max_long.x Lib.MathLoose.max_long.code 4 (some .long)) (List.mem_cons_of_mem _ t_437)
  have kk14 := hts (.constantLong "LevelledRing" 149 (-1)) (List.mem_cons_of_mem _ t_412)
  have fr0 : ∀ j : Nat, (j ≠ 20) → u j = u j := fun _ _ => rfl
  have hC9 := hC
  have hn24 := hI.1
  have hvn := hI.2.1
  obtain ⟨hO, hSC, hSV, ⟨gf, hgr, hgf⟩, hKS, hGC⟩ := hC
  refine lv_aload_n hx hb d_R_noise_0 rfl (lv_at hl 0 rfl) ?_
  refine lv_iload_n hx hb d_R_noise_1 rfl (lv_at hl 1 rfl) ?_
  refine w_calli (va_runV (As := [.int (iI (x))]) (rest := []) ⟨hx, hb, hml, hown, hts⟩ (c_hasValue l D ct st ke b N u (by omega) n v (by omega) (by omega) hO (x) hx0) (cwV 1 hts (gV t_404 t_406 (tb_sel ((y_R_hasValue), 11) (List.mem_of_getElem? (i := 12) (by decide +kernel))) t_1 t_407) rfl rfl rfl (by decide +kernel) ⟨Nat.le_of_ble_eq_true rfl, Nat.le_of_ble_eq_true rfl⟩) (pre_V E hP hS (0) (by omega) hO rfl) rfl rfl hl.1 rfl (lv_room (Nat.le_of_ble_eq_true rfl)) d_R_noise_2 ⟨(Nat.le_of_ble_eq_true rfl), (Nat.le_of_ble_eq_true rfl)⟩) hS (fun r2 z1 H locs hz hP hS => ?_)
  obtain ⟨rfl, rfl⟩ := hz
  have hi01 := inb_01 (x) (v : Int)
  refine x_if_ne (tgt := 12) hx hb ⟨by omega, by omega⟩ d_R_noise_5 (by decide) (fun hc => ?_) (fun hc => ?_)
  · have hxv := inb_n hc
    obtain ⟨g, rfl⟩ := Int.eq_ofNat_of_zero_le hxv.1
    have okv := hI.2.2.2.2 g (by omega)
    have okl0 := okv.1.1
    have okl3 := okv.1.2.1
    have hvv := hGC.2.2 g (by omega)
    rw [show 47 + 8 * g = 44 + 8 * g + 3 by omega] at hvv
    obtain ⟨hg0, hg1, gp, hg2, hg3⟩ := hGC.2.1 g (by omega)
    have hv := hGC.2.2 g (by omega)
    rw [show 47 + 8 * g = 44 + 8 * g + 3 by omega] at hv
    obtain ⟨v0, v1, hVR, hR0, hR1⟩ := hv
    obtain ⟨oa, og, ob_⟩ := hSC.2.2.2.2.2
    refine lv_aload_n hx hb d_R_noise_12 rfl (lv_at hl 0 rfl) ?_
    refine w_get (C := "LevelledRing") (T := T_R) (M := 11) hx hb hts hinR hown hK hP (0) (by omega) hO rfl 3 (by decide) kk0 (fun _ h => h) rfl d_R_noise_13 ?_
    refine lv_iload_n hx hb d_R_noise_16 rfl (lv_at hl 1 rfl) ?_
    refine w_aald (r := b + (44 + 8 * g)) hx hb hK hP (4) (by omega) 3 hgr rfl (by omega) (by omega) (by decide) (hgf g (by omega)) d_R_noise_17 ?_
    refine w_get (C := "LevelledRing$Gate") (T := T_G) (M := 6) hx hb hts hinG hown hK hP (44 + 8 * g) (by omega) hg0 rfl 5 (by decide) kk2 (fun _ h => h) rfl d_R_noise_18 ?_
    refine lv_astore_n (lv' := [(2, .ref (b + (44 + 8 * g + 3))), (0, .ref (b + 0)), (1, .int (iI ((g : Int))))]) hx hb d_R_noise_21 rfl hl (by decide) rfl (fun ls hl => ?_)
    refine lv_aload_n hx hb d_R_noise_22 rfl (lv_at hl 1 rfl) ?_
    refine lv_aload_n hx hb d_R_noise_23 rfl (lv_at hl 0 rfl) ?_
    refine w_callv (va_runV (As := [.ref (b + (44 + 8 * g + 3))]) (rest := []) ⟨hx, hb, hml, hown, hts⟩ (c_openValue l D ct st ke b N u hN K n v hO hKS ⟨oa, og, ob_⟩ (44 + 8 * g + 3) (by omega) (by omega) (V g) okv.1 hvv) (cwV 1 hts (gV t_417 t_419 (tb_sel ((y_R_openValue), 11) (List.mem_of_getElem? (i := 13) (by decide +kernel))) t_1 t_420) rfl rfl rfl (by decide +kernel) ⟨Nat.le_of_ble_eq_true rfl, Nat.le_of_ble_eq_true rfl⟩) (pre_V E hP hS (0) (by omega) hO rfl) rfl rfl hl.1 rfl (lv_room (Nat.le_of_ble_eq_true rfl)) d_R_noise_24 ⟨(Nat.le_of_ble_eq_true rfl), (Nat.le_of_ble_eq_true rfl)⟩) hS (fun z3 H locs hz hP hS => ?_)
    obtain ⟨g2, e1, e2, e3⟩ := hz
    have ff5 : z3 0 = .inr (5, [.ref (b + 1), .ref (b + 21), .ref (b + 2), .ref (b + 4), .int (iI ((n : Int))), .int (iI ((v : Int))), .ref (b + 5), .ref (b + 10), .ref (b + 15), .ref (b + 17), .ref (b + 19)]) := (e3 0 (by omega)).trans hO
    have ff6 : z3 4 = qr ct 3 24 (gf) := (e3 4 (by omega)).trans hgr
    have ff7 : z3 (44 + 8 * g) = .inr (1, [.ref (ke (G g).1), .int (iI ((G g).2.1)), .int (iI ((G g).2.2.1)), .int (iI ((G g).2.2.2.1)), .ref (b + (44 + 8 * g + 1)), .ref (b + (44 + 8 * g + 3))]) := (e3 (44 + 8 * g) (by omega)).trans hg0
    have ff8 : z3 (44 + 8 * g + 1) = .inr (3, [.int (iI (1)), .ref (b + (44 + 8 * g + 2))]) := (e3 (44 + 8 * g + 1) (by omega)).trans hg1
    have ff9 : z3 (44 + 8 * g + 2) = ir ct 8 (gp) := (e3 (44 + 8 * g + 2) (by omega)).trans hg2
    have ff10 : z3 (44 + 8 * g + 3) = .inr (4, [.int (iI ((V g).1)), .long (lI ((V g).2.1)), .ref (b + (44 + 8 * g + 4)), .ref (b + (44 + 8 * g + 6))]) := (e3 (44 + 8 * g + 3) (by omega)).trans hVR.1
    have ff11 : z3 (44 + 8 * g + 4) = .inr (3, [.int (iI (0)), .ref (b + (44 + 8 * g + 5))]) := (e3 (44 + 8 * g + 4) (by omega)).trans hVR.2.1
    have ff12 : z3 (44 + 8 * g + 5) = ir ct 32 (v0) := (e3 (44 + 8 * g + 5) (by omega)).trans hVR.2.2.1
    have ff13 : z3 (44 + 8 * g + 6) = .inr (3, [.int (iI (0)), .ref (b + (44 + 8 * g + 7))]) := (e3 (44 + 8 * g + 6) (by omega)).trans hVR.2.2.2.1
    have ff14 : z3 (44 + 8 * g + 7) = ir ct 32 (v1) := (e3 (44 + 8 * g + 7) (by omega)).trans hVR.2.2.2.2
    have ff15 : z3 19 = .inr (3, [.int (iI (0)), .ref (b + 20)]) := (e3 19 (by omega)).trans oa
    have fr16 : ∀ j : Nat, (j ≠ 20) → z3 j = u j := fun j h0 => (e3 j (by omega)).trans (fr0 j h0)
    refine lv_lconst (v := lI 0) hx hb d_R_noise_27 rfl ?_
    refine lv_lstore_n (lv' := [(3, .long (lI (0))), (2, .ref (b + (44 + 8 * g + 3))), (0, .ref (b + 0)), (1, .int (iI ((g : Int))))]) hx hb d_R_noise_28 rfl hl (by decide) rfl (fun ls hl => ?_)
    refine lv_iconst (v := iI (0)) hx hb d_R_noise_29 rfl ?_
    refine lv_istore (lv' := [(5, .int (iI (0))), (3, .long (lI (0))), (2, .ref (b + (44 + 8 * g + 3))), (0, .ref (b + 0)), (1, .int (iI ((g : Int))))]) hx hb d_R_noise_30 hl (by decide) rfl (fun ls hl => ?_)
    have lo : ∀ (d : Nat) (i : Int) (H : Heap) (locs : List Loc) (ls : Array Slot), (0 ≤ i) → (i ≤ 8) → (8 - i < d) → va_P D vwCl (wl N b z3) H → va_S (AA b) s.heap H locs → lv_has ls 6 [(5, .int (iI (i))), (3, .long (lI (mxs (opV K.1 (V g)) i.toNat))), (2, .ref (b + (44 + 8 * g + 3))), (0, .ref (b + 0)), (1, .int (iI ((g : Int))))] → W p l e rm_c_noise s m args below meth c H locs 0 0 Q (F0 m 32 ls []) := by
      intro d
      induction d with
      | zero => intro i H locs ls h0 h1 hd hP hS hl; exfalso; omega
      | succ d ihlo =>
        intro i H locs ls h0 h1 hd hP hS hl
        refine lv_iload hx hb d_R_noise_32 (lv_at hl 0 rfl) ?_
        refine lv_bipush (v := iI (8)) hx hb d_R_noise_34 (by decide +kernel) ?_
        refine x_icmp_ge (tgt := 66) hx hb ⟨by omega, by omega⟩ ⟨by omega, by omega⟩ d_R_noise_36 (by decide) (fun hc => ?_) (fun hc => ?_)
        · obtain rfl : i = 8 := by omega
          refine lv_lload_n hx hb d_R_noise_66 rfl (lv_at hl 1 rfl) ?_
          refine x_le (y := if 0 ≤ (g : Int) ∧ (g : Int) < v then mxs (opV K.1 (V (g : Int))) 8 else -1) (by rw [if_pos hxv]; rfl) ?_
          have hC8 : CS ct b ke z3 K n v msg G V := ⟨ff5, ⟨⟨hSC.1.choose, (fr16 1 (by omega)).trans hSC.1.choose_spec⟩, hSC.2.1.of fun j h1 h2 => fr16 j (by omega), hSC.2.2.1.of fun j h1 h2 => fr16 j (by omega), hSC.2.2.2.1.of fun j h1 h2 => fr16 j (by omega), hSC.2.2.2.2.1.of fun j h1 h2 => fr16 j (by omega), ⟨ff15, _, e1⟩⟩, hSV.of fun j h1 h2 => fr16 j (by omega), ⟨gf, ff6, hgf⟩, hKS.of fun j h1 h2 => fr16 j (by omega), hGC.of hn24 (by omega) fun j h1 h2 => fr16 j (by omega)⟩
          exact ret _ z3 H locs 67 ls ⟨rfl, hC8, fr16⟩ hP hS d_R_noise_67
        · refine lv_lload_n hx hb d_R_noise_39 rfl (lv_at hl 1 rfl) ?_
          refine lv_aload_n hx hb d_R_noise_40 rfl (lv_at hl 3 rfl) ?_
          refine w_get (C := "LevelledRing") (T := T_R) (M := 11) hx hb hts hinR hown hK hP (0) (by omega) ff5 rfl 10 (by decide) kk4 (fun _ h => h) rfl d_R_noise_41 ?_
          refine lv_iload hx hb d_R_noise_44 (lv_at hl 0 rfl) ?_
          refine lv_aload_n hx hb d_R_noise_46 rfl (lv_at hl 2 rfl) ?_
          refine w_get (C := "LevelledRing$Value") (T := T_V) (M := 4) hx hb hts hinV hown hK hP (44 + 8 * g + 3) (by omega) ff10 rfl 0 (by decide) kk5 (fun _ h => h) rfl d_R_noise_47 ?_
          refine w_calll (va_runV (As := [.int (iI (i)), .int (iI ((V g).1))]) (rest := [.long (lI (mxs (opV K.1 (V g)) i.toNat))]) ⟨hx, hb, hml, hown, hts⟩ (c_centredC l D ct st ke b N z3 19 32 g2 (by omega) (by decide) ff15 e1 i (V g).1 h0 (by omega) okl0 okl3 (by omega) _ e2) (cwV 2 hts (gV t_421 t_422 t_423 t_3 t_424) rfl rfl rfl (by decide +kernel) ⟨Nat.le_of_ble_eq_true rfl, Nat.le_of_ble_eq_true rfl⟩) (pre_V E hP hS (19) (by omega) ff15 rfl) rfl rfl hl.1 rfl (lv_room (Nat.le_of_ble_eq_true rfl)) d_R_noise_50 ⟨(Nat.le_of_ble_eq_true rfl), (Nat.le_of_ble_eq_true rfl)⟩) hS (fun r18 z17 H locs hz hP hS => ?_)
          obtain ⟨rfl, rfl⟩ := hz
          refine x_le (y := opV K.1 (V g) i) rfl ?_
          have bop := opV_bd K.1 (V g) i
          have bab := ab_bd K.1 (V g) i
          have bmx := mxs_bd K.1 (V g) i.toNat
          refine va_mabs_long hx hb (hml.trans hl.1.symm) hown kk8 kk9 kk7 kk10 (Nat.le_of_ble_eq_true rfl) (Nat.le_of_ble_eq_true rfl) (Nat.zero_le _) (Nat.zero_le _) d_R_noise_53 ?_
          refine x_l (y := lI (ab (opV K.1 (V g) i))) (abs_lI ⟨by omega, by omega⟩) ?_
          refine va_mmax_long hx hb (hml.trans hl.1.symm) hown kk11 kk12 kk7 kk13 (Nat.le_of_ble_eq_true rfl) (Nat.le_of_ble_eq_true rfl) (Nat.zero_le _) (Nat.zero_le _) d_R_noise_56 ?_
          refine x_l (y := lI (mxs (opV K.1 (V g)) (i + 1).toNat)) (by rw [mxs_step _ h0]; exact max_lI ⟨by omega, by omega⟩ ⟨by omega, by omega⟩) ?_
          refine lv_lstore_n (lv' := [(3, .long (lI (mxs (opV K.1 (V g)) (i + 1).toNat))), (5, .int (iI (i))), (2, .ref (b + (44 + 8 * g + 3))), (0, .ref (b + 0)), (1, .int (iI ((g : Int))))]) hx hb d_R_noise_59 rfl hl (by decide) rfl (fun ls hl => ?_)
          refine lv_iinc (k := 1) (v := iI (i + 1)) (lv' := [(5, .int (iI (i + 1))), (3, .long (lI (mxs (opV K.1 (V g)) (i + 1).toNat))), (2, .ref (b + (44 + 8 * g + 3))), (0, .ref (b + 0)), (1, .int (iI ((g : Int))))]) hx hb d_R_noise_60 hl rfl (iI_add _ _) (by decide) rfl (fun ls hl => ?_)
          refine lv_goto (tgt := 32) hx hb d_R_noise_63 (by decide) ?_
          have hl : lv_has ls 6 [(5, .int (iI (i + 1))), (3, .long (lI (mxs (opV K.1 (V g)) (i + 1).toNat))), (2, .ref (b + (44 + 8 * g + 3))), (0, .ref (b + 0)), (1, .int (iI ((g : Int))))] := lv_sub hl [0, 1, 2, 3, 4] rfl
          exact ihlo (i + 1) H locs ls (by omega) (by omega) (by omega) hP hS hl
    exact lo 9 0 H locs ls (by omega) (by omega) (by omega) hP hS hl
  · refine lv_ldc2 hx hb hown kk14 d_R_noise_8 ?_
    refine x_l (y := lI (-1)) (by decide +kernel) ?_
    refine x_le (y := if 0 ≤ x ∧ x < v then mxs (opV K.1 (V x)) 8 else -1) (by rw [if_neg (inb_z hc)]) ?_
    exact ret _ u H locs 11 ls ⟨rfl, hC9, fun _ _ => rfl⟩ hP hS d_R_noise_11
abbrev rm_c_swm : Room := { frames := 0, cells := 0, slots := 0, locals := 0 }
set_option maxHeartbeats 4000000 in
set_option maxRecDepth 100000 in
/-- switchingMeter(x) -/
theorem c_swm (l : Launch) (D : va_G) (ct : Nat → ClassId) (st ke : Nat → Nat) (b N : Nat) (u : Nat → va_E) (x : Int) (h0 : 0 ≤ x) (h3 : x ≤ 3) : Met l y_R_switchingMeter (w_R_switchingMeter) rm_c_swm (va_Pc [.int (iI (x))] (fun U => ev D ct st ke b U ∧ va_P D vwCl (wl N b u) U.heap)) (va_Ql (fun (r : Int64) (z : Nat → va_E) => r = lI (136 * gdg x) ∧ u = z) (fun (z : Nat → va_E) t => va_P D vwCl (wl (N) b (z)) t.heap) (AA b)) 0 0 (AA b) := by
  refine M_l (cc := c9_R_switchingMeter) (maxL := 4) (by decide) rfl (Nat.le_of_ble_eq_true rfl) ?_
  intro p e s m args below meth c Q ls H locs hx hb hml hown hts hnm E hP hS hl ret
  have hl : lv_has ls 4 [(0, .int (iI (x)))] := hl
  have hK := ev_K E
  have kk0 := hts (.constantLong "LevelledRing" 280 136) (List.mem_cons_of_mem _ t_374)
  have kk1 := hts (.fieldLink "LevelledRing" 277 "LevelledRing" "PRIMES" "[I") (List.mem_cons_of_mem _ t_373)
  refine lv_lconst (v := lI 0) hx hb d_R_switchingMeter_0 rfl ?_
  refine lv_lstore_n (lv' := [(1, .long (lI (0))), (0, .int (iI (x)))]) hx hb d_R_switchingMeter_1 rfl hl (by decide) rfl (fun ls hl => ?_)
  refine lv_iconst (v := iI (0)) hx hb d_R_switchingMeter_2 rfl ?_
  refine lv_istore_n (lv' := [(3, .int (iI (0))), (1, .long (lI (0))), (0, .int (iI (x)))]) hx hb d_R_switchingMeter_3 rfl hl (by decide) rfl (fun ls hl => ?_)
  have lo : ∀ (d : Nat) (i : Int) (H : Heap) (locs : List Loc) (ls : Array Slot), (0 ≤ i) → (i ≤ x + 1) → (x + 1 - i < d) → va_P D vwCl (wl N b u) H → va_S (AA b) s.heap H locs → lv_has ls 4 [(3, .int (iI (i))), (1, .long (lI (sn (fun k => lq k - 1) i.toNat))), (0, .int (iI (x)))] → W p l e rm_c_swm s m args below meth c H locs 0 0 Q (F0 m 4 ls []) := by
    intro d
    induction d with
    | zero => intro i H locs ls hi0 hi1 hd hP hS hl; exfalso; omega
    | succ d ihlo =>
      intro i H locs ls hi0 hi1 hd hP hS hl
      refine lv_iload_n hx hb d_R_switchingMeter_4 rfl (lv_at hl 0 rfl) ?_
      refine lv_iload_n hx hb d_R_switchingMeter_5 rfl (lv_at hl 2 rfl) ?_
      refine x_icmp_gt (tgt := 26) hx hb ⟨by omega, by omega⟩ ⟨by omega, by omega⟩ d_R_switchingMeter_6 (by decide) (fun hc => ?_) (fun hc => ?_)
      · obtain rfl : i = x + 1 := by omega
        refine lv_ldc2 hx hb hown kk0 d_R_switchingMeter_26 ?_
        refine x_l (y := lI (136)) (by decide +kernel) ?_
        refine lv_lload_n hx hb d_R_switchingMeter_29 rfl (lv_at hl 1 rfl) ?_
        refine x_lmul hx hb d_R_switchingMeter_30 ?_
        refine x_le (y := 136 * gdg x) (rfl) ?_
        exact ret _ u H locs 31 ls ⟨rfl, rfl⟩ hP hS d_R_switchingMeter_31
      · have hlq := lq_bd i
        refine lv_lload_n hx hb d_R_switchingMeter_9 rfl (lv_at hl 1 rfl) ?_
        refine va_gets hx hb (ev_Z0 E) hS hown kk1 (fun _ h => h) d_R_switchingMeter_10 ?_
        refine lv_iload_n hx hb d_R_switchingMeter_13 rfl (lv_at hl 0 rfl) ?_
        refine x_ti hx hb (ev_T0 E) hS (by omega) (by omega) (by decide) d_R_switchingMeter_14 ?_
        refine lv_iconst (v := iI (1)) hx hb d_R_switchingMeter_15 rfl ?_
        refine x_isub hx hb d_R_switchingMeter_16 ?_
        refine x_i2l hx hb ⟨by omega, by omega⟩ d_R_switchingMeter_17 ?_
        refine x_ladd hx hb d_R_switchingMeter_18 ?_
        refine x_le (y := sn (fun k => lq k - 1) (i + 1).toNat) (by rw [sn_step _ hi0]) ?_
        refine lv_lstore_n (lv' := [(1, .long (lI (sn (fun k => lq k - 1) (i + 1).toNat))), (3, .int (iI (i))), (0, .int (iI (x)))]) hx hb d_R_switchingMeter_19 rfl hl (by decide) rfl (fun ls hl => ?_)
        refine lv_iinc (k := 1) (v := iI (i + 1)) (lv' := [(3, .int (iI (i + 1))), (1, .long (lI (sn (fun k => lq k - 1) (i + 1).toNat))), (0, .int (iI (x)))]) hx hb d_R_switchingMeter_20 hl rfl (iI_add _ _) (by decide) rfl (fun ls hl => ?_)
        refine lv_goto (tgt := 4) hx hb d_R_switchingMeter_23 (by decide) ?_
        have hl : lv_has ls 4 [(3, .int (iI (i + 1))), (1, .long (lI (sn (fun k => lq k - 1) (i + 1).toNat))), (0, .int (iI (x)))] := lv_sub hl [0, 1, 2] rfl
        exact ihlo (i + 1) H locs ls (by omega) (by omega) (by omega) hP hS hl
  exact lo (x + 2).toNat 0 H locs ls (by omega) (by omega) (by omega) hP hS hl
