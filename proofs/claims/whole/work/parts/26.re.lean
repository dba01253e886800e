abbrev rm_c_turnValue : Room := { frames := 2, cells := 0, slots := 0, locals := 51 }
set_option maxHeartbeats 4000000 in
set_option maxRecDepth 100000 in
/-- turnValue(value, from, t) -/
theorem c_turnValue (l : Launch) (D : va_G) (ct : Nat → ClassId) (st ke : Nat → Nat) (b N : Nat) (u : Nat → va_E) (k : Nat) (hk : k + 4 < N) (hVS : VS ct b u k) (kx : Nat) (hkx : kx + 4 < N) (x : Val) (hx9 : okV x) (hV : VV ct b u kx x) (hdis : k + 5 ≤ kx ∨ kx + 5 ≤ k) (t : Int) (ht0 : 0 ≤ t) (ht : t < 16) : Met l y_R_turnValue (w_R_turnValue) rm_c_turnValue (va_Pc [.ref (b + k), .ref (b + kx), .int (iI (t))] (fun U => ev D ct st ke b U ∧ va_P D vwCl (wl N b u) U.heap)) (va_Qv (fun z : Nat → va_E => VV ct b z k (trV t x) ∧ ∀ j : Nat, (j < k ∨ k + 5 ≤ j) → z j = u j) (fun (z : Nat → va_E) t => va_P D vwCl (wl (N) b (z)) t.heap) (AA b)) 0 0 (AA b) := by
  refine M_v (cc := c9_R_turnValue) (maxL := 3) (by decide) rfl (Nat.le_of_ble_eq_true rfl) ?_
  intro p e s m args below meth c Q ls H locs hx hb hml hown hts hnm E hP hS hl ret
  have hl : lv_has ls 3 [(0, .ref (b + k)), (1, .ref (b + kx)), (2, .int (iI (t)))] := hl
  have hK := ev_K E
  have kk0 := hts (.fieldLink "LevelledRing" 142 "LevelledRing$Value" "level" "I") (List.mem_cons_of_mem _ t_57)
  have hinV : ∀ w ∈ u_ws "LevelledRing$Value" T_V 4, w ∈ (w_R_turnValue) := hin_V _
  have kk2 := hts (.fieldLink "LevelledRing" 145 "LevelledRing$Value" "meter" "J") (List.mem_cons_of_mem _ t_59)
  have kk3 := hts (.fieldLink "LevelledRing" 167 "LevelledRing$Value" "c0" "LLevelledRing$Poly;") (List.mem_cons_of_mem _ t_61)
  have kk4 := hts (.fieldLink "LevelledRing" 170 "LevelledRing$Value" "c1" "LLevelledRing$Poly;") (List.mem_cons_of_mem _ t_63)
  have fr0 : ∀ j : Nat, (j < k ∨ k + 5 ≤ j) → u j = u j := fun _ _ => rfl
  obtain ⟨sl, sm, s0, s1, sV⟩ := hVS
  obtain ⟨x0, x1, xV, xR0, xR1⟩ := hV
  have l0 := hx9.1
  have l3 := hx9.2.1
  refine lv_aload_n hx hb d_R_turnValue_0 rfl (lv_at hl 0 rfl) ?_
  refine lv_aload_n hx hb d_R_turnValue_1 rfl (lv_at hl 1 rfl) ?_
  refine w_get (C := "LevelledRing$Value") (T := T_V) (M := 4) hx hb hts hinV hown hK hP (kx) (by omega) xV.1 rfl 0 (by decide) kk0 (fun _ h => h) rfl d_R_turnValue_2 ?_
  refine w_put (C := "LevelledRing$Value") (T := T_V) (M := 4) (ty := .int) (v := .int (iI (x.1))) hx hb hts hinV ty_V tyok_V nm_V hown hK hP hS (k) (by omega) sV.1 rfl 0 (by decide) kk0 (fun _ h => h) rfl (by decide +kernel) rfl rfl (Nat.le_of_ble_eq_true rfl) d_R_turnValue_5 (fun H locs hP hS => ?_)
  obtain ⟨u1, hu2, hP⟩ : ∃ zz : Nat → va_E, zz = va_up u k (.inr (4, [.int (iI (x.1)), .long (lI (sm)), .ref (b + (k + 1)), .ref (b + (k + 3))])) ∧ va_P D vwCl (wl N b zz) H := ⟨_, rfl, hP⟩
  have ff3 : u1 k = .inr (4, [.int (iI (x.1)), .long (lI (sm)), .ref (b + (k + 1)), .ref (b + (k + 3))]) := (congrFun hu2 _).trans up_s
  have ff4 : u1 (k + 1) = .inr (3, [.int (iI (0)), .ref (b + (k + 2))]) := (congrFun hu2 _).trans ((up_n (by omega)).trans sV.2.1)
  have ff5 : u1 (k + 2) = ir ct 32 (s0) := (congrFun hu2 _).trans ((up_n (by omega)).trans sV.2.2.1)
  have ff6 : u1 (k + 3) = .inr (3, [.int (iI (0)), .ref (b + (k + 4))]) := (congrFun hu2 _).trans ((up_n (by omega)).trans sV.2.2.2.1)
  have ff7 : u1 (k + 4) = ir ct 32 (s1) := (congrFun hu2 _).trans ((up_n (by omega)).trans sV.2.2.2.2)
  have ff8 : u1 kx = .inr (4, [.int (iI (x.1)), .long (lI (x.2.1)), .ref (b + (kx + 1)), .ref (b + (kx + 3))]) := (congrFun hu2 _).trans ((up_n (by omega)).trans xV.1)
  have ff9 : u1 (kx + 1) = .inr (3, [.int (iI (0)), .ref (b + (kx + 2))]) := (congrFun hu2 _).trans ((up_n (by omega)).trans xV.2.1)
  have ff10 : u1 (kx + 2) = ir ct 32 (x0) := (congrFun hu2 _).trans ((up_n (by omega)).trans xV.2.2.1)
  have ff11 : u1 (kx + 3) = .inr (3, [.int (iI (0)), .ref (b + (kx + 4))]) := (congrFun hu2 _).trans ((up_n (by omega)).trans xV.2.2.2.1)
  have ff12 : u1 (kx + 4) = ir ct 32 (x1) := (congrFun hu2 _).trans ((up_n (by omega)).trans xV.2.2.2.2)
  have fr13 : ∀ j : Nat, (j < k ∨ k + 5 ≤ j) → u1 j = u j := fun j h0 => (congrFun hu2 j).trans ((up_n (by omega)).trans (fr0 j h0))
  refine lv_aload_n hx hb d_R_turnValue_8 rfl (lv_at hl 0 rfl) ?_
  refine lv_aload_n hx hb d_R_turnValue_9 rfl (lv_at hl 1 rfl) ?_
  refine w_get (C := "LevelledRing$Value") (T := T_V) (M := 4) hx hb hts hinV hown hK hP (kx) (by omega) ff8 rfl 1 (by decide) kk2 (fun _ h => h) rfl d_R_turnValue_10 ?_
  refine w_put (C := "LevelledRing$Value") (T := T_V) (M := 4) (ty := .long) (v := .long (lI (x.2.1))) hx hb hts hinV ty_V tyok_V nm_V hown hK hP hS (k) (by omega) ff3 rfl 1 (by decide) kk2 (fun _ h => h) rfl (by decide +kernel) rfl rfl (Nat.le_of_ble_eq_true rfl) d_R_turnValue_13 (fun H locs hP hS => ?_)
  obtain ⟨u14, hu15, hP⟩ : ∃ zz : Nat → va_E, zz = va_up u1 k (.inr (4, [.int (iI (x.1)), .long (lI (x.2.1)), .ref (b + (k + 1)), .ref (b + (k + 3))])) ∧ va_P D vwCl (wl N b zz) H := ⟨_, rfl, hP⟩
  have ff16 : u14 k = .inr (4, [.int (iI (x.1)), .long (lI (x.2.1)), .ref (b + (k + 1)), .ref (b + (k + 3))]) := (congrFun hu15 _).trans up_s
  have ff17 : u14 (k + 1) = .inr (3, [.int (iI (0)), .ref (b + (k + 2))]) := (congrFun hu15 _).trans ((up_n (by omega)).trans ff4)
  have ff18 : u14 (k + 2) = ir ct 32 (s0) := (congrFun hu15 _).trans ((up_n (by omega)).trans ff5)
  have ff19 : u14 (k + 3) = .inr (3, [.int (iI (0)), .ref (b + (k + 4))]) := (congrFun hu15 _).trans ((up_n (by omega)).trans ff6)
  have ff20 : u14 (k + 4) = ir ct 32 (s1) := (congrFun hu15 _).trans ((up_n (by omega)).trans ff7)
  have ff21 : u14 kx = .inr (4, [.int (iI (x.1)), .long (lI (x.2.1)), .ref (b + (kx + 1)), .ref (b + (kx + 3))]) := (congrFun hu15 _).trans ((up_n (by omega)).trans ff8)
  have ff22 : u14 (kx + 1) = .inr (3, [.int (iI (0)), .ref (b + (kx + 2))]) := (congrFun hu15 _).trans ((up_n (by omega)).trans ff9)
  have ff23 : u14 (kx + 2) = ir ct 32 (x0) := (congrFun hu15 _).trans ((up_n (by omega)).trans ff10)
  have ff24 : u14 (kx + 3) = .inr (3, [.int (iI (0)), .ref (b + (kx + 4))]) := (congrFun hu15 _).trans ((up_n (by omega)).trans ff11)
  have ff25 : u14 (kx + 4) = ir ct 32 (x1) := (congrFun hu15 _).trans ((up_n (by omega)).trans ff12)
  have fr26 : ∀ j : Nat, (j < k ∨ k + 5 ≤ j) → u14 j = u j := fun j h0 => (congrFun hu15 j).trans ((up_n (by omega)).trans (fr13 j h0))
  refine lv_aload_n hx hb d_R_turnValue_16 rfl (lv_at hl 0 rfl) ?_
  refine w_get (C := "LevelledRing$Value") (T := T_V) (M := 4) hx hb hts hinV hown hK hP (k) (by omega) ff16 rfl 2 (by decide) kk3 (fun _ h => h) rfl d_R_turnValue_17 ?_
  refine lv_aload_n hx hb d_R_turnValue_20 rfl (lv_at hl 1 rfl) ?_
  refine w_get (C := "LevelledRing$Value") (T := T_V) (M := 4) hx hb hts hinV hown hK hP (kx) (by omega) ff21 rfl 2 (by decide) kk3 (fun _ h => h) rfl d_R_turnValue_21 ?_
  refine lv_iload_n hx hb d_R_turnValue_24 rfl (lv_at hl 2 rfl) ?_
  refine lv_aload_n hx hb d_R_turnValue_25 rfl (lv_at hl 1 rfl) ?_
  refine w_get (C := "LevelledRing$Value") (T := T_V) (M := 4) hx hb hts hinV hown hK hP (kx) (by omega) ff21 rfl 0 (by decide) kk0 (fun _ h => h) rfl d_R_turnValue_26 ?_
  refine w_callv (va_runV (As := [.ref (b + (kx + 1)), .int (iI (t)), .int (iI (x.1))]) (rest := []) ⟨hx, hb, hml, hown, hts⟩ (c_setTurned l D ct st ke b N u14 (k + 1) 0 32 s0 (by omega) (by decide) ff17 ff18 x.1 (by omega) (by omega) (by omega) (Or.inl rfl) (kx + 1) 32 x0 (by omega) (by decide) (by omega) (by omega) ff22 ff23 t ht0 ht x.2.2.1 xR0) (cwV 3 hts (gV t_272 t_273 t_274 t_3 t_275) rfl rfl rfl (by decide +kernel) ⟨Nat.le_of_ble_eq_true rfl, Nat.le_of_ble_eq_true rfl⟩) (pre_V E hP hS (k + 1) (by omega) ff17 rfl) rfl rfl hl.1 rfl (lv_room (Nat.le_of_ble_eq_true rfl)) d_R_turnValue_29 ⟨(Nat.le_of_ble_eq_true rfl), (Nat.le_of_ble_eq_true rfl)⟩) hS (fun z27 H locs hz hP hS => ?_)
  obtain ⟨y0, d0, e0, c0⟩ := hz
  have ff29 : z27 k = .inr (4, [.int (iI (x.1)), .long (lI (x.2.1)), .ref (b + (k + 1)), .ref (b + (k + 3))]) := (c0 k (by omega)).trans ff16
  have ff30 : z27 (k + 1) = .inr (3, [.int (iI (0)), .ref (b + (k + 2))]) := (c0 (k + 1) (by omega)).trans ff17
  have ff31 : z27 (k + 3) = .inr (3, [.int (iI (0)), .ref (b + (k + 4))]) := (c0 (k + 3) (by omega)).trans ff19
  have ff32 : z27 (k + 4) = ir ct 32 (s1) := (c0 (k + 4) (by omega)).trans ff20
  have ff33 : z27 kx = .inr (4, [.int (iI (x.1)), .long (lI (x.2.1)), .ref (b + (kx + 1)), .ref (b + (kx + 3))]) := (c0 kx (by omega)).trans ff21
  have ff34 : z27 (kx + 1) = .inr (3, [.int (iI (0)), .ref (b + (kx + 2))]) := (c0 (kx + 1) (by omega)).trans ff22
  have ff35 : z27 (kx + 2) = ir ct 32 (x0) := (c0 (kx + 2) (by omega)).trans ff23
  have ff36 : z27 (kx + 3) = .inr (3, [.int (iI (0)), .ref (b + (kx + 4))]) := (c0 (kx + 3) (by omega)).trans ff24
  have ff37 : z27 (kx + 4) = ir ct 32 (x1) := (c0 (kx + 4) (by omega)).trans ff25
  have fr38 : ∀ j : Nat, (j < k ∨ k + 5 ≤ j) → z27 j = u j := fun j h0 => (c0 j (by omega)).trans (fr26 j h0)
  refine lv_aload_n hx hb d_R_turnValue_32 rfl (lv_at hl 0 rfl) ?_
  refine w_get (C := "LevelledRing$Value") (T := T_V) (M := 4) hx hb hts hinV hown hK hP (k) (by omega) ff29 rfl 3 (by decide) kk4 (fun _ h => h) rfl d_R_turnValue_33 ?_
  refine lv_aload_n hx hb d_R_turnValue_36 rfl (lv_at hl 1 rfl) ?_
  refine w_get (C := "LevelledRing$Value") (T := T_V) (M := 4) hx hb hts hinV hown hK hP (kx) (by omega) ff33 rfl 3 (by decide) kk4 (fun _ h => h) rfl d_R_turnValue_37 ?_
  refine lv_iload_n hx hb d_R_turnValue_40 rfl (lv_at hl 2 rfl) ?_
  refine lv_aload_n hx hb d_R_turnValue_41 rfl (lv_at hl 1 rfl) ?_
  refine w_get (C := "LevelledRing$Value") (T := T_V) (M := 4) hx hb hts hinV hown hK hP (kx) (by omega) ff33 rfl 0 (by decide) kk0 (fun _ h => h) rfl d_R_turnValue_42 ?_
  refine w_callv (va_runV (As := [.ref (b + (kx + 3)), .int (iI (t)), .int (iI (x.1))]) (rest := []) ⟨hx, hb, hml, hown, hts⟩ (c_setTurned l D ct st ke b N z27 (k + 3) 0 32 s1 (by omega) (by decide) ff31 ff32 x.1 (by omega) (by omega) (by omega) (Or.inl rfl) (kx + 3) 32 x1 (by omega) (by decide) (by omega) (by omega) ff36 ff37 t ht0 ht x.2.2.2 xR1) (cwV 3 hts (gV t_272 t_273 t_274 t_3 t_275) rfl rfl rfl (by decide +kernel) ⟨Nat.le_of_ble_eq_true rfl, Nat.le_of_ble_eq_true rfl⟩) (pre_V E hP hS (k + 3) (by omega) ff31 rfl) rfl rfl hl.1 rfl (lv_room (Nat.le_of_ble_eq_true rfl)) d_R_turnValue_45 ⟨(Nat.le_of_ble_eq_true rfl), (Nat.le_of_ble_eq_true rfl)⟩) hS (fun z39 H locs hz hP hS => ?_)
  obtain ⟨y1, d1, e1, c1⟩ := hz
  have ff41 : z39 k = .inr (4, [.int (iI (x.1)), .long (lI (x.2.1)), .ref (b + (k + 1)), .ref (b + (k + 3))]) := (c1 k (by omega)).trans ff29
  have ff42 : z39 (k + 1) = .inr (3, [.int (iI (0)), .ref (b + (k + 2))]) := (c1 (k + 1) (by omega)).trans ff30
  have ff43 : z39 (k + 3) = .inr (3, [.int (iI (0)), .ref (b + (k + 4))]) := (c1 (k + 3) (by omega)).trans ff31
  have ff44 : z39 kx = .inr (4, [.int (iI (x.1)), .long (lI (x.2.1)), .ref (b + (kx + 1)), .ref (b + (kx + 3))]) := (c1 kx (by omega)).trans ff33
  have ff45 : z39 (kx + 1) = .inr (3, [.int (iI (0)), .ref (b + (kx + 2))]) := (c1 (kx + 1) (by omega)).trans ff34
  have ff46 : z39 (kx + 2) = ir ct 32 (x0) := (c1 (kx + 2) (by omega)).trans ff35
  have ff47 : z39 (kx + 3) = .inr (3, [.int (iI (0)), .ref (b + (kx + 4))]) := (c1 (kx + 3) (by omega)).trans ff36
  have ff48 : z39 (kx + 4) = ir ct 32 (x1) := (c1 (kx + 4) (by omega)).trans ff37
  have ff49 : z39 (k + 2) = ir ct 32 (y0) := (c1 (k + 2) (by omega)).trans d0
  have fr50 : ∀ j : Nat, (j < k ∨ k + 5 ≤ j) → z39 j = u j := fun j h0 => (c1 j (by omega)).trans (fr38 j h0)
  exact ret z39 H locs 48 ls ⟨⟨y0, y1, ⟨ff41, ff42, ff49, ff43, d1⟩, e0.mod l3, e1.mod l3⟩, fr50⟩ hP hS d_R_turnValue_48
abbrev rm_c_hide : Room := { frames := 3, cells := 0, slots := 0, locals := 77 }
set_option maxHeartbeats 4000000 in
set_option maxRecDepth 100000 in
/-- hideMessage(value, hidden, t) -/
theorem c_hide (l : Launch) (D : va_G) (ct : Nat → ClassId) (st ke : Nat → Nat) (b N : Nat) (u : Nat → va_E) (hN : 236 ≤ N) (K : Ky) (nn vv : Int) (hO : u 0 = ob b nn vv) (hKS : KS ct b u K) (z1 : Int32) (hd1 : u 1 = dr z1) (k : Nat) (hk44 : 44 ≤ k) (hk : k + 4 < N) (hVS : VS ct b u k) (kx : Nat) (hkx : kx + 1 < N) (hdis : k + 5 ≤ kx ∨ kx + 2 ≤ k) (hkx2 : 2 ≤ kx) (X : Int → Int) (hX : p17 X) (hSX : SV ct b u kx X) (t : Int) : Met l y_R_hideMessage (w_R_hideMessage) rm_c_hide (va_Pc [.ref (b + 0), .ref (b + k), .ref (b + kx), .int (iI (t))] (fun U => ev D ct st ke b U ∧ va_P D vwCl (wl N b u) U.heap)) (va_Qv (fun z : Nat → va_E => VV ct b z k (inV K.1 (iI t) X) ∧ (∃ z2, z 1 = dr z2) ∧ ∀ j : Nat, (j < k ∨ k + 5 ≤ j) → j ≠ 1 → z j = u j) (fun (z : Nat → va_E) t => va_P D vwCl (wl (N) b (z)) t.heap) (AA b)) 0 0 (AA b) := by
  refine M_v (cc := c9_R_hideMessage) (maxL := 4) (by decide) rfl (Nat.le_of_ble_eq_true rfl) ?_
  intro p e s m args below meth c Q ls H locs hx hb hml hown hts hnm E hP hS hl ret
  have hl : lv_has ls 4 [(0, .ref (b + 0)), (1, .ref (b + k)), (2, .ref (b + kx)), (3, .int (iI (t)))] := hl
  have hK := ev_K E
  have kk0 := hts (.fieldLink "LevelledRing" 142 "LevelledRing$Value" "level" "I") (List.mem_cons_of_mem _ t_57)
  have hinV : ∀ w ∈ u_ws "LevelledRing$Value" T_V 4, w ∈ (w_R_hideMessage) := hin_V _
  have kk2 := hts (.constantLong "LevelledRing" 245 33) (List.mem_cons_of_mem _ t_394)
  have kk3 := hts (.fieldLink "LevelledRing" 145 "LevelledRing$Value" "meter" "J") (List.mem_cons_of_mem _ t_59)
  have kk4 := hts (.fieldLink "LevelledRing" 12 "LevelledRing" "drawing" "LLevelledRing$Drawing;") (List.mem_cons_of_mem _ t_173)
  have hinR : ∀ w ∈ u_ws "LevelledRing" T_R 11, w ∈ (w_R_hideMessage) := hin_R _
  have kk6 := hts (.fieldLink "LevelledRing" 66 "LevelledRing" "keys" "LLevelledRing$Keys;") (List.mem_cons_of_mem _ t_174)
  have kk7 := hts (.fieldLink "LevelledRing" 167 "LevelledRing$Value" "c0" "LLevelledRing$Poly;") (List.mem_cons_of_mem _ t_61)
  have kk8 := hts (.fieldLink "LevelledRing" 170 "LevelledRing$Value" "c1" "LLevelledRing$Poly;") (List.mem_cons_of_mem _ t_63)
  have fr0 : ∀ j : Nat, (j < k ∨ k + 5 ≤ j) → (j ≠ 1) → u j = u j := fun _ _ _ => rfl
  have hKS9 := hKS
  obtain ⟨ks0, ⟨ks1, gs, ks2, ks3⟩, ⟨fa, ka1, ka2⟩, ⟨fb, kb1, kb2⟩, kab⟩ := hKS
  obtain ⟨sl, sm, s0, s1, sV⟩ := hVS
  obtain ⟨xa, xg, xb, xc⟩ := hSX
  refine lv_aload_n hx hb d_R_hideMessage_0 rfl (lv_at hl 1 rfl) ?_
  refine lv_iconst (v := iI (3)) hx hb d_R_hideMessage_1 rfl ?_
  refine w_put (C := "LevelledRing$Value") (T := T_V) (M := 4) (ty := .int) (v := .int (iI (3))) hx hb hts hinV ty_V tyok_V nm_V hown hK hP hS (k) (by omega) sV.1 rfl 0 (by decide) kk0 (fun _ h => h) rfl (by decide +kernel) rfl rfl (Nat.le_of_ble_eq_true rfl) d_R_hideMessage_2 (fun H locs hP hS => ?_)
  obtain ⟨u1, hu2, hP⟩ : ∃ zz : Nat → va_E, zz = va_up u k (.inr (4, [.int (iI (3)), .long (lI (sm)), .ref (b + (k + 1)), .ref (b + (k + 3))])) ∧ va_P D vwCl (wl N b zz) H := ⟨_, rfl, hP⟩
  have ff3 : u1 0 = .inr (5, [.ref (b + 1), .ref (b + 21), .ref (b + 2), .ref (b + 4), .int (iI (nn)), .int (iI (vv)), .ref (b + 5), .ref (b + 10), .ref (b + 15), .ref (b + 17), .ref (b + 19)]) := (congrFun hu2 _).trans ((up_n (by omega)).trans hO)
  have ff4 : u1 1 = .inr (0, [.int (z1)]) := (congrFun hu2 _).trans ((up_n (by omega)).trans hd1)
  have ff5 : u1 21 = .inr (2, [.ref (b + 22), .ref (b + 24), .ref (b + 25)]) := (congrFun hu2 _).trans ((up_n (by omega)).trans ks0)
  have ff6 : u1 22 = .inr (3, [.int (iI (0)), .ref (b + 23)]) := (congrFun hu2 _).trans ((up_n (by omega)).trans ks1)
  have ff7 : u1 23 = ir ct 32 (gs) := (congrFun hu2 _).trans ((up_n (by omega)).trans ks2)
  have ff8 : u1 24 = qr ct 4 4 (fa) := (congrFun hu2 _).trans ((up_n (by omega)).trans ka1)
  have ff9 : u1 25 = qr ct 4 4 (fb) := (congrFun hu2 _).trans ((up_n (by omega)).trans kb1)
  have ff10 : u1 k = .inr (4, [.int (iI (3)), .long (lI (sm)), .ref (b + (k + 1)), .ref (b + (k + 3))]) := (congrFun hu2 _).trans up_s
  have ff11 : u1 (k + 1) = .inr (3, [.int (iI (0)), .ref (b + (k + 2))]) := (congrFun hu2 _).trans ((up_n (by omega)).trans sV.2.1)
  have ff12 : u1 (k + 2) = ir ct 32 (s0) := (congrFun hu2 _).trans ((up_n (by omega)).trans sV.2.2.1)
  have ff13 : u1 (k + 3) = .inr (3, [.int (iI (0)), .ref (b + (k + 4))]) := (congrFun hu2 _).trans ((up_n (by omega)).trans sV.2.2.2.1)
  have ff14 : u1 (k + 4) = ir ct 32 (s1) := (congrFun hu2 _).trans ((up_n (by omega)).trans sV.2.2.2.2)
  have ff15 : u1 kx = .inr (3, [.int (iI (1)), .ref (b + (kx + 1))]) := (congrFun hu2 _).trans ((up_n (by omega)).trans xa)
  have ff16 : u1 (kx + 1) = ir ct 8 (xg) := (congrFun hu2 _).trans ((up_n (by omega)).trans xb)
  have fr17 : ∀ j : Nat, (j < k ∨ k + 5 ≤ j) → (j ≠ 1) → u1 j = u j := fun j h0 h1 => (congrFun hu2 j).trans ((up_n (by omega)).trans (fr0 j h0 h1))
  refine lv_aload_n hx hb d_R_hideMessage_5 rfl (lv_at hl 1 rfl) ?_
  refine lv_ldc2 hx hb hown kk2 d_R_hideMessage_6 ?_
  refine x_l (y := lI (33)) (by decide +kernel) ?_
  refine w_put (C := "LevelledRing$Value") (T := T_V) (M := 4) (ty := .long) (v := .long (lI (33))) hx hb hts hinV ty_V tyok_V nm_V hown hK hP hS (k) (by omega) ff10 rfl 1 (by decide) kk3 (fun _ h => h) rfl (by decide +kernel) rfl rfl (Nat.le_of_ble_eq_true rfl) d_R_hideMessage_9 (fun H locs hP hS => ?_)
  obtain ⟨u18, hu19, hP⟩ : ∃ zz : Nat → va_E, zz = va_up u1 k (.inr (4, [.int (iI (3)), .long (lI (33)), .ref (b + (k + 1)), .ref (b + (k + 3))])) ∧ va_P D vwCl (wl N b zz) H := ⟨_, rfl, hP⟩
  have ff20 : u18 0 = .inr (5, [.ref (b + 1), .ref (b + 21), .ref (b + 2), .ref (b + 4), .int (iI (nn)), .int (iI (vv)), .ref (b + 5), .ref (b + 10), .ref (b + 15), .ref (b + 17), .ref (b + 19)]) := (congrFun hu19 _).trans ((up_n (by omega)).trans ff3)
  have ff21 : u18 1 = .inr (0, [.int (z1)]) := (congrFun hu19 _).trans ((up_n (by omega)).trans ff4)
  have ff22 : u18 21 = .inr (2, [.ref (b + 22), .ref (b + 24), .ref (b + 25)]) := (congrFun hu19 _).trans ((up_n (by omega)).trans ff5)
  have ff23 : u18 22 = .inr (3, [.int (iI (0)), .ref (b + 23)]) := (congrFun hu19 _).trans ((up_n (by omega)).trans ff6)
  have ff24 : u18 23 = ir ct 32 (gs) := (congrFun hu19 _).trans ((up_n (by omega)).trans ff7)
  have ff25 : u18 24 = qr ct 4 4 (fa) := (congrFun hu19 _).trans ((up_n (by omega)).trans ff8)
  have ff26 : u18 25 = qr ct 4 4 (fb) := (congrFun hu19 _).trans ((up_n (by omega)).trans ff9)
  have ff27 : u18 k = .inr (4, [.int (iI (3)), .long (lI (33)), .ref (b + (k + 1)), .ref (b + (k + 3))]) := (congrFun hu19 _).trans up_s
  have ff28 : u18 (k + 1) = .inr (3, [.int (iI (0)), .ref (b + (k + 2))]) := (congrFun hu19 _).trans ((up_n (by omega)).trans ff11)
  have ff29 : u18 (k + 2) = ir ct 32 (s0) := (congrFun hu19 _).trans ((up_n (by omega)).trans ff12)
  have ff30 : u18 (k + 3) = .inr (3, [.int (iI (0)), .ref (b + (k + 4))]) := (congrFun hu19 _).trans ((up_n (by omega)).trans ff13)
  have ff31 : u18 (k + 4) = ir ct 32 (s1) := (congrFun hu19 _).trans ((up_n (by omega)).trans ff14)
  have ff32 : u18 kx = .inr (3, [.int (iI (1)), .ref (b + (kx + 1))]) := (congrFun hu19 _).trans ((up_n (by omega)).trans ff15)
  have ff33 : u18 (kx + 1) = ir ct 8 (xg) := (congrFun hu19 _).trans ((up_n (by omega)).trans ff16)
  have fr34 : ∀ j : Nat, (j < k ∨ k + 5 ≤ j) → (j ≠ 1) → u18 j = u j := fun j h0 h1 => (congrFun hu19 j).trans ((up_n (by omega)).trans (fr17 j h0 h1))
  refine lv_aload_n hx hb d_R_hideMessage_12 rfl (lv_at hl 0 rfl) ?_
  refine w_get (C := "LevelledRing") (T := T_R) (M := 11) hx hb hts hinR hown hK hP (0) (by omega) ff20 rfl 0 (by decide) kk4 (fun _ h => h) rfl d_R_hideMessage_13 ?_
  refine lv_iload_n hx hb d_R_hideMessage_16 rfl (lv_at hl 3 rfl) ?_
  refine w_callv (va_runV (As := [.int (iI (t))]) (rest := []) ⟨hx, hb, hml, hown, hts⟩ (c_start l D ct st ke b N u18 1 z1 (iI t) (by omega) ff21) (cwV 1 hts (gV t_73 t_74 t_75 t_2 t_76) rfl rfl rfl (by decide +kernel) ⟨Nat.le_of_ble_eq_true rfl, Nat.le_of_ble_eq_true rfl⟩) (pre_V E hP hS (1) (by omega) ff21 rfl) rfl rfl hl.1 rfl (lv_room (Nat.le_of_ble_eq_true rfl)) d_R_hideMessage_17 ⟨(Nat.le_of_ble_eq_true rfl), (Nat.le_of_ble_eq_true rfl)⟩) hS (fun z35 H locs hz hP hS => ?_)
  obtain ⟨hd3, hd4⟩ := hz
  have ff37 : z35 0 = .inr (5, [.ref (b + 1), .ref (b + 21), .ref (b + 2), .ref (b + 4), .int (iI (nn)), .int (iI (vv)), .ref (b + 5), .ref (b + 10), .ref (b + 15), .ref (b + 17), .ref (b + 19)]) := (hd4 0 (by omega)).trans ff20
  have ff38 : z35 21 = .inr (2, [.ref (b + 22), .ref (b + 24), .ref (b + 25)]) := (hd4 21 (by omega)).trans ff22
  have ff39 : z35 22 = .inr (3, [.int (iI (0)), .ref (b + 23)]) := (hd4 22 (by omega)).trans ff23
  have ff40 : z35 23 = ir ct 32 (gs) := (hd4 23 (by omega)).trans ff24
  have ff41 : z35 24 = qr ct 4 4 (fa) := (hd4 24 (by omega)).trans ff25
  have ff42 : z35 25 = qr ct 4 4 (fb) := (hd4 25 (by omega)).trans ff26
  have ff43 : z35 k = .inr (4, [.int (iI (3)), .long (lI (33)), .ref (b + (k + 1)), .ref (b + (k + 3))]) := (hd4 k (by omega)).trans ff27
  have ff44 : z35 (k + 1) = .inr (3, [.int (iI (0)), .ref (b + (k + 2))]) := (hd4 (k + 1) (by omega)).trans ff28
  have ff45 : z35 (k + 2) = ir ct 32 (s0) := (hd4 (k + 2) (by omega)).trans ff29
  have ff46 : z35 (k + 3) = .inr (3, [.int (iI (0)), .ref (b + (k + 4))]) := (hd4 (k + 3) (by omega)).trans ff30
  have ff47 : z35 (k + 4) = ir ct 32 (s1) := (hd4 (k + 4) (by omega)).trans ff31
  have ff48 : z35 kx = .inr (3, [.int (iI (1)), .ref (b + (kx + 1))]) := (hd4 kx (by omega)).trans ff32
  have ff49 : z35 (kx + 1) = ir ct 8 (xg) := (hd4 (kx + 1) (by omega)).trans ff33
  have fr50 : ∀ j : Nat, (j < k ∨ k + 5 ≤ j) → (j ≠ 1) → z35 j = u j := fun j h0 h1 => (hd4 j (by omega)).trans (fr34 j h0 h1)
  refine lv_aload_n hx hb d_R_hideMessage_20 rfl (lv_at hl 0 rfl) ?_
  refine w_get (C := "LevelledRing") (T := T_R) (M := 11) hx hb hts hinR hown hK hP (0) (by omega) ff37 rfl 1 (by decide) kk6 (fun _ h => h) rfl d_R_hideMessage_21 ?_
  refine lv_aload_n hx hb d_R_hideMessage_24 rfl (lv_at hl 0 rfl) ?_
  refine w_get (C := "LevelledRing") (T := T_R) (M := 11) hx hb hts hinR hown hK hP (0) (by omega) ff37 rfl 0 (by decide) kk4 (fun _ h => h) rfl d_R_hideMessage_25 ?_
  refine lv_aload_n hx hb d_R_hideMessage_28 rfl (lv_at hl 1 rfl) ?_
  refine w_get (C := "LevelledRing$Value") (T := T_V) (M := 4) hx hb hts hinV hown hK hP (k) (by omega) ff43 rfl 2 (by decide) kk7 (fun _ h => h) rfl d_R_hideMessage_29 ?_
  refine lv_aload_n hx hb d_R_hideMessage_32 rfl (lv_at hl 1 rfl) ?_
  refine w_get (C := "LevelledRing$Value") (T := T_V) (M := 4) hx hb hts hinV hown hK hP (k) (by omega) ff43 rfl 3 (by decide) kk8 (fun _ h => h) rfl d_R_hideMessage_33 ?_
  refine w_callv (va_runV (As := [.ref (b + 1), .ref (b + (k + 1)), .ref (b + (k + 3))]) (rest := []) ⟨hx, hb, hml, hown, hts⟩ (c_dhz l D ct st ke b N z35 21 24 25 22 (by omega) ff38 (by omega) gs ff39 ff40 K.1 ks3 1 (by omega) (iI t) hd3 (k + 1) (by omega) s0 ff44 ff45 (k + 3) (by omega) s1 ff46 ff47 (by omega) (by omega) (by omega)) (cwV 3 hts (gV t_395 t_113 t_114 t_5 t_115) rfl rfl rfl (by decide +kernel) ⟨Nat.le_of_ble_eq_true rfl, Nat.le_of_ble_eq_true rfl⟩) (pre_V E hP hS (21) (by omega) ff38 rfl) rfl rfl hl.1 rfl (lv_room (Nat.le_of_ble_eq_true rfl)) d_R_hideMessage_36 ⟨(Nat.le_of_ble_eq_true rfl), (Nat.le_of_ble_eq_true rfl)⟩) hS (fun z51 H locs hz hP hS => ?_)
  obtain ⟨y0, y1, c1, c2, c3, c4, c5, c6⟩ := hz
  have ff53 : z51 0 = .inr (5, [.ref (b + 1), .ref (b + 21), .ref (b + 2), .ref (b + 4), .int (iI (nn)), .int (iI (vv)), .ref (b + 5), .ref (b + 10), .ref (b + 15), .ref (b + 17), .ref (b + 19)]) := (c6 0 (by omega) (by omega) (by omega)).trans ff37
  have ff54 : z51 21 = .inr (2, [.ref (b + 22), .ref (b + 24), .ref (b + 25)]) := (c6 21 (by omega) (by omega) (by omega)).trans ff38
  have ff55 : z51 22 = .inr (3, [.int (iI (0)), .ref (b + 23)]) := (c6 22 (by omega) (by omega) (by omega)).trans ff39
  have ff56 : z51 23 = ir ct 32 (gs) := (c6 23 (by omega) (by omega) (by omega)).trans ff40
  have ff57 : z51 24 = qr ct 4 4 (fa) := (c6 24 (by omega) (by omega) (by omega)).trans ff41
  have ff58 : z51 25 = qr ct 4 4 (fb) := (c6 25 (by omega) (by omega) (by omega)).trans ff42
  have ff59 : z51 k = .inr (4, [.int (iI (3)), .long (lI (33)), .ref (b + (k + 1)), .ref (b + (k + 3))]) := (c6 k (by omega) (by omega) (by omega)).trans ff43
  have ff60 : z51 (k + 1) = .inr (3, [.int (iI (0)), .ref (b + (k + 2))]) := (c6 (k + 1) (by omega) (by omega) (by omega)).trans ff44
  have ff61 : z51 (k + 3) = .inr (3, [.int (iI (0)), .ref (b + (k + 4))]) := (c6 (k + 3) (by omega) (by omega) (by omega)).trans ff46
  have ff62 : z51 kx = .inr (3, [.int (iI (1)), .ref (b + (kx + 1))]) := (c6 kx (by omega) (by omega) (by omega)).trans ff48
  have ff63 : z51 (kx + 1) = ir ct 8 (xg) := (c6 (kx + 1) (by omega) (by omega) (by omega)).trans ff49
  have fr64 : ∀ j : Nat, (j < k ∨ k + 5 ≤ j) → (j ≠ 1) → z51 j = u j := fun j h0 h1 => (c6 j (by omega) (by omega) (by omega)).trans (fr50 j h0 h1)
  refine lv_aload_n hx hb d_R_hideMessage_39 rfl (lv_at hl 1 rfl) ?_
  refine w_get (C := "LevelledRing$Value") (T := T_V) (M := 4) hx hb hts hinV hown hK hP (k) (by omega) ff59 rfl 2 (by decide) kk7 (fun _ h => h) rfl d_R_hideMessage_40 ?_
  refine lv_aload_n hx hb d_R_hideMessage_43 rfl (lv_at hl 2 rfl) ?_
  refine w_callv (va_runV (As := [.ref (b + kx)]) (rest := []) ⟨hx, hb, hml, hown, hts⟩ (c_addSmall l D ct st ke b N z51 (k + 1) 0 y0 (by omega) ff60 c1 kx 8 1 xg (by omega) (by decide) (by decide) (by omega) ff62 ff63 (fun i h0 h1 => by rw [xc i h0 h1]; have := hX i h0 h1; omega) _ c4) (cwV 1 hts (gV t_396 t_397 t_398 t_3 t_399) rfl rfl rfl (by decide +kernel) ⟨Nat.le_of_ble_eq_true rfl, Nat.le_of_ble_eq_true rfl⟩) (pre_V E hP hS (k + 1) (by omega) ff60 rfl) rfl rfl hl.1 rfl (lv_room (Nat.le_of_ble_eq_true rfl)) d_R_hideMessage_44 ⟨(Nat.le_of_ble_eq_true rfl), (Nat.le_of_ble_eq_true rfl)⟩) hS (fun z65 H locs hz hP hS => ?_)
  obtain ⟨y2, d1, d2, d3⟩ := hz
  have ff67 : z65 0 = .inr (5, [.ref (b + 1), .ref (b + 21), .ref (b + 2), .ref (b + 4), .int (iI (nn)), .int (iI (vv)), .ref (b + 5), .ref (b + 10), .ref (b + 15), .ref (b + 17), .ref (b + 19)]) := (d3 0 (by omega)).trans ff53
  have ff68 : z65 21 = .inr (2, [.ref (b + 22), .ref (b + 24), .ref (b + 25)]) := (d3 21 (by omega)).trans ff54
  have ff69 : z65 22 = .inr (3, [.int (iI (0)), .ref (b + 23)]) := (d3 22 (by omega)).trans ff55
  have ff70 : z65 23 = ir ct 32 (gs) := (d3 23 (by omega)).trans ff56
  have ff71 : z65 24 = qr ct 4 4 (fa) := (d3 24 (by omega)).trans ff57
  have ff72 : z65 25 = qr ct 4 4 (fb) := (d3 25 (by omega)).trans ff58
  have ff73 : z65 k = .inr (4, [.int (iI (3)), .long (lI (33)), .ref (b + (k + 1)), .ref (b + (k + 3))]) := (d3 k (by omega)).trans ff59
  have ff74 : z65 (k + 1) = .inr (3, [.int (iI (0)), .ref (b + (k + 2))]) := (d3 (k + 1) (by omega)).trans ff60
  have ff75 : z65 (k + 3) = .inr (3, [.int (iI (0)), .ref (b + (k + 4))]) := (d3 (k + 3) (by omega)).trans ff61
  have ff76 : z65 kx = .inr (3, [.int (iI (1)), .ref (b + (kx + 1))]) := (d3 kx (by omega)).trans ff62
  have ff77 : z65 (kx + 1) = ir ct 8 (xg) := (d3 (kx + 1) (by omega)).trans ff63
  have ff78 : z65 (k + 4) = ir ct 32 (y1) := (d3 (k + 4) (by omega)).trans c2
  have ff79 : z65 1 = .inr (0, [.int (it 40 (iI t))]) := (d3 1 (by omega)).trans c3
  have fr80 : ∀ j : Nat, (j < k ∨ k + 5 ≤ j) → (j ≠ 1) → z65 j = u j := fun j h0 h1 => (d3 j (by omega)).trans (fr64 j h0 h1)
  have hR0 : Rep y2 0 3 (fun i => (17 * sml (it 32 (iI t)) i - nc (uni (iI t)) K.1 i + X i) % lQ 3) := Rep.mod (P := fun i => 17 * sml (it 32 (iI t)) i - nc (uni (iI t)) K.1 i + X i) (d2.cg fun q i _ _ h2 h3 => by rw [xc i h2 h3, Int.neg_one_mul, ← Int.sub_eq_add_neg]; exact cg_r) (by decide)
  exact ret z65 H locs 47 ls ⟨⟨y2, y1, ⟨ff73, ff74, d1, ff75, ff78⟩, hR0, c5⟩, ⟨_, ff79⟩, fr80⟩ hP hS d_R_hideMessage_47
abbrev rm_c_take : Room := { frames := 4, cells := 0, slots := 0, locals := 94 }
set_option maxHeartbeats 4000000 in
set_option maxRecDepth 100000 in
/-- takeOperands(gate) -/
theorem c_take (l : Launch) (D : va_G) (ct : Nat → ClassId) (st ke : Nat → Nat) (b N : Nat) (u : Nat → va_E) (hN : 236 ≤ N) (nn vv : Int) (hO : u 0 = ob b nn vv) (hGR : GR ct b u) (h5 : VS ct b u 5) (h10 : VS ct b u 10) (gp : Nat) (hgp : gp < 24) (pk : Nat) (pa pb pn : Int) (fp : u (44 + 8 * gp) = gt b ke (44 + 8 * gp) pk pa pb pn) (x : Val) (okx : okV x) (hVp : VV ct b u (44 + 8 * gp + 3) x) (gr : Nat) (hgr : gr < 24) (rk : Nat) (ra rb rn : Int) (fr : u (44 + 8 * gr) = gt b ke (44 + 8 * gr) rk ra rb rn) (y : Val) (oky : okV y) (hVr : VV ct b u (44 + 8 * gr + 3) y) (q : Nat) (hq44 : 44 ≤ q) (hq : q < N) (kd : Nat) (t : Int) (f0 : u q = gt b ke q kd (gp : Int) (gr : Int) t) : Met l y_R_takeOperands (w_R_takeOperands) rm_c_take (va_Pc [.ref (b + 0), .ref (b + q)] (fun U => ev D ct st ke b U ∧ va_P D vwCl (wl N b u) U.heap)) (va_Qi (fun (r : Int32) (z : Nat → va_E) => ((∃ p, opn x y = some p ∧ r = iI 1 ∧ VV ct b z 5 p.1 ∧ VV ct b z 10 p.2) ∨ (opn x y = none ∧ r = iI 0 ∧ VS ct b z 5 ∧ VS ct b z 10)) ∧ ∀ j : Nat, (j < 5 ∨ 15 ≤ j) → z j = u j) (fun (z : Nat → va_E) t => va_P D vwCl (wl (N) b (z)) t.heap) (AA b)) 0 0 (AA b) := by
  refine M_z (cc := c9_R_takeOperands) (maxL := 2) (by decide) rfl (Nat.le_of_ble_eq_true rfl) ?_
  intro p e s m args below meth c Q ls H locs hx hb hml hown hts hnm E hP hS hl ret
  have hl : lv_has ls 2 [(0, .ref (b + 0)), (1, .ref (b + q))] := hl
  have hK := ev_K E
  have kk0 := hts (.fieldLink "LevelledRing" 41 "LevelledRing" "left" "LLevelledRing$Value;") (List.mem_cons_of_mem _ t_179)
  have hinR : ∀ w ∈ u_ws "LevelledRing" T_R 11, w ∈ (w_R_takeOperands) := hin_R _
  have kk2 := hts (.fieldLink "LevelledRing" 27 "LevelledRing" "gates" "[LLevelledRing$Gate;") (List.mem_cons_of_mem _ t_176)
  have kk3 := hts (.fieldLink "LevelledRing" 229 "LevelledRing$Gate" "a" "I") (List.mem_cons_of_mem _ t_151)
  have hinG : ∀ w ∈ u_ws "LevelledRing$Gate" T_G 6, w ∈ (w_R_takeOperands) := hin_G _
  have kk5 := hts (.fieldLink "LevelledRing" 139 "LevelledRing$Gate" "value" "LLevelledRing$Value;") (List.mem_cons_of_mem _ t_159)
  have kk6 := hts (.fieldLink "LevelledRing" 45 "LevelledRing" "right" "LLevelledRing$Value;") (List.mem_cons_of_mem _ t_180)
  have kk7 := hts (.fieldLink "LevelledRing" 254 "LevelledRing$Gate" "b" "I") (List.mem_cons_of_mem _ t_153)
  have kk8 := hts (.fieldLink "LevelledRing" 142 "LevelledRing$Value" "level" "I") (List.mem_cons_of_mem _ t_57)
  have hinV : ∀ w ∈ u_ws "LevelledRing$Value" T_V 4, w ∈ (w_R_takeOperands) := hin_V _
  have fr0 : ∀ j : Nat, (j < 5 ∨ 15 ≤ j) → u j = u j := fun _ _ => rfl
  obtain ⟨gf, hgr, hgf⟩ := hGR
  have hVp9 := hVp
  have hVr9 := hVr
  obtain ⟨al, am, a0, a1, aV⟩ := h5
  obtain ⟨cl, cm, c0, c1, cV⟩ := h10
  obtain ⟨pv0, pv1, pvV, pvR0, pvR1⟩ := hVp
  obtain ⟨rv0, rv1, rvV, rvR0, rvR1⟩ := hVr
  have lx0 := okx.1
  have lx3 := okx.2.1
  have ly0 := oky.1
  have ly3 := oky.2.1
  refine lv_aload_n hx hb d_R_takeOperands_0 rfl (lv_at hl 0 rfl) ?_
  refine w_get (C := "LevelledRing") (T := T_R) (M := 11) hx hb hts hinR hown hK hP (0) (by omega) hO rfl 6 (by decide) kk0 (fun _ h => h) rfl d_R_takeOperands_1 ?_
  refine lv_aload_n hx hb d_R_takeOperands_4 rfl (lv_at hl 0 rfl) ?_
  refine w_get (C := "LevelledRing") (T := T_R) (M := 11) hx hb hts hinR hown hK hP (0) (by omega) hO rfl 3 (by decide) kk2 (fun _ h => h) rfl d_R_takeOperands_5 ?_
  refine lv_aload_n hx hb d_R_takeOperands_8 rfl (lv_at hl 1 rfl) ?_
  refine w_get (C := "LevelledRing$Gate") (T := T_G) (M := 6) hx hb hts hinG hown hK hP (q) (by omega) f0 rfl 1 (by decide) kk3 (fun _ h => h) rfl d_R_takeOperands_9 ?_
  refine w_aald (r := b + (44 + 8 * gp)) hx hb hK hP (4) (by omega) 3 hgr rfl (by omega) (by omega) (by decide) (hgf gp hgp) d_R_takeOperands_12 ?_
  refine w_get (C := "LevelledRing$Gate") (T := T_G) (M := 6) hx hb hts hinG hown hK hP (44 + 8 * gp) (by omega) fp rfl 5 (by decide) kk5 (fun _ h => h) rfl d_R_takeOperands_13 ?_
  refine w_callv (va_runV (As := [.ref (b + (44 + 8 * gp + 3))]) (rest := []) ⟨hx, hb, hml, hown, hts⟩ (c_V_copyFrom l D ct st ke b N u 5 al am a0 a1 (by omega) ⟨aV.1, aV.2.1, aV.2.2.1, aV.2.2.2.1, aV.2.2.2.2⟩ (44 + 8 * gp + 3) x.1 x.2.1 pv0 pv1 (by omega) ⟨pvV.1, pvV.2.1, pvV.2.2.1, pvV.2.2.2.1, pvV.2.2.2.2⟩ (by omega)) (cwV 1 hts (gV t_321 t_322 t_323 t_4 t_324) rfl rfl rfl (by decide +kernel) ⟨Nat.le_of_ble_eq_true rfl, Nat.le_of_ble_eq_true rfl⟩) (pre_V E hP hS (5) (by omega) aV.1 rfl) rfl rfl hl.1 rfl (lv_room (Nat.le_of_ble_eq_true rfl)) d_R_takeOperands_16 ⟨(Nat.le_of_ble_eq_true rfl), (Nat.le_of_ble_eq_true rfl)⟩) hS (fun z1 H locs hz hP hS => ?_)
  obtain ⟨d0, d1, dV, da, db, df⟩ := hz
  have ff3 : z1 0 = .inr (5, [.ref (b + 1), .ref (b + 21), .ref (b + 2), .ref (b + 4), .int (iI (nn)), .int (iI (vv)), .ref (b + 5), .ref (b + 10), .ref (b + 15), .ref (b + 17), .ref (b + 19)]) := (df 0 (by omega)).trans hO
  have ff4 : z1 4 = qr ct 3 24 (gf) := (df 4 (by omega)).trans hgr
  have ff5 : z1 q = .inr (1, [.ref (ke kd), .int (iI ((gp : Int))), .int (iI ((gr : Int))), .int (iI (t)), .ref (b + (q + 1)), .ref (b + (q + 3))]) := (df q (by omega)).trans f0
  have ff6 : z1 10 = .inr (4, [.int (iI (cl)), .long (lI (cm)), .ref (b + 11), .ref (b + 13)]) := (df 10 (by omega)).trans cV.1
  have ff7 : z1 11 = .inr (3, [.int (iI (0)), .ref (b + 12)]) := (df 11 (by omega)).trans cV.2.1
  have ff8 : z1 12 = ir ct 32 (c0) := (df 12 (by omega)).trans cV.2.2.1
  have ff9 : z1 13 = .inr (3, [.int (iI (0)), .ref (b + 14)]) := (df 13 (by omega)).trans cV.2.2.2.1
  have ff10 : z1 14 = ir ct 32 (c1) := (df 14 (by omega)).trans cV.2.2.2.2
  have ff11 : z1 (44 + 8 * gp) = .inr (1, [.ref (ke pk), .int (iI (pa)), .int (iI (pb)), .int (iI (pn)), .ref (b + (44 + 8 * gp + 1)), .ref (b + (44 + 8 * gp + 3))]) := (df (44 + 8 * gp) (by omega)).trans fp
  have ff12 : z1 (44 + 8 * gp + 3) = .inr (4, [.int (iI (x.1)), .long (lI (x.2.1)), .ref (b + (44 + 8 * gp + 4)), .ref (b + (44 + 8 * gp + 6))]) := (df (44 + 8 * gp + 3) (by omega)).trans pvV.1
  have ff13 : z1 (44 + 8 * gp + 4) = .inr (3, [.int (iI (0)), .ref (b + (44 + 8 * gp + 5))]) := (df (44 + 8 * gp + 4) (by omega)).trans pvV.2.1
  have ff14 : z1 (44 + 8 * gp + 5) = ir ct 32 (pv0) := (df (44 + 8 * gp + 5) (by omega)).trans pvV.2.2.1
  have ff15 : z1 (44 + 8 * gp + 6) = .inr (3, [.int (iI (0)), .ref (b + (44 + 8 * gp + 7))]) := (df (44 + 8 * gp + 6) (by omega)).trans pvV.2.2.2.1
  have ff16 : z1 (44 + 8 * gp + 7) = ir ct 32 (pv1) := (df (44 + 8 * gp + 7) (by omega)).trans pvV.2.2.2.2
  have ff17 : z1 (44 + 8 * gr) = .inr (1, [.ref (ke rk), .int (iI (ra)), .int (iI (rb)), .int (iI (rn)), .ref (b + (44 + 8 * gr + 1)), .ref (b + (44 + 8 * gr + 3))]) := (df (44 + 8 * gr) (by omega)).trans fr
  have ff18 : z1 (44 + 8 * gr + 3) = .inr (4, [.int (iI (y.1)), .long (lI (y.2.1)), .ref (b + (44 + 8 * gr + 4)), .ref (b + (44 + 8 * gr + 6))]) := (df (44 + 8 * gr + 3) (by omega)).trans rvV.1
  have ff19 : z1 (44 + 8 * gr + 4) = .inr (3, [.int (iI (0)), .ref (b + (44 + 8 * gr + 5))]) := (df (44 + 8 * gr + 4) (by omega)).trans rvV.2.1
  have ff20 : z1 (44 + 8 * gr + 5) = ir ct 32 (rv0) := (df (44 + 8 * gr + 5) (by omega)).trans rvV.2.2.1
  have ff21 : z1 (44 + 8 * gr + 6) = .inr (3, [.int (iI (0)), .ref (b + (44 + 8 * gr + 7))]) := (df (44 + 8 * gr + 6) (by omega)).trans rvV.2.2.2.1
  have ff22 : z1 (44 + 8 * gr + 7) = ir ct 32 (rv1) := (df (44 + 8 * gr + 7) (by omega)).trans rvV.2.2.2.2
  have fr23 : ∀ j : Nat, (j < 5 ∨ 15 ≤ j) → z1 j = u j := fun j h0 => (df j (by omega)).trans (fr0 j h0)
  refine lv_aload_n hx hb d_R_takeOperands_19 rfl (lv_at hl 0 rfl) ?_
  refine w_get (C := "LevelledRing") (T := T_R) (M := 11) hx hb hts hinR hown hK hP (0) (by omega) ff3 rfl 7 (by decide) kk6 (fun _ h => h) rfl d_R_takeOperands_20 ?_
  refine lv_aload_n hx hb d_R_takeOperands_23 rfl (lv_at hl 0 rfl) ?_
  refine w_get (C := "LevelledRing") (T := T_R) (M := 11) hx hb hts hinR hown hK hP (0) (by omega) ff3 rfl 3 (by decide) kk2 (fun _ h => h) rfl d_R_takeOperands_24 ?_
  refine lv_aload_n hx hb d_R_takeOperands_27 rfl (lv_at hl 1 rfl) ?_
  refine w_get (C := "LevelledRing$Gate") (T := T_G) (M := 6) hx hb hts hinG hown hK hP (q) (by omega) ff5 rfl 2 (by decide) kk7 (fun _ h => h) rfl d_R_takeOperands_28 ?_
  refine w_aald (r := b + (44 + 8 * gr)) hx hb hK hP (4) (by omega) 3 ff4 rfl (by omega) (by omega) (by decide) (hgf gr (by omega)) d_R_takeOperands_31 ?_
  refine w_get (C := "LevelledRing$Gate") (T := T_G) (M := 6) hx hb hts hinG hown hK hP (44 + 8 * gr) (by omega) ff17 rfl 5 (by decide) kk5 (fun _ h => h) rfl d_R_takeOperands_32 ?_
  refine w_callv (va_runV (As := [.ref (b + (44 + 8 * gr + 3))]) (rest := []) ⟨hx, hb, hml, hown, hts⟩ (c_V_copyFrom l D ct st ke b N z1 10 cl cm c0 c1 (by omega) ⟨ff6, ff7, ff8, ff9, ff10⟩ (44 + 8 * gr + 3) y.1 y.2.1 rv0 rv1 (by omega) ⟨ff18, ff19, ff20, ff21, ff22⟩ (by omega)) (cwV 1 hts (gV t_321 t_322 t_323 t_4 t_324) rfl rfl rfl (by decide +kernel) ⟨Nat.le_of_ble_eq_true rfl, Nat.le_of_ble_eq_true rfl⟩) (pre_V E hP hS (10) (by omega) ff6 rfl) rfl rfl hl.1 rfl (lv_room (Nat.le_of_ble_eq_true rfl)) d_R_takeOperands_35 ⟨(Nat.le_of_ble_eq_true rfl), (Nat.le_of_ble_eq_true rfl)⟩) hS (fun z24 H locs hz hP hS => ?_)
  obtain ⟨e0, e1, eV, ea, eb, ef⟩ := hz
  have ff26 : z24 0 = .inr (5, [.ref (b + 1), .ref (b + 21), .ref (b + 2), .ref (b + 4), .int (iI (nn)), .int (iI (vv)), .ref (b + 5), .ref (b + 10), .ref (b + 15), .ref (b + 17), .ref (b + 19)]) := (ef 0 (by omega)).trans ff3
  have ff27 : z24 4 = qr ct 3 24 (gf) := (ef 4 (by omega)).trans ff4
  have ff28 : z24 q = .inr (1, [.ref (ke kd), .int (iI ((gp : Int))), .int (iI ((gr : Int))), .int (iI (t)), .ref (b + (q + 1)), .ref (b + (q + 3))]) := (ef q (by omega)).trans ff5
  have ff29 : z24 (44 + 8 * gp) = .inr (1, [.ref (ke pk), .int (iI (pa)), .int (iI (pb)), .int (iI (pn)), .ref (b + (44 + 8 * gp + 1)), .ref (b + (44 + 8 * gp + 3))]) := (ef (44 + 8 * gp) (by omega)).trans ff11
  have ff30 : z24 (44 + 8 * gp + 3) = .inr (4, [.int (iI (x.1)), .long (lI (x.2.1)), .ref (b + (44 + 8 * gp + 4)), .ref (b + (44 + 8 * gp + 6))]) := (ef (44 + 8 * gp + 3) (by omega)).trans ff12
  have ff31 : z24 (44 + 8 * gp + 4) = .inr (3, [.int (iI (0)), .ref (b + (44 + 8 * gp + 5))]) := (ef (44 + 8 * gp + 4) (by omega)).trans ff13
  have ff32 : z24 (44 + 8 * gp + 5) = ir ct 32 (pv0) := (ef (44 + 8 * gp + 5) (by omega)).trans ff14
  have ff33 : z24 (44 + 8 * gp + 6) = .inr (3, [.int (iI (0)), .ref (b + (44 + 8 * gp + 7))]) := (ef (44 + 8 * gp + 6) (by omega)).trans ff15
  have ff34 : z24 (44 + 8 * gp + 7) = ir ct 32 (pv1) := (ef (44 + 8 * gp + 7) (by omega)).trans ff16
  have ff35 : z24 (44 + 8 * gr) = .inr (1, [.ref (ke rk), .int (iI (ra)), .int (iI (rb)), .int (iI (rn)), .ref (b + (44 + 8 * gr + 1)), .ref (b + (44 + 8 * gr + 3))]) := (ef (44 + 8 * gr) (by omega)).trans ff17
  have ff36 : z24 (44 + 8 * gr + 3) = .inr (4, [.int (iI (y.1)), .long (lI (y.2.1)), .ref (b + (44 + 8 * gr + 4)), .ref (b + (44 + 8 * gr + 6))]) := (ef (44 + 8 * gr + 3) (by omega)).trans ff18
  have ff37 : z24 (44 + 8 * gr + 4) = .inr (3, [.int (iI (0)), .ref (b + (44 + 8 * gr + 5))]) := (ef (44 + 8 * gr + 4) (by omega)).trans ff19
  have ff38 : z24 (44 + 8 * gr + 5) = ir ct 32 (rv0) := (ef (44 + 8 * gr + 5) (by omega)).trans ff20
  have ff39 : z24 (44 + 8 * gr + 6) = .inr (3, [.int (iI (0)), .ref (b + (44 + 8 * gr + 7))]) := (ef (44 + 8 * gr + 6) (by omega)).trans ff21
  have ff40 : z24 (44 + 8 * gr + 7) = ir ct 32 (rv1) := (ef (44 + 8 * gr + 7) (by omega)).trans ff22
  have ff41 : z24 5 = .inr (4, [.int (iI (x.1)), .long (lI (x.2.1)), .ref (b + 6), .ref (b + 8)]) := (ef 5 (by omega)).trans dV.1
  have ff42 : z24 6 = .inr (3, [.int (iI (0)), .ref (b + 7)]) := (ef 6 (by omega)).trans dV.2.1
  have ff43 : z24 7 = ir ct 32 (d0) := (ef 7 (by omega)).trans dV.2.2.1
  have ff44 : z24 8 = .inr (3, [.int (iI (0)), .ref (b + 9)]) := (ef 8 (by omega)).trans dV.2.2.2.1
  have ff45 : z24 9 = ir ct 32 (d1) := (ef 9 (by omega)).trans dV.2.2.2.2
  have fr46 : ∀ j : Nat, (j < 5 ∨ 15 ≤ j) → z24 j = u j := fun j h0 => (ef j (by omega)).trans (fr23 j h0)
  have hL : VV ct b z24 5 x := ⟨d0, d1, ⟨ff41, ff42, ff43, ff44, ff45⟩, pvR0.of fun j h0 h1 => da j h0 (by omega), pvR1.of fun j h0 h1 => db j h0 (by omega)⟩
  have hR : VV ct b z24 10 y := ⟨e0, e1, ⟨eV.1, eV.2.1, eV.2.2.1, eV.2.2.2.1, eV.2.2.2.2⟩, rvR0.of fun j h0 h1 => ea j h0 (by omega), rvR1.of fun j h0 h1 => eb j h0 (by omega)⟩
  refine lv_aload_n hx hb d_R_takeOperands_38 rfl (lv_at hl 0 rfl) ?_
  refine w_get (C := "LevelledRing") (T := T_R) (M := 11) hx hb hts hinR hown hK hP (0) (by omega) ff26 rfl 6 (by decide) kk0 (fun _ h => h) rfl d_R_takeOperands_39 ?_
  refine lv_aload_n hx hb d_R_takeOperands_42 rfl (lv_at hl 0 rfl) ?_
  refine w_get (C := "LevelledRing") (T := T_R) (M := 11) hx hb hts hinR hown hK hP (0) (by omega) ff26 rfl 7 (by decide) kk6 (fun _ h => h) rfl d_R_takeOperands_43 ?_
  refine w_get (C := "LevelledRing$Value") (T := T_V) (M := 4) hx hb hts hinV hown hK hP (10) (by omega) eV.1 rfl 0 (by decide) kk8 (fun _ h => h) rfl d_R_takeOperands_46 ?_
  refine w_calli (va_runV (As := [.int (iI (y.1))]) (rest := []) ⟨hx, hb, hml, hown, hts⟩ (c_lowerTo l D ct st ke b N z24 5 (by omega) x okx hL y.1 ly0 ly3) (cwV 1 hts (gV t_326 t_327 t_328 t_4 t_329) rfl rfl rfl (by decide +kernel) ⟨Nat.le_of_ble_eq_true rfl, Nat.le_of_ble_eq_true rfl⟩) (pre_V E hP hS (5) (by omega) ff41 rfl) rfl rfl hl.1 rfl (lv_room (Nat.le_of_ble_eq_true rfl)) d_R_takeOperands_49 ⟨(Nat.le_of_ble_eq_true rfl), (Nat.le_of_ble_eq_true rfl)⟩) hS (fun r z47 H locs hz hP hS => ?_)
  obtain ⟨hz, hzf⟩ := hz
  have ff48 : z47 0 = .inr (5, [.ref (b + 1), .ref (b + 21), .ref (b + 2), .ref (b + 4), .int (iI (nn)), .int (iI (vv)), .ref (b + 5), .ref (b + 10), .ref (b + 15), .ref (b + 17), .ref (b + 19)]) := (hzf 0 (by omega)).trans ff26
  have ff49 : z47 4 = qr ct 3 24 (gf) := (hzf 4 (by omega)).trans ff27
  have ff50 : z47 q = .inr (1, [.ref (ke kd), .int (iI ((gp : Int))), .int (iI ((gr : Int))), .int (iI (t)), .ref (b + (q + 1)), .ref (b + (q + 3))]) := (hzf q (by omega)).trans ff28
  have ff51 : z47 (44 + 8 * gp) = .inr (1, [.ref (ke pk), .int (iI (pa)), .int (iI (pb)), .int (iI (pn)), .ref (b + (44 + 8 * gp + 1)), .ref (b + (44 + 8 * gp + 3))]) := (hzf (44 + 8 * gp) (by omega)).trans ff29
  have ff52 : z47 (44 + 8 * gp + 3) = .inr (4, [.int (iI (x.1)), .long (lI (x.2.1)), .ref (b + (44 + 8 * gp + 4)), .ref (b + (44 + 8 * gp + 6))]) := (hzf (44 + 8 * gp + 3) (by omega)).trans ff30
  have ff53 : z47 (44 + 8 * gp + 4) = .inr (3, [.int (iI (0)), .ref (b + (44 + 8 * gp + 5))]) := (hzf (44 + 8 * gp + 4) (by omega)).trans ff31
  have ff54 : z47 (44 + 8 * gp + 5) = ir ct 32 (pv0) := (hzf (44 + 8 * gp + 5) (by omega)).trans ff32
  have ff55 : z47 (44 + 8 * gp + 6) = .inr (3, [.int (iI (0)), .ref (b + (44 + 8 * gp + 7))]) := (hzf (44 + 8 * gp + 6) (by omega)).trans ff33
  have ff56 : z47 (44 + 8 * gp + 7) = ir ct 32 (pv1) := (hzf (44 + 8 * gp + 7) (by omega)).trans ff34
  have ff57 : z47 (44 + 8 * gr) = .inr (1, [.ref (ke rk), .int (iI (ra)), .int (iI (rb)), .int (iI (rn)), .ref (b + (44 + 8 * gr + 1)), .ref (b + (44 + 8 * gr + 3))]) := (hzf (44 + 8 * gr) (by omega)).trans ff35
  have ff58 : z47 (44 + 8 * gr + 3) = .inr (4, [.int (iI (y.1)), .long (lI (y.2.1)), .ref (b + (44 + 8 * gr + 4)), .ref (b + (44 + 8 * gr + 6))]) := (hzf (44 + 8 * gr + 3) (by omega)).trans ff36
  have ff59 : z47 (44 + 8 * gr + 4) = .inr (3, [.int (iI (0)), .ref (b + (44 + 8 * gr + 5))]) := (hzf (44 + 8 * gr + 4) (by omega)).trans ff37
  have ff60 : z47 (44 + 8 * gr + 5) = ir ct 32 (rv0) := (hzf (44 + 8 * gr + 5) (by omega)).trans ff38
  have ff61 : z47 (44 + 8 * gr + 6) = .inr (3, [.int (iI (0)), .ref (b + (44 + 8 * gr + 7))]) := (hzf (44 + 8 * gr + 6) (by omega)).trans ff39
  have ff62 : z47 (44 + 8 * gr + 7) = ir ct 32 (rv1) := (hzf (44 + 8 * gr + 7) (by omega)).trans ff40
  have ff63 : z47 10 = .inr (4, [.int (iI (y.1)), .long (lI (y.2.1)), .ref (b + 11), .ref (b + 13)]) := (hzf 10 (by omega)).trans eV.1
  have ff64 : z47 11 = .inr (3, [.int (iI (0)), .ref (b + 12)]) := (hzf 11 (by omega)).trans eV.2.1
  have ff65 : z47 12 = ir ct 32 (e0) := (hzf 12 (by omega)).trans eV.2.2.1
  have ff66 : z47 13 = .inr (3, [.int (iI (0)), .ref (b + 14)]) := (hzf 13 (by omega)).trans eV.2.2.2.1
  have ff67 : z47 14 = ir ct 32 (e1) := (hzf 14 (by omega)).trans eV.2.2.2.2
  have fr68 : ∀ j : Nat, (j < 5 ∨ 15 ≤ j) → z47 j = u j := fun j h0 => (hzf j (by omega)).trans (fr46 j h0)
  have hR := hR.of (z := z47) fun j h0 h1 => hzf j (by omega)
  rcases hz with ⟨x1, w1, w2, w3⟩ | ⟨w1, w2, w3⟩
  · subst w2
    refine x_if_eq (tgt := 76) hx hb ⟨by omega, by omega⟩ d_R_takeOperands_52 (by decide) (fun hc => by exfalso; omega) (fun hc => ?_)
    have hw3 := w3
    obtain ⟨okx1, lx1⟩ := lowT_ok _ okx w1
    have lz0 := okx1.1
    have lz3 := okx1.2.1
    obtain ⟨m0, m1, mV, mR0, mR1⟩ := w3
    refine lv_aload_n hx hb d_R_takeOperands_55 rfl (lv_at hl 0 rfl) ?_
    refine w_get (C := "LevelledRing") (T := T_R) (M := 11) hx hb hts hinR hown hK hP (0) (by omega) ff48 rfl 7 (by decide) kk6 (fun _ h => h) rfl d_R_takeOperands_56 ?_
    refine lv_aload_n hx hb d_R_takeOperands_59 rfl (lv_at hl 0 rfl) ?_
    refine w_get (C := "LevelledRing") (T := T_R) (M := 11) hx hb hts hinR hown hK hP (0) (by omega) ff48 rfl 6 (by decide) kk0 (fun _ h => h) rfl d_R_takeOperands_60 ?_
    refine w_get (C := "LevelledRing$Value") (T := T_V) (M := 4) hx hb hts hinV hown hK hP (5) (by omega) mV.1 rfl 0 (by decide) kk8 (fun _ h => h) rfl d_R_takeOperands_63 ?_
    refine w_calli (va_runV (As := [.int (iI (x1.1))]) (rest := []) ⟨hx, hb, hml, hown, hts⟩ (c_lowerTo l D ct st ke b N z47 10 (by omega) y oky hR x1.1 lz0 lz3) (cwV 1 hts (gV t_326 t_327 t_328 t_4 t_329) rfl rfl rfl (by decide +kernel) ⟨Nat.le_of_ble_eq_true rfl, Nat.le_of_ble_eq_true rfl⟩) (pre_V E hP hS (10) (by omega) ff63 rfl) rfl rfl hl.1 rfl (lv_room (Nat.le_of_ble_eq_true rfl)) d_R_takeOperands_66 ⟨(Nat.le_of_ble_eq_true rfl), (Nat.le_of_ble_eq_true rfl)⟩) hS (fun r z69 H locs hz hP hS => ?_)
    obtain ⟨hz, hzg⟩ := hz
    have ff70 : z69 0 = .inr (5, [.ref (b + 1), .ref (b + 21), .ref (b + 2), .ref (b + 4), .int (iI (nn)), .int (iI (vv)), .ref (b + 5), .ref (b + 10), .ref (b + 15), .ref (b + 17), .ref (b + 19)]) := (hzg 0 (by omega)).trans ff48
    have ff71 : z69 4 = qr ct 3 24 (gf) := (hzg 4 (by omega)).trans ff49
    have ff72 : z69 q = .inr (1, [.ref (ke kd), .int (iI ((gp : Int))), .int (iI ((gr : Int))), .int (iI (t)), .ref (b + (q + 1)), .ref (b + (q + 3))]) := (hzg q (by omega)).trans ff50
    have ff73 : z69 (44 + 8 * gp) = .inr (1, [.ref (ke pk), .int (iI (pa)), .int (iI (pb)), .int (iI (pn)), .ref (b + (44 + 8 * gp + 1)), .ref (b + (44 + 8 * gp + 3))]) := (hzg (44 + 8 * gp) (by omega)).trans ff51
    have ff74 : z69 (44 + 8 * gp + 3) = .inr (4, [.int (iI (x.1)), .long (lI (x.2.1)), .ref (b + (44 + 8 * gp + 4)), .ref (b + (44 + 8 * gp + 6))]) := (hzg (44 + 8 * gp + 3) (by omega)).trans ff52
    have ff75 : z69 (44 + 8 * gp + 4) = .inr (3, [.int (iI (0)), .ref (b + (44 + 8 * gp + 5))]) := (hzg (44 + 8 * gp + 4) (by omega)).trans ff53
    have ff76 : z69 (44 + 8 * gp + 5) = ir ct 32 (pv0) := (hzg (44 + 8 * gp + 5) (by omega)).trans ff54
    have ff77 : z69 (44 + 8 * gp + 6) = .inr (3, [.int (iI (0)), .ref (b + (44 + 8 * gp + 7))]) := (hzg (44 + 8 * gp + 6) (by omega)).trans ff55
    have ff78 : z69 (44 + 8 * gp + 7) = ir ct 32 (pv1) := (hzg (44 + 8 * gp + 7) (by omega)).trans ff56
    have ff79 : z69 (44 + 8 * gr) = .inr (1, [.ref (ke rk), .int (iI (ra)), .int (iI (rb)), .int (iI (rn)), .ref (b + (44 + 8 * gr + 1)), .ref (b + (44 + 8 * gr + 3))]) := (hzg (44 + 8 * gr) (by omega)).trans ff57
    have ff80 : z69 (44 + 8 * gr + 3) = .inr (4, [.int (iI (y.1)), .long (lI (y.2.1)), .ref (b + (44 + 8 * gr + 4)), .ref (b + (44 + 8 * gr + 6))]) := (hzg (44 + 8 * gr + 3) (by omega)).trans ff58
    have ff81 : z69 (44 + 8 * gr + 4) = .inr (3, [.int (iI (0)), .ref (b + (44 + 8 * gr + 5))]) := (hzg (44 + 8 * gr + 4) (by omega)).trans ff59
    have ff82 : z69 (44 + 8 * gr + 5) = ir ct 32 (rv0) := (hzg (44 + 8 * gr + 5) (by omega)).trans ff60
    have ff83 : z69 (44 + 8 * gr + 6) = .inr (3, [.int (iI (0)), .ref (b + (44 + 8 * gr + 7))]) := (hzg (44 + 8 * gr + 6) (by omega)).trans ff61
    have ff84 : z69 (44 + 8 * gr + 7) = ir ct 32 (rv1) := (hzg (44 + 8 * gr + 7) (by omega)).trans ff62
    have ff85 : z69 5 = .inr (4, [.int (iI (x1.1)), .long (lI (x1.2.1)), .ref (b + 6), .ref (b + 8)]) := (hzg 5 (by omega)).trans mV.1
    have ff86 : z69 6 = .inr (3, [.int (iI (0)), .ref (b + 7)]) := (hzg 6 (by omega)).trans mV.2.1
    have ff87 : z69 7 = ir ct 32 (m0) := (hzg 7 (by omega)).trans mV.2.2.1
    have ff88 : z69 8 = .inr (3, [.int (iI (0)), .ref (b + 9)]) := (hzg 8 (by omega)).trans mV.2.2.2.1
    have ff89 : z69 9 = ir ct 32 (m1) := (hzg 9 (by omega)).trans mV.2.2.2.2
    have fr90 : ∀ j : Nat, (j < 5 ∨ 15 ≤ j) → z69 j = u j := fun j h0 => (hzg j (by omega)).trans (fr68 j h0)
    have hw3 := hw3.of (z := z69) fun j h0 h1 => hzg j (by omega)
    rcases hz with ⟨y1, v1, v2, v3⟩ | ⟨v1, v2, v3⟩
    · subst v2
      refine x_if_eq (tgt := 76) hx hb ⟨by omega, by omega⟩ d_R_takeOperands_69 (by decide) (fun hc => by exfalso; omega) (fun hc => ?_)
      refine lv_iconst (v := iI (1)) hx hb d_R_takeOperands_72 rfl ?_
      refine lv_goto (tgt := 77) hx hb d_R_takeOperands_73 (by decide) ?_
      exact ret 1 z69 H locs 77 ls (Or.inr rfl) ⟨Or.inl ⟨(x1, y1), by unfold opn; rw [w1]; show (lowT _ y).bind _ = _; rw [v1]; rfl, rfl, hw3, v3⟩, fr90⟩ hP hS d_R_takeOperands_77
    · subst v2
      refine x_if_eq (tgt := 76) hx hb ⟨by omega, by omega⟩ d_R_takeOperands_69 (by decide) (fun hc => ?_) (fun hc => by exfalso; omega)
      refine lv_iconst (v := iI (0)) hx hb d_R_takeOperands_76 rfl ?_
      exact ret 0 z69 H locs 77 ls (Or.inl rfl) ⟨Or.inr ⟨by unfold opn; rw [w1]; show (lowT _ y).bind _ = _; rw [v1]; rfl, rfl, hw3.VS, v3⟩, fr90⟩ hP hS d_R_takeOperands_77
  · subst w2
    refine x_if_eq (tgt := 76) hx hb ⟨by omega, by omega⟩ d_R_takeOperands_52 (by decide) (fun hc => ?_) (fun hc => by exfalso; omega)
    refine lv_iconst (v := iI (0)) hx hb d_R_takeOperands_76 rfl ?_
    exact ret 0 z47 H locs 77 ls (Or.inl rfl) ⟨Or.inr ⟨by unfold opn; rw [w1]; rfl, rfl, w3, hR.VS⟩, fr68⟩ hP hS d_R_takeOperands_77
