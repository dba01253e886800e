abbrev rm_c_K_init : Room := { frames := 3, cells := 22, slots := 348, locals := 77 }
set_option maxHeartbeats 4000000 in
set_option maxRecDepth 100000 in
/-- Keys(drawing) -/
theorem c_K_init (l : Launch) (D : va_G) (ct : Nat → ClassId) (st ke : Nat → Nat) (b : Nat) (u : Nat → va_E) (z0 : Int32) (f0 : u 21 = .inr (2, [.null, .null, .null])) (fd : u 1 = dr z0) : Met l y_K_init (w_K_init) rm_c_K_init (va_Pc [.ref (b + 21), .ref (b + 1)] (fun U => ev D ct st ke b U ∧ U.heap.size = b + 22 ∧ va_P D vwCl (wl 22 b u) U.heap)) (va_Qv (fun z : Nat → va_E => KS ct b z (kyO z0) ∧ (∃ z1, z 1 = dr z1) ∧ ∀ j : Nat, j ≠ 1 → j < 21 → z j = u j) (fun (z : Nat → va_E) t => va_P D vwCl (wl (44) b (z)) t.heap) (AA b)) 22 348 (AA b) := by
  refine M_c (cc := c9_K_init) (maxL := 4) (by decide) rfl (Nat.le_of_ble_eq_true rfl) ?_
  intro p e s m args below meth c Q ls H locs hx hb hml hown hts hnm E hsz hP hS hl ret
  have hl : lv_has ls 4 [(0, .ref (b + 21)), (1, .ref (b + 1))] := hl
  have hK := ev_K E
  have kk0 := hts (.methodLink "LevelledRing$Keys" 3 objectInit) (List.mem_cons_of_mem _ t_82)
  have kk1 := hts (.instanceMethod objectInit) (List.mem_cons_of_mem _ t_19)
  have kk2 := hts (.code objectInit ⟨#[0xb1]⟩ 1 none) (List.mem_cons_of_mem _ t_20)
  have kk3 := hts (.classLink "LevelledRing$Keys" 9 "LevelledRing$Poly") (List.mem_cons_of_mem _ t_83)
  have kk4 := hts (.instantiable "LevelledRing$Poly" 2) (List.mem_cons_of_mem _ t_32)
  have kk5 := hts (.initialized "LevelledRing$Poly") (List.mem_cons_of_mem _ t_3)
  have hinP : ∀ w ∈ u_ws "LevelledRing$Poly" T_P 2, w ∈ (w_K_init) := hin_P _
  have kk7 := hts (.instanceMethod y_P_init) (List.mem_cons_of_mem _ t_34)
  have kk8 := hts (.methodLink "LevelledRing$Keys" 11 y_P_init) (List.mem_cons_of_mem _ t_84)
  have kk9 := hts (.fieldLink "LevelledRing$Keys" 14 "LevelledRing$Keys" "secret" "LLevelledRing$Poly;") (List.mem_cons_of_mem _ t_124)
  have hinK : ∀ w ∈ u_ws "LevelledRing$Keys" T_K 3, w ∈ (w_K_init) := hin_K _
  have kk11 := hts (.fieldLink "LevelledRing$Keys" 20 "LevelledRing$Keys" "a" "[LLevelledRing$Poly;") (List.mem_cons_of_mem _ t_126)
  have kk12 := hts (.fieldLink "LevelledRing$Keys" 24 "LevelledRing$Keys" "b" "[LLevelledRing$Poly;") (List.mem_cons_of_mem _ t_128)
  have fr0 : ∀ j : Nat, (j ≠ 1) → (j < 21) → u j = u j := fun _ _ _ => rfl
  refine lv_aload_n hx hb d_K_init_0 rfl (lv_at hl 0 rfl) ?_
  refine W.objInit hx hb hown kk0 kk1 kk2 rfl (by rw [hml]; exact hl.1) rfl d_K_init_1 (Nat.le_of_ble_eq_true rfl) (Nat.le_of_ble_eq_true rfl) ?_
  refine W.eq (g2 := F0 m 4 ls []) rfl ?_
  refine lv_aload_n hx hb d_K_init_4 rfl (lv_at hl 0 rfl) ?_
  refine w_new (C := "LevelledRing$Poly") (T := T_P) (M := 2) (ci := 3) (fs := [.int (iI (0)), .null]) hx hb hts hinP ty_P tyok_P hown kk3 kk4 kk5 hK hP hS (ev_b E) (by omega) rfl (fun j hj => by rcases (show j = 0 ∨ j = 1 by omega) with rfl | rfl <;> rfl) (Nat.le_of_ble_eq_true rfl) (Nat.le_of_ble_eq_true rfl) d_K_init_5 (fun H hP hS => ?_)
  obtain ⟨u1, hu2, hP⟩ : ∃ zz : Nat → va_E, zz = va_up u 22 (.inr (3, [.int (iI (0)), .null])) ∧ va_P D vwCl (wl 23 b zz) H := ⟨_, rfl, hP⟩
  have ff3 : u1 21 = .inr (2, [.null, .null, .null]) := (congrFun hu2 _).trans ((up_n (by omega)).trans f0)
  have ff4 : u1 1 = .inr (0, [.int (z0)]) := (congrFun hu2 _).trans ((up_n (by omega)).trans fd)
  have ff5 : u1 22 = .inr (3, [.int (iI (0)), .null]) := (congrFun hu2 _).trans up_s
  have fr6 : ∀ j : Nat, (j ≠ 1) → (j < 21) → u1 j = u j := fun j h0 h1 => (congrFun hu2 j).trans ((up_n (by omega)).trans (fr0 j h0 h1))
  refine lv_dup hx hb d_K_init_8 rfl ?_
  refine lv_iconst (v := iI (0)) hx hb d_K_init_9 rfl ?_
  refine w_sz hP (by omega) (by omega) (fun hHs => ?_)
  refine w_callv (va_runI (As := [.int (iI (0))]) (rest := [.ref (b + 22), .ref (b + 21)]) ⟨hx, hb, hml, hown, hts⟩ (c_P_init l D ct st ke b u1 (22) 32 0 (Or.inr ⟨rfl, rfl⟩) ff5) (cwI 1 hts (gC t_35) rfl rfl rfl kk5 kk8 kk7 rfl (by decide +kernel) ⟨Nat.le_of_ble_eq_true rfl, Nat.le_of_ble_eq_true rfl⟩) (pre_C E hP hS hHs) rfl rfl hl.1 rfl (lv_room (Nat.le_of_ble_eq_true rfl)) d_K_init_10 ⟨(Nat.le_of_ble_eq_true rfl), (Nat.le_of_ble_eq_true rfl)⟩) hS (fun z7 H locs hz hP hS => ?_)
  obtain ⟨hq9, hq10, hzf11⟩ := hz
  have ff12 : z7 21 = .inr (2, [.null, .null, .null]) := (hzf11 21 (by omega) (by omega)).trans ff3
  have ff13 : z7 1 = .inr (0, [.int (z0)]) := (hzf11 1 (by omega) (by omega)).trans ff4
  have fr14 : ∀ j : Nat, (j ≠ 1) → (j < 21) → z7 j = u j := fun j h0 h1 => (hzf11 j (by omega) (by omega)).trans (fr6 j h0 h1)
  refine w_putF (C := "LevelledRing$Keys") (T := T_K) (M := 3) (ty := (.object "LevelledRing$Poly")) (v := .ref (b + 22)) hx hb hts hinK ty_K tyok_K nm_K hown hK hP hS (21) (by omega) ff12 rfl 0 (by decide) kk9 (fun _ h => h) rfl hnm rfl (by decide +kernel) rfl rfl (Nat.le_of_ble_eq_true rfl) d_K_init_13 (fun H locs hP hS => ?_)
  obtain ⟨u15, hu16, hP⟩ : ∃ zz : Nat → va_E, zz = va_up z7 21 (.inr (2, [.ref (b + 22), .null, .null])) ∧ va_P D vwCl (wl 24 b zz) H := ⟨_, rfl, hP⟩
  have ff17 : u15 21 = .inr (2, [.ref (b + 22), .null, .null]) := (congrFun hu16 _).trans up_s
  have ff18 : u15 1 = .inr (0, [.int (z0)]) := (congrFun hu16 _).trans ((up_n (by omega)).trans ff13)
  have ff19 : u15 22 = .inr (3, [.int (iI (0)), .ref (b + 23)]) := (congrFun hu16 _).trans ((up_n (by omega)).trans hq9)
  have ff20 : u15 23 = ir ct 32 (fun _ => 0) := (congrFun hu16 _).trans ((up_n (by omega)).trans hq10)
  have fr21 : ∀ j : Nat, (j ≠ 1) → (j < 21) → u15 j = u j := fun j h0 h1 => (congrFun hu16 j).trans ((up_n (by omega)).trans (fr14 j h0 h1))
  refine lv_aload_n hx hb d_K_init_16 rfl (lv_at hl 0 rfl) ?_
  refine lv_iconst (v := iI (4)) hx hb d_K_init_17 rfl ?_
  refine w_newq (n := 4) hx hb hown kk3 (ev_AP E) 4 rfl hK hP hS (ev_b E) (by omega) (by decide) (Nat.le_of_ble_eq_true rfl) (Nat.le_of_ble_eq_true rfl) d_K_init_18 (fun H hP hS => ?_)
  obtain ⟨u22, hu23, hP⟩ : ∃ zz : Nat → va_E, zz = va_up u15 24 (qr ct 4 4 (fun _ => none)) ∧ va_P D vwCl (wl 25 b zz) H := ⟨_, rfl, hP⟩
  have ff24 : u22 21 = .inr (2, [.ref (b + 22), .null, .null]) := (congrFun hu23 _).trans ((up_n (by omega)).trans ff17)
  have ff25 : u22 1 = .inr (0, [.int (z0)]) := (congrFun hu23 _).trans ((up_n (by omega)).trans ff18)
  have ff26 : u22 22 = .inr (3, [.int (iI (0)), .ref (b + 23)]) := (congrFun hu23 _).trans ((up_n (by omega)).trans ff19)
  have ff27 : u22 23 = ir ct 32 (fun _ => 0) := (congrFun hu23 _).trans ((up_n (by omega)).trans ff20)
  have ff28 : u22 24 = qr ct 4 4 (fun _ => none) := (congrFun hu23 _).trans up_s
  have fr29 : ∀ j : Nat, (j ≠ 1) → (j < 21) → u22 j = u j := fun j h0 h1 => (congrFun hu23 j).trans ((up_n (by omega)).trans (fr21 j h0 h1))
  refine w_putF (C := "LevelledRing$Keys") (T := T_K) (M := 3) (ty := (.array (.object "LevelledRing$Poly"))) (v := .ref (b + 24)) hx hb hts hinK ty_K tyok_K nm_K hown hK hP hS (21) (by omega) ff24 rfl 1 (by decide) kk11 (fun _ h => h) rfl hnm rfl (by decide +kernel) rfl rfl (Nat.le_of_ble_eq_true rfl) d_K_init_21 (fun H locs hP hS => ?_)
  obtain ⟨u30, hu31, hP⟩ : ∃ zz : Nat → va_E, zz = va_up u22 21 (.inr (2, [.ref (b + 22), .ref (b + 24), .null])) ∧ va_P D vwCl (wl 25 b zz) H := ⟨_, rfl, hP⟩
  have ff32 : u30 21 = .inr (2, [.ref (b + 22), .ref (b + 24), .null]) := (congrFun hu31 _).trans up_s
  have ff33 : u30 1 = .inr (0, [.int (z0)]) := (congrFun hu31 _).trans ((up_n (by omega)).trans ff25)
  have ff34 : u30 22 = .inr (3, [.int (iI (0)), .ref (b + 23)]) := (congrFun hu31 _).trans ((up_n (by omega)).trans ff26)
  have ff35 : u30 23 = ir ct 32 (fun _ => 0) := (congrFun hu31 _).trans ((up_n (by omega)).trans ff27)
  have ff36 : u30 24 = qr ct 4 4 (fun _ => none) := (congrFun hu31 _).trans ((up_n (by omega)).trans ff28)
  have fr37 : ∀ j : Nat, (j ≠ 1) → (j < 21) → u30 j = u j := fun j h0 h1 => (congrFun hu31 j).trans ((up_n (by omega)).trans (fr29 j h0 h1))
  refine lv_aload_n hx hb d_K_init_24 rfl (lv_at hl 0 rfl) ?_
  refine lv_iconst (v := iI (4)) hx hb d_K_init_25 rfl ?_
  refine w_newq (n := 4) hx hb hown kk3 (ev_AP E) 4 rfl hK hP hS (ev_b E) (by omega) (by decide) (Nat.le_of_ble_eq_true rfl) (Nat.le_of_ble_eq_true rfl) d_K_init_26 (fun H hP hS => ?_)
  obtain ⟨u38, hu39, hP⟩ : ∃ zz : Nat → va_E, zz = va_up u30 25 (qr ct 4 4 (fun _ => none)) ∧ va_P D vwCl (wl 26 b zz) H := ⟨_, rfl, hP⟩
  have ff40 : u38 21 = .inr (2, [.ref (b + 22), .ref (b + 24), .null]) := (congrFun hu39 _).trans ((up_n (by omega)).trans ff32)
  have ff41 : u38 1 = .inr (0, [.int (z0)]) := (congrFun hu39 _).trans ((up_n (by omega)).trans ff33)
  have ff42 : u38 22 = .inr (3, [.int (iI (0)), .ref (b + 23)]) := (congrFun hu39 _).trans ((up_n (by omega)).trans ff34)
  have ff43 : u38 23 = ir ct 32 (fun _ => 0) := (congrFun hu39 _).trans ((up_n (by omega)).trans ff35)
  have ff44 : u38 24 = qr ct 4 4 (fun _ => none) := (congrFun hu39 _).trans ((up_n (by omega)).trans ff36)
  have ff45 : u38 25 = qr ct 4 4 (fun _ => none) := (congrFun hu39 _).trans up_s
  have fr46 : ∀ j : Nat, (j ≠ 1) → (j < 21) → u38 j = u j := fun j h0 h1 => (congrFun hu39 j).trans ((up_n (by omega)).trans (fr37 j h0 h1))
  refine w_putF (C := "LevelledRing$Keys") (T := T_K) (M := 3) (ty := (.array (.object "LevelledRing$Poly"))) (v := .ref (b + 25)) hx hb hts hinK ty_K tyok_K nm_K hown hK hP hS (21) (by omega) ff40 rfl 2 (by decide) kk12 (fun _ h => h) rfl hnm rfl (by decide +kernel) rfl rfl (Nat.le_of_ble_eq_true rfl) d_K_init_29 (fun H locs hP hS => ?_)
  obtain ⟨u47, hu48, hP⟩ : ∃ zz : Nat → va_E, zz = va_up u38 21 (.inr (2, [.ref (b + 22), .ref (b + 24), .ref (b + 25)])) ∧ va_P D vwCl (wl 26 b zz) H := ⟨_, rfl, hP⟩
  have ff49 : u47 21 = .inr (2, [.ref (b + 22), .ref (b + 24), .ref (b + 25)]) := (congrFun hu48 _).trans up_s
  have ff50 : u47 1 = .inr (0, [.int (z0)]) := (congrFun hu48 _).trans ((up_n (by omega)).trans ff41)
  have ff51 : u47 22 = .inr (3, [.int (iI (0)), .ref (b + 23)]) := (congrFun hu48 _).trans ((up_n (by omega)).trans ff42)
  have ff52 : u47 23 = ir ct 32 (fun _ => 0) := (congrFun hu48 _).trans ((up_n (by omega)).trans ff43)
  have ff53 : u47 24 = qr ct 4 4 (fun _ => none) := (congrFun hu48 _).trans ((up_n (by omega)).trans ff44)
  have ff54 : u47 25 = qr ct 4 4 (fun _ => none) := (congrFun hu48 _).trans ((up_n (by omega)).trans ff45)
  have fr55 : ∀ j : Nat, (j ≠ 1) → (j < 21) → u47 j = u j := fun j h0 h1 => (congrFun hu48 j).trans ((up_n (by omega)).trans (fr46 j h0 h1))
  refine lv_aload_n hx hb d_K_init_32 rfl (lv_at hl 0 rfl) ?_
  refine w_get (C := "LevelledRing$Keys") (T := T_K) (M := 3) hx hb hts hinK hown hK hP (21) (by omega) ff49 rfl 0 (by decide) kk9 (fun _ h => h) rfl d_K_init_33 ?_
  refine lv_aload_n hx hb d_K_init_36 rfl (lv_at hl 1 rfl) ?_
  refine lv_iconst (v := iI (1)) hx hb d_K_init_37 rfl ?_
  refine w_callv (va_runV (As := [.ref (b + 1), .int (iI (1))]) (rest := []) ⟨hx, hb, hml, hown, hts⟩ (c_drawSmall l D ct st ke b 26 u47 22 0 (fun _ => 0) (by decide) ff51 ff52 1 z0 (by decide) ff50 1 (Or.inl rfl)) (cwV 2 hts (gV t_86 t_87 t_88 t_3 t_89) rfl rfl rfl (by decide +kernel) ⟨Nat.le_of_ble_eq_true rfl, Nat.le_of_ble_eq_true rfl⟩) (pre_V E hP hS (22) (by omega) ff51 rfl) rfl rfl hl.1 rfl (lv_room (Nat.le_of_ble_eq_true rfl)) d_K_init_38 ⟨(Nat.le_of_ble_eq_true rfl), (Nat.le_of_ble_eq_true rfl)⟩) hS (fun z56 H locs hz hP hS => ?_)
  obtain ⟨gs, a1, a2, a3, a4⟩ := hz
  have ff58 : z56 21 = .inr (2, [.ref (b + 22), .ref (b + 24), .ref (b + 25)]) := (a4 21 (by omega) (by omega)).trans ff49
  have ff59 : z56 22 = .inr (3, [.int (iI (0)), .ref (b + 23)]) := (a4 22 (by omega) (by omega)).trans ff51
  have ff60 : z56 24 = qr ct 4 4 (fun _ => none) := (a4 24 (by omega) (by omega)).trans ff53
  have ff61 : z56 25 = qr ct 4 4 (fun _ => none) := (a4 25 (by omega) (by omega)).trans ff54
  have fr62 : ∀ j : Nat, (j ≠ 1) → (j < 21) → z56 j = u j := fun j h0 h1 => (a4 j (by omega) (by omega)).trans (fr55 j h0 h1)
  have hS3 : Rep gs 0 3 (sml z0) := a3.cg fun k i _ _ _ _ => by rw [Int.one_mul]; exact cg_r
  refine w_new (C := "LevelledRing$Poly") (T := T_P) (M := 2) (ci := 3) (fs := [.int (iI (0)), .null]) hx hb hts hinP ty_P tyok_P hown kk3 kk4 kk5 hK hP hS (ev_b E) (by omega) rfl (fun j hj => by rcases (show j = 0 ∨ j = 1 by omega) with rfl | rfl <;> rfl) (Nat.le_of_ble_eq_true rfl) (Nat.le_of_ble_eq_true rfl) d_K_init_41 (fun H hP hS => ?_)
  obtain ⟨u63, hu64, hP⟩ : ∃ zz : Nat → va_E, zz = va_up z56 26 (.inr (3, [.int (iI (0)), .null])) ∧ va_P D vwCl (wl 27 b zz) H := ⟨_, rfl, hP⟩
  have ff65 : u63 21 = .inr (2, [.ref (b + 22), .ref (b + 24), .ref (b + 25)]) := (congrFun hu64 _).trans ((up_n (by omega)).trans ff58)
  have ff66 : u63 22 = .inr (3, [.int (iI (0)), .ref (b + 23)]) := (congrFun hu64 _).trans ((up_n (by omega)).trans ff59)
  have ff67 : u63 24 = qr ct 4 4 (fun _ => none) := (congrFun hu64 _).trans ((up_n (by omega)).trans ff60)
  have ff68 : u63 25 = qr ct 4 4 (fun _ => none) := (congrFun hu64 _).trans ((up_n (by omega)).trans ff61)
  have ff69 : u63 23 = ir ct 32 (gs) := (congrFun hu64 _).trans ((up_n (by omega)).trans a1)
  have ff70 : u63 1 = .inr (0, [.int (it 8 z0)]) := (congrFun hu64 _).trans ((up_n (by omega)).trans a2)
  have ff71 : u63 26 = .inr (3, [.int (iI (0)), .null]) := (congrFun hu64 _).trans up_s
  have fr72 : ∀ j : Nat, (j ≠ 1) → (j < 21) → u63 j = u j := fun j h0 h1 => (congrFun hu64 j).trans ((up_n (by omega)).trans (fr62 j h0 h1))
  refine lv_dup hx hb d_K_init_44 rfl ?_
  refine lv_iconst (v := iI (0)) hx hb d_K_init_45 rfl ?_
  refine w_sz hP (by omega) (by omega) (fun hHs => ?_)
  refine w_callv (va_runI (As := [.int (iI (0))]) (rest := [.ref (b + 26)]) ⟨hx, hb, hml, hown, hts⟩ (c_P_init l D ct st ke b u63 (26) 32 0 (Or.inr ⟨rfl, rfl⟩) ff71) (cwI 1 hts (gC t_35) rfl rfl rfl kk5 kk8 kk7 rfl (by decide +kernel) ⟨Nat.le_of_ble_eq_true rfl, Nat.le_of_ble_eq_true rfl⟩) (pre_C E hP hS hHs) rfl rfl hl.1 rfl (lv_room (Nat.le_of_ble_eq_true rfl)) d_K_init_46 ⟨(Nat.le_of_ble_eq_true rfl), (Nat.le_of_ble_eq_true rfl)⟩) hS (fun z73 H locs hz hP hS => ?_)
  obtain ⟨hq75, hq76, hzf77⟩ := hz
  have ff78 : z73 21 = .inr (2, [.ref (b + 22), .ref (b + 24), .ref (b + 25)]) := (hzf77 21 (by omega) (by omega)).trans ff65
  have ff79 : z73 22 = .inr (3, [.int (iI (0)), .ref (b + 23)]) := (hzf77 22 (by omega) (by omega)).trans ff66
  have ff80 : z73 24 = qr ct 4 4 (fun _ => none) := (hzf77 24 (by omega) (by omega)).trans ff67
  have ff81 : z73 25 = qr ct 4 4 (fun _ => none) := (hzf77 25 (by omega) (by omega)).trans ff68
  have ff82 : z73 23 = ir ct 32 (gs) := (hzf77 23 (by omega) (by omega)).trans ff69
  have ff83 : z73 1 = .inr (0, [.int (it 8 z0)]) := (hzf77 1 (by omega) (by omega)).trans ff70
  have fr84 : ∀ j : Nat, (j ≠ 1) → (j < 21) → z73 j = u j := fun j h0 h1 => (hzf77 j (by omega) (by omega)).trans (fr72 j h0 h1)
  refine lv_astore_n (lv' := [(2, .ref (b + 26)), (0, .ref (b + 21)), (1, .ref (b + 1))]) hx hb d_K_init_49 rfl hl (by decide) rfl (fun ls hl => ?_)
  refine lv_aload_n hx hb d_K_init_50 rfl (lv_at hl 0 rfl) ?_
  refine lv_iconst (v := iI (1)) hx hb d_K_init_51 rfl ?_
  refine lv_aload_n hx hb d_K_init_52 rfl (lv_at hl 1 rfl) ?_
  refine w_get (C := "LevelledRing$Keys") (T := T_K) (M := 3) hx hb hts hinK hown hK hP (21) (by omega) ff78 rfl 0 (by decide) kk9 (fun _ h => h) rfl d_K_init_53 ?_
  refine lv_aload_n hx hb d_K_init_56 rfl (lv_at hl 1 rfl) ?_
  refine w_get (C := "LevelledRing$Keys") (T := T_K) (M := 3) hx hb hts hinK hown hK hP (21) (by omega) ff78 rfl 0 (by decide) kk9 (fun _ h => h) rfl d_K_init_57 ?_
  refine lv_iconst (v := iI (3)) hx hb d_K_init_60 rfl ?_
  refine w_callv (va_runV (As := [.int (iI (1)), .ref (b + 22), .ref (b + 22), .int (iI (3))]) (rest := []) ⟨hx, hb, hml, hown, hts⟩ (c_addProduct l D ct st ke b 28 z73 26 0 32 (fun _ => 0) (by decide) (by decide) hq75 hq76 3 (by decide) (by decide) (by decide) (Or.inl rfl) 22 32 gs (by decide) (by decide) (by decide) (by decide) ff79 ff82 22 32 gs (by decide) (by decide) (by decide) (by decide) ff79 ff82 1 (Or.inl rfl) (fun _ => 0) (sml z0) (sml z0) (Rep.zero fun _ _ _ => rfl) hS3 hS3) (cwV 4 hts (gV t_101 t_102 t_103 t_3 t_104) rfl rfl rfl (by decide +kernel) ⟨Nat.le_of_ble_eq_true rfl, Nat.le_of_ble_eq_true rfl⟩) (pre_V E hP hS (26) (by omega) hq75 rfl) rfl rfl hl.1 rfl (lv_room (Nat.le_of_ble_eq_true rfl)) d_K_init_61 ⟨(Nat.le_of_ble_eq_true rfl), (Nat.le_of_ble_eq_true rfl)⟩) hS (fun z85 H locs hz hP hS => ?_)
  obtain ⟨gq, b1, b2, b3⟩ := hz
  have ff87 : z85 21 = .inr (2, [.ref (b + 22), .ref (b + 24), .ref (b + 25)]) := (b3 21 (by omega)).trans ff78
  have ff88 : z85 22 = .inr (3, [.int (iI (0)), .ref (b + 23)]) := (b3 22 (by omega)).trans ff79
  have ff89 : z85 24 = qr ct 4 4 (fun _ => none) := (b3 24 (by omega)).trans ff80
  have ff90 : z85 25 = qr ct 4 4 (fun _ => none) := (b3 25 (by omega)).trans ff81
  have ff91 : z85 23 = ir ct 32 (gs) := (b3 23 (by omega)).trans ff82
  have ff92 : z85 1 = .inr (0, [.int (it 8 z0)]) := (b3 1 (by omega)).trans ff83
  have ff93 : z85 26 = .inr (3, [.int (iI (0)), .ref (b + 27)]) := (b3 26 (by omega)).trans hq75
  have fr94 : ∀ j : Nat, (j ≠ 1) → (j < 21) → z85 j = u j := fun j h0 h1 => (b3 j (by omega)).trans (fr84 j h0 h1)
  have hQ3 : Rep gq 0 3 (nc (sml z0) (sml z0)) := b2.cg fun k i _ _ _ _ => by rw [Int.one_mul, Int.zero_add]; exact cg_r
  refine lv_iconst (v := iI (0)) hx hb d_K_init_64 rfl ?_
  refine lv_istore_n (lv' := [(3, .int (iI (0))), (2, .ref (b + 26)), (0, .ref (b + 21)), (1, .ref (b + 1))]) hx hb d_K_init_65 rfl hl (by decide) rfl (fun ls hl => ?_)
  have fr95 : ∀ j : Nat, (j ≠ 1) → (j ≠ 24) → (j ≠ 25) → (j < 28) → z85 j = z85 j := fun _ _ _ _ _ => rfl
  have lo : ∀ (d : Nat) (jn : Nat) (fa : Nat → Option Nat) (fb : Nat → Option Nat) (w96 : Nat → va_E) (H : Heap) (locs : List Loc) (ls : Array Slot), (jn ≤ 4) → (4 - jn < d) → (∀ i : Nat, i < jn → fa i = some (b + (28 + 4 * i))) → (∀ i : Nat, i < jn → fb i = some (b + (30 + 4 * i))) → (∀ i : Nat, i < jn → PV ct b w96 (28 + 4 * i) 3 ((kyO z0).2.1 i) ∧ PV ct b w96 (30 + 4 * i) 3 ((kyO z0).2.2 i)) → w96 1 = .inr (0, [.int (it (8 + 40 * jn) z0)]) → w96 24 = qr ct 4 4 (fa) → w96 25 = qr ct 4 4 (fb) → (∀ j : Nat, (j ≠ 1) → (j ≠ 24) → (j ≠ 25) → (j < 28) → w96 j = z85 j) → va_P D vwCl (wl (28 + 4 * jn) b w96) H → va_S (AA b) s.heap H locs → lv_has ls 4 [(3, .int (iI ((jn : Int)))), (2, .ref (b + 26)), (0, .ref (b + 21)), (1, .ref (b + 1))] → W p l e rm_c_K_init s m args below meth c H locs (6 + 4 * jn) (76 + 68 * jn) Q (F0 m 66 ls []) := by
    intro d
    induction d with
    | zero => intro jn fa fb w96 H locs ls hj hd hfa hfb hA fg97 fg98 fg99 fr100 hP hS hl; exfalso; omega
    | succ d ihlo =>
      intro jn fa fb w96 H locs ls hj hd hfa hfb hA fg97 fg98 fg99 fr100 hP hS hl
      have ff101 : w96 21 = .inr (2, [.ref (b + 22), .ref (b + 24), .ref (b + 25)]) := (fr100 21 (by omega) (by omega) (by omega) (by omega)).trans ff87
      have ff102 : w96 22 = .inr (3, [.int (iI (0)), .ref (b + 23)]) := (fr100 22 (by omega) (by omega) (by omega) (by omega)).trans ff88
      have ff103 : w96 23 = ir ct 32 (gs) := (fr100 23 (by omega) (by omega) (by omega) (by omega)).trans ff91
      have ff104 : w96 26 = .inr (3, [.int (iI (0)), .ref (b + 27)]) := (fr100 26 (by omega) (by omega) (by omega) (by omega)).trans ff93
      have ff105 : w96 27 = ir ct 32 (gq) := (fr100 27 (by omega) (by omega) (by omega) (by omega)).trans b1
      refine lv_iload_n hx hb d_K_init_66 rfl (lv_at hl 0 rfl) ?_
      refine lv_iconst (v := iI (4)) hx hb d_K_init_67 rfl ?_
      refine x_icmp_ge (tgt := 133) hx hb ⟨by omega, by omega⟩ ⟨by omega, by omega⟩ d_K_init_68 (by decide) (fun hc => ?_) (fun hc => ?_)
      · obtain rfl : jn = 4 := by omega
        refine W.widen (k := 22) (n := 348) (by decide) (by decide) ?_
        exact ret w96 H locs 133 ls ⟨⟨ff101, ⟨ff102, gs, ff103, hS3⟩, ⟨fa, fg98, hfa⟩, ⟨fb, fg99, hfb⟩, hA⟩, ⟨_, fg97⟩, fun j h1 h2 => (fr100 j (by omega) (by omega) (by omega) (by omega)).trans (fr94 j (by omega) (by omega))⟩ hP hS d_K_init_133
      · have xf106 : ∀ j : Nat, (28 ≤ j) → (j < 28 + 4 * jn) → w96 j = w96 j := fun _ _ _ => rfl
        refine lv_aload_n hx hb d_K_init_71 rfl (lv_at hl 2 rfl) ?_
        refine w_get (C := "LevelledRing$Keys") (T := T_K) (M := 3) hx hb hts hinK hown hK hP (21) (by omega) ff101 rfl 1 (by decide) kk11 (fun _ h => h) rfl d_K_init_72 ?_
        refine lv_iload_n hx hb d_K_init_75 rfl (lv_at hl 0 rfl) ?_
        refine w_new (C := "LevelledRing$Poly") (T := T_P) (M := 2) (ci := 3) (fs := [.int (iI (0)), .null]) hx hb hts hinP ty_P tyok_P hown kk3 kk4 kk5 hK hP hS (ev_b E) (by omega) rfl (fun j hj => by rcases (show j = 0 ∨ j = 1 by omega) with rfl | rfl <;> rfl) (by show _ ≤ (22 : Nat); omega) (by show _ ≤ (348 : Nat); omega) d_K_init_76 (fun H hP hS => ?_)
        obtain ⟨u107, hu108, hP⟩ : ∃ zz : Nat → va_E, zz = va_up w96 (28 + 4 * jn) (.inr (3, [.int (iI (0)), .null])) ∧ va_P D vwCl (wl (28 + 4 * jn + 1) b zz) H := ⟨_, rfl, hP⟩
        have ff109 : u107 21 = .inr (2, [.ref (b + 22), .ref (b + 24), .ref (b + 25)]) := (congrFun hu108 _).trans ((up_n (by omega)).trans ff101)
        have ff110 : u107 22 = .inr (3, [.int (iI (0)), .ref (b + 23)]) := (congrFun hu108 _).trans ((up_n (by omega)).trans ff102)
        have ff111 : u107 23 = ir ct 32 (gs) := (congrFun hu108 _).trans ((up_n (by omega)).trans ff103)
        have ff112 : u107 26 = .inr (3, [.int (iI (0)), .ref (b + 27)]) := (congrFun hu108 _).trans ((up_n (by omega)).trans ff104)
        have ff113 : u107 27 = ir ct 32 (gq) := (congrFun hu108 _).trans ((up_n (by omega)).trans ff105)
        have ff114 : u107 1 = .inr (0, [.int (it (8 + 40 * jn) z0)]) := (congrFun hu108 _).trans ((up_n (by omega)).trans fg97)
        have ff115 : u107 24 = qr ct 4 4 (fa) := (congrFun hu108 _).trans ((up_n (by omega)).trans fg98)
        have ff116 : u107 25 = qr ct 4 4 (fb) := (congrFun hu108 _).trans ((up_n (by omega)).trans fg99)
        have ff117 : u107 (28 + 4 * jn) = .inr (3, [.int (iI (0)), .null]) := (congrFun hu108 _).trans up_s
        have fr118 : ∀ j : Nat, (j ≠ 1) → (j ≠ 24) → (j ≠ 25) → (j < 28) → u107 j = z85 j := fun j h0 h1 h2 h3 => (congrFun hu108 j).trans ((up_n (by omega)).trans (fr100 j h0 h1 h2 h3))
        have xf119 : ∀ j : Nat, (28 ≤ j) → (j < 28 + 4 * jn) → u107 j = w96 j := fun j h0 h1 => (congrFun hu108 j).trans ((up_n (by omega)).trans (xf106 j h0 h1))
        refine lv_dup hx hb d_K_init_79 rfl ?_
        refine lv_iconst (v := iI (0)) hx hb d_K_init_80 rfl ?_
        refine w_sz hP (by omega) (by omega) (fun hHs => ?_)
        refine w_callv (va_runI (As := [.int (iI (0))]) (rest := [.ref (b + (28 + 4 * jn)), .int (iI ((jn : Int))), .ref (b + 24)]) ⟨hx, hb, hml, hown, hts⟩ (c_P_init l D ct st ke b u107 (28 + 4 * jn) 32 0 (Or.inr ⟨rfl, rfl⟩) ff117) (cwI 1 hts (gC t_35) rfl rfl rfl kk5 kk8 kk7 rfl (by decide +kernel) ⟨Nat.le_of_ble_eq_true rfl, Nat.le_of_ble_eq_true rfl⟩) (pre_C E hP hS hHs) rfl rfl hl.1 rfl (lv_room (Nat.le_of_ble_eq_true rfl)) d_K_init_81 ⟨(by show _ ≤ (22 : Nat); omega), (by show _ ≤ (348 : Nat); omega)⟩) hS (fun z120 H locs hz hP hS => ?_)
        obtain ⟨hq122, hq123, hzf124⟩ := hz
        have ff125 : z120 21 = .inr (2, [.ref (b + 22), .ref (b + 24), .ref (b + 25)]) := (hzf124 21 (by omega) (by omega)).trans ff109
        have ff126 : z120 22 = .inr (3, [.int (iI (0)), .ref (b + 23)]) := (hzf124 22 (by omega) (by omega)).trans ff110
        have ff127 : z120 23 = ir ct 32 (gs) := (hzf124 23 (by omega) (by omega)).trans ff111
        have ff128 : z120 26 = .inr (3, [.int (iI (0)), .ref (b + 27)]) := (hzf124 26 (by omega) (by omega)).trans ff112
        have ff129 : z120 27 = ir ct 32 (gq) := (hzf124 27 (by omega) (by omega)).trans ff113
        have ff130 : z120 1 = .inr (0, [.int (it (8 + 40 * jn) z0)]) := (hzf124 1 (by omega) (by omega)).trans ff114
        have ff131 : z120 24 = qr ct 4 4 (fa) := (hzf124 24 (by omega) (by omega)).trans ff115
        have ff132 : z120 25 = qr ct 4 4 (fb) := (hzf124 25 (by omega) (by omega)).trans ff116
        have fr133 : ∀ j : Nat, (j ≠ 1) → (j ≠ 24) → (j ≠ 25) → (j < 28) → z120 j = z85 j := fun j h0 h1 h2 h3 => (hzf124 j (by omega) (by omega)).trans (fr118 j h0 h1 h2 h3)
        have xf134 : ∀ j : Nat, (28 ≤ j) → (j < 28 + 4 * jn) → z120 j = w96 j := fun j h0 h1 => (hzf124 j (by omega) (by omega)).trans (xf119 j h0 h1)
        refine w_aast (C := ("LevelledRing$Poly", T_P, 2)) hx hb hK hP hS (24) (by omega) 4 (28 + 4 * jn) 3 (by omega) ff131 rfl hq122 rfl (by omega) (by omega) (by decide) d_K_init_84 (fun H locs hP hS => ?_)
        obtain ⟨u135, hu136, hP⟩ : ∃ zz : Nat → va_E, zz = va_up z120 24 (qr ct 4 4 (va_up (fa) ((jn : Int)).toNat (some (b + (28 + 4 * jn))))) ∧ va_P D vwCl (wl (28 + 4 * jn + 2) b zz) H := ⟨_, rfl, hP⟩
        have ff137 : u135 21 = .inr (2, [.ref (b + 22), .ref (b + 24), .ref (b + 25)]) := (congrFun hu136 _).trans ((up_n (by omega)).trans ff125)
        have ff138 : u135 22 = .inr (3, [.int (iI (0)), .ref (b + 23)]) := (congrFun hu136 _).trans ((up_n (by omega)).trans ff126)
        have ff139 : u135 23 = ir ct 32 (gs) := (congrFun hu136 _).trans ((up_n (by omega)).trans ff127)
        have ff140 : u135 26 = .inr (3, [.int (iI (0)), .ref (b + 27)]) := (congrFun hu136 _).trans ((up_n (by omega)).trans ff128)
        have ff141 : u135 27 = ir ct 32 (gq) := (congrFun hu136 _).trans ((up_n (by omega)).trans ff129)
        have ff142 : u135 1 = .inr (0, [.int (it (8 + 40 * jn) z0)]) := (congrFun hu136 _).trans ((up_n (by omega)).trans ff130)
        have ff143 : u135 24 = qr ct 4 4 (va_up (fa) ((jn : Int)).toNat (some (b + (28 + 4 * jn)))) := (congrFun hu136 _).trans up_s
        have ff144 : u135 25 = qr ct 4 4 (fb) := (congrFun hu136 _).trans ((up_n (by omega)).trans ff132)
        have ff145 : u135 (28 + 4 * jn) = .inr (3, [.int (iI (0)), .ref (b + (28 + 4 * jn + 1))]) := (congrFun hu136 _).trans ((up_n (by omega)).trans hq122)
        have ff146 : u135 (28 + 4 * jn + 1) = ir ct 32 (fun _ => 0) := (congrFun hu136 _).trans ((up_n (by omega)).trans hq123)
        have fr147 : ∀ j : Nat, (j ≠ 1) → (j ≠ 24) → (j ≠ 25) → (j < 28) → u135 j = z85 j := fun j h0 h1 h2 h3 => (congrFun hu136 j).trans ((up_n (by omega)).trans (fr133 j h0 h1 h2 h3))
        have xf148 : ∀ j : Nat, (28 ≤ j) → (j < 28 + 4 * jn) → u135 j = w96 j := fun j h0 h1 => (congrFun hu136 j).trans ((up_n (by omega)).trans (xf134 j h0 h1))
        refine lv_aload_n hx hb d_K_init_85 rfl (lv_at hl 2 rfl) ?_
        refine w_get (C := "LevelledRing$Keys") (T := T_K) (M := 3) hx hb hts hinK hown hK hP (21) (by omega) ff137 rfl 2 (by decide) kk12 (fun _ h => h) rfl d_K_init_86 ?_
        refine lv_iload_n hx hb d_K_init_89 rfl (lv_at hl 0 rfl) ?_
        refine w_new (C := "LevelledRing$Poly") (T := T_P) (M := 2) (ci := 3) (fs := [.int (iI (0)), .null]) hx hb hts hinP ty_P tyok_P hown kk3 kk4 kk5 hK hP hS (ev_b E) (by omega) rfl (fun j hj => by rcases (show j = 0 ∨ j = 1 by omega) with rfl | rfl <;> rfl) (by show _ ≤ (22 : Nat); omega) (by show _ ≤ (348 : Nat); omega) d_K_init_90 (fun H hP hS => ?_)
        obtain ⟨u149, hu150, hP⟩ : ∃ zz : Nat → va_E, zz = va_up u135 (28 + 4 * jn + 2) (.inr (3, [.int (iI (0)), .null])) ∧ va_P D vwCl (wl (28 + 4 * jn + 3) b zz) H := ⟨_, rfl, hP⟩
        have ff151 : u149 21 = .inr (2, [.ref (b + 22), .ref (b + 24), .ref (b + 25)]) := (congrFun hu150 _).trans ((up_n (by omega)).trans ff137)
        have ff152 : u149 22 = .inr (3, [.int (iI (0)), .ref (b + 23)]) := (congrFun hu150 _).trans ((up_n (by omega)).trans ff138)
        have ff153 : u149 23 = ir ct 32 (gs) := (congrFun hu150 _).trans ((up_n (by omega)).trans ff139)
        have ff154 : u149 26 = .inr (3, [.int (iI (0)), .ref (b + 27)]) := (congrFun hu150 _).trans ((up_n (by omega)).trans ff140)
        have ff155 : u149 27 = ir ct 32 (gq) := (congrFun hu150 _).trans ((up_n (by omega)).trans ff141)
        have ff156 : u149 1 = .inr (0, [.int (it (8 + 40 * jn) z0)]) := (congrFun hu150 _).trans ((up_n (by omega)).trans ff142)
        have ff157 : u149 24 = qr ct 4 4 (va_up (fa) ((jn : Int)).toNat (some (b + (28 + 4 * jn)))) := (congrFun hu150 _).trans ((up_n (by omega)).trans ff143)
        have ff158 : u149 25 = qr ct 4 4 (fb) := (congrFun hu150 _).trans ((up_n (by omega)).trans ff144)
        have ff159 : u149 (28 + 4 * jn) = .inr (3, [.int (iI (0)), .ref (b + (28 + 4 * jn + 1))]) := (congrFun hu150 _).trans ((up_n (by omega)).trans ff145)
        have ff160 : u149 (28 + 4 * jn + 1) = ir ct 32 (fun _ => 0) := (congrFun hu150 _).trans ((up_n (by omega)).trans ff146)
        have ff161 : u149 (28 + 4 * jn + 2) = .inr (3, [.int (iI (0)), .null]) := (congrFun hu150 _).trans up_s
        have fr162 : ∀ j : Nat, (j ≠ 1) → (j ≠ 24) → (j ≠ 25) → (j < 28) → u149 j = z85 j := fun j h0 h1 h2 h3 => (congrFun hu150 j).trans ((up_n (by omega)).trans (fr147 j h0 h1 h2 h3))
        have xf163 : ∀ j : Nat, (28 ≤ j) → (j < 28 + 4 * jn) → u149 j = w96 j := fun j h0 h1 => (congrFun hu150 j).trans ((up_n (by omega)).trans (xf148 j h0 h1))
        refine lv_dup hx hb d_K_init_93 rfl ?_
        refine lv_iconst (v := iI (0)) hx hb d_K_init_94 rfl ?_
        refine w_sz hP (by omega) (by omega) (fun hHs => ?_)
        refine w_callv (va_runI (As := [.int (iI (0))]) (rest := [.ref (b + (28 + 4 * jn + 2)), .int (iI ((jn : Int))), .ref (b + 25)]) ⟨hx, hb, hml, hown, hts⟩ (c_P_init l D ct st ke b u149 (28 + 4 * jn + 2) 32 0 (Or.inr ⟨rfl, rfl⟩) ff161) (cwI 1 hts (gC t_35) rfl rfl rfl kk5 kk8 kk7 rfl (by decide +kernel) ⟨Nat.le_of_ble_eq_true rfl, Nat.le_of_ble_eq_true rfl⟩) (pre_C E hP hS hHs) rfl rfl hl.1 rfl (lv_room (Nat.le_of_ble_eq_true rfl)) d_K_init_95 ⟨(by show _ ≤ (22 : Nat); omega), (by show _ ≤ (348 : Nat); omega)⟩) hS (fun z164 H locs hz hP hS => ?_)
        obtain ⟨hq166, hq167, hzf168⟩ := hz
        have ff169 : z164 21 = .inr (2, [.ref (b + 22), .ref (b + 24), .ref (b + 25)]) := (hzf168 21 (by omega) (by omega)).trans ff151
        have ff170 : z164 22 = .inr (3, [.int (iI (0)), .ref (b + 23)]) := (hzf168 22 (by omega) (by omega)).trans ff152
        have ff171 : z164 23 = ir ct 32 (gs) := (hzf168 23 (by omega) (by omega)).trans ff153
        have ff172 : z164 26 = .inr (3, [.int (iI (0)), .ref (b + 27)]) := (hzf168 26 (by omega) (by omega)).trans ff154
        have ff173 : z164 27 = ir ct 32 (gq) := (hzf168 27 (by omega) (by omega)).trans ff155
        have ff174 : z164 1 = .inr (0, [.int (it (8 + 40 * jn) z0)]) := (hzf168 1 (by omega) (by omega)).trans ff156
        have ff175 : z164 24 = qr ct 4 4 (va_up (fa) ((jn : Int)).toNat (some (b + (28 + 4 * jn)))) := (hzf168 24 (by omega) (by omega)).trans ff157
        have ff176 : z164 25 = qr ct 4 4 (fb) := (hzf168 25 (by omega) (by omega)).trans ff158
        have ff177 : z164 (28 + 4 * jn) = .inr (3, [.int (iI (0)), .ref (b + (28 + 4 * jn + 1))]) := (hzf168 (28 + 4 * jn) (by omega) (by omega)).trans ff159
        have ff178 : z164 (28 + 4 * jn + 1) = ir ct 32 (fun _ => 0) := (hzf168 (28 + 4 * jn + 1) (by omega) (by omega)).trans ff160
        have fr179 : ∀ j : Nat, (j ≠ 1) → (j ≠ 24) → (j ≠ 25) → (j < 28) → z164 j = z85 j := fun j h0 h1 h2 h3 => (hzf168 j (by omega) (by omega)).trans (fr162 j h0 h1 h2 h3)
        have xf180 : ∀ j : Nat, (28 ≤ j) → (j < 28 + 4 * jn) → z164 j = w96 j := fun j h0 h1 => (hzf168 j (by omega) (by omega)).trans (xf163 j h0 h1)
        refine w_aast (C := ("LevelledRing$Poly", T_P, 2)) hx hb hK hP hS (25) (by omega) 4 (28 + 4 * jn + 2) 3 (by omega) ff176 rfl hq166 rfl (by omega) (by omega) (by decide) d_K_init_98 (fun H locs hP hS => ?_)
        obtain ⟨u181, hu182, hP⟩ : ∃ zz : Nat → va_E, zz = va_up z164 25 (qr ct 4 4 (va_up (fb) ((jn : Int)).toNat (some (b + (28 + 4 * jn + 2))))) ∧ va_P D vwCl (wl (28 + 4 * jn + 4) b zz) H := ⟨_, rfl, hP⟩
        have ff183 : u181 21 = .inr (2, [.ref (b + 22), .ref (b + 24), .ref (b + 25)]) := (congrFun hu182 _).trans ((up_n (by omega)).trans ff169)
        have ff184 : u181 22 = .inr (3, [.int (iI (0)), .ref (b + 23)]) := (congrFun hu182 _).trans ((up_n (by omega)).trans ff170)
        have ff185 : u181 23 = ir ct 32 (gs) := (congrFun hu182 _).trans ((up_n (by omega)).trans ff171)
        have ff186 : u181 26 = .inr (3, [.int (iI (0)), .ref (b + 27)]) := (congrFun hu182 _).trans ((up_n (by omega)).trans ff172)
        have ff187 : u181 27 = ir ct 32 (gq) := (congrFun hu182 _).trans ((up_n (by omega)).trans ff173)
        have ff188 : u181 1 = .inr (0, [.int (it (8 + 40 * jn) z0)]) := (congrFun hu182 _).trans ((up_n (by omega)).trans ff174)
        have ff189 : u181 24 = qr ct 4 4 (va_up (fa) ((jn : Int)).toNat (some (b + (28 + 4 * jn)))) := (congrFun hu182 _).trans ((up_n (by omega)).trans ff175)
        have ff190 : u181 25 = qr ct 4 4 (va_up (fb) ((jn : Int)).toNat (some (b + (28 + 4 * jn + 2)))) := (congrFun hu182 _).trans up_s
        have ff191 : u181 (28 + 4 * jn) = .inr (3, [.int (iI (0)), .ref (b + (28 + 4 * jn + 1))]) := (congrFun hu182 _).trans ((up_n (by omega)).trans ff177)
        have ff192 : u181 (28 + 4 * jn + 1) = ir ct 32 (fun _ => 0) := (congrFun hu182 _).trans ((up_n (by omega)).trans ff178)
        have ff193 : u181 (28 + 4 * jn + 2) = .inr (3, [.int (iI (0)), .ref (b + (28 + 4 * jn + 3))]) := (congrFun hu182 _).trans ((up_n (by omega)).trans hq166)
        have ff194 : u181 (28 + 4 * jn + 3) = ir ct 32 (fun _ => 0) := (congrFun hu182 _).trans ((up_n (by omega)).trans hq167)
        have fr195 : ∀ j : Nat, (j ≠ 1) → (j ≠ 24) → (j ≠ 25) → (j < 28) → u181 j = z85 j := fun j h0 h1 h2 h3 => (congrFun hu182 j).trans ((up_n (by omega)).trans (fr179 j h0 h1 h2 h3))
        have xf196 : ∀ j : Nat, (28 ≤ j) → (j < 28 + 4 * jn) → u181 j = w96 j := fun j h0 h1 => (congrFun hu182 j).trans ((up_n (by omega)).trans (xf180 j h0 h1))
        refine lv_aload_n hx hb d_K_init_99 rfl (lv_at hl 2 rfl) ?_
        refine lv_aload_n hx hb d_K_init_100 rfl (lv_at hl 3 rfl) ?_
        refine lv_aload_n hx hb d_K_init_101 rfl (lv_at hl 2 rfl) ?_
        refine w_get (C := "LevelledRing$Keys") (T := T_K) (M := 3) hx hb hts hinK hown hK hP (21) (by omega) ff183 rfl 2 (by decide) kk12 (fun _ h => h) rfl d_K_init_102 ?_
        refine lv_iload_n hx hb d_K_init_105 rfl (lv_at hl 0 rfl) ?_
        refine w_aald (r := b + (28 + 4 * jn + 2)) hx hb hK hP (25) (by omega) 4 ff190 rfl (by omega) (by omega) (by decide) up_s d_K_init_106 ?_
        refine lv_aload_n hx hb d_K_init_107 rfl (lv_at hl 2 rfl) ?_
        refine w_get (C := "LevelledRing$Keys") (T := T_K) (M := 3) hx hb hts hinK hown hK hP (21) (by omega) ff183 rfl 1 (by decide) kk11 (fun _ h => h) rfl d_K_init_108 ?_
        refine lv_iload_n hx hb d_K_init_111 rfl (lv_at hl 0 rfl) ?_
        refine w_aald (r := b + (28 + 4 * jn)) hx hb hK hP (24) (by omega) 4 ff189 rfl (by omega) (by omega) (by decide) up_s d_K_init_112 ?_
        refine w_callv (va_runV (As := [.ref (b + 1), .ref (b + (28 + 4 * jn + 2)), .ref (b + (28 + 4 * jn))]) (rest := []) ⟨hx, hb, hml, hown, hts⟩ (c_dhz l D ct st ke b (28 + 4 * jn + 4) u181 21 24 25 22 (by omega) ff183 (by omega) gs ff184 ff185 (sml z0) hS3 1 (by omega) (it (8 + 40 * jn) z0) ff188 (28 + 4 * jn + 2) (by omega) (fun _ => 0) ff193 ff194 (28 + 4 * jn) (by omega) (fun _ => 0) ff191 ff192 (by omega) (by omega) (by omega)) (cwV 3 hts (gV t_112 t_113 t_114 t_5 t_115) rfl rfl rfl (by decide +kernel) ⟨Nat.le_of_ble_eq_true rfl, Nat.le_of_ble_eq_true rfl⟩) (pre_V E hP hS (21) (by omega) ff183 rfl) rfl rfl hl.1 rfl (lv_room (Nat.le_of_ble_eq_true rfl)) d_K_init_113 ⟨(by show _ ≤ (22 : Nat); omega), (by show _ ≤ (348 : Nat); omega)⟩) hS (fun z197 H locs hz hP hS => ?_)
        obtain ⟨y0, y1, c1, c2, c3, c4, c5, c6⟩ := hz
        have ff199 : z197 21 = .inr (2, [.ref (b + 22), .ref (b + 24), .ref (b + 25)]) := (c6 21 (by omega) (by omega) (by omega)).trans ff183
        have ff200 : z197 22 = .inr (3, [.int (iI (0)), .ref (b + 23)]) := (c6 22 (by omega) (by omega) (by omega)).trans ff184
        have ff201 : z197 23 = ir ct 32 (gs) := (c6 23 (by omega) (by omega) (by omega)).trans ff185
        have ff202 : z197 26 = .inr (3, [.int (iI (0)), .ref (b + 27)]) := (c6 26 (by omega) (by omega) (by omega)).trans ff186
        have ff203 : z197 27 = ir ct 32 (gq) := (c6 27 (by omega) (by omega) (by omega)).trans ff187
        have ff204 : z197 24 = qr ct 4 4 (va_up (fa) ((jn : Int)).toNat (some (b + (28 + 4 * jn)))) := (c6 24 (by omega) (by omega) (by omega)).trans ff189
        have ff205 : z197 25 = qr ct 4 4 (va_up (fb) ((jn : Int)).toNat (some (b + (28 + 4 * jn + 2)))) := (c6 25 (by omega) (by omega) (by omega)).trans ff190
        have ff206 : z197 (28 + 4 * jn) = .inr (3, [.int (iI (0)), .ref (b + (28 + 4 * jn + 1))]) := (c6 (28 + 4 * jn) (by omega) (by omega) (by omega)).trans ff191
        have ff207 : z197 (28 + 4 * jn + 2) = .inr (3, [.int (iI (0)), .ref (b + (28 + 4 * jn + 3))]) := (c6 (28 + 4 * jn + 2) (by omega) (by omega) (by omega)).trans ff193
        have fr208 : ∀ j : Nat, (j ≠ 1) → (j ≠ 24) → (j ≠ 25) → (j < 28) → z197 j = z85 j := fun j h0 h1 h2 h3 => (c6 j (by omega) (by omega) (by omega)).trans (fr195 j h0 h1 h2 h3)
        have xf209 : ∀ j : Nat, (28 ≤ j) → (j < 28 + 4 * jn) → z197 j = w96 j := fun j h0 h1 => (c6 j (by omega) (by omega) (by omega)).trans (xf196 j h0 h1)
        refine lv_aload_n hx hb d_K_init_116 rfl (lv_at hl 2 rfl) ?_
        refine w_get (C := "LevelledRing$Keys") (T := T_K) (M := 3) hx hb hts hinK hown hK hP (21) (by omega) ff199 rfl 2 (by decide) kk12 (fun _ h => h) rfl d_K_init_117 ?_
        refine lv_iload_n hx hb d_K_init_120 rfl (lv_at hl 0 rfl) ?_
        refine w_aald (r := b + (28 + 4 * jn + 2)) hx hb hK hP (25) (by omega) 4 ff205 rfl (by omega) (by omega) (by decide) up_s d_K_init_121 ?_
        refine lv_aload_n hx hb d_K_init_122 rfl (lv_at hl 1 rfl) ?_
        refine lv_iload_n hx hb d_K_init_123 rfl (lv_at hl 0 rfl) ?_
        refine w_callv (va_runV (As := [.ref (b + 26), .int (iI ((jn : Int)))]) (rest := []) ⟨hx, hb, hml, hown, hts⟩ (c_addRow l D ct st ke b (28 + 4 * jn + 4) z197 (28 + 4 * jn + 2) y0 (by omega) ff207 c1 26 gq (by omega) (by omega) ff202 ff203 (jn : Int) (by omega) (by omega) _ _ c4 hQ3) (cwV 2 hts (gV t_120 t_121 t_122 t_3 t_123) rfl rfl rfl (by decide +kernel) ⟨Nat.le_of_ble_eq_true rfl, Nat.le_of_ble_eq_true rfl⟩) (pre_V E hP hS (28 + 4 * jn + 2) (by omega) ff207 rfl) rfl rfl hl.1 rfl (lv_room (Nat.le_of_ble_eq_true rfl)) d_K_init_124 ⟨(by show _ ≤ (22 : Nat); omega), (by show _ ≤ (348 : Nat); omega)⟩) hS (fun z210 H locs hz hP hS => ?_)
        obtain ⟨y2, e1, e2, e3⟩ := hz
        have ff212 : z210 21 = .inr (2, [.ref (b + 22), .ref (b + 24), .ref (b + 25)]) := (e3 21 (by omega)).trans ff199
        have ff213 : z210 22 = .inr (3, [.int (iI (0)), .ref (b + 23)]) := (e3 22 (by omega)).trans ff200
        have ff214 : z210 23 = ir ct 32 (gs) := (e3 23 (by omega)).trans ff201
        have ff215 : z210 26 = .inr (3, [.int (iI (0)), .ref (b + 27)]) := (e3 26 (by omega)).trans ff202
        have ff216 : z210 27 = ir ct 32 (gq) := (e3 27 (by omega)).trans ff203
        have ff217 : z210 24 = qr ct 4 4 (va_up (fa) ((jn : Int)).toNat (some (b + (28 + 4 * jn)))) := (e3 24 (by omega)).trans ff204
        have ff218 : z210 25 = qr ct 4 4 (va_up (fb) ((jn : Int)).toNat (some (b + (28 + 4 * jn + 2)))) := (e3 25 (by omega)).trans ff205
        have ff219 : z210 (28 + 4 * jn) = .inr (3, [.int (iI (0)), .ref (b + (28 + 4 * jn + 1))]) := (e3 (28 + 4 * jn) (by omega)).trans ff206
        have ff220 : z210 (28 + 4 * jn + 2) = .inr (3, [.int (iI (0)), .ref (b + (28 + 4 * jn + 3))]) := (e3 (28 + 4 * jn + 2) (by omega)).trans ff207
        have ff221 : z210 (28 + 4 * jn + 1) = ir ct 32 (y1) := (e3 (28 + 4 * jn + 1) (by omega)).trans c2
        have ff222 : z210 1 = .inr (0, [.int (it 40 (it (8 + 40 * jn) z0))]) := (e3 1 (by omega)).trans c3
        have fr223 : ∀ j : Nat, (j ≠ 1) → (j ≠ 24) → (j ≠ 25) → (j < 28) → z210 j = z85 j := fun j h0 h1 h2 h3 => (e3 j (by omega)).trans (fr208 j h0 h1 h2 h3)
        have xf224 : ∀ j : Nat, (28 ≤ j) → (j < 28 + 4 * jn) → z210 j = w96 j := fun j h0 h1 => (e3 j (by omega)).trans (xf209 j h0 h1)
        refine lv_iinc (k := 0) (v := iI ((jn : Int) + 1)) (lv' := [(3, .int (iI ((jn : Int) + 1))), (2, .ref (b + 26)), (0, .ref (b + 21)), (1, .ref (b + 1))]) hx hb d_K_init_127 hl rfl (iI_add _ _) (by decide) rfl (fun ls hl => ?_)
        have hl : lv_has ls 4 [(3, .int (iI (((jn + 1 : Nat) : Int)))), (2, .ref (b + 26)), (0, .ref (b + 21)), (1, .ref (b + 1))] := by rw [show ((jn + 1 : Nat) : Int) = (jn : Int) + 1 from by omega]; exact hl
        have hl : lv_has ls 4 [(3, .int (iI (((jn + 1 : Nat) : Int)))), (2, .ref (b + 26)), (0, .ref (b + 21)), (1, .ref (b + 1))] := lv_sub hl [0, 1, 2, 3] rfl
        refine lv_goto (tgt := 66) hx hb d_K_init_130 (by decide) ?_
        refine W.widen (k := 6 + 4 * (jn + 1)) (n := 76 + 68 * (jn + 1)) (by omega) (by omega) ?_
        have hkeep := xf224
        refine ihlo (jn + 1) _ _ z210 H locs ls (by omega) (by omega) (fun i hi => ?_) (fun i hi => ?_) (fun i hi => ?_) (by rw [show 8 + 40 * (jn + 1) = (8 + 40 * jn) + 40 by omega, ← it_add]; exact ff222) ff217 ff218 fr223 hP hS hl
        · by_cases h : i = jn
          · subst h; exact up_s
          · exact (up_n (by omega)).trans (hfa i (by omega))
        · by_cases h : i = jn
          · subst h; rw [show 30 + 4 * i = 28 + 4 * i + 2 by omega]; exact up_s
          · exact (up_n (by omega)).trans (hfb i (by omega))
        · by_cases h : i = jn
          · subst h
            refine ⟨⟨ff219, y1, ff221, c5⟩, ?_⟩
            rw [show 30 + 4 * i = 28 + 4 * i + 2 by omega]
            exact ⟨ff220, y2, e1, e2.mod (by omega)⟩
          · have h1 := hA i (by omega)
            exact ⟨h1.1.of fun q h2 h3 => hkeep q (by omega) (by omega), h1.2.of fun q h2 h3 => hkeep q (by omega) (by omega)⟩
  exact lo 5 0 _ _ z85 H locs ls (by omega) (by omega) (fun i hi => by omega) (fun i hi => by omega) (fun i hi => by omega) ff92 ff89 ff90 fr95 hP hS hl
