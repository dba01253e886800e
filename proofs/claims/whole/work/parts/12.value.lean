abbrev rm_c_V_init : Room := { frames := 2, cells := 4, slots := 68, locals := 33 }
set_option maxHeartbeats 4000000 in
set_option maxRecDepth 100000 in
/-- Value() -/
theorem c_V_init (l : Launch) (D : va_G) (ct : Nat → ClassId) (st ke : Nat → Nat) (b : Nat) (u : Nat → va_E) (k : Nat) (f0 : u k = .inr (4, [.int (iI (0)), .long (lI (0)), .null, .null])) : Met l y_V_init (w_V_init) rm_c_V_init (va_Pc [.ref (b + k)] (fun U => ev D ct st ke b U ∧ U.heap.size = b + (k + 1) ∧ va_P D vwCl (wl (k + 1) b u) U.heap)) (va_Qv (fun z : Nat → va_E => VR ct b z k 0 0 (fun _ => 0) (fun _ => 0) ∧ ∀ j : Nat, (j < k ∨ k + 5 ≤ j) → z j = u j) (fun (z : Nat → va_E) t => va_P D vwCl (wl (k + 5) b (z)) t.heap) (AA b)) 4 68 (AA b) := by
  refine M_c (cc := c9_V_init) (maxL := 1) (by decide) rfl (Nat.le_of_ble_eq_true rfl) ?_
  intro p e s m args below meth c Q ls H locs hx hb hml hown hts hnm E hsz hP hS hl ret
  have hl : lv_has ls 1 [(0, .ref (b + k))] := hl
  have hK := ev_K E
  have kk0 := hts (.methodLink "LevelledRing$Value" 3 objectInit) (List.mem_cons_of_mem _ t_53)
  have kk1 := hts (.instanceMethod objectInit) (List.mem_cons_of_mem _ t_19)
  have kk2 := hts (.code objectInit ⟨#[0xb1]⟩ 1 none) (List.mem_cons_of_mem _ t_20)
  have kk3 := hts (.fieldLink "LevelledRing$Value" 9 "LevelledRing$Value" "level" "I") (List.mem_cons_of_mem _ t_56)
  have hinV : ∀ w ∈ u_ws "LevelledRing$Value" T_V 4, w ∈ (w_V_init) := hin_V _
  have kk5 := hts (.fieldLink "LevelledRing$Value" 15 "LevelledRing$Value" "meter" "J") (List.mem_cons_of_mem _ t_58)
  have kk6 := hts (.classLink "LevelledRing$Value" 19 "LevelledRing$Poly") (List.mem_cons_of_mem _ t_54)
  have kk7 := hts (.instantiable "LevelledRing$Poly" 2) (List.mem_cons_of_mem _ t_32)
  have kk8 := hts (.initialized "LevelledRing$Poly") (List.mem_cons_of_mem _ t_3)
  have hinP : ∀ w ∈ u_ws "LevelledRing$Poly" T_P 2, w ∈ (w_V_init) := hin_P _
  have kk10 := hts (.instanceMethod y_P_init) (List.mem_cons_of_mem _ t_34)
  have kk11 := hts (.methodLink "LevelledRing$Value" 21 y_P_init) (List.mem_cons_of_mem _ t_55)
  have kk12 := hts (.fieldLink "LevelledRing$Value" 24 "LevelledRing$Value" "c0" "LLevelledRing$Poly;") (List.mem_cons_of_mem _ t_60)
  have kk13 := hts (.fieldLink "LevelledRing$Value" 28 "LevelledRing$Value" "c1" "LLevelledRing$Poly;") (List.mem_cons_of_mem _ t_62)
  have fr0 : ∀ j : Nat, (j < k ∨ k + 5 ≤ j) → u j = u j := fun _ _ => rfl
  refine lv_aload_n hx hb d_V_init_0 rfl (lv_at hl 0 rfl) ?_
  refine W.objInit hx hb hown kk0 kk1 kk2 rfl (by rw [hml]; exact hl.1) rfl d_V_init_1 (Nat.le_of_ble_eq_true rfl) (Nat.le_of_ble_eq_true rfl) ?_
  refine W.eq (g2 := F0 m 4 ls []) rfl ?_
  refine lv_aload_n hx hb d_V_init_4 rfl (lv_at hl 0 rfl) ?_
  refine lv_iconst (v := iI (0)) hx hb d_V_init_5 rfl ?_
  refine w_put (C := "LevelledRing$Value") (T := T_V) (M := 4) (ty := .int) (v := .int (iI (0))) hx hb hts hinV ty_V tyok_V nm_V hown hK hP hS (k) (by omega) f0 rfl 0 (by decide) kk3 (fun _ h => h) rfl (by decide +kernel) rfl rfl (Nat.le_of_ble_eq_true rfl) d_V_init_6 (fun H locs hP hS => ?_)
  obtain ⟨u1, hu2, hP⟩ : ∃ zz : Nat → va_E, zz = va_up u k (.inr (4, [.int (iI (0)), .long (lI (0)), .null, .null])) ∧ va_P D vwCl (wl (k + 1) b zz) H := ⟨_, rfl, hP⟩
  have ff3 : u1 k = .inr (4, [.int (iI (0)), .long (lI (0)), .null, .null]) := (congrFun hu2 _).trans up_s
  have fr4 : ∀ j : Nat, (j < k ∨ k + 5 ≤ j) → u1 j = u j := fun j h0 => (congrFun hu2 j).trans ((up_n (by omega)).trans (fr0 j h0))
  refine lv_aload_n hx hb d_V_init_9 rfl (lv_at hl 0 rfl) ?_
  refine lv_lconst (v := lI 0) hx hb d_V_init_10 rfl ?_
  refine w_put (C := "LevelledRing$Value") (T := T_V) (M := 4) (ty := .long) (v := .long (lI (0))) hx hb hts hinV ty_V tyok_V nm_V hown hK hP hS (k) (by omega) ff3 rfl 1 (by decide) kk5 (fun _ h => h) rfl (by decide +kernel) rfl rfl (Nat.le_of_ble_eq_true rfl) d_V_init_11 (fun H locs hP hS => ?_)
  obtain ⟨u5, hu6, hP⟩ : ∃ zz : Nat → va_E, zz = va_up u1 k (.inr (4, [.int (iI (0)), .long (lI (0)), .null, .null])) ∧ va_P D vwCl (wl (k + 1) b zz) H := ⟨_, rfl, hP⟩
  have ff7 : u5 k = .inr (4, [.int (iI (0)), .long (lI (0)), .null, .null]) := (congrFun hu6 _).trans up_s
  have fr8 : ∀ j : Nat, (j < k ∨ k + 5 ≤ j) → u5 j = u j := fun j h0 => (congrFun hu6 j).trans ((up_n (by omega)).trans (fr4 j h0))
  refine lv_aload_n hx hb d_V_init_14 rfl (lv_at hl 0 rfl) ?_
  refine w_new (C := "LevelledRing$Poly") (T := T_P) (M := 2) (ci := 3) (fs := [.int (iI (0)), .null]) hx hb hts hinP ty_P tyok_P hown kk6 kk7 kk8 hK hP hS (ev_b E) (by omega) rfl (fun j hj => by rcases (show j = 0 ∨ j = 1 by omega) with rfl | rfl <;> rfl) (Nat.le_of_ble_eq_true rfl) (Nat.le_of_ble_eq_true rfl) d_V_init_15 (fun H hP hS => ?_)
  obtain ⟨u9, hu10, hP⟩ : ∃ zz : Nat → va_E, zz = va_up u5 (k + 1) (.inr (3, [.int (iI (0)), .null])) ∧ va_P D vwCl (wl (k + 2) b zz) H := ⟨_, rfl, hP⟩
  have ff11 : u9 k = .inr (4, [.int (iI (0)), .long (lI (0)), .null, .null]) := (congrFun hu10 _).trans ((up_n (by omega)).trans ff7)
  have ff12 : u9 (k + 1) = .inr (3, [.int (iI (0)), .null]) := (congrFun hu10 _).trans up_s
  have fr13 : ∀ j : Nat, (j < k ∨ k + 5 ≤ j) → u9 j = u j := fun j h0 => (congrFun hu10 j).trans ((up_n (by omega)).trans (fr8 j h0))
  refine lv_dup hx hb d_V_init_18 rfl ?_
  refine lv_iconst (v := iI (0)) hx hb d_V_init_19 rfl ?_
  refine w_sz hP (by omega) (by omega) (fun hHs => ?_)
  refine w_callv (va_runI (As := [.int (iI (0))]) (rest := [.ref (b + (k + 1)), .ref (b + k)]) ⟨hx, hb, hml, hown, hts⟩ (c_P_init l D ct st ke b u9 (k + 1) 32 0 (Or.inr ⟨rfl, rfl⟩) ff12) (cwI 1 hts (gC t_35) rfl rfl rfl kk8 kk11 kk10 rfl (by decide +kernel) ⟨Nat.le_of_ble_eq_true rfl, Nat.le_of_ble_eq_true rfl⟩) (pre_C E hP hS hHs) rfl rfl hl.1 rfl (lv_room (Nat.le_of_ble_eq_true rfl)) d_V_init_20 ⟨(Nat.le_of_ble_eq_true rfl), (Nat.le_of_ble_eq_true rfl)⟩) hS (fun z14 H locs hz hP hS => ?_)
  obtain ⟨hz0, hz1, hzf⟩ := hz
  have hq16 := hz0
  have hq17 := hz1
  have ff18 : z14 k = .inr (4, [.int (iI (0)), .long (lI (0)), .null, .null]) := (hzf k (by omega) (by omega)).trans ff11
  have fr19 : ∀ j : Nat, (j < k ∨ k + 5 ≤ j) → z14 j = u j := fun j h0 => (hzf j (by omega) (by omega)).trans (fr13 j h0)
  refine w_putF (C := "LevelledRing$Value") (T := T_V) (M := 4) (ty := (.object "LevelledRing$Poly")) (v := .ref (b + (k + 1))) hx hb hts hinV ty_V tyok_V nm_V hown hK hP hS (k) (by omega) ff18 rfl 2 (by decide) kk12 (fun _ h => h) rfl hnm rfl (by decide +kernel) rfl rfl (Nat.le_of_ble_eq_true rfl) d_V_init_23 (fun H locs hP hS => ?_)
  obtain ⟨u20, hu21, hP⟩ : ∃ zz : Nat → va_E, zz = va_up z14 k (.inr (4, [.int (iI (0)), .long (lI (0)), .ref (b + (k + 1)), .null])) ∧ va_P D vwCl (wl (k + 3) b zz) H := ⟨_, rfl, hP⟩
  have ff22 : u20 k = .inr (4, [.int (iI (0)), .long (lI (0)), .ref (b + (k + 1)), .null]) := (congrFun hu21 _).trans up_s
  have ff23 : u20 (k + 1) = .inr (3, [.int (iI (0)), .ref (b + (k + 2))]) := (congrFun hu21 _).trans ((up_n (by omega)).trans hq16)
  have ff24 : u20 (k + 2) = ir ct 32 (fun _ => 0) := (congrFun hu21 _).trans ((up_n (by omega)).trans hq17)
  have fr25 : ∀ j : Nat, (j < k ∨ k + 5 ≤ j) → u20 j = u j := fun j h0 => (congrFun hu21 j).trans ((up_n (by omega)).trans (fr19 j h0))
  refine lv_aload_n hx hb d_V_init_26 rfl (lv_at hl 0 rfl) ?_
  refine w_new (C := "LevelledRing$Poly") (T := T_P) (M := 2) (ci := 3) (fs := [.int (iI (0)), .null]) hx hb hts hinP ty_P tyok_P hown kk6 kk7 kk8 hK hP hS (ev_b E) (by omega) rfl (fun j hj => by rcases (show j = 0 ∨ j = 1 by omega) with rfl | rfl <;> rfl) (Nat.le_of_ble_eq_true rfl) (Nat.le_of_ble_eq_true rfl) d_V_init_27 (fun H hP hS => ?_)
  obtain ⟨u26, hu27, hP⟩ : ∃ zz : Nat → va_E, zz = va_up u20 (k + 3) (.inr (3, [.int (iI (0)), .null])) ∧ va_P D vwCl (wl (k + 4) b zz) H := ⟨_, rfl, hP⟩
  have ff28 : u26 k = .inr (4, [.int (iI (0)), .long (lI (0)), .ref (b + (k + 1)), .null]) := (congrFun hu27 _).trans ((up_n (by omega)).trans ff22)
  have ff29 : u26 (k + 1) = .inr (3, [.int (iI (0)), .ref (b + (k + 2))]) := (congrFun hu27 _).trans ((up_n (by omega)).trans ff23)
  have ff30 : u26 (k + 2) = ir ct 32 (fun _ => 0) := (congrFun hu27 _).trans ((up_n (by omega)).trans ff24)
  have ff31 : u26 (k + 3) = .inr (3, [.int (iI (0)), .null]) := (congrFun hu27 _).trans up_s
  have fr32 : ∀ j : Nat, (j < k ∨ k + 5 ≤ j) → u26 j = u j := fun j h0 => (congrFun hu27 j).trans ((up_n (by omega)).trans (fr25 j h0))
  refine lv_dup hx hb d_V_init_30 rfl ?_
  refine lv_iconst (v := iI (0)) hx hb d_V_init_31 rfl ?_
  refine w_sz hP (by omega) (by omega) (fun hHs => ?_)
  refine w_callv (va_runI (As := [.int (iI (0))]) (rest := [.ref (b + (k + 3)), .ref (b + k)]) ⟨hx, hb, hml, hown, hts⟩ (c_P_init l D ct st ke b u26 (k + 3) 32 0 (Or.inr ⟨rfl, rfl⟩) ff31) (cwI 1 hts (gC t_35) rfl rfl rfl kk8 kk11 kk10 rfl (by decide +kernel) ⟨Nat.le_of_ble_eq_true rfl, Nat.le_of_ble_eq_true rfl⟩) (pre_C E hP hS hHs) rfl rfl hl.1 rfl (lv_room (Nat.le_of_ble_eq_true rfl)) d_V_init_32 ⟨(Nat.le_of_ble_eq_true rfl), (Nat.le_of_ble_eq_true rfl)⟩) hS (fun z33 H locs hz hP hS => ?_)
  obtain ⟨hz0, hz1, hzf⟩ := hz
  have hq35 := hz0
  have hq36 := hz1
  have ff37 : z33 k = .inr (4, [.int (iI (0)), .long (lI (0)), .ref (b + (k + 1)), .null]) := (hzf k (by omega) (by omega)).trans ff28
  have ff38 : z33 (k + 1) = .inr (3, [.int (iI (0)), .ref (b + (k + 2))]) := (hzf (k + 1) (by omega) (by omega)).trans ff29
  have ff39 : z33 (k + 2) = ir ct 32 (fun _ => 0) := (hzf (k + 2) (by omega) (by omega)).trans ff30
  have fr40 : ∀ j : Nat, (j < k ∨ k + 5 ≤ j) → z33 j = u j := fun j h0 => (hzf j (by omega) (by omega)).trans (fr32 j h0)
  refine w_putF (C := "LevelledRing$Value") (T := T_V) (M := 4) (ty := (.object "LevelledRing$Poly")) (v := .ref (b + (k + 3))) hx hb hts hinV ty_V tyok_V nm_V hown hK hP hS (k) (by omega) ff37 rfl 3 (by decide) kk13 (fun _ h => h) rfl hnm rfl (by decide +kernel) rfl rfl (Nat.le_of_ble_eq_true rfl) d_V_init_35 (fun H locs hP hS => ?_)
  obtain ⟨u41, hu42, hP⟩ : ∃ zz : Nat → va_E, zz = va_up z33 k (.inr (4, [.int (iI (0)), .long (lI (0)), .ref (b + (k + 1)), .ref (b + (k + 3))])) ∧ va_P D vwCl (wl (k + 5) b zz) H := ⟨_, rfl, hP⟩
  have ff43 : u41 k = .inr (4, [.int (iI (0)), .long (lI (0)), .ref (b + (k + 1)), .ref (b + (k + 3))]) := (congrFun hu42 _).trans up_s
  have ff44 : u41 (k + 1) = .inr (3, [.int (iI (0)), .ref (b + (k + 2))]) := (congrFun hu42 _).trans ((up_n (by omega)).trans ff38)
  have ff45 : u41 (k + 2) = ir ct 32 (fun _ => 0) := (congrFun hu42 _).trans ((up_n (by omega)).trans ff39)
  have ff46 : u41 (k + 3) = .inr (3, [.int (iI (0)), .ref (b + (k + 4))]) := (congrFun hu42 _).trans ((up_n (by omega)).trans hq35)
  have ff47 : u41 (k + 4) = ir ct 32 (fun _ => 0) := (congrFun hu42 _).trans ((up_n (by omega)).trans hq36)
  have fr48 : ∀ j : Nat, (j < k ∨ k + 5 ≤ j) → u41 j = u j := fun j h0 => (congrFun hu42 j).trans ((up_n (by omega)).trans (fr40 j h0))
  refine W.widen (k := 4) (n := 68) (by decide) (by decide) ?_
  exact ret u41 H locs 38 ls ⟨⟨ff43, ff44, ff45, ff46, ff47⟩, fr48⟩ hP hS d_V_init_38
abbrev rm_c_V_copyFrom : Room := { frames := 2, cells := 0, slots := 0, locals := 61 }
set_option maxHeartbeats 4000000 in
set_option maxRecDepth 100000 in
/-- Value.copyFrom(x) -/
theorem c_V_copyFrom (l : Launch) (D : va_G) (ct : Nat → ClassId) (st ke : Nat → Nat) (b N : Nat) (u : Nat → va_E) (k : Nat) (lv mt : Int) (g0 g1 : Int → Int) (hk : k + 4 < N) (hV : VR ct b u k lv mt g0 g1) (kx : Nat) (lvx mtx : Int) (x0 x1 : Int → Int) (hkx : kx + 4 < N) (hVx : VR ct b u kx lvx mtx x0 x1) (hdis : k + 5 ≤ kx ∨ kx + 5 ≤ k) : Met l y_V_copyFrom (w_V_copyFrom) rm_c_V_copyFrom (va_Pc [.ref (b + k), .ref (b + kx)] (fun U => ev D ct st ke b U ∧ va_P D vwCl (wl N b u) U.heap)) (va_Qv (fun z : Nat → va_E => ∃ y0 y1 : Int → Int, VR ct b z k lvx mtx y0 y1 ∧ (∀ j : Int, 0 ≤ j → j < 32 → y0 j = x0 j) ∧ (∀ j : Int, 0 ≤ j → j < 32 → y1 j = x1 j) ∧ ∀ j : Nat, (j < k ∨ k + 5 ≤ j) → z j = u j) (fun (z : Nat → va_E) t => va_P D vwCl (wl (N) b (z)) t.heap) (AA b)) 0 0 (AA b) := by
  refine M_v (cc := c9_V_copyFrom) (maxL := 2) (by decide) rfl (Nat.le_of_ble_eq_true rfl) ?_
  intro p e s m args below meth c Q ls H locs hx hb hml hown hts hnm E hP hS hl ret
  have hl : lv_has ls 2 [(0, .ref (b + k)), (1, .ref (b + kx))] := hl
  have hK := ev_K E
  have kk0 := hts (.fieldLink "LevelledRing$Value" 9 "LevelledRing$Value" "level" "I") (List.mem_cons_of_mem _ t_56)
  have hinV : ∀ w ∈ u_ws "LevelledRing$Value" T_V 4, w ∈ (w_V_copyFrom) := hin_V _
  have kk2 := hts (.fieldLink "LevelledRing$Value" 15 "LevelledRing$Value" "meter" "J") (List.mem_cons_of_mem _ t_58)
  have kk3 := hts (.fieldLink "LevelledRing$Value" 24 "LevelledRing$Value" "c0" "LLevelledRing$Poly;") (List.mem_cons_of_mem _ t_60)
  have kk4 := hts (.fieldLink "LevelledRing$Value" 28 "LevelledRing$Value" "c1" "LLevelledRing$Poly;") (List.mem_cons_of_mem _ t_62)
  have fr0 : ∀ j : Nat, (j < k ∨ k + 5 ≤ j) → u j = u j := fun _ _ => rfl
  refine lv_aload_n hx hb d_V_copyFrom_0 rfl (lv_at hl 0 rfl) ?_
  refine lv_aload_n hx hb d_V_copyFrom_1 rfl (lv_at hl 1 rfl) ?_
  refine w_get (C := "LevelledRing$Value") (T := T_V) (M := 4) hx hb hts hinV hown hK hP (kx) (by omega) hVx.1 rfl 0 (by decide) kk0 (fun _ h => h) rfl d_V_copyFrom_2 ?_
  refine w_put (C := "LevelledRing$Value") (T := T_V) (M := 4) (ty := .int) (v := .int (iI (lvx))) hx hb hts hinV ty_V tyok_V nm_V hown hK hP hS (k) (by omega) hV.1 rfl 0 (by decide) kk0 (fun _ h => h) rfl (by decide +kernel) rfl rfl (Nat.le_of_ble_eq_true rfl) d_V_copyFrom_5 (fun H locs hP hS => ?_)
  obtain ⟨u1, hu2, hP⟩ : ∃ zz : Nat → va_E, zz = va_up u k (.inr (4, [.int (iI (lvx)), .long (lI (mt)), .ref (b + (k + 1)), .ref (b + (k + 3))])) ∧ va_P D vwCl (wl N b zz) H := ⟨_, rfl, hP⟩
  have ff3 : u1 k = .inr (4, [.int (iI (lvx)), .long (lI (mt)), .ref (b + (k + 1)), .ref (b + (k + 3))]) := (congrFun hu2 _).trans up_s
  have ff4 : u1 (k + 1) = .inr (3, [.int (iI (0)), .ref (b + (k + 2))]) := (congrFun hu2 _).trans ((up_n (by omega)).trans hV.2.1)
  have ff5 : u1 (k + 2) = ir ct 32 (g0) := (congrFun hu2 _).trans ((up_n (by omega)).trans hV.2.2.1)
  have ff6 : u1 (k + 3) = .inr (3, [.int (iI (0)), .ref (b + (k + 4))]) := (congrFun hu2 _).trans ((up_n (by omega)).trans hV.2.2.2.1)
  have ff7 : u1 (k + 4) = ir ct 32 (g1) := (congrFun hu2 _).trans ((up_n (by omega)).trans hV.2.2.2.2)
  have ff8 : u1 kx = .inr (4, [.int (iI (lvx)), .long (lI (mtx)), .ref (b + (kx + 1)), .ref (b + (kx + 3))]) := (congrFun hu2 _).trans ((up_n (by omega)).trans hVx.1)
  have ff9 : u1 (kx + 1) = .inr (3, [.int (iI (0)), .ref (b + (kx + 2))]) := (congrFun hu2 _).trans ((up_n (by omega)).trans hVx.2.1)
  have ff10 : u1 (kx + 2) = ir ct 32 (x0) := (congrFun hu2 _).trans ((up_n (by omega)).trans hVx.2.2.1)
  have ff11 : u1 (kx + 3) = .inr (3, [.int (iI (0)), .ref (b + (kx + 4))]) := (congrFun hu2 _).trans ((up_n (by omega)).trans hVx.2.2.2.1)
  have ff12 : u1 (kx + 4) = ir ct 32 (x1) := (congrFun hu2 _).trans ((up_n (by omega)).trans hVx.2.2.2.2)
  have fr13 : ∀ j : Nat, (j < k ∨ k + 5 ≤ j) → u1 j = u j := fun j h0 => (congrFun hu2 j).trans ((up_n (by omega)).trans (fr0 j h0))
  refine lv_aload_n hx hb d_V_copyFrom_8 rfl (lv_at hl 0 rfl) ?_
  refine lv_aload_n hx hb d_V_copyFrom_9 rfl (lv_at hl 1 rfl) ?_
  refine w_get (C := "LevelledRing$Value") (T := T_V) (M := 4) hx hb hts hinV hown hK hP (kx) (by omega) ff8 rfl 1 (by decide) kk2 (fun _ h => h) rfl d_V_copyFrom_10 ?_
  refine w_put (C := "LevelledRing$Value") (T := T_V) (M := 4) (ty := .long) (v := .long (lI (mtx))) hx hb hts hinV ty_V tyok_V nm_V hown hK hP hS (k) (by omega) ff3 rfl 1 (by decide) kk2 (fun _ h => h) rfl (by decide +kernel) rfl rfl (Nat.le_of_ble_eq_true rfl) d_V_copyFrom_13 (fun H locs hP hS => ?_)
  obtain ⟨u14, hu15, hP⟩ : ∃ zz : Nat → va_E, zz = va_up u1 k (.inr (4, [.int (iI (lvx)), .long (lI (mtx)), .ref (b + (k + 1)), .ref (b + (k + 3))])) ∧ va_P D vwCl (wl N b zz) H := ⟨_, rfl, hP⟩
  have ff16 : u14 k = .inr (4, [.int (iI (lvx)), .long (lI (mtx)), .ref (b + (k + 1)), .ref (b + (k + 3))]) := (congrFun hu15 _).trans up_s
  have ff17 : u14 (k + 1) = .inr (3, [.int (iI (0)), .ref (b + (k + 2))]) := (congrFun hu15 _).trans ((up_n (by omega)).trans ff4)
  have ff18 : u14 (k + 2) = ir ct 32 (g0) := (congrFun hu15 _).trans ((up_n (by omega)).trans ff5)
  have ff19 : u14 (k + 3) = .inr (3, [.int (iI (0)), .ref (b + (k + 4))]) := (congrFun hu15 _).trans ((up_n (by omega)).trans ff6)
  have ff20 : u14 (k + 4) = ir ct 32 (g1) := (congrFun hu15 _).trans ((up_n (by omega)).trans ff7)
  have ff21 : u14 kx = .inr (4, [.int (iI (lvx)), .long (lI (mtx)), .ref (b + (kx + 1)), .ref (b + (kx + 3))]) := (congrFun hu15 _).trans ((up_n (by omega)).trans ff8)
  have ff22 : u14 (kx + 1) = .inr (3, [.int (iI (0)), .ref (b + (kx + 2))]) := (congrFun hu15 _).trans ((up_n (by omega)).trans ff9)
  have ff23 : u14 (kx + 2) = ir ct 32 (x0) := (congrFun hu15 _).trans ((up_n (by omega)).trans ff10)
  have ff24 : u14 (kx + 3) = .inr (3, [.int (iI (0)), .ref (b + (kx + 4))]) := (congrFun hu15 _).trans ((up_n (by omega)).trans ff11)
  have ff25 : u14 (kx + 4) = ir ct 32 (x1) := (congrFun hu15 _).trans ((up_n (by omega)).trans ff12)
  have fr26 : ∀ j : Nat, (j < k ∨ k + 5 ≤ j) → u14 j = u j := fun j h0 => (congrFun hu15 j).trans ((up_n (by omega)).trans (fr13 j h0))
  refine lv_aload_n hx hb d_V_copyFrom_16 rfl (lv_at hl 0 rfl) ?_
  refine w_get (C := "LevelledRing$Value") (T := T_V) (M := 4) hx hb hts hinV hown hK hP (k) (by omega) ff16 rfl 2 (by decide) kk3 (fun _ h => h) rfl d_V_copyFrom_17 ?_
  refine lv_aload_n hx hb d_V_copyFrom_20 rfl (lv_at hl 1 rfl) ?_
  refine w_get (C := "LevelledRing$Value") (T := T_V) (M := 4) hx hb hts hinV hown hK hP (kx) (by omega) ff21 rfl 2 (by decide) kk3 (fun _ h => h) rfl d_V_copyFrom_21 ?_
  refine w_callv (va_runV (As := [.ref (b + (kx + 1))]) (rest := []) ⟨hx, hb, hml, hown, hts⟩ (c_copyFrom l D ct st ke b N u14 (k + 1) 0 32 g0 (by omega) (by decide) ff17 ff18 (kx + 1) x0 (by omega) ff22 ff23) (cwV 1 hts (gV t_325 t_225 t_226 t_3 t_227) rfl rfl rfl (by decide +kernel) ⟨Nat.le_of_ble_eq_true rfl, Nat.le_of_ble_eq_true rfl⟩) (pre_V E hP hS (k + 1) (by omega) ff17 rfl) rfl rfl hl.1 rfl (lv_room (Nat.le_of_ble_eq_true rfl)) d_V_copyFrom_24 ⟨(Nat.le_of_ble_eq_true rfl), (Nat.le_of_ble_eq_true rfl)⟩) hS (fun z27 H locs hz hP hS => ?_)
  obtain ⟨y0, hzy0, ey0, hzfy0⟩ := hz
  have ff29 : z27 k = .inr (4, [.int (iI (lvx)), .long (lI (mtx)), .ref (b + (k + 1)), .ref (b + (k + 3))]) := (hzfy0 k (by omega)).trans ff16
  have ff30 : z27 (k + 1) = .inr (3, [.int (iI (0)), .ref (b + (k + 2))]) := (hzfy0 (k + 1) (by omega)).trans ff17
  have ff31 : z27 (k + 3) = .inr (3, [.int (iI (0)), .ref (b + (k + 4))]) := (hzfy0 (k + 3) (by omega)).trans ff19
  have ff32 : z27 (k + 4) = ir ct 32 (g1) := (hzfy0 (k + 4) (by omega)).trans ff20
  have ff33 : z27 kx = .inr (4, [.int (iI (lvx)), .long (lI (mtx)), .ref (b + (kx + 1)), .ref (b + (kx + 3))]) := (hzfy0 kx (by omega)).trans ff21
  have ff34 : z27 (kx + 1) = .inr (3, [.int (iI (0)), .ref (b + (kx + 2))]) := (hzfy0 (kx + 1) (by omega)).trans ff22
  have ff35 : z27 (kx + 2) = ir ct 32 (x0) := (hzfy0 (kx + 2) (by omega)).trans ff23
  have ff36 : z27 (kx + 3) = .inr (3, [.int (iI (0)), .ref (b + (kx + 4))]) := (hzfy0 (kx + 3) (by omega)).trans ff24
  have ff37 : z27 (kx + 4) = ir ct 32 (x1) := (hzfy0 (kx + 4) (by omega)).trans ff25
  have fr38 : ∀ j : Nat, (j < k ∨ k + 5 ≤ j) → z27 j = u j := fun j h0 => (hzfy0 j (by omega)).trans (fr26 j h0)
  refine lv_aload_n hx hb d_V_copyFrom_27 rfl (lv_at hl 0 rfl) ?_
  refine w_get (C := "LevelledRing$Value") (T := T_V) (M := 4) hx hb hts hinV hown hK hP (k) (by omega) ff29 rfl 3 (by decide) kk4 (fun _ h => h) rfl d_V_copyFrom_28 ?_
  refine lv_aload_n hx hb d_V_copyFrom_31 rfl (lv_at hl 1 rfl) ?_
  refine w_get (C := "LevelledRing$Value") (T := T_V) (M := 4) hx hb hts hinV hown hK hP (kx) (by omega) ff33 rfl 3 (by decide) kk4 (fun _ h => h) rfl d_V_copyFrom_32 ?_
  refine w_callv (va_runV (As := [.ref (b + (kx + 3))]) (rest := []) ⟨hx, hb, hml, hown, hts⟩ (c_copyFrom l D ct st ke b N z27 (k + 3) 0 32 g1 (by omega) (by decide) ff31 ff32 (kx + 3) x1 (by omega) ff36 ff37) (cwV 1 hts (gV t_325 t_225 t_226 t_3 t_227) rfl rfl rfl (by decide +kernel) ⟨Nat.le_of_ble_eq_true rfl, Nat.le_of_ble_eq_true rfl⟩) (pre_V E hP hS (k + 3) (by omega) ff31 rfl) rfl rfl hl.1 rfl (lv_room (Nat.le_of_ble_eq_true rfl)) d_V_copyFrom_35 ⟨(Nat.le_of_ble_eq_true rfl), (Nat.le_of_ble_eq_true rfl)⟩) hS (fun z39 H locs hz hP hS => ?_)
  obtain ⟨y1, hzy1, ey1, hzfy1⟩ := hz
  have ff41 : z39 k = .inr (4, [.int (iI (lvx)), .long (lI (mtx)), .ref (b + (k + 1)), .ref (b + (k + 3))]) := (hzfy1 k (by omega)).trans ff29
  have ff42 : z39 (k + 1) = .inr (3, [.int (iI (0)), .ref (b + (k + 2))]) := (hzfy1 (k + 1) (by omega)).trans ff30
  have ff43 : z39 (k + 3) = .inr (3, [.int (iI (0)), .ref (b + (k + 4))]) := (hzfy1 (k + 3) (by omega)).trans ff31
  have ff44 : z39 kx = .inr (4, [.int (iI (lvx)), .long (lI (mtx)), .ref (b + (kx + 1)), .ref (b + (kx + 3))]) := (hzfy1 kx (by omega)).trans ff33
  have ff45 : z39 (kx + 1) = .inr (3, [.int (iI (0)), .ref (b + (kx + 2))]) := (hzfy1 (kx + 1) (by omega)).trans ff34
  have ff46 : z39 (kx + 2) = ir ct 32 (x0) := (hzfy1 (kx + 2) (by omega)).trans ff35
  have ff47 : z39 (kx + 3) = .inr (3, [.int (iI (0)), .ref (b + (kx + 4))]) := (hzfy1 (kx + 3) (by omega)).trans ff36
  have ff48 : z39 (kx + 4) = ir ct 32 (x1) := (hzfy1 (kx + 4) (by omega)).trans ff37
  have ff49 : z39 (k + 2) = ir ct 32 (y0) := (hzfy1 (k + 2) (by omega)).trans hzy0
  have fr50 : ∀ j : Nat, (j < k ∨ k + 5 ≤ j) → z39 j = u j := fun j h0 => (hzfy1 j (by omega)).trans (fr38 j h0)
  exact ret z39 H locs 38 ls ⟨y0, y1, ⟨ff41, ff42, ff49, ff43, hzy1⟩, ey0, ey1, fr50⟩ hP hS d_V_copyFrom_38
abbrev rm_c_tooGreat : Room := { frames := 0, cells := 0, slots := 0, locals := 0 }
set_option maxHeartbeats 4000000 in
set_option maxRecDepth 100000 in
/-- isTooGreat() -/
theorem c_tooGreat (l : Launch) (D : va_G) (ct : Nat → ClassId) (st ke : Nat → Nat) (b N : Nat) (u : Nat → va_E) (k : Nat) (lv mt : Int) (hk : k < N) (f0 : u k = vl b k lv mt) (hl0 : 0 ≤ lv) (hl3 : lv ≤ 3) (hmt : r64 mt) : Met l y_V_isTooGreat (w_V_isTooGreat) rm_c_tooGreat (va_Pc [.ref (b + k)] (fun U => ev D ct st ke b U ∧ va_P D vwCl (wl N b u) U.heap)) (va_Qi (fun (r : Int32) (z : Nat → va_E) => r = iI (tg lv mt) ∧ u = z) (fun (z : Nat → va_E) t => va_P D vwCl (wl (N) b (z)) t.heap) (AA b)) 0 0 (AA b) := by
  refine M_z (cc := c9_V_isTooGreat) (maxL := 1) (by decide) rfl (Nat.le_of_ble_eq_true rfl) ?_
  intro p e s m args below meth c Q ls H locs hx hb hml hown hts hnm E hP hS hl ret
  have hl : lv_has ls 1 [(0, .ref (b + k))] := hl
  have hK := ev_K E
  have kk0 := hts (.fieldLink "LevelledRing$Value" 15 "LevelledRing$Value" "meter" "J") (List.mem_cons_of_mem _ t_58)
  have hinV : ∀ w ∈ u_ws "LevelledRing$Value" T_V 4, w ∈ (w_V_isTooGreat) := hin_V _
  have kk2 : ((.fieldLinkNest "LevelledRing$Value" 35 "LevelledRing" "MODULI" "[J" "LevelledRing") : Cond).before args s = true := va_Nw.use rfl (ev_W E _ nw_9)
  have kk3 := hts (.fieldLink "LevelledRing$Value" 9 "LevelledRing$Value" "level" "I") (List.mem_cons_of_mem _ t_56)
  have kk4 := hts (.constantLong "LevelledRing$Value" 39 2) (List.mem_cons_of_mem _ t_353)
  have fr0 : ∀ j : Nat, u j = u j := fun _  => rfl
  have hlQ := lQ_bd lv
  refine lv_aload_n hx hb d_V_isTooGreat_0 rfl (lv_at hl 0 rfl) ?_
  refine w_get (C := "LevelledRing$Value") (T := T_V) (M := 4) hx hb hts hinV hown hK hP (k) (by omega) f0 rfl 1 (by decide) kk0 (fun _ h => h) rfl d_V_isTooGreat_1 ?_
  refine va_getsN hx hb (ev_Z1 E) hS hown kk2 (fun _ h => h) d_V_isTooGreat_4 ?_
  refine lv_aload_n hx hb d_V_isTooGreat_7 rfl (lv_at hl 0 rfl) ?_
  refine w_get (C := "LevelledRing$Value") (T := T_V) (M := 4) hx hb hts hinV hown hK hP (k) (by omega) f0 rfl 0 (by decide) kk3 (fun _ h => h) rfl d_V_isTooGreat_8 ?_
  refine x_tl hx hb (ev_T1 E) hS (by omega) (by omega) (by decide) d_V_isTooGreat_11 ?_
  refine lv_lconst (v := lI 1) hx hb d_V_isTooGreat_12 rfl ?_
  refine x_lsub hx hb d_V_isTooGreat_13 ?_
  refine lv_ldc2 hx hb hown kk4 d_V_isTooGreat_14 ?_
  refine x_l (y := lI (2)) (by decide +kernel) ?_
  refine x_ldivP hx hb ⟨by omega, by omega⟩ ⟨by omega, by omega⟩ (by omega) (by omega) d_V_isTooGreat_17 ?_
  refine x_lcmp hx hb hmt ⟨by omega, by omega⟩ d_V_isTooGreat_18 ?_
  refine x_if_le (tgt := 26) hx hb (cmpz_r _ _) d_V_isTooGreat_19 (by decide) (fun hc => ?_) (fun hc => ?_)
  · have hc := cmpz_le.mp hc
    refine lv_iconst (v := iI (0)) hx hb d_V_isTooGreat_26 rfl ?_
    refine x_ie (y := tg lv mt) (by unfold tg; rw [if_neg (by omega)]) ?_
    exact ret _ u H locs 27 ls (tg_01 _ _) ⟨rfl, rfl⟩ hP hS d_V_isTooGreat_27
  · have hc : ¬ mt ≤ (lQ lv - 1) / 2 := fun h => by have := cmpz_le.mpr h; omega
    refine lv_iconst (v := iI (1)) hx hb d_V_isTooGreat_22 rfl ?_
    refine lv_goto (tgt := 27) hx hb d_V_isTooGreat_23 (by decide) ?_
    refine x_ie (y := tg lv mt) (by unfold tg; rw [if_pos (by omega)]) ?_
    exact ret _ u H locs 27 ls (tg_01 _ _) ⟨rfl, rfl⟩ hP hS d_V_isTooGreat_27
abbrev rm_c_lowerOnce : Room := { frames := 2, cells := 0, slots := 0, locals := 52 }
set_option maxHeartbeats 4000000 in
set_option maxRecDepth 100000 in
/-- lowerOnce() -/
theorem c_lowerOnce (l : Launch) (D : va_G) (ct : Nat → ClassId) (st ke : Nat → Nat) (b N : Nat) (u : Nat → va_E) (k : Nat) (lv mt : Int) (g0 g1 : Int → Int) (hk : k + 4 < N) (hV : VR ct b u k lv mt g0 g1) (hl0 : 0 ≤ lv) (hl3 : lv ≤ 3) (hm0 : 0 ≤ mt) (hm1 : mt ≤ 4000000000000000000) (P0 P1 : Int → Int) (hP0 : Rep g0 0 lv P0) (hP1 : Rep g1 0 lv P1) : Met l y_V_lowerOnce (w_V_lowerOnce) rm_c_lowerOnce (va_Pc [.ref (b + k)] (fun U => ev D ct st ke b U ∧ va_P D vwCl (wl N b u) U.heap)) (va_Qi (fun (r : Int32) (z : Nat → va_E) => (lv = 0 ∧ r = iI 0 ∧ u = z) ∨ (0 < lv ∧ r = iI (1 - tg (lv - 1) (mt / lq lv + 77)) ∧ ∃ y0 y1 : Int → Int, VR ct b z k (lv - 1) (mt / lq lv + 77) y0 y1 ∧ Rep y0 0 (lv - 1) (fun i => low lv (P0 i)) ∧ Rep y1 0 (lv - 1) (fun i => low lv (P1 i)) ∧ ∀ j : Nat, (j < k ∨ k + 5 ≤ j) → z j = u j)) (fun (z : Nat → va_E) t => va_P D vwCl (wl (N) b (z)) t.heap) (AA b)) 0 0 (AA b) := by
  refine M_z (cc := c9_V_lowerOnce) (maxL := 1) (by decide) rfl (Nat.le_of_ble_eq_true rfl) ?_
  intro p e s m args below meth c Q ls H locs hx hb hml hown hts hnm E hP hS hl ret
  have hl : lv_has ls 1 [(0, .ref (b + k))] := hl
  have hK := ev_K E
  have kk0 := hts (.fieldLink "LevelledRing$Value" 9 "LevelledRing$Value" "level" "I") (List.mem_cons_of_mem _ t_56)
  have hinV : ∀ w ∈ u_ws "LevelledRing$Value" T_V 4, w ∈ (w_V_lowerOnce) := hin_V _
  have kk2 := hts (.fieldLink "LevelledRing$Value" 15 "LevelledRing$Value" "meter" "J") (List.mem_cons_of_mem _ t_58)
  have kk3 : ((.fieldLinkNest "LevelledRing$Value" 41 "LevelledRing" "PRIMES" "[I" "LevelledRing") : Cond).before args s = true := va_Nw.use rfl (ev_W E _ nw_6)
  have kk4 := hts (.constantLong "LevelledRing$Value" 45 77) (List.mem_cons_of_mem _ t_335)
  have kk5 := hts (.fieldLink "LevelledRing$Value" 24 "LevelledRing$Value" "c0" "LLevelledRing$Poly;") (List.mem_cons_of_mem _ t_60)
  have kk6 := hts (.fieldLink "LevelledRing$Value" 28 "LevelledRing$Value" "c1" "LLevelledRing$Poly;") (List.mem_cons_of_mem _ t_62)
  have fr0 : ∀ j : Nat, (j < k ∨ k + 5 ≤ j) → u j = u j := fun _ _ => rfl
  refine lv_aload_n hx hb d_V_lowerOnce_0 rfl (lv_at hl 0 rfl) ?_
  refine w_get (C := "LevelledRing$Value") (T := T_V) (M := 4) hx hb hts hinV hown hK hP (k) (by omega) hV.1 rfl 0 (by decide) kk0 (fun _ h => h) rfl d_V_lowerOnce_1 ?_
  refine x_if_gt (tgt := 9) hx hb ⟨by omega, by omega⟩ d_V_lowerOnce_4 (by decide) (fun hc => ?_) (fun hc => ?_)
  · have hlq := lq_bd lv
    have hdv0 : 0 ≤ mt / lq lv := Int.ediv_nonneg hm0 (by omega)
    have hdv1 : mt / lq lv ≤ mt := Int.ediv_le_self _ hm0
    refine lv_aload_n hx hb d_V_lowerOnce_9 rfl (lv_at hl 0 rfl) ?_
    refine lv_aload_n hx hb d_V_lowerOnce_10 rfl (lv_at hl 0 rfl) ?_
    refine w_get (C := "LevelledRing$Value") (T := T_V) (M := 4) hx hb hts hinV hown hK hP (k) (by omega) hV.1 rfl 1 (by decide) kk2 (fun _ h => h) rfl d_V_lowerOnce_11 ?_
    refine va_getsN hx hb (ev_Z0 E) hS hown kk3 (fun _ h => h) d_V_lowerOnce_14 ?_
    refine lv_aload_n hx hb d_V_lowerOnce_17 rfl (lv_at hl 0 rfl) ?_
    refine w_get (C := "LevelledRing$Value") (T := T_V) (M := 4) hx hb hts hinV hown hK hP (k) (by omega) hV.1 rfl 0 (by decide) kk0 (fun _ h => h) rfl d_V_lowerOnce_18 ?_
    refine x_ti hx hb (ev_T0 E) hS (by omega) (by omega) (by decide) d_V_lowerOnce_21 ?_
    refine x_i2l hx hb ⟨by omega, by omega⟩ d_V_lowerOnce_22 ?_
    refine x_ldivP hx hb ⟨by omega, by omega⟩ ⟨by omega, by omega⟩ (by omega) (by omega) d_V_lowerOnce_23 ?_
    refine lv_ldc2 hx hb hown kk4 d_V_lowerOnce_24 ?_
    refine x_l (y := lI (77)) (by decide +kernel) ?_
    refine x_ladd hx hb d_V_lowerOnce_27 ?_
    refine w_put (C := "LevelledRing$Value") (T := T_V) (M := 4) (ty := .long) (v := .long (lI (((mt) / (lq (lv))) + (77)))) hx hb hts hinV ty_V tyok_V nm_V hown hK hP hS (k) (by omega) hV.1 rfl 1 (by decide) kk2 (fun _ h => h) rfl (by decide +kernel) rfl rfl (Nat.le_of_ble_eq_true rfl) d_V_lowerOnce_28 (fun H locs hP hS => ?_)
    obtain ⟨u1, hu2, hP⟩ : ∃ zz : Nat → va_E, zz = va_up u k (.inr (4, [.int (iI (lv)), .long (lI (((mt) / (lq (lv))) + (77))), .ref (b + (k + 1)), .ref (b + (k + 3))])) ∧ va_P D vwCl (wl N b zz) H := ⟨_, rfl, hP⟩
    have ff3 : u1 k = .inr (4, [.int (iI (lv)), .long (lI (((mt) / (lq (lv))) + (77))), .ref (b + (k + 1)), .ref (b + (k + 3))]) := (congrFun hu2 _).trans up_s
    have ff4 : u1 (k + 1) = .inr (3, [.int (iI (0)), .ref (b + (k + 2))]) := (congrFun hu2 _).trans ((up_n (by omega)).trans hV.2.1)
    have ff5 : u1 (k + 2) = ir ct 32 (g0) := (congrFun hu2 _).trans ((up_n (by omega)).trans hV.2.2.1)
    have ff6 : u1 (k + 3) = .inr (3, [.int (iI (0)), .ref (b + (k + 4))]) := (congrFun hu2 _).trans ((up_n (by omega)).trans hV.2.2.2.1)
    have ff7 : u1 (k + 4) = ir ct 32 (g1) := (congrFun hu2 _).trans ((up_n (by omega)).trans hV.2.2.2.2)
    have fr8 : ∀ j : Nat, (j < k ∨ k + 5 ≤ j) → u1 j = u j := fun j h0 => (congrFun hu2 j).trans ((up_n (by omega)).trans (fr0 j h0))
    refine lv_aload_n hx hb d_V_lowerOnce_31 rfl (lv_at hl 0 rfl) ?_
    refine w_get (C := "LevelledRing$Value") (T := T_V) (M := 4) hx hb hts hinV hown hK hP (k) (by omega) ff3 rfl 2 (by decide) kk5 (fun _ h => h) rfl d_V_lowerOnce_32 ?_
    refine lv_aload_n hx hb d_V_lowerOnce_35 rfl (lv_at hl 0 rfl) ?_
    refine w_get (C := "LevelledRing$Value") (T := T_V) (M := 4) hx hb hts hinV hown hK hP (k) (by omega) ff3 rfl 0 (by decide) kk0 (fun _ h => h) rfl d_V_lowerOnce_36 ?_
    refine w_callv (va_runV (As := [.int (iI (lv))]) (rest := []) ⟨hx, hb, hml, hown, hts⟩ (c_lowerFrom l D ct st ke b N u1 (k + 1) g0 (by omega) ff4 ff5 lv (by omega) hl3 P0 hP0) (cwV 1 hts (gV t_336 t_337 t_338 t_3 t_339) rfl rfl rfl (by decide +kernel) ⟨Nat.le_of_ble_eq_true rfl, Nat.le_of_ble_eq_true rfl⟩) (pre_V E hP hS (k + 1) (by omega) ff4 rfl) rfl rfl hl.1 rfl (lv_room (Nat.le_of_ble_eq_true rfl)) d_V_lowerOnce_39 ⟨(Nat.le_of_ble_eq_true rfl), (Nat.le_of_ble_eq_true rfl)⟩) hS (fun z9 H locs hz hP hS => ?_)
    obtain ⟨y0, hzy0, ey0, hzfy0⟩ := hz
    have ff11 : z9 k = .inr (4, [.int (iI (lv)), .long (lI (((mt) / (lq (lv))) + (77))), .ref (b + (k + 1)), .ref (b + (k + 3))]) := (hzfy0 k (by omega)).trans ff3
    have ff12 : z9 (k + 1) = .inr (3, [.int (iI (0)), .ref (b + (k + 2))]) := (hzfy0 (k + 1) (by omega)).trans ff4
    have ff13 : z9 (k + 3) = .inr (3, [.int (iI (0)), .ref (b + (k + 4))]) := (hzfy0 (k + 3) (by omega)).trans ff6
    have ff14 : z9 (k + 4) = ir ct 32 (g1) := (hzfy0 (k + 4) (by omega)).trans ff7
    have fr15 : ∀ j : Nat, (j < k ∨ k + 5 ≤ j) → z9 j = u j := fun j h0 => (hzfy0 j (by omega)).trans (fr8 j h0)
    refine lv_aload_n hx hb d_V_lowerOnce_42 rfl (lv_at hl 0 rfl) ?_
    refine w_get (C := "LevelledRing$Value") (T := T_V) (M := 4) hx hb hts hinV hown hK hP (k) (by omega) ff11 rfl 3 (by decide) kk6 (fun _ h => h) rfl d_V_lowerOnce_43 ?_
    refine lv_aload_n hx hb d_V_lowerOnce_46 rfl (lv_at hl 0 rfl) ?_
    refine w_get (C := "LevelledRing$Value") (T := T_V) (M := 4) hx hb hts hinV hown hK hP (k) (by omega) ff11 rfl 0 (by decide) kk0 (fun _ h => h) rfl d_V_lowerOnce_47 ?_
    refine w_callv (va_runV (As := [.int (iI (lv))]) (rest := []) ⟨hx, hb, hml, hown, hts⟩ (c_lowerFrom l D ct st ke b N z9 (k + 3) g1 (by omega) ff13 ff14 lv (by omega) hl3 P1 hP1) (cwV 1 hts (gV t_336 t_337 t_338 t_3 t_339) rfl rfl rfl (by decide +kernel) ⟨Nat.le_of_ble_eq_true rfl, Nat.le_of_ble_eq_true rfl⟩) (pre_V E hP hS (k + 3) (by omega) ff13 rfl) rfl rfl hl.1 rfl (lv_room (Nat.le_of_ble_eq_true rfl)) d_V_lowerOnce_50 ⟨(Nat.le_of_ble_eq_true rfl), (Nat.le_of_ble_eq_true rfl)⟩) hS (fun z16 H locs hz hP hS => ?_)
    obtain ⟨y1, hzy1, ey1, hzfy1⟩ := hz
    have ff18 : z16 k = .inr (4, [.int (iI (lv)), .long (lI (((mt) / (lq (lv))) + (77))), .ref (b + (k + 1)), .ref (b + (k + 3))]) := (hzfy1 k (by omega)).trans ff11
    have ff19 : z16 (k + 1) = .inr (3, [.int (iI (0)), .ref (b + (k + 2))]) := (hzfy1 (k + 1) (by omega)).trans ff12
    have ff20 : z16 (k + 3) = .inr (3, [.int (iI (0)), .ref (b + (k + 4))]) := (hzfy1 (k + 3) (by omega)).trans ff13
    have ff21 : z16 (k + 2) = ir ct 32 (y0) := (hzfy1 (k + 2) (by omega)).trans hzy0
    have fr22 : ∀ j : Nat, (j < k ∨ k + 5 ≤ j) → z16 j = u j := fun j h0 => (hzfy1 j (by omega)).trans (fr15 j h0)
    refine lv_aload_n hx hb d_V_lowerOnce_53 rfl (lv_at hl 0 rfl) ?_
    refine lv_dup hx hb d_V_lowerOnce_54 rfl ?_
    refine w_get (C := "LevelledRing$Value") (T := T_V) (M := 4) hx hb hts hinV hown hK hP (k) (by omega) ff18 rfl 0 (by decide) kk0 (fun _ h => h) rfl d_V_lowerOnce_55 ?_
    refine lv_iconst (v := iI (1)) hx hb d_V_lowerOnce_58 rfl ?_
    refine x_isub hx hb d_V_lowerOnce_59 ?_
    refine w_put (C := "LevelledRing$Value") (T := T_V) (M := 4) (ty := .int) (v := .int (iI (lv - 1))) hx hb hts hinV ty_V tyok_V nm_V hown hK hP hS (k) (by omega) ff18 rfl 0 (by decide) kk0 (fun _ h => h) rfl (by decide +kernel) rfl rfl (Nat.le_of_ble_eq_true rfl) d_V_lowerOnce_60 (fun H locs hP hS => ?_)
    obtain ⟨u23, hu24, hP⟩ : ∃ zz : Nat → va_E, zz = va_up z16 k (.inr (4, [.int (iI (lv - 1)), .long (lI (((mt) / (lq (lv))) + (77))), .ref (b + (k + 1)), .ref (b + (k + 3))])) ∧ va_P D vwCl (wl N b zz) H := ⟨_, rfl, hP⟩
    have ff25 : u23 k = .inr (4, [.int (iI (lv - 1)), .long (lI (((mt) / (lq (lv))) + (77))), .ref (b + (k + 1)), .ref (b + (k + 3))]) := (congrFun hu24 _).trans up_s
    have ff26 : u23 (k + 1) = .inr (3, [.int (iI (0)), .ref (b + (k + 2))]) := (congrFun hu24 _).trans ((up_n (by omega)).trans ff19)
    have ff27 : u23 (k + 3) = .inr (3, [.int (iI (0)), .ref (b + (k + 4))]) := (congrFun hu24 _).trans ((up_n (by omega)).trans ff20)
    have ff28 : u23 (k + 2) = ir ct 32 (y0) := (congrFun hu24 _).trans ((up_n (by omega)).trans ff21)
    have ff29 : u23 (k + 4) = ir ct 32 (y1) := (congrFun hu24 _).trans ((up_n (by omega)).trans hzy1)
    have fr30 : ∀ j : Nat, (j < k ∨ k + 5 ≤ j) → u23 j = u j := fun j h0 => (congrFun hu24 j).trans ((up_n (by omega)).trans (fr22 j h0))
    refine lv_aload_n hx hb d_V_lowerOnce_63 rfl (lv_at hl 0 rfl) ?_
    refine w_calli (va_runV (As := []) (rest := []) ⟨hx, hb, hml, hown, hts⟩ (c_tooGreat l D ct st ke b N u23 k (lv - 1) (((mt) / (lq (lv))) + (77)) (by omega) ff25 (by omega) (by omega) ⟨by omega, by omega⟩) (cwV 0 hts (gV t_347 t_348 t_349 t_4 t_350) rfl rfl rfl (by decide +kernel) ⟨Nat.le_of_ble_eq_true rfl, Nat.le_of_ble_eq_true rfl⟩) (pre_V E hP hS (k) (by omega) ff25 rfl) rfl rfl hl.1 rfl (lv_room (Nat.le_of_ble_eq_true rfl)) d_V_lowerOnce_64 ⟨(Nat.le_of_ble_eq_true rfl), (Nat.le_of_ble_eq_true rfl)⟩) hS (fun r32 z31 H locs hz hP hS => ?_)
    obtain ⟨rfl, rfl⟩ := hz
    have htg := tg_01 (lv - 1) (((mt) / (lq (lv))) + (77))
    refine x_if_ne (tgt := 74) hx hb ⟨by omega, by omega⟩ d_V_lowerOnce_67 (by decide) (fun hc => ?_) (fun hc => ?_)
    · have hc : tg (lv - 1) (mt / lq lv + 77) ≠ 0 := hc
      have htg : tg (lv - 1) (mt / lq lv + 77) = 0 ∨ tg (lv - 1) (mt / lq lv + 77) = 1 := htg
      refine lv_iconst (v := iI (0)) hx hb d_V_lowerOnce_74 rfl ?_
      exact ret 0 u23 H locs 75 ls (by omega) (Or.inr ⟨by omega, by rw [show (1 : Int) - tg (lv - 1) (mt / lq lv + 77) = 0 from by omega], y0, y1, ⟨ff25, ff26, ff28, ff27, ff29⟩, ey0, ey1, fr30⟩) hP hS d_V_lowerOnce_75
    · have hc : tg (lv - 1) (mt / lq lv + 77) = 0 := hc
      refine lv_iconst (v := iI (1)) hx hb d_V_lowerOnce_70 rfl ?_
      refine lv_goto (tgt := 75) hx hb d_V_lowerOnce_71 (by decide) ?_
      exact ret 1 u23 H locs 75 ls (by omega) (Or.inr ⟨by omega, by rw [show (1 : Int) - tg (lv - 1) (mt / lq lv + 77) = 1 from by omega], y0, y1, ⟨ff25, ff26, ff28, ff27, ff29⟩, ey0, ey1, fr30⟩) hP hS d_V_lowerOnce_75
  · refine lv_iconst (v := iI (0)) hx hb d_V_lowerOnce_7 rfl ?_
    exact ret 0 u H locs 8 ls (Or.inl rfl) (Or.inl ⟨by omega, rfl, rfl⟩) hP hS d_V_lowerOnce_8
