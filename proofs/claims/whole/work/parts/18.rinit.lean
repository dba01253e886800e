abbrev rm_c_R_init : Room := { frames := 4, cells := 235, slots := 3680, locals := 100 }
set_option maxHeartbeats 4000000 in
set_option maxRecDepth 100000 in
/-- LevelledRing(z0) -/
theorem c_R_init (l : Launch) (D : va_G) (ct : Nat → ClassId) (st ke : Nat → Nat) (b : Nat) (u : Nat → va_E) (z0 : Int32) (f0 : u 0 = .inr (5, [.null, .null, .null, .null, .int (iI (0)), .int (iI (0)), .null, .null, .null, .null, .null])) : Met l y_R_init (w_R_init) rm_c_R_init (va_Pc [.ref (b + 0), .int z0] (fun U => ev D ct st ke b U ∧ U.heap.size = b + 1 ∧ va_P D vwCl (wl 1 b u) U.heap)) (va_Qv (fun z : Nat → va_E => ∀ (G : Int → Gt) (V : Int → Val), CS ct b ke z (kyO z0) 0 0 (fun _ => 0) G V) (fun (z : Nat → va_E) t => va_P D vwCl (wl (236) b (z)) t.heap) (AA b)) 235 3680 (AA b) := by
  refine M_c (cc := c9_R_init) (maxL := 3) (by decide) rfl (Nat.le_of_ble_eq_true rfl) ?_
  intro p e s m args below meth c Q ls H locs hx hb hml hown hts hnm E hsz hP hS hl ret
  have hl : lv_has ls 3 [(0, .ref (b + 0)), (1, .int z0)] := hl
  have hK := ev_K E
  have kk0 := hts (.methodLink "LevelledRing" 3 objectInit) (List.mem_cons_of_mem _ t_18)
  have kk1 := hts (.instanceMethod objectInit) (List.mem_cons_of_mem _ t_19)
  have kk2 := hts (.code objectInit ⟨#[0xb1]⟩ 1 none) (List.mem_cons_of_mem _ t_20)
  have kk3 := hts (.classLink "LevelledRing" 9 "LevelledRing$Drawing") (List.mem_cons_of_mem _ t_21)
  have kk4 := hts (.instantiable "LevelledRing$Drawing" 1) (List.mem_cons_of_mem _ t_22)
  have kk5 := hts (.initialized "LevelledRing$Drawing") (List.mem_cons_of_mem _ t_2)
  have hinD : ∀ w ∈ u_ws "LevelledRing$Drawing" T_D 1, w ∈ (w_R_init) := hin_D _
  have kk7 := hts (.instanceMethod y_D_init) (List.mem_cons_of_mem _ t_24)
  have kn8 : va_Nw (.methodLinkNest "LevelledRing" 11 y_D_init "LevelledRing") s := ev_W E _ nw_0
  have kk9 := hts (.fieldLink "LevelledRing" 12 "LevelledRing" "drawing" "LLevelledRing$Drawing;") (List.mem_cons_of_mem _ t_173)
  have hinR : ∀ w ∈ u_ws "LevelledRing" T_R 11, w ∈ (w_R_init) := hin_R _
  have kk11 := hts (.classLink "LevelledRing" 16 "LevelledRing$Poly") (List.mem_cons_of_mem _ t_31)
  have kk12 := hts (.instantiable "LevelledRing$Poly" 2) (List.mem_cons_of_mem _ t_32)
  have kk13 := hts (.initialized "LevelledRing$Poly") (List.mem_cons_of_mem _ t_3)
  have hinP : ∀ w ∈ u_ws "LevelledRing$Poly" T_P 2, w ∈ (w_R_init) := hin_P _
  have kk15 := hts (.instanceMethod y_P_init) (List.mem_cons_of_mem _ t_34)
  have kk16 := hts (.methodLink "LevelledRing" 18 y_P_init) (List.mem_cons_of_mem _ t_33)
  have kk17 := hts (.fieldLink "LevelledRing" 21 "LevelledRing" "message" "LLevelledRing$Poly;") (List.mem_cons_of_mem _ t_175)
  have kk18 := hts (.classLink "LevelledRing" 25 "LevelledRing$Gate") (List.mem_cons_of_mem _ t_46)
  have kk19 := hts (.fieldLink "LevelledRing" 27 "LevelledRing" "gates" "[LLevelledRing$Gate;") (List.mem_cons_of_mem _ t_176)
  have kk20 := hts (.fieldLink "LevelledRing" 31 "LevelledRing" "gateCount" "I") (List.mem_cons_of_mem _ t_177)
  have kk21 := hts (.fieldLink "LevelledRing" 35 "LevelledRing" "valueCount" "I") (List.mem_cons_of_mem _ t_178)
  have kk22 := hts (.classLink "LevelledRing" 38 "LevelledRing$Value") (List.mem_cons_of_mem _ t_48)
  have kk23 := hts (.instantiable "LevelledRing$Value" 4) (List.mem_cons_of_mem _ t_49)
  have kk24 := hts (.initialized "LevelledRing$Value") (List.mem_cons_of_mem _ t_4)
  have hinV : ∀ w ∈ u_ws "LevelledRing$Value" T_V 4, w ∈ (w_R_init) := hin_V _
  have kk26 := hts (.instanceMethod y_V_init) (List.mem_cons_of_mem _ t_51)
  have kn27 : va_Nw (.methodLinkNest "LevelledRing" 40 y_V_init "LevelledRing") s := ev_W E _ nw_1
  have kk28 := hts (.fieldLink "LevelledRing" 41 "LevelledRing" "left" "LLevelledRing$Value;") (List.mem_cons_of_mem _ t_179)
  have kk29 := hts (.fieldLink "LevelledRing" 45 "LevelledRing" "right" "LLevelledRing$Value;") (List.mem_cons_of_mem _ t_180)
  have kk30 := hts (.fieldLink "LevelledRing" 48 "LevelledRing" "square" "LLevelledRing$Poly;") (List.mem_cons_of_mem _ t_181)
  have kk31 := hts (.fieldLink "LevelledRing" 51 "LevelledRing" "digit" "LLevelledRing$Poly;") (List.mem_cons_of_mem _ t_182)
  have kk32 := hts (.fieldLink "LevelledRing" 54 "LevelledRing" "opened" "LLevelledRing$Poly;") (List.mem_cons_of_mem _ t_183)
  have kk33 := hts (.classLink "LevelledRing" 61 "LevelledRing$Keys") (List.mem_cons_of_mem _ t_77)
  have kk34 := hts (.instantiable "LevelledRing$Keys" 3) (List.mem_cons_of_mem _ t_78)
  have kk35 := hts (.initialized "LevelledRing$Keys") (List.mem_cons_of_mem _ t_5)
  have hinK : ∀ w ∈ u_ws "LevelledRing$Keys" T_K 3, w ∈ (w_R_init) := hin_K _
  have kk37 := hts (.instanceMethod y_K_init) (List.mem_cons_of_mem _ t_80)
  have kk38 := hts (.methodLink "LevelledRing" 63 y_K_init) (List.mem_cons_of_mem _ t_79)
  have kk39 := hts (.fieldLink "LevelledRing" 66 "LevelledRing" "keys" "LLevelledRing$Keys;") (List.mem_cons_of_mem _ t_174)
  have kk40 := hts (.instantiable "LevelledRing$Gate" 6) (List.mem_cons_of_mem _ t_137)
  have kk41 := hts (.initialized "LevelledRing$Gate") (List.mem_cons_of_mem _ t_6)
  have hinG : ∀ w ∈ u_ws "LevelledRing$Gate" T_G 6, w ∈ (w_R_init) := hin_G _
  have kk43 := hts (.instanceMethod y_G_init) (List.mem_cons_of_mem _ t_139)
  have kn44 : va_Nw (.methodLinkNest "LevelledRing" 70 y_G_init "LevelledRing") s := ev_W E _ nw_4
  have fr0 : ∀ j : Nat, (j < 0) → u j = u j := fun _ _ => rfl
  refine lv_aload_n hx hb d_R_init_0 rfl (lv_at hl 0 rfl) ?_
  refine W.objInit hx hb hown kk0 kk1 kk2 rfl (by rw [hml]; exact hl.1) rfl d_R_init_1 (Nat.le_of_ble_eq_true rfl) (Nat.le_of_ble_eq_true rfl) ?_
  refine W.eq (g2 := F0 m 4 ls []) rfl ?_
  refine lv_aload_n hx hb d_R_init_4 rfl (lv_at hl 0 rfl) ?_
  refine w_new (C := "LevelledRing$Drawing") (T := T_D) (M := 1) (ci := 0) (fs := [.int (iI (0))]) hx hb hts hinD ty_D tyok_D hown kk3 kk4 kk5 hK hP hS (ev_b E) (by omega) rfl (fun j hj => by rcases (show j = 0 by omega) with rfl <;> rfl) (Nat.le_of_ble_eq_true rfl) (Nat.le_of_ble_eq_true rfl) d_R_init_5 (fun H hP hS => ?_)
  obtain ⟨u1, hu2, hP⟩ : ∃ zz : Nat → va_E, zz = va_up u 1 (.inr (0, [.int (iI (0))])) ∧ va_P D vwCl (wl 2 b zz) H := ⟨_, rfl, hP⟩
  have ff3 : u1 0 = .inr (5, [.null, .null, .null, .null, .int (iI (0)), .int (iI (0)), .null, .null, .null, .null, .null]) := (congrFun hu2 _).trans ((up_n (by omega)).trans f0)
  have ff4 : u1 1 = .inr (0, [.int (iI (0))]) := (congrFun hu2 _).trans up_s
  have fr5 : ∀ j : Nat, (j < 0) → u1 j = u j := fun j h0 => (congrFun hu2 j).trans ((up_n (by omega)).trans (fr0 j h0))
  refine lv_dup hx hb d_R_init_8 rfl ?_
  refine w_callv (va_runIN (As := []) (rest := [.ref (b + 1), .ref (b + 0)]) ⟨hx, hb, hml, hown, hts⟩ (c_D_init l D ct st ke b 2 u1 1 (by decide) (iI 0) ff4) ⟨va_cnB 0 hts (gC t_25) rfl rfl rfl kn8 kk5 (by decide +kernel) ⟨Nat.le_of_ble_eq_true rfl, Nat.le_of_ble_eq_true rfl⟩, rfl, kk7⟩ (pre_S E hP hS) rfl rfl hl.1 rfl (lv_room (Nat.le_of_ble_eq_true rfl)) d_R_init_9 ⟨(Nat.le_of_ble_eq_true rfl), (Nat.le_of_ble_eq_true rfl)⟩) hS (fun z6 H locs hz hP hS => ?_)
  obtain ⟨hd1, hd2⟩ := hz
  have ff8 : z6 0 = .inr (5, [.null, .null, .null, .null, .int (iI (0)), .int (iI (0)), .null, .null, .null, .null, .null]) := (hd2 0 (by omega)).trans ff3
  have fr9 : ∀ j : Nat, (j < 0) → z6 j = u j := fun j h0 => (hd2 j (by omega)).trans (fr5 j h0)
  refine w_putF (C := "LevelledRing") (T := T_R) (M := 11) (ty := (.object "LevelledRing$Drawing")) (v := .ref (b + 1)) hx hb hts hinR ty_R tyok_R nm_R hown hK hP hS (0) (by omega) ff8 rfl 0 (by decide) kk9 (fun _ h => h) rfl hnm rfl (by decide +kernel) rfl rfl (Nat.le_of_ble_eq_true rfl) d_R_init_12 (fun H locs hP hS => ?_)
  obtain ⟨u10, hu11, hP⟩ : ∃ zz : Nat → va_E, zz = va_up z6 0 (.inr (5, [.ref (b + 1), .null, .null, .null, .int (iI (0)), .int (iI (0)), .null, .null, .null, .null, .null])) ∧ va_P D vwCl (wl 2 b zz) H := ⟨_, rfl, hP⟩
  have ff12 : u10 0 = .inr (5, [.ref (b + 1), .null, .null, .null, .int (iI (0)), .int (iI (0)), .null, .null, .null, .null, .null]) := (congrFun hu11 _).trans up_s
  have ff13 : u10 1 = .inr (0, [.int (0)]) := (congrFun hu11 _).trans ((up_n (by omega)).trans hd1)
  have fr14 : ∀ j : Nat, (j < 0) → u10 j = u j := fun j h0 => (congrFun hu11 j).trans ((up_n (by omega)).trans (fr9 j h0))
  refine lv_aload_n hx hb d_R_init_15 rfl (lv_at hl 0 rfl) ?_
  refine w_new (C := "LevelledRing$Poly") (T := T_P) (M := 2) (ci := 3) (fs := [.int (iI (0)), .null]) hx hb hts hinP ty_P tyok_P hown kk11 kk12 kk13 hK hP hS (ev_b E) (by omega) rfl (fun j hj => by rcases (show j = 0 ∨ j = 1 by omega) with rfl | rfl <;> rfl) (Nat.le_of_ble_eq_true rfl) (Nat.le_of_ble_eq_true rfl) d_R_init_16 (fun H hP hS => ?_)
  obtain ⟨u15, hu16, hP⟩ : ∃ zz : Nat → va_E, zz = va_up u10 2 (.inr (3, [.int (iI (0)), .null])) ∧ va_P D vwCl (wl 3 b zz) H := ⟨_, rfl, hP⟩
  have ff17 : u15 0 = .inr (5, [.ref (b + 1), .null, .null, .null, .int (iI (0)), .int (iI (0)), .null, .null, .null, .null, .null]) := (congrFun hu16 _).trans ((up_n (by omega)).trans ff12)
  have ff18 : u15 1 = .inr (0, [.int (0)]) := (congrFun hu16 _).trans ((up_n (by omega)).trans ff13)
  have ff19 : u15 2 = .inr (3, [.int (iI (0)), .null]) := (congrFun hu16 _).trans up_s
  have fr20 : ∀ j : Nat, (j < 0) → u15 j = u j := fun j h0 => (congrFun hu16 j).trans ((up_n (by omega)).trans (fr14 j h0))
  refine lv_dup hx hb d_R_init_19 rfl ?_
  refine lv_iconst (v := iI (1)) hx hb d_R_init_20 rfl ?_
  refine w_sz hP (by omega) (by omega) (fun hHs => ?_)
  refine w_callv (va_runI (As := [.int (iI (1))]) (rest := [.ref (b + 2), .ref (b + 0)]) ⟨hx, hb, hml, hown, hts⟩ (c_P_init l D ct st ke b u15 (2) 8 1 (Or.inl ⟨rfl, rfl⟩) ff19) (cwI 1 hts (gC t_35) rfl rfl rfl kk13 kk16 kk15 rfl (by decide +kernel) ⟨Nat.le_of_ble_eq_true rfl, Nat.le_of_ble_eq_true rfl⟩) (pre_C E hP hS hHs) rfl rfl hl.1 rfl (lv_room (Nat.le_of_ble_eq_true rfl)) d_R_init_21 ⟨(Nat.le_of_ble_eq_true rfl), (Nat.le_of_ble_eq_true rfl)⟩) hS (fun z21 H locs hz hP hS => ?_)
  obtain ⟨hq23, hq24, hzf25⟩ := hz
  have ff26 : z21 0 = .inr (5, [.ref (b + 1), .null, .null, .null, .int (iI (0)), .int (iI (0)), .null, .null, .null, .null, .null]) := (hzf25 0 (by omega) (by omega)).trans ff17
  have ff27 : z21 1 = .inr (0, [.int (0)]) := (hzf25 1 (by omega) (by omega)).trans ff18
  have fr28 : ∀ j : Nat, (j < 0) → z21 j = u j := fun j h0 => (hzf25 j (by omega) (by omega)).trans (fr20 j h0)
  refine w_putF (C := "LevelledRing") (T := T_R) (M := 11) (ty := (.object "LevelledRing$Poly")) (v := .ref (b + 2)) hx hb hts hinR ty_R tyok_R nm_R hown hK hP hS (0) (by omega) ff26 rfl 2 (by decide) kk17 (fun _ h => h) rfl hnm rfl (by decide +kernel) rfl rfl (Nat.le_of_ble_eq_true rfl) d_R_init_24 (fun H locs hP hS => ?_)
  obtain ⟨u29, hu30, hP⟩ : ∃ zz : Nat → va_E, zz = va_up z21 0 (.inr (5, [.ref (b + 1), .null, .ref (b + 2), .null, .int (iI (0)), .int (iI (0)), .null, .null, .null, .null, .null])) ∧ va_P D vwCl (wl 4 b zz) H := ⟨_, rfl, hP⟩
  have ff31 : u29 0 = .inr (5, [.ref (b + 1), .null, .ref (b + 2), .null, .int (iI (0)), .int (iI (0)), .null, .null, .null, .null, .null]) := (congrFun hu30 _).trans up_s
  have ff32 : u29 1 = .inr (0, [.int (0)]) := (congrFun hu30 _).trans ((up_n (by omega)).trans ff27)
  have ff33 : u29 2 = .inr (3, [.int (iI (1)), .ref (b + 3)]) := (congrFun hu30 _).trans ((up_n (by omega)).trans hq23)
  have ff34 : u29 3 = ir ct 8 (fun _ => 0) := (congrFun hu30 _).trans ((up_n (by omega)).trans hq24)
  have fr35 : ∀ j : Nat, (j < 0) → u29 j = u j := fun j h0 => (congrFun hu30 j).trans ((up_n (by omega)).trans (fr28 j h0))
  refine lv_aload_n hx hb d_R_init_27 rfl (lv_at hl 0 rfl) ?_
  refine lv_bipush (v := iI (24)) hx hb d_R_init_28 (by decide +kernel) ?_
  refine w_newq (n := 24) hx hb hown kk18 (ev_AG E) 3 rfl hK hP hS (ev_b E) (by omega) (by decide) (Nat.le_of_ble_eq_true rfl) (Nat.le_of_ble_eq_true rfl) d_R_init_30 (fun H hP hS => ?_)
  obtain ⟨u36, hu37, hP⟩ : ∃ zz : Nat → va_E, zz = va_up u29 4 (qr ct 3 24 (fun _ => none)) ∧ va_P D vwCl (wl 5 b zz) H := ⟨_, rfl, hP⟩
  have ff38 : u36 0 = .inr (5, [.ref (b + 1), .null, .ref (b + 2), .null, .int (iI (0)), .int (iI (0)), .null, .null, .null, .null, .null]) := (congrFun hu37 _).trans ((up_n (by omega)).trans ff31)
  have ff39 : u36 1 = .inr (0, [.int (0)]) := (congrFun hu37 _).trans ((up_n (by omega)).trans ff32)
  have ff40 : u36 2 = .inr (3, [.int (iI (1)), .ref (b + 3)]) := (congrFun hu37 _).trans ((up_n (by omega)).trans ff33)
  have ff41 : u36 3 = ir ct 8 (fun _ => 0) := (congrFun hu37 _).trans ((up_n (by omega)).trans ff34)
  have ff42 : u36 4 = qr ct 3 24 (fun _ => none) := (congrFun hu37 _).trans up_s
  have fr43 : ∀ j : Nat, (j < 0) → u36 j = u j := fun j h0 => (congrFun hu37 j).trans ((up_n (by omega)).trans (fr35 j h0))
  refine w_putF (C := "LevelledRing") (T := T_R) (M := 11) (ty := (.array (.object "LevelledRing$Gate"))) (v := .ref (b + 4)) hx hb hts hinR ty_R tyok_R nm_R hown hK hP hS (0) (by omega) ff38 rfl 3 (by decide) kk19 (fun _ h => h) rfl hnm rfl (by decide +kernel) rfl rfl (Nat.le_of_ble_eq_true rfl) d_R_init_33 (fun H locs hP hS => ?_)
  obtain ⟨u44, hu45, hP⟩ : ∃ zz : Nat → va_E, zz = va_up u36 0 (.inr (5, [.ref (b + 1), .null, .ref (b + 2), .ref (b + 4), .int (iI (0)), .int (iI (0)), .null, .null, .null, .null, .null])) ∧ va_P D vwCl (wl 5 b zz) H := ⟨_, rfl, hP⟩
  have ff46 : u44 0 = .inr (5, [.ref (b + 1), .null, .ref (b + 2), .ref (b + 4), .int (iI (0)), .int (iI (0)), .null, .null, .null, .null, .null]) := (congrFun hu45 _).trans up_s
  have ff47 : u44 1 = .inr (0, [.int (0)]) := (congrFun hu45 _).trans ((up_n (by omega)).trans ff39)
  have ff48 : u44 2 = .inr (3, [.int (iI (1)), .ref (b + 3)]) := (congrFun hu45 _).trans ((up_n (by omega)).trans ff40)
  have ff49 : u44 3 = ir ct 8 (fun _ => 0) := (congrFun hu45 _).trans ((up_n (by omega)).trans ff41)
  have ff50 : u44 4 = qr ct 3 24 (fun _ => none) := (congrFun hu45 _).trans ((up_n (by omega)).trans ff42)
  have fr51 : ∀ j : Nat, (j < 0) → u44 j = u j := fun j h0 => (congrFun hu45 j).trans ((up_n (by omega)).trans (fr43 j h0))
  refine lv_aload_n hx hb d_R_init_36 rfl (lv_at hl 0 rfl) ?_
  refine lv_iconst (v := iI (0)) hx hb d_R_init_37 rfl ?_
  refine w_put (C := "LevelledRing") (T := T_R) (M := 11) (ty := .int) (v := .int (iI (0))) hx hb hts hinR ty_R tyok_R nm_R hown hK hP hS (0) (by omega) ff46 rfl 4 (by decide) kk20 (fun _ h => h) rfl (by decide +kernel) rfl rfl (Nat.le_of_ble_eq_true rfl) d_R_init_38 (fun H locs hP hS => ?_)
  obtain ⟨u52, hu53, hP⟩ : ∃ zz : Nat → va_E, zz = va_up u44 0 (.inr (5, [.ref (b + 1), .null, .ref (b + 2), .ref (b + 4), .int (iI (0)), .int (iI (0)), .null, .null, .null, .null, .null])) ∧ va_P D vwCl (wl 5 b zz) H := ⟨_, rfl, hP⟩
  have ff54 : u52 0 = .inr (5, [.ref (b + 1), .null, .ref (b + 2), .ref (b + 4), .int (iI (0)), .int (iI (0)), .null, .null, .null, .null, .null]) := (congrFun hu53 _).trans up_s
  have ff55 : u52 1 = .inr (0, [.int (0)]) := (congrFun hu53 _).trans ((up_n (by omega)).trans ff47)
  have ff56 : u52 2 = .inr (3, [.int (iI (1)), .ref (b + 3)]) := (congrFun hu53 _).trans ((up_n (by omega)).trans ff48)
  have ff57 : u52 3 = ir ct 8 (fun _ => 0) := (congrFun hu53 _).trans ((up_n (by omega)).trans ff49)
  have ff58 : u52 4 = qr ct 3 24 (fun _ => none) := (congrFun hu53 _).trans ((up_n (by omega)).trans ff50)
  have fr59 : ∀ j : Nat, (j < 0) → u52 j = u j := fun j h0 => (congrFun hu53 j).trans ((up_n (by omega)).trans (fr51 j h0))
  refine lv_aload_n hx hb d_R_init_41 rfl (lv_at hl 0 rfl) ?_
  refine lv_iconst (v := iI (0)) hx hb d_R_init_42 rfl ?_
  refine w_put (C := "LevelledRing") (T := T_R) (M := 11) (ty := .int) (v := .int (iI (0))) hx hb hts hinR ty_R tyok_R nm_R hown hK hP hS (0) (by omega) ff54 rfl 5 (by decide) kk21 (fun _ h => h) rfl (by decide +kernel) rfl rfl (Nat.le_of_ble_eq_true rfl) d_R_init_43 (fun H locs hP hS => ?_)
  obtain ⟨u60, hu61, hP⟩ : ∃ zz : Nat → va_E, zz = va_up u52 0 (.inr (5, [.ref (b + 1), .null, .ref (b + 2), .ref (b + 4), .int (iI (0)), .int (iI (0)), .null, .null, .null, .null, .null])) ∧ va_P D vwCl (wl 5 b zz) H := ⟨_, rfl, hP⟩
  have ff62 : u60 0 = .inr (5, [.ref (b + 1), .null, .ref (b + 2), .ref (b + 4), .int (iI (0)), .int (iI (0)), .null, .null, .null, .null, .null]) := (congrFun hu61 _).trans up_s
  have ff63 : u60 1 = .inr (0, [.int (0)]) := (congrFun hu61 _).trans ((up_n (by omega)).trans ff55)
  have ff64 : u60 2 = .inr (3, [.int (iI (1)), .ref (b + 3)]) := (congrFun hu61 _).trans ((up_n (by omega)).trans ff56)
  have ff65 : u60 3 = ir ct 8 (fun _ => 0) := (congrFun hu61 _).trans ((up_n (by omega)).trans ff57)
  have ff66 : u60 4 = qr ct 3 24 (fun _ => none) := (congrFun hu61 _).trans ((up_n (by omega)).trans ff58)
  have fr67 : ∀ j : Nat, (j < 0) → u60 j = u j := fun j h0 => (congrFun hu61 j).trans ((up_n (by omega)).trans (fr59 j h0))
  refine lv_aload_n hx hb d_R_init_46 rfl (lv_at hl 0 rfl) ?_
  refine w_new (C := "LevelledRing$Value") (T := T_V) (M := 4) (ci := 4) (fs := [.int (iI (0)), .long (lI (0)), .null, .null]) hx hb hts hinV ty_V tyok_V hown kk22 kk23 kk24 hK hP hS (ev_b E) (by omega) rfl (fun j hj => by rcases (show j = 0 ∨ j = 1 ∨ j = 2 ∨ j = 3 by omega) with rfl | rfl | rfl | rfl <;> rfl) (Nat.le_of_ble_eq_true rfl) (Nat.le_of_ble_eq_true rfl) d_R_init_47 (fun H hP hS => ?_)
  obtain ⟨u68, hu69, hP⟩ : ∃ zz : Nat → va_E, zz = va_up u60 5 (.inr (4, [.int (iI (0)), .long (lI (0)), .null, .null])) ∧ va_P D vwCl (wl 6 b zz) H := ⟨_, rfl, hP⟩
  have ff70 : u68 0 = .inr (5, [.ref (b + 1), .null, .ref (b + 2), .ref (b + 4), .int (iI (0)), .int (iI (0)), .null, .null, .null, .null, .null]) := (congrFun hu69 _).trans ((up_n (by omega)).trans ff62)
  have ff71 : u68 1 = .inr (0, [.int (0)]) := (congrFun hu69 _).trans ((up_n (by omega)).trans ff63)
  have ff72 : u68 2 = .inr (3, [.int (iI (1)), .ref (b + 3)]) := (congrFun hu69 _).trans ((up_n (by omega)).trans ff64)
  have ff73 : u68 3 = ir ct 8 (fun _ => 0) := (congrFun hu69 _).trans ((up_n (by omega)).trans ff65)
  have ff74 : u68 4 = qr ct 3 24 (fun _ => none) := (congrFun hu69 _).trans ((up_n (by omega)).trans ff66)
  have ff75 : u68 5 = .inr (4, [.int (iI (0)), .long (lI (0)), .null, .null]) := (congrFun hu69 _).trans up_s
  have fr76 : ∀ j : Nat, (j < 0) → u68 j = u j := fun j h0 => (congrFun hu69 j).trans ((up_n (by omega)).trans (fr67 j h0))
  refine lv_dup hx hb d_R_init_50 rfl ?_
  refine w_sz hP (by omega) (by omega) (fun hHs => ?_)
  refine w_callv (va_runIN (As := []) (rest := [.ref (b + 5), .ref (b + 0)]) ⟨hx, hb, hml, hown, hts⟩ (c_V_init l D ct st ke b u68 (5) ff75) ⟨va_cnB 0 hts (gC t_52) rfl rfl rfl kn27 kk24 (by decide +kernel) ⟨Nat.le_of_ble_eq_true rfl, Nat.le_of_ble_eq_true rfl⟩, rfl, kk26⟩ (pre_C E hP hS hHs) rfl rfl hl.1 rfl (lv_room (Nat.le_of_ble_eq_true rfl)) d_R_init_51 ⟨(Nat.le_of_ble_eq_true rfl), (Nat.le_of_ble_eq_true rfl)⟩) hS (fun z77 H locs hz hP hS => ?_)
  obtain ⟨hq79, hzf80⟩ := hz
  have ff81 : z77 0 = .inr (5, [.ref (b + 1), .null, .ref (b + 2), .ref (b + 4), .int (iI (0)), .int (iI (0)), .null, .null, .null, .null, .null]) := (hzf80 0 (by omega)).trans ff70
  have ff82 : z77 1 = .inr (0, [.int (0)]) := (hzf80 1 (by omega)).trans ff71
  have ff83 : z77 2 = .inr (3, [.int (iI (1)), .ref (b + 3)]) := (hzf80 2 (by omega)).trans ff72
  have ff84 : z77 3 = ir ct 8 (fun _ => 0) := (hzf80 3 (by omega)).trans ff73
  have ff85 : z77 4 = qr ct 3 24 (fun _ => none) := (hzf80 4 (by omega)).trans ff74
  have fr86 : ∀ j : Nat, (j < 0) → z77 j = u j := fun j h0 => (hzf80 j (by omega)).trans (fr76 j h0)
  refine w_putF (C := "LevelledRing") (T := T_R) (M := 11) (ty := (.object "LevelledRing$Value")) (v := .ref (b + 5)) hx hb hts hinR ty_R tyok_R nm_R hown hK hP hS (0) (by omega) ff81 rfl 6 (by decide) kk28 (fun _ h => h) rfl hnm rfl (by decide +kernel) rfl rfl (Nat.le_of_ble_eq_true rfl) d_R_init_54 (fun H locs hP hS => ?_)
  obtain ⟨u87, hu88, hP⟩ : ∃ zz : Nat → va_E, zz = va_up z77 0 (.inr (5, [.ref (b + 1), .null, .ref (b + 2), .ref (b + 4), .int (iI (0)), .int (iI (0)), .ref (b + 5), .null, .null, .null, .null])) ∧ va_P D vwCl (wl 10 b zz) H := ⟨_, rfl, hP⟩
  have ff89 : u87 0 = .inr (5, [.ref (b + 1), .null, .ref (b + 2), .ref (b + 4), .int (iI (0)), .int (iI (0)), .ref (b + 5), .null, .null, .null, .null]) := (congrFun hu88 _).trans up_s
  have ff90 : u87 1 = .inr (0, [.int (0)]) := (congrFun hu88 _).trans ((up_n (by omega)).trans ff82)
  have ff91 : u87 2 = .inr (3, [.int (iI (1)), .ref (b + 3)]) := (congrFun hu88 _).trans ((up_n (by omega)).trans ff83)
  have ff92 : u87 3 = ir ct 8 (fun _ => 0) := (congrFun hu88 _).trans ((up_n (by omega)).trans ff84)
  have ff93 : u87 4 = qr ct 3 24 (fun _ => none) := (congrFun hu88 _).trans ((up_n (by omega)).trans ff85)
  have ff94 : u87 5 = .inr (4, [.int (iI (0)), .long (lI (0)), .ref (b + 6), .ref (b + 8)]) := (congrFun hu88 _).trans ((up_n (by omega)).trans hq79.1)
  have ff95 : u87 6 = .inr (3, [.int (iI (0)), .ref (b + 7)]) := (congrFun hu88 _).trans ((up_n (by omega)).trans hq79.2.1)
  have ff96 : u87 7 = ir ct 32 (fun _ => 0) := (congrFun hu88 _).trans ((up_n (by omega)).trans hq79.2.2.1)
  have ff97 : u87 8 = .inr (3, [.int (iI (0)), .ref (b + 9)]) := (congrFun hu88 _).trans ((up_n (by omega)).trans hq79.2.2.2.1)
  have ff98 : u87 9 = ir ct 32 (fun _ => 0) := (congrFun hu88 _).trans ((up_n (by omega)).trans hq79.2.2.2.2)
  have fr99 : ∀ j : Nat, (j < 0) → u87 j = u j := fun j h0 => (congrFun hu88 j).trans ((up_n (by omega)).trans (fr86 j h0))
  refine lv_aload_n hx hb d_R_init_57 rfl (lv_at hl 0 rfl) ?_
  refine w_new (C := "LevelledRing$Value") (T := T_V) (M := 4) (ci := 4) (fs := [.int (iI (0)), .long (lI (0)), .null, .null]) hx hb hts hinV ty_V tyok_V hown kk22 kk23 kk24 hK hP hS (ev_b E) (by omega) rfl (fun j hj => by rcases (show j = 0 ∨ j = 1 ∨ j = 2 ∨ j = 3 by omega) with rfl | rfl | rfl | rfl <;> rfl) (Nat.le_of_ble_eq_true rfl) (Nat.le_of_ble_eq_true rfl) d_R_init_58 (fun H hP hS => ?_)
  obtain ⟨u100, hu101, hP⟩ : ∃ zz : Nat → va_E, zz = va_up u87 10 (.inr (4, [.int (iI (0)), .long (lI (0)), .null, .null])) ∧ va_P D vwCl (wl 11 b zz) H := ⟨_, rfl, hP⟩
  have ff102 : u100 0 = .inr (5, [.ref (b + 1), .null, .ref (b + 2), .ref (b + 4), .int (iI (0)), .int (iI (0)), .ref (b + 5), .null, .null, .null, .null]) := (congrFun hu101 _).trans ((up_n (by omega)).trans ff89)
  have ff103 : u100 1 = .inr (0, [.int (0)]) := (congrFun hu101 _).trans ((up_n (by omega)).trans ff90)
  have ff104 : u100 2 = .inr (3, [.int (iI (1)), .ref (b + 3)]) := (congrFun hu101 _).trans ((up_n (by omega)).trans ff91)
  have ff105 : u100 3 = ir ct 8 (fun _ => 0) := (congrFun hu101 _).trans ((up_n (by omega)).trans ff92)
  have ff106 : u100 4 = qr ct 3 24 (fun _ => none) := (congrFun hu101 _).trans ((up_n (by omega)).trans ff93)
  have ff107 : u100 5 = .inr (4, [.int (iI (0)), .long (lI (0)), .ref (b + 6), .ref (b + 8)]) := (congrFun hu101 _).trans ((up_n (by omega)).trans ff94)
  have ff108 : u100 6 = .inr (3, [.int (iI (0)), .ref (b + 7)]) := (congrFun hu101 _).trans ((up_n (by omega)).trans ff95)
  have ff109 : u100 7 = ir ct 32 (fun _ => 0) := (congrFun hu101 _).trans ((up_n (by omega)).trans ff96)
  have ff110 : u100 8 = .inr (3, [.int (iI (0)), .ref (b + 9)]) := (congrFun hu101 _).trans ((up_n (by omega)).trans ff97)
  have ff111 : u100 9 = ir ct 32 (fun _ => 0) := (congrFun hu101 _).trans ((up_n (by omega)).trans ff98)
  have ff112 : u100 10 = .inr (4, [.int (iI (0)), .long (lI (0)), .null, .null]) := (congrFun hu101 _).trans up_s
  have fr113 : ∀ j : Nat, (j < 0) → u100 j = u j := fun j h0 => (congrFun hu101 j).trans ((up_n (by omega)).trans (fr99 j h0))
  refine lv_dup hx hb d_R_init_61 rfl ?_
  refine w_sz hP (by omega) (by omega) (fun hHs => ?_)
  refine w_callv (va_runIN (As := []) (rest := [.ref (b + 10), .ref (b + 0)]) ⟨hx, hb, hml, hown, hts⟩ (c_V_init l D ct st ke b u100 (10) ff112) ⟨va_cnB 0 hts (gC t_52) rfl rfl rfl kn27 kk24 (by decide +kernel) ⟨Nat.le_of_ble_eq_true rfl, Nat.le_of_ble_eq_true rfl⟩, rfl, kk26⟩ (pre_C E hP hS hHs) rfl rfl hl.1 rfl (lv_room (Nat.le_of_ble_eq_true rfl)) d_R_init_62 ⟨(Nat.le_of_ble_eq_true rfl), (Nat.le_of_ble_eq_true rfl)⟩) hS (fun z114 H locs hz hP hS => ?_)
  obtain ⟨hq116, hzf117⟩ := hz
  have ff118 : z114 0 = .inr (5, [.ref (b + 1), .null, .ref (b + 2), .ref (b + 4), .int (iI (0)), .int (iI (0)), .ref (b + 5), .null, .null, .null, .null]) := (hzf117 0 (by omega)).trans ff102
  have ff119 : z114 1 = .inr (0, [.int (0)]) := (hzf117 1 (by omega)).trans ff103
  have ff120 : z114 2 = .inr (3, [.int (iI (1)), .ref (b + 3)]) := (hzf117 2 (by omega)).trans ff104
  have ff121 : z114 3 = ir ct 8 (fun _ => 0) := (hzf117 3 (by omega)).trans ff105
  have ff122 : z114 4 = qr ct 3 24 (fun _ => none) := (hzf117 4 (by omega)).trans ff106
  have ff123 : z114 5 = .inr (4, [.int (iI (0)), .long (lI (0)), .ref (b + 6), .ref (b + 8)]) := (hzf117 5 (by omega)).trans ff107
  have ff124 : z114 6 = .inr (3, [.int (iI (0)), .ref (b + 7)]) := (hzf117 6 (by omega)).trans ff108
  have ff125 : z114 7 = ir ct 32 (fun _ => 0) := (hzf117 7 (by omega)).trans ff109
  have ff126 : z114 8 = .inr (3, [.int (iI (0)), .ref (b + 9)]) := (hzf117 8 (by omega)).trans ff110
  have ff127 : z114 9 = ir ct 32 (fun _ => 0) := (hzf117 9 (by omega)).trans ff111
  have fr128 : ∀ j : Nat, (j < 0) → z114 j = u j := fun j h0 => (hzf117 j (by omega)).trans (fr113 j h0)
  refine w_putF (C := "LevelledRing") (T := T_R) (M := 11) (ty := (.object "LevelledRing$Value")) (v := .ref (b + 10)) hx hb hts hinR ty_R tyok_R nm_R hown hK hP hS (0) (by omega) ff118 rfl 7 (by decide) kk29 (fun _ h => h) rfl hnm rfl (by decide +kernel) rfl rfl (Nat.le_of_ble_eq_true rfl) d_R_init_65 (fun H locs hP hS => ?_)
  obtain ⟨u129, hu130, hP⟩ : ∃ zz : Nat → va_E, zz = va_up z114 0 (.inr (5, [.ref (b + 1), .null, .ref (b + 2), .ref (b + 4), .int (iI (0)), .int (iI (0)), .ref (b + 5), .ref (b + 10), .null, .null, .null])) ∧ va_P D vwCl (wl 15 b zz) H := ⟨_, rfl, hP⟩
  have ff131 : u129 0 = .inr (5, [.ref (b + 1), .null, .ref (b + 2), .ref (b + 4), .int (iI (0)), .int (iI (0)), .ref (b + 5), .ref (b + 10), .null, .null, .null]) := (congrFun hu130 _).trans up_s
  have ff132 : u129 1 = .inr (0, [.int (0)]) := (congrFun hu130 _).trans ((up_n (by omega)).trans ff119)
  have ff133 : u129 2 = .inr (3, [.int (iI (1)), .ref (b + 3)]) := (congrFun hu130 _).trans ((up_n (by omega)).trans ff120)
  have ff134 : u129 3 = ir ct 8 (fun _ => 0) := (congrFun hu130 _).trans ((up_n (by omega)).trans ff121)
  have ff135 : u129 4 = qr ct 3 24 (fun _ => none) := (congrFun hu130 _).trans ((up_n (by omega)).trans ff122)
  have ff136 : u129 5 = .inr (4, [.int (iI (0)), .long (lI (0)), .ref (b + 6), .ref (b + 8)]) := (congrFun hu130 _).trans ((up_n (by omega)).trans ff123)
  have ff137 : u129 6 = .inr (3, [.int (iI (0)), .ref (b + 7)]) := (congrFun hu130 _).trans ((up_n (by omega)).trans ff124)
  have ff138 : u129 7 = ir ct 32 (fun _ => 0) := (congrFun hu130 _).trans ((up_n (by omega)).trans ff125)
  have ff139 : u129 8 = .inr (3, [.int (iI (0)), .ref (b + 9)]) := (congrFun hu130 _).trans ((up_n (by omega)).trans ff126)
  have ff140 : u129 9 = ir ct 32 (fun _ => 0) := (congrFun hu130 _).trans ((up_n (by omega)).trans ff127)
  have ff141 : u129 10 = .inr (4, [.int (iI (0)), .long (lI (0)), .ref (b + 11), .ref (b + 13)]) := (congrFun hu130 _).trans ((up_n (by omega)).trans hq116.1)
  have ff142 : u129 11 = .inr (3, [.int (iI (0)), .ref (b + 12)]) := (congrFun hu130 _).trans ((up_n (by omega)).trans hq116.2.1)
  have ff143 : u129 12 = ir ct 32 (fun _ => 0) := (congrFun hu130 _).trans ((up_n (by omega)).trans hq116.2.2.1)
  have ff144 : u129 13 = .inr (3, [.int (iI (0)), .ref (b + 14)]) := (congrFun hu130 _).trans ((up_n (by omega)).trans hq116.2.2.2.1)
  have ff145 : u129 14 = ir ct 32 (fun _ => 0) := (congrFun hu130 _).trans ((up_n (by omega)).trans hq116.2.2.2.2)
  have fr146 : ∀ j : Nat, (j < 0) → u129 j = u j := fun j h0 => (congrFun hu130 j).trans ((up_n (by omega)).trans (fr128 j h0))
  refine lv_aload_n hx hb d_R_init_68 rfl (lv_at hl 0 rfl) ?_
  refine w_new (C := "LevelledRing$Poly") (T := T_P) (M := 2) (ci := 3) (fs := [.int (iI (0)), .null]) hx hb hts hinP ty_P tyok_P hown kk11 kk12 kk13 hK hP hS (ev_b E) (by omega) rfl (fun j hj => by rcases (show j = 0 ∨ j = 1 by omega) with rfl | rfl <;> rfl) (Nat.le_of_ble_eq_true rfl) (Nat.le_of_ble_eq_true rfl) d_R_init_69 (fun H hP hS => ?_)
  obtain ⟨u147, hu148, hP⟩ : ∃ zz : Nat → va_E, zz = va_up u129 15 (.inr (3, [.int (iI (0)), .null])) ∧ va_P D vwCl (wl 16 b zz) H := ⟨_, rfl, hP⟩
  have ff149 : u147 0 = .inr (5, [.ref (b + 1), .null, .ref (b + 2), .ref (b + 4), .int (iI (0)), .int (iI (0)), .ref (b + 5), .ref (b + 10), .null, .null, .null]) := (congrFun hu148 _).trans ((up_n (by omega)).trans ff131)
  have ff150 : u147 1 = .inr (0, [.int (0)]) := (congrFun hu148 _).trans ((up_n (by omega)).trans ff132)
  have ff151 : u147 2 = .inr (3, [.int (iI (1)), .ref (b + 3)]) := (congrFun hu148 _).trans ((up_n (by omega)).trans ff133)
  have ff152 : u147 3 = ir ct 8 (fun _ => 0) := (congrFun hu148 _).trans ((up_n (by omega)).trans ff134)
  have ff153 : u147 4 = qr ct 3 24 (fun _ => none) := (congrFun hu148 _).trans ((up_n (by omega)).trans ff135)
  have ff154 : u147 5 = .inr (4, [.int (iI (0)), .long (lI (0)), .ref (b + 6), .ref (b + 8)]) := (congrFun hu148 _).trans ((up_n (by omega)).trans ff136)
  have ff155 : u147 6 = .inr (3, [.int (iI (0)), .ref (b + 7)]) := (congrFun hu148 _).trans ((up_n (by omega)).trans ff137)
  have ff156 : u147 7 = ir ct 32 (fun _ => 0) := (congrFun hu148 _).trans ((up_n (by omega)).trans ff138)
  have ff157 : u147 8 = .inr (3, [.int (iI (0)), .ref (b + 9)]) := (congrFun hu148 _).trans ((up_n (by omega)).trans ff139)
  have ff158 : u147 9 = ir ct 32 (fun _ => 0) := (congrFun hu148 _).trans ((up_n (by omega)).trans ff140)
  have ff159 : u147 10 = .inr (4, [.int (iI (0)), .long (lI (0)), .ref (b + 11), .ref (b + 13)]) := (congrFun hu148 _).trans ((up_n (by omega)).trans ff141)
  have ff160 : u147 11 = .inr (3, [.int (iI (0)), .ref (b + 12)]) := (congrFun hu148 _).trans ((up_n (by omega)).trans ff142)
  have ff161 : u147 12 = ir ct 32 (fun _ => 0) := (congrFun hu148 _).trans ((up_n (by omega)).trans ff143)
  have ff162 : u147 13 = .inr (3, [.int (iI (0)), .ref (b + 14)]) := (congrFun hu148 _).trans ((up_n (by omega)).trans ff144)
  have ff163 : u147 14 = ir ct 32 (fun _ => 0) := (congrFun hu148 _).trans ((up_n (by omega)).trans ff145)
  have ff164 : u147 15 = .inr (3, [.int (iI (0)), .null]) := (congrFun hu148 _).trans up_s
  have fr165 : ∀ j : Nat, (j < 0) → u147 j = u j := fun j h0 => (congrFun hu148 j).trans ((up_n (by omega)).trans (fr146 j h0))
  refine lv_dup hx hb d_R_init_72 rfl ?_
  refine lv_iconst (v := iI (0)) hx hb d_R_init_73 rfl ?_
  refine w_sz hP (by omega) (by omega) (fun hHs => ?_)
  refine w_callv (va_runI (As := [.int (iI (0))]) (rest := [.ref (b + 15), .ref (b + 0)]) ⟨hx, hb, hml, hown, hts⟩ (c_P_init l D ct st ke b u147 (15) 32 0 (Or.inr ⟨rfl, rfl⟩) ff164) (cwI 1 hts (gC t_35) rfl rfl rfl kk13 kk16 kk15 rfl (by decide +kernel) ⟨Nat.le_of_ble_eq_true rfl, Nat.le_of_ble_eq_true rfl⟩) (pre_C E hP hS hHs) rfl rfl hl.1 rfl (lv_room (Nat.le_of_ble_eq_true rfl)) d_R_init_74 ⟨(Nat.le_of_ble_eq_true rfl), (Nat.le_of_ble_eq_true rfl)⟩) hS (fun z166 H locs hz hP hS => ?_)
  obtain ⟨hq168, hq169, hzf170⟩ := hz
  have ff171 : z166 0 = .inr (5, [.ref (b + 1), .null, .ref (b + 2), .ref (b + 4), .int (iI (0)), .int (iI (0)), .ref (b + 5), .ref (b + 10), .null, .null, .null]) := (hzf170 0 (by omega) (by omega)).trans ff149
  have ff172 : z166 1 = .inr (0, [.int (0)]) := (hzf170 1 (by omega) (by omega)).trans ff150
  have ff173 : z166 2 = .inr (3, [.int (iI (1)), .ref (b + 3)]) := (hzf170 2 (by omega) (by omega)).trans ff151
  have ff174 : z166 3 = ir ct 8 (fun _ => 0) := (hzf170 3 (by omega) (by omega)).trans ff152
  have ff175 : z166 4 = qr ct 3 24 (fun _ => none) := (hzf170 4 (by omega) (by omega)).trans ff153
  have ff176 : z166 5 = .inr (4, [.int (iI (0)), .long (lI (0)), .ref (b + 6), .ref (b + 8)]) := (hzf170 5 (by omega) (by omega)).trans ff154
  have ff177 : z166 6 = .inr (3, [.int (iI (0)), .ref (b + 7)]) := (hzf170 6 (by omega) (by omega)).trans ff155
  have ff178 : z166 7 = ir ct 32 (fun _ => 0) := (hzf170 7 (by omega) (by omega)).trans ff156
  have ff179 : z166 8 = .inr (3, [.int (iI (0)), .ref (b + 9)]) := (hzf170 8 (by omega) (by omega)).trans ff157
  have ff180 : z166 9 = ir ct 32 (fun _ => 0) := (hzf170 9 (by omega) (by omega)).trans ff158
  have ff181 : z166 10 = .inr (4, [.int (iI (0)), .long (lI (0)), .ref (b + 11), .ref (b + 13)]) := (hzf170 10 (by omega) (by omega)).trans ff159
  have ff182 : z166 11 = .inr (3, [.int (iI (0)), .ref (b + 12)]) := (hzf170 11 (by omega) (by omega)).trans ff160
  have ff183 : z166 12 = ir ct 32 (fun _ => 0) := (hzf170 12 (by omega) (by omega)).trans ff161
  have ff184 : z166 13 = .inr (3, [.int (iI (0)), .ref (b + 14)]) := (hzf170 13 (by omega) (by omega)).trans ff162
  have ff185 : z166 14 = ir ct 32 (fun _ => 0) := (hzf170 14 (by omega) (by omega)).trans ff163
  have fr186 : ∀ j : Nat, (j < 0) → z166 j = u j := fun j h0 => (hzf170 j (by omega) (by omega)).trans (fr165 j h0)
  refine w_putF (C := "LevelledRing") (T := T_R) (M := 11) (ty := (.object "LevelledRing$Poly")) (v := .ref (b + 15)) hx hb hts hinR ty_R tyok_R nm_R hown hK hP hS (0) (by omega) ff171 rfl 8 (by decide) kk30 (fun _ h => h) rfl hnm rfl (by decide +kernel) rfl rfl (Nat.le_of_ble_eq_true rfl) d_R_init_77 (fun H locs hP hS => ?_)
  obtain ⟨u187, hu188, hP⟩ : ∃ zz : Nat → va_E, zz = va_up z166 0 (.inr (5, [.ref (b + 1), .null, .ref (b + 2), .ref (b + 4), .int (iI (0)), .int (iI (0)), .ref (b + 5), .ref (b + 10), .ref (b + 15), .null, .null])) ∧ va_P D vwCl (wl 17 b zz) H := ⟨_, rfl, hP⟩
  have ff189 : u187 0 = .inr (5, [.ref (b + 1), .null, .ref (b + 2), .ref (b + 4), .int (iI (0)), .int (iI (0)), .ref (b + 5), .ref (b + 10), .ref (b + 15), .null, .null]) := (congrFun hu188 _).trans up_s
  have ff190 : u187 1 = .inr (0, [.int (0)]) := (congrFun hu188 _).trans ((up_n (by omega)).trans ff172)
  have ff191 : u187 2 = .inr (3, [.int (iI (1)), .ref (b + 3)]) := (congrFun hu188 _).trans ((up_n (by omega)).trans ff173)
  have ff192 : u187 3 = ir ct 8 (fun _ => 0) := (congrFun hu188 _).trans ((up_n (by omega)).trans ff174)
  have ff193 : u187 4 = qr ct 3 24 (fun _ => none) := (congrFun hu188 _).trans ((up_n (by omega)).trans ff175)
  have ff194 : u187 5 = .inr (4, [.int (iI (0)), .long (lI (0)), .ref (b + 6), .ref (b + 8)]) := (congrFun hu188 _).trans ((up_n (by omega)).trans ff176)
  have ff195 : u187 6 = .inr (3, [.int (iI (0)), .ref (b + 7)]) := (congrFun hu188 _).trans ((up_n (by omega)).trans ff177)
  have ff196 : u187 7 = ir ct 32 (fun _ => 0) := (congrFun hu188 _).trans ((up_n (by omega)).trans ff178)
  have ff197 : u187 8 = .inr (3, [.int (iI (0)), .ref (b + 9)]) := (congrFun hu188 _).trans ((up_n (by omega)).trans ff179)
  have ff198 : u187 9 = ir ct 32 (fun _ => 0) := (congrFun hu188 _).trans ((up_n (by omega)).trans ff180)
  have ff199 : u187 10 = .inr (4, [.int (iI (0)), .long (lI (0)), .ref (b + 11), .ref (b + 13)]) := (congrFun hu188 _).trans ((up_n (by omega)).trans ff181)
  have ff200 : u187 11 = .inr (3, [.int (iI (0)), .ref (b + 12)]) := (congrFun hu188 _).trans ((up_n (by omega)).trans ff182)
  have ff201 : u187 12 = ir ct 32 (fun _ => 0) := (congrFun hu188 _).trans ((up_n (by omega)).trans ff183)
  have ff202 : u187 13 = .inr (3, [.int (iI (0)), .ref (b + 14)]) := (congrFun hu188 _).trans ((up_n (by omega)).trans ff184)
  have ff203 : u187 14 = ir ct 32 (fun _ => 0) := (congrFun hu188 _).trans ((up_n (by omega)).trans ff185)
  have ff204 : u187 15 = .inr (3, [.int (iI (0)), .ref (b + 16)]) := (congrFun hu188 _).trans ((up_n (by omega)).trans hq168)
  have ff205 : u187 16 = ir ct 32 (fun _ => 0) := (congrFun hu188 _).trans ((up_n (by omega)).trans hq169)
  have fr206 : ∀ j : Nat, (j < 0) → u187 j = u j := fun j h0 => (congrFun hu188 j).trans ((up_n (by omega)).trans (fr186 j h0))
  refine lv_aload_n hx hb d_R_init_80 rfl (lv_at hl 0 rfl) ?_
  refine w_new (C := "LevelledRing$Poly") (T := T_P) (M := 2) (ci := 3) (fs := [.int (iI (0)), .null]) hx hb hts hinP ty_P tyok_P hown kk11 kk12 kk13 hK hP hS (ev_b E) (by omega) rfl (fun j hj => by rcases (show j = 0 ∨ j = 1 by omega) with rfl | rfl <;> rfl) (Nat.le_of_ble_eq_true rfl) (Nat.le_of_ble_eq_true rfl) d_R_init_81 (fun H hP hS => ?_)
  obtain ⟨u207, hu208, hP⟩ : ∃ zz : Nat → va_E, zz = va_up u187 17 (.inr (3, [.int (iI (0)), .null])) ∧ va_P D vwCl (wl 18 b zz) H := ⟨_, rfl, hP⟩
  have ff209 : u207 0 = .inr (5, [.ref (b + 1), .null, .ref (b + 2), .ref (b + 4), .int (iI (0)), .int (iI (0)), .ref (b + 5), .ref (b + 10), .ref (b + 15), .null, .null]) := (congrFun hu208 _).trans ((up_n (by omega)).trans ff189)
  have ff210 : u207 1 = .inr (0, [.int (0)]) := (congrFun hu208 _).trans ((up_n (by omega)).trans ff190)
  have ff211 : u207 2 = .inr (3, [.int (iI (1)), .ref (b + 3)]) := (congrFun hu208 _).trans ((up_n (by omega)).trans ff191)
  have ff212 : u207 3 = ir ct 8 (fun _ => 0) := (congrFun hu208 _).trans ((up_n (by omega)).trans ff192)
  have ff213 : u207 4 = qr ct 3 24 (fun _ => none) := (congrFun hu208 _).trans ((up_n (by omega)).trans ff193)
  have ff214 : u207 5 = .inr (4, [.int (iI (0)), .long (lI (0)), .ref (b + 6), .ref (b + 8)]) := (congrFun hu208 _).trans ((up_n (by omega)).trans ff194)
  have ff215 : u207 6 = .inr (3, [.int (iI (0)), .ref (b + 7)]) := (congrFun hu208 _).trans ((up_n (by omega)).trans ff195)
  have ff216 : u207 7 = ir ct 32 (fun _ => 0) := (congrFun hu208 _).trans ((up_n (by omega)).trans ff196)
  have ff217 : u207 8 = .inr (3, [.int (iI (0)), .ref (b + 9)]) := (congrFun hu208 _).trans ((up_n (by omega)).trans ff197)
  have ff218 : u207 9 = ir ct 32 (fun _ => 0) := (congrFun hu208 _).trans ((up_n (by omega)).trans ff198)
  have ff219 : u207 10 = .inr (4, [.int (iI (0)), .long (lI (0)), .ref (b + 11), .ref (b + 13)]) := (congrFun hu208 _).trans ((up_n (by omega)).trans ff199)
  have ff220 : u207 11 = .inr (3, [.int (iI (0)), .ref (b + 12)]) := (congrFun hu208 _).trans ((up_n (by omega)).trans ff200)
  have ff221 : u207 12 = ir ct 32 (fun _ => 0) := (congrFun hu208 _).trans ((up_n (by omega)).trans ff201)
  have ff222 : u207 13 = .inr (3, [.int (iI (0)), .ref (b + 14)]) := (congrFun hu208 _).trans ((up_n (by omega)).trans ff202)
  have ff223 : u207 14 = ir ct 32 (fun _ => 0) := (congrFun hu208 _).trans ((up_n (by omega)).trans ff203)
  have ff224 : u207 15 = .inr (3, [.int (iI (0)), .ref (b + 16)]) := (congrFun hu208 _).trans ((up_n (by omega)).trans ff204)
  have ff225 : u207 16 = ir ct 32 (fun _ => 0) := (congrFun hu208 _).trans ((up_n (by omega)).trans ff205)
  have ff226 : u207 17 = .inr (3, [.int (iI (0)), .null]) := (congrFun hu208 _).trans up_s
  have fr227 : ∀ j : Nat, (j < 0) → u207 j = u j := fun j h0 => (congrFun hu208 j).trans ((up_n (by omega)).trans (fr206 j h0))
  refine lv_dup hx hb d_R_init_84 rfl ?_
  refine lv_iconst (v := iI (0)) hx hb d_R_init_85 rfl ?_
  refine w_sz hP (by omega) (by omega) (fun hHs => ?_)
  refine w_callv (va_runI (As := [.int (iI (0))]) (rest := [.ref (b + 17), .ref (b + 0)]) ⟨hx, hb, hml, hown, hts⟩ (c_P_init l D ct st ke b u207 (17) 32 0 (Or.inr ⟨rfl, rfl⟩) ff226) (cwI 1 hts (gC t_35) rfl rfl rfl kk13 kk16 kk15 rfl (by decide +kernel) ⟨Nat.le_of_ble_eq_true rfl, Nat.le_of_ble_eq_true rfl⟩) (pre_C E hP hS hHs) rfl rfl hl.1 rfl (lv_room (Nat.le_of_ble_eq_true rfl)) d_R_init_86 ⟨(Nat.le_of_ble_eq_true rfl), (Nat.le_of_ble_eq_true rfl)⟩) hS (fun z228 H locs hz hP hS => ?_)
  obtain ⟨hq230, hq231, hzf232⟩ := hz
  have ff233 : z228 0 = .inr (5, [.ref (b + 1), .null, .ref (b + 2), .ref (b + 4), .int (iI (0)), .int (iI (0)), .ref (b + 5), .ref (b + 10), .ref (b + 15), .null, .null]) := (hzf232 0 (by omega) (by omega)).trans ff209
  have ff234 : z228 1 = .inr (0, [.int (0)]) := (hzf232 1 (by omega) (by omega)).trans ff210
  have ff235 : z228 2 = .inr (3, [.int (iI (1)), .ref (b + 3)]) := (hzf232 2 (by omega) (by omega)).trans ff211
  have ff236 : z228 3 = ir ct 8 (fun _ => 0) := (hzf232 3 (by omega) (by omega)).trans ff212
  have ff237 : z228 4 = qr ct 3 24 (fun _ => none) := (hzf232 4 (by omega) (by omega)).trans ff213
  have ff238 : z228 5 = .inr (4, [.int (iI (0)), .long (lI (0)), .ref (b + 6), .ref (b + 8)]) := (hzf232 5 (by omega) (by omega)).trans ff214
  have ff239 : z228 6 = .inr (3, [.int (iI (0)), .ref (b + 7)]) := (hzf232 6 (by omega) (by omega)).trans ff215
  have ff240 : z228 7 = ir ct 32 (fun _ => 0) := (hzf232 7 (by omega) (by omega)).trans ff216
  have ff241 : z228 8 = .inr (3, [.int (iI (0)), .ref (b + 9)]) := (hzf232 8 (by omega) (by omega)).trans ff217
  have ff242 : z228 9 = ir ct 32 (fun _ => 0) := (hzf232 9 (by omega) (by omega)).trans ff218
  have ff243 : z228 10 = .inr (4, [.int (iI (0)), .long (lI (0)), .ref (b + 11), .ref (b + 13)]) := (hzf232 10 (by omega) (by omega)).trans ff219
  have ff244 : z228 11 = .inr (3, [.int (iI (0)), .ref (b + 12)]) := (hzf232 11 (by omega) (by omega)).trans ff220
  have ff245 : z228 12 = ir ct 32 (fun _ => 0) := (hzf232 12 (by omega) (by omega)).trans ff221
  have ff246 : z228 13 = .inr (3, [.int (iI (0)), .ref (b + 14)]) := (hzf232 13 (by omega) (by omega)).trans ff222
  have ff247 : z228 14 = ir ct 32 (fun _ => 0) := (hzf232 14 (by omega) (by omega)).trans ff223
  have ff248 : z228 15 = .inr (3, [.int (iI (0)), .ref (b + 16)]) := (hzf232 15 (by omega) (by omega)).trans ff224
  have ff249 : z228 16 = ir ct 32 (fun _ => 0) := (hzf232 16 (by omega) (by omega)).trans ff225
  have fr250 : ∀ j : Nat, (j < 0) → z228 j = u j := fun j h0 => (hzf232 j (by omega) (by omega)).trans (fr227 j h0)
  refine w_putF (C := "LevelledRing") (T := T_R) (M := 11) (ty := (.object "LevelledRing$Poly")) (v := .ref (b + 17)) hx hb hts hinR ty_R tyok_R nm_R hown hK hP hS (0) (by omega) ff233 rfl 9 (by decide) kk31 (fun _ h => h) rfl hnm rfl (by decide +kernel) rfl rfl (Nat.le_of_ble_eq_true rfl) d_R_init_89 (fun H locs hP hS => ?_)
  obtain ⟨u251, hu252, hP⟩ : ∃ zz : Nat → va_E, zz = va_up z228 0 (.inr (5, [.ref (b + 1), .null, .ref (b + 2), .ref (b + 4), .int (iI (0)), .int (iI (0)), .ref (b + 5), .ref (b + 10), .ref (b + 15), .ref (b + 17), .null])) ∧ va_P D vwCl (wl 19 b zz) H := ⟨_, rfl, hP⟩
  have ff253 : u251 0 = .inr (5, [.ref (b + 1), .null, .ref (b + 2), .ref (b + 4), .int (iI (0)), .int (iI (0)), .ref (b + 5), .ref (b + 10), .ref (b + 15), .ref (b + 17), .null]) := (congrFun hu252 _).trans up_s
  have ff254 : u251 1 = .inr (0, [.int (0)]) := (congrFun hu252 _).trans ((up_n (by omega)).trans ff234)
  have ff255 : u251 2 = .inr (3, [.int (iI (1)), .ref (b + 3)]) := (congrFun hu252 _).trans ((up_n (by omega)).trans ff235)
  have ff256 : u251 3 = ir ct 8 (fun _ => 0) := (congrFun hu252 _).trans ((up_n (by omega)).trans ff236)
  have ff257 : u251 4 = qr ct 3 24 (fun _ => none) := (congrFun hu252 _).trans ((up_n (by omega)).trans ff237)
  have ff258 : u251 5 = .inr (4, [.int (iI (0)), .long (lI (0)), .ref (b + 6), .ref (b + 8)]) := (congrFun hu252 _).trans ((up_n (by omega)).trans ff238)
  have ff259 : u251 6 = .inr (3, [.int (iI (0)), .ref (b + 7)]) := (congrFun hu252 _).trans ((up_n (by omega)).trans ff239)
  have ff260 : u251 7 = ir ct 32 (fun _ => 0) := (congrFun hu252 _).trans ((up_n (by omega)).trans ff240)
  have ff261 : u251 8 = .inr (3, [.int (iI (0)), .ref (b + 9)]) := (congrFun hu252 _).trans ((up_n (by omega)).trans ff241)
  have ff262 : u251 9 = ir ct 32 (fun _ => 0) := (congrFun hu252 _).trans ((up_n (by omega)).trans ff242)
  have ff263 : u251 10 = .inr (4, [.int (iI (0)), .long (lI (0)), .ref (b + 11), .ref (b + 13)]) := (congrFun hu252 _).trans ((up_n (by omega)).trans ff243)
  have ff264 : u251 11 = .inr (3, [.int (iI (0)), .ref (b + 12)]) := (congrFun hu252 _).trans ((up_n (by omega)).trans ff244)
  have ff265 : u251 12 = ir ct 32 (fun _ => 0) := (congrFun hu252 _).trans ((up_n (by omega)).trans ff245)
  have ff266 : u251 13 = .inr (3, [.int (iI (0)), .ref (b + 14)]) := (congrFun hu252 _).trans ((up_n (by omega)).trans ff246)
  have ff267 : u251 14 = ir ct 32 (fun _ => 0) := (congrFun hu252 _).trans ((up_n (by omega)).trans ff247)
  have ff268 : u251 15 = .inr (3, [.int (iI (0)), .ref (b + 16)]) := (congrFun hu252 _).trans ((up_n (by omega)).trans ff248)
  have ff269 : u251 16 = ir ct 32 (fun _ => 0) := (congrFun hu252 _).trans ((up_n (by omega)).trans ff249)
  have ff270 : u251 17 = .inr (3, [.int (iI (0)), .ref (b + 18)]) := (congrFun hu252 _).trans ((up_n (by omega)).trans hq230)
  have ff271 : u251 18 = ir ct 32 (fun _ => 0) := (congrFun hu252 _).trans ((up_n (by omega)).trans hq231)
  have fr272 : ∀ j : Nat, (j < 0) → u251 j = u j := fun j h0 => (congrFun hu252 j).trans ((up_n (by omega)).trans (fr250 j h0))
  refine lv_aload_n hx hb d_R_init_92 rfl (lv_at hl 0 rfl) ?_
  refine w_new (C := "LevelledRing$Poly") (T := T_P) (M := 2) (ci := 3) (fs := [.int (iI (0)), .null]) hx hb hts hinP ty_P tyok_P hown kk11 kk12 kk13 hK hP hS (ev_b E) (by omega) rfl (fun j hj => by rcases (show j = 0 ∨ j = 1 by omega) with rfl | rfl <;> rfl) (Nat.le_of_ble_eq_true rfl) (Nat.le_of_ble_eq_true rfl) d_R_init_93 (fun H hP hS => ?_)
  obtain ⟨u273, hu274, hP⟩ : ∃ zz : Nat → va_E, zz = va_up u251 19 (.inr (3, [.int (iI (0)), .null])) ∧ va_P D vwCl (wl 20 b zz) H := ⟨_, rfl, hP⟩
  have ff275 : u273 0 = .inr (5, [.ref (b + 1), .null, .ref (b + 2), .ref (b + 4), .int (iI (0)), .int (iI (0)), .ref (b + 5), .ref (b + 10), .ref (b + 15), .ref (b + 17), .null]) := (congrFun hu274 _).trans ((up_n (by omega)).trans ff253)
  have ff276 : u273 1 = .inr (0, [.int (0)]) := (congrFun hu274 _).trans ((up_n (by omega)).trans ff254)
  have ff277 : u273 2 = .inr (3, [.int (iI (1)), .ref (b + 3)]) := (congrFun hu274 _).trans ((up_n (by omega)).trans ff255)
  have ff278 : u273 3 = ir ct 8 (fun _ => 0) := (congrFun hu274 _).trans ((up_n (by omega)).trans ff256)
  have ff279 : u273 4 = qr ct 3 24 (fun _ => none) := (congrFun hu274 _).trans ((up_n (by omega)).trans ff257)
  have ff280 : u273 5 = .inr (4, [.int (iI (0)), .long (lI (0)), .ref (b + 6), .ref (b + 8)]) := (congrFun hu274 _).trans ((up_n (by omega)).trans ff258)
  have ff281 : u273 6 = .inr (3, [.int (iI (0)), .ref (b + 7)]) := (congrFun hu274 _).trans ((up_n (by omega)).trans ff259)
  have ff282 : u273 7 = ir ct 32 (fun _ => 0) := (congrFun hu274 _).trans ((up_n (by omega)).trans ff260)
  have ff283 : u273 8 = .inr (3, [.int (iI (0)), .ref (b + 9)]) := (congrFun hu274 _).trans ((up_n (by omega)).trans ff261)
  have ff284 : u273 9 = ir ct 32 (fun _ => 0) := (congrFun hu274 _).trans ((up_n (by omega)).trans ff262)
  have ff285 : u273 10 = .inr (4, [.int (iI (0)), .long (lI (0)), .ref (b + 11), .ref (b + 13)]) := (congrFun hu274 _).trans ((up_n (by omega)).trans ff263)
  have ff286 : u273 11 = .inr (3, [.int (iI (0)), .ref (b + 12)]) := (congrFun hu274 _).trans ((up_n (by omega)).trans ff264)
  have ff287 : u273 12 = ir ct 32 (fun _ => 0) := (congrFun hu274 _).trans ((up_n (by omega)).trans ff265)
  have ff288 : u273 13 = .inr (3, [.int (iI (0)), .ref (b + 14)]) := (congrFun hu274 _).trans ((up_n (by omega)).trans ff266)
  have ff289 : u273 14 = ir ct 32 (fun _ => 0) := (congrFun hu274 _).trans ((up_n (by omega)).trans ff267)
  have ff290 : u273 15 = .inr (3, [.int (iI (0)), .ref (b + 16)]) := (congrFun hu274 _).trans ((up_n (by omega)).trans ff268)
  have ff291 : u273 16 = ir ct 32 (fun _ => 0) := (congrFun hu274 _).trans ((up_n (by omega)).trans ff269)
  have ff292 : u273 17 = .inr (3, [.int (iI (0)), .ref (b + 18)]) := (congrFun hu274 _).trans ((up_n (by omega)).trans ff270)
  have ff293 : u273 18 = ir ct 32 (fun _ => 0) := (congrFun hu274 _).trans ((up_n (by omega)).trans ff271)
  have ff294 : u273 19 = .inr (3, [.int (iI (0)), .null]) := (congrFun hu274 _).trans up_s
  have fr295 : ∀ j : Nat, (j < 0) → u273 j = u j := fun j h0 => (congrFun hu274 j).trans ((up_n (by omega)).trans (fr272 j h0))
  refine lv_dup hx hb d_R_init_96 rfl ?_
  refine lv_iconst (v := iI (0)) hx hb d_R_init_97 rfl ?_
  refine w_sz hP (by omega) (by omega) (fun hHs => ?_)
  refine w_callv (va_runI (As := [.int (iI (0))]) (rest := [.ref (b + 19), .ref (b + 0)]) ⟨hx, hb, hml, hown, hts⟩ (c_P_init l D ct st ke b u273 (19) 32 0 (Or.inr ⟨rfl, rfl⟩) ff294) (cwI 1 hts (gC t_35) rfl rfl rfl kk13 kk16 kk15 rfl (by decide +kernel) ⟨Nat.le_of_ble_eq_true rfl, Nat.le_of_ble_eq_true rfl⟩) (pre_C E hP hS hHs) rfl rfl hl.1 rfl (lv_room (Nat.le_of_ble_eq_true rfl)) d_R_init_98 ⟨(Nat.le_of_ble_eq_true rfl), (Nat.le_of_ble_eq_true rfl)⟩) hS (fun z296 H locs hz hP hS => ?_)
  obtain ⟨hq298, hq299, hzf300⟩ := hz
  have ff301 : z296 0 = .inr (5, [.ref (b + 1), .null, .ref (b + 2), .ref (b + 4), .int (iI (0)), .int (iI (0)), .ref (b + 5), .ref (b + 10), .ref (b + 15), .ref (b + 17), .null]) := (hzf300 0 (by omega) (by omega)).trans ff275
  have ff302 : z296 1 = .inr (0, [.int (0)]) := (hzf300 1 (by omega) (by omega)).trans ff276
  have ff303 : z296 2 = .inr (3, [.int (iI (1)), .ref (b + 3)]) := (hzf300 2 (by omega) (by omega)).trans ff277
  have ff304 : z296 3 = ir ct 8 (fun _ => 0) := (hzf300 3 (by omega) (by omega)).trans ff278
  have ff305 : z296 4 = qr ct 3 24 (fun _ => none) := (hzf300 4 (by omega) (by omega)).trans ff279
  have ff306 : z296 5 = .inr (4, [.int (iI (0)), .long (lI (0)), .ref (b + 6), .ref (b + 8)]) := (hzf300 5 (by omega) (by omega)).trans ff280
  have ff307 : z296 6 = .inr (3, [.int (iI (0)), .ref (b + 7)]) := (hzf300 6 (by omega) (by omega)).trans ff281
  have ff308 : z296 7 = ir ct 32 (fun _ => 0) := (hzf300 7 (by omega) (by omega)).trans ff282
  have ff309 : z296 8 = .inr (3, [.int (iI (0)), .ref (b + 9)]) := (hzf300 8 (by omega) (by omega)).trans ff283
  have ff310 : z296 9 = ir ct 32 (fun _ => 0) := (hzf300 9 (by omega) (by omega)).trans ff284
  have ff311 : z296 10 = .inr (4, [.int (iI (0)), .long (lI (0)), .ref (b + 11), .ref (b + 13)]) := (hzf300 10 (by omega) (by omega)).trans ff285
  have ff312 : z296 11 = .inr (3, [.int (iI (0)), .ref (b + 12)]) := (hzf300 11 (by omega) (by omega)).trans ff286
  have ff313 : z296 12 = ir ct 32 (fun _ => 0) := (hzf300 12 (by omega) (by omega)).trans ff287
  have ff314 : z296 13 = .inr (3, [.int (iI (0)), .ref (b + 14)]) := (hzf300 13 (by omega) (by omega)).trans ff288
  have ff315 : z296 14 = ir ct 32 (fun _ => 0) := (hzf300 14 (by omega) (by omega)).trans ff289
  have ff316 : z296 15 = .inr (3, [.int (iI (0)), .ref (b + 16)]) := (hzf300 15 (by omega) (by omega)).trans ff290
  have ff317 : z296 16 = ir ct 32 (fun _ => 0) := (hzf300 16 (by omega) (by omega)).trans ff291
  have ff318 : z296 17 = .inr (3, [.int (iI (0)), .ref (b + 18)]) := (hzf300 17 (by omega) (by omega)).trans ff292
  have ff319 : z296 18 = ir ct 32 (fun _ => 0) := (hzf300 18 (by omega) (by omega)).trans ff293
  have fr320 : ∀ j : Nat, (j < 0) → z296 j = u j := fun j h0 => (hzf300 j (by omega) (by omega)).trans (fr295 j h0)
  refine w_putF (C := "LevelledRing") (T := T_R) (M := 11) (ty := (.object "LevelledRing$Poly")) (v := .ref (b + 19)) hx hb hts hinR ty_R tyok_R nm_R hown hK hP hS (0) (by omega) ff301 rfl 10 (by decide) kk32 (fun _ h => h) rfl hnm rfl (by decide +kernel) rfl rfl (Nat.le_of_ble_eq_true rfl) d_R_init_101 (fun H locs hP hS => ?_)
  obtain ⟨u321, hu322, hP⟩ : ∃ zz : Nat → va_E, zz = va_up z296 0 (.inr (5, [.ref (b + 1), .null, .ref (b + 2), .ref (b + 4), .int (iI (0)), .int (iI (0)), .ref (b + 5), .ref (b + 10), .ref (b + 15), .ref (b + 17), .ref (b + 19)])) ∧ va_P D vwCl (wl 21 b zz) H := ⟨_, rfl, hP⟩
  have ff323 : u321 0 = .inr (5, [.ref (b + 1), .null, .ref (b + 2), .ref (b + 4), .int (iI (0)), .int (iI (0)), .ref (b + 5), .ref (b + 10), .ref (b + 15), .ref (b + 17), .ref (b + 19)]) := (congrFun hu322 _).trans up_s
  have ff324 : u321 1 = .inr (0, [.int (0)]) := (congrFun hu322 _).trans ((up_n (by omega)).trans ff302)
  have ff325 : u321 2 = .inr (3, [.int (iI (1)), .ref (b + 3)]) := (congrFun hu322 _).trans ((up_n (by omega)).trans ff303)
  have ff326 : u321 3 = ir ct 8 (fun _ => 0) := (congrFun hu322 _).trans ((up_n (by omega)).trans ff304)
  have ff327 : u321 4 = qr ct 3 24 (fun _ => none) := (congrFun hu322 _).trans ((up_n (by omega)).trans ff305)
  have ff328 : u321 5 = .inr (4, [.int (iI (0)), .long (lI (0)), .ref (b + 6), .ref (b + 8)]) := (congrFun hu322 _).trans ((up_n (by omega)).trans ff306)
  have ff329 : u321 6 = .inr (3, [.int (iI (0)), .ref (b + 7)]) := (congrFun hu322 _).trans ((up_n (by omega)).trans ff307)
  have ff330 : u321 7 = ir ct 32 (fun _ => 0) := (congrFun hu322 _).trans ((up_n (by omega)).trans ff308)
  have ff331 : u321 8 = .inr (3, [.int (iI (0)), .ref (b + 9)]) := (congrFun hu322 _).trans ((up_n (by omega)).trans ff309)
  have ff332 : u321 9 = ir ct 32 (fun _ => 0) := (congrFun hu322 _).trans ((up_n (by omega)).trans ff310)
  have ff333 : u321 10 = .inr (4, [.int (iI (0)), .long (lI (0)), .ref (b + 11), .ref (b + 13)]) := (congrFun hu322 _).trans ((up_n (by omega)).trans ff311)
  have ff334 : u321 11 = .inr (3, [.int (iI (0)), .ref (b + 12)]) := (congrFun hu322 _).trans ((up_n (by omega)).trans ff312)
  have ff335 : u321 12 = ir ct 32 (fun _ => 0) := (congrFun hu322 _).trans ((up_n (by omega)).trans ff313)
  have ff336 : u321 13 = .inr (3, [.int (iI (0)), .ref (b + 14)]) := (congrFun hu322 _).trans ((up_n (by omega)).trans ff314)
  have ff337 : u321 14 = ir ct 32 (fun _ => 0) := (congrFun hu322 _).trans ((up_n (by omega)).trans ff315)
  have ff338 : u321 15 = .inr (3, [.int (iI (0)), .ref (b + 16)]) := (congrFun hu322 _).trans ((up_n (by omega)).trans ff316)
  have ff339 : u321 16 = ir ct 32 (fun _ => 0) := (congrFun hu322 _).trans ((up_n (by omega)).trans ff317)
  have ff340 : u321 17 = .inr (3, [.int (iI (0)), .ref (b + 18)]) := (congrFun hu322 _).trans ((up_n (by omega)).trans ff318)
  have ff341 : u321 18 = ir ct 32 (fun _ => 0) := (congrFun hu322 _).trans ((up_n (by omega)).trans ff319)
  have ff342 : u321 19 = .inr (3, [.int (iI (0)), .ref (b + 20)]) := (congrFun hu322 _).trans ((up_n (by omega)).trans hq298)
  have ff343 : u321 20 = ir ct 32 (fun _ => 0) := (congrFun hu322 _).trans ((up_n (by omega)).trans hq299)
  have fr344 : ∀ j : Nat, (j < 0) → u321 j = u j := fun j h0 => (congrFun hu322 j).trans ((up_n (by omega)).trans (fr320 j h0))
  refine lv_aload_n hx hb d_R_init_104 rfl (lv_at hl 0 rfl) ?_
  refine w_get (C := "LevelledRing") (T := T_R) (M := 11) hx hb hts hinR hown hK hP (0) (by omega) ff323 rfl 0 (by decide) kk9 (fun _ h => h) rfl d_R_init_105 ?_
  refine lv_iload_n hx hb d_R_init_108 rfl (lv_at hl 1 rfl) ?_
  refine w_callv (va_runV (As := [.int z0]) (rest := []) ⟨hx, hb, hml, hown, hts⟩ (c_start l D ct st ke b 21 u321 1 0 z0 (by decide) ff324) (cwV 1 hts (gV t_73 t_74 t_75 t_2 t_76) rfl rfl rfl (by decide +kernel) ⟨Nat.le_of_ble_eq_true rfl, Nat.le_of_ble_eq_true rfl⟩) (pre_V E hP hS (1) (by omega) ff324 rfl) rfl rfl hl.1 rfl (lv_room (Nat.le_of_ble_eq_true rfl)) d_R_init_109 ⟨(Nat.le_of_ble_eq_true rfl), (Nat.le_of_ble_eq_true rfl)⟩) hS (fun z345 H locs hz hP hS => ?_)
  obtain ⟨hd3, hd4⟩ := hz
  have ff347 : z345 0 = .inr (5, [.ref (b + 1), .null, .ref (b + 2), .ref (b + 4), .int (iI (0)), .int (iI (0)), .ref (b + 5), .ref (b + 10), .ref (b + 15), .ref (b + 17), .ref (b + 19)]) := (hd4 0 (by omega)).trans ff323
  have ff348 : z345 2 = .inr (3, [.int (iI (1)), .ref (b + 3)]) := (hd4 2 (by omega)).trans ff325
  have ff349 : z345 3 = ir ct 8 (fun _ => 0) := (hd4 3 (by omega)).trans ff326
  have ff350 : z345 4 = qr ct 3 24 (fun _ => none) := (hd4 4 (by omega)).trans ff327
  have ff351 : z345 5 = .inr (4, [.int (iI (0)), .long (lI (0)), .ref (b + 6), .ref (b + 8)]) := (hd4 5 (by omega)).trans ff328
  have ff352 : z345 6 = .inr (3, [.int (iI (0)), .ref (b + 7)]) := (hd4 6 (by omega)).trans ff329
  have ff353 : z345 7 = ir ct 32 (fun _ => 0) := (hd4 7 (by omega)).trans ff330
  have ff354 : z345 8 = .inr (3, [.int (iI (0)), .ref (b + 9)]) := (hd4 8 (by omega)).trans ff331
  have ff355 : z345 9 = ir ct 32 (fun _ => 0) := (hd4 9 (by omega)).trans ff332
  have ff356 : z345 10 = .inr (4, [.int (iI (0)), .long (lI (0)), .ref (b + 11), .ref (b + 13)]) := (hd4 10 (by omega)).trans ff333
  have ff357 : z345 11 = .inr (3, [.int (iI (0)), .ref (b + 12)]) := (hd4 11 (by omega)).trans ff334
  have ff358 : z345 12 = ir ct 32 (fun _ => 0) := (hd4 12 (by omega)).trans ff335
  have ff359 : z345 13 = .inr (3, [.int (iI (0)), .ref (b + 14)]) := (hd4 13 (by omega)).trans ff336
  have ff360 : z345 14 = ir ct 32 (fun _ => 0) := (hd4 14 (by omega)).trans ff337
  have ff361 : z345 15 = .inr (3, [.int (iI (0)), .ref (b + 16)]) := (hd4 15 (by omega)).trans ff338
  have ff362 : z345 16 = ir ct 32 (fun _ => 0) := (hd4 16 (by omega)).trans ff339
  have ff363 : z345 17 = .inr (3, [.int (iI (0)), .ref (b + 18)]) := (hd4 17 (by omega)).trans ff340
  have ff364 : z345 18 = ir ct 32 (fun _ => 0) := (hd4 18 (by omega)).trans ff341
  have ff365 : z345 19 = .inr (3, [.int (iI (0)), .ref (b + 20)]) := (hd4 19 (by omega)).trans ff342
  have ff366 : z345 20 = ir ct 32 (fun _ => 0) := (hd4 20 (by omega)).trans ff343
  have fr367 : ∀ j : Nat, (j < 0) → z345 j = u j := fun j h0 => (hd4 j (by omega)).trans (fr344 j h0)
  refine lv_aload_n hx hb d_R_init_112 rfl (lv_at hl 0 rfl) ?_
  refine w_new (C := "LevelledRing$Keys") (T := T_K) (M := 3) (ci := 2) (fs := [.null, .null, .null]) hx hb hts hinK ty_K tyok_K hown kk33 kk34 kk35 hK hP hS (ev_b E) (by omega) rfl (fun j hj => by rcases (show j = 0 ∨ j = 1 ∨ j = 2 by omega) with rfl | rfl | rfl <;> rfl) (Nat.le_of_ble_eq_true rfl) (Nat.le_of_ble_eq_true rfl) d_R_init_113 (fun H hP hS => ?_)
  obtain ⟨u368, hu369, hP⟩ : ∃ zz : Nat → va_E, zz = va_up z345 21 (.inr (2, [.null, .null, .null])) ∧ va_P D vwCl (wl 22 b zz) H := ⟨_, rfl, hP⟩
  have ff370 : u368 0 = .inr (5, [.ref (b + 1), .null, .ref (b + 2), .ref (b + 4), .int (iI (0)), .int (iI (0)), .ref (b + 5), .ref (b + 10), .ref (b + 15), .ref (b + 17), .ref (b + 19)]) := (congrFun hu369 _).trans ((up_n (by omega)).trans ff347)
  have ff371 : u368 2 = .inr (3, [.int (iI (1)), .ref (b + 3)]) := (congrFun hu369 _).trans ((up_n (by omega)).trans ff348)
  have ff372 : u368 3 = ir ct 8 (fun _ => 0) := (congrFun hu369 _).trans ((up_n (by omega)).trans ff349)
  have ff373 : u368 4 = qr ct 3 24 (fun _ => none) := (congrFun hu369 _).trans ((up_n (by omega)).trans ff350)
  have ff374 : u368 5 = .inr (4, [.int (iI (0)), .long (lI (0)), .ref (b + 6), .ref (b + 8)]) := (congrFun hu369 _).trans ((up_n (by omega)).trans ff351)
  have ff375 : u368 6 = .inr (3, [.int (iI (0)), .ref (b + 7)]) := (congrFun hu369 _).trans ((up_n (by omega)).trans ff352)
  have ff376 : u368 7 = ir ct 32 (fun _ => 0) := (congrFun hu369 _).trans ((up_n (by omega)).trans ff353)
  have ff377 : u368 8 = .inr (3, [.int (iI (0)), .ref (b + 9)]) := (congrFun hu369 _).trans ((up_n (by omega)).trans ff354)
  have ff378 : u368 9 = ir ct 32 (fun _ => 0) := (congrFun hu369 _).trans ((up_n (by omega)).trans ff355)
  have ff379 : u368 10 = .inr (4, [.int (iI (0)), .long (lI (0)), .ref (b + 11), .ref (b + 13)]) := (congrFun hu369 _).trans ((up_n (by omega)).trans ff356)
  have ff380 : u368 11 = .inr (3, [.int (iI (0)), .ref (b + 12)]) := (congrFun hu369 _).trans ((up_n (by omega)).trans ff357)
  have ff381 : u368 12 = ir ct 32 (fun _ => 0) := (congrFun hu369 _).trans ((up_n (by omega)).trans ff358)
  have ff382 : u368 13 = .inr (3, [.int (iI (0)), .ref (b + 14)]) := (congrFun hu369 _).trans ((up_n (by omega)).trans ff359)
  have ff383 : u368 14 = ir ct 32 (fun _ => 0) := (congrFun hu369 _).trans ((up_n (by omega)).trans ff360)
  have ff384 : u368 15 = .inr (3, [.int (iI (0)), .ref (b + 16)]) := (congrFun hu369 _).trans ((up_n (by omega)).trans ff361)
  have ff385 : u368 16 = ir ct 32 (fun _ => 0) := (congrFun hu369 _).trans ((up_n (by omega)).trans ff362)
  have ff386 : u368 17 = .inr (3, [.int (iI (0)), .ref (b + 18)]) := (congrFun hu369 _).trans ((up_n (by omega)).trans ff363)
  have ff387 : u368 18 = ir ct 32 (fun _ => 0) := (congrFun hu369 _).trans ((up_n (by omega)).trans ff364)
  have ff388 : u368 19 = .inr (3, [.int (iI (0)), .ref (b + 20)]) := (congrFun hu369 _).trans ((up_n (by omega)).trans ff365)
  have ff389 : u368 20 = ir ct 32 (fun _ => 0) := (congrFun hu369 _).trans ((up_n (by omega)).trans ff366)
  have ff390 : u368 1 = .inr (0, [.int (z0)]) := (congrFun hu369 _).trans ((up_n (by omega)).trans hd3)
  have ff391 : u368 21 = .inr (2, [.null, .null, .null]) := (congrFun hu369 _).trans up_s
  have fr392 : ∀ j : Nat, (j < 0) → u368 j = u j := fun j h0 => (congrFun hu369 j).trans ((up_n (by omega)).trans (fr367 j h0))
  refine lv_dup hx hb d_R_init_116 rfl ?_
  refine lv_aload_n hx hb d_R_init_117 rfl (lv_at hl 0 rfl) ?_
  refine w_get (C := "LevelledRing") (T := T_R) (M := 11) hx hb hts hinR hown hK hP (0) (by omega) ff370 rfl 0 (by decide) kk9 (fun _ h => h) rfl d_R_init_118 ?_
  refine w_sz hP (by omega) (by omega) (fun hHs => ?_)
  refine w_callv (va_runI (As := [.ref (b + 1)]) (rest := [.ref (b + 21), .ref (b + 0)]) ⟨hx, hb, hml, hown, hts⟩ (c_K_init l D ct st ke b u368 z0 ff391 ff390) (cwI 1 hts (gC t_81) rfl rfl rfl kk35 kk38 kk37 rfl (by decide +kernel) ⟨Nat.le_of_ble_eq_true rfl, Nat.le_of_ble_eq_true rfl⟩) (pre_C E hP hS hHs) rfl rfl hl.1 rfl (lv_room (Nat.le_of_ble_eq_true rfl)) d_R_init_121 ⟨(Nat.le_of_ble_eq_true rfl), (Nat.le_of_ble_eq_true rfl)⟩) hS (fun z393 H locs hz hP hS => ?_)
  obtain ⟨hKS, ⟨z1, hd5⟩, hzK⟩ := hz
  have ff395 : z393 0 = .inr (5, [.ref (b + 1), .null, .ref (b + 2), .ref (b + 4), .int (iI (0)), .int (iI (0)), .ref (b + 5), .ref (b + 10), .ref (b + 15), .ref (b + 17), .ref (b + 19)]) := (hzK 0 (by omega) (by omega)).trans ff370
  have ff396 : z393 2 = .inr (3, [.int (iI (1)), .ref (b + 3)]) := (hzK 2 (by omega) (by omega)).trans ff371
  have ff397 : z393 3 = ir ct 8 (fun _ => 0) := (hzK 3 (by omega) (by omega)).trans ff372
  have ff398 : z393 4 = qr ct 3 24 (fun _ => none) := (hzK 4 (by omega) (by omega)).trans ff373
  have ff399 : z393 5 = .inr (4, [.int (iI (0)), .long (lI (0)), .ref (b + 6), .ref (b + 8)]) := (hzK 5 (by omega) (by omega)).trans ff374
  have ff400 : z393 6 = .inr (3, [.int (iI (0)), .ref (b + 7)]) := (hzK 6 (by omega) (by omega)).trans ff375
  have ff401 : z393 7 = ir ct 32 (fun _ => 0) := (hzK 7 (by omega) (by omega)).trans ff376
  have ff402 : z393 8 = .inr (3, [.int (iI (0)), .ref (b + 9)]) := (hzK 8 (by omega) (by omega)).trans ff377
  have ff403 : z393 9 = ir ct 32 (fun _ => 0) := (hzK 9 (by omega) (by omega)).trans ff378
  have ff404 : z393 10 = .inr (4, [.int (iI (0)), .long (lI (0)), .ref (b + 11), .ref (b + 13)]) := (hzK 10 (by omega) (by omega)).trans ff379
  have ff405 : z393 11 = .inr (3, [.int (iI (0)), .ref (b + 12)]) := (hzK 11 (by omega) (by omega)).trans ff380
  have ff406 : z393 12 = ir ct 32 (fun _ => 0) := (hzK 12 (by omega) (by omega)).trans ff381
  have ff407 : z393 13 = .inr (3, [.int (iI (0)), .ref (b + 14)]) := (hzK 13 (by omega) (by omega)).trans ff382
  have ff408 : z393 14 = ir ct 32 (fun _ => 0) := (hzK 14 (by omega) (by omega)).trans ff383
  have ff409 : z393 15 = .inr (3, [.int (iI (0)), .ref (b + 16)]) := (hzK 15 (by omega) (by omega)).trans ff384
  have ff410 : z393 16 = ir ct 32 (fun _ => 0) := (hzK 16 (by omega) (by omega)).trans ff385
  have ff411 : z393 17 = .inr (3, [.int (iI (0)), .ref (b + 18)]) := (hzK 17 (by omega) (by omega)).trans ff386
  have ff412 : z393 18 = ir ct 32 (fun _ => 0) := (hzK 18 (by omega) (by omega)).trans ff387
  have ff413 : z393 19 = .inr (3, [.int (iI (0)), .ref (b + 20)]) := (hzK 19 (by omega) (by omega)).trans ff388
  have ff414 : z393 20 = ir ct 32 (fun _ => 0) := (hzK 20 (by omega) (by omega)).trans ff389
  have fr415 : ∀ j : Nat, (j < 0) → z393 j = u j := fun j h0 => (hzK j (by omega) (by omega)).trans (fr392 j h0)
  have xf416 : ∀ j : Nat, (21 ≤ j) → (j < 44) → z393 j = z393 j := fun _ _ _ => rfl
  refine w_putF (C := "LevelledRing") (T := T_R) (M := 11) (ty := (.object "LevelledRing$Keys")) (v := .ref (b + 21)) hx hb hts hinR ty_R tyok_R nm_R hown hK hP hS (0) (by omega) ff395 rfl 1 (by decide) kk39 (fun _ h => h) rfl hnm rfl (by decide +kernel) rfl rfl (Nat.le_of_ble_eq_true rfl) d_R_init_124 (fun H locs hP hS => ?_)
  obtain ⟨u417, hu418, hP⟩ : ∃ zz : Nat → va_E, zz = va_up z393 0 (.inr (5, [.ref (b + 1), .ref (b + 21), .ref (b + 2), .ref (b + 4), .int (iI (0)), .int (iI (0)), .ref (b + 5), .ref (b + 10), .ref (b + 15), .ref (b + 17), .ref (b + 19)])) ∧ va_P D vwCl (wl 44 b zz) H := ⟨_, rfl, hP⟩
  have ff419 : u417 0 = .inr (5, [.ref (b + 1), .ref (b + 21), .ref (b + 2), .ref (b + 4), .int (iI (0)), .int (iI (0)), .ref (b + 5), .ref (b + 10), .ref (b + 15), .ref (b + 17), .ref (b + 19)]) := (congrFun hu418 _).trans up_s
  have ff420 : u417 2 = .inr (3, [.int (iI (1)), .ref (b + 3)]) := (congrFun hu418 _).trans ((up_n (by omega)).trans ff396)
  have ff421 : u417 3 = ir ct 8 (fun _ => 0) := (congrFun hu418 _).trans ((up_n (by omega)).trans ff397)
  have ff422 : u417 4 = qr ct 3 24 (fun _ => none) := (congrFun hu418 _).trans ((up_n (by omega)).trans ff398)
  have ff423 : u417 5 = .inr (4, [.int (iI (0)), .long (lI (0)), .ref (b + 6), .ref (b + 8)]) := (congrFun hu418 _).trans ((up_n (by omega)).trans ff399)
  have ff424 : u417 6 = .inr (3, [.int (iI (0)), .ref (b + 7)]) := (congrFun hu418 _).trans ((up_n (by omega)).trans ff400)
  have ff425 : u417 7 = ir ct 32 (fun _ => 0) := (congrFun hu418 _).trans ((up_n (by omega)).trans ff401)
  have ff426 : u417 8 = .inr (3, [.int (iI (0)), .ref (b + 9)]) := (congrFun hu418 _).trans ((up_n (by omega)).trans ff402)
  have ff427 : u417 9 = ir ct 32 (fun _ => 0) := (congrFun hu418 _).trans ((up_n (by omega)).trans ff403)
  have ff428 : u417 10 = .inr (4, [.int (iI (0)), .long (lI (0)), .ref (b + 11), .ref (b + 13)]) := (congrFun hu418 _).trans ((up_n (by omega)).trans ff404)
  have ff429 : u417 11 = .inr (3, [.int (iI (0)), .ref (b + 12)]) := (congrFun hu418 _).trans ((up_n (by omega)).trans ff405)
  have ff430 : u417 12 = ir ct 32 (fun _ => 0) := (congrFun hu418 _).trans ((up_n (by omega)).trans ff406)
  have ff431 : u417 13 = .inr (3, [.int (iI (0)), .ref (b + 14)]) := (congrFun hu418 _).trans ((up_n (by omega)).trans ff407)
  have ff432 : u417 14 = ir ct 32 (fun _ => 0) := (congrFun hu418 _).trans ((up_n (by omega)).trans ff408)
  have ff433 : u417 15 = .inr (3, [.int (iI (0)), .ref (b + 16)]) := (congrFun hu418 _).trans ((up_n (by omega)).trans ff409)
  have ff434 : u417 16 = ir ct 32 (fun _ => 0) := (congrFun hu418 _).trans ((up_n (by omega)).trans ff410)
  have ff435 : u417 17 = .inr (3, [.int (iI (0)), .ref (b + 18)]) := (congrFun hu418 _).trans ((up_n (by omega)).trans ff411)
  have ff436 : u417 18 = ir ct 32 (fun _ => 0) := (congrFun hu418 _).trans ((up_n (by omega)).trans ff412)
  have ff437 : u417 19 = .inr (3, [.int (iI (0)), .ref (b + 20)]) := (congrFun hu418 _).trans ((up_n (by omega)).trans ff413)
  have ff438 : u417 20 = ir ct 32 (fun _ => 0) := (congrFun hu418 _).trans ((up_n (by omega)).trans ff414)
  have ff439 : u417 1 = .inr (0, [.int (z1)]) := (congrFun hu418 _).trans ((up_n (by omega)).trans hd5)
  have fr440 : ∀ j : Nat, (j < 0) → u417 j = u j := fun j h0 => (congrFun hu418 j).trans ((up_n (by omega)).trans (fr415 j h0))
  have xf441 : ∀ j : Nat, (21 ≤ j) → (j < 44) → u417 j = z393 j := fun j h0 h1 => (congrFun hu418 j).trans ((up_n (by omega)).trans (xf416 j h0 h1))
  refine lv_iconst (v := iI (0)) hx hb d_R_init_127 rfl ?_
  refine lv_istore_n (lv' := [(2, .int (iI (0))), (0, .ref (b + 0)), (1, .int z0)]) hx hb d_R_init_128 rfl hl (by decide) rfl (fun ls hl => ?_)
  have fr442 : ∀ j : Nat, (j ≠ 4) → (j < 44) → u417 j = u417 j := fun _ _ _ => rfl
  have lo : ∀ (d : Nat) (jn : Nat) (f : Nat → Option Nat) (w443 : Nat → va_E) (H : Heap) (locs : List Loc) (ls : Array Slot), (jn ≤ 24) → (24 - jn < d) → (∀ i : Nat, i < jn → f i = some (b + (44 + 8 * i))) → (∀ i : Nat, i < jn → (∃ G1 : Gt, GA ct b ke w443 (44 + 8 * i) G1) ∧ VS ct b w443 (47 + 8 * i)) → w443 4 = qr ct 3 24 (f) → (∀ j : Nat, (j ≠ 4) → (j < 44) → w443 j = u417 j) → va_P D vwCl (wl (44 + 8 * jn) b w443) H → va_S (AA b) s.heap H locs → lv_has ls 3 [(2, .int (iI ((jn : Int)))), (0, .ref (b + 0)), (1, .int z0)] → W p l e rm_c_R_init s m args below meth c H locs (43 + 8 * jn) (656 + 126 * jn) Q (F0 m 129 ls []) := by
    intro d
    induction d with
    | zero => intro jn f w443 H locs ls hj hd hf hG fg444 fr445 hP hS hl; exfalso; omega
    | succ d ihlo =>
      intro jn f w443 H locs ls hj hd hf hG fg444 fr445 hP hS hl
      have ff446 : w443 0 = .inr (5, [.ref (b + 1), .ref (b + 21), .ref (b + 2), .ref (b + 4), .int (iI (0)), .int (iI (0)), .ref (b + 5), .ref (b + 10), .ref (b + 15), .ref (b + 17), .ref (b + 19)]) := (fr445 0 (by omega) (by omega)).trans ff419
      have ff447 : w443 2 = .inr (3, [.int (iI (1)), .ref (b + 3)]) := (fr445 2 (by omega) (by omega)).trans ff420
      have ff448 : w443 3 = ir ct 8 (fun _ => 0) := (fr445 3 (by omega) (by omega)).trans ff421
      have ff449 : w443 5 = .inr (4, [.int (iI (0)), .long (lI (0)), .ref (b + 6), .ref (b + 8)]) := (fr445 5 (by omega) (by omega)).trans ff423
      have ff450 : w443 6 = .inr (3, [.int (iI (0)), .ref (b + 7)]) := (fr445 6 (by omega) (by omega)).trans ff424
      have ff451 : w443 7 = ir ct 32 (fun _ => 0) := (fr445 7 (by omega) (by omega)).trans ff425
      have ff452 : w443 8 = .inr (3, [.int (iI (0)), .ref (b + 9)]) := (fr445 8 (by omega) (by omega)).trans ff426
      have ff453 : w443 9 = ir ct 32 (fun _ => 0) := (fr445 9 (by omega) (by omega)).trans ff427
      have ff454 : w443 10 = .inr (4, [.int (iI (0)), .long (lI (0)), .ref (b + 11), .ref (b + 13)]) := (fr445 10 (by omega) (by omega)).trans ff428
      have ff455 : w443 11 = .inr (3, [.int (iI (0)), .ref (b + 12)]) := (fr445 11 (by omega) (by omega)).trans ff429
      have ff456 : w443 12 = ir ct 32 (fun _ => 0) := (fr445 12 (by omega) (by omega)).trans ff430
      have ff457 : w443 13 = .inr (3, [.int (iI (0)), .ref (b + 14)]) := (fr445 13 (by omega) (by omega)).trans ff431
      have ff458 : w443 14 = ir ct 32 (fun _ => 0) := (fr445 14 (by omega) (by omega)).trans ff432
      have ff459 : w443 15 = .inr (3, [.int (iI (0)), .ref (b + 16)]) := (fr445 15 (by omega) (by omega)).trans ff433
      have ff460 : w443 16 = ir ct 32 (fun _ => 0) := (fr445 16 (by omega) (by omega)).trans ff434
      have ff461 : w443 17 = .inr (3, [.int (iI (0)), .ref (b + 18)]) := (fr445 17 (by omega) (by omega)).trans ff435
      have ff462 : w443 18 = ir ct 32 (fun _ => 0) := (fr445 18 (by omega) (by omega)).trans ff436
      have ff463 : w443 19 = .inr (3, [.int (iI (0)), .ref (b + 20)]) := (fr445 19 (by omega) (by omega)).trans ff437
      have ff464 : w443 20 = ir ct 32 (fun _ => 0) := (fr445 20 (by omega) (by omega)).trans ff438
      have ff465 : w443 1 = .inr (0, [.int (z1)]) := (fr445 1 (by omega) (by omega)).trans ff439
      refine lv_iload_n hx hb d_R_init_129 rfl (lv_at hl 0 rfl) ?_
      refine lv_bipush (v := iI (24)) hx hb d_R_init_130 (by decide +kernel) ?_
      refine x_icmp_ge (tgt := 154) hx hb ⟨by omega, by omega⟩ ⟨by omega, by omega⟩ d_R_init_132 (by decide) (fun hc => ?_) (fun hc => ?_)
      · obtain rfl : jn = 24 := by omega
        refine W.widen (k := 235) (n := 3680) (by decide) (by decide) ?_
        exact ret w443 H locs 154 ls (fun G V => ⟨ff446, ⟨⟨_, ff465⟩, ⟨_, _, _, _, ff449, ff450, ff451, ff452, ff453⟩, ⟨_, _, _, _, ff454, ff455, ff456, ff457, ff458⟩, ⟨ff459, _, ff460⟩, ⟨ff461, _, ff462⟩, ⟨ff463, _, ff464⟩⟩, ⟨ff447, _, ff448, fun _ _ _ => rfl⟩, ⟨f, fg444, hf⟩, hKS.of (fun j h1 h2 => (fr445 j (by omega) (by omega)).trans (xf441 j h1 h2)), hG, fun i hi => absurd hi (Nat.not_lt_zero i), fun i hi => absurd hi (Nat.not_lt_zero i)⟩) hP hS d_R_init_154
      · have xf466 : ∀ j : Nat, (44 ≤ j) → (j < 44 + 8 * jn) → w443 j = w443 j := fun _ _ _ => rfl
        refine lv_aload_n hx hb d_R_init_135 rfl (lv_at hl 1 rfl) ?_
        refine w_get (C := "LevelledRing") (T := T_R) (M := 11) hx hb hts hinR hown hK hP (0) (by omega) ff446 rfl 3 (by decide) kk19 (fun _ h => h) rfl d_R_init_136 ?_
        refine lv_iload_n hx hb d_R_init_139 rfl (lv_at hl 0 rfl) ?_
        refine w_new (C := "LevelledRing$Gate") (T := T_G) (M := 6) (ci := 1) (fs := [.null, .int (iI (0)), .int (iI (0)), .int (iI (0)), .null, .null]) hx hb hts hinG ty_G tyok_G hown kk18 kk40 kk41 hK hP hS (ev_b E) (by omega) rfl (fun j hj => by rcases (show j = 0 ∨ j = 1 ∨ j = 2 ∨ j = 3 ∨ j = 4 ∨ j = 5 by omega) with rfl | rfl | rfl | rfl | rfl | rfl <;> rfl) (by show _ ≤ (235 : Nat); omega) (by show _ ≤ (3680 : Nat); omega) d_R_init_140 (fun H hP hS => ?_)
        obtain ⟨u467, hu468, hP⟩ : ∃ zz : Nat → va_E, zz = va_up w443 (44 + 8 * jn) (.inr (1, [.null, .int (iI (0)), .int (iI (0)), .int (iI (0)), .null, .null])) ∧ va_P D vwCl (wl (44 + 8 * jn + 1) b zz) H := ⟨_, rfl, hP⟩
        have ff469 : u467 0 = .inr (5, [.ref (b + 1), .ref (b + 21), .ref (b + 2), .ref (b + 4), .int (iI (0)), .int (iI (0)), .ref (b + 5), .ref (b + 10), .ref (b + 15), .ref (b + 17), .ref (b + 19)]) := (congrFun hu468 _).trans ((up_n (by omega)).trans ff446)
        have ff470 : u467 2 = .inr (3, [.int (iI (1)), .ref (b + 3)]) := (congrFun hu468 _).trans ((up_n (by omega)).trans ff447)
        have ff471 : u467 3 = ir ct 8 (fun _ => 0) := (congrFun hu468 _).trans ((up_n (by omega)).trans ff448)
        have ff472 : u467 5 = .inr (4, [.int (iI (0)), .long (lI (0)), .ref (b + 6), .ref (b + 8)]) := (congrFun hu468 _).trans ((up_n (by omega)).trans ff449)
        have ff473 : u467 6 = .inr (3, [.int (iI (0)), .ref (b + 7)]) := (congrFun hu468 _).trans ((up_n (by omega)).trans ff450)
        have ff474 : u467 7 = ir ct 32 (fun _ => 0) := (congrFun hu468 _).trans ((up_n (by omega)).trans ff451)
        have ff475 : u467 8 = .inr (3, [.int (iI (0)), .ref (b + 9)]) := (congrFun hu468 _).trans ((up_n (by omega)).trans ff452)
        have ff476 : u467 9 = ir ct 32 (fun _ => 0) := (congrFun hu468 _).trans ((up_n (by omega)).trans ff453)
        have ff477 : u467 10 = .inr (4, [.int (iI (0)), .long (lI (0)), .ref (b + 11), .ref (b + 13)]) := (congrFun hu468 _).trans ((up_n (by omega)).trans ff454)
        have ff478 : u467 11 = .inr (3, [.int (iI (0)), .ref (b + 12)]) := (congrFun hu468 _).trans ((up_n (by omega)).trans ff455)
        have ff479 : u467 12 = ir ct 32 (fun _ => 0) := (congrFun hu468 _).trans ((up_n (by omega)).trans ff456)
        have ff480 : u467 13 = .inr (3, [.int (iI (0)), .ref (b + 14)]) := (congrFun hu468 _).trans ((up_n (by omega)).trans ff457)
        have ff481 : u467 14 = ir ct 32 (fun _ => 0) := (congrFun hu468 _).trans ((up_n (by omega)).trans ff458)
        have ff482 : u467 15 = .inr (3, [.int (iI (0)), .ref (b + 16)]) := (congrFun hu468 _).trans ((up_n (by omega)).trans ff459)
        have ff483 : u467 16 = ir ct 32 (fun _ => 0) := (congrFun hu468 _).trans ((up_n (by omega)).trans ff460)
        have ff484 : u467 17 = .inr (3, [.int (iI (0)), .ref (b + 18)]) := (congrFun hu468 _).trans ((up_n (by omega)).trans ff461)
        have ff485 : u467 18 = ir ct 32 (fun _ => 0) := (congrFun hu468 _).trans ((up_n (by omega)).trans ff462)
        have ff486 : u467 19 = .inr (3, [.int (iI (0)), .ref (b + 20)]) := (congrFun hu468 _).trans ((up_n (by omega)).trans ff463)
        have ff487 : u467 20 = ir ct 32 (fun _ => 0) := (congrFun hu468 _).trans ((up_n (by omega)).trans ff464)
        have ff488 : u467 1 = .inr (0, [.int (z1)]) := (congrFun hu468 _).trans ((up_n (by omega)).trans ff465)
        have ff489 : u467 4 = qr ct 3 24 (f) := (congrFun hu468 _).trans ((up_n (by omega)).trans fg444)
        have ff490 : u467 (44 + 8 * jn) = .inr (1, [.null, .int (iI (0)), .int (iI (0)), .int (iI (0)), .null, .null]) := (congrFun hu468 _).trans up_s
        have fr491 : ∀ j : Nat, (j ≠ 4) → (j < 44) → u467 j = u417 j := fun j h0 h1 => (congrFun hu468 j).trans ((up_n (by omega)).trans (fr445 j h0 h1))
        have xf492 : ∀ j : Nat, (44 ≤ j) → (j < 44 + 8 * jn) → u467 j = w443 j := fun j h0 h1 => (congrFun hu468 j).trans ((up_n (by omega)).trans (xf466 j h0 h1))
        refine lv_dup hx hb d_R_init_143 rfl ?_
        refine w_sz hP (by omega) (by omega) (fun hHs => ?_)
        refine w_callv (va_runIN (As := []) (rest := [.ref (b + (44 + 8 * jn)), .int (iI ((jn : Int))), .ref (b + 4)]) ⟨hx, hb, hml, hown, hts⟩ (c_G_init l D ct st ke b u467 (44 + 8 * jn) ff490) ⟨va_cnB 0 hts (gC t_140) rfl rfl rfl kn44 kk41 (by decide +kernel) ⟨Nat.le_of_ble_eq_true rfl, Nat.le_of_ble_eq_true rfl⟩, rfl, kk43⟩ (pre_C E hP hS hHs) rfl rfl hl.1 rfl (lv_room (Nat.le_of_ble_eq_true rfl)) d_R_init_144 ⟨(by show _ ≤ (235 : Nat); omega), (by show _ ≤ (3680 : Nat); omega)⟩) hS (fun z493 H locs hz hP hS => ?_)
        obtain ⟨q0, q1, q2, q3, q4⟩ := hz
        have ff495 : z493 0 = .inr (5, [.ref (b + 1), .ref (b + 21), .ref (b + 2), .ref (b + 4), .int (iI (0)), .int (iI (0)), .ref (b + 5), .ref (b + 10), .ref (b + 15), .ref (b + 17), .ref (b + 19)]) := (q4 0 (by omega)).trans ff469
        have ff496 : z493 2 = .inr (3, [.int (iI (1)), .ref (b + 3)]) := (q4 2 (by omega)).trans ff470
        have ff497 : z493 3 = ir ct 8 (fun _ => 0) := (q4 3 (by omega)).trans ff471
        have ff498 : z493 5 = .inr (4, [.int (iI (0)), .long (lI (0)), .ref (b + 6), .ref (b + 8)]) := (q4 5 (by omega)).trans ff472
        have ff499 : z493 6 = .inr (3, [.int (iI (0)), .ref (b + 7)]) := (q4 6 (by omega)).trans ff473
        have ff500 : z493 7 = ir ct 32 (fun _ => 0) := (q4 7 (by omega)).trans ff474
        have ff501 : z493 8 = .inr (3, [.int (iI (0)), .ref (b + 9)]) := (q4 8 (by omega)).trans ff475
        have ff502 : z493 9 = ir ct 32 (fun _ => 0) := (q4 9 (by omega)).trans ff476
        have ff503 : z493 10 = .inr (4, [.int (iI (0)), .long (lI (0)), .ref (b + 11), .ref (b + 13)]) := (q4 10 (by omega)).trans ff477
        have ff504 : z493 11 = .inr (3, [.int (iI (0)), .ref (b + 12)]) := (q4 11 (by omega)).trans ff478
        have ff505 : z493 12 = ir ct 32 (fun _ => 0) := (q4 12 (by omega)).trans ff479
        have ff506 : z493 13 = .inr (3, [.int (iI (0)), .ref (b + 14)]) := (q4 13 (by omega)).trans ff480
        have ff507 : z493 14 = ir ct 32 (fun _ => 0) := (q4 14 (by omega)).trans ff481
        have ff508 : z493 15 = .inr (3, [.int (iI (0)), .ref (b + 16)]) := (q4 15 (by omega)).trans ff482
        have ff509 : z493 16 = ir ct 32 (fun _ => 0) := (q4 16 (by omega)).trans ff483
        have ff510 : z493 17 = .inr (3, [.int (iI (0)), .ref (b + 18)]) := (q4 17 (by omega)).trans ff484
        have ff511 : z493 18 = ir ct 32 (fun _ => 0) := (q4 18 (by omega)).trans ff485
        have ff512 : z493 19 = .inr (3, [.int (iI (0)), .ref (b + 20)]) := (q4 19 (by omega)).trans ff486
        have ff513 : z493 20 = ir ct 32 (fun _ => 0) := (q4 20 (by omega)).trans ff487
        have ff514 : z493 1 = .inr (0, [.int (z1)]) := (q4 1 (by omega)).trans ff488
        have ff515 : z493 4 = qr ct 3 24 (f) := (q4 4 (by omega)).trans ff489
        have fr516 : ∀ j : Nat, (j ≠ 4) → (j < 44) → z493 j = u417 j := fun j h0 h1 => (q4 j (by omega)).trans (fr491 j h0 h1)
        have xf517 : ∀ j : Nat, (44 ≤ j) → (j < 44 + 8 * jn) → z493 j = w443 j := fun j h0 h1 => (q4 j (by omega)).trans (xf492 j h0 h1)
        refine w_aast (C := ("LevelledRing$Gate", T_G, 6)) hx hb hK hP hS (4) (by omega) 3 (44 + 8 * jn) 1 (by omega) ff515 rfl q0 rfl (by omega) (by omega) (by decide) d_R_init_147 (fun H locs hP hS => ?_)
        obtain ⟨u518, hu519, hP⟩ : ∃ zz : Nat → va_E, zz = va_up z493 4 (qr ct 3 24 (va_up (f) ((jn : Int)).toNat (some (b + (44 + 8 * jn))))) ∧ va_P D vwCl (wl (44 + 8 * jn + 8) b zz) H := ⟨_, rfl, hP⟩
        have ff520 : u518 0 = .inr (5, [.ref (b + 1), .ref (b + 21), .ref (b + 2), .ref (b + 4), .int (iI (0)), .int (iI (0)), .ref (b + 5), .ref (b + 10), .ref (b + 15), .ref (b + 17), .ref (b + 19)]) := (congrFun hu519 _).trans ((up_n (by omega)).trans ff495)
        have ff521 : u518 2 = .inr (3, [.int (iI (1)), .ref (b + 3)]) := (congrFun hu519 _).trans ((up_n (by omega)).trans ff496)
        have ff522 : u518 3 = ir ct 8 (fun _ => 0) := (congrFun hu519 _).trans ((up_n (by omega)).trans ff497)
        have ff523 : u518 5 = .inr (4, [.int (iI (0)), .long (lI (0)), .ref (b + 6), .ref (b + 8)]) := (congrFun hu519 _).trans ((up_n (by omega)).trans ff498)
        have ff524 : u518 6 = .inr (3, [.int (iI (0)), .ref (b + 7)]) := (congrFun hu519 _).trans ((up_n (by omega)).trans ff499)
        have ff525 : u518 7 = ir ct 32 (fun _ => 0) := (congrFun hu519 _).trans ((up_n (by omega)).trans ff500)
        have ff526 : u518 8 = .inr (3, [.int (iI (0)), .ref (b + 9)]) := (congrFun hu519 _).trans ((up_n (by omega)).trans ff501)
        have ff527 : u518 9 = ir ct 32 (fun _ => 0) := (congrFun hu519 _).trans ((up_n (by omega)).trans ff502)
        have ff528 : u518 10 = .inr (4, [.int (iI (0)), .long (lI (0)), .ref (b + 11), .ref (b + 13)]) := (congrFun hu519 _).trans ((up_n (by omega)).trans ff503)
        have ff529 : u518 11 = .inr (3, [.int (iI (0)), .ref (b + 12)]) := (congrFun hu519 _).trans ((up_n (by omega)).trans ff504)
        have ff530 : u518 12 = ir ct 32 (fun _ => 0) := (congrFun hu519 _).trans ((up_n (by omega)).trans ff505)
        have ff531 : u518 13 = .inr (3, [.int (iI (0)), .ref (b + 14)]) := (congrFun hu519 _).trans ((up_n (by omega)).trans ff506)
        have ff532 : u518 14 = ir ct 32 (fun _ => 0) := (congrFun hu519 _).trans ((up_n (by omega)).trans ff507)
        have ff533 : u518 15 = .inr (3, [.int (iI (0)), .ref (b + 16)]) := (congrFun hu519 _).trans ((up_n (by omega)).trans ff508)
        have ff534 : u518 16 = ir ct 32 (fun _ => 0) := (congrFun hu519 _).trans ((up_n (by omega)).trans ff509)
        have ff535 : u518 17 = .inr (3, [.int (iI (0)), .ref (b + 18)]) := (congrFun hu519 _).trans ((up_n (by omega)).trans ff510)
        have ff536 : u518 18 = ir ct 32 (fun _ => 0) := (congrFun hu519 _).trans ((up_n (by omega)).trans ff511)
        have ff537 : u518 19 = .inr (3, [.int (iI (0)), .ref (b + 20)]) := (congrFun hu519 _).trans ((up_n (by omega)).trans ff512)
        have ff538 : u518 20 = ir ct 32 (fun _ => 0) := (congrFun hu519 _).trans ((up_n (by omega)).trans ff513)
        have ff539 : u518 1 = .inr (0, [.int (z1)]) := (congrFun hu519 _).trans ((up_n (by omega)).trans ff514)
        have ff540 : u518 4 = qr ct 3 24 (va_up (f) ((jn : Int)).toNat (some (b + (44 + 8 * jn)))) := (congrFun hu519 _).trans up_s
        have ff541 : u518 (44 + 8 * jn) = .inr (1, [.ref (ke 0), .int (iI (-1)), .int (iI (-1)), .int (iI (0)), .ref (b + (44 + 8 * jn + 1)), .ref (b + (44 + 8 * jn + 3))]) := (congrFun hu519 _).trans ((up_n (by omega)).trans q0)
        have ff542 : u518 (44 + 8 * jn + 1) = .inr (3, [.int (iI (1)), .ref (b + (44 + 8 * jn + 2))]) := (congrFun hu519 _).trans ((up_n (by omega)).trans q1)
        have ff543 : u518 (44 + 8 * jn + 2) = ir ct 8 (fun _ => 0) := (congrFun hu519 _).trans ((up_n (by omega)).trans q2)
        have ff544 : u518 (44 + 8 * jn + 3) = .inr (4, [.int (iI (0)), .long (lI (0)), .ref (b + (44 + 8 * jn + 4)), .ref (b + (44 + 8 * jn + 6))]) := (congrFun hu519 _).trans ((up_n (by omega)).trans q3.1)
        have ff545 : u518 (44 + 8 * jn + 4) = .inr (3, [.int (iI (0)), .ref (b + (44 + 8 * jn + 5))]) := (congrFun hu519 _).trans ((up_n (by omega)).trans q3.2.1)
        have ff546 : u518 (44 + 8 * jn + 5) = ir ct 32 (fun _ => 0) := (congrFun hu519 _).trans ((up_n (by omega)).trans q3.2.2.1)
        have ff547 : u518 (44 + 8 * jn + 6) = .inr (3, [.int (iI (0)), .ref (b + (44 + 8 * jn + 7))]) := (congrFun hu519 _).trans ((up_n (by omega)).trans q3.2.2.2.1)
        have ff548 : u518 (44 + 8 * jn + 7) = ir ct 32 (fun _ => 0) := (congrFun hu519 _).trans ((up_n (by omega)).trans q3.2.2.2.2)
        have fr549 : ∀ j : Nat, (j ≠ 4) → (j < 44) → u518 j = u417 j := fun j h0 h1 => (congrFun hu519 j).trans ((up_n (by omega)).trans (fr516 j h0 h1))
        have xf550 : ∀ j : Nat, (44 ≤ j) → (j < 44 + 8 * jn) → u518 j = w443 j := fun j h0 h1 => (congrFun hu519 j).trans ((up_n (by omega)).trans (xf517 j h0 h1))
        refine lv_iinc (k := 0) (v := iI ((jn : Int) + 1)) (lv' := [(2, .int (iI ((jn : Int) + 1))), (0, .ref (b + 0)), (1, .int z0)]) hx hb d_R_init_148 hl rfl (iI_add _ _) (by decide) rfl (fun ls hl => ?_)
        have hl : lv_has ls 3 [(2, .int (iI (((jn + 1 : Nat) : Int)))), (0, .ref (b + 0)), (1, .int z0)] := by rw [show ((jn + 1 : Nat) : Int) = (jn : Int) + 1 from by omega]; exact hl
        refine lv_goto (tgt := 129) hx hb d_R_init_151 (by decide) ?_
        refine W.widen (k := 43 + 8 * (jn + 1)) (n := 656 + 126 * (jn + 1)) (by omega) (by omega) ?_
        have hkeep := xf550
        refine ihlo (jn + 1) _ u518 H locs ls (by omega) (by omega) (fun i hi => ?_) (fun i hi => ?_) ff540 fr549 hP hS hl
        · by_cases h : i = jn
          · subst h; exact up_s
          · exact (up_n (by omega)).trans (hf i (by omega))
        · by_cases h : i = jn
          · subst h
            refine ⟨⟨(0, -1, -1, 0, fun _ => 0), ff541, ff542, fun _ => 0, ff543, fun _ _ _ => rfl⟩, ?_⟩
            rw [show 47 + 8 * i = 44 + 8 * i + 3 by omega]
            exact ⟨0, 0, fun _ => 0, fun _ => 0, ff544, ff545, ff546, ff547, ff548⟩
          · obtain ⟨⟨G1, h1⟩, h2⟩ := hG i (by omega)
            exact ⟨⟨G1, h1.of fun q h3 h4 => hkeep q (by omega) (by omega)⟩, h2.of fun q h3 h4 => hkeep q (by omega) (by omega)⟩
  refine W.widen (k := 43 + 8 * 0) (n := 656 + 126 * 0) (by decide) (by decide) ?_
  exact lo 25 0 _ u417 H locs ls (by omega) (by omega) (fun i hi => by omega) (fun i hi => by omega) ff422 fr442 hP hS hl
