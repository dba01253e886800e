abbrev rm_c_M_init : Room := { frames := 3, cells := 17, slots := 896, locals := 81 }
set_option maxHeartbeats 4000000 in
set_option maxRecDepth 100000 in
/-- LevelledRingModel(z0) -/
theorem c_M_init (l : Launch) (D : va_G) (ct : Nat → ClassId) (st ke : Nat → Nat) (b : Nat) (u : Nat → va_E) (z0 : Int32) (f0 : u 236 = .inr (6, [.null, .null, .null, .null, .null, .null, .int (iI (0)), .null, .int (iI (0)), .null, .null, .null, .null, .null, .null, .null, .null, .null, .null])) : Met l y_M_init (w_M_init) rm_c_M_init (va_Pc [.ref (b + 236), .int z0] (fun U => ev D ct st ke b U ∧ U.heap.size = b + 237 ∧ va_P D vwCl (wl 237 b u) U.heap)) (va_Qv (fun z : Nat → va_E => (∀ (G : Int → Gt) (V : Int → Val), MS ct b z (kyO z0) 0 0 (fun _ => 0) G V) ∧ ∀ j : Nat, j < 236 → z j = u j) (fun (z : Nat → va_E) t => va_P D vwCl (wl (254) b (z)) t.heap) (AA b)) 17 896 (AA b) := by
  refine M_c (cc := c9_M_init) (maxL := 10) (by decide) rfl (Nat.le_of_ble_eq_true rfl) ?_
  intro p e s m args below meth c Q ls H locs hx hb hml hown hts hnm E hsz hP hS hl ret
  have hl : lv_has ls 10 [(0, .ref (b + 236)), (1, .int z0)] := hl
  have hK := ev_K E
  have kk0 := hts (.methodLink "LevelledRingModel" 1 objectInit) (List.mem_cons_of_mem _ t_463)
  have kk1 := hts (.instanceMethod objectInit) (List.mem_cons_of_mem _ t_19)
  have kk2 := hts (.code objectInit ⟨#[0xb1]⟩ 1 none) (List.mem_cons_of_mem _ t_20)
  have kk3 := hts (.arrayClass .long) (List.mem_cons_of_mem _ t_551)
  have kk4 := hts (.fieldLink "LevelledRingModel" 7 "LevelledRingModel" "row" "[J") (List.mem_cons_of_mem _ t_493)
  have hinM : ∀ w ∈ u_ws "LevelledRingModel" T_M 19, w ∈ (w_M_init) := hin_M _
  have kk6 := hts (.arrayClass .int) (List.mem_cons_of_mem _ t_45)
  have kk7 := hts (.fieldLink "LevelledRingModel" 13 "LevelledRingModel" "prime" "[I") (List.mem_cons_of_mem _ t_494)
  have kk8 := hts (.fieldLink "LevelledRingModel" 17 "LevelledRingModel" "big" "[J") (List.mem_cons_of_mem _ t_495)
  have kk9 := hts (.fieldLink "LevelledRingModel" 20 "LevelledRingModel" "unit" "[J") (List.mem_cons_of_mem _ t_496)
  have kk10 := hts (.fieldLink "LevelledRingModel" 23 "LevelledRingModel" "secret" "[I") (List.mem_cons_of_mem _ t_497)
  have kk11 := hts (.fieldLink "LevelledRingModel" 26 "LevelledRingModel" "small" "[I") (List.mem_cons_of_mem _ t_498)
  have kk12 := hts (.fieldLink "LevelledRingModel" 29 "LevelledRingModel" "message" "[I") (List.mem_cons_of_mem _ t_500)
  have kk13 := hts (.fieldLink "LevelledRingModel" 32 "LevelledRingModel" "kind" "[I") (List.mem_cons_of_mem _ t_502)
  have kk14 := hts (.fieldLink "LevelledRingModel" 35 "LevelledRingModel" "first" "[I") (List.mem_cons_of_mem _ t_503)
  have kk15 := hts (.fieldLink "LevelledRingModel" 38 "LevelledRingModel" "second" "[I") (List.mem_cons_of_mem _ t_504)
  have kk16 := hts (.fieldLink "LevelledRingModel" 41 "LevelledRingModel" "plain" "[I") (List.mem_cons_of_mem _ t_505)
  have kk17 := hts (.arrayClass .boolean) (List.mem_cons_of_mem _ t_552)
  have kk18 := hts (.fieldLink "LevelledRingModel" 44 "LevelledRingModel" "has" "[Z") (List.mem_cons_of_mem _ t_506)
  have kk19 := hts (.fieldLink "LevelledRingModel" 48 "LevelledRingModel" "level" "[I") (List.mem_cons_of_mem _ t_507)
  have kk20 := hts (.fieldLink "LevelledRingModel" 51 "LevelledRingModel" "meter" "[J") (List.mem_cons_of_mem _ t_508)
  have kk21 := hts (.fieldLink "LevelledRingModel" 54 "LevelledRingModel" "workLevel" "[I") (List.mem_cons_of_mem _ t_509)
  have kk22 := hts (.fieldLink "LevelledRingModel" 57 "LevelledRingModel" "workMeter" "[J") (List.mem_cons_of_mem _ t_510)
  have kk23 := hts (.fieldLink "LevelledRingModel" 60 "LevelledRingModel" "v" "[J") (List.mem_cons_of_mem _ t_511)
  have kk24 := hts (.constant "LevelledRingModel" 63 40000) (List.mem_cons_of_mem _ t_464)
  have kk25 := hts (.fieldLink "LevelledRingModel" 64 "LevelledRingModel" "z" "I") (List.mem_cons_of_mem _ t_499)
  have fr0 : ∀ j : Nat, (j < 236) → u j = u j := fun _ _ => rfl
  refine lv_aload_n hx hb d_M_init_0 rfl (lv_at hl 0 rfl) ?_
  refine W.objInit hx hb hown kk0 kk1 kk2 rfl (by rw [hml]; exact hl.1) rfl d_M_init_1 (Nat.le_of_ble_eq_true rfl) (Nat.le_of_ble_eq_true rfl) ?_
  refine W.eq (g2 := F0 m 4 ls []) rfl ?_
  refine lv_aload_n hx hb d_M_init_4 rfl (lv_at hl 0 rfl) ?_
  refine lv_sipush (v := iI (512)) hx hb d_M_init_5 (by decide +kernel) ?_
  refine w_newl (n := 512) hx hb kk3 hK hP hS (ev_b E) (by omega) (by decide) (Nat.le_of_ble_eq_true rfl) (Nat.le_of_ble_eq_true rfl) d_M_init_8 (fun H hP hS => ?_)
  obtain ⟨u1, hu2, hP⟩ : ∃ zz : Nat → va_E, zz = va_up u 237 (lr ct 512 (fun _ => 0)) ∧ va_P D vwCl (wl 238 b zz) H := ⟨_, rfl, hP⟩
  have ff3 : u1 236 = .inr (6, [.null, .null, .null, .null, .null, .null, .int (iI (0)), .null, .int (iI (0)), .null, .null, .null, .null, .null, .null, .null, .null, .null, .null]) := (congrFun hu2 _).trans ((up_n (by omega)).trans f0)
  have ff4 : u1 237 = lr ct 512 (fun _ => 0) := (congrFun hu2 _).trans up_s
  have fr5 : ∀ j : Nat, (j < 236) → u1 j = u j := fun j h0 => (congrFun hu2 j).trans ((up_n (by omega)).trans (fr0 j h0))
  refine w_putF (C := "LevelledRingModel") (T := T_M) (M := 19) (ty := (.array .long)) (v := .ref (b + 237)) hx hb hts hinM ty_M tyok_M nm_M hown hK hP hS (236) (by omega) ff3 rfl 0 (by decide) kk4 (fun _ h => h) rfl hnm rfl (by decide +kernel) rfl rfl (Nat.le_of_ble_eq_true rfl) d_M_init_10 (fun H locs hP hS => ?_)
  obtain ⟨u6, hu7, hP⟩ : ∃ zz : Nat → va_E, zz = va_up u1 236 (.inr (6, [.ref (b + 237), .null, .null, .null, .null, .null, .int (iI (0)), .null, .int (iI (0)), .null, .null, .null, .null, .null, .null, .null, .null, .null, .null])) ∧ va_P D vwCl (wl 238 b zz) H := ⟨_, rfl, hP⟩
  have ff8 : u6 236 = .inr (6, [.ref (b + 237), .null, .null, .null, .null, .null, .int (iI (0)), .null, .int (iI (0)), .null, .null, .null, .null, .null, .null, .null, .null, .null, .null]) := (congrFun hu7 _).trans up_s
  have ff9 : u6 237 = lr ct 512 (fun _ => 0) := (congrFun hu7 _).trans ((up_n (by omega)).trans ff4)
  have fr10 : ∀ j : Nat, (j < 236) → u6 j = u j := fun j h0 => (congrFun hu7 j).trans ((up_n (by omega)).trans (fr5 j h0))
  refine lv_aload_n hx hb d_M_init_13 rfl (lv_at hl 0 rfl) ?_
  refine lv_iconst (v := iI (4)) hx hb d_M_init_14 rfl ?_
  refine w_newi (n := 4) hx hb kk6 hK hP hS (ev_b E) (by omega) (by decide) (Nat.le_of_ble_eq_true rfl) (Nat.le_of_ble_eq_true rfl) d_M_init_15 (fun H hP hS => ?_)
  obtain ⟨u11, hu12, hP⟩ : ∃ zz : Nat → va_E, zz = va_up u6 238 (ir ct 4 (fun _ => 0)) ∧ va_P D vwCl (wl 239 b zz) H := ⟨_, rfl, hP⟩
  have ff13 : u11 236 = .inr (6, [.ref (b + 237), .null, .null, .null, .null, .null, .int (iI (0)), .null, .int (iI (0)), .null, .null, .null, .null, .null, .null, .null, .null, .null, .null]) := (congrFun hu12 _).trans ((up_n (by omega)).trans ff8)
  have ff14 : u11 237 = lr ct 512 (fun _ => 0) := (congrFun hu12 _).trans ((up_n (by omega)).trans ff9)
  have ff15 : u11 238 = ir ct 4 (fun _ => 0) := (congrFun hu12 _).trans up_s
  have fr16 : ∀ j : Nat, (j < 236) → u11 j = u j := fun j h0 => (congrFun hu12 j).trans ((up_n (by omega)).trans (fr10 j h0))
  refine w_putF (C := "LevelledRingModel") (T := T_M) (M := 19) (ty := (.array .int)) (v := .ref (b + 238)) hx hb hts hinM ty_M tyok_M nm_M hown hK hP hS (236) (by omega) ff13 rfl 1 (by decide) kk7 (fun _ h => h) rfl hnm rfl (by decide +kernel) rfl rfl (Nat.le_of_ble_eq_true rfl) d_M_init_17 (fun H locs hP hS => ?_)
  obtain ⟨u17, hu18, hP⟩ : ∃ zz : Nat → va_E, zz = va_up u11 236 (.inr (6, [.ref (b + 237), .ref (b + 238), .null, .null, .null, .null, .int (iI (0)), .null, .int (iI (0)), .null, .null, .null, .null, .null, .null, .null, .null, .null, .null])) ∧ va_P D vwCl (wl 239 b zz) H := ⟨_, rfl, hP⟩
  have ff19 : u17 236 = .inr (6, [.ref (b + 237), .ref (b + 238), .null, .null, .null, .null, .int (iI (0)), .null, .int (iI (0)), .null, .null, .null, .null, .null, .null, .null, .null, .null, .null]) := (congrFun hu18 _).trans up_s
  have ff20 : u17 237 = lr ct 512 (fun _ => 0) := (congrFun hu18 _).trans ((up_n (by omega)).trans ff14)
  have ff21 : u17 238 = ir ct 4 (fun _ => 0) := (congrFun hu18 _).trans ((up_n (by omega)).trans ff15)
  have fr22 : ∀ j : Nat, (j < 236) → u17 j = u j := fun j h0 => (congrFun hu18 j).trans ((up_n (by omega)).trans (fr16 j h0))
  refine lv_aload_n hx hb d_M_init_20 rfl (lv_at hl 0 rfl) ?_
  refine lv_iconst (v := iI (4)) hx hb d_M_init_21 rfl ?_
  refine w_newl (n := 4) hx hb kk3 hK hP hS (ev_b E) (by omega) (by decide) (Nat.le_of_ble_eq_true rfl) (Nat.le_of_ble_eq_true rfl) d_M_init_22 (fun H hP hS => ?_)
  obtain ⟨u23, hu24, hP⟩ : ∃ zz : Nat → va_E, zz = va_up u17 239 (lr ct 4 (fun _ => 0)) ∧ va_P D vwCl (wl 240 b zz) H := ⟨_, rfl, hP⟩
  have ff25 : u23 236 = .inr (6, [.ref (b + 237), .ref (b + 238), .null, .null, .null, .null, .int (iI (0)), .null, .int (iI (0)), .null, .null, .null, .null, .null, .null, .null, .null, .null, .null]) := (congrFun hu24 _).trans ((up_n (by omega)).trans ff19)
  have ff26 : u23 237 = lr ct 512 (fun _ => 0) := (congrFun hu24 _).trans ((up_n (by omega)).trans ff20)
  have ff27 : u23 238 = ir ct 4 (fun _ => 0) := (congrFun hu24 _).trans ((up_n (by omega)).trans ff21)
  have ff28 : u23 239 = lr ct 4 (fun _ => 0) := (congrFun hu24 _).trans up_s
  have fr29 : ∀ j : Nat, (j < 236) → u23 j = u j := fun j h0 => (congrFun hu24 j).trans ((up_n (by omega)).trans (fr22 j h0))
  refine w_putF (C := "LevelledRingModel") (T := T_M) (M := 19) (ty := (.array .long)) (v := .ref (b + 239)) hx hb hts hinM ty_M tyok_M nm_M hown hK hP hS (236) (by omega) ff25 rfl 2 (by decide) kk8 (fun _ h => h) rfl hnm rfl (by decide +kernel) rfl rfl (Nat.le_of_ble_eq_true rfl) d_M_init_24 (fun H locs hP hS => ?_)
  obtain ⟨u30, hu31, hP⟩ : ∃ zz : Nat → va_E, zz = va_up u23 236 (.inr (6, [.ref (b + 237), .ref (b + 238), .ref (b + 239), .null, .null, .null, .int (iI (0)), .null, .int (iI (0)), .null, .null, .null, .null, .null, .null, .null, .null, .null, .null])) ∧ va_P D vwCl (wl 240 b zz) H := ⟨_, rfl, hP⟩
  have ff32 : u30 236 = .inr (6, [.ref (b + 237), .ref (b + 238), .ref (b + 239), .null, .null, .null, .int (iI (0)), .null, .int (iI (0)), .null, .null, .null, .null, .null, .null, .null, .null, .null, .null]) := (congrFun hu31 _).trans up_s
  have ff33 : u30 237 = lr ct 512 (fun _ => 0) := (congrFun hu31 _).trans ((up_n (by omega)).trans ff26)
  have ff34 : u30 238 = ir ct 4 (fun _ => 0) := (congrFun hu31 _).trans ((up_n (by omega)).trans ff27)
  have ff35 : u30 239 = lr ct 4 (fun _ => 0) := (congrFun hu31 _).trans ((up_n (by omega)).trans ff28)
  have fr36 : ∀ j : Nat, (j < 236) → u30 j = u j := fun j h0 => (congrFun hu31 j).trans ((up_n (by omega)).trans (fr29 j h0))
  refine lv_aload_n hx hb d_M_init_27 rfl (lv_at hl 0 rfl) ?_
  refine lv_iconst (v := iI (4)) hx hb d_M_init_28 rfl ?_
  refine w_newl (n := 4) hx hb kk3 hK hP hS (ev_b E) (by omega) (by decide) (Nat.le_of_ble_eq_true rfl) (Nat.le_of_ble_eq_true rfl) d_M_init_29 (fun H hP hS => ?_)
  obtain ⟨u37, hu38, hP⟩ : ∃ zz : Nat → va_E, zz = va_up u30 240 (lr ct 4 (fun _ => 0)) ∧ va_P D vwCl (wl 241 b zz) H := ⟨_, rfl, hP⟩
  have ff39 : u37 236 = .inr (6, [.ref (b + 237), .ref (b + 238), .ref (b + 239), .null, .null, .null, .int (iI (0)), .null, .int (iI (0)), .null, .null, .null, .null, .null, .null, .null, .null, .null, .null]) := (congrFun hu38 _).trans ((up_n (by omega)).trans ff32)
  have ff40 : u37 237 = lr ct 512 (fun _ => 0) := (congrFun hu38 _).trans ((up_n (by omega)).trans ff33)
  have ff41 : u37 238 = ir ct 4 (fun _ => 0) := (congrFun hu38 _).trans ((up_n (by omega)).trans ff34)
  have ff42 : u37 239 = lr ct 4 (fun _ => 0) := (congrFun hu38 _).trans ((up_n (by omega)).trans ff35)
  have ff43 : u37 240 = lr ct 4 (fun _ => 0) := (congrFun hu38 _).trans up_s
  have fr44 : ∀ j : Nat, (j < 236) → u37 j = u j := fun j h0 => (congrFun hu38 j).trans ((up_n (by omega)).trans (fr36 j h0))
  refine w_putF (C := "LevelledRingModel") (T := T_M) (M := 19) (ty := (.array .long)) (v := .ref (b + 240)) hx hb hts hinM ty_M tyok_M nm_M hown hK hP hS (236) (by omega) ff39 rfl 3 (by decide) kk9 (fun _ h => h) rfl hnm rfl (by decide +kernel) rfl rfl (Nat.le_of_ble_eq_true rfl) d_M_init_31 (fun H locs hP hS => ?_)
  obtain ⟨u45, hu46, hP⟩ : ∃ zz : Nat → va_E, zz = va_up u37 236 (.inr (6, [.ref (b + 237), .ref (b + 238), .ref (b + 239), .ref (b + 240), .null, .null, .int (iI (0)), .null, .int (iI (0)), .null, .null, .null, .null, .null, .null, .null, .null, .null, .null])) ∧ va_P D vwCl (wl 241 b zz) H := ⟨_, rfl, hP⟩
  have ff47 : u45 236 = .inr (6, [.ref (b + 237), .ref (b + 238), .ref (b + 239), .ref (b + 240), .null, .null, .int (iI (0)), .null, .int (iI (0)), .null, .null, .null, .null, .null, .null, .null, .null, .null, .null]) := (congrFun hu46 _).trans up_s
  have ff48 : u45 237 = lr ct 512 (fun _ => 0) := (congrFun hu46 _).trans ((up_n (by omega)).trans ff40)
  have ff49 : u45 238 = ir ct 4 (fun _ => 0) := (congrFun hu46 _).trans ((up_n (by omega)).trans ff41)
  have ff50 : u45 239 = lr ct 4 (fun _ => 0) := (congrFun hu46 _).trans ((up_n (by omega)).trans ff42)
  have ff51 : u45 240 = lr ct 4 (fun _ => 0) := (congrFun hu46 _).trans ((up_n (by omega)).trans ff43)
  have fr52 : ∀ j : Nat, (j < 236) → u45 j = u j := fun j h0 => (congrFun hu46 j).trans ((up_n (by omega)).trans (fr44 j h0))
  refine lv_aload_n hx hb d_M_init_34 rfl (lv_at hl 0 rfl) ?_
  refine lv_bipush (v := iI (8)) hx hb d_M_init_35 (by decide +kernel) ?_
  refine w_newi (n := 8) hx hb kk6 hK hP hS (ev_b E) (by omega) (by decide) (Nat.le_of_ble_eq_true rfl) (Nat.le_of_ble_eq_true rfl) d_M_init_37 (fun H hP hS => ?_)
  obtain ⟨u53, hu54, hP⟩ : ∃ zz : Nat → va_E, zz = va_up u45 241 (ir ct 8 (fun _ => 0)) ∧ va_P D vwCl (wl 242 b zz) H := ⟨_, rfl, hP⟩
  have ff55 : u53 236 = .inr (6, [.ref (b + 237), .ref (b + 238), .ref (b + 239), .ref (b + 240), .null, .null, .int (iI (0)), .null, .int (iI (0)), .null, .null, .null, .null, .null, .null, .null, .null, .null, .null]) := (congrFun hu54 _).trans ((up_n (by omega)).trans ff47)
  have ff56 : u53 237 = lr ct 512 (fun _ => 0) := (congrFun hu54 _).trans ((up_n (by omega)).trans ff48)
  have ff57 : u53 238 = ir ct 4 (fun _ => 0) := (congrFun hu54 _).trans ((up_n (by omega)).trans ff49)
  have ff58 : u53 239 = lr ct 4 (fun _ => 0) := (congrFun hu54 _).trans ((up_n (by omega)).trans ff50)
  have ff59 : u53 240 = lr ct 4 (fun _ => 0) := (congrFun hu54 _).trans ((up_n (by omega)).trans ff51)
  have ff60 : u53 241 = ir ct 8 (fun _ => 0) := (congrFun hu54 _).trans up_s
  have fr61 : ∀ j : Nat, (j < 236) → u53 j = u j := fun j h0 => (congrFun hu54 j).trans ((up_n (by omega)).trans (fr52 j h0))
  refine w_putF (C := "LevelledRingModel") (T := T_M) (M := 19) (ty := (.array .int)) (v := .ref (b + 241)) hx hb hts hinM ty_M tyok_M nm_M hown hK hP hS (236) (by omega) ff55 rfl 4 (by decide) kk10 (fun _ h => h) rfl hnm rfl (by decide +kernel) rfl rfl (Nat.le_of_ble_eq_true rfl) d_M_init_39 (fun H locs hP hS => ?_)
  obtain ⟨u62, hu63, hP⟩ : ∃ zz : Nat → va_E, zz = va_up u53 236 (.inr (6, [.ref (b + 237), .ref (b + 238), .ref (b + 239), .ref (b + 240), .ref (b + 241), .null, .int (iI (0)), .null, .int (iI (0)), .null, .null, .null, .null, .null, .null, .null, .null, .null, .null])) ∧ va_P D vwCl (wl 242 b zz) H := ⟨_, rfl, hP⟩
  have ff64 : u62 236 = .inr (6, [.ref (b + 237), .ref (b + 238), .ref (b + 239), .ref (b + 240), .ref (b + 241), .null, .int (iI (0)), .null, .int (iI (0)), .null, .null, .null, .null, .null, .null, .null, .null, .null, .null]) := (congrFun hu63 _).trans up_s
  have ff65 : u62 237 = lr ct 512 (fun _ => 0) := (congrFun hu63 _).trans ((up_n (by omega)).trans ff56)
  have ff66 : u62 238 = ir ct 4 (fun _ => 0) := (congrFun hu63 _).trans ((up_n (by omega)).trans ff57)
  have ff67 : u62 239 = lr ct 4 (fun _ => 0) := (congrFun hu63 _).trans ((up_n (by omega)).trans ff58)
  have ff68 : u62 240 = lr ct 4 (fun _ => 0) := (congrFun hu63 _).trans ((up_n (by omega)).trans ff59)
  have ff69 : u62 241 = ir ct 8 (fun _ => 0) := (congrFun hu63 _).trans ((up_n (by omega)).trans ff60)
  have fr70 : ∀ j : Nat, (j < 236) → u62 j = u j := fun j h0 => (congrFun hu63 j).trans ((up_n (by omega)).trans (fr61 j h0))
  refine lv_aload_n hx hb d_M_init_42 rfl (lv_at hl 0 rfl) ?_
  refine lv_bipush (v := iI (8)) hx hb d_M_init_43 (by decide +kernel) ?_
  refine w_newi (n := 8) hx hb kk6 hK hP hS (ev_b E) (by omega) (by decide) (Nat.le_of_ble_eq_true rfl) (Nat.le_of_ble_eq_true rfl) d_M_init_45 (fun H hP hS => ?_)
  obtain ⟨u71, hu72, hP⟩ : ∃ zz : Nat → va_E, zz = va_up u62 242 (ir ct 8 (fun _ => 0)) ∧ va_P D vwCl (wl 243 b zz) H := ⟨_, rfl, hP⟩
  have ff73 : u71 236 = .inr (6, [.ref (b + 237), .ref (b + 238), .ref (b + 239), .ref (b + 240), .ref (b + 241), .null, .int (iI (0)), .null, .int (iI (0)), .null, .null, .null, .null, .null, .null, .null, .null, .null, .null]) := (congrFun hu72 _).trans ((up_n (by omega)).trans ff64)
  have ff74 : u71 237 = lr ct 512 (fun _ => 0) := (congrFun hu72 _).trans ((up_n (by omega)).trans ff65)
  have ff75 : u71 238 = ir ct 4 (fun _ => 0) := (congrFun hu72 _).trans ((up_n (by omega)).trans ff66)
  have ff76 : u71 239 = lr ct 4 (fun _ => 0) := (congrFun hu72 _).trans ((up_n (by omega)).trans ff67)
  have ff77 : u71 240 = lr ct 4 (fun _ => 0) := (congrFun hu72 _).trans ((up_n (by omega)).trans ff68)
  have ff78 : u71 241 = ir ct 8 (fun _ => 0) := (congrFun hu72 _).trans ((up_n (by omega)).trans ff69)
  have ff79 : u71 242 = ir ct 8 (fun _ => 0) := (congrFun hu72 _).trans up_s
  have fr80 : ∀ j : Nat, (j < 236) → u71 j = u j := fun j h0 => (congrFun hu72 j).trans ((up_n (by omega)).trans (fr70 j h0))
  refine w_putF (C := "LevelledRingModel") (T := T_M) (M := 19) (ty := (.array .int)) (v := .ref (b + 242)) hx hb hts hinM ty_M tyok_M nm_M hown hK hP hS (236) (by omega) ff73 rfl 5 (by decide) kk11 (fun _ h => h) rfl hnm rfl (by decide +kernel) rfl rfl (Nat.le_of_ble_eq_true rfl) d_M_init_47 (fun H locs hP hS => ?_)
  obtain ⟨u81, hu82, hP⟩ : ∃ zz : Nat → va_E, zz = va_up u71 236 (.inr (6, [.ref (b + 237), .ref (b + 238), .ref (b + 239), .ref (b + 240), .ref (b + 241), .ref (b + 242), .int (iI (0)), .null, .int (iI (0)), .null, .null, .null, .null, .null, .null, .null, .null, .null, .null])) ∧ va_P D vwCl (wl 243 b zz) H := ⟨_, rfl, hP⟩
  have ff83 : u81 236 = .inr (6, [.ref (b + 237), .ref (b + 238), .ref (b + 239), .ref (b + 240), .ref (b + 241), .ref (b + 242), .int (iI (0)), .null, .int (iI (0)), .null, .null, .null, .null, .null, .null, .null, .null, .null, .null]) := (congrFun hu82 _).trans up_s
  have ff84 : u81 237 = lr ct 512 (fun _ => 0) := (congrFun hu82 _).trans ((up_n (by omega)).trans ff74)
  have ff85 : u81 238 = ir ct 4 (fun _ => 0) := (congrFun hu82 _).trans ((up_n (by omega)).trans ff75)
  have ff86 : u81 239 = lr ct 4 (fun _ => 0) := (congrFun hu82 _).trans ((up_n (by omega)).trans ff76)
  have ff87 : u81 240 = lr ct 4 (fun _ => 0) := (congrFun hu82 _).trans ((up_n (by omega)).trans ff77)
  have ff88 : u81 241 = ir ct 8 (fun _ => 0) := (congrFun hu82 _).trans ((up_n (by omega)).trans ff78)
  have ff89 : u81 242 = ir ct 8 (fun _ => 0) := (congrFun hu82 _).trans ((up_n (by omega)).trans ff79)
  have fr90 : ∀ j : Nat, (j < 236) → u81 j = u j := fun j h0 => (congrFun hu82 j).trans ((up_n (by omega)).trans (fr80 j h0))
  refine lv_aload_n hx hb d_M_init_50 rfl (lv_at hl 0 rfl) ?_
  refine lv_bipush (v := iI (8)) hx hb d_M_init_51 (by decide +kernel) ?_
  refine w_newi (n := 8) hx hb kk6 hK hP hS (ev_b E) (by omega) (by decide) (Nat.le_of_ble_eq_true rfl) (Nat.le_of_ble_eq_true rfl) d_M_init_53 (fun H hP hS => ?_)
  obtain ⟨u91, hu92, hP⟩ : ∃ zz : Nat → va_E, zz = va_up u81 243 (ir ct 8 (fun _ => 0)) ∧ va_P D vwCl (wl 244 b zz) H := ⟨_, rfl, hP⟩
  have ff93 : u91 236 = .inr (6, [.ref (b + 237), .ref (b + 238), .ref (b + 239), .ref (b + 240), .ref (b + 241), .ref (b + 242), .int (iI (0)), .null, .int (iI (0)), .null, .null, .null, .null, .null, .null, .null, .null, .null, .null]) := (congrFun hu92 _).trans ((up_n (by omega)).trans ff83)
  have ff94 : u91 237 = lr ct 512 (fun _ => 0) := (congrFun hu92 _).trans ((up_n (by omega)).trans ff84)
  have ff95 : u91 238 = ir ct 4 (fun _ => 0) := (congrFun hu92 _).trans ((up_n (by omega)).trans ff85)
  have ff96 : u91 239 = lr ct 4 (fun _ => 0) := (congrFun hu92 _).trans ((up_n (by omega)).trans ff86)
  have ff97 : u91 240 = lr ct 4 (fun _ => 0) := (congrFun hu92 _).trans ((up_n (by omega)).trans ff87)
  have ff98 : u91 241 = ir ct 8 (fun _ => 0) := (congrFun hu92 _).trans ((up_n (by omega)).trans ff88)
  have ff99 : u91 242 = ir ct 8 (fun _ => 0) := (congrFun hu92 _).trans ((up_n (by omega)).trans ff89)
  have ff100 : u91 243 = ir ct 8 (fun _ => 0) := (congrFun hu92 _).trans up_s
  have fr101 : ∀ j : Nat, (j < 236) → u91 j = u j := fun j h0 => (congrFun hu92 j).trans ((up_n (by omega)).trans (fr90 j h0))
  refine w_putF (C := "LevelledRingModel") (T := T_M) (M := 19) (ty := (.array .int)) (v := .ref (b + 243)) hx hb hts hinM ty_M tyok_M nm_M hown hK hP hS (236) (by omega) ff93 rfl 7 (by decide) kk12 (fun _ h => h) rfl hnm rfl (by decide +kernel) rfl rfl (Nat.le_of_ble_eq_true rfl) d_M_init_55 (fun H locs hP hS => ?_)
  obtain ⟨u102, hu103, hP⟩ : ∃ zz : Nat → va_E, zz = va_up u91 236 (.inr (6, [.ref (b + 237), .ref (b + 238), .ref (b + 239), .ref (b + 240), .ref (b + 241), .ref (b + 242), .int (iI (0)), .ref (b + 243), .int (iI (0)), .null, .null, .null, .null, .null, .null, .null, .null, .null, .null])) ∧ va_P D vwCl (wl 244 b zz) H := ⟨_, rfl, hP⟩
  have ff104 : u102 236 = .inr (6, [.ref (b + 237), .ref (b + 238), .ref (b + 239), .ref (b + 240), .ref (b + 241), .ref (b + 242), .int (iI (0)), .ref (b + 243), .int (iI (0)), .null, .null, .null, .null, .null, .null, .null, .null, .null, .null]) := (congrFun hu103 _).trans up_s
  have ff105 : u102 237 = lr ct 512 (fun _ => 0) := (congrFun hu103 _).trans ((up_n (by omega)).trans ff94)
  have ff106 : u102 238 = ir ct 4 (fun _ => 0) := (congrFun hu103 _).trans ((up_n (by omega)).trans ff95)
  have ff107 : u102 239 = lr ct 4 (fun _ => 0) := (congrFun hu103 _).trans ((up_n (by omega)).trans ff96)
  have ff108 : u102 240 = lr ct 4 (fun _ => 0) := (congrFun hu103 _).trans ((up_n (by omega)).trans ff97)
  have ff109 : u102 241 = ir ct 8 (fun _ => 0) := (congrFun hu103 _).trans ((up_n (by omega)).trans ff98)
  have ff110 : u102 242 = ir ct 8 (fun _ => 0) := (congrFun hu103 _).trans ((up_n (by omega)).trans ff99)
  have ff111 : u102 243 = ir ct 8 (fun _ => 0) := (congrFun hu103 _).trans ((up_n (by omega)).trans ff100)
  have fr112 : ∀ j : Nat, (j < 236) → u102 j = u j := fun j h0 => (congrFun hu103 j).trans ((up_n (by omega)).trans (fr101 j h0))
  refine lv_aload_n hx hb d_M_init_58 rfl (lv_at hl 0 rfl) ?_
  refine lv_bipush (v := iI (24)) hx hb d_M_init_59 (by decide +kernel) ?_
  refine w_newi (n := 24) hx hb kk6 hK hP hS (ev_b E) (by omega) (by decide) (Nat.le_of_ble_eq_true rfl) (Nat.le_of_ble_eq_true rfl) d_M_init_61 (fun H hP hS => ?_)
  obtain ⟨u113, hu114, hP⟩ : ∃ zz : Nat → va_E, zz = va_up u102 244 (ir ct 24 (fun _ => 0)) ∧ va_P D vwCl (wl 245 b zz) H := ⟨_, rfl, hP⟩
  have ff115 : u113 236 = .inr (6, [.ref (b + 237), .ref (b + 238), .ref (b + 239), .ref (b + 240), .ref (b + 241), .ref (b + 242), .int (iI (0)), .ref (b + 243), .int (iI (0)), .null, .null, .null, .null, .null, .null, .null, .null, .null, .null]) := (congrFun hu114 _).trans ((up_n (by omega)).trans ff104)
  have ff116 : u113 237 = lr ct 512 (fun _ => 0) := (congrFun hu114 _).trans ((up_n (by omega)).trans ff105)
  have ff117 : u113 238 = ir ct 4 (fun _ => 0) := (congrFun hu114 _).trans ((up_n (by omega)).trans ff106)
  have ff118 : u113 239 = lr ct 4 (fun _ => 0) := (congrFun hu114 _).trans ((up_n (by omega)).trans ff107)
  have ff119 : u113 240 = lr ct 4 (fun _ => 0) := (congrFun hu114 _).trans ((up_n (by omega)).trans ff108)
  have ff120 : u113 241 = ir ct 8 (fun _ => 0) := (congrFun hu114 _).trans ((up_n (by omega)).trans ff109)
  have ff121 : u113 242 = ir ct 8 (fun _ => 0) := (congrFun hu114 _).trans ((up_n (by omega)).trans ff110)
  have ff122 : u113 243 = ir ct 8 (fun _ => 0) := (congrFun hu114 _).trans ((up_n (by omega)).trans ff111)
  have ff123 : u113 244 = ir ct 24 (fun _ => 0) := (congrFun hu114 _).trans up_s
  have fr124 : ∀ j : Nat, (j < 236) → u113 j = u j := fun j h0 => (congrFun hu114 j).trans ((up_n (by omega)).trans (fr112 j h0))
  refine w_putF (C := "LevelledRingModel") (T := T_M) (M := 19) (ty := (.array .int)) (v := .ref (b + 244)) hx hb hts hinM ty_M tyok_M nm_M hown hK hP hS (236) (by omega) ff115 rfl 9 (by decide) kk13 (fun _ h => h) rfl hnm rfl (by decide +kernel) rfl rfl (Nat.le_of_ble_eq_true rfl) d_M_init_63 (fun H locs hP hS => ?_)
  obtain ⟨u125, hu126, hP⟩ : ∃ zz : Nat → va_E, zz = va_up u113 236 (.inr (6, [.ref (b + 237), .ref (b + 238), .ref (b + 239), .ref (b + 240), .ref (b + 241), .ref (b + 242), .int (iI (0)), .ref (b + 243), .int (iI (0)), .ref (b + 244), .null, .null, .null, .null, .null, .null, .null, .null, .null])) ∧ va_P D vwCl (wl 245 b zz) H := ⟨_, rfl, hP⟩
  have ff127 : u125 236 = .inr (6, [.ref (b + 237), .ref (b + 238), .ref (b + 239), .ref (b + 240), .ref (b + 241), .ref (b + 242), .int (iI (0)), .ref (b + 243), .int (iI (0)), .ref (b + 244), .null, .null, .null, .null, .null, .null, .null, .null, .null]) := (congrFun hu126 _).trans up_s
  have ff128 : u125 237 = lr ct 512 (fun _ => 0) := (congrFun hu126 _).trans ((up_n (by omega)).trans ff116)
  have ff129 : u125 238 = ir ct 4 (fun _ => 0) := (congrFun hu126 _).trans ((up_n (by omega)).trans ff117)
  have ff130 : u125 239 = lr ct 4 (fun _ => 0) := (congrFun hu126 _).trans ((up_n (by omega)).trans ff118)
  have ff131 : u125 240 = lr ct 4 (fun _ => 0) := (congrFun hu126 _).trans ((up_n (by omega)).trans ff119)
  have ff132 : u125 241 = ir ct 8 (fun _ => 0) := (congrFun hu126 _).trans ((up_n (by omega)).trans ff120)
  have ff133 : u125 242 = ir ct 8 (fun _ => 0) := (congrFun hu126 _).trans ((up_n (by omega)).trans ff121)
  have ff134 : u125 243 = ir ct 8 (fun _ => 0) := (congrFun hu126 _).trans ((up_n (by omega)).trans ff122)
  have ff135 : u125 244 = ir ct 24 (fun _ => 0) := (congrFun hu126 _).trans ((up_n (by omega)).trans ff123)
  have fr136 : ∀ j : Nat, (j < 236) → u125 j = u j := fun j h0 => (congrFun hu126 j).trans ((up_n (by omega)).trans (fr124 j h0))
  refine lv_aload_n hx hb d_M_init_66 rfl (lv_at hl 0 rfl) ?_
  refine lv_bipush (v := iI (24)) hx hb d_M_init_67 (by decide +kernel) ?_
  refine w_newi (n := 24) hx hb kk6 hK hP hS (ev_b E) (by omega) (by decide) (Nat.le_of_ble_eq_true rfl) (Nat.le_of_ble_eq_true rfl) d_M_init_69 (fun H hP hS => ?_)
  obtain ⟨u137, hu138, hP⟩ : ∃ zz : Nat → va_E, zz = va_up u125 245 (ir ct 24 (fun _ => 0)) ∧ va_P D vwCl (wl 246 b zz) H := ⟨_, rfl, hP⟩
  have ff139 : u137 236 = .inr (6, [.ref (b + 237), .ref (b + 238), .ref (b + 239), .ref (b + 240), .ref (b + 241), .ref (b + 242), .int (iI (0)), .ref (b + 243), .int (iI (0)), .ref (b + 244), .null, .null, .null, .null, .null, .null, .null, .null, .null]) := (congrFun hu138 _).trans ((up_n (by omega)).trans ff127)
  have ff140 : u137 237 = lr ct 512 (fun _ => 0) := (congrFun hu138 _).trans ((up_n (by omega)).trans ff128)
  have ff141 : u137 238 = ir ct 4 (fun _ => 0) := (congrFun hu138 _).trans ((up_n (by omega)).trans ff129)
  have ff142 : u137 239 = lr ct 4 (fun _ => 0) := (congrFun hu138 _).trans ((up_n (by omega)).trans ff130)
  have ff143 : u137 240 = lr ct 4 (fun _ => 0) := (congrFun hu138 _).trans ((up_n (by omega)).trans ff131)
  have ff144 : u137 241 = ir ct 8 (fun _ => 0) := (congrFun hu138 _).trans ((up_n (by omega)).trans ff132)
  have ff145 : u137 242 = ir ct 8 (fun _ => 0) := (congrFun hu138 _).trans ((up_n (by omega)).trans ff133)
  have ff146 : u137 243 = ir ct 8 (fun _ => 0) := (congrFun hu138 _).trans ((up_n (by omega)).trans ff134)
  have ff147 : u137 244 = ir ct 24 (fun _ => 0) := (congrFun hu138 _).trans ((up_n (by omega)).trans ff135)
  have ff148 : u137 245 = ir ct 24 (fun _ => 0) := (congrFun hu138 _).trans up_s
  have fr149 : ∀ j : Nat, (j < 236) → u137 j = u j := fun j h0 => (congrFun hu138 j).trans ((up_n (by omega)).trans (fr136 j h0))
  refine w_putF (C := "LevelledRingModel") (T := T_M) (M := 19) (ty := (.array .int)) (v := .ref (b + 245)) hx hb hts hinM ty_M tyok_M nm_M hown hK hP hS (236) (by omega) ff139 rfl 10 (by decide) kk14 (fun _ h => h) rfl hnm rfl (by decide +kernel) rfl rfl (Nat.le_of_ble_eq_true rfl) d_M_init_71 (fun H locs hP hS => ?_)
  obtain ⟨u150, hu151, hP⟩ : ∃ zz : Nat → va_E, zz = va_up u137 236 (.inr (6, [.ref (b + 237), .ref (b + 238), .ref (b + 239), .ref (b + 240), .ref (b + 241), .ref (b + 242), .int (iI (0)), .ref (b + 243), .int (iI (0)), .ref (b + 244), .ref (b + 245), .null, .null, .null, .null, .null, .null, .null, .null])) ∧ va_P D vwCl (wl 246 b zz) H := ⟨_, rfl, hP⟩
  have ff152 : u150 236 = .inr (6, [.ref (b + 237), .ref (b + 238), .ref (b + 239), .ref (b + 240), .ref (b + 241), .ref (b + 242), .int (iI (0)), .ref (b + 243), .int (iI (0)), .ref (b + 244), .ref (b + 245), .null, .null, .null, .null, .null, .null, .null, .null]) := (congrFun hu151 _).trans up_s
  have ff153 : u150 237 = lr ct 512 (fun _ => 0) := (congrFun hu151 _).trans ((up_n (by omega)).trans ff140)
  have ff154 : u150 238 = ir ct 4 (fun _ => 0) := (congrFun hu151 _).trans ((up_n (by omega)).trans ff141)
  have ff155 : u150 239 = lr ct 4 (fun _ => 0) := (congrFun hu151 _).trans ((up_n (by omega)).trans ff142)
  have ff156 : u150 240 = lr ct 4 (fun _ => 0) := (congrFun hu151 _).trans ((up_n (by omega)).trans ff143)
  have ff157 : u150 241 = ir ct 8 (fun _ => 0) := (congrFun hu151 _).trans ((up_n (by omega)).trans ff144)
  have ff158 : u150 242 = ir ct 8 (fun _ => 0) := (congrFun hu151 _).trans ((up_n (by omega)).trans ff145)
  have ff159 : u150 243 = ir ct 8 (fun _ => 0) := (congrFun hu151 _).trans ((up_n (by omega)).trans ff146)
  have ff160 : u150 244 = ir ct 24 (fun _ => 0) := (congrFun hu151 _).trans ((up_n (by omega)).trans ff147)
  have ff161 : u150 245 = ir ct 24 (fun _ => 0) := (congrFun hu151 _).trans ((up_n (by omega)).trans ff148)
  have fr162 : ∀ j : Nat, (j < 236) → u150 j = u j := fun j h0 => (congrFun hu151 j).trans ((up_n (by omega)).trans (fr149 j h0))
  refine lv_aload_n hx hb d_M_init_74 rfl (lv_at hl 0 rfl) ?_
  refine lv_bipush (v := iI (24)) hx hb d_M_init_75 (by decide +kernel) ?_
  refine w_newi (n := 24) hx hb kk6 hK hP hS (ev_b E) (by omega) (by decide) (Nat.le_of_ble_eq_true rfl) (Nat.le_of_ble_eq_true rfl) d_M_init_77 (fun H hP hS => ?_)
  obtain ⟨u163, hu164, hP⟩ : ∃ zz : Nat → va_E, zz = va_up u150 246 (ir ct 24 (fun _ => 0)) ∧ va_P D vwCl (wl 247 b zz) H := ⟨_, rfl, hP⟩
  have ff165 : u163 236 = .inr (6, [.ref (b + 237), .ref (b + 238), .ref (b + 239), .ref (b + 240), .ref (b + 241), .ref (b + 242), .int (iI (0)), .ref (b + 243), .int (iI (0)), .ref (b + 244), .ref (b + 245), .null, .null, .null, .null, .null, .null, .null, .null]) := (congrFun hu164 _).trans ((up_n (by omega)).trans ff152)
  have ff166 : u163 237 = lr ct 512 (fun _ => 0) := (congrFun hu164 _).trans ((up_n (by omega)).trans ff153)
  have ff167 : u163 238 = ir ct 4 (fun _ => 0) := (congrFun hu164 _).trans ((up_n (by omega)).trans ff154)
  have ff168 : u163 239 = lr ct 4 (fun _ => 0) := (congrFun hu164 _).trans ((up_n (by omega)).trans ff155)
  have ff169 : u163 240 = lr ct 4 (fun _ => 0) := (congrFun hu164 _).trans ((up_n (by omega)).trans ff156)
  have ff170 : u163 241 = ir ct 8 (fun _ => 0) := (congrFun hu164 _).trans ((up_n (by omega)).trans ff157)
  have ff171 : u163 242 = ir ct 8 (fun _ => 0) := (congrFun hu164 _).trans ((up_n (by omega)).trans ff158)
  have ff172 : u163 243 = ir ct 8 (fun _ => 0) := (congrFun hu164 _).trans ((up_n (by omega)).trans ff159)
  have ff173 : u163 244 = ir ct 24 (fun _ => 0) := (congrFun hu164 _).trans ((up_n (by omega)).trans ff160)
  have ff174 : u163 245 = ir ct 24 (fun _ => 0) := (congrFun hu164 _).trans ((up_n (by omega)).trans ff161)
  have ff175 : u163 246 = ir ct 24 (fun _ => 0) := (congrFun hu164 _).trans up_s
  have fr176 : ∀ j : Nat, (j < 236) → u163 j = u j := fun j h0 => (congrFun hu164 j).trans ((up_n (by omega)).trans (fr162 j h0))
  refine w_putF (C := "LevelledRingModel") (T := T_M) (M := 19) (ty := (.array .int)) (v := .ref (b + 246)) hx hb hts hinM ty_M tyok_M nm_M hown hK hP hS (236) (by omega) ff165 rfl 11 (by decide) kk15 (fun _ h => h) rfl hnm rfl (by decide +kernel) rfl rfl (Nat.le_of_ble_eq_true rfl) d_M_init_79 (fun H locs hP hS => ?_)
  obtain ⟨u177, hu178, hP⟩ : ∃ zz : Nat → va_E, zz = va_up u163 236 (.inr (6, [.ref (b + 237), .ref (b + 238), .ref (b + 239), .ref (b + 240), .ref (b + 241), .ref (b + 242), .int (iI (0)), .ref (b + 243), .int (iI (0)), .ref (b + 244), .ref (b + 245), .ref (b + 246), .null, .null, .null, .null, .null, .null, .null])) ∧ va_P D vwCl (wl 247 b zz) H := ⟨_, rfl, hP⟩
  have ff179 : u177 236 = .inr (6, [.ref (b + 237), .ref (b + 238), .ref (b + 239), .ref (b + 240), .ref (b + 241), .ref (b + 242), .int (iI (0)), .ref (b + 243), .int (iI (0)), .ref (b + 244), .ref (b + 245), .ref (b + 246), .null, .null, .null, .null, .null, .null, .null]) := (congrFun hu178 _).trans up_s
  have ff180 : u177 237 = lr ct 512 (fun _ => 0) := (congrFun hu178 _).trans ((up_n (by omega)).trans ff166)
  have ff181 : u177 238 = ir ct 4 (fun _ => 0) := (congrFun hu178 _).trans ((up_n (by omega)).trans ff167)
  have ff182 : u177 239 = lr ct 4 (fun _ => 0) := (congrFun hu178 _).trans ((up_n (by omega)).trans ff168)
  have ff183 : u177 240 = lr ct 4 (fun _ => 0) := (congrFun hu178 _).trans ((up_n (by omega)).trans ff169)
  have ff184 : u177 241 = ir ct 8 (fun _ => 0) := (congrFun hu178 _).trans ((up_n (by omega)).trans ff170)
  have ff185 : u177 242 = ir ct 8 (fun _ => 0) := (congrFun hu178 _).trans ((up_n (by omega)).trans ff171)
  have ff186 : u177 243 = ir ct 8 (fun _ => 0) := (congrFun hu178 _).trans ((up_n (by omega)).trans ff172)
  have ff187 : u177 244 = ir ct 24 (fun _ => 0) := (congrFun hu178 _).trans ((up_n (by omega)).trans ff173)
  have ff188 : u177 245 = ir ct 24 (fun _ => 0) := (congrFun hu178 _).trans ((up_n (by omega)).trans ff174)
  have ff189 : u177 246 = ir ct 24 (fun _ => 0) := (congrFun hu178 _).trans ((up_n (by omega)).trans ff175)
  have fr190 : ∀ j : Nat, (j < 236) → u177 j = u j := fun j h0 => (congrFun hu178 j).trans ((up_n (by omega)).trans (fr176 j h0))
  refine lv_aload_n hx hb d_M_init_82 rfl (lv_at hl 0 rfl) ?_
  refine lv_sipush (v := iI (192)) hx hb d_M_init_83 (by decide +kernel) ?_
  refine w_newi (n := 192) hx hb kk6 hK hP hS (ev_b E) (by omega) (by decide) (Nat.le_of_ble_eq_true rfl) (Nat.le_of_ble_eq_true rfl) d_M_init_86 (fun H hP hS => ?_)
  obtain ⟨u191, hu192, hP⟩ : ∃ zz : Nat → va_E, zz = va_up u177 247 (ir ct 192 (fun _ => 0)) ∧ va_P D vwCl (wl 248 b zz) H := ⟨_, rfl, hP⟩
  have ff193 : u191 236 = .inr (6, [.ref (b + 237), .ref (b + 238), .ref (b + 239), .ref (b + 240), .ref (b + 241), .ref (b + 242), .int (iI (0)), .ref (b + 243), .int (iI (0)), .ref (b + 244), .ref (b + 245), .ref (b + 246), .null, .null, .null, .null, .null, .null, .null]) := (congrFun hu192 _).trans ((up_n (by omega)).trans ff179)
  have ff194 : u191 237 = lr ct 512 (fun _ => 0) := (congrFun hu192 _).trans ((up_n (by omega)).trans ff180)
  have ff195 : u191 238 = ir ct 4 (fun _ => 0) := (congrFun hu192 _).trans ((up_n (by omega)).trans ff181)
  have ff196 : u191 239 = lr ct 4 (fun _ => 0) := (congrFun hu192 _).trans ((up_n (by omega)).trans ff182)
  have ff197 : u191 240 = lr ct 4 (fun _ => 0) := (congrFun hu192 _).trans ((up_n (by omega)).trans ff183)
  have ff198 : u191 241 = ir ct 8 (fun _ => 0) := (congrFun hu192 _).trans ((up_n (by omega)).trans ff184)
  have ff199 : u191 242 = ir ct 8 (fun _ => 0) := (congrFun hu192 _).trans ((up_n (by omega)).trans ff185)
  have ff200 : u191 243 = ir ct 8 (fun _ => 0) := (congrFun hu192 _).trans ((up_n (by omega)).trans ff186)
  have ff201 : u191 244 = ir ct 24 (fun _ => 0) := (congrFun hu192 _).trans ((up_n (by omega)).trans ff187)
  have ff202 : u191 245 = ir ct 24 (fun _ => 0) := (congrFun hu192 _).trans ((up_n (by omega)).trans ff188)
  have ff203 : u191 246 = ir ct 24 (fun _ => 0) := (congrFun hu192 _).trans ((up_n (by omega)).trans ff189)
  have ff204 : u191 247 = ir ct 192 (fun _ => 0) := (congrFun hu192 _).trans up_s
  have fr205 : ∀ j : Nat, (j < 236) → u191 j = u j := fun j h0 => (congrFun hu192 j).trans ((up_n (by omega)).trans (fr190 j h0))
  refine w_putF (C := "LevelledRingModel") (T := T_M) (M := 19) (ty := (.array .int)) (v := .ref (b + 247)) hx hb hts hinM ty_M tyok_M nm_M hown hK hP hS (236) (by omega) ff193 rfl 12 (by decide) kk16 (fun _ h => h) rfl hnm rfl (by decide +kernel) rfl rfl (Nat.le_of_ble_eq_true rfl) d_M_init_88 (fun H locs hP hS => ?_)
  obtain ⟨u206, hu207, hP⟩ : ∃ zz : Nat → va_E, zz = va_up u191 236 (.inr (6, [.ref (b + 237), .ref (b + 238), .ref (b + 239), .ref (b + 240), .ref (b + 241), .ref (b + 242), .int (iI (0)), .ref (b + 243), .int (iI (0)), .ref (b + 244), .ref (b + 245), .ref (b + 246), .ref (b + 247), .null, .null, .null, .null, .null, .null])) ∧ va_P D vwCl (wl 248 b zz) H := ⟨_, rfl, hP⟩
  have ff208 : u206 236 = .inr (6, [.ref (b + 237), .ref (b + 238), .ref (b + 239), .ref (b + 240), .ref (b + 241), .ref (b + 242), .int (iI (0)), .ref (b + 243), .int (iI (0)), .ref (b + 244), .ref (b + 245), .ref (b + 246), .ref (b + 247), .null, .null, .null, .null, .null, .null]) := (congrFun hu207 _).trans up_s
  have ff209 : u206 237 = lr ct 512 (fun _ => 0) := (congrFun hu207 _).trans ((up_n (by omega)).trans ff194)
  have ff210 : u206 238 = ir ct 4 (fun _ => 0) := (congrFun hu207 _).trans ((up_n (by omega)).trans ff195)
  have ff211 : u206 239 = lr ct 4 (fun _ => 0) := (congrFun hu207 _).trans ((up_n (by omega)).trans ff196)
  have ff212 : u206 240 = lr ct 4 (fun _ => 0) := (congrFun hu207 _).trans ((up_n (by omega)).trans ff197)
  have ff213 : u206 241 = ir ct 8 (fun _ => 0) := (congrFun hu207 _).trans ((up_n (by omega)).trans ff198)
  have ff214 : u206 242 = ir ct 8 (fun _ => 0) := (congrFun hu207 _).trans ((up_n (by omega)).trans ff199)
  have ff215 : u206 243 = ir ct 8 (fun _ => 0) := (congrFun hu207 _).trans ((up_n (by omega)).trans ff200)
  have ff216 : u206 244 = ir ct 24 (fun _ => 0) := (congrFun hu207 _).trans ((up_n (by omega)).trans ff201)
  have ff217 : u206 245 = ir ct 24 (fun _ => 0) := (congrFun hu207 _).trans ((up_n (by omega)).trans ff202)
  have ff218 : u206 246 = ir ct 24 (fun _ => 0) := (congrFun hu207 _).trans ((up_n (by omega)).trans ff203)
  have ff219 : u206 247 = ir ct 192 (fun _ => 0) := (congrFun hu207 _).trans ((up_n (by omega)).trans ff204)
  have fr220 : ∀ j : Nat, (j < 236) → u206 j = u j := fun j h0 => (congrFun hu207 j).trans ((up_n (by omega)).trans (fr205 j h0))
  refine lv_aload_n hx hb d_M_init_91 rfl (lv_at hl 0 rfl) ?_
  refine lv_bipush (v := iI (24)) hx hb d_M_init_92 (by decide +kernel) ?_
  refine w_newz (n := 24) hx hb kk17 hK hP hS (ev_b E) (by omega) (by decide) (Nat.le_of_ble_eq_true rfl) (Nat.le_of_ble_eq_true rfl) d_M_init_94 (fun H hP hS => ?_)
  obtain ⟨u221, hu222, hP⟩ : ∃ zz : Nat → va_E, zz = va_up u206 248 (zr ct 24 (fun _ => 0)) ∧ va_P D vwCl (wl 249 b zz) H := ⟨_, rfl, hP⟩
  have ff223 : u221 236 = .inr (6, [.ref (b + 237), .ref (b + 238), .ref (b + 239), .ref (b + 240), .ref (b + 241), .ref (b + 242), .int (iI (0)), .ref (b + 243), .int (iI (0)), .ref (b + 244), .ref (b + 245), .ref (b + 246), .ref (b + 247), .null, .null, .null, .null, .null, .null]) := (congrFun hu222 _).trans ((up_n (by omega)).trans ff208)
  have ff224 : u221 237 = lr ct 512 (fun _ => 0) := (congrFun hu222 _).trans ((up_n (by omega)).trans ff209)
  have ff225 : u221 238 = ir ct 4 (fun _ => 0) := (congrFun hu222 _).trans ((up_n (by omega)).trans ff210)
  have ff226 : u221 239 = lr ct 4 (fun _ => 0) := (congrFun hu222 _).trans ((up_n (by omega)).trans ff211)
  have ff227 : u221 240 = lr ct 4 (fun _ => 0) := (congrFun hu222 _).trans ((up_n (by omega)).trans ff212)
  have ff228 : u221 241 = ir ct 8 (fun _ => 0) := (congrFun hu222 _).trans ((up_n (by omega)).trans ff213)
  have ff229 : u221 242 = ir ct 8 (fun _ => 0) := (congrFun hu222 _).trans ((up_n (by omega)).trans ff214)
  have ff230 : u221 243 = ir ct 8 (fun _ => 0) := (congrFun hu222 _).trans ((up_n (by omega)).trans ff215)
  have ff231 : u221 244 = ir ct 24 (fun _ => 0) := (congrFun hu222 _).trans ((up_n (by omega)).trans ff216)
  have ff232 : u221 245 = ir ct 24 (fun _ => 0) := (congrFun hu222 _).trans ((up_n (by omega)).trans ff217)
  have ff233 : u221 246 = ir ct 24 (fun _ => 0) := (congrFun hu222 _).trans ((up_n (by omega)).trans ff218)
  have ff234 : u221 247 = ir ct 192 (fun _ => 0) := (congrFun hu222 _).trans ((up_n (by omega)).trans ff219)
  have ff235 : u221 248 = zr ct 24 (fun _ => 0) := (congrFun hu222 _).trans up_s
  have fr236 : ∀ j : Nat, (j < 236) → u221 j = u j := fun j h0 => (congrFun hu222 j).trans ((up_n (by omega)).trans (fr220 j h0))
  refine w_putF (C := "LevelledRingModel") (T := T_M) (M := 19) (ty := (.array .boolean)) (v := .ref (b + 248)) hx hb hts hinM ty_M tyok_M nm_M hown hK hP hS (236) (by omega) ff223 rfl 13 (by decide) kk18 (fun _ h => h) rfl hnm rfl (by decide +kernel) rfl rfl (Nat.le_of_ble_eq_true rfl) d_M_init_96 (fun H locs hP hS => ?_)
  obtain ⟨u237, hu238, hP⟩ : ∃ zz : Nat → va_E, zz = va_up u221 236 (.inr (6, [.ref (b + 237), .ref (b + 238), .ref (b + 239), .ref (b + 240), .ref (b + 241), .ref (b + 242), .int (iI (0)), .ref (b + 243), .int (iI (0)), .ref (b + 244), .ref (b + 245), .ref (b + 246), .ref (b + 247), .ref (b + 248), .null, .null, .null, .null, .null])) ∧ va_P D vwCl (wl 249 b zz) H := ⟨_, rfl, hP⟩
  have ff239 : u237 236 = .inr (6, [.ref (b + 237), .ref (b + 238), .ref (b + 239), .ref (b + 240), .ref (b + 241), .ref (b + 242), .int (iI (0)), .ref (b + 243), .int (iI (0)), .ref (b + 244), .ref (b + 245), .ref (b + 246), .ref (b + 247), .ref (b + 248), .null, .null, .null, .null, .null]) := (congrFun hu238 _).trans up_s
  have ff240 : u237 237 = lr ct 512 (fun _ => 0) := (congrFun hu238 _).trans ((up_n (by omega)).trans ff224)
  have ff241 : u237 238 = ir ct 4 (fun _ => 0) := (congrFun hu238 _).trans ((up_n (by omega)).trans ff225)
  have ff242 : u237 239 = lr ct 4 (fun _ => 0) := (congrFun hu238 _).trans ((up_n (by omega)).trans ff226)
  have ff243 : u237 240 = lr ct 4 (fun _ => 0) := (congrFun hu238 _).trans ((up_n (by omega)).trans ff227)
  have ff244 : u237 241 = ir ct 8 (fun _ => 0) := (congrFun hu238 _).trans ((up_n (by omega)).trans ff228)
  have ff245 : u237 242 = ir ct 8 (fun _ => 0) := (congrFun hu238 _).trans ((up_n (by omega)).trans ff229)
  have ff246 : u237 243 = ir ct 8 (fun _ => 0) := (congrFun hu238 _).trans ((up_n (by omega)).trans ff230)
  have ff247 : u237 244 = ir ct 24 (fun _ => 0) := (congrFun hu238 _).trans ((up_n (by omega)).trans ff231)
  have ff248 : u237 245 = ir ct 24 (fun _ => 0) := (congrFun hu238 _).trans ((up_n (by omega)).trans ff232)
  have ff249 : u237 246 = ir ct 24 (fun _ => 0) := (congrFun hu238 _).trans ((up_n (by omega)).trans ff233)
  have ff250 : u237 247 = ir ct 192 (fun _ => 0) := (congrFun hu238 _).trans ((up_n (by omega)).trans ff234)
  have ff251 : u237 248 = zr ct 24 (fun _ => 0) := (congrFun hu238 _).trans ((up_n (by omega)).trans ff235)
  have fr252 : ∀ j : Nat, (j < 236) → u237 j = u j := fun j h0 => (congrFun hu238 j).trans ((up_n (by omega)).trans (fr236 j h0))
  refine lv_aload_n hx hb d_M_init_99 rfl (lv_at hl 0 rfl) ?_
  refine lv_bipush (v := iI (24)) hx hb d_M_init_100 (by decide +kernel) ?_
  refine w_newi (n := 24) hx hb kk6 hK hP hS (ev_b E) (by omega) (by decide) (Nat.le_of_ble_eq_true rfl) (Nat.le_of_ble_eq_true rfl) d_M_init_102 (fun H hP hS => ?_)
  obtain ⟨u253, hu254, hP⟩ : ∃ zz : Nat → va_E, zz = va_up u237 249 (ir ct 24 (fun _ => 0)) ∧ va_P D vwCl (wl 250 b zz) H := ⟨_, rfl, hP⟩
  have ff255 : u253 236 = .inr (6, [.ref (b + 237), .ref (b + 238), .ref (b + 239), .ref (b + 240), .ref (b + 241), .ref (b + 242), .int (iI (0)), .ref (b + 243), .int (iI (0)), .ref (b + 244), .ref (b + 245), .ref (b + 246), .ref (b + 247), .ref (b + 248), .null, .null, .null, .null, .null]) := (congrFun hu254 _).trans ((up_n (by omega)).trans ff239)
  have ff256 : u253 237 = lr ct 512 (fun _ => 0) := (congrFun hu254 _).trans ((up_n (by omega)).trans ff240)
  have ff257 : u253 238 = ir ct 4 (fun _ => 0) := (congrFun hu254 _).trans ((up_n (by omega)).trans ff241)
  have ff258 : u253 239 = lr ct 4 (fun _ => 0) := (congrFun hu254 _).trans ((up_n (by omega)).trans ff242)
  have ff259 : u253 240 = lr ct 4 (fun _ => 0) := (congrFun hu254 _).trans ((up_n (by omega)).trans ff243)
  have ff260 : u253 241 = ir ct 8 (fun _ => 0) := (congrFun hu254 _).trans ((up_n (by omega)).trans ff244)
  have ff261 : u253 242 = ir ct 8 (fun _ => 0) := (congrFun hu254 _).trans ((up_n (by omega)).trans ff245)
  have ff262 : u253 243 = ir ct 8 (fun _ => 0) := (congrFun hu254 _).trans ((up_n (by omega)).trans ff246)
  have ff263 : u253 244 = ir ct 24 (fun _ => 0) := (congrFun hu254 _).trans ((up_n (by omega)).trans ff247)
  have ff264 : u253 245 = ir ct 24 (fun _ => 0) := (congrFun hu254 _).trans ((up_n (by omega)).trans ff248)
  have ff265 : u253 246 = ir ct 24 (fun _ => 0) := (congrFun hu254 _).trans ((up_n (by omega)).trans ff249)
  have ff266 : u253 247 = ir ct 192 (fun _ => 0) := (congrFun hu254 _).trans ((up_n (by omega)).trans ff250)
  have ff267 : u253 248 = zr ct 24 (fun _ => 0) := (congrFun hu254 _).trans ((up_n (by omega)).trans ff251)
  have ff268 : u253 249 = ir ct 24 (fun _ => 0) := (congrFun hu254 _).trans up_s
  have fr269 : ∀ j : Nat, (j < 236) → u253 j = u j := fun j h0 => (congrFun hu254 j).trans ((up_n (by omega)).trans (fr252 j h0))
  refine w_putF (C := "LevelledRingModel") (T := T_M) (M := 19) (ty := (.array .int)) (v := .ref (b + 249)) hx hb hts hinM ty_M tyok_M nm_M hown hK hP hS (236) (by omega) ff255 rfl 14 (by decide) kk19 (fun _ h => h) rfl hnm rfl (by decide +kernel) rfl rfl (Nat.le_of_ble_eq_true rfl) d_M_init_104 (fun H locs hP hS => ?_)
  obtain ⟨u270, hu271, hP⟩ : ∃ zz : Nat → va_E, zz = va_up u253 236 (.inr (6, [.ref (b + 237), .ref (b + 238), .ref (b + 239), .ref (b + 240), .ref (b + 241), .ref (b + 242), .int (iI (0)), .ref (b + 243), .int (iI (0)), .ref (b + 244), .ref (b + 245), .ref (b + 246), .ref (b + 247), .ref (b + 248), .ref (b + 249), .null, .null, .null, .null])) ∧ va_P D vwCl (wl 250 b zz) H := ⟨_, rfl, hP⟩
  have ff272 : u270 236 = .inr (6, [.ref (b + 237), .ref (b + 238), .ref (b + 239), .ref (b + 240), .ref (b + 241), .ref (b + 242), .int (iI (0)), .ref (b + 243), .int (iI (0)), .ref (b + 244), .ref (b + 245), .ref (b + 246), .ref (b + 247), .ref (b + 248), .ref (b + 249), .null, .null, .null, .null]) := (congrFun hu271 _).trans up_s
  have ff273 : u270 237 = lr ct 512 (fun _ => 0) := (congrFun hu271 _).trans ((up_n (by omega)).trans ff256)
  have ff274 : u270 238 = ir ct 4 (fun _ => 0) := (congrFun hu271 _).trans ((up_n (by omega)).trans ff257)
  have ff275 : u270 239 = lr ct 4 (fun _ => 0) := (congrFun hu271 _).trans ((up_n (by omega)).trans ff258)
  have ff276 : u270 240 = lr ct 4 (fun _ => 0) := (congrFun hu271 _).trans ((up_n (by omega)).trans ff259)
  have ff277 : u270 241 = ir ct 8 (fun _ => 0) := (congrFun hu271 _).trans ((up_n (by omega)).trans ff260)
  have ff278 : u270 242 = ir ct 8 (fun _ => 0) := (congrFun hu271 _).trans ((up_n (by omega)).trans ff261)
  have ff279 : u270 243 = ir ct 8 (fun _ => 0) := (congrFun hu271 _).trans ((up_n (by omega)).trans ff262)
  have ff280 : u270 244 = ir ct 24 (fun _ => 0) := (congrFun hu271 _).trans ((up_n (by omega)).trans ff263)
  have ff281 : u270 245 = ir ct 24 (fun _ => 0) := (congrFun hu271 _).trans ((up_n (by omega)).trans ff264)
  have ff282 : u270 246 = ir ct 24 (fun _ => 0) := (congrFun hu271 _).trans ((up_n (by omega)).trans ff265)
  have ff283 : u270 247 = ir ct 192 (fun _ => 0) := (congrFun hu271 _).trans ((up_n (by omega)).trans ff266)
  have ff284 : u270 248 = zr ct 24 (fun _ => 0) := (congrFun hu271 _).trans ((up_n (by omega)).trans ff267)
  have ff285 : u270 249 = ir ct 24 (fun _ => 0) := (congrFun hu271 _).trans ((up_n (by omega)).trans ff268)
  have fr286 : ∀ j : Nat, (j < 236) → u270 j = u j := fun j h0 => (congrFun hu271 j).trans ((up_n (by omega)).trans (fr269 j h0))
  refine lv_aload_n hx hb d_M_init_107 rfl (lv_at hl 0 rfl) ?_
  refine lv_bipush (v := iI (24)) hx hb d_M_init_108 (by decide +kernel) ?_
  refine w_newl (n := 24) hx hb kk3 hK hP hS (ev_b E) (by omega) (by decide) (Nat.le_of_ble_eq_true rfl) (Nat.le_of_ble_eq_true rfl) d_M_init_110 (fun H hP hS => ?_)
  obtain ⟨u287, hu288, hP⟩ : ∃ zz : Nat → va_E, zz = va_up u270 250 (lr ct 24 (fun _ => 0)) ∧ va_P D vwCl (wl 251 b zz) H := ⟨_, rfl, hP⟩
  have ff289 : u287 236 = .inr (6, [.ref (b + 237), .ref (b + 238), .ref (b + 239), .ref (b + 240), .ref (b + 241), .ref (b + 242), .int (iI (0)), .ref (b + 243), .int (iI (0)), .ref (b + 244), .ref (b + 245), .ref (b + 246), .ref (b + 247), .ref (b + 248), .ref (b + 249), .null, .null, .null, .null]) := (congrFun hu288 _).trans ((up_n (by omega)).trans ff272)
  have ff290 : u287 237 = lr ct 512 (fun _ => 0) := (congrFun hu288 _).trans ((up_n (by omega)).trans ff273)
  have ff291 : u287 238 = ir ct 4 (fun _ => 0) := (congrFun hu288 _).trans ((up_n (by omega)).trans ff274)
  have ff292 : u287 239 = lr ct 4 (fun _ => 0) := (congrFun hu288 _).trans ((up_n (by omega)).trans ff275)
  have ff293 : u287 240 = lr ct 4 (fun _ => 0) := (congrFun hu288 _).trans ((up_n (by omega)).trans ff276)
  have ff294 : u287 241 = ir ct 8 (fun _ => 0) := (congrFun hu288 _).trans ((up_n (by omega)).trans ff277)
  have ff295 : u287 242 = ir ct 8 (fun _ => 0) := (congrFun hu288 _).trans ((up_n (by omega)).trans ff278)
  have ff296 : u287 243 = ir ct 8 (fun _ => 0) := (congrFun hu288 _).trans ((up_n (by omega)).trans ff279)
  have ff297 : u287 244 = ir ct 24 (fun _ => 0) := (congrFun hu288 _).trans ((up_n (by omega)).trans ff280)
  have ff298 : u287 245 = ir ct 24 (fun _ => 0) := (congrFun hu288 _).trans ((up_n (by omega)).trans ff281)
  have ff299 : u287 246 = ir ct 24 (fun _ => 0) := (congrFun hu288 _).trans ((up_n (by omega)).trans ff282)
  have ff300 : u287 247 = ir ct 192 (fun _ => 0) := (congrFun hu288 _).trans ((up_n (by omega)).trans ff283)
  have ff301 : u287 248 = zr ct 24 (fun _ => 0) := (congrFun hu288 _).trans ((up_n (by omega)).trans ff284)
  have ff302 : u287 249 = ir ct 24 (fun _ => 0) := (congrFun hu288 _).trans ((up_n (by omega)).trans ff285)
  have ff303 : u287 250 = lr ct 24 (fun _ => 0) := (congrFun hu288 _).trans up_s
  have fr304 : ∀ j : Nat, (j < 236) → u287 j = u j := fun j h0 => (congrFun hu288 j).trans ((up_n (by omega)).trans (fr286 j h0))
  refine w_putF (C := "LevelledRingModel") (T := T_M) (M := 19) (ty := (.array .long)) (v := .ref (b + 250)) hx hb hts hinM ty_M tyok_M nm_M hown hK hP hS (236) (by omega) ff289 rfl 15 (by decide) kk20 (fun _ h => h) rfl hnm rfl (by decide +kernel) rfl rfl (Nat.le_of_ble_eq_true rfl) d_M_init_112 (fun H locs hP hS => ?_)
  obtain ⟨u305, hu306, hP⟩ : ∃ zz : Nat → va_E, zz = va_up u287 236 (.inr (6, [.ref (b + 237), .ref (b + 238), .ref (b + 239), .ref (b + 240), .ref (b + 241), .ref (b + 242), .int (iI (0)), .ref (b + 243), .int (iI (0)), .ref (b + 244), .ref (b + 245), .ref (b + 246), .ref (b + 247), .ref (b + 248), .ref (b + 249), .ref (b + 250), .null, .null, .null])) ∧ va_P D vwCl (wl 251 b zz) H := ⟨_, rfl, hP⟩
  have ff307 : u305 236 = .inr (6, [.ref (b + 237), .ref (b + 238), .ref (b + 239), .ref (b + 240), .ref (b + 241), .ref (b + 242), .int (iI (0)), .ref (b + 243), .int (iI (0)), .ref (b + 244), .ref (b + 245), .ref (b + 246), .ref (b + 247), .ref (b + 248), .ref (b + 249), .ref (b + 250), .null, .null, .null]) := (congrFun hu306 _).trans up_s
  have ff308 : u305 237 = lr ct 512 (fun _ => 0) := (congrFun hu306 _).trans ((up_n (by omega)).trans ff290)
  have ff309 : u305 238 = ir ct 4 (fun _ => 0) := (congrFun hu306 _).trans ((up_n (by omega)).trans ff291)
  have ff310 : u305 239 = lr ct 4 (fun _ => 0) := (congrFun hu306 _).trans ((up_n (by omega)).trans ff292)
  have ff311 : u305 240 = lr ct 4 (fun _ => 0) := (congrFun hu306 _).trans ((up_n (by omega)).trans ff293)
  have ff312 : u305 241 = ir ct 8 (fun _ => 0) := (congrFun hu306 _).trans ((up_n (by omega)).trans ff294)
  have ff313 : u305 242 = ir ct 8 (fun _ => 0) := (congrFun hu306 _).trans ((up_n (by omega)).trans ff295)
  have ff314 : u305 243 = ir ct 8 (fun _ => 0) := (congrFun hu306 _).trans ((up_n (by omega)).trans ff296)
  have ff315 : u305 244 = ir ct 24 (fun _ => 0) := (congrFun hu306 _).trans ((up_n (by omega)).trans ff297)
  have ff316 : u305 245 = ir ct 24 (fun _ => 0) := (congrFun hu306 _).trans ((up_n (by omega)).trans ff298)
  have ff317 : u305 246 = ir ct 24 (fun _ => 0) := (congrFun hu306 _).trans ((up_n (by omega)).trans ff299)
  have ff318 : u305 247 = ir ct 192 (fun _ => 0) := (congrFun hu306 _).trans ((up_n (by omega)).trans ff300)
  have ff319 : u305 248 = zr ct 24 (fun _ => 0) := (congrFun hu306 _).trans ((up_n (by omega)).trans ff301)
  have ff320 : u305 249 = ir ct 24 (fun _ => 0) := (congrFun hu306 _).trans ((up_n (by omega)).trans ff302)
  have ff321 : u305 250 = lr ct 24 (fun _ => 0) := (congrFun hu306 _).trans ((up_n (by omega)).trans ff303)
  have fr322 : ∀ j : Nat, (j < 236) → u305 j = u j := fun j h0 => (congrFun hu306 j).trans ((up_n (by omega)).trans (fr304 j h0))
  refine lv_aload_n hx hb d_M_init_115 rfl (lv_at hl 0 rfl) ?_
  refine lv_iconst (v := iI (2)) hx hb d_M_init_116 rfl ?_
  refine w_newi (n := 2) hx hb kk6 hK hP hS (ev_b E) (by omega) (by decide) (Nat.le_of_ble_eq_true rfl) (Nat.le_of_ble_eq_true rfl) d_M_init_117 (fun H hP hS => ?_)
  obtain ⟨u323, hu324, hP⟩ : ∃ zz : Nat → va_E, zz = va_up u305 251 (ir ct 2 (fun _ => 0)) ∧ va_P D vwCl (wl 252 b zz) H := ⟨_, rfl, hP⟩
  have ff325 : u323 236 = .inr (6, [.ref (b + 237), .ref (b + 238), .ref (b + 239), .ref (b + 240), .ref (b + 241), .ref (b + 242), .int (iI (0)), .ref (b + 243), .int (iI (0)), .ref (b + 244), .ref (b + 245), .ref (b + 246), .ref (b + 247), .ref (b + 248), .ref (b + 249), .ref (b + 250), .null, .null, .null]) := (congrFun hu324 _).trans ((up_n (by omega)).trans ff307)
  have ff326 : u323 237 = lr ct 512 (fun _ => 0) := (congrFun hu324 _).trans ((up_n (by omega)).trans ff308)
  have ff327 : u323 238 = ir ct 4 (fun _ => 0) := (congrFun hu324 _).trans ((up_n (by omega)).trans ff309)
  have ff328 : u323 239 = lr ct 4 (fun _ => 0) := (congrFun hu324 _).trans ((up_n (by omega)).trans ff310)
  have ff329 : u323 240 = lr ct 4 (fun _ => 0) := (congrFun hu324 _).trans ((up_n (by omega)).trans ff311)
  have ff330 : u323 241 = ir ct 8 (fun _ => 0) := (congrFun hu324 _).trans ((up_n (by omega)).trans ff312)
  have ff331 : u323 242 = ir ct 8 (fun _ => 0) := (congrFun hu324 _).trans ((up_n (by omega)).trans ff313)
  have ff332 : u323 243 = ir ct 8 (fun _ => 0) := (congrFun hu324 _).trans ((up_n (by omega)).trans ff314)
  have ff333 : u323 244 = ir ct 24 (fun _ => 0) := (congrFun hu324 _).trans ((up_n (by omega)).trans ff315)
  have ff334 : u323 245 = ir ct 24 (fun _ => 0) := (congrFun hu324 _).trans ((up_n (by omega)).trans ff316)
  have ff335 : u323 246 = ir ct 24 (fun _ => 0) := (congrFun hu324 _).trans ((up_n (by omega)).trans ff317)
  have ff336 : u323 247 = ir ct 192 (fun _ => 0) := (congrFun hu324 _).trans ((up_n (by omega)).trans ff318)
  have ff337 : u323 248 = zr ct 24 (fun _ => 0) := (congrFun hu324 _).trans ((up_n (by omega)).trans ff319)
  have ff338 : u323 249 = ir ct 24 (fun _ => 0) := (congrFun hu324 _).trans ((up_n (by omega)).trans ff320)
  have ff339 : u323 250 = lr ct 24 (fun _ => 0) := (congrFun hu324 _).trans ((up_n (by omega)).trans ff321)
  have ff340 : u323 251 = ir ct 2 (fun _ => 0) := (congrFun hu324 _).trans up_s
  have fr341 : ∀ j : Nat, (j < 236) → u323 j = u j := fun j h0 => (congrFun hu324 j).trans ((up_n (by omega)).trans (fr322 j h0))
  refine w_putF (C := "LevelledRingModel") (T := T_M) (M := 19) (ty := (.array .int)) (v := .ref (b + 251)) hx hb hts hinM ty_M tyok_M nm_M hown hK hP hS (236) (by omega) ff325 rfl 16 (by decide) kk21 (fun _ h => h) rfl hnm rfl (by decide +kernel) rfl rfl (Nat.le_of_ble_eq_true rfl) d_M_init_119 (fun H locs hP hS => ?_)
  obtain ⟨u342, hu343, hP⟩ : ∃ zz : Nat → va_E, zz = va_up u323 236 (.inr (6, [.ref (b + 237), .ref (b + 238), .ref (b + 239), .ref (b + 240), .ref (b + 241), .ref (b + 242), .int (iI (0)), .ref (b + 243), .int (iI (0)), .ref (b + 244), .ref (b + 245), .ref (b + 246), .ref (b + 247), .ref (b + 248), .ref (b + 249), .ref (b + 250), .ref (b + 251), .null, .null])) ∧ va_P D vwCl (wl 252 b zz) H := ⟨_, rfl, hP⟩
  have ff344 : u342 236 = .inr (6, [.ref (b + 237), .ref (b + 238), .ref (b + 239), .ref (b + 240), .ref (b + 241), .ref (b + 242), .int (iI (0)), .ref (b + 243), .int (iI (0)), .ref (b + 244), .ref (b + 245), .ref (b + 246), .ref (b + 247), .ref (b + 248), .ref (b + 249), .ref (b + 250), .ref (b + 251), .null, .null]) := (congrFun hu343 _).trans up_s
  have ff345 : u342 237 = lr ct 512 (fun _ => 0) := (congrFun hu343 _).trans ((up_n (by omega)).trans ff326)
  have ff346 : u342 238 = ir ct 4 (fun _ => 0) := (congrFun hu343 _).trans ((up_n (by omega)).trans ff327)
  have ff347 : u342 239 = lr ct 4 (fun _ => 0) := (congrFun hu343 _).trans ((up_n (by omega)).trans ff328)
  have ff348 : u342 240 = lr ct 4 (fun _ => 0) := (congrFun hu343 _).trans ((up_n (by omega)).trans ff329)
  have ff349 : u342 241 = ir ct 8 (fun _ => 0) := (congrFun hu343 _).trans ((up_n (by omega)).trans ff330)
  have ff350 : u342 242 = ir ct 8 (fun _ => 0) := (congrFun hu343 _).trans ((up_n (by omega)).trans ff331)
  have ff351 : u342 243 = ir ct 8 (fun _ => 0) := (congrFun hu343 _).trans ((up_n (by omega)).trans ff332)
  have ff352 : u342 244 = ir ct 24 (fun _ => 0) := (congrFun hu343 _).trans ((up_n (by omega)).trans ff333)
  have ff353 : u342 245 = ir ct 24 (fun _ => 0) := (congrFun hu343 _).trans ((up_n (by omega)).trans ff334)
  have ff354 : u342 246 = ir ct 24 (fun _ => 0) := (congrFun hu343 _).trans ((up_n (by omega)).trans ff335)
  have ff355 : u342 247 = ir ct 192 (fun _ => 0) := (congrFun hu343 _).trans ((up_n (by omega)).trans ff336)
  have ff356 : u342 248 = zr ct 24 (fun _ => 0) := (congrFun hu343 _).trans ((up_n (by omega)).trans ff337)
  have ff357 : u342 249 = ir ct 24 (fun _ => 0) := (congrFun hu343 _).trans ((up_n (by omega)).trans ff338)
  have ff358 : u342 250 = lr ct 24 (fun _ => 0) := (congrFun hu343 _).trans ((up_n (by omega)).trans ff339)
  have ff359 : u342 251 = ir ct 2 (fun _ => 0) := (congrFun hu343 _).trans ((up_n (by omega)).trans ff340)
  have fr360 : ∀ j : Nat, (j < 236) → u342 j = u j := fun j h0 => (congrFun hu343 j).trans ((up_n (by omega)).trans (fr341 j h0))
  refine lv_aload_n hx hb d_M_init_122 rfl (lv_at hl 0 rfl) ?_
  refine lv_iconst (v := iI (2)) hx hb d_M_init_123 rfl ?_
  refine w_newl (n := 2) hx hb kk3 hK hP hS (ev_b E) (by omega) (by decide) (Nat.le_of_ble_eq_true rfl) (Nat.le_of_ble_eq_true rfl) d_M_init_124 (fun H hP hS => ?_)
  obtain ⟨u361, hu362, hP⟩ : ∃ zz : Nat → va_E, zz = va_up u342 252 (lr ct 2 (fun _ => 0)) ∧ va_P D vwCl (wl 253 b zz) H := ⟨_, rfl, hP⟩
  have ff363 : u361 236 = .inr (6, [.ref (b + 237), .ref (b + 238), .ref (b + 239), .ref (b + 240), .ref (b + 241), .ref (b + 242), .int (iI (0)), .ref (b + 243), .int (iI (0)), .ref (b + 244), .ref (b + 245), .ref (b + 246), .ref (b + 247), .ref (b + 248), .ref (b + 249), .ref (b + 250), .ref (b + 251), .null, .null]) := (congrFun hu362 _).trans ((up_n (by omega)).trans ff344)
  have ff364 : u361 237 = lr ct 512 (fun _ => 0) := (congrFun hu362 _).trans ((up_n (by omega)).trans ff345)
  have ff365 : u361 238 = ir ct 4 (fun _ => 0) := (congrFun hu362 _).trans ((up_n (by omega)).trans ff346)
  have ff366 : u361 239 = lr ct 4 (fun _ => 0) := (congrFun hu362 _).trans ((up_n (by omega)).trans ff347)
  have ff367 : u361 240 = lr ct 4 (fun _ => 0) := (congrFun hu362 _).trans ((up_n (by omega)).trans ff348)
  have ff368 : u361 241 = ir ct 8 (fun _ => 0) := (congrFun hu362 _).trans ((up_n (by omega)).trans ff349)
  have ff369 : u361 242 = ir ct 8 (fun _ => 0) := (congrFun hu362 _).trans ((up_n (by omega)).trans ff350)
  have ff370 : u361 243 = ir ct 8 (fun _ => 0) := (congrFun hu362 _).trans ((up_n (by omega)).trans ff351)
  have ff371 : u361 244 = ir ct 24 (fun _ => 0) := (congrFun hu362 _).trans ((up_n (by omega)).trans ff352)
  have ff372 : u361 245 = ir ct 24 (fun _ => 0) := (congrFun hu362 _).trans ((up_n (by omega)).trans ff353)
  have ff373 : u361 246 = ir ct 24 (fun _ => 0) := (congrFun hu362 _).trans ((up_n (by omega)).trans ff354)
  have ff374 : u361 247 = ir ct 192 (fun _ => 0) := (congrFun hu362 _).trans ((up_n (by omega)).trans ff355)
  have ff375 : u361 248 = zr ct 24 (fun _ => 0) := (congrFun hu362 _).trans ((up_n (by omega)).trans ff356)
  have ff376 : u361 249 = ir ct 24 (fun _ => 0) := (congrFun hu362 _).trans ((up_n (by omega)).trans ff357)
  have ff377 : u361 250 = lr ct 24 (fun _ => 0) := (congrFun hu362 _).trans ((up_n (by omega)).trans ff358)
  have ff378 : u361 251 = ir ct 2 (fun _ => 0) := (congrFun hu362 _).trans ((up_n (by omega)).trans ff359)
  have ff379 : u361 252 = lr ct 2 (fun _ => 0) := (congrFun hu362 _).trans up_s
  have fr380 : ∀ j : Nat, (j < 236) → u361 j = u j := fun j h0 => (congrFun hu362 j).trans ((up_n (by omega)).trans (fr360 j h0))
  refine w_putF (C := "LevelledRingModel") (T := T_M) (M := 19) (ty := (.array .long)) (v := .ref (b + 252)) hx hb hts hinM ty_M tyok_M nm_M hown hK hP hS (236) (by omega) ff363 rfl 17 (by decide) kk22 (fun _ h => h) rfl hnm rfl (by decide +kernel) rfl rfl (Nat.le_of_ble_eq_true rfl) d_M_init_126 (fun H locs hP hS => ?_)
  obtain ⟨u381, hu382, hP⟩ : ∃ zz : Nat → va_E, zz = va_up u361 236 (.inr (6, [.ref (b + 237), .ref (b + 238), .ref (b + 239), .ref (b + 240), .ref (b + 241), .ref (b + 242), .int (iI (0)), .ref (b + 243), .int (iI (0)), .ref (b + 244), .ref (b + 245), .ref (b + 246), .ref (b + 247), .ref (b + 248), .ref (b + 249), .ref (b + 250), .ref (b + 251), .ref (b + 252), .null])) ∧ va_P D vwCl (wl 253 b zz) H := ⟨_, rfl, hP⟩
  have ff383 : u381 236 = .inr (6, [.ref (b + 237), .ref (b + 238), .ref (b + 239), .ref (b + 240), .ref (b + 241), .ref (b + 242), .int (iI (0)), .ref (b + 243), .int (iI (0)), .ref (b + 244), .ref (b + 245), .ref (b + 246), .ref (b + 247), .ref (b + 248), .ref (b + 249), .ref (b + 250), .ref (b + 251), .ref (b + 252), .null]) := (congrFun hu382 _).trans up_s
  have ff384 : u381 237 = lr ct 512 (fun _ => 0) := (congrFun hu382 _).trans ((up_n (by omega)).trans ff364)
  have ff385 : u381 238 = ir ct 4 (fun _ => 0) := (congrFun hu382 _).trans ((up_n (by omega)).trans ff365)
  have ff386 : u381 239 = lr ct 4 (fun _ => 0) := (congrFun hu382 _).trans ((up_n (by omega)).trans ff366)
  have ff387 : u381 240 = lr ct 4 (fun _ => 0) := (congrFun hu382 _).trans ((up_n (by omega)).trans ff367)
  have ff388 : u381 241 = ir ct 8 (fun _ => 0) := (congrFun hu382 _).trans ((up_n (by omega)).trans ff368)
  have ff389 : u381 242 = ir ct 8 (fun _ => 0) := (congrFun hu382 _).trans ((up_n (by omega)).trans ff369)
  have ff390 : u381 243 = ir ct 8 (fun _ => 0) := (congrFun hu382 _).trans ((up_n (by omega)).trans ff370)
  have ff391 : u381 244 = ir ct 24 (fun _ => 0) := (congrFun hu382 _).trans ((up_n (by omega)).trans ff371)
  have ff392 : u381 245 = ir ct 24 (fun _ => 0) := (congrFun hu382 _).trans ((up_n (by omega)).trans ff372)
  have ff393 : u381 246 = ir ct 24 (fun _ => 0) := (congrFun hu382 _).trans ((up_n (by omega)).trans ff373)
  have ff394 : u381 247 = ir ct 192 (fun _ => 0) := (congrFun hu382 _).trans ((up_n (by omega)).trans ff374)
  have ff395 : u381 248 = zr ct 24 (fun _ => 0) := (congrFun hu382 _).trans ((up_n (by omega)).trans ff375)
  have ff396 : u381 249 = ir ct 24 (fun _ => 0) := (congrFun hu382 _).trans ((up_n (by omega)).trans ff376)
  have ff397 : u381 250 = lr ct 24 (fun _ => 0) := (congrFun hu382 _).trans ((up_n (by omega)).trans ff377)
  have ff398 : u381 251 = ir ct 2 (fun _ => 0) := (congrFun hu382 _).trans ((up_n (by omega)).trans ff378)
  have ff399 : u381 252 = lr ct 2 (fun _ => 0) := (congrFun hu382 _).trans ((up_n (by omega)).trans ff379)
  have fr400 : ∀ j : Nat, (j < 236) → u381 j = u j := fun j h0 => (congrFun hu382 j).trans ((up_n (by omega)).trans (fr380 j h0))
  refine lv_aload_n hx hb d_M_init_129 rfl (lv_at hl 0 rfl) ?_
  refine lv_bipush (v := iI (8)) hx hb d_M_init_130 (by decide +kernel) ?_
  refine w_newl (n := 8) hx hb kk3 hK hP hS (ev_b E) (by omega) (by decide) (Nat.le_of_ble_eq_true rfl) (Nat.le_of_ble_eq_true rfl) d_M_init_132 (fun H hP hS => ?_)
  obtain ⟨u401, hu402, hP⟩ : ∃ zz : Nat → va_E, zz = va_up u381 253 (lr ct 8 (fun _ => 0)) ∧ va_P D vwCl (wl 254 b zz) H := ⟨_, rfl, hP⟩
  have ff403 : u401 236 = .inr (6, [.ref (b + 237), .ref (b + 238), .ref (b + 239), .ref (b + 240), .ref (b + 241), .ref (b + 242), .int (iI (0)), .ref (b + 243), .int (iI (0)), .ref (b + 244), .ref (b + 245), .ref (b + 246), .ref (b + 247), .ref (b + 248), .ref (b + 249), .ref (b + 250), .ref (b + 251), .ref (b + 252), .null]) := (congrFun hu402 _).trans ((up_n (by omega)).trans ff383)
  have ff404 : u401 237 = lr ct 512 (fun _ => 0) := (congrFun hu402 _).trans ((up_n (by omega)).trans ff384)
  have ff405 : u401 238 = ir ct 4 (fun _ => 0) := (congrFun hu402 _).trans ((up_n (by omega)).trans ff385)
  have ff406 : u401 239 = lr ct 4 (fun _ => 0) := (congrFun hu402 _).trans ((up_n (by omega)).trans ff386)
  have ff407 : u401 240 = lr ct 4 (fun _ => 0) := (congrFun hu402 _).trans ((up_n (by omega)).trans ff387)
  have ff408 : u401 241 = ir ct 8 (fun _ => 0) := (congrFun hu402 _).trans ((up_n (by omega)).trans ff388)
  have ff409 : u401 242 = ir ct 8 (fun _ => 0) := (congrFun hu402 _).trans ((up_n (by omega)).trans ff389)
  have ff410 : u401 243 = ir ct 8 (fun _ => 0) := (congrFun hu402 _).trans ((up_n (by omega)).trans ff390)
  have ff411 : u401 244 = ir ct 24 (fun _ => 0) := (congrFun hu402 _).trans ((up_n (by omega)).trans ff391)
  have ff412 : u401 245 = ir ct 24 (fun _ => 0) := (congrFun hu402 _).trans ((up_n (by omega)).trans ff392)
  have ff413 : u401 246 = ir ct 24 (fun _ => 0) := (congrFun hu402 _).trans ((up_n (by omega)).trans ff393)
  have ff414 : u401 247 = ir ct 192 (fun _ => 0) := (congrFun hu402 _).trans ((up_n (by omega)).trans ff394)
  have ff415 : u401 248 = zr ct 24 (fun _ => 0) := (congrFun hu402 _).trans ((up_n (by omega)).trans ff395)
  have ff416 : u401 249 = ir ct 24 (fun _ => 0) := (congrFun hu402 _).trans ((up_n (by omega)).trans ff396)
  have ff417 : u401 250 = lr ct 24 (fun _ => 0) := (congrFun hu402 _).trans ((up_n (by omega)).trans ff397)
  have ff418 : u401 251 = ir ct 2 (fun _ => 0) := (congrFun hu402 _).trans ((up_n (by omega)).trans ff398)
  have ff419 : u401 252 = lr ct 2 (fun _ => 0) := (congrFun hu402 _).trans ((up_n (by omega)).trans ff399)
  have ff420 : u401 253 = lr ct 8 (fun _ => 0) := (congrFun hu402 _).trans up_s
  have fr421 : ∀ j : Nat, (j < 236) → u401 j = u j := fun j h0 => (congrFun hu402 j).trans ((up_n (by omega)).trans (fr400 j h0))
  refine w_putF (C := "LevelledRingModel") (T := T_M) (M := 19) (ty := (.array .long)) (v := .ref (b + 253)) hx hb hts hinM ty_M tyok_M nm_M hown hK hP hS (236) (by omega) ff403 rfl 18 (by decide) kk23 (fun _ h => h) rfl hnm rfl (by decide +kernel) rfl rfl (Nat.le_of_ble_eq_true rfl) d_M_init_134 (fun H locs hP hS => ?_)
  obtain ⟨u422, hu423, hP⟩ : ∃ zz : Nat → va_E, zz = va_up u401 236 (.inr (6, [.ref (b + 237), .ref (b + 238), .ref (b + 239), .ref (b + 240), .ref (b + 241), .ref (b + 242), .int (iI (0)), .ref (b + 243), .int (iI (0)), .ref (b + 244), .ref (b + 245), .ref (b + 246), .ref (b + 247), .ref (b + 248), .ref (b + 249), .ref (b + 250), .ref (b + 251), .ref (b + 252), .ref (b + 253)])) ∧ va_P D vwCl (wl 254 b zz) H := ⟨_, rfl, hP⟩
  have ff424 : u422 236 = .inr (6, [.ref (b + 237), .ref (b + 238), .ref (b + 239), .ref (b + 240), .ref (b + 241), .ref (b + 242), .int (iI (0)), .ref (b + 243), .int (iI (0)), .ref (b + 244), .ref (b + 245), .ref (b + 246), .ref (b + 247), .ref (b + 248), .ref (b + 249), .ref (b + 250), .ref (b + 251), .ref (b + 252), .ref (b + 253)]) := (congrFun hu423 _).trans up_s
  have ff425 : u422 237 = lr ct 512 (fun _ => 0) := (congrFun hu423 _).trans ((up_n (by omega)).trans ff404)
  have ff426 : u422 238 = ir ct 4 (fun _ => 0) := (congrFun hu423 _).trans ((up_n (by omega)).trans ff405)
  have ff427 : u422 239 = lr ct 4 (fun _ => 0) := (congrFun hu423 _).trans ((up_n (by omega)).trans ff406)
  have ff428 : u422 240 = lr ct 4 (fun _ => 0) := (congrFun hu423 _).trans ((up_n (by omega)).trans ff407)
  have ff429 : u422 241 = ir ct 8 (fun _ => 0) := (congrFun hu423 _).trans ((up_n (by omega)).trans ff408)
  have ff430 : u422 242 = ir ct 8 (fun _ => 0) := (congrFun hu423 _).trans ((up_n (by omega)).trans ff409)
  have ff431 : u422 243 = ir ct 8 (fun _ => 0) := (congrFun hu423 _).trans ((up_n (by omega)).trans ff410)
  have ff432 : u422 244 = ir ct 24 (fun _ => 0) := (congrFun hu423 _).trans ((up_n (by omega)).trans ff411)
  have ff433 : u422 245 = ir ct 24 (fun _ => 0) := (congrFun hu423 _).trans ((up_n (by omega)).trans ff412)
  have ff434 : u422 246 = ir ct 24 (fun _ => 0) := (congrFun hu423 _).trans ((up_n (by omega)).trans ff413)
  have ff435 : u422 247 = ir ct 192 (fun _ => 0) := (congrFun hu423 _).trans ((up_n (by omega)).trans ff414)
  have ff436 : u422 248 = zr ct 24 (fun _ => 0) := (congrFun hu423 _).trans ((up_n (by omega)).trans ff415)
  have ff437 : u422 249 = ir ct 24 (fun _ => 0) := (congrFun hu423 _).trans ((up_n (by omega)).trans ff416)
  have ff438 : u422 250 = lr ct 24 (fun _ => 0) := (congrFun hu423 _).trans ((up_n (by omega)).trans ff417)
  have ff439 : u422 251 = ir ct 2 (fun _ => 0) := (congrFun hu423 _).trans ((up_n (by omega)).trans ff418)
  have ff440 : u422 252 = lr ct 2 (fun _ => 0) := (congrFun hu423 _).trans ((up_n (by omega)).trans ff419)
  have ff441 : u422 253 = lr ct 8 (fun _ => 0) := (congrFun hu423 _).trans ((up_n (by omega)).trans ff420)
  have fr442 : ∀ j : Nat, (j < 236) → u422 j = u j := fun j h0 => (congrFun hu423 j).trans ((up_n (by omega)).trans (fr421 j h0))
  refine W.widen (k := 17) (n := 896) (by decide) (by decide) ?_
  refine lv_aload_n hx hb d_M_init_137 rfl (lv_at hl 0 rfl) ?_
  refine w_get (C := "LevelledRingModel") (T := T_M) (M := 19) hx hb hts hinM hown hK hP (236) (by omega) ff424 rfl 1 (by decide) kk7 (fun _ h => h) rfl d_M_init_138 ?_
  refine lv_iconst (v := iI (0)) hx hb d_M_init_141 rfl ?_
  refine lv_sipush (v := iI (32369)) hx hb d_M_init_142 (by decide +kernel) ?_
  refine w_iast hx hb hK hP hS (238) (by omega) ff426 (by omega) (by omega) (by omega) d_M_init_145 (fun H locs hP hS => ?_)
  obtain ⟨u443, hu444, hP⟩ : ∃ zz : Nat → va_E, zz = va_up u422 238 (ir ct 4 (zu (fun _ => 0) (0) (32369))) ∧ va_P D vwCl (wl 254 b zz) H := ⟨_, rfl, hP⟩
  have ff445 : u443 236 = .inr (6, [.ref (b + 237), .ref (b + 238), .ref (b + 239), .ref (b + 240), .ref (b + 241), .ref (b + 242), .int (iI (0)), .ref (b + 243), .int (iI (0)), .ref (b + 244), .ref (b + 245), .ref (b + 246), .ref (b + 247), .ref (b + 248), .ref (b + 249), .ref (b + 250), .ref (b + 251), .ref (b + 252), .ref (b + 253)]) := (congrFun hu444 _).trans ((up_n (by omega)).trans ff424)
  have ff446 : u443 237 = lr ct 512 (fun _ => 0) := (congrFun hu444 _).trans ((up_n (by omega)).trans ff425)
  have ff447 : u443 238 = ir ct 4 (zu (fun _ => 0) (0) (32369)) := (congrFun hu444 _).trans up_s
  have ff448 : u443 239 = lr ct 4 (fun _ => 0) := (congrFun hu444 _).trans ((up_n (by omega)).trans ff427)
  have ff449 : u443 240 = lr ct 4 (fun _ => 0) := (congrFun hu444 _).trans ((up_n (by omega)).trans ff428)
  have ff450 : u443 241 = ir ct 8 (fun _ => 0) := (congrFun hu444 _).trans ((up_n (by omega)).trans ff429)
  have ff451 : u443 242 = ir ct 8 (fun _ => 0) := (congrFun hu444 _).trans ((up_n (by omega)).trans ff430)
  have ff452 : u443 243 = ir ct 8 (fun _ => 0) := (congrFun hu444 _).trans ((up_n (by omega)).trans ff431)
  have ff453 : u443 244 = ir ct 24 (fun _ => 0) := (congrFun hu444 _).trans ((up_n (by omega)).trans ff432)
  have ff454 : u443 245 = ir ct 24 (fun _ => 0) := (congrFun hu444 _).trans ((up_n (by omega)).trans ff433)
  have ff455 : u443 246 = ir ct 24 (fun _ => 0) := (congrFun hu444 _).trans ((up_n (by omega)).trans ff434)
  have ff456 : u443 247 = ir ct 192 (fun _ => 0) := (congrFun hu444 _).trans ((up_n (by omega)).trans ff435)
  have ff457 : u443 248 = zr ct 24 (fun _ => 0) := (congrFun hu444 _).trans ((up_n (by omega)).trans ff436)
  have ff458 : u443 249 = ir ct 24 (fun _ => 0) := (congrFun hu444 _).trans ((up_n (by omega)).trans ff437)
  have ff459 : u443 250 = lr ct 24 (fun _ => 0) := (congrFun hu444 _).trans ((up_n (by omega)).trans ff438)
  have ff460 : u443 251 = ir ct 2 (fun _ => 0) := (congrFun hu444 _).trans ((up_n (by omega)).trans ff439)
  have ff461 : u443 252 = lr ct 2 (fun _ => 0) := (congrFun hu444 _).trans ((up_n (by omega)).trans ff440)
  have ff462 : u443 253 = lr ct 8 (fun _ => 0) := (congrFun hu444 _).trans ((up_n (by omega)).trans ff441)
  have fr463 : ∀ j : Nat, (j < 236) → u443 j = u j := fun j h0 => (congrFun hu444 j).trans ((up_n (by omega)).trans (fr442 j h0))
  refine lv_aload_n hx hb d_M_init_146 rfl (lv_at hl 0 rfl) ?_
  refine w_get (C := "LevelledRingModel") (T := T_M) (M := 19) hx hb hts hinM hown hK hP (236) (by omega) ff445 rfl 1 (by decide) kk7 (fun _ h => h) rfl d_M_init_147 ?_
  refine lv_iconst (v := iI (1)) hx hb d_M_init_150 rfl ?_
  refine lv_sipush (v := iI (29921)) hx hb d_M_init_151 (by decide +kernel) ?_
  refine w_iast hx hb hK hP hS (238) (by omega) ff447 (by omega) (by omega) (by omega) d_M_init_154 (fun H locs hP hS => ?_)
  obtain ⟨u464, hu465, hP⟩ : ∃ zz : Nat → va_E, zz = va_up u443 238 (ir ct 4 (zu (zu (fun _ => 0) (0) (32369)) (1) (29921))) ∧ va_P D vwCl (wl 254 b zz) H := ⟨_, rfl, hP⟩
  have ff466 : u464 236 = .inr (6, [.ref (b + 237), .ref (b + 238), .ref (b + 239), .ref (b + 240), .ref (b + 241), .ref (b + 242), .int (iI (0)), .ref (b + 243), .int (iI (0)), .ref (b + 244), .ref (b + 245), .ref (b + 246), .ref (b + 247), .ref (b + 248), .ref (b + 249), .ref (b + 250), .ref (b + 251), .ref (b + 252), .ref (b + 253)]) := (congrFun hu465 _).trans ((up_n (by omega)).trans ff445)
  have ff467 : u464 237 = lr ct 512 (fun _ => 0) := (congrFun hu465 _).trans ((up_n (by omega)).trans ff446)
  have ff468 : u464 238 = ir ct 4 (zu (zu (fun _ => 0) (0) (32369)) (1) (29921)) := (congrFun hu465 _).trans up_s
  have ff469 : u464 239 = lr ct 4 (fun _ => 0) := (congrFun hu465 _).trans ((up_n (by omega)).trans ff448)
  have ff470 : u464 240 = lr ct 4 (fun _ => 0) := (congrFun hu465 _).trans ((up_n (by omega)).trans ff449)
  have ff471 : u464 241 = ir ct 8 (fun _ => 0) := (congrFun hu465 _).trans ((up_n (by omega)).trans ff450)
  have ff472 : u464 242 = ir ct 8 (fun _ => 0) := (congrFun hu465 _).trans ((up_n (by omega)).trans ff451)
  have ff473 : u464 243 = ir ct 8 (fun _ => 0) := (congrFun hu465 _).trans ((up_n (by omega)).trans ff452)
  have ff474 : u464 244 = ir ct 24 (fun _ => 0) := (congrFun hu465 _).trans ((up_n (by omega)).trans ff453)
  have ff475 : u464 245 = ir ct 24 (fun _ => 0) := (congrFun hu465 _).trans ((up_n (by omega)).trans ff454)
  have ff476 : u464 246 = ir ct 24 (fun _ => 0) := (congrFun hu465 _).trans ((up_n (by omega)).trans ff455)
  have ff477 : u464 247 = ir ct 192 (fun _ => 0) := (congrFun hu465 _).trans ((up_n (by omega)).trans ff456)
  have ff478 : u464 248 = zr ct 24 (fun _ => 0) := (congrFun hu465 _).trans ((up_n (by omega)).trans ff457)
  have ff479 : u464 249 = ir ct 24 (fun _ => 0) := (congrFun hu465 _).trans ((up_n (by omega)).trans ff458)
  have ff480 : u464 250 = lr ct 24 (fun _ => 0) := (congrFun hu465 _).trans ((up_n (by omega)).trans ff459)
  have ff481 : u464 251 = ir ct 2 (fun _ => 0) := (congrFun hu465 _).trans ((up_n (by omega)).trans ff460)
  have ff482 : u464 252 = lr ct 2 (fun _ => 0) := (congrFun hu465 _).trans ((up_n (by omega)).trans ff461)
  have ff483 : u464 253 = lr ct 8 (fun _ => 0) := (congrFun hu465 _).trans ((up_n (by omega)).trans ff462)
  have fr484 : ∀ j : Nat, (j < 236) → u464 j = u j := fun j h0 => (congrFun hu465 j).trans ((up_n (by omega)).trans (fr463 j h0))
  refine lv_aload_n hx hb d_M_init_155 rfl (lv_at hl 0 rfl) ?_
  refine w_get (C := "LevelledRingModel") (T := T_M) (M := 19) hx hb hts hinM hown hK hP (236) (by omega) ff466 rfl 1 (by decide) kk7 (fun _ h => h) rfl d_M_init_156 ?_
  refine lv_iconst (v := iI (2)) hx hb d_M_init_159 rfl ?_
  refine lv_sipush (v := iI (28289)) hx hb d_M_init_160 (by decide +kernel) ?_
  refine w_iast hx hb hK hP hS (238) (by omega) ff468 (by omega) (by omega) (by omega) d_M_init_163 (fun H locs hP hS => ?_)
  obtain ⟨u485, hu486, hP⟩ : ∃ zz : Nat → va_E, zz = va_up u464 238 (ir ct 4 (zu (zu (zu (fun _ => 0) (0) (32369)) (1) (29921)) (2) (28289))) ∧ va_P D vwCl (wl 254 b zz) H := ⟨_, rfl, hP⟩
  have ff487 : u485 236 = .inr (6, [.ref (b + 237), .ref (b + 238), .ref (b + 239), .ref (b + 240), .ref (b + 241), .ref (b + 242), .int (iI (0)), .ref (b + 243), .int (iI (0)), .ref (b + 244), .ref (b + 245), .ref (b + 246), .ref (b + 247), .ref (b + 248), .ref (b + 249), .ref (b + 250), .ref (b + 251), .ref (b + 252), .ref (b + 253)]) := (congrFun hu486 _).trans ((up_n (by omega)).trans ff466)
  have ff488 : u485 237 = lr ct 512 (fun _ => 0) := (congrFun hu486 _).trans ((up_n (by omega)).trans ff467)
  have ff489 : u485 238 = ir ct 4 (zu (zu (zu (fun _ => 0) (0) (32369)) (1) (29921)) (2) (28289)) := (congrFun hu486 _).trans up_s
  have ff490 : u485 239 = lr ct 4 (fun _ => 0) := (congrFun hu486 _).trans ((up_n (by omega)).trans ff469)
  have ff491 : u485 240 = lr ct 4 (fun _ => 0) := (congrFun hu486 _).trans ((up_n (by omega)).trans ff470)
  have ff492 : u485 241 = ir ct 8 (fun _ => 0) := (congrFun hu486 _).trans ((up_n (by omega)).trans ff471)
  have ff493 : u485 242 = ir ct 8 (fun _ => 0) := (congrFun hu486 _).trans ((up_n (by omega)).trans ff472)
  have ff494 : u485 243 = ir ct 8 (fun _ => 0) := (congrFun hu486 _).trans ((up_n (by omega)).trans ff473)
  have ff495 : u485 244 = ir ct 24 (fun _ => 0) := (congrFun hu486 _).trans ((up_n (by omega)).trans ff474)
  have ff496 : u485 245 = ir ct 24 (fun _ => 0) := (congrFun hu486 _).trans ((up_n (by omega)).trans ff475)
  have ff497 : u485 246 = ir ct 24 (fun _ => 0) := (congrFun hu486 _).trans ((up_n (by omega)).trans ff476)
  have ff498 : u485 247 = ir ct 192 (fun _ => 0) := (congrFun hu486 _).trans ((up_n (by omega)).trans ff477)
  have ff499 : u485 248 = zr ct 24 (fun _ => 0) := (congrFun hu486 _).trans ((up_n (by omega)).trans ff478)
  have ff500 : u485 249 = ir ct 24 (fun _ => 0) := (congrFun hu486 _).trans ((up_n (by omega)).trans ff479)
  have ff501 : u485 250 = lr ct 24 (fun _ => 0) := (congrFun hu486 _).trans ((up_n (by omega)).trans ff480)
  have ff502 : u485 251 = ir ct 2 (fun _ => 0) := (congrFun hu486 _).trans ((up_n (by omega)).trans ff481)
  have ff503 : u485 252 = lr ct 2 (fun _ => 0) := (congrFun hu486 _).trans ((up_n (by omega)).trans ff482)
  have ff504 : u485 253 = lr ct 8 (fun _ => 0) := (congrFun hu486 _).trans ((up_n (by omega)).trans ff483)
  have fr505 : ∀ j : Nat, (j < 236) → u485 j = u j := fun j h0 => (congrFun hu486 j).trans ((up_n (by omega)).trans (fr484 j h0))
  refine lv_aload_n hx hb d_M_init_164 rfl (lv_at hl 0 rfl) ?_
  refine w_get (C := "LevelledRingModel") (T := T_M) (M := 19) hx hb hts hinM hown hK hP (236) (by omega) ff487 rfl 1 (by decide) kk7 (fun _ h => h) rfl d_M_init_165 ?_
  refine lv_iconst (v := iI (3)) hx hb d_M_init_168 rfl ?_
  refine lv_sipush (v := iI (26113)) hx hb d_M_init_169 (by decide +kernel) ?_
  refine w_iast hx hb hK hP hS (238) (by omega) ff489 (by omega) (by omega) (by omega) d_M_init_172 (fun H locs hP hS => ?_)
  obtain ⟨u506, hu507, hP⟩ : ∃ zz : Nat → va_E, zz = va_up u485 238 (ir ct 4 (zu (zu (zu (zu (fun _ => 0) (0) (32369)) (1) (29921)) (2) (28289)) (3) (26113))) ∧ va_P D vwCl (wl 254 b zz) H := ⟨_, rfl, hP⟩
  have ff508 : u506 236 = .inr (6, [.ref (b + 237), .ref (b + 238), .ref (b + 239), .ref (b + 240), .ref (b + 241), .ref (b + 242), .int (iI (0)), .ref (b + 243), .int (iI (0)), .ref (b + 244), .ref (b + 245), .ref (b + 246), .ref (b + 247), .ref (b + 248), .ref (b + 249), .ref (b + 250), .ref (b + 251), .ref (b + 252), .ref (b + 253)]) := (congrFun hu507 _).trans ((up_n (by omega)).trans ff487)
  have ff509 : u506 237 = lr ct 512 (fun _ => 0) := (congrFun hu507 _).trans ((up_n (by omega)).trans ff488)
  have ff510 : u506 238 = ir ct 4 (zu (zu (zu (zu (fun _ => 0) (0) (32369)) (1) (29921)) (2) (28289)) (3) (26113)) := (congrFun hu507 _).trans up_s
  have ff511 : u506 239 = lr ct 4 (fun _ => 0) := (congrFun hu507 _).trans ((up_n (by omega)).trans ff490)
  have ff512 : u506 240 = lr ct 4 (fun _ => 0) := (congrFun hu507 _).trans ((up_n (by omega)).trans ff491)
  have ff513 : u506 241 = ir ct 8 (fun _ => 0) := (congrFun hu507 _).trans ((up_n (by omega)).trans ff492)
  have ff514 : u506 242 = ir ct 8 (fun _ => 0) := (congrFun hu507 _).trans ((up_n (by omega)).trans ff493)
  have ff515 : u506 243 = ir ct 8 (fun _ => 0) := (congrFun hu507 _).trans ((up_n (by omega)).trans ff494)
  have ff516 : u506 244 = ir ct 24 (fun _ => 0) := (congrFun hu507 _).trans ((up_n (by omega)).trans ff495)
  have ff517 : u506 245 = ir ct 24 (fun _ => 0) := (congrFun hu507 _).trans ((up_n (by omega)).trans ff496)
  have ff518 : u506 246 = ir ct 24 (fun _ => 0) := (congrFun hu507 _).trans ((up_n (by omega)).trans ff497)
  have ff519 : u506 247 = ir ct 192 (fun _ => 0) := (congrFun hu507 _).trans ((up_n (by omega)).trans ff498)
  have ff520 : u506 248 = zr ct 24 (fun _ => 0) := (congrFun hu507 _).trans ((up_n (by omega)).trans ff499)
  have ff521 : u506 249 = ir ct 24 (fun _ => 0) := (congrFun hu507 _).trans ((up_n (by omega)).trans ff500)
  have ff522 : u506 250 = lr ct 24 (fun _ => 0) := (congrFun hu507 _).trans ((up_n (by omega)).trans ff501)
  have ff523 : u506 251 = ir ct 2 (fun _ => 0) := (congrFun hu507 _).trans ((up_n (by omega)).trans ff502)
  have ff524 : u506 252 = lr ct 2 (fun _ => 0) := (congrFun hu507 _).trans ((up_n (by omega)).trans ff503)
  have ff525 : u506 253 = lr ct 8 (fun _ => 0) := (congrFun hu507 _).trans ((up_n (by omega)).trans ff504)
  have fr526 : ∀ j : Nat, (j < 236) → u506 j = u j := fun j h0 => (congrFun hu507 j).trans ((up_n (by omega)).trans (fr505 j h0))
  have hpr527 : u506 238 = ir ct 4 prR := ff510
  refine lv_lconst (v := lI 1) hx hb d_M_init_173 rfl ?_
  refine lv_lstore_n (lv' := [(2, .long (lI (1))), (0, .ref (b + 236)), (1, .int z0)]) hx hb d_M_init_174 rfl hl (by decide) rfl (fun ls hl => ?_)
  refine lv_iconst (v := iI (0)) hx hb d_M_init_175 rfl ?_
  refine lv_istore (lv' := [(4, .int (iI (0))), (2, .long (lI (1))), (0, .ref (b + 236)), (1, .int z0)]) hx hb d_M_init_176 hl (by decide) rfl (fun ls hl => ?_)
  refine lv_iload hx hb d_M_init_178 (lv_at hl 0 rfl) ?_
  refine lv_iconst (v := iI (4)) hx hb d_M_init_180 rfl ?_
  refine x_icmp_ge (tgt := 209) hx hb ⟨by omega, by omega⟩ ⟨by omega, by omega⟩ d_M_init_181 (by decide) (fun hc => by exfalso; omega) (fun hc => ?_)
  refine lv_lload_n hx hb d_M_init_184 rfl (lv_at hl 1 rfl) ?_
  refine lv_aload_n hx hb d_M_init_185 rfl (lv_at hl 2 rfl) ?_
  refine w_get (C := "LevelledRingModel") (T := T_M) (M := 19) hx hb hts hinM hown hK hP (236) (by omega) ff508 rfl 1 (by decide) kk7 (fun _ h => h) rfl d_M_init_186 ?_
  refine lv_iload hx hb d_M_init_189 (lv_at hl 0 rfl) ?_
  refine w_iald hx hb hK hP (238) (by omega) hpr527 (by omega) (by omega) (by omega) d_M_init_191 ?_
  refine x_ie (y := 32369) (by decide) ?_
  refine x_i2l hx hb ⟨by omega, by omega⟩ d_M_init_192 ?_
  refine x_lmul hx hb d_M_init_193 ?_
  refine x_le (y := 32369) (by decide) ?_
  refine lv_lstore_n (lv' := [(2, .long (lI (32369))), (4, .int (iI (0))), (0, .ref (b + 236)), (1, .int z0)]) hx hb d_M_init_194 rfl hl (by decide) rfl (fun ls hl => ?_)
  refine lv_aload_n hx hb d_M_init_195 rfl (lv_at hl 2 rfl) ?_
  refine w_get (C := "LevelledRingModel") (T := T_M) (M := 19) hx hb hts hinM hown hK hP (236) (by omega) ff508 rfl 2 (by decide) kk8 (fun _ h => h) rfl d_M_init_196 ?_
  refine lv_iload hx hb d_M_init_199 (lv_at hl 1 rfl) ?_
  refine lv_lload_n hx hb d_M_init_201 rfl (lv_at hl 0 rfl) ?_
  refine w_last hx hb hK hP hS (239) (by omega) ff511 (by omega) (by omega) (by omega) d_M_init_202 (fun H locs hP hS => ?_)
  obtain ⟨u528, hu529, hP⟩ : ∃ zz : Nat → va_E, zz = va_up u506 239 (lr ct 4 (zu (fun _ => 0) (0) (32369))) ∧ va_P D vwCl (wl 254 b zz) H := ⟨_, rfl, hP⟩
  have ff530 : u528 236 = .inr (6, [.ref (b + 237), .ref (b + 238), .ref (b + 239), .ref (b + 240), .ref (b + 241), .ref (b + 242), .int (iI (0)), .ref (b + 243), .int (iI (0)), .ref (b + 244), .ref (b + 245), .ref (b + 246), .ref (b + 247), .ref (b + 248), .ref (b + 249), .ref (b + 250), .ref (b + 251), .ref (b + 252), .ref (b + 253)]) := (congrFun hu529 _).trans ((up_n (by omega)).trans ff508)
  have ff531 : u528 237 = lr ct 512 (fun _ => 0) := (congrFun hu529 _).trans ((up_n (by omega)).trans ff509)
  have ff532 : u528 238 = ir ct 4 (prR) := (congrFun hu529 _).trans ((up_n (by omega)).trans hpr527)
  have ff533 : u528 239 = lr ct 4 (zu (fun _ => 0) (0) (32369)) := (congrFun hu529 _).trans up_s
  have ff534 : u528 240 = lr ct 4 (fun _ => 0) := (congrFun hu529 _).trans ((up_n (by omega)).trans ff512)
  have ff535 : u528 241 = ir ct 8 (fun _ => 0) := (congrFun hu529 _).trans ((up_n (by omega)).trans ff513)
  have ff536 : u528 242 = ir ct 8 (fun _ => 0) := (congrFun hu529 _).trans ((up_n (by omega)).trans ff514)
  have ff537 : u528 243 = ir ct 8 (fun _ => 0) := (congrFun hu529 _).trans ((up_n (by omega)).trans ff515)
  have ff538 : u528 244 = ir ct 24 (fun _ => 0) := (congrFun hu529 _).trans ((up_n (by omega)).trans ff516)
  have ff539 : u528 245 = ir ct 24 (fun _ => 0) := (congrFun hu529 _).trans ((up_n (by omega)).trans ff517)
  have ff540 : u528 246 = ir ct 24 (fun _ => 0) := (congrFun hu529 _).trans ((up_n (by omega)).trans ff518)
  have ff541 : u528 247 = ir ct 192 (fun _ => 0) := (congrFun hu529 _).trans ((up_n (by omega)).trans ff519)
  have ff542 : u528 248 = zr ct 24 (fun _ => 0) := (congrFun hu529 _).trans ((up_n (by omega)).trans ff520)
  have ff543 : u528 249 = ir ct 24 (fun _ => 0) := (congrFun hu529 _).trans ((up_n (by omega)).trans ff521)
  have ff544 : u528 250 = lr ct 24 (fun _ => 0) := (congrFun hu529 _).trans ((up_n (by omega)).trans ff522)
  have ff545 : u528 251 = ir ct 2 (fun _ => 0) := (congrFun hu529 _).trans ((up_n (by omega)).trans ff523)
  have ff546 : u528 252 = lr ct 2 (fun _ => 0) := (congrFun hu529 _).trans ((up_n (by omega)).trans ff524)
  have ff547 : u528 253 = lr ct 8 (fun _ => 0) := (congrFun hu529 _).trans ((up_n (by omega)).trans ff525)
  have fr548 : ∀ j : Nat, (j < 236) → u528 j = u j := fun j h0 => (congrFun hu529 j).trans ((up_n (by omega)).trans (fr526 j h0))
  refine lv_iinc (k := 1) (v := iI (0 + 1)) (lv' := [(4, .int (iI (0 + 1))), (2, .long (lI (32369))), (0, .ref (b + 236)), (1, .int z0)]) hx hb d_M_init_203 hl rfl (iI_add _ _) (by decide) rfl (fun ls hl => ?_)
  have hl : lv_has ls 10 [(4, .int (iI ((1 : Int)))), (2, .long (lI (32369))), (0, .ref (b + 236)), (1, .int z0)] := by rw [show (1 : Int) = 0 + 1 from by decide]; exact hl
  refine lv_goto (tgt := 178) hx hb d_M_init_206 (by decide) ?_
  refine lv_iload hx hb d_M_init_178 (lv_at hl 0 rfl) ?_
  refine lv_iconst (v := iI (4)) hx hb d_M_init_180 rfl ?_
  refine x_icmp_ge (tgt := 209) hx hb ⟨by omega, by omega⟩ ⟨by omega, by omega⟩ d_M_init_181 (by decide) (fun hc => by exfalso; omega) (fun hc => ?_)
  refine lv_lload_n hx hb d_M_init_184 rfl (lv_at hl 1 rfl) ?_
  refine lv_aload_n hx hb d_M_init_185 rfl (lv_at hl 2 rfl) ?_
  refine w_get (C := "LevelledRingModel") (T := T_M) (M := 19) hx hb hts hinM hown hK hP (236) (by omega) ff530 rfl 1 (by decide) kk7 (fun _ h => h) rfl d_M_init_186 ?_
  refine lv_iload hx hb d_M_init_189 (lv_at hl 0 rfl) ?_
  refine w_iald hx hb hK hP (238) (by omega) ff532 (by omega) (by omega) (by omega) d_M_init_191 ?_
  refine x_ie (y := 29921) (by decide) ?_
  refine x_i2l hx hb ⟨by omega, by omega⟩ d_M_init_192 ?_
  refine x_lmul hx hb d_M_init_193 ?_
  refine x_le (y := 968512849) (by decide) ?_
  refine lv_lstore_n (lv' := [(2, .long (lI (968512849))), (4, .int (iI ((1 : Int)))), (0, .ref (b + 236)), (1, .int z0)]) hx hb d_M_init_194 rfl hl (by decide) rfl (fun ls hl => ?_)
  refine lv_aload_n hx hb d_M_init_195 rfl (lv_at hl 2 rfl) ?_
  refine w_get (C := "LevelledRingModel") (T := T_M) (M := 19) hx hb hts hinM hown hK hP (236) (by omega) ff530 rfl 2 (by decide) kk8 (fun _ h => h) rfl d_M_init_196 ?_
  refine lv_iload hx hb d_M_init_199 (lv_at hl 1 rfl) ?_
  refine lv_lload_n hx hb d_M_init_201 rfl (lv_at hl 0 rfl) ?_
  refine w_last hx hb hK hP hS (239) (by omega) ff533 (by omega) (by omega) (by omega) d_M_init_202 (fun H locs hP hS => ?_)
  obtain ⟨u549, hu550, hP⟩ : ∃ zz : Nat → va_E, zz = va_up u528 239 (lr ct 4 (zu (zu (fun _ => 0) (0) (32369)) ((1 : Int)) (968512849))) ∧ va_P D vwCl (wl 254 b zz) H := ⟨_, rfl, hP⟩
  have ff551 : u549 236 = .inr (6, [.ref (b + 237), .ref (b + 238), .ref (b + 239), .ref (b + 240), .ref (b + 241), .ref (b + 242), .int (iI (0)), .ref (b + 243), .int (iI (0)), .ref (b + 244), .ref (b + 245), .ref (b + 246), .ref (b + 247), .ref (b + 248), .ref (b + 249), .ref (b + 250), .ref (b + 251), .ref (b + 252), .ref (b + 253)]) := (congrFun hu550 _).trans ((up_n (by omega)).trans ff530)
  have ff552 : u549 237 = lr ct 512 (fun _ => 0) := (congrFun hu550 _).trans ((up_n (by omega)).trans ff531)
  have ff553 : u549 238 = ir ct 4 (prR) := (congrFun hu550 _).trans ((up_n (by omega)).trans ff532)
  have ff554 : u549 239 = lr ct 4 (zu (zu (fun _ => 0) (0) (32369)) ((1 : Int)) (968512849)) := (congrFun hu550 _).trans up_s
  have ff555 : u549 240 = lr ct 4 (fun _ => 0) := (congrFun hu550 _).trans ((up_n (by omega)).trans ff534)
  have ff556 : u549 241 = ir ct 8 (fun _ => 0) := (congrFun hu550 _).trans ((up_n (by omega)).trans ff535)
  have ff557 : u549 242 = ir ct 8 (fun _ => 0) := (congrFun hu550 _).trans ((up_n (by omega)).trans ff536)
  have ff558 : u549 243 = ir ct 8 (fun _ => 0) := (congrFun hu550 _).trans ((up_n (by omega)).trans ff537)
  have ff559 : u549 244 = ir ct 24 (fun _ => 0) := (congrFun hu550 _).trans ((up_n (by omega)).trans ff538)
  have ff560 : u549 245 = ir ct 24 (fun _ => 0) := (congrFun hu550 _).trans ((up_n (by omega)).trans ff539)
  have ff561 : u549 246 = ir ct 24 (fun _ => 0) := (congrFun hu550 _).trans ((up_n (by omega)).trans ff540)
  have ff562 : u549 247 = ir ct 192 (fun _ => 0) := (congrFun hu550 _).trans ((up_n (by omega)).trans ff541)
  have ff563 : u549 248 = zr ct 24 (fun _ => 0) := (congrFun hu550 _).trans ((up_n (by omega)).trans ff542)
  have ff564 : u549 249 = ir ct 24 (fun _ => 0) := (congrFun hu550 _).trans ((up_n (by omega)).trans ff543)
  have ff565 : u549 250 = lr ct 24 (fun _ => 0) := (congrFun hu550 _).trans ((up_n (by omega)).trans ff544)
  have ff566 : u549 251 = ir ct 2 (fun _ => 0) := (congrFun hu550 _).trans ((up_n (by omega)).trans ff545)
  have ff567 : u549 252 = lr ct 2 (fun _ => 0) := (congrFun hu550 _).trans ((up_n (by omega)).trans ff546)
  have ff568 : u549 253 = lr ct 8 (fun _ => 0) := (congrFun hu550 _).trans ((up_n (by omega)).trans ff547)
  have fr569 : ∀ j : Nat, (j < 236) → u549 j = u j := fun j h0 => (congrFun hu550 j).trans ((up_n (by omega)).trans (fr548 j h0))
  refine lv_iinc (k := 1) (v := iI ((1 : Int) + 1)) (lv' := [(4, .int (iI ((1 : Int) + 1))), (2, .long (lI (968512849))), (0, .ref (b + 236)), (1, .int z0)]) hx hb d_M_init_203 hl rfl (iI_add _ _) (by decide) rfl (fun ls hl => ?_)
  have hl : lv_has ls 10 [(4, .int (iI ((2 : Int)))), (2, .long (lI (968512849))), (0, .ref (b + 236)), (1, .int z0)] := by rw [show (2 : Int) = (1 : Int) + 1 from by decide]; exact hl
  refine lv_goto (tgt := 178) hx hb d_M_init_206 (by decide) ?_
  refine lv_iload hx hb d_M_init_178 (lv_at hl 0 rfl) ?_
  refine lv_iconst (v := iI (4)) hx hb d_M_init_180 rfl ?_
  refine x_icmp_ge (tgt := 209) hx hb ⟨by omega, by omega⟩ ⟨by omega, by omega⟩ d_M_init_181 (by decide) (fun hc => by exfalso; omega) (fun hc => ?_)
  refine lv_lload_n hx hb d_M_init_184 rfl (lv_at hl 1 rfl) ?_
  refine lv_aload_n hx hb d_M_init_185 rfl (lv_at hl 2 rfl) ?_
  refine w_get (C := "LevelledRingModel") (T := T_M) (M := 19) hx hb hts hinM hown hK hP (236) (by omega) ff551 rfl 1 (by decide) kk7 (fun _ h => h) rfl d_M_init_186 ?_
  refine lv_iload hx hb d_M_init_189 (lv_at hl 0 rfl) ?_
  refine w_iald hx hb hK hP (238) (by omega) ff553 (by omega) (by omega) (by omega) d_M_init_191 ?_
  refine x_ie (y := 28289) (by decide) ?_
  refine x_i2l hx hb ⟨by omega, by omega⟩ d_M_init_192 ?_
  refine x_lmul hx hb d_M_init_193 ?_
  refine x_le (y := 27398259985361) (by decide) ?_
  refine lv_lstore_n (lv' := [(2, .long (lI (27398259985361))), (4, .int (iI ((2 : Int)))), (0, .ref (b + 236)), (1, .int z0)]) hx hb d_M_init_194 rfl hl (by decide) rfl (fun ls hl => ?_)
  refine lv_aload_n hx hb d_M_init_195 rfl (lv_at hl 2 rfl) ?_
  refine w_get (C := "LevelledRingModel") (T := T_M) (M := 19) hx hb hts hinM hown hK hP (236) (by omega) ff551 rfl 2 (by decide) kk8 (fun _ h => h) rfl d_M_init_196 ?_
  refine lv_iload hx hb d_M_init_199 (lv_at hl 1 rfl) ?_
  refine lv_lload_n hx hb d_M_init_201 rfl (lv_at hl 0 rfl) ?_
  refine w_last hx hb hK hP hS (239) (by omega) ff554 (by omega) (by omega) (by omega) d_M_init_202 (fun H locs hP hS => ?_)
  obtain ⟨u570, hu571, hP⟩ : ∃ zz : Nat → va_E, zz = va_up u549 239 (lr ct 4 (zu (zu (zu (fun _ => 0) (0) (32369)) ((1 : Int)) (968512849)) ((2 : Int)) (27398259985361))) ∧ va_P D vwCl (wl 254 b zz) H := ⟨_, rfl, hP⟩
  have ff572 : u570 236 = .inr (6, [.ref (b + 237), .ref (b + 238), .ref (b + 239), .ref (b + 240), .ref (b + 241), .ref (b + 242), .int (iI (0)), .ref (b + 243), .int (iI (0)), .ref (b + 244), .ref (b + 245), .ref (b + 246), .ref (b + 247), .ref (b + 248), .ref (b + 249), .ref (b + 250), .ref (b + 251), .ref (b + 252), .ref (b + 253)]) := (congrFun hu571 _).trans ((up_n (by omega)).trans ff551)
  have ff573 : u570 237 = lr ct 512 (fun _ => 0) := (congrFun hu571 _).trans ((up_n (by omega)).trans ff552)
  have ff574 : u570 238 = ir ct 4 (prR) := (congrFun hu571 _).trans ((up_n (by omega)).trans ff553)
  have ff575 : u570 239 = lr ct 4 (zu (zu (zu (fun _ => 0) (0) (32369)) ((1 : Int)) (968512849)) ((2 : Int)) (27398259985361)) := (congrFun hu571 _).trans up_s
  have ff576 : u570 240 = lr ct 4 (fun _ => 0) := (congrFun hu571 _).trans ((up_n (by omega)).trans ff555)
  have ff577 : u570 241 = ir ct 8 (fun _ => 0) := (congrFun hu571 _).trans ((up_n (by omega)).trans ff556)
  have ff578 : u570 242 = ir ct 8 (fun _ => 0) := (congrFun hu571 _).trans ((up_n (by omega)).trans ff557)
  have ff579 : u570 243 = ir ct 8 (fun _ => 0) := (congrFun hu571 _).trans ((up_n (by omega)).trans ff558)
  have ff580 : u570 244 = ir ct 24 (fun _ => 0) := (congrFun hu571 _).trans ((up_n (by omega)).trans ff559)
  have ff581 : u570 245 = ir ct 24 (fun _ => 0) := (congrFun hu571 _).trans ((up_n (by omega)).trans ff560)
  have ff582 : u570 246 = ir ct 24 (fun _ => 0) := (congrFun hu571 _).trans ((up_n (by omega)).trans ff561)
  have ff583 : u570 247 = ir ct 192 (fun _ => 0) := (congrFun hu571 _).trans ((up_n (by omega)).trans ff562)
  have ff584 : u570 248 = zr ct 24 (fun _ => 0) := (congrFun hu571 _).trans ((up_n (by omega)).trans ff563)
  have ff585 : u570 249 = ir ct 24 (fun _ => 0) := (congrFun hu571 _).trans ((up_n (by omega)).trans ff564)
  have ff586 : u570 250 = lr ct 24 (fun _ => 0) := (congrFun hu571 _).trans ((up_n (by omega)).trans ff565)
  have ff587 : u570 251 = ir ct 2 (fun _ => 0) := (congrFun hu571 _).trans ((up_n (by omega)).trans ff566)
  have ff588 : u570 252 = lr ct 2 (fun _ => 0) := (congrFun hu571 _).trans ((up_n (by omega)).trans ff567)
  have ff589 : u570 253 = lr ct 8 (fun _ => 0) := (congrFun hu571 _).trans ((up_n (by omega)).trans ff568)
  have fr590 : ∀ j : Nat, (j < 236) → u570 j = u j := fun j h0 => (congrFun hu571 j).trans ((up_n (by omega)).trans (fr569 j h0))
  refine lv_iinc (k := 1) (v := iI ((2 : Int) + 1)) (lv' := [(4, .int (iI ((2 : Int) + 1))), (2, .long (lI (27398259985361))), (0, .ref (b + 236)), (1, .int z0)]) hx hb d_M_init_203 hl rfl (iI_add _ _) (by decide) rfl (fun ls hl => ?_)
  have hl : lv_has ls 10 [(4, .int (iI ((3 : Int)))), (2, .long (lI (27398259985361))), (0, .ref (b + 236)), (1, .int z0)] := by rw [show (3 : Int) = (2 : Int) + 1 from by decide]; exact hl
  refine lv_goto (tgt := 178) hx hb d_M_init_206 (by decide) ?_
  refine lv_iload hx hb d_M_init_178 (lv_at hl 0 rfl) ?_
  refine lv_iconst (v := iI (4)) hx hb d_M_init_180 rfl ?_
  refine x_icmp_ge (tgt := 209) hx hb ⟨by omega, by omega⟩ ⟨by omega, by omega⟩ d_M_init_181 (by decide) (fun hc => by exfalso; omega) (fun hc => ?_)
  refine lv_lload_n hx hb d_M_init_184 rfl (lv_at hl 1 rfl) ?_
  refine lv_aload_n hx hb d_M_init_185 rfl (lv_at hl 2 rfl) ?_
  refine w_get (C := "LevelledRingModel") (T := T_M) (M := 19) hx hb hts hinM hown hK hP (236) (by omega) ff572 rfl 1 (by decide) kk7 (fun _ h => h) rfl d_M_init_186 ?_
  refine lv_iload hx hb d_M_init_189 (lv_at hl 0 rfl) ?_
  refine w_iald hx hb hK hP (238) (by omega) ff574 (by omega) (by omega) (by omega) d_M_init_191 ?_
  refine x_ie (y := 26113) (by decide) ?_
  refine x_i2l hx hb ⟨by omega, by omega⟩ d_M_init_192 ?_
  refine x_lmul hx hb d_M_init_193 ?_
  refine x_le (y := 715450762997731793) (by decide) ?_
  refine lv_lstore_n (lv' := [(2, .long (lI (715450762997731793))), (4, .int (iI ((3 : Int)))), (0, .ref (b + 236)), (1, .int z0)]) hx hb d_M_init_194 rfl hl (by decide) rfl (fun ls hl => ?_)
  refine lv_aload_n hx hb d_M_init_195 rfl (lv_at hl 2 rfl) ?_
  refine w_get (C := "LevelledRingModel") (T := T_M) (M := 19) hx hb hts hinM hown hK hP (236) (by omega) ff572 rfl 2 (by decide) kk8 (fun _ h => h) rfl d_M_init_196 ?_
  refine lv_iload hx hb d_M_init_199 (lv_at hl 1 rfl) ?_
  refine lv_lload_n hx hb d_M_init_201 rfl (lv_at hl 0 rfl) ?_
  refine w_last hx hb hK hP hS (239) (by omega) ff575 (by omega) (by omega) (by omega) d_M_init_202 (fun H locs hP hS => ?_)
  obtain ⟨u591, hu592, hP⟩ : ∃ zz : Nat → va_E, zz = va_up u570 239 (lr ct 4 (zu (zu (zu (zu (fun _ => 0) (0) (32369)) ((1 : Int)) (968512849)) ((2 : Int)) (27398259985361)) ((3 : Int)) (715450762997731793))) ∧ va_P D vwCl (wl 254 b zz) H := ⟨_, rfl, hP⟩
  have ff593 : u591 236 = .inr (6, [.ref (b + 237), .ref (b + 238), .ref (b + 239), .ref (b + 240), .ref (b + 241), .ref (b + 242), .int (iI (0)), .ref (b + 243), .int (iI (0)), .ref (b + 244), .ref (b + 245), .ref (b + 246), .ref (b + 247), .ref (b + 248), .ref (b + 249), .ref (b + 250), .ref (b + 251), .ref (b + 252), .ref (b + 253)]) := (congrFun hu592 _).trans ((up_n (by omega)).trans ff572)
  have ff594 : u591 237 = lr ct 512 (fun _ => 0) := (congrFun hu592 _).trans ((up_n (by omega)).trans ff573)
  have ff595 : u591 238 = ir ct 4 (prR) := (congrFun hu592 _).trans ((up_n (by omega)).trans ff574)
  have ff596 : u591 239 = lr ct 4 (zu (zu (zu (zu (fun _ => 0) (0) (32369)) ((1 : Int)) (968512849)) ((2 : Int)) (27398259985361)) ((3 : Int)) (715450762997731793)) := (congrFun hu592 _).trans up_s
  have ff597 : u591 240 = lr ct 4 (fun _ => 0) := (congrFun hu592 _).trans ((up_n (by omega)).trans ff576)
  have ff598 : u591 241 = ir ct 8 (fun _ => 0) := (congrFun hu592 _).trans ((up_n (by omega)).trans ff577)
  have ff599 : u591 242 = ir ct 8 (fun _ => 0) := (congrFun hu592 _).trans ((up_n (by omega)).trans ff578)
  have ff600 : u591 243 = ir ct 8 (fun _ => 0) := (congrFun hu592 _).trans ((up_n (by omega)).trans ff579)
  have ff601 : u591 244 = ir ct 24 (fun _ => 0) := (congrFun hu592 _).trans ((up_n (by omega)).trans ff580)
  have ff602 : u591 245 = ir ct 24 (fun _ => 0) := (congrFun hu592 _).trans ((up_n (by omega)).trans ff581)
  have ff603 : u591 246 = ir ct 24 (fun _ => 0) := (congrFun hu592 _).trans ((up_n (by omega)).trans ff582)
  have ff604 : u591 247 = ir ct 192 (fun _ => 0) := (congrFun hu592 _).trans ((up_n (by omega)).trans ff583)
  have ff605 : u591 248 = zr ct 24 (fun _ => 0) := (congrFun hu592 _).trans ((up_n (by omega)).trans ff584)
  have ff606 : u591 249 = ir ct 24 (fun _ => 0) := (congrFun hu592 _).trans ((up_n (by omega)).trans ff585)
  have ff607 : u591 250 = lr ct 24 (fun _ => 0) := (congrFun hu592 _).trans ((up_n (by omega)).trans ff586)
  have ff608 : u591 251 = ir ct 2 (fun _ => 0) := (congrFun hu592 _).trans ((up_n (by omega)).trans ff587)
  have ff609 : u591 252 = lr ct 2 (fun _ => 0) := (congrFun hu592 _).trans ((up_n (by omega)).trans ff588)
  have ff610 : u591 253 = lr ct 8 (fun _ => 0) := (congrFun hu592 _).trans ((up_n (by omega)).trans ff589)
  have fr611 : ∀ j : Nat, (j < 236) → u591 j = u j := fun j h0 => (congrFun hu592 j).trans ((up_n (by omega)).trans (fr590 j h0))
  refine lv_iinc (k := 1) (v := iI ((3 : Int) + 1)) (lv' := [(4, .int (iI ((3 : Int) + 1))), (2, .long (lI (715450762997731793))), (0, .ref (b + 236)), (1, .int z0)]) hx hb d_M_init_203 hl rfl (iI_add _ _) (by decide) rfl (fun ls hl => ?_)
  have hl : lv_has ls 10 [(4, .int (iI ((4 : Int)))), (2, .long (lI (715450762997731793))), (0, .ref (b + 236)), (1, .int z0)] := by rw [show (4 : Int) = (3 : Int) + 1 from by decide]; exact hl
  refine lv_goto (tgt := 178) hx hb d_M_init_206 (by decide) ?_
  refine lv_iload hx hb d_M_init_178 (lv_at hl 0 rfl) ?_
  refine lv_iconst (v := iI (4)) hx hb d_M_init_180 rfl ?_
  refine x_icmp_ge (tgt := 209) hx hb ⟨by omega, by omega⟩ ⟨by omega, by omega⟩ d_M_init_181 (by decide) (fun hc => ?_) (fun hc => by exfalso; omega)
  have hbg612 : u591 239 = lr ct 4 bgR := ff596
  refine lv_iconst (v := iI (0)) hx hb d_M_init_209 rfl ?_
  refine lv_istore (lv' := [(4, .int (iI (0))), (2, .long (lI (715450762997731793))), (0, .ref (b + 236)), (1, .int z0)]) hx hb d_M_init_210 hl (by decide) rfl (fun ls hl => ?_)
  refine lv_iload hx hb d_M_init_212 (lv_at hl 0 rfl) ?_
  refine lv_iconst (v := iI (4)) hx hb d_M_init_214 rfl ?_
  refine x_icmp_ge (tgt := 288) hx hb ⟨by omega, by omega⟩ ⟨by omega, by omega⟩ d_M_init_215 (by decide) (fun hc => by exfalso; omega) (fun hc => ?_)
  refine lv_lload_n hx hb d_M_init_218 rfl (lv_at hl 1 rfl) ?_
  refine lv_aload_n hx hb d_M_init_219 rfl (lv_at hl 2 rfl) ?_
  refine w_get (C := "LevelledRingModel") (T := T_M) (M := 19) hx hb hts hinM hown hK hP (236) (by omega) ff593 rfl 1 (by decide) kk7 (fun _ h => h) rfl d_M_init_220 ?_
  refine lv_iload hx hb d_M_init_223 (lv_at hl 0 rfl) ?_
  refine w_iald hx hb hK hP (238) (by omega) ff595 (by omega) (by omega) (by omega) d_M_init_225 ?_
  refine x_ie (y := 32369) (by decide) ?_
  refine x_i2l hx hb ⟨by omega, by omega⟩ d_M_init_226 ?_
  refine x_ldivP hx hb ⟨by omega, by omega⟩ ⟨by omega, by omega⟩ (by omega) (by omega) d_M_init_227 ?_
  refine x_le (y := 22102961568097) (by decide) ?_
  refine lv_lstore (lv' := [(5, .long (lI (22102961568097))), (4, .int (iI (0))), (2, .long (lI (715450762997731793))), (0, .ref (b + 236)), (1, .int z0)]) hx hb d_M_init_228 hl (by decide) rfl (fun ls hl => ?_)
  refine lv_lload hx hb d_M_init_230 (lv_at hl 0 rfl) ?_
  refine lv_lstore (lv' := [(7, .long (lI (22102961568097))), (5, .long (lI (22102961568097))), (4, .int (iI (0))), (2, .long (lI (715450762997731793))), (0, .ref (b + 236)), (1, .int z0)]) hx hb d_M_init_232 hl (by decide) rfl (fun ls hl => ?_)
  refine lv_iconst (v := iI (0)) hx hb d_M_init_234 rfl ?_
  refine lv_istore (lv' := [(9, .int (iI (0))), (7, .long (lI (22102961568097))), (5, .long (lI (22102961568097))), (4, .int (iI (0))), (2, .long (lI (715450762997731793))), (0, .ref (b + 236)), (1, .int z0)]) hx hb d_M_init_235 hl (by decide) rfl (fun ls hl => ?_)
  have hl : lv_has ls 10 [(9, .int (iI (0))), (7, .long (lI ((22102961568097 : Int) * (0 + 1)))), (5, .long (lI (22102961568097))), (4, .int (iI (0))), (2, .long (lI (715450762997731793))), (0, .ref (b + 236)), (1, .int z0)] := by rw [show (22102961568097 : Int) * (0 + 1) = 22102961568097 from by decide]; exact hl
  have hl : lv_has ls 10 [(9, .int (iI (0))), (7, .long (lI ((22102961568097 : Int) * (0 + 1)))), (5, .long (lI (22102961568097))), (4, .int (iI (0))), (2, .long (lI (715450762997731793))), (0, .ref (b + 236)), (1, .int z0)] := lv_sub hl [0, 1, 2, 3, 4, 5, 6] rfl
  have lu0 : ∀ (d0 : Nat) (k : Int) (H : Heap) (locs : List Loc) (ls : Array Slot), (0 ≤ k) → (k ≤ 28991) → (28991 - k < d0) → va_P D vwCl (wl 254 b u591) H → va_S (AA b) s.heap H locs → lv_has ls 10 [(9, .int (iI (k))), (7, .long (lI (22102961568097 * (k + 1)))), (5, .long (lI (22102961568097))), (4, .int (iI (0))), (2, .long (lI (715450762997731793))), (0, .ref (b + 236)), (1, .int z0)] → W p l e rm_c_M_init s m args below meth c H locs 17 896 Q (F0 m 237 ls []) := by
    intro d0
    induction d0 with
    | zero => intro k H locs ls h0 h1 hd hP hS hl; exfalso; omega
    | succ d0 ihlu0 =>
      intro k H locs ls h0 h1 hd hP hS hl
      have hiv := inv_0 h0 h1
      refine lv_iload hx hb d_M_init_237 (lv_at hl 0 rfl) ?_
      refine lv_ldc hx hb hown kk24 d_M_init_239 ?_
      refine x_i (y := iI (40000)) (by decide +kernel) ?_
      refine x_icmp_ge (tgt := 273) hx hb ⟨by omega, by omega⟩ ⟨by omega, by omega⟩ d_M_init_241 (by decide) (fun hc => by exfalso; omega) (fun hc => ?_)
      refine lv_lload hx hb d_M_init_244 (lv_at hl 1 rfl) ?_
      refine lv_aload_n hx hb d_M_init_246 rfl (lv_at hl 5 rfl) ?_
      refine w_get (C := "LevelledRingModel") (T := T_M) (M := 19) hx hb hts hinM hown hK hP (236) (by omega) ff593 rfl 1 (by decide) kk7 (fun _ h => h) rfl d_M_init_247 ?_
      refine lv_iload hx hb d_M_init_250 (lv_at hl 3 rfl) ?_
      refine w_iald hx hb hK hP (238) (by omega) ff595 (by omega) (by omega) (by omega) d_M_init_252 ?_
      refine x_ie (y := 32369) (by decide) ?_
      refine x_i2l hx hb ⟨by omega, by omega⟩ d_M_init_253 ?_
      refine x_lremP hx hb ⟨by omega, by omega⟩ ⟨by omega, by omega⟩ (by omega) (by omega) d_M_init_254 ?_
      refine lv_lconst (v := lI 1) hx hb d_M_init_255 rfl ?_
      have hmb := mod_b (22102961568097 * (k + 1)) (show (0 : Int) < 32369 by decide)
      refine x_lcmp hx hb ⟨by omega, by omega⟩ ⟨by omega, by omega⟩ d_M_init_256 ?_
      refine x_if_eq (tgt := 273) hx hb (cmpz_r _ _) d_M_init_257 (by decide) (fun hc => ?_) (fun hc => ?_)
      · have hc := cmpz_eq.mp hc
        obtain rfl : k = 28991 := hiv.mp hc
        have hl : lv_has ls 10 [(9, .int (iI ((28991 : Int)))), (7, .long (lI ((640809061782268224 : Int)))), (5, .long (lI (22102961568097))), (4, .int (iI (0))), (2, .long (lI (715450762997731793))), (0, .ref (b + 236)), (1, .int z0)] := by rw [show (640809061782268224 : Int) = 22102961568097 * ((28991 : Int) + 1) from by decide]; exact hl
        refine lv_aload_n hx hb d_M_init_273 rfl (lv_at hl 5 rfl) ?_
        refine w_get (C := "LevelledRingModel") (T := T_M) (M := 19) hx hb hts hinM hown hK hP (236) (by omega) ff593 rfl 3 (by decide) kk9 (fun _ h => h) rfl d_M_init_274 ?_
        refine lv_iload hx hb d_M_init_277 (lv_at hl 3 rfl) ?_
        refine lv_lload hx hb d_M_init_279 (lv_at hl 1 rfl) ?_
        refine w_last hx hb hK hP hS (240) (by omega) ff597 (by omega) (by omega) (by omega) d_M_init_281 (fun H locs hP hS => ?_)
        obtain ⟨u613, hu614, hP⟩ : ∃ zz : Nat → va_E, zz = va_up u591 240 (lr ct 4 (zu (fun _ => 0) (0) ((640809061782268224 : Int)))) ∧ va_P D vwCl (wl 254 b zz) H := ⟨_, rfl, hP⟩
        have ff615 : u613 236 = .inr (6, [.ref (b + 237), .ref (b + 238), .ref (b + 239), .ref (b + 240), .ref (b + 241), .ref (b + 242), .int (iI (0)), .ref (b + 243), .int (iI (0)), .ref (b + 244), .ref (b + 245), .ref (b + 246), .ref (b + 247), .ref (b + 248), .ref (b + 249), .ref (b + 250), .ref (b + 251), .ref (b + 252), .ref (b + 253)]) := (congrFun hu614 _).trans ((up_n (by omega)).trans ff593)
        have ff616 : u613 237 = lr ct 512 (fun _ => 0) := (congrFun hu614 _).trans ((up_n (by omega)).trans ff594)
        have ff617 : u613 238 = ir ct 4 (prR) := (congrFun hu614 _).trans ((up_n (by omega)).trans ff595)
        have ff618 : u613 239 = lr ct 4 (bgR) := (congrFun hu614 _).trans ((up_n (by omega)).trans hbg612)
        have ff619 : u613 240 = lr ct 4 (zu (fun _ => 0) (0) ((640809061782268224 : Int))) := (congrFun hu614 _).trans up_s
        have ff620 : u613 241 = ir ct 8 (fun _ => 0) := (congrFun hu614 _).trans ((up_n (by omega)).trans ff598)
        have ff621 : u613 242 = ir ct 8 (fun _ => 0) := (congrFun hu614 _).trans ((up_n (by omega)).trans ff599)
        have ff622 : u613 243 = ir ct 8 (fun _ => 0) := (congrFun hu614 _).trans ((up_n (by omega)).trans ff600)
        have ff623 : u613 244 = ir ct 24 (fun _ => 0) := (congrFun hu614 _).trans ((up_n (by omega)).trans ff601)
        have ff624 : u613 245 = ir ct 24 (fun _ => 0) := (congrFun hu614 _).trans ((up_n (by omega)).trans ff602)
        have ff625 : u613 246 = ir ct 24 (fun _ => 0) := (congrFun hu614 _).trans ((up_n (by omega)).trans ff603)
        have ff626 : u613 247 = ir ct 192 (fun _ => 0) := (congrFun hu614 _).trans ((up_n (by omega)).trans ff604)
        have ff627 : u613 248 = zr ct 24 (fun _ => 0) := (congrFun hu614 _).trans ((up_n (by omega)).trans ff605)
        have ff628 : u613 249 = ir ct 24 (fun _ => 0) := (congrFun hu614 _).trans ((up_n (by omega)).trans ff606)
        have ff629 : u613 250 = lr ct 24 (fun _ => 0) := (congrFun hu614 _).trans ((up_n (by omega)).trans ff607)
        have ff630 : u613 251 = ir ct 2 (fun _ => 0) := (congrFun hu614 _).trans ((up_n (by omega)).trans ff608)
        have ff631 : u613 252 = lr ct 2 (fun _ => 0) := (congrFun hu614 _).trans ((up_n (by omega)).trans ff609)
        have ff632 : u613 253 = lr ct 8 (fun _ => 0) := (congrFun hu614 _).trans ((up_n (by omega)).trans ff610)
        have fr633 : ∀ j : Nat, (j < 236) → u613 j = u j := fun j h0 => (congrFun hu614 j).trans ((up_n (by omega)).trans (fr611 j h0))
        refine lv_iinc (k := 3) (v := iI (0 + 1)) (lv' := [(4, .int (iI (0 + 1))), (9, .int (iI ((28991 : Int)))), (7, .long (lI ((640809061782268224 : Int)))), (5, .long (lI (22102961568097))), (2, .long (lI (715450762997731793))), (0, .ref (b + 236)), (1, .int z0)]) hx hb d_M_init_282 hl rfl (iI_add _ _) (by decide) rfl (fun ls hl => ?_)
        have hl : lv_has ls 10 [(4, .int (iI ((1 : Int)))), (9, .int (iI ((28991 : Int)))), (7, .long (lI ((640809061782268224 : Int)))), (5, .long (lI (22102961568097))), (2, .long (lI (715450762997731793))), (0, .ref (b + 236)), (1, .int z0)] := by rw [show (1 : Int) = 0 + 1 from by decide]; exact hl
        refine lv_goto (tgt := 212) hx hb d_M_init_285 (by decide) ?_
        refine lv_iload hx hb d_M_init_212 (lv_at hl 0 rfl) ?_
        refine lv_iconst (v := iI (4)) hx hb d_M_init_214 rfl ?_
        refine x_icmp_ge (tgt := 288) hx hb ⟨by omega, by omega⟩ ⟨by omega, by omega⟩ d_M_init_215 (by decide) (fun hc => by exfalso; omega) (fun hc => ?_)
        refine lv_lload_n hx hb d_M_init_218 rfl (lv_at hl 4 rfl) ?_
        refine lv_aload_n hx hb d_M_init_219 rfl (lv_at hl 5 rfl) ?_
        refine w_get (C := "LevelledRingModel") (T := T_M) (M := 19) hx hb hts hinM hown hK hP (236) (by omega) ff615 rfl 1 (by decide) kk7 (fun _ h => h) rfl d_M_init_220 ?_
        refine lv_iload hx hb d_M_init_223 (lv_at hl 0 rfl) ?_
        refine w_iald hx hb hK hP (238) (by omega) ff617 (by omega) (by omega) (by omega) d_M_init_225 ?_
        refine x_ie (y := 29921) (by decide) ?_
        refine x_i2l hx hb ⟨by omega, by omega⟩ d_M_init_226 ?_
        refine x_ldivP hx hb ⟨by omega, by omega⟩ ⟨by omega, by omega⟩ (by omega) (by omega) d_M_init_227 ?_
        refine x_le (y := 23911325256433) (by decide) ?_
        refine lv_lstore (lv' := [(5, .long (lI (23911325256433))), (4, .int (iI ((1 : Int)))), (9, .int (iI ((28991 : Int)))), (7, .long (lI ((640809061782268224 : Int)))), (2, .long (lI (715450762997731793))), (0, .ref (b + 236)), (1, .int z0)]) hx hb d_M_init_228 hl (by decide) rfl (fun ls hl => ?_)
        refine lv_lload hx hb d_M_init_230 (lv_at hl 0 rfl) ?_
        refine lv_lstore (lv' := [(7, .long (lI (23911325256433))), (5, .long (lI (23911325256433))), (4, .int (iI ((1 : Int)))), (9, .int (iI ((28991 : Int)))), (2, .long (lI (715450762997731793))), (0, .ref (b + 236)), (1, .int z0)]) hx hb d_M_init_232 hl (by decide) rfl (fun ls hl => ?_)
        refine lv_iconst (v := iI (0)) hx hb d_M_init_234 rfl ?_
        refine lv_istore (lv' := [(9, .int (iI (0))), (7, .long (lI (23911325256433))), (5, .long (lI (23911325256433))), (4, .int (iI ((1 : Int)))), (2, .long (lI (715450762997731793))), (0, .ref (b + 236)), (1, .int z0)]) hx hb d_M_init_235 hl (by decide) rfl (fun ls hl => ?_)
        have hl : lv_has ls 10 [(9, .int (iI (0))), (7, .long (lI ((23911325256433 : Int) * (0 + 1)))), (5, .long (lI (23911325256433))), (4, .int (iI ((1 : Int)))), (2, .long (lI (715450762997731793))), (0, .ref (b + 236)), (1, .int z0)] := by rw [show (23911325256433 : Int) * (0 + 1) = 23911325256433 from by decide]; exact hl
        have hl : lv_has ls 10 [(9, .int (iI (0))), (7, .long (lI ((23911325256433 : Int) * (0 + 1)))), (5, .long (lI (23911325256433))), (4, .int (iI ((1 : Int)))), (2, .long (lI (715450762997731793))), (0, .ref (b + 236)), (1, .int z0)] := lv_sub hl [0, 1, 2, 3, 4, 5, 6] rfl
        have lu1 : ∀ (d1 : Nat) (k : Int) (H : Heap) (locs : List Loc) (ls : Array Slot), (0 ≤ k) → (k ≤ 18819) → (18819 - k < d1) → va_P D vwCl (wl 254 b u613) H → va_S (AA b) s.heap H locs → lv_has ls 10 [(9, .int (iI (k))), (7, .long (lI (23911325256433 * (k + 1)))), (5, .long (lI (23911325256433))), (4, .int (iI ((1 : Int)))), (2, .long (lI (715450762997731793))), (0, .ref (b + 236)), (1, .int z0)] → W p l e rm_c_M_init s m args below meth c H locs 17 896 Q (F0 m 237 ls []) := by
          intro d1
          induction d1 with
          | zero => intro k H locs ls h0 h1 hd hP hS hl; exfalso; omega
          | succ d1 ihlu1 =>
            intro k H locs ls h0 h1 hd hP hS hl
            have hiv := inv_1 h0 h1
            refine lv_iload hx hb d_M_init_237 (lv_at hl 0 rfl) ?_
            refine lv_ldc hx hb hown kk24 d_M_init_239 ?_
            refine x_i (y := iI (40000)) (by decide +kernel) ?_
            refine x_icmp_ge (tgt := 273) hx hb ⟨by omega, by omega⟩ ⟨by omega, by omega⟩ d_M_init_241 (by decide) (fun hc => by exfalso; omega) (fun hc => ?_)
            refine lv_lload hx hb d_M_init_244 (lv_at hl 1 rfl) ?_
            refine lv_aload_n hx hb d_M_init_246 rfl (lv_at hl 5 rfl) ?_
            refine w_get (C := "LevelledRingModel") (T := T_M) (M := 19) hx hb hts hinM hown hK hP (236) (by omega) ff615 rfl 1 (by decide) kk7 (fun _ h => h) rfl d_M_init_247 ?_
            refine lv_iload hx hb d_M_init_250 (lv_at hl 3 rfl) ?_
            refine w_iald hx hb hK hP (238) (by omega) ff617 (by omega) (by omega) (by omega) d_M_init_252 ?_
            refine x_ie (y := 29921) (by decide) ?_
            refine x_i2l hx hb ⟨by omega, by omega⟩ d_M_init_253 ?_
            refine x_lremP hx hb ⟨by omega, by omega⟩ ⟨by omega, by omega⟩ (by omega) (by omega) d_M_init_254 ?_
            refine lv_lconst (v := lI 1) hx hb d_M_init_255 rfl ?_
            have hmb := mod_b (23911325256433 * (k + 1)) (show (0 : Int) < 29921 by decide)
            refine x_lcmp hx hb ⟨by omega, by omega⟩ ⟨by omega, by omega⟩ d_M_init_256 ?_
            refine x_if_eq (tgt := 273) hx hb (cmpz_r _ _) d_M_init_257 (by decide) (fun hc => ?_) (fun hc => ?_)
            · have hc := cmpz_eq.mp hc
              obtain rfl : k = 18819 := hiv.mp hc
              have hl : lv_has ls 10 [(9, .int (iI ((18819 : Int)))), (7, .long (lI ((450011141326069060 : Int)))), (5, .long (lI (23911325256433))), (4, .int (iI ((1 : Int)))), (2, .long (lI (715450762997731793))), (0, .ref (b + 236)), (1, .int z0)] := by rw [show (450011141326069060 : Int) = 23911325256433 * ((18819 : Int) + 1) from by decide]; exact hl
              refine lv_aload_n hx hb d_M_init_273 rfl (lv_at hl 5 rfl) ?_
              refine w_get (C := "LevelledRingModel") (T := T_M) (M := 19) hx hb hts hinM hown hK hP (236) (by omega) ff615 rfl 3 (by decide) kk9 (fun _ h => h) rfl d_M_init_274 ?_
              refine lv_iload hx hb d_M_init_277 (lv_at hl 3 rfl) ?_
              refine lv_lload hx hb d_M_init_279 (lv_at hl 1 rfl) ?_
              refine w_last hx hb hK hP hS (240) (by omega) ff619 (by omega) (by omega) (by omega) d_M_init_281 (fun H locs hP hS => ?_)
              obtain ⟨u634, hu635, hP⟩ : ∃ zz : Nat → va_E, zz = va_up u613 240 (lr ct 4 (zu (zu (fun _ => 0) (0) ((640809061782268224 : Int))) ((1 : Int)) ((450011141326069060 : Int)))) ∧ va_P D vwCl (wl 254 b zz) H := ⟨_, rfl, hP⟩
              have ff636 : u634 236 = .inr (6, [.ref (b + 237), .ref (b + 238), .ref (b + 239), .ref (b + 240), .ref (b + 241), .ref (b + 242), .int (iI (0)), .ref (b + 243), .int (iI (0)), .ref (b + 244), .ref (b + 245), .ref (b + 246), .ref (b + 247), .ref (b + 248), .ref (b + 249), .ref (b + 250), .ref (b + 251), .ref (b + 252), .ref (b + 253)]) := (congrFun hu635 _).trans ((up_n (by omega)).trans ff615)
              have ff637 : u634 237 = lr ct 512 (fun _ => 0) := (congrFun hu635 _).trans ((up_n (by omega)).trans ff616)
              have ff638 : u634 238 = ir ct 4 (prR) := (congrFun hu635 _).trans ((up_n (by omega)).trans ff617)
              have ff639 : u634 239 = lr ct 4 (bgR) := (congrFun hu635 _).trans ((up_n (by omega)).trans ff618)
              have ff640 : u634 240 = lr ct 4 (zu (zu (fun _ => 0) (0) ((640809061782268224 : Int))) ((1 : Int)) ((450011141326069060 : Int))) := (congrFun hu635 _).trans up_s
              have ff641 : u634 241 = ir ct 8 (fun _ => 0) := (congrFun hu635 _).trans ((up_n (by omega)).trans ff620)
              have ff642 : u634 242 = ir ct 8 (fun _ => 0) := (congrFun hu635 _).trans ((up_n (by omega)).trans ff621)
              have ff643 : u634 243 = ir ct 8 (fun _ => 0) := (congrFun hu635 _).trans ((up_n (by omega)).trans ff622)
              have ff644 : u634 244 = ir ct 24 (fun _ => 0) := (congrFun hu635 _).trans ((up_n (by omega)).trans ff623)
              have ff645 : u634 245 = ir ct 24 (fun _ => 0) := (congrFun hu635 _).trans ((up_n (by omega)).trans ff624)
              have ff646 : u634 246 = ir ct 24 (fun _ => 0) := (congrFun hu635 _).trans ((up_n (by omega)).trans ff625)
              have ff647 : u634 247 = ir ct 192 (fun _ => 0) := (congrFun hu635 _).trans ((up_n (by omega)).trans ff626)
              have ff648 : u634 248 = zr ct 24 (fun _ => 0) := (congrFun hu635 _).trans ((up_n (by omega)).trans ff627)
              have ff649 : u634 249 = ir ct 24 (fun _ => 0) := (congrFun hu635 _).trans ((up_n (by omega)).trans ff628)
              have ff650 : u634 250 = lr ct 24 (fun _ => 0) := (congrFun hu635 _).trans ((up_n (by omega)).trans ff629)
              have ff651 : u634 251 = ir ct 2 (fun _ => 0) := (congrFun hu635 _).trans ((up_n (by omega)).trans ff630)
              have ff652 : u634 252 = lr ct 2 (fun _ => 0) := (congrFun hu635 _).trans ((up_n (by omega)).trans ff631)
              have ff653 : u634 253 = lr ct 8 (fun _ => 0) := (congrFun hu635 _).trans ((up_n (by omega)).trans ff632)
              have fr654 : ∀ j : Nat, (j < 236) → u634 j = u j := fun j h0 => (congrFun hu635 j).trans ((up_n (by omega)).trans (fr633 j h0))
              refine lv_iinc (k := 3) (v := iI ((1 : Int) + 1)) (lv' := [(4, .int (iI ((1 : Int) + 1))), (9, .int (iI ((18819 : Int)))), (7, .long (lI ((450011141326069060 : Int)))), (5, .long (lI (23911325256433))), (2, .long (lI (715450762997731793))), (0, .ref (b + 236)), (1, .int z0)]) hx hb d_M_init_282 hl rfl (iI_add _ _) (by decide) rfl (fun ls hl => ?_)
              have hl : lv_has ls 10 [(4, .int (iI ((2 : Int)))), (9, .int (iI ((18819 : Int)))), (7, .long (lI ((450011141326069060 : Int)))), (5, .long (lI (23911325256433))), (2, .long (lI (715450762997731793))), (0, .ref (b + 236)), (1, .int z0)] := by rw [show (2 : Int) = (1 : Int) + 1 from by decide]; exact hl
              refine lv_goto (tgt := 212) hx hb d_M_init_285 (by decide) ?_
              refine lv_iload hx hb d_M_init_212 (lv_at hl 0 rfl) ?_
              refine lv_iconst (v := iI (4)) hx hb d_M_init_214 rfl ?_
              refine x_icmp_ge (tgt := 288) hx hb ⟨by omega, by omega⟩ ⟨by omega, by omega⟩ d_M_init_215 (by decide) (fun hc => by exfalso; omega) (fun hc => ?_)
              refine lv_lload_n hx hb d_M_init_218 rfl (lv_at hl 4 rfl) ?_
              refine lv_aload_n hx hb d_M_init_219 rfl (lv_at hl 5 rfl) ?_
              refine w_get (C := "LevelledRingModel") (T := T_M) (M := 19) hx hb hts hinM hown hK hP (236) (by omega) ff636 rfl 1 (by decide) kk7 (fun _ h => h) rfl d_M_init_220 ?_
              refine lv_iload hx hb d_M_init_223 (lv_at hl 0 rfl) ?_
              refine w_iald hx hb hK hP (238) (by omega) ff638 (by omega) (by omega) (by omega) d_M_init_225 ?_
              refine x_ie (y := 28289) (by decide) ?_
              refine x_i2l hx hb ⟨by omega, by omega⟩ d_M_init_226 ?_
              refine x_ldivP hx hb ⟨by omega, by omega⟩ ⟨by omega, by omega⟩ (by omega) (by omega) d_M_init_227 ?_
              refine x_le (y := 25290776025937) (by decide) ?_
              refine lv_lstore (lv' := [(5, .long (lI (25290776025937))), (4, .int (iI ((2 : Int)))), (9, .int (iI ((18819 : Int)))), (7, .long (lI ((450011141326069060 : Int)))), (2, .long (lI (715450762997731793))), (0, .ref (b + 236)), (1, .int z0)]) hx hb d_M_init_228 hl (by decide) rfl (fun ls hl => ?_)
              refine lv_lload hx hb d_M_init_230 (lv_at hl 0 rfl) ?_
              refine lv_lstore (lv' := [(7, .long (lI (25290776025937))), (5, .long (lI (25290776025937))), (4, .int (iI ((2 : Int)))), (9, .int (iI ((18819 : Int)))), (2, .long (lI (715450762997731793))), (0, .ref (b + 236)), (1, .int z0)]) hx hb d_M_init_232 hl (by decide) rfl (fun ls hl => ?_)
              refine lv_iconst (v := iI (0)) hx hb d_M_init_234 rfl ?_
              refine lv_istore (lv' := [(9, .int (iI (0))), (7, .long (lI (25290776025937))), (5, .long (lI (25290776025937))), (4, .int (iI ((2 : Int)))), (2, .long (lI (715450762997731793))), (0, .ref (b + 236)), (1, .int z0)]) hx hb d_M_init_235 hl (by decide) rfl (fun ls hl => ?_)
              have hl : lv_has ls 10 [(9, .int (iI (0))), (7, .long (lI ((25290776025937 : Int) * (0 + 1)))), (5, .long (lI (25290776025937))), (4, .int (iI ((2 : Int)))), (2, .long (lI (715450762997731793))), (0, .ref (b + 236)), (1, .int z0)] := by rw [show (25290776025937 : Int) * (0 + 1) = 25290776025937 from by decide]; exact hl
              have hl : lv_has ls 10 [(9, .int (iI (0))), (7, .long (lI ((25290776025937 : Int) * (0 + 1)))), (5, .long (lI (25290776025937))), (4, .int (iI ((2 : Int)))), (2, .long (lI (715450762997731793))), (0, .ref (b + 236)), (1, .int z0)] := lv_sub hl [0, 1, 2, 3, 4, 5, 6] rfl
              have lu2 : ∀ (d2 : Nat) (k : Int) (H : Heap) (locs : List Loc) (ls : Array Slot), (0 ≤ k) → (k ≤ 19792) → (19792 - k < d2) → va_P D vwCl (wl 254 b u634) H → va_S (AA b) s.heap H locs → lv_has ls 10 [(9, .int (iI (k))), (7, .long (lI (25290776025937 * (k + 1)))), (5, .long (lI (25290776025937))), (4, .int (iI ((2 : Int)))), (2, .long (lI (715450762997731793))), (0, .ref (b + 236)), (1, .int z0)] → W p l e rm_c_M_init s m args below meth c H locs 17 896 Q (F0 m 237 ls []) := by
                intro d2
                induction d2 with
                | zero => intro k H locs ls h0 h1 hd hP hS hl; exfalso; omega
                | succ d2 ihlu2 =>
                  intro k H locs ls h0 h1 hd hP hS hl
                  have hiv := inv_2 h0 h1
                  refine lv_iload hx hb d_M_init_237 (lv_at hl 0 rfl) ?_
                  refine lv_ldc hx hb hown kk24 d_M_init_239 ?_
                  refine x_i (y := iI (40000)) (by decide +kernel) ?_
                  refine x_icmp_ge (tgt := 273) hx hb ⟨by omega, by omega⟩ ⟨by omega, by omega⟩ d_M_init_241 (by decide) (fun hc => by exfalso; omega) (fun hc => ?_)
                  refine lv_lload hx hb d_M_init_244 (lv_at hl 1 rfl) ?_
                  refine lv_aload_n hx hb d_M_init_246 rfl (lv_at hl 5 rfl) ?_
                  refine w_get (C := "LevelledRingModel") (T := T_M) (M := 19) hx hb hts hinM hown hK hP (236) (by omega) ff636 rfl 1 (by decide) kk7 (fun _ h => h) rfl d_M_init_247 ?_
                  refine lv_iload hx hb d_M_init_250 (lv_at hl 3 rfl) ?_
                  refine w_iald hx hb hK hP (238) (by omega) ff638 (by omega) (by omega) (by omega) d_M_init_252 ?_
                  refine x_ie (y := 28289) (by decide) ?_
                  refine x_i2l hx hb ⟨by omega, by omega⟩ d_M_init_253 ?_
                  refine x_lremP hx hb ⟨by omega, by omega⟩ ⟨by omega, by omega⟩ (by omega) (by omega) d_M_init_254 ?_
                  refine lv_lconst (v := lI 1) hx hb d_M_init_255 rfl ?_
                  have hmb := mod_b (25290776025937 * (k + 1)) (show (0 : Int) < 28289 by decide)
                  refine x_lcmp hx hb ⟨by omega, by omega⟩ ⟨by omega, by omega⟩ d_M_init_256 ?_
                  refine x_if_eq (tgt := 273) hx hb (cmpz_r _ _) d_M_init_257 (by decide) (fun hc => ?_) (fun hc => ?_)
                  · have hc := cmpz_eq.mp hc
                    obtain rfl : k = 19792 := hiv.mp hc
                    have hl : lv_has ls 10 [(9, .int (iI ((19792 : Int)))), (7, .long (lI ((500580329881371041 : Int)))), (5, .long (lI (25290776025937))), (4, .int (iI ((2 : Int)))), (2, .long (lI (715450762997731793))), (0, .ref (b + 236)), (1, .int z0)] := by rw [show (500580329881371041 : Int) = 25290776025937 * ((19792 : Int) + 1) from by decide]; exact hl
                    refine lv_aload_n hx hb d_M_init_273 rfl (lv_at hl 5 rfl) ?_
                    refine w_get (C := "LevelledRingModel") (T := T_M) (M := 19) hx hb hts hinM hown hK hP (236) (by omega) ff636 rfl 3 (by decide) kk9 (fun _ h => h) rfl d_M_init_274 ?_
                    refine lv_iload hx hb d_M_init_277 (lv_at hl 3 rfl) ?_
                    refine lv_lload hx hb d_M_init_279 (lv_at hl 1 rfl) ?_
                    refine w_last hx hb hK hP hS (240) (by omega) ff640 (by omega) (by omega) (by omega) d_M_init_281 (fun H locs hP hS => ?_)
                    obtain ⟨u655, hu656, hP⟩ : ∃ zz : Nat → va_E, zz = va_up u634 240 (lr ct 4 (zu (zu (zu (fun _ => 0) (0) ((640809061782268224 : Int))) ((1 : Int)) ((450011141326069060 : Int))) ((2 : Int)) ((500580329881371041 : Int)))) ∧ va_P D vwCl (wl 254 b zz) H := ⟨_, rfl, hP⟩
                    have ff657 : u655 236 = .inr (6, [.ref (b + 237), .ref (b + 238), .ref (b + 239), .ref (b + 240), .ref (b + 241), .ref (b + 242), .int (iI (0)), .ref (b + 243), .int (iI (0)), .ref (b + 244), .ref (b + 245), .ref (b + 246), .ref (b + 247), .ref (b + 248), .ref (b + 249), .ref (b + 250), .ref (b + 251), .ref (b + 252), .ref (b + 253)]) := (congrFun hu656 _).trans ((up_n (by omega)).trans ff636)
                    have ff658 : u655 237 = lr ct 512 (fun _ => 0) := (congrFun hu656 _).trans ((up_n (by omega)).trans ff637)
                    have ff659 : u655 238 = ir ct 4 (prR) := (congrFun hu656 _).trans ((up_n (by omega)).trans ff638)
                    have ff660 : u655 239 = lr ct 4 (bgR) := (congrFun hu656 _).trans ((up_n (by omega)).trans ff639)
                    have ff661 : u655 240 = lr ct 4 (zu (zu (zu (fun _ => 0) (0) ((640809061782268224 : Int))) ((1 : Int)) ((450011141326069060 : Int))) ((2 : Int)) ((500580329881371041 : Int))) := (congrFun hu656 _).trans up_s
                    have ff662 : u655 241 = ir ct 8 (fun _ => 0) := (congrFun hu656 _).trans ((up_n (by omega)).trans ff641)
                    have ff663 : u655 242 = ir ct 8 (fun _ => 0) := (congrFun hu656 _).trans ((up_n (by omega)).trans ff642)
                    have ff664 : u655 243 = ir ct 8 (fun _ => 0) := (congrFun hu656 _).trans ((up_n (by omega)).trans ff643)
                    have ff665 : u655 244 = ir ct 24 (fun _ => 0) := (congrFun hu656 _).trans ((up_n (by omega)).trans ff644)
                    have ff666 : u655 245 = ir ct 24 (fun _ => 0) := (congrFun hu656 _).trans ((up_n (by omega)).trans ff645)
                    have ff667 : u655 246 = ir ct 24 (fun _ => 0) := (congrFun hu656 _).trans ((up_n (by omega)).trans ff646)
                    have ff668 : u655 247 = ir ct 192 (fun _ => 0) := (congrFun hu656 _).trans ((up_n (by omega)).trans ff647)
                    have ff669 : u655 248 = zr ct 24 (fun _ => 0) := (congrFun hu656 _).trans ((up_n (by omega)).trans ff648)
                    have ff670 : u655 249 = ir ct 24 (fun _ => 0) := (congrFun hu656 _).trans ((up_n (by omega)).trans ff649)
                    have ff671 : u655 250 = lr ct 24 (fun _ => 0) := (congrFun hu656 _).trans ((up_n (by omega)).trans ff650)
                    have ff672 : u655 251 = ir ct 2 (fun _ => 0) := (congrFun hu656 _).trans ((up_n (by omega)).trans ff651)
                    have ff673 : u655 252 = lr ct 2 (fun _ => 0) := (congrFun hu656 _).trans ((up_n (by omega)).trans ff652)
                    have ff674 : u655 253 = lr ct 8 (fun _ => 0) := (congrFun hu656 _).trans ((up_n (by omega)).trans ff653)
                    have fr675 : ∀ j : Nat, (j < 236) → u655 j = u j := fun j h0 => (congrFun hu656 j).trans ((up_n (by omega)).trans (fr654 j h0))
                    refine lv_iinc (k := 3) (v := iI ((2 : Int) + 1)) (lv' := [(4, .int (iI ((2 : Int) + 1))), (9, .int (iI ((19792 : Int)))), (7, .long (lI ((500580329881371041 : Int)))), (5, .long (lI (25290776025937))), (2, .long (lI (715450762997731793))), (0, .ref (b + 236)), (1, .int z0)]) hx hb d_M_init_282 hl rfl (iI_add _ _) (by decide) rfl (fun ls hl => ?_)
                    have hl : lv_has ls 10 [(4, .int (iI ((3 : Int)))), (9, .int (iI ((19792 : Int)))), (7, .long (lI ((500580329881371041 : Int)))), (5, .long (lI (25290776025937))), (2, .long (lI (715450762997731793))), (0, .ref (b + 236)), (1, .int z0)] := by rw [show (3 : Int) = (2 : Int) + 1 from by decide]; exact hl
                    refine lv_goto (tgt := 212) hx hb d_M_init_285 (by decide) ?_
                    refine lv_iload hx hb d_M_init_212 (lv_at hl 0 rfl) ?_
                    refine lv_iconst (v := iI (4)) hx hb d_M_init_214 rfl ?_
                    refine x_icmp_ge (tgt := 288) hx hb ⟨by omega, by omega⟩ ⟨by omega, by omega⟩ d_M_init_215 (by decide) (fun hc => by exfalso; omega) (fun hc => ?_)
                    refine lv_lload_n hx hb d_M_init_218 rfl (lv_at hl 4 rfl) ?_
                    refine lv_aload_n hx hb d_M_init_219 rfl (lv_at hl 5 rfl) ?_
                    refine w_get (C := "LevelledRingModel") (T := T_M) (M := 19) hx hb hts hinM hown hK hP (236) (by omega) ff657 rfl 1 (by decide) kk7 (fun _ h => h) rfl d_M_init_220 ?_
                    refine lv_iload hx hb d_M_init_223 (lv_at hl 0 rfl) ?_
                    refine w_iald hx hb hK hP (238) (by omega) ff659 (by omega) (by omega) (by omega) d_M_init_225 ?_
                    refine x_ie (y := 26113) (by decide) ?_
                    refine x_i2l hx hb ⟨by omega, by omega⟩ d_M_init_226 ?_
                    refine x_ldivP hx hb ⟨by omega, by omega⟩ ⟨by omega, by omega⟩ (by omega) (by omega) d_M_init_227 ?_
                    refine x_le (y := 27398259985361) (by decide) ?_
                    refine lv_lstore (lv' := [(5, .long (lI (27398259985361))), (4, .int (iI ((3 : Int)))), (9, .int (iI ((19792 : Int)))), (7, .long (lI ((500580329881371041 : Int)))), (2, .long (lI (715450762997731793))), (0, .ref (b + 236)), (1, .int z0)]) hx hb d_M_init_228 hl (by decide) rfl (fun ls hl => ?_)
                    refine lv_lload hx hb d_M_init_230 (lv_at hl 0 rfl) ?_
                    refine lv_lstore (lv' := [(7, .long (lI (27398259985361))), (5, .long (lI (27398259985361))), (4, .int (iI ((3 : Int)))), (9, .int (iI ((19792 : Int)))), (2, .long (lI (715450762997731793))), (0, .ref (b + 236)), (1, .int z0)]) hx hb d_M_init_232 hl (by decide) rfl (fun ls hl => ?_)
                    refine lv_iconst (v := iI (0)) hx hb d_M_init_234 rfl ?_
                    refine lv_istore (lv' := [(9, .int (iI (0))), (7, .long (lI (27398259985361))), (5, .long (lI (27398259985361))), (4, .int (iI ((3 : Int)))), (2, .long (lI (715450762997731793))), (0, .ref (b + 236)), (1, .int z0)]) hx hb d_M_init_235 hl (by decide) rfl (fun ls hl => ?_)
                    have hl : lv_has ls 10 [(9, .int (iI (0))), (7, .long (lI ((27398259985361 : Int) * (0 + 1)))), (5, .long (lI (27398259985361))), (4, .int (iI ((3 : Int)))), (2, .long (lI (715450762997731793))), (0, .ref (b + 236)), (1, .int z0)] := by rw [show (27398259985361 : Int) * (0 + 1) = 27398259985361 from by decide]; exact hl
                    have hl : lv_has ls 10 [(9, .int (iI (0))), (7, .long (lI ((27398259985361 : Int) * (0 + 1)))), (5, .long (lI (27398259985361))), (4, .int (iI ((3 : Int)))), (2, .long (lI (715450762997731793))), (0, .ref (b + 236)), (1, .int z0)] := lv_sub hl [0, 1, 2, 3, 4, 5, 6] rfl
                    have lu3 : ∀ (d3 : Nat) (k : Int) (H : Heap) (locs : List Loc) (ls : Array Slot), (0 ≤ k) → (k ≤ 20254) → (20254 - k < d3) → va_P D vwCl (wl 254 b u655) H → va_S (AA b) s.heap H locs → lv_has ls 10 [(9, .int (iI (k))), (7, .long (lI (27398259985361 * (k + 1)))), (5, .long (lI (27398259985361))), (4, .int (iI ((3 : Int)))), (2, .long (lI (715450762997731793))), (0, .ref (b + 236)), (1, .int z0)] → W p l e rm_c_M_init s m args below meth c H locs 17 896 Q (F0 m 237 ls []) := by
                      intro d3
                      induction d3 with
                      | zero => intro k H locs ls h0 h1 hd hP hS hl; exfalso; omega
                      | succ d3 ihlu3 =>
                        intro k H locs ls h0 h1 hd hP hS hl
                        have hiv := inv_3 h0 h1
                        refine lv_iload hx hb d_M_init_237 (lv_at hl 0 rfl) ?_
                        refine lv_ldc hx hb hown kk24 d_M_init_239 ?_
                        refine x_i (y := iI (40000)) (by decide +kernel) ?_
                        refine x_icmp_ge (tgt := 273) hx hb ⟨by omega, by omega⟩ ⟨by omega, by omega⟩ d_M_init_241 (by decide) (fun hc => by exfalso; omega) (fun hc => ?_)
                        refine lv_lload hx hb d_M_init_244 (lv_at hl 1 rfl) ?_
                        refine lv_aload_n hx hb d_M_init_246 rfl (lv_at hl 5 rfl) ?_
                        refine w_get (C := "LevelledRingModel") (T := T_M) (M := 19) hx hb hts hinM hown hK hP (236) (by omega) ff657 rfl 1 (by decide) kk7 (fun _ h => h) rfl d_M_init_247 ?_
                        refine lv_iload hx hb d_M_init_250 (lv_at hl 3 rfl) ?_
                        refine w_iald hx hb hK hP (238) (by omega) ff659 (by omega) (by omega) (by omega) d_M_init_252 ?_
                        refine x_ie (y := 26113) (by decide) ?_
                        refine x_i2l hx hb ⟨by omega, by omega⟩ d_M_init_253 ?_
                        refine x_lremP hx hb ⟨by omega, by omega⟩ ⟨by omega, by omega⟩ (by omega) (by omega) d_M_init_254 ?_
                        refine lv_lconst (v := lI 1) hx hb d_M_init_255 rfl ?_
                        have hmb := mod_b (27398259985361 * (k + 1)) (show (0 : Int) < 26113 by decide)
                        refine x_lcmp hx hb ⟨by omega, by omega⟩ ⟨by omega, by omega⟩ d_M_init_256 ?_
                        refine x_if_eq (tgt := 273) hx hb (cmpz_r _ _) d_M_init_257 (by decide) (fun hc => ?_) (fun hc => ?_)
                        · have hc := cmpz_eq.mp hc
                          obtain rfl : k = 20254 := hiv.mp hc
                          have hl : lv_has ls 10 [(9, .int (iI ((20254 : Int)))), (7, .long (lI ((554951756003487055 : Int)))), (5, .long (lI (27398259985361))), (4, .int (iI ((3 : Int)))), (2, .long (lI (715450762997731793))), (0, .ref (b + 236)), (1, .int z0)] := by rw [show (554951756003487055 : Int) = 27398259985361 * ((20254 : Int) + 1) from by decide]; exact hl
                          refine lv_aload_n hx hb d_M_init_273 rfl (lv_at hl 5 rfl) ?_
                          refine w_get (C := "LevelledRingModel") (T := T_M) (M := 19) hx hb hts hinM hown hK hP (236) (by omega) ff657 rfl 3 (by decide) kk9 (fun _ h => h) rfl d_M_init_274 ?_
                          refine lv_iload hx hb d_M_init_277 (lv_at hl 3 rfl) ?_
                          refine lv_lload hx hb d_M_init_279 (lv_at hl 1 rfl) ?_
                          refine w_last hx hb hK hP hS (240) (by omega) ff661 (by omega) (by omega) (by omega) d_M_init_281 (fun H locs hP hS => ?_)
                          obtain ⟨u676, hu677, hP⟩ : ∃ zz : Nat → va_E, zz = va_up u655 240 (lr ct 4 (zu (zu (zu (zu (fun _ => 0) (0) ((640809061782268224 : Int))) ((1 : Int)) ((450011141326069060 : Int))) ((2 : Int)) ((500580329881371041 : Int))) ((3 : Int)) ((554951756003487055 : Int)))) ∧ va_P D vwCl (wl 254 b zz) H := ⟨_, rfl, hP⟩
                          have ff678 : u676 236 = .inr (6, [.ref (b + 237), .ref (b + 238), .ref (b + 239), .ref (b + 240), .ref (b + 241), .ref (b + 242), .int (iI (0)), .ref (b + 243), .int (iI (0)), .ref (b + 244), .ref (b + 245), .ref (b + 246), .ref (b + 247), .ref (b + 248), .ref (b + 249), .ref (b + 250), .ref (b + 251), .ref (b + 252), .ref (b + 253)]) := (congrFun hu677 _).trans ((up_n (by omega)).trans ff657)
                          have ff679 : u676 237 = lr ct 512 (fun _ => 0) := (congrFun hu677 _).trans ((up_n (by omega)).trans ff658)
                          have ff680 : u676 238 = ir ct 4 (prR) := (congrFun hu677 _).trans ((up_n (by omega)).trans ff659)
                          have ff681 : u676 239 = lr ct 4 (bgR) := (congrFun hu677 _).trans ((up_n (by omega)).trans ff660)
                          have ff682 : u676 240 = lr ct 4 (zu (zu (zu (zu (fun _ => 0) (0) ((640809061782268224 : Int))) ((1 : Int)) ((450011141326069060 : Int))) ((2 : Int)) ((500580329881371041 : Int))) ((3 : Int)) ((554951756003487055 : Int))) := (congrFun hu677 _).trans up_s
                          have ff683 : u676 241 = ir ct 8 (fun _ => 0) := (congrFun hu677 _).trans ((up_n (by omega)).trans ff662)
                          have ff684 : u676 242 = ir ct 8 (fun _ => 0) := (congrFun hu677 _).trans ((up_n (by omega)).trans ff663)
                          have ff685 : u676 243 = ir ct 8 (fun _ => 0) := (congrFun hu677 _).trans ((up_n (by omega)).trans ff664)
                          have ff686 : u676 244 = ir ct 24 (fun _ => 0) := (congrFun hu677 _).trans ((up_n (by omega)).trans ff665)
                          have ff687 : u676 245 = ir ct 24 (fun _ => 0) := (congrFun hu677 _).trans ((up_n (by omega)).trans ff666)
                          have ff688 : u676 246 = ir ct 24 (fun _ => 0) := (congrFun hu677 _).trans ((up_n (by omega)).trans ff667)
                          have ff689 : u676 247 = ir ct 192 (fun _ => 0) := (congrFun hu677 _).trans ((up_n (by omega)).trans ff668)
                          have ff690 : u676 248 = zr ct 24 (fun _ => 0) := (congrFun hu677 _).trans ((up_n (by omega)).trans ff669)
                          have ff691 : u676 249 = ir ct 24 (fun _ => 0) := (congrFun hu677 _).trans ((up_n (by omega)).trans ff670)
                          have ff692 : u676 250 = lr ct 24 (fun _ => 0) := (congrFun hu677 _).trans ((up_n (by omega)).trans ff671)
                          have ff693 : u676 251 = ir ct 2 (fun _ => 0) := (congrFun hu677 _).trans ((up_n (by omega)).trans ff672)
                          have ff694 : u676 252 = lr ct 2 (fun _ => 0) := (congrFun hu677 _).trans ((up_n (by omega)).trans ff673)
                          have ff695 : u676 253 = lr ct 8 (fun _ => 0) := (congrFun hu677 _).trans ((up_n (by omega)).trans ff674)
                          have fr696 : ∀ j : Nat, (j < 236) → u676 j = u j := fun j h0 => (congrFun hu677 j).trans ((up_n (by omega)).trans (fr675 j h0))
                          refine lv_iinc (k := 3) (v := iI ((3 : Int) + 1)) (lv' := [(4, .int (iI ((3 : Int) + 1))), (9, .int (iI ((20254 : Int)))), (7, .long (lI ((554951756003487055 : Int)))), (5, .long (lI (27398259985361))), (2, .long (lI (715450762997731793))), (0, .ref (b + 236)), (1, .int z0)]) hx hb d_M_init_282 hl rfl (iI_add _ _) (by decide) rfl (fun ls hl => ?_)
                          have hl : lv_has ls 10 [(4, .int (iI ((4 : Int)))), (9, .int (iI ((20254 : Int)))), (7, .long (lI ((554951756003487055 : Int)))), (5, .long (lI (27398259985361))), (2, .long (lI (715450762997731793))), (0, .ref (b + 236)), (1, .int z0)] := by rw [show (4 : Int) = (3 : Int) + 1 from by decide]; exact hl
                          refine lv_goto (tgt := 212) hx hb d_M_init_285 (by decide) ?_
                          refine lv_iload hx hb d_M_init_212 (lv_at hl 0 rfl) ?_
                          refine lv_iconst (v := iI (4)) hx hb d_M_init_214 rfl ?_
                          refine x_icmp_ge (tgt := 288) hx hb ⟨by omega, by omega⟩ ⟨by omega, by omega⟩ d_M_init_215 (by decide) (fun hc => ?_) (fun hc => by exfalso; omega)
                          have hut697 : u676 240 = lr ct 4 utR := ff682
                          refine lv_aload_n hx hb d_M_init_288 rfl (lv_at hl 5 rfl) ?_
                          refine lv_iload_n hx hb d_M_init_289 rfl (lv_at hl 6 rfl) ?_
                          refine w_put (C := "LevelledRingModel") (T := T_M) (M := 19) (ty := .int) (v := .int z0) hx hb hts hinM ty_M tyok_M nm_M hown hK hP hS (236) (by omega) ff678 rfl 6 (by decide) kk25 (fun _ h => h) rfl (by decide +kernel) rfl rfl (Nat.le_of_ble_eq_true rfl) d_M_init_290 (fun H locs hP hS => ?_)
                          obtain ⟨u698, hu699, hP⟩ : ∃ zz : Nat → va_E, zz = va_up u676 236 (.inr (6, [.ref (b + 237), .ref (b + 238), .ref (b + 239), .ref (b + 240), .ref (b + 241), .ref (b + 242), .int z0, .ref (b + 243), .int (iI (0)), .ref (b + 244), .ref (b + 245), .ref (b + 246), .ref (b + 247), .ref (b + 248), .ref (b + 249), .ref (b + 250), .ref (b + 251), .ref (b + 252), .ref (b + 253)])) ∧ va_P D vwCl (wl 254 b zz) H := ⟨_, rfl, hP⟩
                          have ff700 : u698 236 = .inr (6, [.ref (b + 237), .ref (b + 238), .ref (b + 239), .ref (b + 240), .ref (b + 241), .ref (b + 242), .int z0, .ref (b + 243), .int (iI (0)), .ref (b + 244), .ref (b + 245), .ref (b + 246), .ref (b + 247), .ref (b + 248), .ref (b + 249), .ref (b + 250), .ref (b + 251), .ref (b + 252), .ref (b + 253)]) := (congrFun hu699 _).trans up_s
                          have ff701 : u698 237 = lr ct 512 (fun _ => 0) := (congrFun hu699 _).trans ((up_n (by omega)).trans ff679)
                          have ff702 : u698 238 = ir ct 4 (prR) := (congrFun hu699 _).trans ((up_n (by omega)).trans ff680)
                          have ff703 : u698 239 = lr ct 4 (bgR) := (congrFun hu699 _).trans ((up_n (by omega)).trans ff681)
                          have ff704 : u698 240 = lr ct 4 (utR) := (congrFun hu699 _).trans ((up_n (by omega)).trans hut697)
                          have ff705 : u698 241 = ir ct 8 (fun _ => 0) := (congrFun hu699 _).trans ((up_n (by omega)).trans ff683)
                          have ff706 : u698 242 = ir ct 8 (fun _ => 0) := (congrFun hu699 _).trans ((up_n (by omega)).trans ff684)
                          have ff707 : u698 243 = ir ct 8 (fun _ => 0) := (congrFun hu699 _).trans ((up_n (by omega)).trans ff685)
                          have ff708 : u698 244 = ir ct 24 (fun _ => 0) := (congrFun hu699 _).trans ((up_n (by omega)).trans ff686)
                          have ff709 : u698 245 = ir ct 24 (fun _ => 0) := (congrFun hu699 _).trans ((up_n (by omega)).trans ff687)
                          have ff710 : u698 246 = ir ct 24 (fun _ => 0) := (congrFun hu699 _).trans ((up_n (by omega)).trans ff688)
                          have ff711 : u698 247 = ir ct 192 (fun _ => 0) := (congrFun hu699 _).trans ((up_n (by omega)).trans ff689)
                          have ff712 : u698 248 = zr ct 24 (fun _ => 0) := (congrFun hu699 _).trans ((up_n (by omega)).trans ff690)
                          have ff713 : u698 249 = ir ct 24 (fun _ => 0) := (congrFun hu699 _).trans ((up_n (by omega)).trans ff691)
                          have ff714 : u698 250 = lr ct 24 (fun _ => 0) := (congrFun hu699 _).trans ((up_n (by omega)).trans ff692)
                          have ff715 : u698 251 = ir ct 2 (fun _ => 0) := (congrFun hu699 _).trans ((up_n (by omega)).trans ff693)
                          have ff716 : u698 252 = lr ct 2 (fun _ => 0) := (congrFun hu699 _).trans ((up_n (by omega)).trans ff694)
                          have ff717 : u698 253 = lr ct 8 (fun _ => 0) := (congrFun hu699 _).trans ((up_n (by omega)).trans ff695)
                          have fr718 : ∀ j : Nat, (j < 236) → u698 j = u j := fun j h0 => (congrFun hu699 j).trans ((up_n (by omega)).trans (fr696 j h0))
                          refine lv_aload_n hx hb d_M_init_293 rfl (lv_at hl 5 rfl) ?_
                          refine w_callv (va_runV (As := []) (rest := []) ⟨hx, hb, hml, hown, hts⟩ (c_MdrawSmall l D ct st ke b 254 u698 (by omega) z0 0 ff700 _ ff706) (cwV 0 hts (gV t_465 t_467 (tb_sel ((y_M_drawSmall), 19) (List.mem_of_getElem? (i := 14) (by decide +kernel))) t_9 t_468) rfl rfl rfl (by decide +kernel) ⟨Nat.le_of_ble_eq_true rfl, Nat.le_of_ble_eq_true rfl⟩) (pre_V E hP hS (236) (by omega) ff700 rfl) rfl rfl hl.1 rfl (lv_room (Nat.le_of_ble_eq_true rfl)) d_M_init_294 ⟨(Nat.le_of_ble_eq_true rfl), (Nat.le_of_ble_eq_true rfl)⟩) hS (fun z719 H locs hz hP hS => ?_)
                          obtain ⟨sm1, s1, s2, s3, s4⟩ := hz
                          have ff721 : z719 237 = lr ct 512 (fun _ => 0) := (s4 237 (by omega) (by omega)).trans ff701
                          have ff722 : z719 238 = ir ct 4 (prR) := (s4 238 (by omega) (by omega)).trans ff702
                          have ff723 : z719 239 = lr ct 4 (bgR) := (s4 239 (by omega) (by omega)).trans ff703
                          have ff724 : z719 240 = lr ct 4 (utR) := (s4 240 (by omega) (by omega)).trans ff704
                          have ff725 : z719 241 = ir ct 8 (fun _ => 0) := (s4 241 (by omega) (by omega)).trans ff705
                          have ff726 : z719 243 = ir ct 8 (fun _ => 0) := (s4 243 (by omega) (by omega)).trans ff707
                          have ff727 : z719 244 = ir ct 24 (fun _ => 0) := (s4 244 (by omega) (by omega)).trans ff708
                          have ff728 : z719 245 = ir ct 24 (fun _ => 0) := (s4 245 (by omega) (by omega)).trans ff709
                          have ff729 : z719 246 = ir ct 24 (fun _ => 0) := (s4 246 (by omega) (by omega)).trans ff710
                          have ff730 : z719 247 = ir ct 192 (fun _ => 0) := (s4 247 (by omega) (by omega)).trans ff711
                          have ff731 : z719 248 = zr ct 24 (fun _ => 0) := (s4 248 (by omega) (by omega)).trans ff712
                          have ff732 : z719 249 = ir ct 24 (fun _ => 0) := (s4 249 (by omega) (by omega)).trans ff713
                          have ff733 : z719 250 = lr ct 24 (fun _ => 0) := (s4 250 (by omega) (by omega)).trans ff714
                          have ff734 : z719 251 = ir ct 2 (fun _ => 0) := (s4 251 (by omega) (by omega)).trans ff715
                          have ff735 : z719 252 = lr ct 2 (fun _ => 0) := (s4 252 (by omega) (by omega)).trans ff716
                          have ff736 : z719 253 = lr ct 8 (fun _ => 0) := (s4 253 (by omega) (by omega)).trans ff717
                          have fr737 : ∀ j : Nat, (j < 236) → z719 j = u j := fun j h0 => (s4 j (by omega) (by omega)).trans (fr718 j h0)
                          refine lv_iconst (v := iI (0)) hx hb d_M_init_297 rfl ?_
                          refine lv_istore (lv' := [(4, .int (iI (0))), (9, .int (iI ((20254 : Int)))), (7, .long (lI ((554951756003487055 : Int)))), (5, .long (lI (27398259985361))), (2, .long (lI (715450762997731793))), (0, .ref (b + 236)), (1, .int z0)]) hx hb d_M_init_298 hl (by decide) rfl (fun ls hl => ?_)
                          have hl : lv_has ls 10 [(4, .int (iI (0))), (0, .ref (b + 236)), (1, .int z0)] := lv_sub hl [0, 5, 6] rfl
                          have fr738 : ∀ j : Nat, (j ≠ 241) → z719 j = z719 j := fun _ _ => rfl
                          have ls9 : ∀ (d4 : Nat) (i : Int) (sc : Int → Int) (w739 : Nat → va_E) (H : Heap) (locs : List Loc) (ls : Array Slot), (0 ≤ i) → (i ≤ 8) → (8 - i < d4) → (∀ q : Int, 0 ≤ q → q < i → sc q = sml z0 q) → w739 241 = ir ct 8 (sc) → (∀ j : Nat, (j ≠ 241) → w739 j = z719 j) → va_P D vwCl (wl 254 b w739) H → va_S (AA b) s.heap H locs → lv_has ls 10 [(4, .int (iI (i))), (0, .ref (b + 236)), (1, .int z0)] → W p l e rm_c_M_init s m args below meth c H locs 17 896 Q (F0 m 300 ls []) := by
                            intro d4
                            induction d4 with
                            | zero => intro i sc w739 H locs ls h0 h1 hd hg fg740 fr741 hP hS hl; exfalso; omega
                            | succ d4 ihls9 =>
                              intro i sc w739 H locs ls h0 h1 hd hg fg740 fr741 hP hS hl
                              have ff742 : w739 237 = lr ct 512 (fun _ => 0) := (fr741 237 (by omega)).trans ff721
                              have ff743 : w739 238 = ir ct 4 (prR) := (fr741 238 (by omega)).trans ff722
                              have ff744 : w739 239 = lr ct 4 (bgR) := (fr741 239 (by omega)).trans ff723
                              have ff745 : w739 240 = lr ct 4 (utR) := (fr741 240 (by omega)).trans ff724
                              have ff746 : w739 243 = ir ct 8 (fun _ => 0) := (fr741 243 (by omega)).trans ff726
                              have ff747 : w739 244 = ir ct 24 (fun _ => 0) := (fr741 244 (by omega)).trans ff727
                              have ff748 : w739 245 = ir ct 24 (fun _ => 0) := (fr741 245 (by omega)).trans ff728
                              have ff749 : w739 246 = ir ct 24 (fun _ => 0) := (fr741 246 (by omega)).trans ff729
                              have ff750 : w739 247 = ir ct 192 (fun _ => 0) := (fr741 247 (by omega)).trans ff730
                              have ff751 : w739 248 = zr ct 24 (fun _ => 0) := (fr741 248 (by omega)).trans ff731
                              have ff752 : w739 249 = ir ct 24 (fun _ => 0) := (fr741 249 (by omega)).trans ff732
                              have ff753 : w739 250 = lr ct 24 (fun _ => 0) := (fr741 250 (by omega)).trans ff733
                              have ff754 : w739 251 = ir ct 2 (fun _ => 0) := (fr741 251 (by omega)).trans ff734
                              have ff755 : w739 252 = lr ct 2 (fun _ => 0) := (fr741 252 (by omega)).trans ff735
                              have ff756 : w739 253 = lr ct 8 (fun _ => 0) := (fr741 253 (by omega)).trans ff736
                              have ff757 : w739 242 = ir ct 8 (sm1) := (fr741 242 (by omega)).trans s1
                              have ff758 : w739 236 = .inr (6, [.ref (b + 237), .ref (b + 238), .ref (b + 239), .ref (b + 240), .ref (b + 241), .ref (b + 242), .int (it 8 z0), .ref (b + 243), .int (iI (0)), .ref (b + 244), .ref (b + 245), .ref (b + 246), .ref (b + 247), .ref (b + 248), .ref (b + 249), .ref (b + 250), .ref (b + 251), .ref (b + 252), .ref (b + 253)]) := (fr741 236 (by omega)).trans s2
                              refine lv_iload hx hb d_M_init_300 (lv_at hl 0 rfl) ?_
                              refine lv_bipush (v := iI (8)) hx hb d_M_init_302 (by decide +kernel) ?_
                              refine x_icmp_ge (tgt := 327) hx hb ⟨by omega, by omega⟩ ⟨by omega, by omega⟩ d_M_init_304 (by decide) (fun hc => ?_) (fun hc => ?_)
                              · obtain rfl : i = 8 := by omega
                                refine lv_iconst (v := iI (0)) hx hb d_M_init_327 rfl ?_
                                refine lv_istore (lv' := [(4, .int (iI (0))), (0, .ref (b + 236)), (1, .int z0)]) hx hb d_M_init_328 hl (by decide) rfl (fun ls hl => ?_)
                                have fr759 : ∀ j : Nat, (j ≠ 236) → (j ≠ 237) → (j ≠ 242) → w739 j = w739 j := fun _ _ _ _ => rfl
                                have hl : lv_has ls 10 [(4, .int (iI (0))), (0, .ref (b + 236)), (1, .int z0)] := lv_sub hl [0, 1, 2] rfl
                                have lk : ∀ (d5 : Nat) (jn : Nat) (R : Int → Int) (sm : Int → Int) (w760 : Nat → va_E) (H : Heap) (locs : List Loc) (ls : Array Slot), (jn ≤ 4) → (4 - jn < d5) → (∀ j : Nat, j < jn → ∀ i : Int, 0 ≤ i → i < 8 → R (8 * (j : Int) + i) = (kyO z0).2.1 j i ∧ R (8 * (4 + (j : Int)) + i) = (kyO z0).2.2 j i) → w760 236 = .inr (6, [.ref (b + 237), .ref (b + 238), .ref (b + 239), .ref (b + 240), .ref (b + 241), .ref (b + 242), .int (it (8 + 40 * jn) z0), .ref (b + 243), .int (iI (0)), .ref (b + 244), .ref (b + 245), .ref (b + 246), .ref (b + 247), .ref (b + 248), .ref (b + 249), .ref (b + 250), .ref (b + 251), .ref (b + 252), .ref (b + 253)]) → w760 237 = lr ct 512 (R) → w760 242 = ir ct 8 (sm) → (∀ j : Nat, (j ≠ 236) → (j ≠ 237) → (j ≠ 242) → w760 j = w739 j) → va_P D vwCl (wl 254 b w760) H → va_S (AA b) s.heap H locs → lv_has ls 10 [(4, .int (iI ((jn : Int)))), (0, .ref (b + 236)), (1, .int z0)] → W p l e rm_c_M_init s m args below meth c H locs 17 896 Q (F0 m 330 ls []) := by
                                  intro d5
                                  induction d5 with
                                  | zero => intro jn R sm w760 H locs ls hj hd hk fg761 fg762 fg763 fr764 hP hS hl; exfalso; omega
                                  | succ d5 ihlk =>
                                    intro jn R sm w760 H locs ls hj hd hk fg761 fg762 fg763 fr764 hP hS hl
                                    have ff765 : w760 238 = ir ct 4 (prR) := (fr764 238 (by omega) (by omega) (by omega)).trans ff743
                                    have ff766 : w760 239 = lr ct 4 (bgR) := (fr764 239 (by omega) (by omega) (by omega)).trans ff744
                                    have ff767 : w760 240 = lr ct 4 (utR) := (fr764 240 (by omega) (by omega) (by omega)).trans ff745
                                    have ff768 : w760 243 = ir ct 8 (fun _ => 0) := (fr764 243 (by omega) (by omega) (by omega)).trans ff746
                                    have ff769 : w760 244 = ir ct 24 (fun _ => 0) := (fr764 244 (by omega) (by omega) (by omega)).trans ff747
                                    have ff770 : w760 245 = ir ct 24 (fun _ => 0) := (fr764 245 (by omega) (by omega) (by omega)).trans ff748
                                    have ff771 : w760 246 = ir ct 24 (fun _ => 0) := (fr764 246 (by omega) (by omega) (by omega)).trans ff749
                                    have ff772 : w760 247 = ir ct 192 (fun _ => 0) := (fr764 247 (by omega) (by omega) (by omega)).trans ff750
                                    have ff773 : w760 248 = zr ct 24 (fun _ => 0) := (fr764 248 (by omega) (by omega) (by omega)).trans ff751
                                    have ff774 : w760 249 = ir ct 24 (fun _ => 0) := (fr764 249 (by omega) (by omega) (by omega)).trans ff752
                                    have ff775 : w760 250 = lr ct 24 (fun _ => 0) := (fr764 250 (by omega) (by omega) (by omega)).trans ff753
                                    have ff776 : w760 251 = ir ct 2 (fun _ => 0) := (fr764 251 (by omega) (by omega) (by omega)).trans ff754
                                    have ff777 : w760 252 = lr ct 2 (fun _ => 0) := (fr764 252 (by omega) (by omega) (by omega)).trans ff755
                                    have ff778 : w760 253 = lr ct 8 (fun _ => 0) := (fr764 253 (by omega) (by omega) (by omega)).trans ff756
                                    have ff779 : w760 241 = ir ct 8 (sc) := (fr764 241 (by omega) (by omega) (by omega)).trans fg740
                                    refine lv_iload hx hb d_M_init_330 (lv_at hl 0 rfl) ?_
                                    refine lv_iconst (v := iI (4)) hx hb d_M_init_332 rfl ?_
                                    refine x_icmp_ge (tgt := 358) hx hb ⟨by omega, by omega⟩ ⟨by omega, by omega⟩ d_M_init_333 (by decide) (fun hc => ?_) (fun hc => ?_)
                                    · obtain rfl : jn = 4 := by omega
                                      exact ret w760 H locs 358 ls ⟨fun G V => ⟨_, R, sm, _, _, _, _, _, _, _, _, _, _, _, ⟨fg761, ⟨⟨prR, ff765, prR_e⟩, ⟨bgR, ff766, bgR_e⟩, utR, ff767, utR_e⟩, ⟨sc, ff779, hg⟩, fg762, fg763, ff768, ff769, ff770, ff771, ff772, ff773, ff774, ff775, ff776, ff777, ff778⟩, fun j i a c d e => by obtain ⟨q, rfl⟩ := Int.eq_ofNat_of_zero_le a; exact hk q (by omega) i d e, fun _ _ _ => rfl, fun x a c => by exfalso; omega, fun x a c => by exfalso; omega, fun x a c => by exfalso; omega⟩, fun j h => (fr764 j (by omega) (by omega) (by omega)).trans ((fr741 j (by omega)).trans (fr737 j h))⟩ hP hS d_M_init_358
                                    · refine lv_aload_n hx hb d_M_init_336 rfl (lv_at hl 1 rfl) ?_
                                      refine lv_iload hx hb d_M_init_337 (lv_at hl 0 rfl) ?_
                                      refine w_callv (va_runV (As := [.int (iI ((jn : Int)))]) (rest := []) ⟨hx, hb, hml, hown, hts⟩ (c_MdrawUniform l D ct st ke b 254 w760 (by omega) (it (8 + 40 * jn) z0) 0 fg761 ⟨⟨prR, ff765, prR_e⟩, ⟨bgR, ff766, bgR_e⟩, utR, ff767, utR_e⟩ R fg762 (jn : Int) (by omega) (by omega)) (cwV 1 hts (gV t_475 t_477 (tb_sel ((y_M_drawUniform), 19) (List.mem_of_getElem? (i := 16) (by decide +kernel))) t_9 t_478) rfl rfl rfl (by decide +kernel) ⟨Nat.le_of_ble_eq_true rfl, Nat.le_of_ble_eq_true rfl⟩) (pre_V E hP hS (236) (by omega) fg761 rfl) rfl rfl hl.1 rfl (lv_room (Nat.le_of_ble_eq_true rfl)) d_M_init_339 ⟨(Nat.le_of_ble_eq_true rfl), (Nat.le_of_ble_eq_true rfl)⟩) hS (fun z780 H locs hz hP hS => ?_)
                                      obtain ⟨R2, a1, a2, a3, a4, a5⟩ := hz
                                      have ff782 : z780 238 = ir ct 4 (prR) := (a5 238 (by omega) (by omega)).trans ff765
                                      have ff783 : z780 239 = lr ct 4 (bgR) := (a5 239 (by omega) (by omega)).trans ff766
                                      have ff784 : z780 240 = lr ct 4 (utR) := (a5 240 (by omega) (by omega)).trans ff767
                                      have ff785 : z780 243 = ir ct 8 (fun _ => 0) := (a5 243 (by omega) (by omega)).trans ff768
                                      have ff786 : z780 244 = ir ct 24 (fun _ => 0) := (a5 244 (by omega) (by omega)).trans ff769
                                      have ff787 : z780 245 = ir ct 24 (fun _ => 0) := (a5 245 (by omega) (by omega)).trans ff770
                                      have ff788 : z780 246 = ir ct 24 (fun _ => 0) := (a5 246 (by omega) (by omega)).trans ff771
                                      have ff789 : z780 247 = ir ct 192 (fun _ => 0) := (a5 247 (by omega) (by omega)).trans ff772
                                      have ff790 : z780 248 = zr ct 24 (fun _ => 0) := (a5 248 (by omega) (by omega)).trans ff773
                                      have ff791 : z780 249 = ir ct 24 (fun _ => 0) := (a5 249 (by omega) (by omega)).trans ff774
                                      have ff792 : z780 250 = lr ct 24 (fun _ => 0) := (a5 250 (by omega) (by omega)).trans ff775
                                      have ff793 : z780 251 = ir ct 2 (fun _ => 0) := (a5 251 (by omega) (by omega)).trans ff776
                                      have ff794 : z780 252 = lr ct 2 (fun _ => 0) := (a5 252 (by omega) (by omega)).trans ff777
                                      have ff795 : z780 253 = lr ct 8 (fun _ => 0) := (a5 253 (by omega) (by omega)).trans ff778
                                      have ff796 : z780 241 = ir ct 8 (sc) := (a5 241 (by omega) (by omega)).trans ff779
                                      have ff797 : z780 242 = ir ct 8 (sm) := (a5 242 (by omega) (by omega)).trans fg763
                                      have fr798 : ∀ j : Nat, (j ≠ 236) → (j ≠ 237) → (j ≠ 242) → z780 j = w739 j := fun j h0 h1 h2 => (a5 j (by omega) (by omega)).trans (fr764 j h0 h1 h2)
                                      refine lv_aload_n hx hb d_M_init_342 rfl (lv_at hl 1 rfl) ?_
                                      refine w_callv (va_runV (As := []) (rest := []) ⟨hx, hb, hml, hown, hts⟩ (c_MdrawSmall l D ct st ke b 254 z780 (by omega) (it 32 (it (8 + 40 * jn) z0)) 0 a2 sm ff797) (cwV 0 hts (gV t_465 t_467 (tb_sel ((y_M_drawSmall), 19) (List.mem_of_getElem? (i := 14) (by decide +kernel))) t_9 t_468) rfl rfl rfl (by decide +kernel) ⟨Nat.le_of_ble_eq_true rfl, Nat.le_of_ble_eq_true rfl⟩) (pre_V E hP hS (236) (by omega) a2 rfl) rfl rfl hl.1 rfl (lv_room (Nat.le_of_ble_eq_true rfl)) d_M_init_343 ⟨(Nat.le_of_ble_eq_true rfl), (Nat.le_of_ble_eq_true rfl)⟩) hS (fun z799 H locs hz hP hS => ?_)
                                      obtain ⟨sm2, b1, b2, b3, b4⟩ := hz
                                      have ff801 : z799 238 = ir ct 4 (prR) := (b4 238 (by omega) (by omega)).trans ff782
                                      have ff802 : z799 239 = lr ct 4 (bgR) := (b4 239 (by omega) (by omega)).trans ff783
                                      have ff803 : z799 240 = lr ct 4 (utR) := (b4 240 (by omega) (by omega)).trans ff784
                                      have ff804 : z799 243 = ir ct 8 (fun _ => 0) := (b4 243 (by omega) (by omega)).trans ff785
                                      have ff805 : z799 244 = ir ct 24 (fun _ => 0) := (b4 244 (by omega) (by omega)).trans ff786
                                      have ff806 : z799 245 = ir ct 24 (fun _ => 0) := (b4 245 (by omega) (by omega)).trans ff787
                                      have ff807 : z799 246 = ir ct 24 (fun _ => 0) := (b4 246 (by omega) (by omega)).trans ff788
                                      have ff808 : z799 247 = ir ct 192 (fun _ => 0) := (b4 247 (by omega) (by omega)).trans ff789
                                      have ff809 : z799 248 = zr ct 24 (fun _ => 0) := (b4 248 (by omega) (by omega)).trans ff790
                                      have ff810 : z799 249 = ir ct 24 (fun _ => 0) := (b4 249 (by omega) (by omega)).trans ff791
                                      have ff811 : z799 250 = lr ct 24 (fun _ => 0) := (b4 250 (by omega) (by omega)).trans ff792
                                      have ff812 : z799 251 = ir ct 2 (fun _ => 0) := (b4 251 (by omega) (by omega)).trans ff793
                                      have ff813 : z799 252 = lr ct 2 (fun _ => 0) := (b4 252 (by omega) (by omega)).trans ff794
                                      have ff814 : z799 253 = lr ct 8 (fun _ => 0) := (b4 253 (by omega) (by omega)).trans ff795
                                      have ff815 : z799 241 = ir ct 8 (sc) := (b4 241 (by omega) (by omega)).trans ff796
                                      have ff816 : z799 237 = lr ct 512 (R2) := (b4 237 (by omega) (by omega)).trans a1
                                      have fr817 : ∀ j : Nat, (j ≠ 236) → (j ≠ 237) → (j ≠ 242) → z799 j = w739 j := fun j h0 h1 h2 => (b4 j (by omega) (by omega)).trans (fr798 j h0 h1 h2)
                                      refine lv_aload_n hx hb d_M_init_346 rfl (lv_at hl 1 rfl) ?_
                                      refine lv_iload hx hb d_M_init_347 (lv_at hl 0 rfl) ?_
                                      refine w_callv (va_runV (As := [.int (iI ((jn : Int)))]) (rest := []) ⟨hx, hb, hml, hown, hts⟩ (c_makeB l D ct st ke b 254 z799 (by omega) (it 8 (it 32 (it (8 + 40 * jn) z0))) 0 b2 ⟨⟨prR, ff801, prR_e⟩, ⟨bgR, ff802, bgR_e⟩, utR, ff803, utR_e⟩ (sml z0) ⟨sc, ff815, hg⟩ (fun i => sml_bd z0 i) R2 ff816 sm2 b1 (sml (it 32 (it (8 + 40 * jn) z0))) b3 (fun i => sml_bd _ i) (jn : Int) (by omega) (by omega) (fun j h2 h3 => by rw [a3 j h2 h3]; have h9 := uni_bd (it (8 + 40 * jn) z0) j; have h8 := (lQ_bd 3).2; exact ⟨h9.1, by omega⟩)) (cwV 1 hts (gV t_482 t_484 (tb_sel ((y_M_makeB), 19) (List.mem_of_getElem? (i := 17) (by decide +kernel))) t_9 t_485) rfl rfl rfl (by decide +kernel) ⟨Nat.le_of_ble_eq_true rfl, Nat.le_of_ble_eq_true rfl⟩) (pre_V E hP hS (236) (by omega) b2 rfl) rfl rfl hl.1 rfl (lv_room (Nat.le_of_ble_eq_true rfl)) d_M_init_349 ⟨(Nat.le_of_ble_eq_true rfl), (Nat.le_of_ble_eq_true rfl)⟩) hS (fun z818 H locs hz hP hS => ?_)
                                      obtain ⟨R3, c1, c2, c3, c4⟩ := hz
                                      have ff820 : z818 238 = ir ct 4 (prR) := (c4 238 (by omega)).trans ff801
                                      have ff821 : z818 239 = lr ct 4 (bgR) := (c4 239 (by omega)).trans ff802
                                      have ff822 : z818 240 = lr ct 4 (utR) := (c4 240 (by omega)).trans ff803
                                      have ff823 : z818 243 = ir ct 8 (fun _ => 0) := (c4 243 (by omega)).trans ff804
                                      have ff824 : z818 244 = ir ct 24 (fun _ => 0) := (c4 244 (by omega)).trans ff805
                                      have ff825 : z818 245 = ir ct 24 (fun _ => 0) := (c4 245 (by omega)).trans ff806
                                      have ff826 : z818 246 = ir ct 24 (fun _ => 0) := (c4 246 (by omega)).trans ff807
                                      have ff827 : z818 247 = ir ct 192 (fun _ => 0) := (c4 247 (by omega)).trans ff808
                                      have ff828 : z818 248 = zr ct 24 (fun _ => 0) := (c4 248 (by omega)).trans ff809
                                      have ff829 : z818 249 = ir ct 24 (fun _ => 0) := (c4 249 (by omega)).trans ff810
                                      have ff830 : z818 250 = lr ct 24 (fun _ => 0) := (c4 250 (by omega)).trans ff811
                                      have ff831 : z818 251 = ir ct 2 (fun _ => 0) := (c4 251 (by omega)).trans ff812
                                      have ff832 : z818 252 = lr ct 2 (fun _ => 0) := (c4 252 (by omega)).trans ff813
                                      have ff833 : z818 253 = lr ct 8 (fun _ => 0) := (c4 253 (by omega)).trans ff814
                                      have ff834 : z818 241 = ir ct 8 (sc) := (c4 241 (by omega)).trans ff815
                                      have ff835 : z818 242 = ir ct 8 (sm2) := (c4 242 (by omega)).trans b1
                                      have ff836 : z818 236 = .inr (6, [.ref (b + 237), .ref (b + 238), .ref (b + 239), .ref (b + 240), .ref (b + 241), .ref (b + 242), .int (it 8 (it 32 (it (8 + 40 * jn) z0))), .ref (b + 243), .int (iI (0)), .ref (b + 244), .ref (b + 245), .ref (b + 246), .ref (b + 247), .ref (b + 248), .ref (b + 249), .ref (b + 250), .ref (b + 251), .ref (b + 252), .ref (b + 253)]) := (c4 236 (by omega)).trans b2
                                      have fr837 : ∀ j : Nat, (j ≠ 236) → (j ≠ 237) → (j ≠ 242) → z818 j = w739 j := fun j h0 h1 h2 => (c4 j (by omega)).trans (fr817 j h0 h1 h2)
                                      refine lv_iinc (k := 0) (v := iI ((jn : Int) + 1)) (lv' := [(4, .int (iI ((jn : Int) + 1))), (0, .ref (b + 236)), (1, .int z0)]) hx hb d_M_init_352 hl rfl (iI_add _ _) (by decide) rfl (fun ls hl => ?_)
                                      have hl : lv_has ls 10 [(4, .int (iI (((jn + 1 : Nat) : Int)))), (0, .ref (b + 236)), (1, .int z0)] := by rw [show ((jn + 1 : Nat) : Int) = (jn : Int) + 1 from by omega]; exact hl
                                      refine lv_goto (tgt := 330) hx hb d_M_init_355 (by decide) ?_
                                      have e40 : it 8 (it 32 (it (8 + 40 * jn) z0)) = it (8 + 40 * (jn + 1)) z0 := by rw [it_add _ 32 8, it_add, show 8 + 40 * jn + (32 + 8) = 8 + 40 * (jn + 1) by omega]
                                      refine ihlk (jn + 1) R3 sm2 z818 H locs ls (by omega) (by omega) (fun j hj9 i d6 e6 => ?_) (by rw [← e40]; exact ff836) c1 ff835 fr837 hP hS hl
                                      by_cases hjn : j = jn
                                      · subst hjn
                                        refine ⟨(c3 _ (by omega)).trans (a3 i d6 e6), (c2 i d6 e6).trans ?_⟩
                                        rw [nc_eq (fun q h2 h3 => a3 q h2 h3) (fun q _ _ => rfl) d6 e6]
                                        rfl
                                      · have h9 := hk j (by omega) i d6 e6
                                        exact ⟨(c3 _ (by omega)).trans ((a4 _ (by omega)).trans h9.1), (c3 _ (by omega)).trans ((a4 _ (by omega)).trans h9.2)⟩
                                exact lk 5 0 _ _ w739 H locs ls (by omega) (by omega) (fun j hj9 => by omega) ff758 ff742 ff757 fr759 hP hS hl
                              · refine lv_aload_n hx hb d_M_init_307 rfl (lv_at hl 1 rfl) ?_
                                refine w_get (C := "LevelledRingModel") (T := T_M) (M := 19) hx hb hts hinM hown hK hP (236) (by omega) ff758 rfl 4 (by decide) kk10 (fun _ h => h) rfl d_M_init_308 ?_
                                refine lv_iload hx hb d_M_init_311 (lv_at hl 0 rfl) ?_
                                refine lv_aload_n hx hb d_M_init_313 rfl (lv_at hl 1 rfl) ?_
                                refine w_get (C := "LevelledRingModel") (T := T_M) (M := 19) hx hb hts hinM hown hK hP (236) (by omega) ff758 rfl 5 (by decide) kk11 (fun _ h => h) rfl d_M_init_314 ?_
                                refine lv_iload hx hb d_M_init_317 (lv_at hl 0 rfl) ?_
                                refine w_iald hx hb hK hP (242) (by omega) ff757 (by omega) (by omega) (by omega) d_M_init_319 ?_
                                refine x_ie (y := sml z0 i) (s3 i h0 (by omega)) ?_
                                refine w_iast hx hb hK hP hS (241) (by omega) fg740 (by omega) (by omega) (by omega) d_M_init_320 (fun H locs hP hS => ?_)
                                obtain ⟨u838, hu839, hP⟩ : ∃ zz : Nat → va_E, zz = va_up w739 241 (ir ct 8 (zu sc (i) (sml z0 i))) ∧ va_P D vwCl (wl 254 b zz) H := ⟨_, rfl, hP⟩
                                have ff840 : u838 237 = lr ct 512 (fun _ => 0) := (congrFun hu839 _).trans ((up_n (by omega)).trans ff742)
                                have ff841 : u838 238 = ir ct 4 (prR) := (congrFun hu839 _).trans ((up_n (by omega)).trans ff743)
                                have ff842 : u838 239 = lr ct 4 (bgR) := (congrFun hu839 _).trans ((up_n (by omega)).trans ff744)
                                have ff843 : u838 240 = lr ct 4 (utR) := (congrFun hu839 _).trans ((up_n (by omega)).trans ff745)
                                have ff844 : u838 243 = ir ct 8 (fun _ => 0) := (congrFun hu839 _).trans ((up_n (by omega)).trans ff746)
                                have ff845 : u838 244 = ir ct 24 (fun _ => 0) := (congrFun hu839 _).trans ((up_n (by omega)).trans ff747)
                                have ff846 : u838 245 = ir ct 24 (fun _ => 0) := (congrFun hu839 _).trans ((up_n (by omega)).trans ff748)
                                have ff847 : u838 246 = ir ct 24 (fun _ => 0) := (congrFun hu839 _).trans ((up_n (by omega)).trans ff749)
                                have ff848 : u838 247 = ir ct 192 (fun _ => 0) := (congrFun hu839 _).trans ((up_n (by omega)).trans ff750)
                                have ff849 : u838 248 = zr ct 24 (fun _ => 0) := (congrFun hu839 _).trans ((up_n (by omega)).trans ff751)
                                have ff850 : u838 249 = ir ct 24 (fun _ => 0) := (congrFun hu839 _).trans ((up_n (by omega)).trans ff752)
                                have ff851 : u838 250 = lr ct 24 (fun _ => 0) := (congrFun hu839 _).trans ((up_n (by omega)).trans ff753)
                                have ff852 : u838 251 = ir ct 2 (fun _ => 0) := (congrFun hu839 _).trans ((up_n (by omega)).trans ff754)
                                have ff853 : u838 252 = lr ct 2 (fun _ => 0) := (congrFun hu839 _).trans ((up_n (by omega)).trans ff755)
                                have ff854 : u838 253 = lr ct 8 (fun _ => 0) := (congrFun hu839 _).trans ((up_n (by omega)).trans ff756)
                                have ff855 : u838 242 = ir ct 8 (sm1) := (congrFun hu839 _).trans ((up_n (by omega)).trans ff757)
                                have ff856 : u838 236 = .inr (6, [.ref (b + 237), .ref (b + 238), .ref (b + 239), .ref (b + 240), .ref (b + 241), .ref (b + 242), .int (it 8 z0), .ref (b + 243), .int (iI (0)), .ref (b + 244), .ref (b + 245), .ref (b + 246), .ref (b + 247), .ref (b + 248), .ref (b + 249), .ref (b + 250), .ref (b + 251), .ref (b + 252), .ref (b + 253)]) := (congrFun hu839 _).trans ((up_n (by omega)).trans ff758)
                                have ff857 : u838 241 = ir ct 8 (zu sc (i) (sml z0 i)) := (congrFun hu839 _).trans up_s
                                have fr858 : ∀ j : Nat, (j ≠ 241) → u838 j = z719 j := fun j h0 => (congrFun hu839 j).trans ((up_n (by omega)).trans (fr741 j h0))
                                refine lv_iinc (k := 0) (v := iI (i + 1)) (lv' := [(4, .int (iI (i + 1))), (0, .ref (b + 236)), (1, .int z0)]) hx hb d_M_init_321 hl rfl (iI_add _ _) (by decide) rfl (fun ls hl => ?_)
                                refine lv_goto (tgt := 300) hx hb d_M_init_324 (by decide) ?_
                                refine ihls9 (i + 1) _ u838 H locs ls (by omega) (by omega) (by omega) (fun q h2 h3 => ?_) ff857 fr858 hP hS hl
                                by_cases h4 : q = i
                                · rw [h4, zu_s]
                                · rw [zu_n h4]; exact hg q h2 (by omega)
                          exact ls9 9 0 _ z719 H locs ls (by omega) (by omega) (by omega) (fun q h2 h3 => by omega) ff725 fr738 hP hS hl
                        · have hc : ¬ 27398259985361 * (k + 1) % 26113 = 1 := fun h => by have := cmpz_eq.mpr h; omega
                          have hne : k ≠ 20254 := fun h => hc (hiv.mpr h)
                          refine lv_lload hx hb d_M_init_260 (lv_at hl 1 rfl) ?_
                          refine lv_lload hx hb d_M_init_262 (lv_at hl 2 rfl) ?_
                          refine x_ladd hx hb d_M_init_264 ?_
                          refine x_le (y := 27398259985361 * (k + 1 + 1)) (by omega) ?_
                          refine lv_lstore (lv' := [(7, .long (lI (27398259985361 * (k + 1 + 1)))), (9, .int (iI (k))), (5, .long (lI (27398259985361))), (4, .int (iI ((3 : Int)))), (2, .long (lI (715450762997731793))), (0, .ref (b + 236)), (1, .int z0)]) hx hb d_M_init_265 hl (by decide) rfl (fun ls hl => ?_)
                          refine lv_iinc (k := 1) (v := iI (k + 1)) (lv' := [(9, .int (iI (k + 1))), (7, .long (lI (27398259985361 * (k + 1 + 1)))), (5, .long (lI (27398259985361))), (4, .int (iI ((3 : Int)))), (2, .long (lI (715450762997731793))), (0, .ref (b + 236)), (1, .int z0)]) hx hb d_M_init_267 hl rfl (iI_add _ _) (by decide) rfl (fun ls hl => ?_)
                          refine lv_goto (tgt := 237) hx hb d_M_init_270 (by decide) ?_
                          have hl : lv_has ls 10 [(9, .int (iI (k + 1))), (7, .long (lI (27398259985361 * (k + 1 + 1)))), (5, .long (lI (27398259985361))), (4, .int (iI ((3 : Int)))), (2, .long (lI (715450762997731793))), (0, .ref (b + 236)), (1, .int z0)] := lv_sub hl [0, 1, 2, 3, 4, 5, 6] rfl
                          exact ihlu3 (k + 1) H locs ls (by omega) (by omega) (by omega) hP hS hl
                    exact lu3 20255 0 H locs ls (by omega) (by omega) (by omega) hP hS hl
                  · have hc : ¬ 25290776025937 * (k + 1) % 28289 = 1 := fun h => by have := cmpz_eq.mpr h; omega
                    have hne : k ≠ 19792 := fun h => hc (hiv.mpr h)
                    refine lv_lload hx hb d_M_init_260 (lv_at hl 1 rfl) ?_
                    refine lv_lload hx hb d_M_init_262 (lv_at hl 2 rfl) ?_
                    refine x_ladd hx hb d_M_init_264 ?_
                    refine x_le (y := 25290776025937 * (k + 1 + 1)) (by omega) ?_
                    refine lv_lstore (lv' := [(7, .long (lI (25290776025937 * (k + 1 + 1)))), (9, .int (iI (k))), (5, .long (lI (25290776025937))), (4, .int (iI ((2 : Int)))), (2, .long (lI (715450762997731793))), (0, .ref (b + 236)), (1, .int z0)]) hx hb d_M_init_265 hl (by decide) rfl (fun ls hl => ?_)
                    refine lv_iinc (k := 1) (v := iI (k + 1)) (lv' := [(9, .int (iI (k + 1))), (7, .long (lI (25290776025937 * (k + 1 + 1)))), (5, .long (lI (25290776025937))), (4, .int (iI ((2 : Int)))), (2, .long (lI (715450762997731793))), (0, .ref (b + 236)), (1, .int z0)]) hx hb d_M_init_267 hl rfl (iI_add _ _) (by decide) rfl (fun ls hl => ?_)
                    refine lv_goto (tgt := 237) hx hb d_M_init_270 (by decide) ?_
                    have hl : lv_has ls 10 [(9, .int (iI (k + 1))), (7, .long (lI (25290776025937 * (k + 1 + 1)))), (5, .long (lI (25290776025937))), (4, .int (iI ((2 : Int)))), (2, .long (lI (715450762997731793))), (0, .ref (b + 236)), (1, .int z0)] := lv_sub hl [0, 1, 2, 3, 4, 5, 6] rfl
                    exact ihlu2 (k + 1) H locs ls (by omega) (by omega) (by omega) hP hS hl
              exact lu2 19793 0 H locs ls (by omega) (by omega) (by omega) hP hS hl
            · have hc : ¬ 23911325256433 * (k + 1) % 29921 = 1 := fun h => by have := cmpz_eq.mpr h; omega
              have hne : k ≠ 18819 := fun h => hc (hiv.mpr h)
              refine lv_lload hx hb d_M_init_260 (lv_at hl 1 rfl) ?_
              refine lv_lload hx hb d_M_init_262 (lv_at hl 2 rfl) ?_
              refine x_ladd hx hb d_M_init_264 ?_
              refine x_le (y := 23911325256433 * (k + 1 + 1)) (by omega) ?_
              refine lv_lstore (lv' := [(7, .long (lI (23911325256433 * (k + 1 + 1)))), (9, .int (iI (k))), (5, .long (lI (23911325256433))), (4, .int (iI ((1 : Int)))), (2, .long (lI (715450762997731793))), (0, .ref (b + 236)), (1, .int z0)]) hx hb d_M_init_265 hl (by decide) rfl (fun ls hl => ?_)
              refine lv_iinc (k := 1) (v := iI (k + 1)) (lv' := [(9, .int (iI (k + 1))), (7, .long (lI (23911325256433 * (k + 1 + 1)))), (5, .long (lI (23911325256433))), (4, .int (iI ((1 : Int)))), (2, .long (lI (715450762997731793))), (0, .ref (b + 236)), (1, .int z0)]) hx hb d_M_init_267 hl rfl (iI_add _ _) (by decide) rfl (fun ls hl => ?_)
              refine lv_goto (tgt := 237) hx hb d_M_init_270 (by decide) ?_
              have hl : lv_has ls 10 [(9, .int (iI (k + 1))), (7, .long (lI (23911325256433 * (k + 1 + 1)))), (5, .long (lI (23911325256433))), (4, .int (iI ((1 : Int)))), (2, .long (lI (715450762997731793))), (0, .ref (b + 236)), (1, .int z0)] := lv_sub hl [0, 1, 2, 3, 4, 5, 6] rfl
              exact ihlu1 (k + 1) H locs ls (by omega) (by omega) (by omega) hP hS hl
        exact lu1 18820 0 H locs ls (by omega) (by omega) (by omega) hP hS hl
      · have hc : ¬ 22102961568097 * (k + 1) % 32369 = 1 := fun h => by have := cmpz_eq.mpr h; omega
        have hne : k ≠ 28991 := fun h => hc (hiv.mpr h)
        refine lv_lload hx hb d_M_init_260 (lv_at hl 1 rfl) ?_
        refine lv_lload hx hb d_M_init_262 (lv_at hl 2 rfl) ?_
        refine x_ladd hx hb d_M_init_264 ?_
        refine x_le (y := 22102961568097 * (k + 1 + 1)) (by omega) ?_
        refine lv_lstore (lv' := [(7, .long (lI (22102961568097 * (k + 1 + 1)))), (9, .int (iI (k))), (5, .long (lI (22102961568097))), (4, .int (iI (0))), (2, .long (lI (715450762997731793))), (0, .ref (b + 236)), (1, .int z0)]) hx hb d_M_init_265 hl (by decide) rfl (fun ls hl => ?_)
        refine lv_iinc (k := 1) (v := iI (k + 1)) (lv' := [(9, .int (iI (k + 1))), (7, .long (lI (22102961568097 * (k + 1 + 1)))), (5, .long (lI (22102961568097))), (4, .int (iI (0))), (2, .long (lI (715450762997731793))), (0, .ref (b + 236)), (1, .int z0)]) hx hb d_M_init_267 hl rfl (iI_add _ _) (by decide) rfl (fun ls hl => ?_)
        refine lv_goto (tgt := 237) hx hb d_M_init_270 (by decide) ?_
        have hl : lv_has ls 10 [(9, .int (iI (k + 1))), (7, .long (lI (22102961568097 * (k + 1 + 1)))), (5, .long (lI (22102961568097))), (4, .int (iI (0))), (2, .long (lI (715450762997731793))), (0, .ref (b + 236)), (1, .int z0)] := lv_sub hl [0, 1, 2, 3, 4, 5, 6] rfl
        exact ihlu0 (k + 1) H locs ls (by omega) (by omega) (by omega) hP hS hl
  exact lu0 28992 0 H locs ls (by omega) (by omega) (by omega) hP hS hl
