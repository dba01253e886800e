abbrev rm_c_isC : Room := { frames := 0, cells := 0, slots := 0, locals := 0 }
set_option maxHeartbeats 4000000 in
set_option maxRecDepth 100000 in
/-- isCoefficient(x) -/
theorem c_isC (l : Launch) (D : va_G) (ct : Nat → ClassId) (st ke : Nat → Nat) (b N : Nat) (u : Nat → va_E) (x : Int) (hx0 : r32 x) : Met l y_R_isCoefficient (w_R_isCoefficient) rm_c_isC (va_Pc [.int (iI (x))] (fun U => ev D ct st ke b U ∧ va_P D vwCl (wl N b u) U.heap)) (va_Qi (fun (r : Int32) (z : Nat → va_E) => r = iI (inb x 8) ∧ u = z) (fun (z : Nat → va_E) t => va_P D vwCl (wl (N) b (z)) t.heap) (AA b)) 0 0 (AA b) := by
  refine M_z (cc := c9_R_isCoefficient) (maxL := 1) (by decide) rfl (Nat.le_of_ble_eq_true rfl) ?_
  intro p e s m args below meth c Q ls H locs hx hb hml hown hts hnm E hP hS hl ret
  have hl : lv_has ls 1 [(0, .int (iI (x)))] := hl
  have hK := ev_K E
  refine lv_iload_n hx hb d_R_isCoefficient_0 rfl (lv_at hl 0 rfl) ?_
  refine x_if_lt (tgt := 14) hx hb hx0 d_R_isCoefficient_1 (by decide) (fun hc => ?_) (fun hc => ?_)
  · refine lv_iconst (v := iI (0)) hx hb d_R_isCoefficient_14 rfl ?_
    refine x_ie (y := inb x 8) (by rw [inb_o (by omega)]) ?_
    exact ret _ u H locs 15 ls (inb_01 _ _) ⟨rfl, rfl⟩ hP hS d_R_isCoefficient_15
  · refine lv_iload_n hx hb d_R_isCoefficient_4 rfl (lv_at hl 0 rfl) ?_
    refine lv_bipush (v := iI (8)) hx hb d_R_isCoefficient_5 (by decide +kernel) ?_
    refine x_icmp_ge (tgt := 14) hx hb hx0 ⟨by omega, by omega⟩ d_R_isCoefficient_7 (by decide) (fun hc => ?_) (fun hc => ?_)
    · refine lv_iconst (v := iI (0)) hx hb d_R_isCoefficient_14 rfl ?_
      refine x_ie (y := inb x 8) (by rw [inb_o (by omega)]) ?_
      exact ret _ u H locs 15 ls (inb_01 _ _) ⟨rfl, rfl⟩ hP hS d_R_isCoefficient_15
    · refine lv_iconst (v := iI (1)) hx hb d_R_isCoefficient_10 rfl ?_
      refine lv_goto (tgt := 15) hx hb d_R_isCoefficient_11 (by decide) ?_
      refine x_ie (y := inb x 8) (by rw [inb_y (by omega) (by omega)]) ?_
      exact ret _ u H locs 15 ls (inb_01 _ _) ⟨rfl, rfl⟩ hP hS d_R_isCoefficient_15
abbrev rm_c_isGate : Room := { frames := 0, cells := 0, slots := 0, locals := 0 }
set_option maxHeartbeats 4000000 in
set_option maxRecDepth 100000 in
/-- isGate(x) -/
theorem c_isGate (l : Launch) (D : va_G) (ct : Nat → ClassId) (st ke : Nat → Nat) (b N : Nat) (u : Nat → va_E) (hN : 236 ≤ N) (n v : Nat) (hn : n ≤ 24) (hv : v ≤ 24) (f0 : u 0 = ob b n v) (x : Int) (hx0 : r32 x) : Met l y_R_isGate (w_R_isGate) rm_c_isGate (va_Pc [.ref (b + 0), .int (iI (x))] (fun U => ev D ct st ke b U ∧ va_P D vwCl (wl N b u) U.heap)) (va_Qi (fun (r : Int32) (z : Nat → va_E) => r = iI (inb x (n : Int)) ∧ u = z) (fun (z : Nat → va_E) t => va_P D vwCl (wl (N) b (z)) t.heap) (AA b)) 0 0 (AA b) := by
  refine M_z (cc := c9_R_isGate) (maxL := 2) (by decide) rfl (Nat.le_of_ble_eq_true rfl) ?_
  intro p e s m args below meth c Q ls H locs hx hb hml hown hts hnm E hP hS hl ret
  have hl : lv_has ls 2 [(0, .ref (b + 0)), (1, .int (iI (x)))] := hl
  have hK := ev_K E
  have kk0 := hts (.fieldLink "LevelledRing" 31 "LevelledRing" "gateCount" "I") (List.mem_cons_of_mem _ t_177)
  have hinR : ∀ w ∈ u_ws "LevelledRing" T_R 11, w ∈ (w_R_isGate) := hin_R _
  have fr0 : ∀ j : Nat, u j = u j := fun _  => rfl
  refine lv_iload_n hx hb d_R_isGate_0 rfl (lv_at hl 1 rfl) ?_
  refine x_if_lt (tgt := 16) hx hb hx0 d_R_isGate_1 (by decide) (fun hc => ?_) (fun hc => ?_)
  · refine lv_iconst (v := iI (0)) hx hb d_R_isGate_16 rfl ?_
    refine x_ie (y := inb x (n : Int)) (by rw [inb_o (by omega)]) ?_
    exact ret _ u H locs 17 ls (inb_01 _ _) ⟨rfl, rfl⟩ hP hS d_R_isGate_17
  · refine lv_iload_n hx hb d_R_isGate_4 rfl (lv_at hl 1 rfl) ?_
    refine lv_aload_n hx hb d_R_isGate_5 rfl (lv_at hl 0 rfl) ?_
    refine w_get (C := "LevelledRing") (T := T_R) (M := 11) hx hb hts hinR hown hK hP (0) (by omega) f0 rfl 4 (by decide) kk0 (fun _ h => h) rfl d_R_isGate_6 ?_
    refine x_icmp_ge (tgt := 16) hx hb hx0 ⟨by omega, by omega⟩ d_R_isGate_9 (by decide) (fun hc => ?_) (fun hc => ?_)
    · refine lv_iconst (v := iI (0)) hx hb d_R_isGate_16 rfl ?_
      refine x_ie (y := inb x (n : Int)) (by rw [inb_o (by omega)]) ?_
      exact ret _ u H locs 17 ls (inb_01 _ _) ⟨rfl, rfl⟩ hP hS d_R_isGate_17
    · refine lv_iconst (v := iI (1)) hx hb d_R_isGate_12 rfl ?_
      refine lv_goto (tgt := 17) hx hb d_R_isGate_13 (by decide) ?_
      refine x_ie (y := inb x (n : Int)) (by rw [inb_y (by omega) (by omega)]) ?_
      exact ret _ u H locs 17 ls (inb_01 _ _) ⟨rfl, rfl⟩ hP hS d_R_isGate_17
abbrev rm_c_hasValue : Room := { frames := 0, cells := 0, slots := 0, locals := 0 }
set_option maxHeartbeats 4000000 in
set_option maxRecDepth 100000 in
/-- hasValue(x) -/
theorem c_hasValue (l : Launch) (D : va_G) (ct : Nat → ClassId) (st ke : Nat → Nat) (b N : Nat) (u : Nat → va_E) (hN : 236 ≤ N) (n v : Nat) (hn : n ≤ 24) (hv : v ≤ 24) (f0 : u 0 = ob b n v) (x : Int) (hx0 : r32 x) : Met l y_R_hasValue (w_R_hasValue) rm_c_hasValue (va_Pc [.ref (b + 0), .int (iI (x))] (fun U => ev D ct st ke b U ∧ va_P D vwCl (wl N b u) U.heap)) (va_Qi (fun (r : Int32) (z : Nat → va_E) => r = iI (inb x (v : Int)) ∧ u = z) (fun (z : Nat → va_E) t => va_P D vwCl (wl (N) b (z)) t.heap) (AA b)) 0 0 (AA b) := by
  refine M_z (cc := c9_R_hasValue) (maxL := 2) (by decide) rfl (Nat.le_of_ble_eq_true rfl) ?_
  intro p e s m args below meth c Q ls H locs hx hb hml hown hts hnm E hP hS hl ret
  have hl : lv_has ls 2 [(0, .ref (b + 0)), (1, .int (iI (x)))] := hl
  have hK := ev_K E
  have kk0 := hts (.fieldLink "LevelledRing" 35 "LevelledRing" "valueCount" "I") (List.mem_cons_of_mem _ t_178)
  have hinR : ∀ w ∈ u_ws "LevelledRing" T_R 11, w ∈ (w_R_hasValue) := hin_R _
  have fr0 : ∀ j : Nat, u j = u j := fun _  => rfl
  refine lv_iload_n hx hb d_R_hasValue_0 rfl (lv_at hl 1 rfl) ?_
  refine x_if_lt (tgt := 16) hx hb hx0 d_R_hasValue_1 (by decide) (fun hc => ?_) (fun hc => ?_)
  · refine lv_iconst (v := iI (0)) hx hb d_R_hasValue_16 rfl ?_
    refine x_ie (y := inb x (v : Int)) (by rw [inb_o (by omega)]) ?_
    exact ret _ u H locs 17 ls (inb_01 _ _) ⟨rfl, rfl⟩ hP hS d_R_hasValue_17
  · refine lv_iload_n hx hb d_R_hasValue_4 rfl (lv_at hl 1 rfl) ?_
    refine lv_aload_n hx hb d_R_hasValue_5 rfl (lv_at hl 0 rfl) ?_
    refine w_get (C := "LevelledRing") (T := T_R) (M := 11) hx hb hts hinR hown hK hP (0) (by omega) f0 rfl 5 (by decide) kk0 (fun _ h => h) rfl d_R_hasValue_6 ?_
    refine x_icmp_ge (tgt := 16) hx hb hx0 ⟨by omega, by omega⟩ d_R_hasValue_9 (by decide) (fun hc => ?_) (fun hc => ?_)
    · refine lv_iconst (v := iI (0)) hx hb d_R_hasValue_16 rfl ?_
      refine x_ie (y := inb x (v : Int)) (by rw [inb_o (by omega)]) ?_
      exact ret _ u H locs 17 ls (inb_01 _ _) ⟨rfl, rfl⟩ hP hS d_R_hasValue_17
    · refine lv_iconst (v := iI (1)) hx hb d_R_hasValue_12 rfl ?_
      refine lv_goto (tgt := 17) hx hb d_R_hasValue_13 (by decide) ?_
      refine x_ie (y := inb x (v : Int)) (by rw [inb_y (by omega) (by omega)]) ?_
      exact ret _ u H locs 17 ls (inb_01 _ _) ⟨rfl, rfl⟩ hP hS d_R_hasValue_17
abbrev rm_c_put : Room := { frames := 1, cells := 0, slots := 0, locals := 23 }
set_option maxHeartbeats 4000000 in
set_option maxRecDepth 100000 in
/-- put(x, y) -/
theorem c_put (l : Launch) (D : va_G) (ct : Nat → ClassId) (st ke : Nat → Nat) (b N : Nat) (u : Nat → va_E) (hN : 236 ≤ N) (K : Ky) (n v : Nat) (msg : Int → Int) (G : Int → Gt) (V : Int → Val) (hC : CS ct b ke u K n v msg G V) (hI : PI n v msg G V) (x y : Int) (hx0 : r32 x) (hy0 : r32 y) : Met l y_R_put (w_R_put) rm_c_put (va_Pc [.ref (b + 0), .int (iI (x)), .int (iI (y))] (fun U => ev D ct st ke b U ∧ va_P D vwCl (wl N b u) U.heap)) (va_Qi (fun (r : Int32) (z : Nat → va_E) => r = iI (inb x 8) ∧ CS ct b ke z K n v (putm msg x y) G V ∧ ∀ j : Nat, j ≠ 3 → z j = u j) (fun (z : Nat → va_E) t => va_P D vwCl (wl (N) b (z)) t.heap) (AA b)) 0 0 (AA b) := by
  refine M_z (cc := c9_R_put) (maxL := 3) (by decide) rfl (Nat.le_of_ble_eq_true rfl) ?_
  intro p e s m args below meth c Q ls H locs hx hb hml hown hts hnm E hP hS hl ret
  have hl : lv_has ls 3 [(0, .ref (b + 0)), (1, .int (iI (x))), (2, .int (iI (y)))] := hl
  have hK := ev_K E
  have kk0 := hts (.fieldLink "LevelledRing" 21 "LevelledRing" "message" "LLevelledRing$Poly;") (List.mem_cons_of_mem _ t_175)
  have hinR : ∀ w ∈ u_ws "LevelledRing" T_R 11, w ∈ (w_R_put) := hin_R _
  have kk2 := hts (.fieldLink "LevelledRing" 75 "LevelledRing$Poly" "c" "[I") (List.mem_cons_of_mem _ t_39)
  have hinP : ∀ w ∈ u_ws "LevelledRing$Poly" T_P 2, w ∈ (w_R_put) := hin_P _
  have fr0 : ∀ j : Nat, (j ≠ 3) → u j = u j := fun _ _ => rfl
  have hC9 := hC
  have hn24 := hI.1
  have hvn := hI.2.1
  obtain ⟨hO, hSC, hSV, ⟨gf, hgr, hgf⟩, hKS, hGC⟩ := hC
  obtain ⟨hm0, mg, hm1, hm2⟩ := hSV
  refine lv_iload_n hx hb d_R_put_0 rfl (lv_at hl 1 rfl) ?_
  refine w_calli (va_runS (As := [.int (iI (x))]) (rest := []) ⟨hx, hb, hml, hown, hts⟩ (c_isC l D ct st ke b N u (x) hx0) (cwS 1 hts (gS t_211 t_212 t_1 t_213) rfl rfl rfl (by decide +kernel) ⟨Nat.le_of_ble_eq_true rfl, Nat.le_of_ble_eq_true rfl⟩) (pre_S E hP hS) rfl rfl hl.1 rfl (lv_room (Nat.le_of_ble_eq_true rfl)) d_R_put_1 ⟨(Nat.le_of_ble_eq_true rfl), (Nat.le_of_ble_eq_true rfl)⟩) hS (fun r2 z1 H locs hz hP hS => ?_)
  obtain ⟨rfl, rfl⟩ := hz
  have hi01 := inb_01 (x) 8
  refine x_if_ne (tgt := 9) hx hb ⟨by omega, by omega⟩ d_R_put_4 (by decide) (fun hc => ?_) (fun hc => ?_)
  · have hx8 := inb_n hc
    refine lv_aload_n hx hb d_R_put_9 rfl (lv_at hl 0 rfl) ?_
    refine w_get (C := "LevelledRing") (T := T_R) (M := 11) hx hb hts hinR hown hK hP (0) (by omega) hO rfl 2 (by decide) kk0 (fun _ h => h) rfl d_R_put_10 ?_
    refine w_get (C := "LevelledRing$Poly") (T := T_P) (M := 2) hx hb hts hinP hown hK hP (2) (by omega) hm0 rfl 1 (by decide) kk2 (fun _ h => h) rfl d_R_put_13 ?_
    refine lv_iload_n hx hb d_R_put_16 rfl (lv_at hl 1 rfl) ?_
    refine lv_iload_n hx hb d_R_put_17 rfl (lv_at hl 2 rfl) ?_
    refine x_i2l hx hb hy0 d_R_put_18 ?_
    refine lv_bipush (v := iI (17)) hx hb d_R_put_19 (by decide +kernel) ?_
    refine w_calli (va_runS (As := [.long (lI (y)), .int (iI (17))]) (rest := [.int (iI (x)), .ref (b + 3)]) ⟨hx, hb, hml, hown, hts⟩ (c_modulo l D ct st ke b N u (y) (17) ⟨by have := hy0.1; omega, by have := hy0.2; omega⟩ (by decide) (by decide)) (cwS 2 hts (gS t_214 t_99 t_1 t_100) rfl rfl rfl (by decide +kernel) ⟨Nat.le_of_ble_eq_true rfl, Nat.le_of_ble_eq_true rfl⟩) (pre_S E hP hS) rfl rfl hl.1 rfl (lv_room (Nat.le_of_ble_eq_true rfl)) d_R_put_21 ⟨(Nat.le_of_ble_eq_true rfl), (Nat.le_of_ble_eq_true rfl)⟩) hS (fun r4 z3 H locs hz hP hS => ?_)
    obtain ⟨rfl, rfl⟩ := hz
    refine w_iast hx hb hK hP hS (3) (by omega) hm1 (by omega) (by omega) (by omega) d_R_put_24 (fun H locs hP hS => ?_)
    obtain ⟨u5, hu6, hP⟩ : ∃ zz : Nat → va_E, zz = va_up u 3 (ir ct 8 (zu mg (x) ((y) % (17)))) ∧ va_P D vwCl (wl N b zz) H := ⟨_, rfl, hP⟩
    have ff7 : u5 0 = .inr (5, [.ref (b + 1), .ref (b + 21), .ref (b + 2), .ref (b + 4), .int (iI ((n : Int))), .int (iI ((v : Int))), .ref (b + 5), .ref (b + 10), .ref (b + 15), .ref (b + 17), .ref (b + 19)]) := (congrFun hu6 _).trans ((up_n (by omega)).trans hO)
    have ff8 : u5 4 = qr ct 3 24 (gf) := (congrFun hu6 _).trans ((up_n (by omega)).trans hgr)
    have ff9 : u5 2 = .inr (3, [.int (iI (1)), .ref (b + 3)]) := (congrFun hu6 _).trans ((up_n (by omega)).trans hm0)
    have ff10 : u5 3 = ir ct 8 (zu mg (x) ((y) % (17))) := (congrFun hu6 _).trans up_s
    have fr11 : ∀ j : Nat, (j ≠ 3) → u5 j = u j := fun j h0 => (congrFun hu6 j).trans ((up_n (by omega)).trans (fr0 j h0))
    refine lv_iconst (v := iI (1)) hx hb d_R_put_25 rfl ?_
    refine x_ie (y := inb x 8) (inb_y hx8.1 hx8.2).symm ?_
    refine ret _ u5 H locs 26 ls (inb_01 _ _) ⟨rfl, ⟨ff7, hSC.of fun j h1 h2 h3 h4 h5 => fr11 j h4, ⟨ff9, _, ff10, fun i h1 h2 => ?_⟩, ⟨gf, ff8, hgf⟩, hKS.of fun j h1 h2 => fr11 j (by omega), hGC.of hn24 (by omega) fun j h1 h2 => fr11 j (by omega)⟩, fr11⟩ hP hS d_R_put_26
    unfold putm
    rw [if_pos hx8]
    unfold zu
    split
    · rfl
    · exact hm2 i h1 h2
  · refine lv_iconst (v := iI (0)) hx hb d_R_put_7 rfl ?_
    refine x_ie (y := inb x 8) hc.symm ?_
    exact ret _ u H locs 8 ls (inb_01 _ _) ⟨rfl, (by unfold putm; rw [if_neg (inb_z hc)]; exact hC9), fun _ _ => rfl⟩ hP hS d_R_put_8
abbrev rm_c_count : Room := { frames := 0, cells := 0, slots := 0, locals := 0 }
set_option maxHeartbeats 4000000 in
set_option maxRecDepth 100000 in
/-- count() -/
theorem c_count (l : Launch) (D : va_G) (ct : Nat → ClassId) (st ke : Nat → Nat) (b N : Nat) (u : Nat → va_E) (hN : 236 ≤ N) (n v : Nat) (f0 : u 0 = ob b n v) : Met l y_R_count (w_R_count) rm_c_count (va_Pc [.ref (b + 0)] (fun U => ev D ct st ke b U ∧ va_P D vwCl (wl N b u) U.heap)) (va_Qi (fun (r : Int32) (z : Nat → va_E) => r = iI ((n : Int)) ∧ u = z) (fun (z : Nat → va_E) t => va_P D vwCl (wl (N) b (z)) t.heap) (AA b)) 0 0 (AA b) := by
  refine M_i (cc := c9_R_count) (maxL := 1) (by decide) rfl (Nat.le_of_ble_eq_true rfl) ?_
  intro p e s m args below meth c Q ls H locs hx hb hml hown hts hnm E hP hS hl ret
  have hl : lv_has ls 1 [(0, .ref (b + 0))] := hl
  have hK := ev_K E
  have kk0 := hts (.fieldLink "LevelledRing" 31 "LevelledRing" "gateCount" "I") (List.mem_cons_of_mem _ t_177)
  have hinR : ∀ w ∈ u_ws "LevelledRing" T_R 11, w ∈ (w_R_count) := hin_R _
  have fr0 : ∀ j : Nat, u j = u j := fun _  => rfl
  refine lv_aload_n hx hb d_R_count_0 rfl (lv_at hl 0 rfl) ?_
  refine w_get (C := "LevelledRing") (T := T_R) (M := 11) hx hb hts hinR hown hK hP (0) (by omega) f0 rfl 4 (by decide) kk0 (fun _ h => h) rfl d_R_count_1 ?_
  exact ret _ u H locs 4 ls ⟨rfl, rfl⟩ hP hS d_R_count_4
abbrev rm_c_keepGate : Room := { frames := 0, cells := 0, slots := 0, locals := 0 }
set_option maxHeartbeats 4000000 in
set_option maxRecDepth 100000 in
/-- keepGate() -/
theorem c_keepGate (l : Launch) (D : va_G) (ct : Nat → ClassId) (st ke : Nat → Nat) (b N : Nat) (u : Nat → va_E) (hN : 236 ≤ N) (n v : Nat) (f0 : u 0 = ob b n v) : Met l y_R_keepGate (w_R_keepGate) rm_c_keepGate (va_Pc [.ref (b + 0)] (fun U => ev D ct st ke b U ∧ va_P D vwCl (wl N b u) U.heap)) (va_Qi (fun (r : Int32) (z : Nat → va_E) => r = iI (n : Int) ∧ z 0 = ob b ((n + 1 : Nat) : Int) v ∧ ∀ j : Nat, j ≠ 0 → z j = u j) (fun (z : Nat → va_E) t => va_P D vwCl (wl (N) b (z)) t.heap) (AA b)) 0 0 (AA b) := by
  refine M_i (cc := c9_R_keepGate) (maxL := 1) (by decide) rfl (Nat.le_of_ble_eq_true rfl) ?_
  intro p e s m args below meth c Q ls H locs hx hb hml hown hts hnm E hP hS hl ret
  have hl : lv_has ls 1 [(0, .ref (b + 0))] := hl
  have hK := ev_K E
  have kk0 := hts (.fieldLink "LevelledRing" 31 "LevelledRing" "gateCount" "I") (List.mem_cons_of_mem _ t_177)
  have hinR : ∀ w ∈ u_ws "LevelledRing" T_R 11, w ∈ (w_R_keepGate) := hin_R _
  have fr0 : ∀ j : Nat, (j ≠ 0) → u j = u j := fun _ _ => rfl
  refine lv_aload_n hx hb d_R_keepGate_0 rfl (lv_at hl 0 rfl) ?_
  refine lv_dup hx hb d_R_keepGate_1 rfl ?_
  refine w_get (C := "LevelledRing") (T := T_R) (M := 11) hx hb hts hinR hown hK hP (0) (by omega) f0 rfl 4 (by decide) kk0 (fun _ h => h) rfl d_R_keepGate_2 ?_
  refine lv_iconst (v := iI (1)) hx hb d_R_keepGate_5 rfl ?_
  refine x_iadd hx hb d_R_keepGate_6 ?_
  refine w_put (C := "LevelledRing") (T := T_R) (M := 11) (ty := .int) (v := .int (iI (((n : Int)) + (1)))) hx hb hts hinR ty_R tyok_R nm_R hown hK hP hS (0) (by omega) f0 rfl 4 (by decide) kk0 (fun _ h => h) rfl (by decide +kernel) rfl rfl (Nat.le_of_ble_eq_true rfl) d_R_keepGate_7 (fun H locs hP hS => ?_)
  obtain ⟨u1, hu2, hP⟩ : ∃ zz : Nat → va_E, zz = va_up u 0 (.inr (5, [.ref (b + 1), .ref (b + 21), .ref (b + 2), .ref (b + 4), .int (iI (((n : Int)) + (1))), .int (iI ((v : Int))), .ref (b + 5), .ref (b + 10), .ref (b + 15), .ref (b + 17), .ref (b + 19)])) ∧ va_P D vwCl (wl N b zz) H := ⟨_, rfl, hP⟩
  have ff3 : u1 0 = .inr (5, [.ref (b + 1), .ref (b + 21), .ref (b + 2), .ref (b + 4), .int (iI (((n : Int)) + (1))), .int (iI ((v : Int))), .ref (b + 5), .ref (b + 10), .ref (b + 15), .ref (b + 17), .ref (b + 19)]) := (congrFun hu2 _).trans up_s
  have fr4 : ∀ j : Nat, (j ≠ 0) → u1 j = u j := fun j h0 => (congrFun hu2 j).trans ((up_n (by omega)).trans (fr0 j h0))
  refine lv_aload_n hx hb d_R_keepGate_10 rfl (lv_at hl 0 rfl) ?_
  refine w_get (C := "LevelledRing") (T := T_R) (M := 11) hx hb hts hinR hown hK hP (0) (by omega) ff3 rfl 4 (by decide) kk0 (fun _ h => h) rfl d_R_keepGate_11 ?_
  refine lv_iconst (v := iI (1)) hx hb d_R_keepGate_14 rfl ?_
  refine x_isub hx hb d_R_keepGate_15 ?_
  refine x_ie (y := (n : Int)) (by omega) ?_
  exact ret _ u1 H locs 16 ls ⟨rfl, ff3, fr4⟩ hP hS d_R_keepGate_16
abbrev rm_c_level : Room := { frames := 1, cells := 0, slots := 0, locals := 21 }
set_option maxHeartbeats 4000000 in
set_option maxRecDepth 100000 in
/-- level(x) -/
theorem c_level (l : Launch) (D : va_G) (ct : Nat → ClassId) (st ke : Nat → Nat) (b N : Nat) (u : Nat → va_E) (hN : 236 ≤ N) (K : Ky) (n v : Nat) (msg : Int → Int) (G : Int → Gt) (V : Int → Val) (hC : CS ct b ke u K n v msg G V) (hI : PI n v msg G V) (x : Int) (hx0 : r32 x) : Met l y_R_level (w_R_level) rm_c_level (va_Pc [.ref (b + 0), .int (iI (x))] (fun U => ev D ct st ke b U ∧ va_P D vwCl (wl N b u) U.heap)) (va_Qi (fun (r : Int32) (z : Nat → va_E) => r = iI (if 0 ≤ x ∧ x < v then (V x).1 else -1) ∧ u = z) (fun (z : Nat → va_E) t => va_P D vwCl (wl (N) b (z)) t.heap) (AA b)) 0 0 (AA b) := by
  refine M_i (cc := c9_R_level) (maxL := 2) (by decide) rfl (Nat.le_of_ble_eq_true rfl) ?_
  intro p e s m args below meth c Q ls H locs hx hb hml hown hts hnm E hP hS hl ret
  have hl : lv_has ls 2 [(0, .ref (b + 0)), (1, .int (iI (x)))] := hl
  have hK := ev_K E
  have kk0 := hts (.fieldLink "LevelledRing" 27 "LevelledRing" "gates" "[LLevelledRing$Gate;") (List.mem_cons_of_mem _ t_176)
  have hinR : ∀ w ∈ u_ws "LevelledRing" T_R 11, w ∈ (w_R_level) := hin_R _
  have kk2 := hts (.fieldLink "LevelledRing" 139 "LevelledRing$Gate" "value" "LLevelledRing$Value;") (List.mem_cons_of_mem _ t_159)
  have hinG : ∀ w ∈ u_ws "LevelledRing$Gate" T_G 6, w ∈ (w_R_level) := hin_G _
  have kk4 := hts (.fieldLink "LevelledRing" 142 "LevelledRing$Value" "level" "I") (List.mem_cons_of_mem _ t_57)
  have hinV : ∀ w ∈ u_ws "LevelledRing$Value" T_V 4, w ∈ (w_R_level) := hin_V _
  have hn24 := hI.1
  have hvn := hI.2.1
  obtain ⟨hO, hSC, hSV, ⟨gf, hgr, hgf⟩, hKS, hGC⟩ := hC
  refine lv_aload_n hx hb d_R_level_0 rfl (lv_at hl 0 rfl) ?_
  refine lv_iload_n hx hb d_R_level_1 rfl (lv_at hl 1 rfl) ?_
  refine w_calli (va_runV (As := [.int (iI (x))]) (rest := []) ⟨hx, hb, hml, hown, hts⟩ (c_hasValue l D ct st ke b N u (by omega) n v (by omega) (by omega) hO (x) hx0) (cwV 1 hts (gV t_404 t_406 (tb_sel ((y_R_hasValue), 11) (List.mem_of_getElem? (i := 12) (by decide +kernel))) t_1 t_407) rfl rfl rfl (by decide +kernel) ⟨Nat.le_of_ble_eq_true rfl, Nat.le_of_ble_eq_true rfl⟩) (pre_V E hP hS (0) (by omega) hO rfl) rfl rfl hl.1 rfl (lv_room (Nat.le_of_ble_eq_true rfl)) d_R_level_2 ⟨(Nat.le_of_ble_eq_true rfl), (Nat.le_of_ble_eq_true rfl)⟩) hS (fun r2 z1 H locs hz hP hS => ?_)
  obtain ⟨rfl, rfl⟩ := hz
  have hi01 := inb_01 (x) (v : Int)
  refine x_if_eq (tgt := 23) hx hb ⟨by omega, by omega⟩ d_R_level_5 (by decide) (fun hc => ?_) (fun hc => ?_)
  · refine lv_iconst (v := iI (-1)) hx hb d_R_level_23 rfl ?_
    refine x_ie (y := if 0 ≤ x ∧ x < v then (V x).1 else -1) (by rw [if_neg (inb_z hc)]) ?_
    exact ret _ u H locs 24 ls ⟨rfl, rfl⟩ hP hS d_R_level_24
  · have hxv := inb_n hc
    obtain ⟨g, rfl⟩ := Int.eq_ofNat_of_zero_le hxv.1
    have hgv : g < v := by omega
    obtain ⟨hg0, hg1, gp, hg2, hg3⟩ := hGC.2.1 g (by omega)
    have hv := hGC.2.2 g (by omega)
    rw [show 47 + 8 * g = 44 + 8 * g + 3 by omega] at hv
    obtain ⟨v0, v1, hVR, hR0, hR1⟩ := hv
    refine lv_aload_n hx hb d_R_level_8 rfl (lv_at hl 0 rfl) ?_
    refine w_get (C := "LevelledRing") (T := T_R) (M := 11) hx hb hts hinR hown hK hP (0) (by omega) hO rfl 3 (by decide) kk0 (fun _ h => h) rfl d_R_level_9 ?_
    refine lv_iload_n hx hb d_R_level_12 rfl (lv_at hl 1 rfl) ?_
    refine w_aald (r := b + (44 + 8 * g)) hx hb hK hP (4) (by omega) 3 hgr rfl (by omega) (by omega) (by decide) (hgf g (by omega)) d_R_level_13 ?_
    refine w_get (C := "LevelledRing$Gate") (T := T_G) (M := 6) hx hb hts hinG hown hK hP (44 + 8 * g) (by omega) hg0 rfl 5 (by decide) kk2 (fun _ h => h) rfl d_R_level_14 ?_
    refine w_get (C := "LevelledRing$Value") (T := T_V) (M := 4) hx hb hts hinV hown hK hP (44 + 8 * g + 3) (by omega) hVR.1 rfl 0 (by decide) kk4 (fun _ h => h) rfl d_R_level_17 ?_
    refine lv_goto (tgt := 24) hx hb d_R_level_20 (by decide) ?_
    refine x_ie (y := if 0 ≤ (g : Int) ∧ (g : Int) < v then (V g).1 else -1) (by rw [if_pos hxv]) ?_
    exact ret _ u H locs 24 ls ⟨rfl, rfl⟩ hP hS d_R_level_24
abbrev rm_c_meter : Room := { frames := 1, cells := 0, slots := 0, locals := 21 }
set_option maxHeartbeats 4000000 in
set_option maxRecDepth 100000 in
/-- meter(x) -/
theorem c_meter (l : Launch) (D : va_G) (ct : Nat → ClassId) (st ke : Nat → Nat) (b N : Nat) (u : Nat → va_E) (hN : 236 ≤ N) (K : Ky) (n v : Nat) (msg : Int → Int) (G : Int → Gt) (V : Int → Val) (hC : CS ct b ke u K n v msg G V) (hI : PI n v msg G V) (x : Int) (hx0 : r32 x) : Met l y_R_meter (w_R_meter) rm_c_meter (va_Pc [.ref (b + 0), .int (iI (x))] (fun U => ev D ct st ke b U ∧ va_P D vwCl (wl N b u) U.heap)) (va_Ql (fun (r : Int64) (z : Nat → va_E) => r = lI (if 0 ≤ x ∧ x < v then (V x).2.1 else -1) ∧ u = z) (fun (z : Nat → va_E) t => va_P D vwCl (wl (N) b (z)) t.heap) (AA b)) 0 0 (AA b) := by
  refine M_l (cc := c9_R_meter) (maxL := 2) (by decide) rfl (Nat.le_of_ble_eq_true rfl) ?_
  intro p e s m args below meth c Q ls H locs hx hb hml hown hts hnm E hP hS hl ret
  have hl : lv_has ls 2 [(0, .ref (b + 0)), (1, .int (iI (x)))] := hl
  have hK := ev_K E
  have kk0 := hts (.constantLong "LevelledRing" 149 (-1)) (List.mem_cons_of_mem _ t_412)
  have kk1 := hts (.fieldLink "LevelledRing" 27 "LevelledRing" "gates" "[LLevelledRing$Gate;") (List.mem_cons_of_mem _ t_176)
  have hinR : ∀ w ∈ u_ws "LevelledRing" T_R 11, w ∈ (w_R_meter) := hin_R _
  have kk3 := hts (.fieldLink "LevelledRing" 139 "LevelledRing$Gate" "value" "LLevelledRing$Value;") (List.mem_cons_of_mem _ t_159)
  have hinG : ∀ w ∈ u_ws "LevelledRing$Gate" T_G 6, w ∈ (w_R_meter) := hin_G _
  have kk5 := hts (.fieldLink "LevelledRing" 145 "LevelledRing$Value" "meter" "J") (List.mem_cons_of_mem _ t_59)
  have hinV : ∀ w ∈ u_ws "LevelledRing$Value" T_V 4, w ∈ (w_R_meter) := hin_V _
  have hn24 := hI.1
  have hvn := hI.2.1
  obtain ⟨hO, hSC, hSV, ⟨gf, hgr, hgf⟩, hKS, hGC⟩ := hC
  refine lv_aload_n hx hb d_R_meter_0 rfl (lv_at hl 0 rfl) ?_
  refine lv_iload_n hx hb d_R_meter_1 rfl (lv_at hl 1 rfl) ?_
  refine w_calli (va_runV (As := [.int (iI (x))]) (rest := []) ⟨hx, hb, hml, hown, hts⟩ (c_hasValue l D ct st ke b N u (by omega) n v (by omega) (by omega) hO (x) hx0) (cwV 1 hts (gV t_404 t_406 (tb_sel ((y_R_hasValue), 11) (List.mem_of_getElem? (i := 12) (by decide +kernel))) t_1 t_407) rfl rfl rfl (by decide +kernel) ⟨Nat.le_of_ble_eq_true rfl, Nat.le_of_ble_eq_true rfl⟩) (pre_V E hP hS (0) (by omega) hO rfl) rfl rfl hl.1 rfl (lv_room (Nat.le_of_ble_eq_true rfl)) d_R_meter_2 ⟨(Nat.le_of_ble_eq_true rfl), (Nat.le_of_ble_eq_true rfl)⟩) hS (fun r2 z1 H locs hz hP hS => ?_)
  obtain ⟨rfl, rfl⟩ := hz
  have hi01 := inb_01 (x) (v : Int)
  refine x_if_eq (tgt := 23) hx hb ⟨by omega, by omega⟩ d_R_meter_5 (by decide) (fun hc => ?_) (fun hc => ?_)
  · refine lv_ldc2 hx hb hown kk0 d_R_meter_23 ?_
    refine x_l (y := lI (-1)) (by decide +kernel) ?_
    refine x_le (y := if 0 ≤ x ∧ x < v then (V x).2.1 else -1) (by rw [if_neg (inb_z hc)]) ?_
    exact ret _ u H locs 26 ls ⟨rfl, rfl⟩ hP hS d_R_meter_26
  · have hxv := inb_n hc
    obtain ⟨g, rfl⟩ := Int.eq_ofNat_of_zero_le hxv.1
    obtain ⟨hg0, hg1, gp, hg2, hg3⟩ := hGC.2.1 g (by omega)
    have hv := hGC.2.2 g (by omega)
    rw [show 47 + 8 * g = 44 + 8 * g + 3 by omega] at hv
    obtain ⟨v0, v1, hVR, hR0, hR1⟩ := hv
    refine lv_aload_n hx hb d_R_meter_8 rfl (lv_at hl 0 rfl) ?_
    refine w_get (C := "LevelledRing") (T := T_R) (M := 11) hx hb hts hinR hown hK hP (0) (by omega) hO rfl 3 (by decide) kk1 (fun _ h => h) rfl d_R_meter_9 ?_
    refine lv_iload_n hx hb d_R_meter_12 rfl (lv_at hl 1 rfl) ?_
    refine w_aald (r := b + (44 + 8 * g)) hx hb hK hP (4) (by omega) 3 hgr rfl (by omega) (by omega) (by decide) (hgf g (by omega)) d_R_meter_13 ?_
    refine w_get (C := "LevelledRing$Gate") (T := T_G) (M := 6) hx hb hts hinG hown hK hP (44 + 8 * g) (by omega) hg0 rfl 5 (by decide) kk3 (fun _ h => h) rfl d_R_meter_14 ?_
    refine w_get (C := "LevelledRing$Value") (T := T_V) (M := 4) hx hb hts hinV hown hK hP (44 + 8 * g + 3) (by omega) hVR.1 rfl 1 (by decide) kk5 (fun _ h => h) rfl d_R_meter_17 ?_
    refine lv_goto (tgt := 26) hx hb d_R_meter_20 (by decide) ?_
    refine x_le (y := if 0 ≤ (g : Int) ∧ (g : Int) < v then (V g).2.1 else -1) (by rw [if_pos hxv]) ?_
    exact ret _ u H locs 26 ls ⟨rfl, rfl⟩ hP hS d_R_meter_26
abbrev rm_c_plain : Room := { frames := 1, cells := 0, slots := 0, locals := 21 }
set_option maxHeartbeats 4000000 in
set_option maxRecDepth 100000 in
/-- plain(x, y) -/
theorem c_plain (l : Launch) (D : va_G) (ct : Nat → ClassId) (st ke : Nat → Nat) (b N : Nat) (u : Nat → va_E) (hN : 236 ≤ N) (K : Ky) (n v : Nat) (msg : Int → Int) (G : Int → Gt) (V : Int → Val) (hC : CS ct b ke u K n v msg G V) (hI : PI n v msg G V) (x y : Int) (hx0 : r32 x) (hy0 : r32 y) : Met l y_R_plain (w_R_plain) rm_c_plain (va_Pc [.ref (b + 0), .int (iI (x)), .int (iI (y))] (fun U => ev D ct st ke b U ∧ va_P D vwCl (wl N b u) U.heap)) (va_Qi (fun (r : Int32) (z : Nat → va_E) => r = iI (if (0 ≤ x ∧ x < n) ∧ 0 ≤ y ∧ y < 8 then (G x).2.2.2.2 y else -1) ∧ u = z) (fun (z : Nat → va_E) t => va_P D vwCl (wl (N) b (z)) t.heap) (AA b)) 0 0 (AA b) := by
  refine M_i (cc := c9_R_plain) (maxL := 3) (by decide) rfl (Nat.le_of_ble_eq_true rfl) ?_
  intro p e s m args below meth c Q ls H locs hx hb hml hown hts hnm E hP hS hl ret
  have hl : lv_has ls 3 [(0, .ref (b + 0)), (1, .int (iI (x))), (2, .int (iI (y)))] := hl
  have hK := ev_K E
  have kk0 := hts (.fieldLink "LevelledRing" 27 "LevelledRing" "gates" "[LLevelledRing$Gate;") (List.mem_cons_of_mem _ t_176)
  have hinR : ∀ w ∈ u_ws "LevelledRing" T_R 11, w ∈ (w_R_plain) := hin_R _
  have kk2 := hts (.fieldLink "LevelledRing" 93 "LevelledRing$Gate" "plain" "LLevelledRing$Poly;") (List.mem_cons_of_mem _ t_157)
  have hinG : ∀ w ∈ u_ws "LevelledRing$Gate" T_G 6, w ∈ (w_R_plain) := hin_G _
  have kk4 := hts (.fieldLink "LevelledRing" 75 "LevelledRing$Poly" "c" "[I") (List.mem_cons_of_mem _ t_39)
  have hinP : ∀ w ∈ u_ws "LevelledRing$Poly" T_P 2, w ∈ (w_R_plain) := hin_P _
  have hn24 := hI.1
  have hvn := hI.2.1
  obtain ⟨hO, hSC, hSV, ⟨gf, hgr, hgf⟩, hKS, hGC⟩ := hC
  refine lv_aload_n hx hb d_R_plain_0 rfl (lv_at hl 0 rfl) ?_
  refine lv_iload_n hx hb d_R_plain_1 rfl (lv_at hl 1 rfl) ?_
  refine w_calli (va_runV (As := [.int (iI (x))]) (rest := []) ⟨hx, hb, hml, hown, hts⟩ (c_isGate l D ct st ke b N u (by omega) n v (by omega) (by omega) hO (x) hx0) (cwV 1 hts (gV t_248 t_250 (tb_sel ((y_R_isGate), 11) (List.mem_of_getElem? (i := 3) (by decide +kernel))) t_1 t_251) rfl rfl rfl (by decide +kernel) ⟨Nat.le_of_ble_eq_true rfl, Nat.le_of_ble_eq_true rfl⟩) (pre_V E hP hS (0) (by omega) hO rfl) rfl rfl hl.1 rfl (lv_room (Nat.le_of_ble_eq_true rfl)) d_R_plain_2 ⟨(Nat.le_of_ble_eq_true rfl), (Nat.le_of_ble_eq_true rfl)⟩) hS (fun r2 z1 H locs hz hP hS => ?_)
  obtain ⟨rfl, rfl⟩ := hz
  have hi01 := inb_01 (x) (n : Int)
  refine x_if_eq (tgt := 32) hx hb ⟨by omega, by omega⟩ d_R_plain_5 (by decide) (fun hc => ?_) (fun hc => ?_)
  · refine lv_iconst (v := iI (-1)) hx hb d_R_plain_32 rfl ?_
    refine x_ie (y := if (0 ≤ x ∧ x < n) ∧ 0 ≤ y ∧ y < 8 then (G x).2.2.2.2 y else -1) (by rw [if_neg (fun h => inb_z hc h.1)]) ?_
    exact ret _ u H locs 33 ls ⟨rfl, rfl⟩ hP hS d_R_plain_33
  · have hxv := inb_n hc
    refine lv_iload_n hx hb d_R_plain_8 rfl (lv_at hl 2 rfl) ?_
    refine w_calli (va_runS (As := [.int (iI (y))]) (rest := []) ⟨hx, hb, hml, hown, hts⟩ (c_isC l D ct st ke b N u (y) hy0) (cwS 1 hts (gS t_211 t_212 t_1 t_213) rfl rfl rfl (by decide +kernel) ⟨Nat.le_of_ble_eq_true rfl, Nat.le_of_ble_eq_true rfl⟩) (pre_S E hP hS) rfl rfl hl.1 rfl (lv_room (Nat.le_of_ble_eq_true rfl)) d_R_plain_9 ⟨(Nat.le_of_ble_eq_true rfl), (Nat.le_of_ble_eq_true rfl)⟩) hS (fun r4 z3 H locs hz hP hS => ?_)
    obtain ⟨rfl, rfl⟩ := hz
    have hi01 := inb_01 (y) 8
    refine x_if_eq (tgt := 32) hx hb ⟨by omega, by omega⟩ d_R_plain_12 (by decide) (fun hc => ?_) (fun hc => ?_)
    · refine lv_iconst (v := iI (-1)) hx hb d_R_plain_32 rfl ?_
      refine x_ie (y := if (0 ≤ x ∧ x < n) ∧ 0 ≤ y ∧ y < 8 then (G x).2.2.2.2 y else -1) (by rw [if_neg (fun h => inb_z hc h.2)]) ?_
      exact ret _ u H locs 33 ls ⟨rfl, rfl⟩ hP hS d_R_plain_33
    · have hyv := inb_n hc
      obtain ⟨g, rfl⟩ := Int.eq_ofNat_of_zero_le hxv.1
      obtain ⟨hg0, hg1, gp, hg2, hg3⟩ := hGC.2.1 g (by omega)
      refine lv_aload_n hx hb d_R_plain_15 rfl (lv_at hl 0 rfl) ?_
      refine w_get (C := "LevelledRing") (T := T_R) (M := 11) hx hb hts hinR hown hK hP (0) (by omega) hO rfl 3 (by decide) kk0 (fun _ h => h) rfl d_R_plain_16 ?_
      refine lv_iload_n hx hb d_R_plain_19 rfl (lv_at hl 1 rfl) ?_
      refine w_aald (r := b + (44 + 8 * g)) hx hb hK hP (4) (by omega) 3 hgr rfl (by omega) (by omega) (by decide) (hgf g (by omega)) d_R_plain_20 ?_
      refine w_get (C := "LevelledRing$Gate") (T := T_G) (M := 6) hx hb hts hinG hown hK hP (44 + 8 * g) (by omega) hg0 rfl 4 (by decide) kk2 (fun _ h => h) rfl d_R_plain_21 ?_
      refine w_get (C := "LevelledRing$Poly") (T := T_P) (M := 2) hx hb hts hinP hown hK hP (44 + 8 * g + 1) (by omega) hg1 rfl 1 (by decide) kk4 (fun _ h => h) rfl d_R_plain_24 ?_
      refine lv_iload_n hx hb d_R_plain_27 rfl (lv_at hl 2 rfl) ?_
      refine w_iald hx hb hK hP (44 + 8 * g + 2) (by omega) hg2 (by omega) (by omega) (by omega) d_R_plain_28 ?_
      refine x_ie (y := if (0 ≤ (g : Int) ∧ (g : Int) < n) ∧ 0 ≤ y ∧ y < 8 then (G (g : Int)).2.2.2.2 y else -1) (by rw [if_pos ⟨hxv, hyv⟩]; exact hg3 y hyv.1 hyv.2) ?_
      refine lv_goto (tgt := 33) hx hb d_R_plain_29 (by decide) ?_
      exact ret _ u H locs 33 ls ⟨rfl, rfl⟩ hP hS d_R_plain_33
