abbrev rm_c_lower : Room := { frames := 1, cells := 0, slots := 0, locals := 25 }
set_option maxHeartbeats 4000000 in
set_option maxRecDepth 100000 in
/-- lower(w0) -/
theorem c_lower (l : Launch) (D : va_G) (ct : Nat → ClassId) (st ke : Nat → Nat) (b N : Nat) (u : Nat → va_E) (hN : 254 ≤ N) (z0 : Int32) (cnt : Int) (hM : u 236 = mo b z0 cnt) (hMK : MK ct u) (g wv wm : Int → Int) (f1 : u 237 = lr ct 512 g) (f4 : u 251 = ir ct 2 wv) (f5 : u 252 = lr ct 2 wm) (w0 : Int) (hw0 : 0 ≤ w0) (hw1 : w0 ≤ 1) (l1 mt : Int) (hlv : wv w0 = l1) (hmv : wm w0 = mt) (hl0 : 0 ≤ l1) (hl3 : l1 ≤ 3) (hm0 : 0 ≤ mt) (hm1 : mt ≤ 4000000000000000000) (hR : ∀ i : Int, 0 ≤ i → i < 16 → 0 ≤ g (8 * (56 + 2 * w0) + i) ∧ g (8 * (56 + 2 * w0) + i) < lQ l1) : Met l y_M_lower (w_M_lower) rm_c_lower (va_Pc [.ref (b + 236), .int (iI (w0))] (fun U => ev D ct st ke b U ∧ va_P D vwCl (wl N b u) U.heap)) (va_Qi (fun (r : Int32) (z : Nat → va_E) => (l1 = 0 ∧ r = iI 0 ∧ u = z) ∨ (0 < l1 ∧ r = iI (1 - tg (l1 - 1) (mt / lq l1 + 77)) ∧ ∃ g2 : Int → Int, z 237 = lr ct 512 g2 ∧ z 251 = ir ct 2 (zu wv w0 (l1 - 1)) ∧ z 252 = lr ct 2 (zu wm w0 (mt / lq l1 + 77)) ∧ (∀ i : Int, 0 ≤ i → i < 16 → g2 (8 * (56 + 2 * w0) + i) = low l1 (g (8 * (56 + 2 * w0) + i)) % lQ (l1 - 1)) ∧ (∀ j : Int, (j < 8 * (56 + 2 * w0) ∨ 8 * (56 + 2 * w0) + 16 ≤ j) → g2 j = g j) ∧ ∀ j : Nat, j ≠ 237 → j ≠ 251 → j ≠ 252 → z j = u j)) (fun (z : Nat → va_E) t => va_P D vwCl (wl (N) b (z)) t.heap) (AA b)) 0 0 (AA b) := by
  refine M_z (cc := c9_M_lower) (maxL := 12) (by decide) rfl (Nat.le_of_ble_eq_true rfl) ?_
  intro p e s m args below meth c Q ls H locs hx hb hml hown hts hnm E hP hS hl ret
  have hl : lv_has ls 12 [(0, .ref (b + 236)), (1, .int (iI (w0)))] := hl
  have hK := ev_K E
  have kk0 := hts (.fieldLink "LevelledRingModel" 54 "LevelledRingModel" "workLevel" "[I") (List.mem_cons_of_mem _ t_509)
  have hinM : ∀ w ∈ u_ws "LevelledRingModel" T_M 19, w ∈ (w_M_lower) := hin_M _
  have kk2 := hts (.fieldLink "LevelledRingModel" 13 "LevelledRingModel" "prime" "[I") (List.mem_cons_of_mem _ t_494)
  have kk3 := hts (.fieldLink "LevelledRingModel" 57 "LevelledRingModel" "workMeter" "[J") (List.mem_cons_of_mem _ t_510)
  have kk4 := hts (.constantLong "LevelledRingModel" 126 77) (List.mem_cons_of_mem _ t_649)
  have kk5 := hts (.fieldLink "LevelledRingModel" 7 "LevelledRingModel" "row" "[J") (List.mem_cons_of_mem _ t_493)
  have kk6 := hts (.constantLong "LevelledRingModel" 122 (-8)) (List.mem_cons_of_mem _ t_647)
  have kk7 := hts (.constantLong "LevelledRingModel" 124 8) (List.mem_cons_of_mem _ t_648)
  have kk8 := hts (.fieldLink "LevelledRingModel" 17 "LevelledRingModel" "big" "[J") (List.mem_cons_of_mem _ t_495)
  have kk9 := hts (.constantLong "LevelledRingModel" 96 17) (List.mem_cons_of_mem _ t_557)
  have fr0 : ∀ j : Nat, (j ≠ 237) → (j ≠ 251) → (j ≠ 252) → u j = u j := fun _ _ _ _ => rfl
  have hMK9 := hMK
  obtain ⟨⟨pr, hp1, hp2⟩, ⟨bg, hb1, hb2⟩, ut, hu1, hu2⟩ := hMK
  refine lv_aload_n hx hb d_M_lower_0 rfl (lv_at hl 0 rfl) ?_
  refine w_get (C := "LevelledRingModel") (T := T_M) (M := 19) hx hb hts hinM hown hK hP (236) (by omega) hM rfl 16 (by decide) kk0 (fun _ h => h) rfl d_M_lower_1 ?_
  refine lv_iload_n hx hb d_M_lower_4 rfl (lv_at hl 1 rfl) ?_
  refine w_iald hx hb hK hP (251) (by omega) f4 (by omega) (by omega) (by omega) d_M_lower_5 ?_
  refine x_ie (y := l1) (hlv) ?_
  refine lv_istore_n (lv' := [(2, .int (iI (l1))), (0, .ref (b + 236)), (1, .int (iI (w0)))]) hx hb d_M_lower_6 rfl hl (by decide) rfl (fun ls hl => ?_)
  refine lv_iload_n hx hb d_M_lower_7 rfl (lv_at hl 0 rfl) ?_
  refine x_if_ne (tgt := 13) hx hb ⟨by omega, by omega⟩ d_M_lower_8 (by decide) (fun hc => ?_) (fun hc => ?_)
  · have hlq := lq_bd l1
    have hlQ := lQ_bd l1
    refine lv_aload_n hx hb d_M_lower_13 rfl (lv_at hl 1 rfl) ?_
    refine w_get (C := "LevelledRingModel") (T := T_M) (M := 19) hx hb hts hinM hown hK hP (236) (by omega) hM rfl 1 (by decide) kk2 (fun _ h => h) rfl d_M_lower_14 ?_
    refine lv_iload_n hx hb d_M_lower_17 rfl (lv_at hl 0 rfl) ?_
    refine w_iald hx hb hK hP (238) (by omega) hp1 (by omega) (by omega) (by omega) d_M_lower_18 ?_
    refine x_ie (y := lq l1) (hp2 l1 hl0 hl3) ?_
    refine lv_istore_n (lv' := [(3, .int (iI (lq l1))), (2, .int (iI (l1))), (0, .ref (b + 236)), (1, .int (iI (w0)))]) hx hb d_M_lower_19 rfl hl (by decide) rfl (fun ls hl => ?_)
    refine lv_iconst (v := iI (0)) hx hb d_M_lower_20 rfl ?_
    refine lv_istore (lv' := [(4, .int (iI (0))), (3, .int (iI (lq l1))), (2, .int (iI (l1))), (0, .ref (b + 236)), (1, .int (iI (w0)))]) hx hb d_M_lower_21 hl (by decide) rfl (fun ls hl => ?_)
    have lo : ∀ (d : Nat) (i : Int) (g2 : Int → Int) (w1 : Nat → va_E) (H : Heap) (locs : List Loc) (ls : Array Slot), (0 ≤ i) → (i ≤ 16) → (16 - i < d) → (∀ q : Int, 0 ≤ q → q < i → g2 (8 * (56 + 2 * w0) + q) = low l1 (g (8 * (56 + 2 * w0) + q)) % lQ (l1 - 1)) → (∀ j : Int, (j < 8 * (56 + 2 * w0) ∨ 8 * (56 + 2 * w0) + i ≤ j) → g2 j = g j) → w1 237 = lr ct 512 (g2) → w1 251 = ir ct 2 (wv) → w1 252 = lr ct 2 (wm) → (∀ j : Nat, (j ≠ 237) → (j ≠ 251) → (j ≠ 252) → w1 j = u j) → va_P D vwCl (wl N b w1) H → va_S (AA b) s.heap H locs → lv_has ls 12 [(4, .int (iI (i))), (3, .int (iI (lq l1))), (2, .int (iI (l1))), (0, .ref (b + 236)), (1, .int (iI (w0)))] → W p l e rm_c_lower s m args below meth c H locs 0 0 Q (F0 m 23 ls []) := by
      intro d
      induction d with
      | zero => intro i g2 w1 H locs ls h0 h1 hd hg hk fg2 fg3 fg4 fr5 hP hS hl; exfalso; omega
      | succ d ihlo =>
        intro i g2 w1 H locs ls h0 h1 hd hg hk fg2 fg3 fg4 fr5 hP hS hl
        have ff6 : w1 236 = .inr (6, [.ref (b + 237), .ref (b + 238), .ref (b + 239), .ref (b + 240), .ref (b + 241), .ref (b + 242), .int (z0), .ref (b + 243), .int (iI (cnt)), .ref (b + 244), .ref (b + 245), .ref (b + 246), .ref (b + 247), .ref (b + 248), .ref (b + 249), .ref (b + 250), .ref (b + 251), .ref (b + 252), .ref (b + 253)]) := (fr5 236 (by omega) (by omega) (by omega)).trans hM
        have ff7 : w1 238 = ir ct 4 (pr) := (fr5 238 (by omega) (by omega) (by omega)).trans hp1
        have ff8 : w1 239 = lr ct 4 (bg) := (fr5 239 (by omega) (by omega) (by omega)).trans hb1
        have ff9 : w1 240 = lr ct 4 (ut) := (fr5 240 (by omega) (by omega) (by omega)).trans hu1
        refine lv_iload hx hb d_M_lower_23 (lv_at hl 0 rfl) ?_
        refine lv_bipush (v := iI (16)) hx hb d_M_lower_25 (by decide +kernel) ?_
        refine x_icmp_ge (tgt := 159) hx hb ⟨by omega, by omega⟩ ⟨by omega, by omega⟩ d_M_lower_27 (by decide) (fun hc => ?_) (fun hc => ?_)
        · obtain rfl : i = 16 := by omega
          have hdv0 : 0 ≤ mt / lq l1 := Int.ediv_nonneg hm0 (by omega)
          have hdv1 : mt / lq l1 ≤ mt := Int.ediv_le_self _ hm0
          refine lv_aload_n hx hb d_M_lower_159 rfl (lv_at hl 3 rfl) ?_
          refine w_get (C := "LevelledRingModel") (T := T_M) (M := 19) hx hb hts hinM hown hK hP (236) (by omega) ff6 rfl 17 (by decide) kk3 (fun _ h => h) rfl d_M_lower_160 ?_
          refine lv_iload_n hx hb d_M_lower_163 rfl (lv_at hl 4 rfl) ?_
          refine lv_aload_n hx hb d_M_lower_164 rfl (lv_at hl 3 rfl) ?_
          refine w_get (C := "LevelledRingModel") (T := T_M) (M := 19) hx hb hts hinM hown hK hP (236) (by omega) ff6 rfl 17 (by decide) kk3 (fun _ h => h) rfl d_M_lower_165 ?_
          refine lv_iload_n hx hb d_M_lower_168 rfl (lv_at hl 4 rfl) ?_
          refine w_lald hx hb hK hP (252) (by omega) fg4 (by omega) (by omega) (by omega) d_M_lower_169 ?_
          refine x_le (y := mt) (hmv) ?_
          refine lv_iload_n hx hb d_M_lower_170 rfl (lv_at hl 1 rfl) ?_
          refine x_i2l hx hb ⟨by omega, by omega⟩ d_M_lower_171 ?_
          refine x_ldivP hx hb ⟨by omega, by omega⟩ ⟨by omega, by omega⟩ (by omega) (by omega) d_M_lower_172 ?_
          refine lv_ldc2 hx hb hown kk4 d_M_lower_173 ?_
          refine x_l (y := lI (77)) (by decide +kernel) ?_
          refine x_ladd hx hb d_M_lower_176 ?_
          refine w_last hx hb hK hP hS (252) (by omega) fg4 (by omega) (by omega) (by omega) d_M_lower_177 (fun H locs hP hS => ?_)
          obtain ⟨u10, hu11, hP⟩ : ∃ zz : Nat → va_E, zz = va_up w1 252 (lr ct 2 (zu wm (w0) (((mt) / (lq l1)) + (77)))) ∧ va_P D vwCl (wl N b zz) H := ⟨_, rfl, hP⟩
          have ff12 : u10 236 = .inr (6, [.ref (b + 237), .ref (b + 238), .ref (b + 239), .ref (b + 240), .ref (b + 241), .ref (b + 242), .int (z0), .ref (b + 243), .int (iI (cnt)), .ref (b + 244), .ref (b + 245), .ref (b + 246), .ref (b + 247), .ref (b + 248), .ref (b + 249), .ref (b + 250), .ref (b + 251), .ref (b + 252), .ref (b + 253)]) := (congrFun hu11 _).trans ((up_n (by omega)).trans ff6)
          have ff13 : u10 238 = ir ct 4 (pr) := (congrFun hu11 _).trans ((up_n (by omega)).trans ff7)
          have ff14 : u10 239 = lr ct 4 (bg) := (congrFun hu11 _).trans ((up_n (by omega)).trans ff8)
          have ff15 : u10 240 = lr ct 4 (ut) := (congrFun hu11 _).trans ((up_n (by omega)).trans ff9)
          have ff16 : u10 237 = lr ct 512 (g2) := (congrFun hu11 _).trans ((up_n (by omega)).trans fg2)
          have ff17 : u10 251 = ir ct 2 (wv) := (congrFun hu11 _).trans ((up_n (by omega)).trans fg3)
          have ff18 : u10 252 = lr ct 2 (zu wm (w0) (((mt) / (lq l1)) + (77))) := (congrFun hu11 _).trans up_s
          have fr19 : ∀ j : Nat, (j ≠ 237) → (j ≠ 251) → (j ≠ 252) → u10 j = u j := fun j h0 h1 h2 => (congrFun hu11 j).trans ((up_n (by omega)).trans (fr5 j h0 h1 h2))
          refine lv_aload_n hx hb d_M_lower_178 rfl (lv_at hl 3 rfl) ?_
          refine w_get (C := "LevelledRingModel") (T := T_M) (M := 19) hx hb hts hinM hown hK hP (236) (by omega) ff12 rfl 16 (by decide) kk0 (fun _ h => h) rfl d_M_lower_179 ?_
          refine lv_iload_n hx hb d_M_lower_182 rfl (lv_at hl 4 rfl) ?_
          refine lv_iload_n hx hb d_M_lower_183 rfl (lv_at hl 2 rfl) ?_
          refine lv_iconst (v := iI (1)) hx hb d_M_lower_184 rfl ?_
          refine x_isub hx hb d_M_lower_185 ?_
          refine w_iast hx hb hK hP hS (251) (by omega) ff17 (by omega) (by omega) (by omega) d_M_lower_186 (fun H locs hP hS => ?_)
          obtain ⟨u20, hu21, hP⟩ : ∃ zz : Nat → va_E, zz = va_up u10 251 (ir ct 2 (zu wv (w0) (l1 - 1))) ∧ va_P D vwCl (wl N b zz) H := ⟨_, rfl, hP⟩
          have ff22 : u20 236 = .inr (6, [.ref (b + 237), .ref (b + 238), .ref (b + 239), .ref (b + 240), .ref (b + 241), .ref (b + 242), .int (z0), .ref (b + 243), .int (iI (cnt)), .ref (b + 244), .ref (b + 245), .ref (b + 246), .ref (b + 247), .ref (b + 248), .ref (b + 249), .ref (b + 250), .ref (b + 251), .ref (b + 252), .ref (b + 253)]) := (congrFun hu21 _).trans ((up_n (by omega)).trans ff12)
          have ff23 : u20 238 = ir ct 4 (pr) := (congrFun hu21 _).trans ((up_n (by omega)).trans ff13)
          have ff24 : u20 239 = lr ct 4 (bg) := (congrFun hu21 _).trans ((up_n (by omega)).trans ff14)
          have ff25 : u20 240 = lr ct 4 (ut) := (congrFun hu21 _).trans ((up_n (by omega)).trans ff15)
          have ff26 : u20 237 = lr ct 512 (g2) := (congrFun hu21 _).trans ((up_n (by omega)).trans ff16)
          have ff27 : u20 251 = ir ct 2 (zu wv (w0) (l1 - 1)) := (congrFun hu21 _).trans up_s
          have ff28 : u20 252 = lr ct 2 (zu wm (w0) (((mt) / (lq l1)) + (77))) := (congrFun hu21 _).trans ((up_n (by omega)).trans ff18)
          have fr29 : ∀ j : Nat, (j ≠ 237) → (j ≠ 251) → (j ≠ 252) → u20 j = u j := fun j h0 h1 h2 => (congrFun hu21 j).trans ((up_n (by omega)).trans (fr19 j h0 h1 h2))
          refine lv_aload_n hx hb d_M_lower_187 rfl (lv_at hl 3 rfl) ?_
          refine lv_aload_n hx hb d_M_lower_188 rfl (lv_at hl 3 rfl) ?_
          refine w_get (C := "LevelledRingModel") (T := T_M) (M := 19) hx hb hts hinM hown hK hP (236) (by omega) ff22 rfl 17 (by decide) kk3 (fun _ h => h) rfl d_M_lower_189 ?_
          refine lv_iload_n hx hb d_M_lower_192 rfl (lv_at hl 4 rfl) ?_
          refine w_lald hx hb hK hP (252) (by omega) ff28 (by omega) (by omega) (by omega) d_M_lower_193 ?_
          refine x_le (y := mt / lq l1 + 77) (zu_s) ?_
          refine lv_iload_n hx hb d_M_lower_194 rfl (lv_at hl 2 rfl) ?_
          refine lv_iconst (v := iI (1)) hx hb d_M_lower_195 rfl ?_
          refine x_isub hx hb d_M_lower_196 ?_
          have hMK8 := hMK9.of (z := u20) fun j h2 h3 => fr29 j (by omega) (by omega) (by omega)
          refine w_calli (va_runV (As := [.long (lI (mt / lq l1 + 77)), .int (iI (l1 - 1))]) (rest := []) ⟨hx, hb, hml, hown, hts⟩ (c_MtooGreat l D ct st ke b N u20 hN z0 cnt ff22 hMK8 (mt / lq l1 + 77) (l1 - 1) ⟨by omega, by omega⟩ (by omega) (by omega)) (cwV 2 hts (gV t_626 t_628 (tb_sel ((y_M_tooGreat), 19) (List.mem_of_getElem? (i := 26) (by decide +kernel))) t_9 t_629) rfl rfl rfl (by decide +kernel) ⟨Nat.le_of_ble_eq_true rfl, Nat.le_of_ble_eq_true rfl⟩) (pre_V E hP hS (236) (by omega) ff22 rfl) rfl rfl hl.1 rfl (lv_room (Nat.le_of_ble_eq_true rfl)) d_M_lower_197 ⟨(Nat.le_of_ble_eq_true rfl), (Nat.le_of_ble_eq_true rfl)⟩) hS (fun r31 z30 H locs hz hP hS => ?_)
          obtain ⟨rfl, rfl⟩ := hz
          have htg := tg_01 (l1 - 1) (mt / lq l1 + 77)
          refine x_if_ne (tgt := 207) hx hb ⟨by omega, by omega⟩ d_M_lower_200 (by decide) (fun hc => ?_) (fun hc => ?_)
          · refine lv_iconst (v := iI (0)) hx hb d_M_lower_207 rfl ?_
            exact ret 0 u20 H locs 208 ls (by omega) (Or.inr ⟨by omega, by rw [show (1 : Int) - tg (l1 - 1) (mt / lq l1 + 77) = 0 from by omega], g2, ff26, ff27, ff28, hg, hk, fr29⟩) hP hS d_M_lower_208
          · refine lv_iconst (v := iI (1)) hx hb d_M_lower_203 rfl ?_
            refine lv_goto (tgt := 208) hx hb d_M_lower_204 (by decide) ?_
            exact ret 1 u20 H locs 208 ls (by omega) (Or.inr ⟨by omega, by rw [show (1 : Int) - tg (l1 - 1) (mt / lq l1 + 77) = 1 from by omega], g2, ff26, ff27, ff28, hg, hk, fr29⟩) hP hS d_M_lower_208
        · have bR := hR i h0 (by omega)
          refine lv_bipush (v := iI (8)) hx hb d_M_lower_30 (by decide +kernel) ?_
          refine lv_bipush (v := iI (56)) hx hb d_M_lower_32 (by decide +kernel) ?_
          refine lv_iconst (v := iI (2)) hx hb d_M_lower_34 rfl ?_
          refine lv_iload_n hx hb d_M_lower_35 rfl (lv_at hl 4 rfl) ?_
          refine x_imul hx hb d_M_lower_36 ?_
          refine x_iadd hx hb d_M_lower_37 ?_
          refine x_imul hx hb d_M_lower_38 ?_
          refine lv_iload hx hb d_M_lower_39 (lv_at hl 0 rfl) ?_
          refine x_iadd hx hb d_M_lower_41 ?_
          refine lv_istore (lv' := [(5, .int (iI (((8) * ((56) + (2 * w0))) + (i)))), (4, .int (iI (i))), (3, .int (iI (lq l1))), (2, .int (iI (l1))), (0, .ref (b + 236)), (1, .int (iI (w0)))]) hx hb d_M_lower_42 hl (by decide) rfl (fun ls hl => ?_)
          refine lv_aload_n hx hb d_M_lower_44 rfl (lv_at hl 4 rfl) ?_
          refine w_get (C := "LevelledRingModel") (T := T_M) (M := 19) hx hb hts hinM hown hK hP (236) (by omega) ff6 rfl 0 (by decide) kk5 (fun _ h => h) rfl d_M_lower_45 ?_
          refine lv_iload hx hb d_M_lower_48 (lv_at hl 0 rfl) ?_
          refine w_lald hx hb hK hP (237) (by omega) fg2 (by omega) (by omega) (by omega) d_M_lower_50 ?_
          refine x_le (y := g (8 * (56 + 2 * w0) + i)) (hk _ (by omega)) ?_
          generalize hcc : g (8 * (56 + 2 * w0) + i) = cc9 at bR
          refine lv_lstore (lv' := [(6, .long (lI (cc9))), (5, .int (iI (((8) * ((56) + (2 * w0))) + (i)))), (4, .int (iI (i))), (3, .int (iI (lq l1))), (2, .int (iI (l1))), (0, .ref (b + 236)), (1, .int (iI (w0)))]) hx hb d_M_lower_51 hl (by decide) rfl (fun ls hl => ?_)
          refine lv_lload hx hb d_M_lower_53 (lv_at hl 0 rfl) ?_
          refine lv_iload_n hx hb d_M_lower_55 rfl (lv_at hl 3 rfl) ?_
          refine x_i2l hx hb ⟨by omega, by omega⟩ d_M_lower_56 ?_
          refine x_lremP hx hb ⟨by omega, by omega⟩ (lq_r6 _) (lq_p _) bR.1 d_M_lower_57 ?_
          have bd := mod_b cc9 (lq_p l1)
          refine lv_lstore (lv' := [(8, .long (lI ((cc9) % (lq l1)))), (6, .long (lI (cc9))), (5, .int (iI (((8) * ((56) + (2 * w0))) + (i)))), (4, .int (iI (i))), (3, .int (iI (lq l1))), (2, .int (iI (l1))), (0, .ref (b + 236)), (1, .int (iI (w0)))]) hx hb d_M_lower_58 hl (by decide) rfl (fun ls hl => ?_)
          refine lv_lload hx hb d_M_lower_60 (lv_at hl 0 rfl) ?_
          refine lv_iload_n hx hb d_M_lower_62 rfl (lv_at hl 4 rfl) ?_
          refine lv_iconst (v := iI (1)) hx hb d_M_lower_63 rfl ?_
          refine x_isub hx hb d_M_lower_64 ?_
          refine lv_iconst (v := iI (2)) hx hb d_M_lower_65 rfl ?_
          refine x_idivP hx hb ⟨by omega, by omega⟩ ⟨by omega, by omega⟩ (by omega) (by omega) d_M_lower_66 ?_
          refine x_i2l hx hb ⟨by omega, by omega⟩ d_M_lower_67 ?_
          refine x_lcmp hx hb ⟨by omega, by omega⟩ ⟨by omega, by omega⟩ d_M_lower_68 ?_
          refine x_if_le (tgt := 80) hx hb (cmpz_r _ _) d_M_lower_69 (by decide) (fun hc => ?_) (fun hc => ?_)
          · have hc := cmpz_le.mp hc
            refine lv_lload hx hb d_M_lower_80 (lv_at hl 0 rfl) ?_
            refine x_le (y := cen (cc9 % lq l1) (lq l1)) (by unfold cen; rw [if_neg (by omega)]) ?_
            have bdc := cen_bq bd.1 bd.2 hlq.2
            generalize hdd : cen (cc9 % lq l1) (lq l1) = dd at bdc
            refine lv_lstore (lv' := [(8, .long (lI (dd))), (6, .long (lI (cc9))), (5, .int (iI (((8) * ((56) + (2 * w0))) + (i)))), (4, .int (iI (i))), (3, .int (iI (lq l1))), (2, .int (iI (l1))), (0, .ref (b + 236)), (1, .int (iI (w0)))]) hx hb d_M_lower_82 hl (by decide) rfl (fun ls hl => ?_)
            refine lv_ldc2 hx hb hown kk6 d_M_lower_84 ?_
            refine x_l (y := lI (-8)) (by decide +kernel) ?_
            refine lv_lstore (lv' := [(10, .long (lI (-8))), (8, .long (lI (dd))), (6, .long (lI (cc9))), (5, .int (iI (((8) * ((56) + (2 * w0))) + (i)))), (4, .int (iI (i))), (3, .int (iI (lq l1))), (2, .int (iI (l1))), (0, .ref (b + 236)), (1, .int (iI (w0)))]) hx hb d_M_lower_87 hl (by decide) rfl (fun ls hl => ?_)
            have hl : lv_has ls 12 [(10, .long (lI (-8))), (8, .long (lI (dd))), (6, .long (lI (cc9))), (5, .int (iI (((8) * ((56) + (2 * w0))) + (i)))), (4, .int (iI (i))), (3, .int (iI (lq l1))), (2, .int (iI (l1))), (0, .ref (b + 236)), (1, .int (iI (w0)))] := lv_sub hl [0, 1, 2, 3, 4, 5, 6, 7, 8] rfl
            have li : ∀ (d2 : Nat) (kz : Int) (H : Heap) (locs : List Loc) (ls : Array Slot), (-8 ≤ kz) → (kz ≤ 8) → (8 - kz < d2) → (∀ j : Int, -8 ≤ j → j < kz → (dd + j) % 17 ≠ 0) → va_P D vwCl (wl N b w1) H → va_S (AA b) s.heap H locs → lv_has ls 12 [(10, .long (lI (kz))), (8, .long (lI (dd))), (6, .long (lI (cc9))), (5, .int (iI (8 * (56 + 2 * w0) + i))), (4, .int (iI (i))), (3, .int (iI (lq l1))), (2, .int (iI (l1))), (0, .ref (b + 236)), (1, .int (iI (w0)))] → W p l e rm_c_lower s m args below meth c H locs 0 0 Q (F0 m 89 ls []) := by
              intro d2
              induction d2 with
              | zero => intro kz H locs ls hk8 hk9 hd2 hno hP hS hl; exfalso; omega
              | succ d2 ihli =>
                intro kz H locs ls hk8 hk9 hd2 hno hP hS hl
                refine lv_lload hx hb d_M_lower_89 (lv_at hl 0 rfl) ?_
                refine lv_ldc2 hx hb hown kk7 d_M_lower_91 ?_
                refine x_l (y := lI (8)) (by decide +kernel) ?_
                refine x_lcmp hx hb ⟨by omega, by omega⟩ ⟨by omega, by omega⟩ d_M_lower_94 ?_
                refine x_if_ge (tgt := 121) hx hb (cmpz_r _ _) d_M_lower_95 (by decide) (fun hc => ?_) (fun hc => ?_)
                · have hc2 : ¬ kz < 8 := fun h => by have := cmpz_lt.mpr h; omega
                  obtain rfl : kz = lk dd := lk_search hk8 hk9 hno (Or.inr (by omega))
                  subst hdd
                  have lb := low_b bR.1 bR.2
                  have lr9 := low_r bR.1 bR.2
                  refine lv_aload_n hx hb d_M_lower_121 rfl (lv_at hl 7 rfl) ?_
                  refine w_get (C := "LevelledRingModel") (T := T_M) (M := 19) hx hb hts hinM hown hK hP (236) (by omega) ff6 rfl 0 (by decide) kk5 (fun _ h => h) rfl d_M_lower_122 ?_
                  refine lv_iload hx hb d_M_lower_125 (lv_at hl 3 rfl) ?_
                  refine lv_lload hx hb d_M_lower_127 (lv_at hl 2 rfl) ?_
                  refine lv_lload hx hb d_M_lower_129 (lv_at hl 1 rfl) ?_
                  refine x_lsub hx hb d_M_lower_131 ?_
                  refine lv_lload hx hb d_M_lower_132 (lv_at hl 0 rfl) ?_
                  refine lv_iload_n hx hb d_M_lower_134 rfl (lv_at hl 5 rfl) ?_
                  refine x_i2l hx hb ⟨by omega, by omega⟩ d_M_lower_135 ?_
                  refine x_lmul hx hb d_M_lower_136 ?_
                  refine x_lsub hx hb d_M_lower_137 ?_
                  refine lv_iload_n hx hb d_M_lower_138 rfl (lv_at hl 5 rfl) ?_
                  refine x_i2l hx hb ⟨by omega, by omega⟩ d_M_lower_139 ?_
                  refine x_ldiv hx hb lb (lq_r6 _) (lq_p _) d_M_lower_140 ?_
                  refine x_le (y := low l1 cc9) (low_q l1 cc9) ?_
                  refine lv_aload_n hx hb d_M_lower_141 rfl (lv_at hl 7 rfl) ?_
                  refine w_get (C := "LevelledRingModel") (T := T_M) (M := 19) hx hb hts hinM hown hK hP (236) (by omega) ff6 rfl 2 (by decide) kk8 (fun _ h => h) rfl d_M_lower_142 ?_
                  refine lv_iload_n hx hb d_M_lower_145 rfl (lv_at hl 6 rfl) ?_
                  refine lv_iconst (v := iI (1)) hx hb d_M_lower_146 rfl ?_
                  refine x_isub hx hb d_M_lower_147 ?_
                  refine w_lald hx hb hK hP (239) (by omega) ff8 (by omega) (by omega) (by omega) d_M_lower_148 ?_
                  refine x_le (y := lQ (l1 - 1)) (hb2 (l1 - 1) (by omega) (by omega)) ?_
                  refine w_calll (va_runS (As := [.long (lI (low l1 cc9)), .long (lI (lQ (l1 - 1)))]) (rest := [.int (iI (8 * (56 + 2 * w0) + i)), .ref (b + 237)]) ⟨hx, hb, hml, hown, hts⟩ (c_Mmod l D ct st ke b N w1 (low l1 cc9) (lQ (l1 - 1)) lr9 (lQ_p _) (lQ_m _)) (cwS 2 hts (gS t_486 t_487 t_9 t_488) rfl rfl rfl (by decide +kernel) ⟨Nat.le_of_ble_eq_true rfl, Nat.le_of_ble_eq_true rfl⟩) (pre_S E hP hS) rfl rfl hl.1 rfl (lv_room (Nat.le_of_ble_eq_true rfl)) d_M_lower_149 ⟨(Nat.le_of_ble_eq_true rfl), (Nat.le_of_ble_eq_true rfl)⟩) hS (fun r33 z32 H locs hz hP hS => ?_)
                  obtain ⟨rfl, rfl⟩ := hz
                  refine w_last hx hb hK hP hS (237) (by omega) fg2 (by omega) (by omega) (by omega) d_M_lower_152 (fun H locs hP hS => ?_)
                  obtain ⟨u34, hu35, hP⟩ : ∃ zz : Nat → va_E, zz = va_up w1 237 (lr ct 512 (zu g2 (8 * (56 + 2 * w0) + i) ((low l1 cc9) % (lQ (l1 - 1))))) ∧ va_P D vwCl (wl N b zz) H := ⟨_, rfl, hP⟩
                  have ff36 : u34 236 = .inr (6, [.ref (b + 237), .ref (b + 238), .ref (b + 239), .ref (b + 240), .ref (b + 241), .ref (b + 242), .int (z0), .ref (b + 243), .int (iI (cnt)), .ref (b + 244), .ref (b + 245), .ref (b + 246), .ref (b + 247), .ref (b + 248), .ref (b + 249), .ref (b + 250), .ref (b + 251), .ref (b + 252), .ref (b + 253)]) := (congrFun hu35 _).trans ((up_n (by omega)).trans ff6)
                  have ff37 : u34 238 = ir ct 4 (pr) := (congrFun hu35 _).trans ((up_n (by omega)).trans ff7)
                  have ff38 : u34 239 = lr ct 4 (bg) := (congrFun hu35 _).trans ((up_n (by omega)).trans ff8)
                  have ff39 : u34 240 = lr ct 4 (ut) := (congrFun hu35 _).trans ((up_n (by omega)).trans ff9)
                  have ff40 : u34 237 = lr ct 512 (zu g2 (8 * (56 + 2 * w0) + i) ((low l1 cc9) % (lQ (l1 - 1)))) := (congrFun hu35 _).trans up_s
                  have ff41 : u34 251 = ir ct 2 (wv) := (congrFun hu35 _).trans ((up_n (by omega)).trans fg3)
                  have ff42 : u34 252 = lr ct 2 (wm) := (congrFun hu35 _).trans ((up_n (by omega)).trans fg4)
                  have fr43 : ∀ j : Nat, (j ≠ 237) → (j ≠ 251) → (j ≠ 252) → u34 j = u j := fun j h0 h1 h2 => (congrFun hu35 j).trans ((up_n (by omega)).trans (fr5 j h0 h1 h2))
                  refine lv_iinc (k := 4) (v := iI (i + 1)) (lv' := [(4, .int (iI (i + 1))), (10, .long (lI ((lk (cen (cc9 % lq l1) (lq l1)))))), (8, .long (lI ((cen (cc9 % lq l1) (lq l1))))), (6, .long (lI (cc9))), (5, .int (iI (8 * (56 + 2 * w0) + i))), (3, .int (iI (lq l1))), (2, .int (iI (l1))), (0, .ref (b + 236)), (1, .int (iI (w0)))]) hx hb d_M_lower_153 hl rfl (iI_add _ _) (by decide) rfl (fun ls hl => ?_)
                  refine lv_goto (tgt := 23) hx hb d_M_lower_156 (by decide) ?_
                  have hl : lv_has ls 12 [(4, .int (iI (i + 1))), (3, .int (iI (lq l1))), (2, .int (iI (l1))), (0, .ref (b + 236)), (1, .int (iI (w0)))] := lv_sub hl [0, 5, 6, 7, 8] rfl
                  refine ihlo (i + 1) _ u34 H locs ls (by omega) (by omega) (by omega) (fun q h2 h3 => ?_) (fun j h2 => by rw [zu_n (by omega)]; exact hk j (by omega)) ff40 ff41 ff42 fr43 hP hS hl
                  by_cases h4 : q = i
                  · rw [h4, zu_s, hcc]
                  · rw [zu_n (by omega)]; exact hg q h2 (by omega)
                · have hc2 := cmpz_lt.mp hc
                  refine lv_lload hx hb d_M_lower_98 (lv_at hl 1 rfl) ?_
                  refine lv_lload hx hb d_M_lower_100 (lv_at hl 0 rfl) ?_
                  refine x_ladd hx hb d_M_lower_102 ?_
                  refine lv_ldc2 hx hb hown kk9 d_M_lower_103 ?_
                  refine x_l (y := lI (17)) (by decide +kernel) ?_
                  refine x_lrem hx hb ⟨by omega, by omega⟩ ⟨by decide, by decide⟩ (by decide) d_M_lower_106 ?_
                  have btm := tmod_bd (a := dd + kz) (show (0 : Int) < 17 by decide)
                  refine lv_lconst (v := lI 0) hx hb d_M_lower_107 rfl ?_
                  refine x_lcmp hx hb ⟨by omega, by omega⟩ ⟨by omega, by omega⟩ d_M_lower_108 ?_
                  refine x_if_eq (tgt := 121) hx hb (cmpz_r _ _) d_M_lower_109 (by decide) (fun hc => ?_) (fun hc => ?_)
                  · have hc3 := tmod17.mp (cmpz_eq.mp hc)
                    obtain rfl : kz = lk dd := lk_search hk8 hk9 hno (Or.inl hc3)
                    subst hdd
                    have lb := low_b bR.1 bR.2
                    have lr9 := low_r bR.1 bR.2
                    refine lv_aload_n hx hb d_M_lower_121 rfl (lv_at hl 7 rfl) ?_
                    refine w_get (C := "LevelledRingModel") (T := T_M) (M := 19) hx hb hts hinM hown hK hP (236) (by omega) ff6 rfl 0 (by decide) kk5 (fun _ h => h) rfl d_M_lower_122 ?_
                    refine lv_iload hx hb d_M_lower_125 (lv_at hl 3 rfl) ?_
                    refine lv_lload hx hb d_M_lower_127 (lv_at hl 2 rfl) ?_
                    refine lv_lload hx hb d_M_lower_129 (lv_at hl 1 rfl) ?_
                    refine x_lsub hx hb d_M_lower_131 ?_
                    refine lv_lload hx hb d_M_lower_132 (lv_at hl 0 rfl) ?_
                    refine lv_iload_n hx hb d_M_lower_134 rfl (lv_at hl 5 rfl) ?_
                    refine x_i2l hx hb ⟨by omega, by omega⟩ d_M_lower_135 ?_
                    refine x_lmul hx hb d_M_lower_136 ?_
                    refine x_lsub hx hb d_M_lower_137 ?_
                    refine lv_iload_n hx hb d_M_lower_138 rfl (lv_at hl 5 rfl) ?_
                    refine x_i2l hx hb ⟨by omega, by omega⟩ d_M_lower_139 ?_
                    refine x_ldiv hx hb lb (lq_r6 _) (lq_p _) d_M_lower_140 ?_
                    refine x_le (y := low l1 cc9) (low_q l1 cc9) ?_
                    refine lv_aload_n hx hb d_M_lower_141 rfl (lv_at hl 7 rfl) ?_
                    refine w_get (C := "LevelledRingModel") (T := T_M) (M := 19) hx hb hts hinM hown hK hP (236) (by omega) ff6 rfl 2 (by decide) kk8 (fun _ h => h) rfl d_M_lower_142 ?_
                    refine lv_iload_n hx hb d_M_lower_145 rfl (lv_at hl 6 rfl) ?_
                    refine lv_iconst (v := iI (1)) hx hb d_M_lower_146 rfl ?_
                    refine x_isub hx hb d_M_lower_147 ?_
                    refine w_lald hx hb hK hP (239) (by omega) ff8 (by omega) (by omega) (by omega) d_M_lower_148 ?_
                    refine x_le (y := lQ (l1 - 1)) (hb2 (l1 - 1) (by omega) (by omega)) ?_
                    refine w_calll (va_runS (As := [.long (lI (low l1 cc9)), .long (lI (lQ (l1 - 1)))]) (rest := [.int (iI (8 * (56 + 2 * w0) + i)), .ref (b + 237)]) ⟨hx, hb, hml, hown, hts⟩ (c_Mmod l D ct st ke b N w1 (low l1 cc9) (lQ (l1 - 1)) lr9 (lQ_p _) (lQ_m _)) (cwS 2 hts (gS t_486 t_487 t_9 t_488) rfl rfl rfl (by decide +kernel) ⟨Nat.le_of_ble_eq_true rfl, Nat.le_of_ble_eq_true rfl⟩) (pre_S E hP hS) rfl rfl hl.1 rfl (lv_room (Nat.le_of_ble_eq_true rfl)) d_M_lower_149 ⟨(Nat.le_of_ble_eq_true rfl), (Nat.le_of_ble_eq_true rfl)⟩) hS (fun r45 z44 H locs hz hP hS => ?_)
                    obtain ⟨rfl, rfl⟩ := hz
                    refine w_last hx hb hK hP hS (237) (by omega) fg2 (by omega) (by omega) (by omega) d_M_lower_152 (fun H locs hP hS => ?_)
                    obtain ⟨u46, hu47, hP⟩ : ∃ zz : Nat → va_E, zz = va_up w1 237 (lr ct 512 (zu g2 (8 * (56 + 2 * w0) + i) ((low l1 cc9) % (lQ (l1 - 1))))) ∧ va_P D vwCl (wl N b zz) H := ⟨_, rfl, hP⟩
                    have ff48 : u46 236 = .inr (6, [.ref (b + 237), .ref (b + 238), .ref (b + 239), .ref (b + 240), .ref (b + 241), .ref (b + 242), .int (z0), .ref (b + 243), .int (iI (cnt)), .ref (b + 244), .ref (b + 245), .ref (b + 246), .ref (b + 247), .ref (b + 248), .ref (b + 249), .ref (b + 250), .ref (b + 251), .ref (b + 252), .ref (b + 253)]) := (congrFun hu47 _).trans ((up_n (by omega)).trans ff6)
                    have ff49 : u46 238 = ir ct 4 (pr) := (congrFun hu47 _).trans ((up_n (by omega)).trans ff7)
                    have ff50 : u46 239 = lr ct 4 (bg) := (congrFun hu47 _).trans ((up_n (by omega)).trans ff8)
                    have ff51 : u46 240 = lr ct 4 (ut) := (congrFun hu47 _).trans ((up_n (by omega)).trans ff9)
                    have ff52 : u46 237 = lr ct 512 (zu g2 (8 * (56 + 2 * w0) + i) ((low l1 cc9) % (lQ (l1 - 1)))) := (congrFun hu47 _).trans up_s
                    have ff53 : u46 251 = ir ct 2 (wv) := (congrFun hu47 _).trans ((up_n (by omega)).trans fg3)
                    have ff54 : u46 252 = lr ct 2 (wm) := (congrFun hu47 _).trans ((up_n (by omega)).trans fg4)
                    have fr55 : ∀ j : Nat, (j ≠ 237) → (j ≠ 251) → (j ≠ 252) → u46 j = u j := fun j h0 h1 h2 => (congrFun hu47 j).trans ((up_n (by omega)).trans (fr5 j h0 h1 h2))
                    refine lv_iinc (k := 4) (v := iI (i + 1)) (lv' := [(4, .int (iI (i + 1))), (10, .long (lI ((lk (cen (cc9 % lq l1) (lq l1)))))), (8, .long (lI ((cen (cc9 % lq l1) (lq l1))))), (6, .long (lI (cc9))), (5, .int (iI (8 * (56 + 2 * w0) + i))), (3, .int (iI (lq l1))), (2, .int (iI (l1))), (0, .ref (b + 236)), (1, .int (iI (w0)))]) hx hb d_M_lower_153 hl rfl (iI_add _ _) (by decide) rfl (fun ls hl => ?_)
                    refine lv_goto (tgt := 23) hx hb d_M_lower_156 (by decide) ?_
                    have hl : lv_has ls 12 [(4, .int (iI (i + 1))), (3, .int (iI (lq l1))), (2, .int (iI (l1))), (0, .ref (b + 236)), (1, .int (iI (w0)))] := lv_sub hl [0, 5, 6, 7, 8] rfl
                    refine ihlo (i + 1) _ u46 H locs ls (by omega) (by omega) (by omega) (fun q h2 h3 => ?_) (fun j h2 => by rw [zu_n (by omega)]; exact hk j (by omega)) ff52 ff53 ff54 fr55 hP hS hl
                    by_cases h4 : q = i
                    · rw [h4, zu_s, hcc]
                    · rw [zu_n (by omega)]; exact hg q h2 (by omega)
                  · have hc3 : ¬ (dd + kz) % 17 = 0 := fun h => by have := cmpz_eq.mpr (tmod17.mpr h); omega
                    refine lv_lload hx hb d_M_lower_112 (lv_at hl 0 rfl) ?_
                    refine lv_lconst (v := lI 1) hx hb d_M_lower_114 rfl ?_
                    refine x_ladd hx hb d_M_lower_115 ?_
                    refine lv_lstore (lv' := [(10, .long (lI (kz + 1))), (8, .long (lI (dd))), (6, .long (lI (cc9))), (5, .int (iI (8 * (56 + 2 * w0) + i))), (4, .int (iI (i))), (3, .int (iI (lq l1))), (2, .int (iI (l1))), (0, .ref (b + 236)), (1, .int (iI (w0)))]) hx hb d_M_lower_116 hl (by decide) rfl (fun ls hl => ?_)
                    refine lv_goto (tgt := 89) hx hb d_M_lower_118 (by decide) ?_
                    have hl : lv_has ls 12 [(10, .long (lI (kz + 1))), (8, .long (lI (dd))), (6, .long (lI (cc9))), (5, .int (iI (8 * (56 + 2 * w0) + i))), (4, .int (iI (i))), (3, .int (iI (lq l1))), (2, .int (iI (l1))), (0, .ref (b + 236)), (1, .int (iI (w0)))] := lv_sub hl [0, 1, 2, 3, 4, 5, 6, 7, 8] rfl
                    refine ihli (kz + 1) H locs ls (by omega) (by omega) (by omega) (fun j h2 h3 => ?_) hP hS hl
                    by_cases h4 : j = kz
                    · rw [h4]; exact hc3
                    · exact hno j h2 (by omega)
            exact li 17 (-8) H locs ls (by omega) (by omega) (by omega) (fun j h2 h3 => by omega) hP hS hl
          · have hc : ¬ cc9 % lq l1 ≤ (lq l1 - 1) / 2 := fun h => by have := cmpz_le.mpr h; omega
            refine lv_lload hx hb d_M_lower_72 (lv_at hl 0 rfl) ?_
            refine lv_iload_n hx hb d_M_lower_74 rfl (lv_at hl 4 rfl) ?_
            refine x_i2l hx hb ⟨by omega, by omega⟩ d_M_lower_75 ?_
            refine x_lsub hx hb d_M_lower_76 ?_
            refine lv_goto (tgt := 82) hx hb d_M_lower_77 (by decide) ?_
            refine x_le (y := cen (cc9 % lq l1) (lq l1)) (by unfold cen; rw [if_pos (by omega)]) ?_
            have bdc := cen_bq bd.1 bd.2 hlq.2
            generalize hdd : cen (cc9 % lq l1) (lq l1) = dd at bdc
            refine lv_lstore (lv' := [(8, .long (lI (dd))), (6, .long (lI (cc9))), (5, .int (iI (((8) * ((56) + (2 * w0))) + (i)))), (4, .int (iI (i))), (3, .int (iI (lq l1))), (2, .int (iI (l1))), (0, .ref (b + 236)), (1, .int (iI (w0)))]) hx hb d_M_lower_82 hl (by decide) rfl (fun ls hl => ?_)
            refine lv_ldc2 hx hb hown kk6 d_M_lower_84 ?_
            refine x_l (y := lI (-8)) (by decide +kernel) ?_
            refine lv_lstore (lv' := [(10, .long (lI (-8))), (8, .long (lI (dd))), (6, .long (lI (cc9))), (5, .int (iI (((8) * ((56) + (2 * w0))) + (i)))), (4, .int (iI (i))), (3, .int (iI (lq l1))), (2, .int (iI (l1))), (0, .ref (b + 236)), (1, .int (iI (w0)))]) hx hb d_M_lower_87 hl (by decide) rfl (fun ls hl => ?_)
            have hl : lv_has ls 12 [(10, .long (lI (-8))), (8, .long (lI (dd))), (6, .long (lI (cc9))), (5, .int (iI (((8) * ((56) + (2 * w0))) + (i)))), (4, .int (iI (i))), (3, .int (iI (lq l1))), (2, .int (iI (l1))), (0, .ref (b + 236)), (1, .int (iI (w0)))] := lv_sub hl [0, 1, 2, 3, 4, 5, 6, 7, 8] rfl
            have li : ∀ (d2 : Nat) (kz : Int) (H : Heap) (locs : List Loc) (ls : Array Slot), (-8 ≤ kz) → (kz ≤ 8) → (8 - kz < d2) → (∀ j : Int, -8 ≤ j → j < kz → (dd + j) % 17 ≠ 0) → va_P D vwCl (wl N b w1) H → va_S (AA b) s.heap H locs → lv_has ls 12 [(10, .long (lI (kz))), (8, .long (lI (dd))), (6, .long (lI (cc9))), (5, .int (iI (8 * (56 + 2 * w0) + i))), (4, .int (iI (i))), (3, .int (iI (lq l1))), (2, .int (iI (l1))), (0, .ref (b + 236)), (1, .int (iI (w0)))] → W p l e rm_c_lower s m args below meth c H locs 0 0 Q (F0 m 89 ls []) := by
              intro d2
              induction d2 with
              | zero => intro kz H locs ls hk8 hk9 hd2 hno hP hS hl; exfalso; omega
              | succ d2 ihli =>
                intro kz H locs ls hk8 hk9 hd2 hno hP hS hl
                refine lv_lload hx hb d_M_lower_89 (lv_at hl 0 rfl) ?_
                refine lv_ldc2 hx hb hown kk7 d_M_lower_91 ?_
                refine x_l (y := lI (8)) (by decide +kernel) ?_
                refine x_lcmp hx hb ⟨by omega, by omega⟩ ⟨by omega, by omega⟩ d_M_lower_94 ?_
                refine x_if_ge (tgt := 121) hx hb (cmpz_r _ _) d_M_lower_95 (by decide) (fun hc => ?_) (fun hc => ?_)
                · have hc2 : ¬ kz < 8 := fun h => by have := cmpz_lt.mpr h; omega
                  obtain rfl : kz = lk dd := lk_search hk8 hk9 hno (Or.inr (by omega))
                  subst hdd
                  have lb := low_b bR.1 bR.2
                  have lr9 := low_r bR.1 bR.2
                  refine lv_aload_n hx hb d_M_lower_121 rfl (lv_at hl 7 rfl) ?_
                  refine w_get (C := "LevelledRingModel") (T := T_M) (M := 19) hx hb hts hinM hown hK hP (236) (by omega) ff6 rfl 0 (by decide) kk5 (fun _ h => h) rfl d_M_lower_122 ?_
                  refine lv_iload hx hb d_M_lower_125 (lv_at hl 3 rfl) ?_
                  refine lv_lload hx hb d_M_lower_127 (lv_at hl 2 rfl) ?_
                  refine lv_lload hx hb d_M_lower_129 (lv_at hl 1 rfl) ?_
                  refine x_lsub hx hb d_M_lower_131 ?_
                  refine lv_lload hx hb d_M_lower_132 (lv_at hl 0 rfl) ?_
                  refine lv_iload_n hx hb d_M_lower_134 rfl (lv_at hl 5 rfl) ?_
                  refine x_i2l hx hb ⟨by omega, by omega⟩ d_M_lower_135 ?_
                  refine x_lmul hx hb d_M_lower_136 ?_
                  refine x_lsub hx hb d_M_lower_137 ?_
                  refine lv_iload_n hx hb d_M_lower_138 rfl (lv_at hl 5 rfl) ?_
                  refine x_i2l hx hb ⟨by omega, by omega⟩ d_M_lower_139 ?_
                  refine x_ldiv hx hb lb (lq_r6 _) (lq_p _) d_M_lower_140 ?_
                  refine x_le (y := low l1 cc9) (low_q l1 cc9) ?_
                  refine lv_aload_n hx hb d_M_lower_141 rfl (lv_at hl 7 rfl) ?_
                  refine w_get (C := "LevelledRingModel") (T := T_M) (M := 19) hx hb hts hinM hown hK hP (236) (by omega) ff6 rfl 2 (by decide) kk8 (fun _ h => h) rfl d_M_lower_142 ?_
                  refine lv_iload_n hx hb d_M_lower_145 rfl (lv_at hl 6 rfl) ?_
                  refine lv_iconst (v := iI (1)) hx hb d_M_lower_146 rfl ?_
                  refine x_isub hx hb d_M_lower_147 ?_
                  refine w_lald hx hb hK hP (239) (by omega) ff8 (by omega) (by omega) (by omega) d_M_lower_148 ?_
                  refine x_le (y := lQ (l1 - 1)) (hb2 (l1 - 1) (by omega) (by omega)) ?_
                  refine w_calll (va_runS (As := [.long (lI (low l1 cc9)), .long (lI (lQ (l1 - 1)))]) (rest := [.int (iI (8 * (56 + 2 * w0) + i)), .ref (b + 237)]) ⟨hx, hb, hml, hown, hts⟩ (c_Mmod l D ct st ke b N w1 (low l1 cc9) (lQ (l1 - 1)) lr9 (lQ_p _) (lQ_m _)) (cwS 2 hts (gS t_486 t_487 t_9 t_488) rfl rfl rfl (by decide +kernel) ⟨Nat.le_of_ble_eq_true rfl, Nat.le_of_ble_eq_true rfl⟩) (pre_S E hP hS) rfl rfl hl.1 rfl (lv_room (Nat.le_of_ble_eq_true rfl)) d_M_lower_149 ⟨(Nat.le_of_ble_eq_true rfl), (Nat.le_of_ble_eq_true rfl)⟩) hS (fun r57 z56 H locs hz hP hS => ?_)
                  obtain ⟨rfl, rfl⟩ := hz
                  refine w_last hx hb hK hP hS (237) (by omega) fg2 (by omega) (by omega) (by omega) d_M_lower_152 (fun H locs hP hS => ?_)
                  obtain ⟨u58, hu59, hP⟩ : ∃ zz : Nat → va_E, zz = va_up w1 237 (lr ct 512 (zu g2 (8 * (56 + 2 * w0) + i) ((low l1 cc9) % (lQ (l1 - 1))))) ∧ va_P D vwCl (wl N b zz) H := ⟨_, rfl, hP⟩
                  have ff60 : u58 236 = .inr (6, [.ref (b + 237), .ref (b + 238), .ref (b + 239), .ref (b + 240), .ref (b + 241), .ref (b + 242), .int (z0), .ref (b + 243), .int (iI (cnt)), .ref (b + 244), .ref (b + 245), .ref (b + 246), .ref (b + 247), .ref (b + 248), .ref (b + 249), .ref (b + 250), .ref (b + 251), .ref (b + 252), .ref (b + 253)]) := (congrFun hu59 _).trans ((up_n (by omega)).trans ff6)
                  have ff61 : u58 238 = ir ct 4 (pr) := (congrFun hu59 _).trans ((up_n (by omega)).trans ff7)
                  have ff62 : u58 239 = lr ct 4 (bg) := (congrFun hu59 _).trans ((up_n (by omega)).trans ff8)
                  have ff63 : u58 240 = lr ct 4 (ut) := (congrFun hu59 _).trans ((up_n (by omega)).trans ff9)
                  have ff64 : u58 237 = lr ct 512 (zu g2 (8 * (56 + 2 * w0) + i) ((low l1 cc9) % (lQ (l1 - 1)))) := (congrFun hu59 _).trans up_s
                  have ff65 : u58 251 = ir ct 2 (wv) := (congrFun hu59 _).trans ((up_n (by omega)).trans fg3)
                  have ff66 : u58 252 = lr ct 2 (wm) := (congrFun hu59 _).trans ((up_n (by omega)).trans fg4)
                  have fr67 : ∀ j : Nat, (j ≠ 237) → (j ≠ 251) → (j ≠ 252) → u58 j = u j := fun j h0 h1 h2 => (congrFun hu59 j).trans ((up_n (by omega)).trans (fr5 j h0 h1 h2))
                  refine lv_iinc (k := 4) (v := iI (i + 1)) (lv' := [(4, .int (iI (i + 1))), (10, .long (lI ((lk (cen (cc9 % lq l1) (lq l1)))))), (8, .long (lI ((cen (cc9 % lq l1) (lq l1))))), (6, .long (lI (cc9))), (5, .int (iI (8 * (56 + 2 * w0) + i))), (3, .int (iI (lq l1))), (2, .int (iI (l1))), (0, .ref (b + 236)), (1, .int (iI (w0)))]) hx hb d_M_lower_153 hl rfl (iI_add _ _) (by decide) rfl (fun ls hl => ?_)
                  refine lv_goto (tgt := 23) hx hb d_M_lower_156 (by decide) ?_
                  have hl : lv_has ls 12 [(4, .int (iI (i + 1))), (3, .int (iI (lq l1))), (2, .int (iI (l1))), (0, .ref (b + 236)), (1, .int (iI (w0)))] := lv_sub hl [0, 5, 6, 7, 8] rfl
                  refine ihlo (i + 1) _ u58 H locs ls (by omega) (by omega) (by omega) (fun q h2 h3 => ?_) (fun j h2 => by rw [zu_n (by omega)]; exact hk j (by omega)) ff64 ff65 ff66 fr67 hP hS hl
                  by_cases h4 : q = i
                  · rw [h4, zu_s, hcc]
                  · rw [zu_n (by omega)]; exact hg q h2 (by omega)
                · have hc2 := cmpz_lt.mp hc
                  refine lv_lload hx hb d_M_lower_98 (lv_at hl 1 rfl) ?_
                  refine lv_lload hx hb d_M_lower_100 (lv_at hl 0 rfl) ?_
                  refine x_ladd hx hb d_M_lower_102 ?_
                  refine lv_ldc2 hx hb hown kk9 d_M_lower_103 ?_
                  refine x_l (y := lI (17)) (by decide +kernel) ?_
                  refine x_lrem hx hb ⟨by omega, by omega⟩ ⟨by decide, by decide⟩ (by decide) d_M_lower_106 ?_
                  have btm := tmod_bd (a := dd + kz) (show (0 : Int) < 17 by decide)
                  refine lv_lconst (v := lI 0) hx hb d_M_lower_107 rfl ?_
                  refine x_lcmp hx hb ⟨by omega, by omega⟩ ⟨by omega, by omega⟩ d_M_lower_108 ?_
                  refine x_if_eq (tgt := 121) hx hb (cmpz_r _ _) d_M_lower_109 (by decide) (fun hc => ?_) (fun hc => ?_)
                  · have hc3 := tmod17.mp (cmpz_eq.mp hc)
                    obtain rfl : kz = lk dd := lk_search hk8 hk9 hno (Or.inl hc3)
                    subst hdd
                    have lb := low_b bR.1 bR.2
                    have lr9 := low_r bR.1 bR.2
                    refine lv_aload_n hx hb d_M_lower_121 rfl (lv_at hl 7 rfl) ?_
                    refine w_get (C := "LevelledRingModel") (T := T_M) (M := 19) hx hb hts hinM hown hK hP (236) (by omega) ff6 rfl 0 (by decide) kk5 (fun _ h => h) rfl d_M_lower_122 ?_
                    refine lv_iload hx hb d_M_lower_125 (lv_at hl 3 rfl) ?_
                    refine lv_lload hx hb d_M_lower_127 (lv_at hl 2 rfl) ?_
                    refine lv_lload hx hb d_M_lower_129 (lv_at hl 1 rfl) ?_
                    refine x_lsub hx hb d_M_lower_131 ?_
                    refine lv_lload hx hb d_M_lower_132 (lv_at hl 0 rfl) ?_
                    refine lv_iload_n hx hb d_M_lower_134 rfl (lv_at hl 5 rfl) ?_
                    refine x_i2l hx hb ⟨by omega, by omega⟩ d_M_lower_135 ?_
                    refine x_lmul hx hb d_M_lower_136 ?_
                    refine x_lsub hx hb d_M_lower_137 ?_
                    refine lv_iload_n hx hb d_M_lower_138 rfl (lv_at hl 5 rfl) ?_
                    refine x_i2l hx hb ⟨by omega, by omega⟩ d_M_lower_139 ?_
                    refine x_ldiv hx hb lb (lq_r6 _) (lq_p _) d_M_lower_140 ?_
                    refine x_le (y := low l1 cc9) (low_q l1 cc9) ?_
                    refine lv_aload_n hx hb d_M_lower_141 rfl (lv_at hl 7 rfl) ?_
                    refine w_get (C := "LevelledRingModel") (T := T_M) (M := 19) hx hb hts hinM hown hK hP (236) (by omega) ff6 rfl 2 (by decide) kk8 (fun _ h => h) rfl d_M_lower_142 ?_
                    refine lv_iload_n hx hb d_M_lower_145 rfl (lv_at hl 6 rfl) ?_
                    refine lv_iconst (v := iI (1)) hx hb d_M_lower_146 rfl ?_
                    refine x_isub hx hb d_M_lower_147 ?_
                    refine w_lald hx hb hK hP (239) (by omega) ff8 (by omega) (by omega) (by omega) d_M_lower_148 ?_
                    refine x_le (y := lQ (l1 - 1)) (hb2 (l1 - 1) (by omega) (by omega)) ?_
                    refine w_calll (va_runS (As := [.long (lI (low l1 cc9)), .long (lI (lQ (l1 - 1)))]) (rest := [.int (iI (8 * (56 + 2 * w0) + i)), .ref (b + 237)]) ⟨hx, hb, hml, hown, hts⟩ (c_Mmod l D ct st ke b N w1 (low l1 cc9) (lQ (l1 - 1)) lr9 (lQ_p _) (lQ_m _)) (cwS 2 hts (gS t_486 t_487 t_9 t_488) rfl rfl rfl (by decide +kernel) ⟨Nat.le_of_ble_eq_true rfl, Nat.le_of_ble_eq_true rfl⟩) (pre_S E hP hS) rfl rfl hl.1 rfl (lv_room (Nat.le_of_ble_eq_true rfl)) d_M_lower_149 ⟨(Nat.le_of_ble_eq_true rfl), (Nat.le_of_ble_eq_true rfl)⟩) hS (fun r69 z68 H locs hz hP hS => ?_)
                    obtain ⟨rfl, rfl⟩ := hz
                    refine w_last hx hb hK hP hS (237) (by omega) fg2 (by omega) (by omega) (by omega) d_M_lower_152 (fun H locs hP hS => ?_)
                    obtain ⟨u70, hu71, hP⟩ : ∃ zz : Nat → va_E, zz = va_up w1 237 (lr ct 512 (zu g2 (8 * (56 + 2 * w0) + i) ((low l1 cc9) % (lQ (l1 - 1))))) ∧ va_P D vwCl (wl N b zz) H := ⟨_, rfl, hP⟩
                    have ff72 : u70 236 = .inr (6, [.ref (b + 237), .ref (b + 238), .ref (b + 239), .ref (b + 240), .ref (b + 241), .ref (b + 242), .int (z0), .ref (b + 243), .int (iI (cnt)), .ref (b + 244), .ref (b + 245), .ref (b + 246), .ref (b + 247), .ref (b + 248), .ref (b + 249), .ref (b + 250), .ref (b + 251), .ref (b + 252), .ref (b + 253)]) := (congrFun hu71 _).trans ((up_n (by omega)).trans ff6)
                    have ff73 : u70 238 = ir ct 4 (pr) := (congrFun hu71 _).trans ((up_n (by omega)).trans ff7)
                    have ff74 : u70 239 = lr ct 4 (bg) := (congrFun hu71 _).trans ((up_n (by omega)).trans ff8)
                    have ff75 : u70 240 = lr ct 4 (ut) := (congrFun hu71 _).trans ((up_n (by omega)).trans ff9)
                    have ff76 : u70 237 = lr ct 512 (zu g2 (8 * (56 + 2 * w0) + i) ((low l1 cc9) % (lQ (l1 - 1)))) := (congrFun hu71 _).trans up_s
                    have ff77 : u70 251 = ir ct 2 (wv) := (congrFun hu71 _).trans ((up_n (by omega)).trans fg3)
                    have ff78 : u70 252 = lr ct 2 (wm) := (congrFun hu71 _).trans ((up_n (by omega)).trans fg4)
                    have fr79 : ∀ j : Nat, (j ≠ 237) → (j ≠ 251) → (j ≠ 252) → u70 j = u j := fun j h0 h1 h2 => (congrFun hu71 j).trans ((up_n (by omega)).trans (fr5 j h0 h1 h2))
                    refine lv_iinc (k := 4) (v := iI (i + 1)) (lv' := [(4, .int (iI (i + 1))), (10, .long (lI ((lk (cen (cc9 % lq l1) (lq l1)))))), (8, .long (lI ((cen (cc9 % lq l1) (lq l1))))), (6, .long (lI (cc9))), (5, .int (iI (8 * (56 + 2 * w0) + i))), (3, .int (iI (lq l1))), (2, .int (iI (l1))), (0, .ref (b + 236)), (1, .int (iI (w0)))]) hx hb d_M_lower_153 hl rfl (iI_add _ _) (by decide) rfl (fun ls hl => ?_)
                    refine lv_goto (tgt := 23) hx hb d_M_lower_156 (by decide) ?_
                    have hl : lv_has ls 12 [(4, .int (iI (i + 1))), (3, .int (iI (lq l1))), (2, .int (iI (l1))), (0, .ref (b + 236)), (1, .int (iI (w0)))] := lv_sub hl [0, 5, 6, 7, 8] rfl
                    refine ihlo (i + 1) _ u70 H locs ls (by omega) (by omega) (by omega) (fun q h2 h3 => ?_) (fun j h2 => by rw [zu_n (by omega)]; exact hk j (by omega)) ff76 ff77 ff78 fr79 hP hS hl
                    by_cases h4 : q = i
                    · rw [h4, zu_s, hcc]
                    · rw [zu_n (by omega)]; exact hg q h2 (by omega)
                  · have hc3 : ¬ (dd + kz) % 17 = 0 := fun h => by have := cmpz_eq.mpr (tmod17.mpr h); omega
                    refine lv_lload hx hb d_M_lower_112 (lv_at hl 0 rfl) ?_
                    refine lv_lconst (v := lI 1) hx hb d_M_lower_114 rfl ?_
                    refine x_ladd hx hb d_M_lower_115 ?_
                    refine lv_lstore (lv' := [(10, .long (lI (kz + 1))), (8, .long (lI (dd))), (6, .long (lI (cc9))), (5, .int (iI (8 * (56 + 2 * w0) + i))), (4, .int (iI (i))), (3, .int (iI (lq l1))), (2, .int (iI (l1))), (0, .ref (b + 236)), (1, .int (iI (w0)))]) hx hb d_M_lower_116 hl (by decide) rfl (fun ls hl => ?_)
                    refine lv_goto (tgt := 89) hx hb d_M_lower_118 (by decide) ?_
                    have hl : lv_has ls 12 [(10, .long (lI (kz + 1))), (8, .long (lI (dd))), (6, .long (lI (cc9))), (5, .int (iI (8 * (56 + 2 * w0) + i))), (4, .int (iI (i))), (3, .int (iI (lq l1))), (2, .int (iI (l1))), (0, .ref (b + 236)), (1, .int (iI (w0)))] := lv_sub hl [0, 1, 2, 3, 4, 5, 6, 7, 8] rfl
                    refine ihli (kz + 1) H locs ls (by omega) (by omega) (by omega) (fun j h2 h3 => ?_) hP hS hl
                    by_cases h4 : j = kz
                    · rw [h4]; exact hc3
                    · exact hno j h2 (by omega)
            exact li 17 (-8) H locs ls (by omega) (by omega) (by omega) (fun j h2 h3 => by omega) hP hS hl
    exact lo 17 0 g u H locs ls (by omega) (by omega) (by omega) (fun q h2 h3 => by omega) (fun _ _ => rfl) f1 f4 f5 fr0 hP hS hl
  · refine lv_iconst (v := iI (0)) hx hb d_M_lower_11 rfl ?_
    exact ret 0 u H locs 12 ls (Or.inl rfl) (Or.inl ⟨hc, rfl, rfl⟩) hP hS d_M_lower_12
