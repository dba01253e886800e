abbrev rm_c_quieten : Room := { frames := 3, cells := 0, slots := 0, locals := 72 }
set_option maxHeartbeats 4000000 in
set_option maxRecDepth 100000 in
/-- quietenOperands() -/
theorem c_quieten (l : Launch) (D : va_G) (ct : Nat → ClassId) (st ke : Nat → Nat) (b N : Nat) (u : Nat → va_E) (hN : 236 ≤ N) (nn vv : Int) (hO : u 0 = ob b nn vv) (p0 : V2) (ok1 : okV p0.1) (ok2 : okV p0.2) (hl12 : p0.1.1 = p0.2.1) (hV1 : VV ct b u 5 p0.1) (hV2 : VV ct b u 10 p0.2) : Met l y_R_quietenOperands (w_R_quietenOperands) rm_c_quieten (va_Pc [.ref (b + 0)] (fun U => ev D ct st ke b U ∧ va_P D vwCl (wl N b u) U.heap)) (va_Qi (fun (r : Int32) (z : Nat → va_E) => ((∃ p, qt 4 p0 = some p ∧ r = iI 1 ∧ VV ct b z 5 p.1 ∧ VV ct b z 10 p.2) ∨ (qt 4 p0 = none ∧ r = iI 0 ∧ VS ct b z 5 ∧ VS ct b z 10)) ∧ ∀ j : Nat, (j < 5 ∨ 15 ≤ j) → z j = u j) (fun (z : Nat → va_E) t => va_P D vwCl (wl (N) b (z)) t.heap) (AA b)) 0 0 (AA b) := by
  refine M_z (cc := c9_R_quietenOperands) (maxL := 2) (by decide) rfl (Nat.le_of_ble_eq_true rfl) ?_
  intro p e s m args below meth c Q ls H locs hx hb hml hown hts hnm E hP hS hl ret
  have hl : lv_has ls 2 [(0, .ref (b + 0))] := hl
  have hK := ev_K E
  have kk0 := hts (.fieldLink "LevelledRing" 41 "LevelledRing" "left" "LLevelledRing$Value;") (List.mem_cons_of_mem _ t_179)
  have hinR : ∀ w ∈ u_ws "LevelledRing" T_R 11, w ∈ (w_R_quietenOperands) := hin_R _
  have kk2 := hts (.fieldLink "LevelledRing" 142 "LevelledRing$Value" "level" "I") (List.mem_cons_of_mem _ t_57)
  have hinV : ∀ w ∈ u_ws "LevelledRing$Value" T_V 4, w ∈ (w_R_quietenOperands) := hin_V _
  have kk4 := hts (.fieldLink "LevelledRing" 145 "LevelledRing$Value" "meter" "J") (List.mem_cons_of_mem _ t_59)
  have kk5 := hts (.constantLong "LevelledRing" 260 1000) (List.mem_cons_of_mem _ t_363)
  have kk6 := hts (.fieldLink "LevelledRing" 45 "LevelledRing" "right" "LLevelledRing$Value;") (List.mem_cons_of_mem _ t_180)
  have fr0 : ∀ j : Nat, (j < 5 ∨ 15 ≤ j) → u j = u j := fun _ _ => rfl
  have hV1a := hV1
  have hV2a := hV2
  obtain ⟨a0, a1, aV, aR0, aR1⟩ := hV1
  refine lv_aload_n hx hb d_R_quietenOperands_0 rfl (lv_at hl 0 rfl) ?_
  refine w_get (C := "LevelledRing") (T := T_R) (M := 11) hx hb hts hinR hown hK hP (0) (by omega) hO rfl 6 (by decide) kk0 (fun _ h => h) rfl d_R_quietenOperands_1 ?_
  refine w_get (C := "LevelledRing$Value") (T := T_V) (M := 4) hx hb hts hinV hown hK hP (5) (by omega) aV.1 rfl 0 (by decide) kk2 (fun _ h => h) rfl d_R_quietenOperands_4 ?_
  refine lv_istore_n (lv' := [(1, .int (iI (p0.1.1))), (0, .ref (b + 0))]) hx hb d_R_quietenOperands_7 rfl hl (by decide) rfl (fun ls hl => ?_)
  have lo : ∀ (d : Nat) (p1 : V2) (f : Nat) (w1 : Nat → va_E) (H : Heap) (locs : List Loc) (ls : Array Slot), (0 ≤ p1.1.1) → (p1.1.1 + 1 < d) → (p1.1.1 < f) → (okV p1.1) → (okV p1.2) → (p1.1.1 = p1.2.1) → (qt f p1 = qt 4 p0) → (VV ct b w1 5 p1.1) → (VV ct b w1 10 p1.2) → (∀ j : Nat, (j < 5 ∨ 15 ≤ j) → w1 j = u j) → va_P D vwCl (wl N b w1) H → va_S (AA b) s.heap H locs → lv_has ls 2 [(1, .int (iI (p1.1.1))), (0, .ref (b + 0))] → W p l e rm_c_quieten s m args below meth c H locs 0 0 Q (F0 m 8 ls []) := by
    intro d
    induction d with
    | zero => intro p1 f w1 H locs ls h0 hd hf o1 o2 hll hq9 vl1 vl2 fr2 hP hS hl; exfalso; omega
    | succ d ihlo =>
      intro p1 f w1 H locs ls h0 hd hf o1 o2 hll hq9 vl1 vl2 fr2 hP hS hl
      have ff3 : w1 0 = .inr (5, [.ref (b + 1), .ref (b + 21), .ref (b + 2), .ref (b + 4), .int (iI (nn)), .int (iI (vv)), .ref (b + 5), .ref (b + 10), .ref (b + 15), .ref (b + 17), .ref (b + 19)]) := (fr2 0 (by omega)).trans hO
      have l13 := o1.2.1
      have mb1 := o1.bd
      have mb2 := o2.bd
      have mz1 := o1.2.2.1
      have mz2 := o2.2.2.1
      refine lv_iload_n hx hb d_R_quietenOperands_8 rfl (lv_at hl 0 rfl) ?_
      refine x_if_le (tgt := 68) hx hb ⟨by omega, by omega⟩ d_R_quietenOperands_9 (by decide) (fun hc => ?_) (fun hc => ?_)
      · refine lv_iconst (v := iI (1)) hx hb d_R_quietenOperands_68 rfl ?_
        exact ret 1 w1 H locs 69 ls (Or.inr rfl) ⟨Or.inl ⟨p1, by rw [← hq9]; exact qt_x (by omega) (by omega), rfl, vl1, vl2⟩, fr2⟩ hP hS d_R_quietenOperands_69
      · have w1a := vl1
        have w2a := vl2
        obtain ⟨x0, x1, xV, xR0, xR1⟩ := w1a
        obtain ⟨y0, y1, yV, yR0, yR1⟩ := w2a
        refine lv_aload_n hx hb d_R_quietenOperands_12 rfl (lv_at hl 1 rfl) ?_
        refine w_get (C := "LevelledRing") (T := T_R) (M := 11) hx hb hts hinR hown hK hP (0) (by omega) ff3 rfl 6 (by decide) kk0 (fun _ h => h) rfl d_R_quietenOperands_13 ?_
        refine w_get (C := "LevelledRing$Value") (T := T_V) (M := 4) hx hb hts hinV hown hK hP (5) (by omega) xV.1 rfl 1 (by decide) kk4 (fun _ h => h) rfl d_R_quietenOperands_16 ?_
        refine lv_ldc2 hx hb hown kk5 d_R_quietenOperands_19 ?_
        refine x_l (y := lI (1000)) (by decide +kernel) ?_
        refine x_lcmp hx hb ⟨by omega, by omega⟩ ⟨by omega, by omega⟩ d_R_quietenOperands_22 ?_
        refine x_if_gt (tgt := 40) hx hb (cmpz_r _ _) d_R_quietenOperands_23 (by decide) (fun hc => ?_) (fun hc => ?_)
        · have hc : ¬ p1.1.2.1 ≤ 1000 := fun h => by have := cmpz_le.mpr h; omega
          have hcc : 0 < p1.1.1 ∧ (1000 < p1.1.2.1 ∨ 1000 < p1.2.2.1) := ⟨by omega, Or.inl (by omega)⟩
          obtain ⟨f1, rfl⟩ : ∃ f1, f = f1 + 1 := ⟨f - 1, by omega⟩
          have hq8 := qt_s (n := f1) hcc
          refine lv_aload_n hx hb d_R_quietenOperands_40 rfl (lv_at hl 1 rfl) ?_
          refine w_get (C := "LevelledRing") (T := T_R) (M := 11) hx hb hts hinR hown hK hP (0) (by omega) ff3 rfl 6 (by decide) kk0 (fun _ h => h) rfl d_R_quietenOperands_41 ?_
          have lao := o1
          have lal3 := lao.2.1
          have lam0 := lao.2.2.1
          have lam1 := lao.bd
          have lal0 := lao.1
          refine w_calli (va_runV (As := []) (rest := []) ⟨hx, hb, hml, hown, hts⟩ (c_lowerOnce l D ct st ke b N w1 5 p1.1.1 p1.1.2.1 x0 x1 (by omega) ⟨xV.1, xV.2.1, xV.2.2.1, xV.2.2.2.1, xV.2.2.2.2⟩ lal0 lal3 lam0 (by omega) p1.1.2.2.1 p1.1.2.2.2 xR0 xR1) (cwV 0 hts (gV t_364 t_331 t_332 t_4 t_333) rfl rfl rfl (by decide +kernel) ⟨Nat.le_of_ble_eq_true rfl, Nat.le_of_ble_eq_true rfl⟩) (pre_V E hP hS (5) (by omega) xV.1 rfl) rfl rfl hl.1 rfl (lv_room (Nat.le_of_ble_eq_true rfl)) d_R_quietenOperands_44 ⟨(Nat.le_of_ble_eq_true rfl), (Nat.le_of_ble_eq_true rfl)⟩) hS (fun r5 z4 H locs hz hP hS => ?_)
          rcases hz with ⟨hq, -, -⟩ | ⟨-, hq, lay0, lay1, laVR, lae0, lae1, laf⟩
          · exfalso; omega
          subst hq
          have ff6 : z4 0 = .inr (5, [.ref (b + 1), .ref (b + 21), .ref (b + 2), .ref (b + 4), .int (iI (nn)), .int (iI (vv)), .ref (b + 5), .ref (b + 10), .ref (b + 15), .ref (b + 17), .ref (b + 19)]) := (laf 0 (by omega)).trans ff3
          have ff7 : z4 10 = .inr (4, [.int (iI (p1.2.1)), .long (lI (p1.2.2.1)), .ref (b + 11), .ref (b + 13)]) := (laf 10 (by omega)).trans yV.1
          have ff8 : z4 11 = .inr (3, [.int (iI (0)), .ref (b + 12)]) := (laf 11 (by omega)).trans yV.2.1
          have ff9 : z4 12 = ir ct 32 (y0) := (laf 12 (by omega)).trans yV.2.2.1
          have ff10 : z4 13 = .inr (3, [.int (iI (0)), .ref (b + 14)]) := (laf 13 (by omega)).trans yV.2.2.2.1
          have ff11 : z4 14 = ir ct 32 (y1) := (laf 14 (by omega)).trans yV.2.2.2.2
          have fr12 : ∀ j : Nat, (j < 5 ∨ 15 ≤ j) → z4 j = u j := fun j h0 => (laf j (by omega)).trans (fr2 j h0)
          have laL : VV ct b z4 5 (lw1 p1.1) := ⟨lay0, lay1, laVR, lae0.mod (by omega), lae1.mod (by omega)⟩
          have lat := tg_01 (p1.1.1 - 1) (p1.1.2.1 / lq p1.1.1 + 77)
          have vl2 := vl2.of (z := z4) fun j h1 h2 => laf j (by omega)
          refine x_if_eq (tgt := 60) hx hb ⟨by omega, by omega⟩ d_R_quietenOperands_47 (by decide) (fun hc => ?_) (fun hc => ?_)
          · refine lv_iconst (v := iI (0)) hx hb d_R_quietenOperands_60 rfl ?_
            have hn1 : low1 p1.1 = none := low1_n (by omega) (by omega)
            exact ret 0 z4 H locs 61 ls (Or.inl rfl) ⟨Or.inr ⟨by rw [← hq9, hq8, hn1]; rfl, rfl, laL.VS, vl2.VS⟩, fr12⟩ hP hS d_R_quietenOperands_61
          · have hs1 : low1 p1.1 = some (lw1 p1.1) := low1_s (by omega) (by omega)
            refine lv_aload_n hx hb d_R_quietenOperands_50 rfl (lv_at hl 1 rfl) ?_
            refine w_get (C := "LevelledRing") (T := T_R) (M := 11) hx hb hts hinR hown hK hP (0) (by omega) ff6 rfl 7 (by decide) kk6 (fun _ h => h) rfl d_R_quietenOperands_51 ?_
            have lbo := o2
            have lbl3 := lbo.2.1
            have lbm0 := lbo.2.2.1
            have lbm1 := lbo.bd
            have lbl0 := lbo.1
            refine w_calli (va_runV (As := []) (rest := []) ⟨hx, hb, hml, hown, hts⟩ (c_lowerOnce l D ct st ke b N z4 10 p1.2.1 p1.2.2.1 y0 y1 (by omega) ⟨ff7, ff8, ff9, ff10, ff11⟩ lbl0 lbl3 lbm0 (by omega) p1.2.2.2.1 p1.2.2.2.2 yR0 yR1) (cwV 0 hts (gV t_364 t_331 t_332 t_4 t_333) rfl rfl rfl (by decide +kernel) ⟨Nat.le_of_ble_eq_true rfl, Nat.le_of_ble_eq_true rfl⟩) (pre_V E hP hS (10) (by omega) ff7 rfl) rfl rfl hl.1 rfl (lv_room (Nat.le_of_ble_eq_true rfl)) d_R_quietenOperands_54 ⟨(Nat.le_of_ble_eq_true rfl), (Nat.le_of_ble_eq_true rfl)⟩) hS (fun r14 z13 H locs hz hP hS => ?_)
            rcases hz with ⟨hq, -, -⟩ | ⟨-, hq, lby0, lby1, lbVR, lbe0, lbe1, lbf⟩
            · exfalso; omega
            subst hq
            have ff15 : z13 0 = .inr (5, [.ref (b + 1), .ref (b + 21), .ref (b + 2), .ref (b + 4), .int (iI (nn)), .int (iI (vv)), .ref (b + 5), .ref (b + 10), .ref (b + 15), .ref (b + 17), .ref (b + 19)]) := (lbf 0 (by omega)).trans ff6
            have ff16 : z13 5 = .inr (4, [.int (iI (p1.1.1 - 1)), .long (lI (p1.1.2.1 / lq p1.1.1 + 77)), .ref (b + 6), .ref (b + 8)]) := (lbf 5 (by omega)).trans laVR.1
            have ff17 : z13 6 = .inr (3, [.int (iI (0)), .ref (b + 7)]) := (lbf 6 (by omega)).trans laVR.2.1
            have ff18 : z13 7 = ir ct 32 (lay0) := (lbf 7 (by omega)).trans laVR.2.2.1
            have ff19 : z13 8 = .inr (3, [.int (iI (0)), .ref (b + 9)]) := (lbf 8 (by omega)).trans laVR.2.2.2.1
            have ff20 : z13 9 = ir ct 32 (lay1) := (lbf 9 (by omega)).trans laVR.2.2.2.2
            have fr21 : ∀ j : Nat, (j < 5 ∨ 15 ≤ j) → z13 j = u j := fun j h0 => (lbf j (by omega)).trans (fr12 j h0)
            have lbL : VV ct b z13 10 (lw1 p1.2) := ⟨lby0, lby1, lbVR, lbe0.mod (by omega), lbe1.mod (by omega)⟩
            have lbt := tg_01 (p1.2.1 - 1) (p1.2.2.1 / lq p1.2.1 + 77)
            have laL := laL.of (z := z13) fun j h1 h2 => lbf j (by omega)
            refine x_if_ne (tgt := 62) hx hb ⟨by omega, by omega⟩ d_R_quietenOperands_57 (by decide) (fun hc => ?_) (fun hc => ?_)
            · have hs2 : low1 p1.2 = some (lw1 p1.2) := low1_s (by omega) (by omega)
              refine lv_iinc (k := 0) (v := iI (p1.1.1 + (-1))) (lv' := [(1, .int (iI (p1.1.1 + (-1)))), (0, .ref (b + 0))]) hx hb d_R_quietenOperands_62 hl rfl (iI_add _ _) (by decide) rfl (fun ls hl => ?_)
              have hl : lv_has ls 2 [(1, .int (iI ((lw1 p1.1).1))), (0, .ref (b + 0))] := by rw [show (lw1 p1.1).1 = p1.1.1 + (-1) from by show p1.1.1 - 1 = _; omega]; exact hl
              refine lv_goto (tgt := 8) hx hb d_R_quietenOperands_65 (by decide) ?_
              exact ihlo (lw1 p1.1, lw1 p1.2) f1 z13 H locs ls (by show 0 ≤ p1.1.1 - 1; omega) (by show p1.1.1 - 1 + 1 < _; omega) (by show p1.1.1 - 1 < _; omega) (low1_ok o1 hs1).1 (low1_ok o2 hs2).1 (by show p1.1.1 - 1 = p1.2.1 - 1; omega) (by rw [← hq9, hq8, hs1]; show _ = (low1 p1.2).bind _; rw [hs2]; rfl) laL lbL fr21 hP hS hl
            · refine lv_iconst (v := iI (0)) hx hb d_R_quietenOperands_60 rfl ?_
              have hn2 : low1 p1.2 = none := low1_n (by omega) (by omega)
              exact ret 0 z13 H locs 61 ls (Or.inl rfl) ⟨Or.inr ⟨by rw [← hq9, hq8, hs1]; show (low1 p1.2).bind _ = _; rw [hn2]; rfl, rfl, laL.VS, lbL.VS⟩, fr21⟩ hP hS d_R_quietenOperands_61
        · have hc1 := cmpz_le.mp hc
          refine lv_aload_n hx hb d_R_quietenOperands_26 rfl (lv_at hl 1 rfl) ?_
          refine w_get (C := "LevelledRing") (T := T_R) (M := 11) hx hb hts hinR hown hK hP (0) (by omega) ff3 rfl 7 (by decide) kk6 (fun _ h => h) rfl d_R_quietenOperands_27 ?_
          refine w_get (C := "LevelledRing$Value") (T := T_V) (M := 4) hx hb hts hinV hown hK hP (10) (by omega) yV.1 rfl 1 (by decide) kk4 (fun _ h => h) rfl d_R_quietenOperands_30 ?_
          refine lv_ldc2 hx hb hown kk5 d_R_quietenOperands_33 ?_
          refine x_l (y := lI (1000)) (by decide +kernel) ?_
          refine x_lcmp hx hb ⟨by omega, by omega⟩ ⟨by omega, by omega⟩ d_R_quietenOperands_36 ?_
          refine x_if_le (tgt := 68) hx hb (cmpz_r _ _) d_R_quietenOperands_37 (by decide) (fun hc => ?_) (fun hc => ?_)
          · have hc2 := cmpz_le.mp hc
            refine lv_iconst (v := iI (1)) hx hb d_R_quietenOperands_68 rfl ?_
            exact ret 1 w1 H locs 69 ls (Or.inr rfl) ⟨Or.inl ⟨p1, by rw [← hq9]; exact qt_x (by omega) (by omega), rfl, vl1, vl2⟩, fr2⟩ hP hS d_R_quietenOperands_69
          · have hc2 : ¬ p1.2.2.1 ≤ 1000 := fun h => by have := cmpz_le.mpr h; omega
            have hcc : 0 < p1.1.1 ∧ (1000 < p1.1.2.1 ∨ 1000 < p1.2.2.1) := ⟨by omega, Or.inr (by omega)⟩
            obtain ⟨f1, rfl⟩ : ∃ f1, f = f1 + 1 := ⟨f - 1, by omega⟩
            have hq8 := qt_s (n := f1) hcc
            refine lv_aload_n hx hb d_R_quietenOperands_40 rfl (lv_at hl 1 rfl) ?_
            refine w_get (C := "LevelledRing") (T := T_R) (M := 11) hx hb hts hinR hown hK hP (0) (by omega) ff3 rfl 6 (by decide) kk0 (fun _ h => h) rfl d_R_quietenOperands_41 ?_
            have lao := o1
            have lal3 := lao.2.1
            have lam0 := lao.2.2.1
            have lam1 := lao.bd
            have lal0 := lao.1
            refine w_calli (va_runV (As := []) (rest := []) ⟨hx, hb, hml, hown, hts⟩ (c_lowerOnce l D ct st ke b N w1 5 p1.1.1 p1.1.2.1 x0 x1 (by omega) ⟨xV.1, xV.2.1, xV.2.2.1, xV.2.2.2.1, xV.2.2.2.2⟩ lal0 lal3 lam0 (by omega) p1.1.2.2.1 p1.1.2.2.2 xR0 xR1) (cwV 0 hts (gV t_364 t_331 t_332 t_4 t_333) rfl rfl rfl (by decide +kernel) ⟨Nat.le_of_ble_eq_true rfl, Nat.le_of_ble_eq_true rfl⟩) (pre_V E hP hS (5) (by omega) xV.1 rfl) rfl rfl hl.1 rfl (lv_room (Nat.le_of_ble_eq_true rfl)) d_R_quietenOperands_44 ⟨(Nat.le_of_ble_eq_true rfl), (Nat.le_of_ble_eq_true rfl)⟩) hS (fun r23 z22 H locs hz hP hS => ?_)
            rcases hz with ⟨hq, -, -⟩ | ⟨-, hq, lay0, lay1, laVR, lae0, lae1, laf⟩
            · exfalso; omega
            subst hq
            have ff24 : z22 0 = .inr (5, [.ref (b + 1), .ref (b + 21), .ref (b + 2), .ref (b + 4), .int (iI (nn)), .int (iI (vv)), .ref (b + 5), .ref (b + 10), .ref (b + 15), .ref (b + 17), .ref (b + 19)]) := (laf 0 (by omega)).trans ff3
            have ff25 : z22 10 = .inr (4, [.int (iI (p1.2.1)), .long (lI (p1.2.2.1)), .ref (b + 11), .ref (b + 13)]) := (laf 10 (by omega)).trans yV.1
            have ff26 : z22 11 = .inr (3, [.int (iI (0)), .ref (b + 12)]) := (laf 11 (by omega)).trans yV.2.1
            have ff27 : z22 12 = ir ct 32 (y0) := (laf 12 (by omega)).trans yV.2.2.1
            have ff28 : z22 13 = .inr (3, [.int (iI (0)), .ref (b + 14)]) := (laf 13 (by omega)).trans yV.2.2.2.1
            have ff29 : z22 14 = ir ct 32 (y1) := (laf 14 (by omega)).trans yV.2.2.2.2
            have fr30 : ∀ j : Nat, (j < 5 ∨ 15 ≤ j) → z22 j = u j := fun j h0 => (laf j (by omega)).trans (fr2 j h0)
            have laL : VV ct b z22 5 (lw1 p1.1) := ⟨lay0, lay1, laVR, lae0.mod (by omega), lae1.mod (by omega)⟩
            have lat := tg_01 (p1.1.1 - 1) (p1.1.2.1 / lq p1.1.1 + 77)
            have vl2 := vl2.of (z := z22) fun j h1 h2 => laf j (by omega)
            refine x_if_eq (tgt := 60) hx hb ⟨by omega, by omega⟩ d_R_quietenOperands_47 (by decide) (fun hc => ?_) (fun hc => ?_)
            · refine lv_iconst (v := iI (0)) hx hb d_R_quietenOperands_60 rfl ?_
              have hn1 : low1 p1.1 = none := low1_n (by omega) (by omega)
              exact ret 0 z22 H locs 61 ls (Or.inl rfl) ⟨Or.inr ⟨by rw [← hq9, hq8, hn1]; rfl, rfl, laL.VS, vl2.VS⟩, fr30⟩ hP hS d_R_quietenOperands_61
            · have hs1 : low1 p1.1 = some (lw1 p1.1) := low1_s (by omega) (by omega)
              refine lv_aload_n hx hb d_R_quietenOperands_50 rfl (lv_at hl 1 rfl) ?_
              refine w_get (C := "LevelledRing") (T := T_R) (M := 11) hx hb hts hinR hown hK hP (0) (by omega) ff24 rfl 7 (by decide) kk6 (fun _ h => h) rfl d_R_quietenOperands_51 ?_
              have lbo := o2
              have lbl3 := lbo.2.1
              have lbm0 := lbo.2.2.1
              have lbm1 := lbo.bd
              have lbl0 := lbo.1
              refine w_calli (va_runV (As := []) (rest := []) ⟨hx, hb, hml, hown, hts⟩ (c_lowerOnce l D ct st ke b N z22 10 p1.2.1 p1.2.2.1 y0 y1 (by omega) ⟨ff25, ff26, ff27, ff28, ff29⟩ lbl0 lbl3 lbm0 (by omega) p1.2.2.2.1 p1.2.2.2.2 yR0 yR1) (cwV 0 hts (gV t_364 t_331 t_332 t_4 t_333) rfl rfl rfl (by decide +kernel) ⟨Nat.le_of_ble_eq_true rfl, Nat.le_of_ble_eq_true rfl⟩) (pre_V E hP hS (10) (by omega) ff25 rfl) rfl rfl hl.1 rfl (lv_room (Nat.le_of_ble_eq_true rfl)) d_R_quietenOperands_54 ⟨(Nat.le_of_ble_eq_true rfl), (Nat.le_of_ble_eq_true rfl)⟩) hS (fun r32 z31 H locs hz hP hS => ?_)
              rcases hz with ⟨hq, -, -⟩ | ⟨-, hq, lby0, lby1, lbVR, lbe0, lbe1, lbf⟩
              · exfalso; omega
              subst hq
              have ff33 : z31 0 = .inr (5, [.ref (b + 1), .ref (b + 21), .ref (b + 2), .ref (b + 4), .int (iI (nn)), .int (iI (vv)), .ref (b + 5), .ref (b + 10), .ref (b + 15), .ref (b + 17), .ref (b + 19)]) := (lbf 0 (by omega)).trans ff24
              have ff34 : z31 5 = .inr (4, [.int (iI (p1.1.1 - 1)), .long (lI (p1.1.2.1 / lq p1.1.1 + 77)), .ref (b + 6), .ref (b + 8)]) := (lbf 5 (by omega)).trans laVR.1
              have ff35 : z31 6 = .inr (3, [.int (iI (0)), .ref (b + 7)]) := (lbf 6 (by omega)).trans laVR.2.1
              have ff36 : z31 7 = ir ct 32 (lay0) := (lbf 7 (by omega)).trans laVR.2.2.1
              have ff37 : z31 8 = .inr (3, [.int (iI (0)), .ref (b + 9)]) := (lbf 8 (by omega)).trans laVR.2.2.2.1
              have ff38 : z31 9 = ir ct 32 (lay1) := (lbf 9 (by omega)).trans laVR.2.2.2.2
              have fr39 : ∀ j : Nat, (j < 5 ∨ 15 ≤ j) → z31 j = u j := fun j h0 => (lbf j (by omega)).trans (fr30 j h0)
              have lbL : VV ct b z31 10 (lw1 p1.2) := ⟨lby0, lby1, lbVR, lbe0.mod (by omega), lbe1.mod (by omega)⟩
              have lbt := tg_01 (p1.2.1 - 1) (p1.2.2.1 / lq p1.2.1 + 77)
              have laL := laL.of (z := z31) fun j h1 h2 => lbf j (by omega)
              refine x_if_ne (tgt := 62) hx hb ⟨by omega, by omega⟩ d_R_quietenOperands_57 (by decide) (fun hc => ?_) (fun hc => ?_)
              · have hs2 : low1 p1.2 = some (lw1 p1.2) := low1_s (by omega) (by omega)
                refine lv_iinc (k := 0) (v := iI (p1.1.1 + (-1))) (lv' := [(1, .int (iI (p1.1.1 + (-1)))), (0, .ref (b + 0))]) hx hb d_R_quietenOperands_62 hl rfl (iI_add _ _) (by decide) rfl (fun ls hl => ?_)
                have hl : lv_has ls 2 [(1, .int (iI ((lw1 p1.1).1))), (0, .ref (b + 0))] := by rw [show (lw1 p1.1).1 = p1.1.1 + (-1) from by show p1.1.1 - 1 = _; omega]; exact hl
                refine lv_goto (tgt := 8) hx hb d_R_quietenOperands_65 (by decide) ?_
                exact ihlo (lw1 p1.1, lw1 p1.2) f1 z31 H locs ls (by show 0 ≤ p1.1.1 - 1; omega) (by show p1.1.1 - 1 + 1 < _; omega) (by show p1.1.1 - 1 < _; omega) (low1_ok o1 hs1).1 (low1_ok o2 hs2).1 (by show p1.1.1 - 1 = p1.2.1 - 1; omega) (by rw [← hq9, hq8, hs1]; show _ = (low1 p1.2).bind _; rw [hs2]; rfl) laL lbL fr39 hP hS hl
              · refine lv_iconst (v := iI (0)) hx hb d_R_quietenOperands_60 rfl ?_
                have hn2 : low1 p1.2 = none := low1_n (by omega) (by omega)
                exact ret 0 z31 H locs 61 ls (Or.inl rfl) ⟨Or.inr ⟨by rw [← hq9, hq8, hs1]; show (low1 p1.2).bind _ = _; rw [hn2]; rfl, rfl, laL.VS, lbL.VS⟩, fr39⟩ hP hS d_R_quietenOperands_61
  have l0 := ok1.1
  have l3 := ok1.2.1
  exact lo (p0.1.1 + 2).toNat p0 4 u H locs ls l0 (by omega) (by omega) ok1 ok2 hl12 rfl hV1a hV2a fr0 hP hS hl
abbrev rm_c_giveSum : Room := { frames := 2, cells := 0, slots := 0, locals := 50 }
set_option maxHeartbeats 4000000 in
set_option maxRecDepth 100000 in
/-- giveSum(value, sg) -/
theorem c_giveSum (l : Launch) (D : va_G) (ct : Nat → ClassId) (st ke : Nat → Nat) (b N : Nat) (u : Nat → va_E) (hN : 236 ≤ N) (nn vv : Int) (hO : u 0 = ob b nn vv) (p0 : V2) (ok1 : okV p0.1) (ok2 : okV p0.2) (hl12 : p0.1.1 = p0.2.1) (hV1 : VV ct b u 5 p0.1) (hV2 : VV ct b u 10 p0.2) (k : Nat) (hk44 : 44 ≤ k) (hk : k + 4 < N) (hVS : VS ct b u k) (sg : Int) (hsg : sg = 1 ∨ sg = -1) : Met l y_R_giveSum (w_R_giveSum) rm_c_giveSum (va_Pc [.ref (b + 0), .ref (b + k), .int (iI (sg))] (fun U => ev D ct st ke b U ∧ va_P D vwCl (wl N b u) U.heap)) (va_Qi (fun (r : Int32) (z : Nat → va_E) => ((∃ w, sumV sg p0 = some w ∧ r = iI 1 ∧ VV ct b z k w) ∨ (sumV sg p0 = none ∧ r = iI 0 ∧ VS ct b z k)) ∧ ∀ j : Nat, (j < k ∨ k + 5 ≤ j) → z j = u j) (fun (z : Nat → va_E) t => va_P D vwCl (wl (N) b (z)) t.heap) (AA b)) 0 0 (AA b) := by
  refine M_z (cc := c9_R_giveSum) (maxL := 3) (by decide) rfl (Nat.le_of_ble_eq_true rfl) ?_
  intro p e s m args below meth c Q ls H locs hx hb hml hown hts hnm E hP hS hl ret
  have hl : lv_has ls 3 [(0, .ref (b + 0)), (1, .ref (b + k)), (2, .int (iI (sg)))] := hl
  have hK := ev_K E
  have kk0 := hts (.fieldLink "LevelledRing" 41 "LevelledRing" "left" "LLevelledRing$Value;") (List.mem_cons_of_mem _ t_179)
  have hinR : ∀ w ∈ u_ws "LevelledRing" T_R 11, w ∈ (w_R_giveSum) := hin_R _
  have kk2 := hts (.fieldLink "LevelledRing" 142 "LevelledRing$Value" "level" "I") (List.mem_cons_of_mem _ t_57)
  have hinV : ∀ w ∈ u_ws "LevelledRing$Value" T_V 4, w ∈ (w_R_giveSum) := hin_V _
  have kk4 := hts (.fieldLink "LevelledRing" 145 "LevelledRing$Value" "meter" "J") (List.mem_cons_of_mem _ t_59)
  have kk5 := hts (.fieldLink "LevelledRing" 45 "LevelledRing" "right" "LLevelledRing$Value;") (List.mem_cons_of_mem _ t_180)
  have kk6 := hts (.fieldLink "LevelledRing" 167 "LevelledRing$Value" "c0" "LLevelledRing$Poly;") (List.mem_cons_of_mem _ t_61)
  have kk7 := hts (.fieldLink "LevelledRing" 170 "LevelledRing$Value" "c1" "LLevelledRing$Poly;") (List.mem_cons_of_mem _ t_63)
  have fr0 : ∀ j : Nat, (j < k ∨ k + 5 ≤ j) → u j = u j := fun _ _ => rfl
  obtain ⟨x0, x1, xV, xR0, xR1⟩ := hV1
  obtain ⟨y0, y1, yV, yR0, yR1⟩ := hV2
  obtain ⟨sl, sm, s0, s1, sV⟩ := hVS
  have l0 := ok1.1
  have l3 := ok1.2.1
  have b1 := ok1.bd
  have b2 := ok2.bd
  have n1 := ok1.2.2.1
  have n2 := ok2.2.2.1
  rw [← hl12] at yR0 yR1
  refine lv_aload_n hx hb d_R_giveSum_0 rfl (lv_at hl 1 rfl) ?_
  refine lv_aload_n hx hb d_R_giveSum_1 rfl (lv_at hl 0 rfl) ?_
  refine w_get (C := "LevelledRing") (T := T_R) (M := 11) hx hb hts hinR hown hK hP (0) (by omega) hO rfl 6 (by decide) kk0 (fun _ h => h) rfl d_R_giveSum_2 ?_
  refine w_get (C := "LevelledRing$Value") (T := T_V) (M := 4) hx hb hts hinV hown hK hP (5) (by omega) xV.1 rfl 0 (by decide) kk2 (fun _ h => h) rfl d_R_giveSum_5 ?_
  refine w_put (C := "LevelledRing$Value") (T := T_V) (M := 4) (ty := .int) (v := .int (iI (p0.1.1))) hx hb hts hinV ty_V tyok_V nm_V hown hK hP hS (k) (by omega) sV.1 rfl 0 (by decide) kk2 (fun _ h => h) rfl (by decide +kernel) rfl rfl (Nat.le_of_ble_eq_true rfl) d_R_giveSum_8 (fun H locs hP hS => ?_)
  obtain ⟨u1, hu2, hP⟩ : ∃ zz : Nat → va_E, zz = va_up u k (.inr (4, [.int (iI (p0.1.1)), .long (lI (sm)), .ref (b + (k + 1)), .ref (b + (k + 3))])) ∧ va_P D vwCl (wl N b zz) H := ⟨_, rfl, hP⟩
  have ff3 : u1 0 = .inr (5, [.ref (b + 1), .ref (b + 21), .ref (b + 2), .ref (b + 4), .int (iI (nn)), .int (iI (vv)), .ref (b + 5), .ref (b + 10), .ref (b + 15), .ref (b + 17), .ref (b + 19)]) := (congrFun hu2 _).trans ((up_n (by omega)).trans hO)
  have ff4 : u1 5 = .inr (4, [.int (iI (p0.1.1)), .long (lI (p0.1.2.1)), .ref (b + 6), .ref (b + 8)]) := (congrFun hu2 _).trans ((up_n (by omega)).trans xV.1)
  have ff5 : u1 6 = .inr (3, [.int (iI (0)), .ref (b + 7)]) := (congrFun hu2 _).trans ((up_n (by omega)).trans xV.2.1)
  have ff6 : u1 7 = ir ct 32 (x0) := (congrFun hu2 _).trans ((up_n (by omega)).trans xV.2.2.1)
  have ff7 : u1 8 = .inr (3, [.int (iI (0)), .ref (b + 9)]) := (congrFun hu2 _).trans ((up_n (by omega)).trans xV.2.2.2.1)
  have ff8 : u1 9 = ir ct 32 (x1) := (congrFun hu2 _).trans ((up_n (by omega)).trans xV.2.2.2.2)
  have ff9 : u1 10 = .inr (4, [.int (iI (p0.2.1)), .long (lI (p0.2.2.1)), .ref (b + 11), .ref (b + 13)]) := (congrFun hu2 _).trans ((up_n (by omega)).trans yV.1)
  have ff10 : u1 11 = .inr (3, [.int (iI (0)), .ref (b + 12)]) := (congrFun hu2 _).trans ((up_n (by omega)).trans yV.2.1)
  have ff11 : u1 12 = ir ct 32 (y0) := (congrFun hu2 _).trans ((up_n (by omega)).trans yV.2.2.1)
  have ff12 : u1 13 = .inr (3, [.int (iI (0)), .ref (b + 14)]) := (congrFun hu2 _).trans ((up_n (by omega)).trans yV.2.2.2.1)
  have ff13 : u1 14 = ir ct 32 (y1) := (congrFun hu2 _).trans ((up_n (by omega)).trans yV.2.2.2.2)
  have ff14 : u1 k = .inr (4, [.int (iI (p0.1.1)), .long (lI (sm)), .ref (b + (k + 1)), .ref (b + (k + 3))]) := (congrFun hu2 _).trans up_s
  have ff15 : u1 (k + 1) = .inr (3, [.int (iI (0)), .ref (b + (k + 2))]) := (congrFun hu2 _).trans ((up_n (by omega)).trans sV.2.1)
  have ff16 : u1 (k + 2) = ir ct 32 (s0) := (congrFun hu2 _).trans ((up_n (by omega)).trans sV.2.2.1)
  have ff17 : u1 (k + 3) = .inr (3, [.int (iI (0)), .ref (b + (k + 4))]) := (congrFun hu2 _).trans ((up_n (by omega)).trans sV.2.2.2.1)
  have ff18 : u1 (k + 4) = ir ct 32 (s1) := (congrFun hu2 _).trans ((up_n (by omega)).trans sV.2.2.2.2)
  have fr19 : ∀ j : Nat, (j < k ∨ k + 5 ≤ j) → u1 j = u j := fun j h0 => (congrFun hu2 j).trans ((up_n (by omega)).trans (fr0 j h0))
  refine lv_aload_n hx hb d_R_giveSum_11 rfl (lv_at hl 1 rfl) ?_
  refine lv_aload_n hx hb d_R_giveSum_12 rfl (lv_at hl 0 rfl) ?_
  refine w_get (C := "LevelledRing") (T := T_R) (M := 11) hx hb hts hinR hown hK hP (0) (by omega) ff3 rfl 6 (by decide) kk0 (fun _ h => h) rfl d_R_giveSum_13 ?_
  refine w_get (C := "LevelledRing$Value") (T := T_V) (M := 4) hx hb hts hinV hown hK hP (5) (by omega) ff4 rfl 1 (by decide) kk4 (fun _ h => h) rfl d_R_giveSum_16 ?_
  refine lv_aload_n hx hb d_R_giveSum_19 rfl (lv_at hl 0 rfl) ?_
  refine w_get (C := "LevelledRing") (T := T_R) (M := 11) hx hb hts hinR hown hK hP (0) (by omega) ff3 rfl 7 (by decide) kk5 (fun _ h => h) rfl d_R_giveSum_20 ?_
  refine w_get (C := "LevelledRing$Value") (T := T_V) (M := 4) hx hb hts hinV hown hK hP (10) (by omega) ff9 rfl 1 (by decide) kk4 (fun _ h => h) rfl d_R_giveSum_23 ?_
  refine x_ladd hx hb d_R_giveSum_26 ?_
  refine w_put (C := "LevelledRing$Value") (T := T_V) (M := 4) (ty := .long) (v := .long (lI ((p0.1.2.1) + (p0.2.2.1)))) hx hb hts hinV ty_V tyok_V nm_V hown hK hP hS (k) (by omega) ff14 rfl 1 (by decide) kk4 (fun _ h => h) rfl (by decide +kernel) rfl rfl (Nat.le_of_ble_eq_true rfl) d_R_giveSum_27 (fun H locs hP hS => ?_)
  obtain ⟨u20, hu21, hP⟩ : ∃ zz : Nat → va_E, zz = va_up u1 k (.inr (4, [.int (iI (p0.1.1)), .long (lI ((p0.1.2.1) + (p0.2.2.1))), .ref (b + (k + 1)), .ref (b + (k + 3))])) ∧ va_P D vwCl (wl N b zz) H := ⟨_, rfl, hP⟩
  have ff22 : u20 0 = .inr (5, [.ref (b + 1), .ref (b + 21), .ref (b + 2), .ref (b + 4), .int (iI (nn)), .int (iI (vv)), .ref (b + 5), .ref (b + 10), .ref (b + 15), .ref (b + 17), .ref (b + 19)]) := (congrFun hu21 _).trans ((up_n (by omega)).trans ff3)
  have ff23 : u20 5 = .inr (4, [.int (iI (p0.1.1)), .long (lI (p0.1.2.1)), .ref (b + 6), .ref (b + 8)]) := (congrFun hu21 _).trans ((up_n (by omega)).trans ff4)
  have ff24 : u20 6 = .inr (3, [.int (iI (0)), .ref (b + 7)]) := (congrFun hu21 _).trans ((up_n (by omega)).trans ff5)
  have ff25 : u20 7 = ir ct 32 (x0) := (congrFun hu21 _).trans ((up_n (by omega)).trans ff6)
  have ff26 : u20 8 = .inr (3, [.int (iI (0)), .ref (b + 9)]) := (congrFun hu21 _).trans ((up_n (by omega)).trans ff7)
  have ff27 : u20 9 = ir ct 32 (x1) := (congrFun hu21 _).trans ((up_n (by omega)).trans ff8)
  have ff28 : u20 10 = .inr (4, [.int (iI (p0.2.1)), .long (lI (p0.2.2.1)), .ref (b + 11), .ref (b + 13)]) := (congrFun hu21 _).trans ((up_n (by omega)).trans ff9)
  have ff29 : u20 11 = .inr (3, [.int (iI (0)), .ref (b + 12)]) := (congrFun hu21 _).trans ((up_n (by omega)).trans ff10)
  have ff30 : u20 12 = ir ct 32 (y0) := (congrFun hu21 _).trans ((up_n (by omega)).trans ff11)
  have ff31 : u20 13 = .inr (3, [.int (iI (0)), .ref (b + 14)]) := (congrFun hu21 _).trans ((up_n (by omega)).trans ff12)
  have ff32 : u20 14 = ir ct 32 (y1) := (congrFun hu21 _).trans ((up_n (by omega)).trans ff13)
  have ff33 : u20 k = .inr (4, [.int (iI (p0.1.1)), .long (lI ((p0.1.2.1) + (p0.2.2.1))), .ref (b + (k + 1)), .ref (b + (k + 3))]) := (congrFun hu21 _).trans up_s
  have ff34 : u20 (k + 1) = .inr (3, [.int (iI (0)), .ref (b + (k + 2))]) := (congrFun hu21 _).trans ((up_n (by omega)).trans ff15)
  have ff35 : u20 (k + 2) = ir ct 32 (s0) := (congrFun hu21 _).trans ((up_n (by omega)).trans ff16)
  have ff36 : u20 (k + 3) = .inr (3, [.int (iI (0)), .ref (b + (k + 4))]) := (congrFun hu21 _).trans ((up_n (by omega)).trans ff17)
  have ff37 : u20 (k + 4) = ir ct 32 (s1) := (congrFun hu21 _).trans ((up_n (by omega)).trans ff18)
  have fr38 : ∀ j : Nat, (j < k ∨ k + 5 ≤ j) → u20 j = u j := fun j h0 => (congrFun hu21 j).trans ((up_n (by omega)).trans (fr19 j h0))
  refine lv_aload_n hx hb d_R_giveSum_30 rfl (lv_at hl 1 rfl) ?_
  refine w_calli (va_runV (As := []) (rest := []) ⟨hx, hb, hml, hown, hts⟩ (c_tooGreat l D ct st ke b N u20 k p0.1.1 ((p0.1.2.1) + (p0.2.2.1)) (by omega) ff33 l0 l3 ⟨by omega, by omega⟩) (cwV 0 hts (gV t_358 t_348 t_349 t_4 t_350) rfl rfl rfl (by decide +kernel) ⟨Nat.le_of_ble_eq_true rfl, Nat.le_of_ble_eq_true rfl⟩) (pre_V E hP hS (k) (by omega) ff33 rfl) rfl rfl hl.1 rfl (lv_room (Nat.le_of_ble_eq_true rfl)) d_R_giveSum_31 ⟨(Nat.le_of_ble_eq_true rfl), (Nat.le_of_ble_eq_true rfl)⟩) hS (fun r40 z39 H locs hz hP hS => ?_)
  obtain ⟨rfl, rfl⟩ := hz
  have ht01 := tg_01 p0.1.1 (p0.1.2.1 + p0.2.2.1)
  refine x_if_eq (tgt := 39) hx hb ⟨by omega, by omega⟩ d_R_giveSum_34 (by decide) (fun hc => ?_) (fun hc => ?_)
  · refine lv_aload_n hx hb d_R_giveSum_39 rfl (lv_at hl 1 rfl) ?_
    refine w_get (C := "LevelledRing$Value") (T := T_V) (M := 4) hx hb hts hinV hown hK hP (k) (by omega) ff33 rfl 2 (by decide) kk6 (fun _ h => h) rfl d_R_giveSum_40 ?_
    refine lv_aload_n hx hb d_R_giveSum_43 rfl (lv_at hl 0 rfl) ?_
    refine w_get (C := "LevelledRing") (T := T_R) (M := 11) hx hb hts hinR hown hK hP (0) (by omega) ff22 rfl 6 (by decide) kk0 (fun _ h => h) rfl d_R_giveSum_44 ?_
    refine w_get (C := "LevelledRing$Value") (T := T_V) (M := 4) hx hb hts hinV hown hK hP (5) (by omega) ff23 rfl 2 (by decide) kk6 (fun _ h => h) rfl d_R_giveSum_47 ?_
    refine lv_iload_n hx hb d_R_giveSum_50 rfl (lv_at hl 2 rfl) ?_
    refine lv_aload_n hx hb d_R_giveSum_51 rfl (lv_at hl 0 rfl) ?_
    refine w_get (C := "LevelledRing") (T := T_R) (M := 11) hx hb hts hinR hown hK hP (0) (by omega) ff22 rfl 7 (by decide) kk5 (fun _ h => h) rfl d_R_giveSum_52 ?_
    refine w_get (C := "LevelledRing$Value") (T := T_V) (M := 4) hx hb hts hinV hown hK hP (10) (by omega) ff28 rfl 2 (by decide) kk6 (fun _ h => h) rfl d_R_giveSum_55 ?_
    refine lv_aload_n hx hb d_R_giveSum_58 rfl (lv_at hl 1 rfl) ?_
    refine w_get (C := "LevelledRing$Value") (T := T_V) (M := 4) hx hb hts hinV hown hK hP (k) (by omega) ff33 rfl 0 (by decide) kk2 (fun _ h => h) rfl d_R_giveSum_59 ?_
    refine w_callv (va_runV (As := [.ref (b + 6), .int (iI (sg)), .ref (b + 11), .int (iI (p0.1.1))]) (rest := []) ⟨hx, hb, hml, hown, hts⟩ (c_setSum l D ct st ke b N u20 (k + 1) 0 32 s0 (by omega) (by decide) ff34 ff35 p0.1.1 (by omega) (by omega) (by omega) (Or.inl rfl) 6 32 x0 (by omega) (by decide) (by omega) (by omega) ff24 ff25 11 32 y0 (by omega) (by decide) (by omega) (by omega) ff29 ff30 sg hsg p0.1.2.2.1 p0.2.2.2.1 xR0 yR0) (cwV 4 hts (gV t_263 t_264 t_265 t_3 t_266) rfl rfl rfl (by decide +kernel) ⟨Nat.le_of_ble_eq_true rfl, Nat.le_of_ble_eq_true rfl⟩) (pre_V E hP hS (k + 1) (by omega) ff34 rfl) rfl rfl hl.1 rfl (lv_room (Nat.le_of_ble_eq_true rfl)) d_R_giveSum_62 ⟨(Nat.le_of_ble_eq_true rfl), (Nat.le_of_ble_eq_true rfl)⟩) hS (fun z41 H locs hz hP hS => ?_)
    obtain ⟨g0, d0, e0, c0⟩ := hz
    have ff43 : z41 0 = .inr (5, [.ref (b + 1), .ref (b + 21), .ref (b + 2), .ref (b + 4), .int (iI (nn)), .int (iI (vv)), .ref (b + 5), .ref (b + 10), .ref (b + 15), .ref (b + 17), .ref (b + 19)]) := (c0 0 (by omega)).trans ff22
    have ff44 : z41 5 = .inr (4, [.int (iI (p0.1.1)), .long (lI (p0.1.2.1)), .ref (b + 6), .ref (b + 8)]) := (c0 5 (by omega)).trans ff23
    have ff45 : z41 6 = .inr (3, [.int (iI (0)), .ref (b + 7)]) := (c0 6 (by omega)).trans ff24
    have ff46 : z41 7 = ir ct 32 (x0) := (c0 7 (by omega)).trans ff25
    have ff47 : z41 8 = .inr (3, [.int (iI (0)), .ref (b + 9)]) := (c0 8 (by omega)).trans ff26
    have ff48 : z41 9 = ir ct 32 (x1) := (c0 9 (by omega)).trans ff27
    have ff49 : z41 10 = .inr (4, [.int (iI (p0.2.1)), .long (lI (p0.2.2.1)), .ref (b + 11), .ref (b + 13)]) := (c0 10 (by omega)).trans ff28
    have ff50 : z41 11 = .inr (3, [.int (iI (0)), .ref (b + 12)]) := (c0 11 (by omega)).trans ff29
    have ff51 : z41 12 = ir ct 32 (y0) := (c0 12 (by omega)).trans ff30
    have ff52 : z41 13 = .inr (3, [.int (iI (0)), .ref (b + 14)]) := (c0 13 (by omega)).trans ff31
    have ff53 : z41 14 = ir ct 32 (y1) := (c0 14 (by omega)).trans ff32
    have ff54 : z41 k = .inr (4, [.int (iI (p0.1.1)), .long (lI ((p0.1.2.1) + (p0.2.2.1))), .ref (b + (k + 1)), .ref (b + (k + 3))]) := (c0 k (by omega)).trans ff33
    have ff55 : z41 (k + 1) = .inr (3, [.int (iI (0)), .ref (b + (k + 2))]) := (c0 (k + 1) (by omega)).trans ff34
    have ff56 : z41 (k + 3) = .inr (3, [.int (iI (0)), .ref (b + (k + 4))]) := (c0 (k + 3) (by omega)).trans ff36
    have ff57 : z41 (k + 4) = ir ct 32 (s1) := (c0 (k + 4) (by omega)).trans ff37
    have fr58 : ∀ j : Nat, (j < k ∨ k + 5 ≤ j) → z41 j = u j := fun j h0 => (c0 j (by omega)).trans (fr38 j h0)
    refine lv_aload_n hx hb d_R_giveSum_65 rfl (lv_at hl 1 rfl) ?_
    refine w_get (C := "LevelledRing$Value") (T := T_V) (M := 4) hx hb hts hinV hown hK hP (k) (by omega) ff54 rfl 3 (by decide) kk7 (fun _ h => h) rfl d_R_giveSum_66 ?_
    refine lv_aload_n hx hb d_R_giveSum_69 rfl (lv_at hl 0 rfl) ?_
    refine w_get (C := "LevelledRing") (T := T_R) (M := 11) hx hb hts hinR hown hK hP (0) (by omega) ff43 rfl 6 (by decide) kk0 (fun _ h => h) rfl d_R_giveSum_70 ?_
    refine w_get (C := "LevelledRing$Value") (T := T_V) (M := 4) hx hb hts hinV hown hK hP (5) (by omega) ff44 rfl 3 (by decide) kk7 (fun _ h => h) rfl d_R_giveSum_73 ?_
    refine lv_iload_n hx hb d_R_giveSum_76 rfl (lv_at hl 2 rfl) ?_
    refine lv_aload_n hx hb d_R_giveSum_77 rfl (lv_at hl 0 rfl) ?_
    refine w_get (C := "LevelledRing") (T := T_R) (M := 11) hx hb hts hinR hown hK hP (0) (by omega) ff43 rfl 7 (by decide) kk5 (fun _ h => h) rfl d_R_giveSum_78 ?_
    refine w_get (C := "LevelledRing$Value") (T := T_V) (M := 4) hx hb hts hinV hown hK hP (10) (by omega) ff49 rfl 3 (by decide) kk7 (fun _ h => h) rfl d_R_giveSum_81 ?_
    refine lv_aload_n hx hb d_R_giveSum_84 rfl (lv_at hl 1 rfl) ?_
    refine w_get (C := "LevelledRing$Value") (T := T_V) (M := 4) hx hb hts hinV hown hK hP (k) (by omega) ff54 rfl 0 (by decide) kk2 (fun _ h => h) rfl d_R_giveSum_85 ?_
    refine w_callv (va_runV (As := [.ref (b + 8), .int (iI (sg)), .ref (b + 13), .int (iI (p0.1.1))]) (rest := []) ⟨hx, hb, hml, hown, hts⟩ (c_setSum l D ct st ke b N z41 (k + 3) 0 32 s1 (by omega) (by decide) ff56 ff57 p0.1.1 (by omega) (by omega) (by omega) (Or.inl rfl) 8 32 x1 (by omega) (by decide) (by omega) (by omega) ff47 ff48 13 32 y1 (by omega) (by decide) (by omega) (by omega) ff52 ff53 sg hsg p0.1.2.2.2 p0.2.2.2.2 xR1 yR1) (cwV 4 hts (gV t_263 t_264 t_265 t_3 t_266) rfl rfl rfl (by decide +kernel) ⟨Nat.le_of_ble_eq_true rfl, Nat.le_of_ble_eq_true rfl⟩) (pre_V E hP hS (k + 3) (by omega) ff56 rfl) rfl rfl hl.1 rfl (lv_room (Nat.le_of_ble_eq_true rfl)) d_R_giveSum_88 ⟨(Nat.le_of_ble_eq_true rfl), (Nat.le_of_ble_eq_true rfl)⟩) hS (fun z59 H locs hz hP hS => ?_)
    obtain ⟨g1, d1, e1, c1⟩ := hz
    have ff61 : z59 0 = .inr (5, [.ref (b + 1), .ref (b + 21), .ref (b + 2), .ref (b + 4), .int (iI (nn)), .int (iI (vv)), .ref (b + 5), .ref (b + 10), .ref (b + 15), .ref (b + 17), .ref (b + 19)]) := (c1 0 (by omega)).trans ff43
    have ff62 : z59 5 = .inr (4, [.int (iI (p0.1.1)), .long (lI (p0.1.2.1)), .ref (b + 6), .ref (b + 8)]) := (c1 5 (by omega)).trans ff44
    have ff63 : z59 6 = .inr (3, [.int (iI (0)), .ref (b + 7)]) := (c1 6 (by omega)).trans ff45
    have ff64 : z59 7 = ir ct 32 (x0) := (c1 7 (by omega)).trans ff46
    have ff65 : z59 8 = .inr (3, [.int (iI (0)), .ref (b + 9)]) := (c1 8 (by omega)).trans ff47
    have ff66 : z59 9 = ir ct 32 (x1) := (c1 9 (by omega)).trans ff48
    have ff67 : z59 10 = .inr (4, [.int (iI (p0.2.1)), .long (lI (p0.2.2.1)), .ref (b + 11), .ref (b + 13)]) := (c1 10 (by omega)).trans ff49
    have ff68 : z59 11 = .inr (3, [.int (iI (0)), .ref (b + 12)]) := (c1 11 (by omega)).trans ff50
    have ff69 : z59 12 = ir ct 32 (y0) := (c1 12 (by omega)).trans ff51
    have ff70 : z59 13 = .inr (3, [.int (iI (0)), .ref (b + 14)]) := (c1 13 (by omega)).trans ff52
    have ff71 : z59 14 = ir ct 32 (y1) := (c1 14 (by omega)).trans ff53
    have ff72 : z59 k = .inr (4, [.int (iI (p0.1.1)), .long (lI ((p0.1.2.1) + (p0.2.2.1))), .ref (b + (k + 1)), .ref (b + (k + 3))]) := (c1 k (by omega)).trans ff54
    have ff73 : z59 (k + 1) = .inr (3, [.int (iI (0)), .ref (b + (k + 2))]) := (c1 (k + 1) (by omega)).trans ff55
    have ff74 : z59 (k + 3) = .inr (3, [.int (iI (0)), .ref (b + (k + 4))]) := (c1 (k + 3) (by omega)).trans ff56
    have ff75 : z59 (k + 2) = ir ct 32 (g0) := (c1 (k + 2) (by omega)).trans d0
    have fr76 : ∀ j : Nat, (j < k ∨ k + 5 ≤ j) → z59 j = u j := fun j h0 => (c1 j (by omega)).trans (fr58 j h0)
    refine lv_iconst (v := iI (1)) hx hb d_R_giveSum_91 rfl ?_
    exact ret 1 z59 H locs 92 ls (Or.inr rfl) ⟨Or.inl ⟨_, by unfold sumV; rw [if_neg (show ¬ tg p0.1.1 (p0.1.2.1 + p0.2.2.1) = 1 by omega)], rfl, ⟨g0, g1, ⟨ff72, ff73, ff75, ff74, d1⟩, e0.mod l3, e1.mod l3⟩⟩, fr76⟩ hP hS d_R_giveSum_92
  · refine lv_iconst (v := iI (0)) hx hb d_R_giveSum_37 rfl ?_
    exact ret 0 u20 H locs 38 ls (Or.inl rfl) ⟨Or.inr ⟨by unfold sumV; rw [if_pos (show tg p0.1.1 (p0.1.2.1 + p0.2.2.1) = 1 by omega)], rfl, ⟨_, _, _, _, ⟨ff33, ff34, ff35, ff36, ff37⟩⟩⟩, fr38⟩ hP hS d_R_giveSum_38
abbrev rm_c_mul : Room := { frames := 2, cells := 0, slots := 0, locals := 54 }
set_option maxHeartbeats 4000000 in
set_option maxRecDepth 100000 in
/-- multiplyOperands(value) -/
theorem c_mul (l : Launch) (D : va_G) (ct : Nat → ClassId) (st ke : Nat → Nat) (b N : Nat) (u : Nat → va_E) (hN : 236 ≤ N) (nn vv : Int) (hO : u 0 = ob b nn vv) (p0 : V2) (ok1 : okV p0.1) (ok2 : okV p0.2) (hl12 : p0.1.1 = p0.2.1) (hV1 : VV ct b u 5 p0.1) (hV2 : VV ct b u 10 p0.2) (k : Nat) (hk44 : 44 ≤ k) (hk : k + 4 < N) (mt : Int) (g0 g1 : Int → Int) (hVR : VR ct b u k p0.1.1 mt g0 g1) (h15 : PS ct b u 15) : Met l y_R_multiplyOperands (w_R_multiplyOperands) rm_c_mul (va_Pc [.ref (b + 0), .ref (b + k)] (fun U => ev D ct st ke b U ∧ va_P D vwCl (wl N b u) U.heap)) (va_Qv (fun z : Nat → va_E => ∃ y0 y1 y2 : Int → Int, VR ct b z k p0.1.1 mt y0 y1 ∧ z 16 = ir ct 32 y2 ∧ Rep y0 0 p0.1.1 (nc p0.1.2.2.1 p0.2.2.2.1) ∧ Rep y1 0 p0.1.1 (fun i => nc p0.1.2.2.1 p0.2.2.2.2 i + nc p0.1.2.2.2 p0.2.2.2.1 i) ∧ Rep y2 0 p0.1.1 (nc p0.1.2.2.2 p0.2.2.2.2) ∧ ∀ j : Nat, (j < k ∨ k + 5 ≤ j) → j ≠ 16 → z j = u j) (fun (z : Nat → va_E) t => va_P D vwCl (wl (N) b (z)) t.heap) (AA b)) 0 0 (AA b) := by
  refine M_v (cc := c9_R_multiplyOperands) (maxL := 3) (by decide) rfl (Nat.le_of_ble_eq_true rfl) ?_
  intro p e s m args below meth c Q ls H locs hx hb hml hown hts hnm E hP hS hl ret
  have hl : lv_has ls 3 [(0, .ref (b + 0)), (1, .ref (b + k))] := hl
  have hK := ev_K E
  have kk0 := hts (.fieldLink "LevelledRing" 142 "LevelledRing$Value" "level" "I") (List.mem_cons_of_mem _ t_57)
  have hinV : ∀ w ∈ u_ws "LevelledRing$Value" T_V 4, w ∈ (w_R_multiplyOperands) := hin_V _
  have kk2 := hts (.fieldLink "LevelledRing" 167 "LevelledRing$Value" "c0" "LLevelledRing$Poly;") (List.mem_cons_of_mem _ t_61)
  have kk3 := hts (.fieldLink "LevelledRing" 41 "LevelledRing" "left" "LLevelledRing$Value;") (List.mem_cons_of_mem _ t_179)
  have hinR : ∀ w ∈ u_ws "LevelledRing" T_R 11, w ∈ (w_R_multiplyOperands) := hin_R _
  have kk5 := hts (.fieldLink "LevelledRing" 45 "LevelledRing" "right" "LLevelledRing$Value;") (List.mem_cons_of_mem _ t_180)
  have kk6 := hts (.fieldLink "LevelledRing" 170 "LevelledRing$Value" "c1" "LLevelledRing$Poly;") (List.mem_cons_of_mem _ t_63)
  have kk7 := hts (.fieldLink "LevelledRing" 48 "LevelledRing" "square" "LLevelledRing$Poly;") (List.mem_cons_of_mem _ t_181)
  have fr0 : ∀ j : Nat, (j < k ∨ k + 5 ≤ j) → (j ≠ 16) → u j = u j := fun _ _ _ => rfl
  obtain ⟨x0, x1, xV, xR0, xR1⟩ := hV1
  obtain ⟨y0, y1, yV, yR0, yR1⟩ := hV2
  obtain ⟨sa, sg, sb⟩ := h15
  have l0 := ok1.1
  have l3 := ok1.2.1
  rw [← hl12] at yR0 yR1
  refine lv_aload_n hx hb d_R_multiplyOperands_0 rfl (lv_at hl 1 rfl) ?_
  refine w_get (C := "LevelledRing$Value") (T := T_V) (M := 4) hx hb hts hinV hown hK hP (k) (by omega) hVR.1 rfl 0 (by decide) kk0 (fun _ h => h) rfl d_R_multiplyOperands_1 ?_
  refine lv_istore_n (lv' := [(2, .int (iI (p0.1.1))), (0, .ref (b + 0)), (1, .ref (b + k))]) hx hb d_R_multiplyOperands_4 rfl hl (by decide) rfl (fun ls hl => ?_)
  refine lv_aload_n hx hb d_R_multiplyOperands_5 rfl (lv_at hl 2 rfl) ?_
  refine w_get (C := "LevelledRing$Value") (T := T_V) (M := 4) hx hb hts hinV hown hK hP (k) (by omega) hVR.1 rfl 2 (by decide) kk2 (fun _ h => h) rfl d_R_multiplyOperands_6 ?_
  refine w_callv (va_runV (As := []) (rest := []) ⟨hx, hb, hml, hown, hts⟩ (c_setZero l D ct st ke b N u (k + 1) 0 32 g0 (by omega) (by decide) hVR.2.1 hVR.2.2.1) (cwV 0 hts (gV t_267 t_268 t_269 t_3 t_270) rfl rfl rfl (by decide +kernel) ⟨Nat.le_of_ble_eq_true rfl, Nat.le_of_ble_eq_true rfl⟩) (pre_V E hP hS (k + 1) (by omega) hVR.2.1 rfl) rfl rfl hl.1 rfl (lv_room (Nat.le_of_ble_eq_true rfl)) d_R_multiplyOperands_9 ⟨(Nat.le_of_ble_eq_true rfl), (Nat.le_of_ble_eq_true rfl)⟩) hS (fun z1 H locs hz hP hS => ?_)
  obtain ⟨ag, a1, a2, a3⟩ := hz
  have ff3 : z1 0 = .inr (5, [.ref (b + 1), .ref (b + 21), .ref (b + 2), .ref (b + 4), .int (iI (nn)), .int (iI (vv)), .ref (b + 5), .ref (b + 10), .ref (b + 15), .ref (b + 17), .ref (b + 19)]) := (a3 0 (by omega)).trans hO
  have ff4 : z1 5 = .inr (4, [.int (iI (p0.1.1)), .long (lI (p0.1.2.1)), .ref (b + 6), .ref (b + 8)]) := (a3 5 (by omega)).trans xV.1
  have ff5 : z1 6 = .inr (3, [.int (iI (0)), .ref (b + 7)]) := (a3 6 (by omega)).trans xV.2.1
  have ff6 : z1 7 = ir ct 32 (x0) := (a3 7 (by omega)).trans xV.2.2.1
  have ff7 : z1 8 = .inr (3, [.int (iI (0)), .ref (b + 9)]) := (a3 8 (by omega)).trans xV.2.2.2.1
  have ff8 : z1 9 = ir ct 32 (x1) := (a3 9 (by omega)).trans xV.2.2.2.2
  have ff9 : z1 10 = .inr (4, [.int (iI (p0.2.1)), .long (lI (p0.2.2.1)), .ref (b + 11), .ref (b + 13)]) := (a3 10 (by omega)).trans yV.1
  have ff10 : z1 11 = .inr (3, [.int (iI (0)), .ref (b + 12)]) := (a3 11 (by omega)).trans yV.2.1
  have ff11 : z1 12 = ir ct 32 (y0) := (a3 12 (by omega)).trans yV.2.2.1
  have ff12 : z1 13 = .inr (3, [.int (iI (0)), .ref (b + 14)]) := (a3 13 (by omega)).trans yV.2.2.2.1
  have ff13 : z1 14 = ir ct 32 (y1) := (a3 14 (by omega)).trans yV.2.2.2.2
  have ff14 : z1 15 = .inr (3, [.int (iI (0)), .ref (b + 16)]) := (a3 15 (by omega)).trans sa
  have ff15 : z1 16 = ir ct 32 (sg) := (a3 16 (by omega)).trans sb
  have ff16 : z1 k = .inr (4, [.int (iI (p0.1.1)), .long (lI (mt)), .ref (b + (k + 1)), .ref (b + (k + 3))]) := (a3 k (by omega)).trans hVR.1
  have ff17 : z1 (k + 1) = .inr (3, [.int (iI (0)), .ref (b + (k + 2))]) := (a3 (k + 1) (by omega)).trans hVR.2.1
  have ff18 : z1 (k + 3) = .inr (3, [.int (iI (0)), .ref (b + (k + 4))]) := (a3 (k + 3) (by omega)).trans hVR.2.2.2.1
  have ff19 : z1 (k + 4) = ir ct 32 (g1) := (a3 (k + 4) (by omega)).trans hVR.2.2.2.2
  have fr20 : ∀ j : Nat, (j < k ∨ k + 5 ≤ j) → (j ≠ 16) → z1 j = u j := fun j h0 h1 => (a3 j (by omega)).trans (fr0 j h0 h1)
  refine lv_aload_n hx hb d_R_multiplyOperands_12 rfl (lv_at hl 2 rfl) ?_
  refine w_get (C := "LevelledRing$Value") (T := T_V) (M := 4) hx hb hts hinV hown hK hP (k) (by omega) ff16 rfl 2 (by decide) kk2 (fun _ h => h) rfl d_R_multiplyOperands_13 ?_
  refine lv_iconst (v := iI (1)) hx hb d_R_multiplyOperands_16 rfl ?_
  refine lv_aload_n hx hb d_R_multiplyOperands_17 rfl (lv_at hl 1 rfl) ?_
  refine w_get (C := "LevelledRing") (T := T_R) (M := 11) hx hb hts hinR hown hK hP (0) (by omega) ff3 rfl 6 (by decide) kk3 (fun _ h => h) rfl d_R_multiplyOperands_18 ?_
  refine w_get (C := "LevelledRing$Value") (T := T_V) (M := 4) hx hb hts hinV hown hK hP (5) (by omega) ff4 rfl 2 (by decide) kk2 (fun _ h => h) rfl d_R_multiplyOperands_21 ?_
  refine lv_aload_n hx hb d_R_multiplyOperands_24 rfl (lv_at hl 1 rfl) ?_
  refine w_get (C := "LevelledRing") (T := T_R) (M := 11) hx hb hts hinR hown hK hP (0) (by omega) ff3 rfl 7 (by decide) kk5 (fun _ h => h) rfl d_R_multiplyOperands_25 ?_
  refine w_get (C := "LevelledRing$Value") (T := T_V) (M := 4) hx hb hts hinV hown hK hP (10) (by omega) ff9 rfl 2 (by decide) kk2 (fun _ h => h) rfl d_R_multiplyOperands_28 ?_
  refine lv_iload_n hx hb d_R_multiplyOperands_31 rfl (lv_at hl 0 rfl) ?_
  refine w_callv (va_runV (As := [.int (iI (1)), .ref (b + 6), .ref (b + 11), .int (iI (p0.1.1))]) (rest := []) ⟨hx, hb, hml, hown, hts⟩ (c_addProduct l D ct st ke b N z1 (k + 1) 0 32 ag (by omega) (by decide) ff17 a1 p0.1.1 (by omega) (by omega) (by omega) (Or.inl rfl) 6 32 x0 (by omega) (by decide) (by omega) (by omega) ff5 ff6 11 32 y0 (by omega) (by decide) (by omega) (by omega) ff10 ff11 1 (Or.inl rfl) (fun _ => 0) (p0.1.2.2.1) (p0.2.2.2.1) (Rep.zero fun j h0 h1 => a2 j h0 (by omega)) xR0 yR0) (cwV 4 hts (gV t_271 t_102 t_103 t_3 t_104) rfl rfl rfl (by decide +kernel) ⟨Nat.le_of_ble_eq_true rfl, Nat.le_of_ble_eq_true rfl⟩) (pre_V E hP hS (k + 1) (by omega) ff17 rfl) rfl rfl hl.1 rfl (lv_room (Nat.le_of_ble_eq_true rfl)) d_R_multiplyOperands_32 ⟨(Nat.le_of_ble_eq_true rfl), (Nat.le_of_ble_eq_true rfl)⟩) hS (fun z21 H locs hz hP hS => ?_)
  obtain ⟨bg, b1, b2, b3⟩ := hz
  have ff23 : z21 0 = .inr (5, [.ref (b + 1), .ref (b + 21), .ref (b + 2), .ref (b + 4), .int (iI (nn)), .int (iI (vv)), .ref (b + 5), .ref (b + 10), .ref (b + 15), .ref (b + 17), .ref (b + 19)]) := (b3 0 (by omega)).trans ff3
  have ff24 : z21 5 = .inr (4, [.int (iI (p0.1.1)), .long (lI (p0.1.2.1)), .ref (b + 6), .ref (b + 8)]) := (b3 5 (by omega)).trans ff4
  have ff25 : z21 6 = .inr (3, [.int (iI (0)), .ref (b + 7)]) := (b3 6 (by omega)).trans ff5
  have ff26 : z21 7 = ir ct 32 (x0) := (b3 7 (by omega)).trans ff6
  have ff27 : z21 8 = .inr (3, [.int (iI (0)), .ref (b + 9)]) := (b3 8 (by omega)).trans ff7
  have ff28 : z21 9 = ir ct 32 (x1) := (b3 9 (by omega)).trans ff8
  have ff29 : z21 10 = .inr (4, [.int (iI (p0.2.1)), .long (lI (p0.2.2.1)), .ref (b + 11), .ref (b + 13)]) := (b3 10 (by omega)).trans ff9
  have ff30 : z21 11 = .inr (3, [.int (iI (0)), .ref (b + 12)]) := (b3 11 (by omega)).trans ff10
  have ff31 : z21 12 = ir ct 32 (y0) := (b3 12 (by omega)).trans ff11
  have ff32 : z21 13 = .inr (3, [.int (iI (0)), .ref (b + 14)]) := (b3 13 (by omega)).trans ff12
  have ff33 : z21 14 = ir ct 32 (y1) := (b3 14 (by omega)).trans ff13
  have ff34 : z21 15 = .inr (3, [.int (iI (0)), .ref (b + 16)]) := (b3 15 (by omega)).trans ff14
  have ff35 : z21 16 = ir ct 32 (sg) := (b3 16 (by omega)).trans ff15
  have ff36 : z21 k = .inr (4, [.int (iI (p0.1.1)), .long (lI (mt)), .ref (b + (k + 1)), .ref (b + (k + 3))]) := (b3 k (by omega)).trans ff16
  have ff37 : z21 (k + 1) = .inr (3, [.int (iI (0)), .ref (b + (k + 2))]) := (b3 (k + 1) (by omega)).trans ff17
  have ff38 : z21 (k + 3) = .inr (3, [.int (iI (0)), .ref (b + (k + 4))]) := (b3 (k + 3) (by omega)).trans ff18
  have ff39 : z21 (k + 4) = ir ct 32 (g1) := (b3 (k + 4) (by omega)).trans ff19
  have fr40 : ∀ j : Nat, (j < k ∨ k + 5 ≤ j) → (j ≠ 16) → z21 j = u j := fun j h0 h1 => (b3 j (by omega)).trans (fr20 j h0 h1)
  refine lv_aload_n hx hb d_R_multiplyOperands_35 rfl (lv_at hl 2 rfl) ?_
  refine w_get (C := "LevelledRing$Value") (T := T_V) (M := 4) hx hb hts hinV hown hK hP (k) (by omega) ff36 rfl 3 (by decide) kk6 (fun _ h => h) rfl d_R_multiplyOperands_36 ?_
  refine w_callv (va_runV (As := []) (rest := []) ⟨hx, hb, hml, hown, hts⟩ (c_setZero l D ct st ke b N z21 (k + 3) 0 32 g1 (by omega) (by decide) ff38 ff39) (cwV 0 hts (gV t_267 t_268 t_269 t_3 t_270) rfl rfl rfl (by decide +kernel) ⟨Nat.le_of_ble_eq_true rfl, Nat.le_of_ble_eq_true rfl⟩) (pre_V E hP hS (k + 3) (by omega) ff38 rfl) rfl rfl hl.1 rfl (lv_room (Nat.le_of_ble_eq_true rfl)) d_R_multiplyOperands_39 ⟨(Nat.le_of_ble_eq_true rfl), (Nat.le_of_ble_eq_true rfl)⟩) hS (fun z41 H locs hz hP hS => ?_)
  obtain ⟨cg, c1, c2, c3⟩ := hz
  have ff43 : z41 0 = .inr (5, [.ref (b + 1), .ref (b + 21), .ref (b + 2), .ref (b + 4), .int (iI (nn)), .int (iI (vv)), .ref (b + 5), .ref (b + 10), .ref (b + 15), .ref (b + 17), .ref (b + 19)]) := (c3 0 (by omega)).trans ff23
  have ff44 : z41 5 = .inr (4, [.int (iI (p0.1.1)), .long (lI (p0.1.2.1)), .ref (b + 6), .ref (b + 8)]) := (c3 5 (by omega)).trans ff24
  have ff45 : z41 6 = .inr (3, [.int (iI (0)), .ref (b + 7)]) := (c3 6 (by omega)).trans ff25
  have ff46 : z41 7 = ir ct 32 (x0) := (c3 7 (by omega)).trans ff26
  have ff47 : z41 8 = .inr (3, [.int (iI (0)), .ref (b + 9)]) := (c3 8 (by omega)).trans ff27
  have ff48 : z41 9 = ir ct 32 (x1) := (c3 9 (by omega)).trans ff28
  have ff49 : z41 10 = .inr (4, [.int (iI (p0.2.1)), .long (lI (p0.2.2.1)), .ref (b + 11), .ref (b + 13)]) := (c3 10 (by omega)).trans ff29
  have ff50 : z41 11 = .inr (3, [.int (iI (0)), .ref (b + 12)]) := (c3 11 (by omega)).trans ff30
  have ff51 : z41 12 = ir ct 32 (y0) := (c3 12 (by omega)).trans ff31
  have ff52 : z41 13 = .inr (3, [.int (iI (0)), .ref (b + 14)]) := (c3 13 (by omega)).trans ff32
  have ff53 : z41 14 = ir ct 32 (y1) := (c3 14 (by omega)).trans ff33
  have ff54 : z41 15 = .inr (3, [.int (iI (0)), .ref (b + 16)]) := (c3 15 (by omega)).trans ff34
  have ff55 : z41 16 = ir ct 32 (sg) := (c3 16 (by omega)).trans ff35
  have ff56 : z41 k = .inr (4, [.int (iI (p0.1.1)), .long (lI (mt)), .ref (b + (k + 1)), .ref (b + (k + 3))]) := (c3 k (by omega)).trans ff36
  have ff57 : z41 (k + 1) = .inr (3, [.int (iI (0)), .ref (b + (k + 2))]) := (c3 (k + 1) (by omega)).trans ff37
  have ff58 : z41 (k + 3) = .inr (3, [.int (iI (0)), .ref (b + (k + 4))]) := (c3 (k + 3) (by omega)).trans ff38
  have ff59 : z41 (k + 2) = ir ct 32 (bg) := (c3 (k + 2) (by omega)).trans b1
  have fr60 : ∀ j : Nat, (j < k ∨ k + 5 ≤ j) → (j ≠ 16) → z41 j = u j := fun j h0 h1 => (c3 j (by omega)).trans (fr40 j h0 h1)
  refine lv_aload_n hx hb d_R_multiplyOperands_42 rfl (lv_at hl 2 rfl) ?_
  refine w_get (C := "LevelledRing$Value") (T := T_V) (M := 4) hx hb hts hinV hown hK hP (k) (by omega) ff56 rfl 3 (by decide) kk6 (fun _ h => h) rfl d_R_multiplyOperands_43 ?_
  refine lv_iconst (v := iI (1)) hx hb d_R_multiplyOperands_46 rfl ?_
  refine lv_aload_n hx hb d_R_multiplyOperands_47 rfl (lv_at hl 1 rfl) ?_
  refine w_get (C := "LevelledRing") (T := T_R) (M := 11) hx hb hts hinR hown hK hP (0) (by omega) ff43 rfl 6 (by decide) kk3 (fun _ h => h) rfl d_R_multiplyOperands_48 ?_
  refine w_get (C := "LevelledRing$Value") (T := T_V) (M := 4) hx hb hts hinV hown hK hP (5) (by omega) ff44 rfl 2 (by decide) kk2 (fun _ h => h) rfl d_R_multiplyOperands_51 ?_
  refine lv_aload_n hx hb d_R_multiplyOperands_54 rfl (lv_at hl 1 rfl) ?_
  refine w_get (C := "LevelledRing") (T := T_R) (M := 11) hx hb hts hinR hown hK hP (0) (by omega) ff43 rfl 7 (by decide) kk5 (fun _ h => h) rfl d_R_multiplyOperands_55 ?_
  refine w_get (C := "LevelledRing$Value") (T := T_V) (M := 4) hx hb hts hinV hown hK hP (10) (by omega) ff49 rfl 3 (by decide) kk6 (fun _ h => h) rfl d_R_multiplyOperands_58 ?_
  refine lv_iload_n hx hb d_R_multiplyOperands_61 rfl (lv_at hl 0 rfl) ?_
  refine w_callv (va_runV (As := [.int (iI (1)), .ref (b + 6), .ref (b + 13), .int (iI (p0.1.1))]) (rest := []) ⟨hx, hb, hml, hown, hts⟩ (c_addProduct l D ct st ke b N z41 (k + 3) 0 32 cg (by omega) (by decide) ff58 c1 p0.1.1 (by omega) (by omega) (by omega) (Or.inl rfl) 6 32 x0 (by omega) (by decide) (by omega) (by omega) ff45 ff46 13 32 y1 (by omega) (by decide) (by omega) (by omega) ff52 ff53 1 (Or.inl rfl) (fun _ => 0) (p0.1.2.2.1) (p0.2.2.2.2) (Rep.zero fun j h0 h1 => c2 j h0 (by omega)) xR0 yR1) (cwV 4 hts (gV t_271 t_102 t_103 t_3 t_104) rfl rfl rfl (by decide +kernel) ⟨Nat.le_of_ble_eq_true rfl, Nat.le_of_ble_eq_true rfl⟩) (pre_V E hP hS (k + 3) (by omega) ff58 rfl) rfl rfl hl.1 rfl (lv_room (Nat.le_of_ble_eq_true rfl)) d_R_multiplyOperands_62 ⟨(Nat.le_of_ble_eq_true rfl), (Nat.le_of_ble_eq_true rfl)⟩) hS (fun z61 H locs hz hP hS => ?_)
  obtain ⟨dg, d1, d2, d3⟩ := hz
  have ff63 : z61 0 = .inr (5, [.ref (b + 1), .ref (b + 21), .ref (b + 2), .ref (b + 4), .int (iI (nn)), .int (iI (vv)), .ref (b + 5), .ref (b + 10), .ref (b + 15), .ref (b + 17), .ref (b + 19)]) := (d3 0 (by omega)).trans ff43
  have ff64 : z61 5 = .inr (4, [.int (iI (p0.1.1)), .long (lI (p0.1.2.1)), .ref (b + 6), .ref (b + 8)]) := (d3 5 (by omega)).trans ff44
  have ff65 : z61 6 = .inr (3, [.int (iI (0)), .ref (b + 7)]) := (d3 6 (by omega)).trans ff45
  have ff66 : z61 7 = ir ct 32 (x0) := (d3 7 (by omega)).trans ff46
  have ff67 : z61 8 = .inr (3, [.int (iI (0)), .ref (b + 9)]) := (d3 8 (by omega)).trans ff47
  have ff68 : z61 9 = ir ct 32 (x1) := (d3 9 (by omega)).trans ff48
  have ff69 : z61 10 = .inr (4, [.int (iI (p0.2.1)), .long (lI (p0.2.2.1)), .ref (b + 11), .ref (b + 13)]) := (d3 10 (by omega)).trans ff49
  have ff70 : z61 11 = .inr (3, [.int (iI (0)), .ref (b + 12)]) := (d3 11 (by omega)).trans ff50
  have ff71 : z61 12 = ir ct 32 (y0) := (d3 12 (by omega)).trans ff51
  have ff72 : z61 13 = .inr (3, [.int (iI (0)), .ref (b + 14)]) := (d3 13 (by omega)).trans ff52
  have ff73 : z61 14 = ir ct 32 (y1) := (d3 14 (by omega)).trans ff53
  have ff74 : z61 15 = .inr (3, [.int (iI (0)), .ref (b + 16)]) := (d3 15 (by omega)).trans ff54
  have ff75 : z61 16 = ir ct 32 (sg) := (d3 16 (by omega)).trans ff55
  have ff76 : z61 k = .inr (4, [.int (iI (p0.1.1)), .long (lI (mt)), .ref (b + (k + 1)), .ref (b + (k + 3))]) := (d3 k (by omega)).trans ff56
  have ff77 : z61 (k + 1) = .inr (3, [.int (iI (0)), .ref (b + (k + 2))]) := (d3 (k + 1) (by omega)).trans ff57
  have ff78 : z61 (k + 3) = .inr (3, [.int (iI (0)), .ref (b + (k + 4))]) := (d3 (k + 3) (by omega)).trans ff58
  have ff79 : z61 (k + 2) = ir ct 32 (bg) := (d3 (k + 2) (by omega)).trans ff59
  have fr80 : ∀ j : Nat, (j < k ∨ k + 5 ≤ j) → (j ≠ 16) → z61 j = u j := fun j h0 h1 => (d3 j (by omega)).trans (fr60 j h0 h1)
  refine lv_aload_n hx hb d_R_multiplyOperands_65 rfl (lv_at hl 2 rfl) ?_
  refine w_get (C := "LevelledRing$Value") (T := T_V) (M := 4) hx hb hts hinV hown hK hP (k) (by omega) ff76 rfl 3 (by decide) kk6 (fun _ h => h) rfl d_R_multiplyOperands_66 ?_
  refine lv_iconst (v := iI (1)) hx hb d_R_multiplyOperands_69 rfl ?_
  refine lv_aload_n hx hb d_R_multiplyOperands_70 rfl (lv_at hl 1 rfl) ?_
  refine w_get (C := "LevelledRing") (T := T_R) (M := 11) hx hb hts hinR hown hK hP (0) (by omega) ff63 rfl 6 (by decide) kk3 (fun _ h => h) rfl d_R_multiplyOperands_71 ?_
  refine w_get (C := "LevelledRing$Value") (T := T_V) (M := 4) hx hb hts hinV hown hK hP (5) (by omega) ff64 rfl 3 (by decide) kk6 (fun _ h => h) rfl d_R_multiplyOperands_74 ?_
  refine lv_aload_n hx hb d_R_multiplyOperands_77 rfl (lv_at hl 1 rfl) ?_
  refine w_get (C := "LevelledRing") (T := T_R) (M := 11) hx hb hts hinR hown hK hP (0) (by omega) ff63 rfl 7 (by decide) kk5 (fun _ h => h) rfl d_R_multiplyOperands_78 ?_
  refine w_get (C := "LevelledRing$Value") (T := T_V) (M := 4) hx hb hts hinV hown hK hP (10) (by omega) ff69 rfl 2 (by decide) kk2 (fun _ h => h) rfl d_R_multiplyOperands_81 ?_
  refine lv_iload_n hx hb d_R_multiplyOperands_84 rfl (lv_at hl 0 rfl) ?_
  refine w_callv (va_runV (As := [.int (iI (1)), .ref (b + 8), .ref (b + 11), .int (iI (p0.1.1))]) (rest := []) ⟨hx, hb, hml, hown, hts⟩ (c_addProduct l D ct st ke b N z61 (k + 3) 0 32 dg (by omega) (by decide) ff78 d1 p0.1.1 (by omega) (by omega) (by omega) (Or.inl rfl) 8 32 x1 (by omega) (by decide) (by omega) (by omega) ff67 ff68 11 32 y0 (by omega) (by decide) (by omega) (by omega) ff70 ff71 1 (Or.inl rfl) (fun i => 0 + 1 * nc p0.1.2.2.1 p0.2.2.2.2 i) (p0.1.2.2.2) (p0.2.2.2.1) d2 xR1 yR0) (cwV 4 hts (gV t_271 t_102 t_103 t_3 t_104) rfl rfl rfl (by decide +kernel) ⟨Nat.le_of_ble_eq_true rfl, Nat.le_of_ble_eq_true rfl⟩) (pre_V E hP hS (k + 3) (by omega) ff78 rfl) rfl rfl hl.1 rfl (lv_room (Nat.le_of_ble_eq_true rfl)) d_R_multiplyOperands_85 ⟨(Nat.le_of_ble_eq_true rfl), (Nat.le_of_ble_eq_true rfl)⟩) hS (fun z81 H locs hz hP hS => ?_)
  obtain ⟨eg, e1, e2, e3⟩ := hz
  have ff83 : z81 0 = .inr (5, [.ref (b + 1), .ref (b + 21), .ref (b + 2), .ref (b + 4), .int (iI (nn)), .int (iI (vv)), .ref (b + 5), .ref (b + 10), .ref (b + 15), .ref (b + 17), .ref (b + 19)]) := (e3 0 (by omega)).trans ff63
  have ff84 : z81 5 = .inr (4, [.int (iI (p0.1.1)), .long (lI (p0.1.2.1)), .ref (b + 6), .ref (b + 8)]) := (e3 5 (by omega)).trans ff64
  have ff85 : z81 6 = .inr (3, [.int (iI (0)), .ref (b + 7)]) := (e3 6 (by omega)).trans ff65
  have ff86 : z81 7 = ir ct 32 (x0) := (e3 7 (by omega)).trans ff66
  have ff87 : z81 8 = .inr (3, [.int (iI (0)), .ref (b + 9)]) := (e3 8 (by omega)).trans ff67
  have ff88 : z81 9 = ir ct 32 (x1) := (e3 9 (by omega)).trans ff68
  have ff89 : z81 10 = .inr (4, [.int (iI (p0.2.1)), .long (lI (p0.2.2.1)), .ref (b + 11), .ref (b + 13)]) := (e3 10 (by omega)).trans ff69
  have ff90 : z81 11 = .inr (3, [.int (iI (0)), .ref (b + 12)]) := (e3 11 (by omega)).trans ff70
  have ff91 : z81 12 = ir ct 32 (y0) := (e3 12 (by omega)).trans ff71
  have ff92 : z81 13 = .inr (3, [.int (iI (0)), .ref (b + 14)]) := (e3 13 (by omega)).trans ff72
  have ff93 : z81 14 = ir ct 32 (y1) := (e3 14 (by omega)).trans ff73
  have ff94 : z81 15 = .inr (3, [.int (iI (0)), .ref (b + 16)]) := (e3 15 (by omega)).trans ff74
  have ff95 : z81 16 = ir ct 32 (sg) := (e3 16 (by omega)).trans ff75
  have ff96 : z81 k = .inr (4, [.int (iI (p0.1.1)), .long (lI (mt)), .ref (b + (k + 1)), .ref (b + (k + 3))]) := (e3 k (by omega)).trans ff76
  have ff97 : z81 (k + 1) = .inr (3, [.int (iI (0)), .ref (b + (k + 2))]) := (e3 (k + 1) (by omega)).trans ff77
  have ff98 : z81 (k + 3) = .inr (3, [.int (iI (0)), .ref (b + (k + 4))]) := (e3 (k + 3) (by omega)).trans ff78
  have ff99 : z81 (k + 2) = ir ct 32 (bg) := (e3 (k + 2) (by omega)).trans ff79
  have fr100 : ∀ j : Nat, (j < k ∨ k + 5 ≤ j) → (j ≠ 16) → z81 j = u j := fun j h0 h1 => (e3 j (by omega)).trans (fr80 j h0 h1)
  refine lv_aload_n hx hb d_R_multiplyOperands_88 rfl (lv_at hl 1 rfl) ?_
  refine w_get (C := "LevelledRing") (T := T_R) (M := 11) hx hb hts hinR hown hK hP (0) (by omega) ff83 rfl 8 (by decide) kk7 (fun _ h => h) rfl d_R_multiplyOperands_89 ?_
  refine w_callv (va_runV (As := []) (rest := []) ⟨hx, hb, hml, hown, hts⟩ (c_setZero l D ct st ke b N z81 15 0 32 sg (by omega) (by decide) ff94 ff95) (cwV 0 hts (gV t_267 t_268 t_269 t_3 t_270) rfl rfl rfl (by decide +kernel) ⟨Nat.le_of_ble_eq_true rfl, Nat.le_of_ble_eq_true rfl⟩) (pre_V E hP hS (15) (by omega) ff94 rfl) rfl rfl hl.1 rfl (lv_room (Nat.le_of_ble_eq_true rfl)) d_R_multiplyOperands_92 ⟨(Nat.le_of_ble_eq_true rfl), (Nat.le_of_ble_eq_true rfl)⟩) hS (fun z101 H locs hz hP hS => ?_)
  obtain ⟨fg, f1, f2, f3⟩ := hz
  have ff103 : z101 0 = .inr (5, [.ref (b + 1), .ref (b + 21), .ref (b + 2), .ref (b + 4), .int (iI (nn)), .int (iI (vv)), .ref (b + 5), .ref (b + 10), .ref (b + 15), .ref (b + 17), .ref (b + 19)]) := (f3 0 (by omega)).trans ff83
  have ff104 : z101 5 = .inr (4, [.int (iI (p0.1.1)), .long (lI (p0.1.2.1)), .ref (b + 6), .ref (b + 8)]) := (f3 5 (by omega)).trans ff84
  have ff105 : z101 6 = .inr (3, [.int (iI (0)), .ref (b + 7)]) := (f3 6 (by omega)).trans ff85
  have ff106 : z101 7 = ir ct 32 (x0) := (f3 7 (by omega)).trans ff86
  have ff107 : z101 8 = .inr (3, [.int (iI (0)), .ref (b + 9)]) := (f3 8 (by omega)).trans ff87
  have ff108 : z101 9 = ir ct 32 (x1) := (f3 9 (by omega)).trans ff88
  have ff109 : z101 10 = .inr (4, [.int (iI (p0.2.1)), .long (lI (p0.2.2.1)), .ref (b + 11), .ref (b + 13)]) := (f3 10 (by omega)).trans ff89
  have ff110 : z101 11 = .inr (3, [.int (iI (0)), .ref (b + 12)]) := (f3 11 (by omega)).trans ff90
  have ff111 : z101 12 = ir ct 32 (y0) := (f3 12 (by omega)).trans ff91
  have ff112 : z101 13 = .inr (3, [.int (iI (0)), .ref (b + 14)]) := (f3 13 (by omega)).trans ff92
  have ff113 : z101 14 = ir ct 32 (y1) := (f3 14 (by omega)).trans ff93
  have ff114 : z101 15 = .inr (3, [.int (iI (0)), .ref (b + 16)]) := (f3 15 (by omega)).trans ff94
  have ff115 : z101 k = .inr (4, [.int (iI (p0.1.1)), .long (lI (mt)), .ref (b + (k + 1)), .ref (b + (k + 3))]) := (f3 k (by omega)).trans ff96
  have ff116 : z101 (k + 1) = .inr (3, [.int (iI (0)), .ref (b + (k + 2))]) := (f3 (k + 1) (by omega)).trans ff97
  have ff117 : z101 (k + 3) = .inr (3, [.int (iI (0)), .ref (b + (k + 4))]) := (f3 (k + 3) (by omega)).trans ff98
  have ff118 : z101 (k + 2) = ir ct 32 (bg) := (f3 (k + 2) (by omega)).trans ff99
  have ff119 : z101 (k + 4) = ir ct 32 (eg) := (f3 (k + 4) (by omega)).trans e1
  have fr120 : ∀ j : Nat, (j < k ∨ k + 5 ≤ j) → (j ≠ 16) → z101 j = u j := fun j h0 h1 => (f3 j (by omega)).trans (fr100 j h0 h1)
  refine lv_aload_n hx hb d_R_multiplyOperands_95 rfl (lv_at hl 1 rfl) ?_
  refine w_get (C := "LevelledRing") (T := T_R) (M := 11) hx hb hts hinR hown hK hP (0) (by omega) ff103 rfl 8 (by decide) kk7 (fun _ h => h) rfl d_R_multiplyOperands_96 ?_
  refine lv_iconst (v := iI (1)) hx hb d_R_multiplyOperands_99 rfl ?_
  refine lv_aload_n hx hb d_R_multiplyOperands_100 rfl (lv_at hl 1 rfl) ?_
  refine w_get (C := "LevelledRing") (T := T_R) (M := 11) hx hb hts hinR hown hK hP (0) (by omega) ff103 rfl 6 (by decide) kk3 (fun _ h => h) rfl d_R_multiplyOperands_101 ?_
  refine w_get (C := "LevelledRing$Value") (T := T_V) (M := 4) hx hb hts hinV hown hK hP (5) (by omega) ff104 rfl 3 (by decide) kk6 (fun _ h => h) rfl d_R_multiplyOperands_104 ?_
  refine lv_aload_n hx hb d_R_multiplyOperands_107 rfl (lv_at hl 1 rfl) ?_
  refine w_get (C := "LevelledRing") (T := T_R) (M := 11) hx hb hts hinR hown hK hP (0) (by omega) ff103 rfl 7 (by decide) kk5 (fun _ h => h) rfl d_R_multiplyOperands_108 ?_
  refine w_get (C := "LevelledRing$Value") (T := T_V) (M := 4) hx hb hts hinV hown hK hP (10) (by omega) ff109 rfl 3 (by decide) kk6 (fun _ h => h) rfl d_R_multiplyOperands_111 ?_
  refine lv_iload_n hx hb d_R_multiplyOperands_114 rfl (lv_at hl 0 rfl) ?_
  refine w_callv (va_runV (As := [.int (iI (1)), .ref (b + 8), .ref (b + 13), .int (iI (p0.1.1))]) (rest := []) ⟨hx, hb, hml, hown, hts⟩ (c_addProduct l D ct st ke b N z101 15 0 32 fg (by omega) (by decide) ff114 f1 p0.1.1 (by omega) (by omega) (by omega) (Or.inl rfl) 8 32 x1 (by omega) (by decide) (by omega) (by omega) ff107 ff108 13 32 y1 (by omega) (by decide) (by omega) (by omega) ff112 ff113 1 (Or.inl rfl) (fun _ => 0) (p0.1.2.2.2) (p0.2.2.2.2) (Rep.zero fun j h0 h1 => f2 j h0 (by omega)) xR1 yR1) (cwV 4 hts (gV t_271 t_102 t_103 t_3 t_104) rfl rfl rfl (by decide +kernel) ⟨Nat.le_of_ble_eq_true rfl, Nat.le_of_ble_eq_true rfl⟩) (pre_V E hP hS (15) (by omega) ff114 rfl) rfl rfl hl.1 rfl (lv_room (Nat.le_of_ble_eq_true rfl)) d_R_multiplyOperands_115 ⟨(Nat.le_of_ble_eq_true rfl), (Nat.le_of_ble_eq_true rfl)⟩) hS (fun z121 H locs hz hP hS => ?_)
  obtain ⟨gg, g1, g2, g3⟩ := hz
  have ff123 : z121 0 = .inr (5, [.ref (b + 1), .ref (b + 21), .ref (b + 2), .ref (b + 4), .int (iI (nn)), .int (iI (vv)), .ref (b + 5), .ref (b + 10), .ref (b + 15), .ref (b + 17), .ref (b + 19)]) := (g3 0 (by omega)).trans ff103
  have ff124 : z121 5 = .inr (4, [.int (iI (p0.1.1)), .long (lI (p0.1.2.1)), .ref (b + 6), .ref (b + 8)]) := (g3 5 (by omega)).trans ff104
  have ff125 : z121 6 = .inr (3, [.int (iI (0)), .ref (b + 7)]) := (g3 6 (by omega)).trans ff105
  have ff126 : z121 7 = ir ct 32 (x0) := (g3 7 (by omega)).trans ff106
  have ff127 : z121 8 = .inr (3, [.int (iI (0)), .ref (b + 9)]) := (g3 8 (by omega)).trans ff107
  have ff128 : z121 9 = ir ct 32 (x1) := (g3 9 (by omega)).trans ff108
  have ff129 : z121 10 = .inr (4, [.int (iI (p0.2.1)), .long (lI (p0.2.2.1)), .ref (b + 11), .ref (b + 13)]) := (g3 10 (by omega)).trans ff109
  have ff130 : z121 11 = .inr (3, [.int (iI (0)), .ref (b + 12)]) := (g3 11 (by omega)).trans ff110
  have ff131 : z121 12 = ir ct 32 (y0) := (g3 12 (by omega)).trans ff111
  have ff132 : z121 13 = .inr (3, [.int (iI (0)), .ref (b + 14)]) := (g3 13 (by omega)).trans ff112
  have ff133 : z121 14 = ir ct 32 (y1) := (g3 14 (by omega)).trans ff113
  have ff134 : z121 15 = .inr (3, [.int (iI (0)), .ref (b + 16)]) := (g3 15 (by omega)).trans ff114
  have ff135 : z121 k = .inr (4, [.int (iI (p0.1.1)), .long (lI (mt)), .ref (b + (k + 1)), .ref (b + (k + 3))]) := (g3 k (by omega)).trans ff115
  have ff136 : z121 (k + 1) = .inr (3, [.int (iI (0)), .ref (b + (k + 2))]) := (g3 (k + 1) (by omega)).trans ff116
  have ff137 : z121 (k + 3) = .inr (3, [.int (iI (0)), .ref (b + (k + 4))]) := (g3 (k + 3) (by omega)).trans ff117
  have ff138 : z121 (k + 2) = ir ct 32 (bg) := (g3 (k + 2) (by omega)).trans ff118
  have ff139 : z121 (k + 4) = ir ct 32 (eg) := (g3 (k + 4) (by omega)).trans ff119
  have fr140 : ∀ j : Nat, (j < k ∨ k + 5 ≤ j) → (j ≠ 16) → z121 j = u j := fun j h0 h1 => (g3 j (by omega)).trans (fr120 j h0 h1)
  exact ret z121 H locs 118 ls ⟨bg, eg, gg, ⟨ff135, ff136, ff138, ff137, ff139⟩, g1, (b2.cg (fun q i _ _ _ _ => by rw [Int.one_mul, Int.zero_add]; exact cg_r)), e2.cg (fun q i _ _ _ _ => by rw [Int.one_mul, Int.one_mul, Int.zero_add]; exact cg_r), (g2.cg (fun q i _ _ _ _ => by rw [Int.one_mul, Int.zero_add]; exact cg_r)), fr140⟩ hP hS d_R_multiplyOperands_118
abbrev rm_c_switch : Room := { frames := 2, cells := 0, slots := 0, locals := 54 }
set_option maxHeartbeats 4000000 in
set_option maxRecDepth 100000 in
/-- switchSquare(value) -/
theorem c_switch (l : Launch) (D : va_G) (ct : Nat → ClassId) (st ke : Nat → Nat) (b N : Nat) (u : Nat → va_E) (hN : 236 ≤ N) (K : Ky) (nn vv : Int) (hO : u 0 = ob b nn vv) (hKS : KS ct b u K) (k : Nat) (hk44 : 44 ≤ k) (hk : k + 4 < N) (lv mt : Int) (l0 : 0 ≤ lv) (l3 : lv ≤ 3) (g0 g1 : Int → Int) (hVR : VR ct b u k lv mt g0 g1) (f15 : u 15 = po b 15 0) (gq : Int → Int) (f16 : u 16 = ir ct 32 gq) (h17 : PS ct b u 17) (P0 P1 X : Int → Int) (hR0 : Rep g0 0 lv P0) (hR1 : Rep g1 0 lv P1) (hRq : Rep gq 0 lv X) : Met l y_R_switchSquare (w_R_switchSquare) rm_c_switch (va_Pc [.ref (b + 0), .ref (b + k)] (fun U => ev D ct st ke b U ∧ va_P D vwCl (wl N b u) U.heap)) (va_Qv (fun z : Nat → va_E => ∃ y0 y1 : Int → Int, VR ct b z k lv mt y0 y1 ∧ PS ct b z 17 ∧ Rep y0 0 lv (fun i => P0 i + sws X K.2.2 i (lv + 1).toNat) ∧ Rep y1 0 lv (fun i => P1 i + sws X K.2.1 i (lv + 1).toNat) ∧ ∀ j : Nat, (j < k ∨ k + 5 ≤ j) → j ≠ 18 → z j = u j) (fun (z : Nat → va_E) t => va_P D vwCl (wl (N) b (z)) t.heap) (AA b)) 0 0 (AA b) := by
  refine M_v (cc := c9_R_switchSquare) (maxL := 4) (by decide) rfl (Nat.le_of_ble_eq_true rfl) ?_
  intro p e s m args below meth c Q ls H locs hx hb hml hown hts hnm E hP hS hl ret
  have hl : lv_has ls 4 [(0, .ref (b + 0)), (1, .ref (b + k))] := hl
  have hK := ev_K E
  have kk0 := hts (.fieldLink "LevelledRing" 142 "LevelledRing$Value" "level" "I") (List.mem_cons_of_mem _ t_57)
  have hinV : ∀ w ∈ u_ws "LevelledRing$Value" T_V 4, w ∈ (w_R_switchSquare) := hin_V _
  have kk2 := hts (.fieldLink "LevelledRing" 51 "LevelledRing" "digit" "LLevelledRing$Poly;") (List.mem_cons_of_mem _ t_182)
  have hinR : ∀ w ∈ u_ws "LevelledRing" T_R 11, w ∈ (w_R_switchSquare) := hin_R _
  have kk4 := hts (.fieldLink "LevelledRing" 48 "LevelledRing" "square" "LLevelledRing$Poly;") (List.mem_cons_of_mem _ t_181)
  have kk5 := hts (.fieldLink "LevelledRing" 167 "LevelledRing$Value" "c0" "LLevelledRing$Poly;") (List.mem_cons_of_mem _ t_61)
  have kk6 := hts (.fieldLink "LevelledRing" 66 "LevelledRing" "keys" "LLevelledRing$Keys;") (List.mem_cons_of_mem _ t_174)
  have kk7 := hts (.fieldLink "LevelledRing" 285 "LevelledRing$Keys" "b" "[LLevelledRing$Poly;") (List.mem_cons_of_mem _ t_129)
  have hinK : ∀ w ∈ u_ws "LevelledRing$Keys" T_K 3, w ∈ (w_R_switchSquare) := hin_K _
  have kk9 := hts (.fieldLink "LevelledRing" 170 "LevelledRing$Value" "c1" "LLevelledRing$Poly;") (List.mem_cons_of_mem _ t_63)
  have kk10 := hts (.fieldLink "LevelledRing" 288 "LevelledRing$Keys" "a" "[LLevelledRing$Poly;") (List.mem_cons_of_mem _ t_127)
  have fr0 : ∀ j : Nat, (j ≠ k + 2) → (j ≠ k + 4) → (j ≠ 18) → u j = u j := fun _ _ _ _ => rfl
  have hKS9 := hKS
  obtain ⟨ks0, ⟨ks1, gs, ks2, ks3⟩, ⟨fa, ka1, ka2⟩, ⟨fb, kb1, kb2⟩, kab⟩ := hKS
  obtain ⟨da, dg, db⟩ := h17
  refine lv_aload_n hx hb d_R_switchSquare_0 rfl (lv_at hl 1 rfl) ?_
  refine w_get (C := "LevelledRing$Value") (T := T_V) (M := 4) hx hb hts hinV hown hK hP (k) (by omega) hVR.1 rfl 0 (by decide) kk0 (fun _ h => h) rfl d_R_switchSquare_1 ?_
  refine lv_istore_n (lv' := [(2, .int (iI (lv))), (0, .ref (b + 0)), (1, .ref (b + k))]) hx hb d_R_switchSquare_4 rfl hl (by decide) rfl (fun ls hl => ?_)
  refine lv_iconst (v := iI (0)) hx hb d_R_switchSquare_5 rfl ?_
  refine lv_istore_n (lv' := [(3, .int (iI (0))), (2, .int (iI (lv))), (0, .ref (b + 0)), (1, .ref (b + k))]) hx hb d_R_switchSquare_6 rfl hl (by decide) rfl (fun ls hl => ?_)
  have lo : ∀ (d : Nat) (jn : Nat) (y0 : Int → Int) (y1 : Int → Int) (dg2 : Int → Int) (w1 : Nat → va_E) (H : Heap) (locs : List Loc) (ls : Array Slot), ((jn : Int) ≤ lv + 1) → (lv + 1 - jn < d) → (Rep y0 0 lv (fun i => P0 i + sws X K.2.2 i jn)) → (Rep y1 0 lv (fun i => P1 i + sws X K.2.1 i jn)) → w1 (k + 2) = ir ct 32 (y0) → w1 (k + 4) = ir ct 32 (y1) → w1 18 = ir ct 32 (dg2) → (∀ j : Nat, (j ≠ k + 2) → (j ≠ k + 4) → (j ≠ 18) → w1 j = u j) → va_P D vwCl (wl N b w1) H → va_S (AA b) s.heap H locs → lv_has ls 4 [(3, .int (iI ((jn : Int)))), (2, .int (iI (lv))), (0, .ref (b + 0)), (1, .ref (b + k))] → W p l e rm_c_switch s m args below meth c H locs 0 0 Q (F0 m 7 ls []) := by
    intro d
    induction d with
    | zero => intro jn y0 y1 dg2 w1 H locs ls hj hd r0 r1 fg2 fg3 fg4 fr5 hP hS hl; exfalso; omega
    | succ d ihlo =>
      intro jn y0 y1 dg2 w1 H locs ls hj hd r0 r1 fg2 fg3 fg4 fr5 hP hS hl
      have ff6 : w1 0 = .inr (5, [.ref (b + 1), .ref (b + 21), .ref (b + 2), .ref (b + 4), .int (iI (nn)), .int (iI (vv)), .ref (b + 5), .ref (b + 10), .ref (b + 15), .ref (b + 17), .ref (b + 19)]) := (fr5 0 (by omega) (by omega) (by omega)).trans hO
      have ff7 : w1 15 = .inr (3, [.int (iI (0)), .ref (b + 16)]) := (fr5 15 (by omega) (by omega) (by omega)).trans f15
      have ff8 : w1 16 = ir ct 32 (gq) := (fr5 16 (by omega) (by omega) (by omega)).trans f16
      have ff9 : w1 21 = .inr (2, [.ref (b + 22), .ref (b + 24), .ref (b + 25)]) := (fr5 21 (by omega) (by omega) (by omega)).trans ks0
      have ff10 : w1 22 = .inr (3, [.int (iI (0)), .ref (b + 23)]) := (fr5 22 (by omega) (by omega) (by omega)).trans ks1
      have ff11 : w1 23 = ir ct 32 (gs) := (fr5 23 (by omega) (by omega) (by omega)).trans ks2
      have ff12 : w1 24 = qr ct 4 4 (fa) := (fr5 24 (by omega) (by omega) (by omega)).trans ka1
      have ff13 : w1 25 = qr ct 4 4 (fb) := (fr5 25 (by omega) (by omega) (by omega)).trans kb1
      have ff14 : w1 17 = .inr (3, [.int (iI (0)), .ref (b + 18)]) := (fr5 17 (by omega) (by omega) (by omega)).trans da
      have ff15 : w1 k = .inr (4, [.int (iI (lv)), .long (lI (mt)), .ref (b + (k + 1)), .ref (b + (k + 3))]) := (fr5 k (by omega) (by omega) (by omega)).trans hVR.1
      have ff16 : w1 (k + 1) = .inr (3, [.int (iI (0)), .ref (b + (k + 2))]) := (fr5 (k + 1) (by omega) (by omega) (by omega)).trans hVR.2.1
      have ff17 : w1 (k + 3) = .inr (3, [.int (iI (0)), .ref (b + (k + 4))]) := (fr5 (k + 3) (by omega) (by omega) (by omega)).trans hVR.2.2.2.1
      refine lv_iload_n hx hb d_R_switchSquare_7 rfl (lv_at hl 0 rfl) ?_
      refine lv_iload_n hx hb d_R_switchSquare_8 rfl (lv_at hl 1 rfl) ?_
      refine x_icmp_gt (tgt := 75) hx hb ⟨by omega, by omega⟩ ⟨by omega, by omega⟩ d_R_switchSquare_9 (by decide) (fun hc => ?_) (fun hc => ?_)
      · obtain ⟨hjl⟩ : Nonempty ((lv + 1).toNat = jn) := ⟨by omega⟩
        rw [← hjl] at r0 r1
        exact ret w1 H locs 75 ls ⟨y0, y1, ⟨ff15, ff16, fg2, ff17, fg3⟩, ⟨ff14, _, fg4⟩, r0, r1, fun j h1 h2 => fr5 j (by omega) (by omega) h2⟩ hP hS d_R_switchSquare_75
      · obtain ⟨⟨a1, ag, a2, a3⟩, ⟨b1, bg, b2, b3⟩⟩ := kab jn (by omega)
        have ff18 : w1 (28 + 4 * jn) = .inr (3, [.int (iI (0)), .ref (b + (28 + 4 * jn + 1))]) := (fr5 (28 + 4 * jn) (by omega) (by omega) (by omega)).trans a1
        have ff19 : w1 (28 + 4 * jn + 1) = ir ct 32 (ag) := (fr5 (28 + 4 * jn + 1) (by omega) (by omega) (by omega)).trans a2
        have ff20 : w1 (30 + 4 * jn) = .inr (3, [.int (iI (0)), .ref (b + (30 + 4 * jn + 1))]) := (fr5 (30 + 4 * jn) (by omega) (by omega) (by omega)).trans b1
        have ff21 : w1 (30 + 4 * jn + 1) = ir ct 32 (bg) := (fr5 (30 + 4 * jn + 1) (by omega) (by omega) (by omega)).trans b2
        refine lv_aload_n hx hb d_R_switchSquare_12 rfl (lv_at hl 2 rfl) ?_
        refine w_get (C := "LevelledRing") (T := T_R) (M := 11) hx hb hts hinR hown hK hP (0) (by omega) ff6 rfl 9 (by decide) kk2 (fun _ h => h) rfl d_R_switchSquare_13 ?_
        refine lv_aload_n hx hb d_R_switchSquare_16 rfl (lv_at hl 2 rfl) ?_
        refine w_get (C := "LevelledRing") (T := T_R) (M := 11) hx hb hts hinR hown hK hP (0) (by omega) ff6 rfl 8 (by decide) kk4 (fun _ h => h) rfl d_R_switchSquare_17 ?_
        refine lv_iload_n hx hb d_R_switchSquare_20 rfl (lv_at hl 0 rfl) ?_
        refine lv_iload_n hx hb d_R_switchSquare_21 rfl (lv_at hl 1 rfl) ?_
        refine w_callv (va_runV (As := [.ref (b + 15), .int (iI ((jn : Int))), .int (iI (lv))]) (rest := []) ⟨hx, hb, hml, hown, hts⟩ (c_setFromRow l D ct st ke b N w1 17 0 32 dg2 (by omega) (by decide) ff14 fg4 lv (by omega) (by omega) (by omega) (Or.inl rfl) 15 32 gq (by omega) (by decide) (by omega) (by omega) ff7 ff8 (jn : Int) (by omega) (by omega) X hRq) (cwV 3 hts (gV t_383 t_384 t_385 t_3 t_386) rfl rfl rfl (by decide +kernel) ⟨Nat.le_of_ble_eq_true rfl, Nat.le_of_ble_eq_true rfl⟩) (pre_V E hP hS (17) (by omega) ff14 rfl) rfl rfl hl.1 rfl (lv_room (Nat.le_of_ble_eq_true rfl)) d_R_switchSquare_22 ⟨(Nat.le_of_ble_eq_true rfl), (Nat.le_of_ble_eq_true rfl)⟩) hS (fun z22 H locs hz hP hS => ?_)
        obtain ⟨g3, c1, c2, c3⟩ := hz
        have ff24 : z22 0 = .inr (5, [.ref (b + 1), .ref (b + 21), .ref (b + 2), .ref (b + 4), .int (iI (nn)), .int (iI (vv)), .ref (b + 5), .ref (b + 10), .ref (b + 15), .ref (b + 17), .ref (b + 19)]) := (c3 0 (by omega)).trans ff6
        have ff25 : z22 15 = .inr (3, [.int (iI (0)), .ref (b + 16)]) := (c3 15 (by omega)).trans ff7
        have ff26 : z22 16 = ir ct 32 (gq) := (c3 16 (by omega)).trans ff8
        have ff27 : z22 21 = .inr (2, [.ref (b + 22), .ref (b + 24), .ref (b + 25)]) := (c3 21 (by omega)).trans ff9
        have ff28 : z22 22 = .inr (3, [.int (iI (0)), .ref (b + 23)]) := (c3 22 (by omega)).trans ff10
        have ff29 : z22 23 = ir ct 32 (gs) := (c3 23 (by omega)).trans ff11
        have ff30 : z22 24 = qr ct 4 4 (fa) := (c3 24 (by omega)).trans ff12
        have ff31 : z22 25 = qr ct 4 4 (fb) := (c3 25 (by omega)).trans ff13
        have ff32 : z22 17 = .inr (3, [.int (iI (0)), .ref (b + 18)]) := (c3 17 (by omega)).trans ff14
        have ff33 : z22 k = .inr (4, [.int (iI (lv)), .long (lI (mt)), .ref (b + (k + 1)), .ref (b + (k + 3))]) := (c3 k (by omega)).trans ff15
        have ff34 : z22 (k + 1) = .inr (3, [.int (iI (0)), .ref (b + (k + 2))]) := (c3 (k + 1) (by omega)).trans ff16
        have ff35 : z22 (k + 3) = .inr (3, [.int (iI (0)), .ref (b + (k + 4))]) := (c3 (k + 3) (by omega)).trans ff17
        have ff36 : z22 (k + 2) = ir ct 32 (y0) := (c3 (k + 2) (by omega)).trans fg2
        have ff37 : z22 (k + 4) = ir ct 32 (y1) := (c3 (k + 4) (by omega)).trans fg3
        have ff38 : z22 (28 + 4 * jn) = .inr (3, [.int (iI (0)), .ref (b + (28 + 4 * jn + 1))]) := (c3 (28 + 4 * jn) (by omega)).trans ff18
        have ff39 : z22 (28 + 4 * jn + 1) = ir ct 32 (ag) := (c3 (28 + 4 * jn + 1) (by omega)).trans ff19
        have ff40 : z22 (30 + 4 * jn) = .inr (3, [.int (iI (0)), .ref (b + (30 + 4 * jn + 1))]) := (c3 (30 + 4 * jn) (by omega)).trans ff20
        have ff41 : z22 (30 + 4 * jn + 1) = ir ct 32 (bg) := (c3 (30 + 4 * jn + 1) (by omega)).trans ff21
        have fr42 : ∀ j : Nat, (j ≠ k + 2) → (j ≠ k + 4) → (j ≠ 18) → z22 j = u j := fun j h0 h1 h2 => (c3 j (by omega)).trans (fr5 j h0 h1 h2)
        refine lv_aload_n hx hb d_R_switchSquare_25 rfl (lv_at hl 3 rfl) ?_
        refine w_get (C := "LevelledRing$Value") (T := T_V) (M := 4) hx hb hts hinV hown hK hP (k) (by omega) ff33 rfl 2 (by decide) kk5 (fun _ h => h) rfl d_R_switchSquare_26 ?_
        refine lv_iconst (v := iI (1)) hx hb d_R_switchSquare_29 rfl ?_
        refine lv_aload_n hx hb d_R_switchSquare_30 rfl (lv_at hl 2 rfl) ?_
        refine w_get (C := "LevelledRing") (T := T_R) (M := 11) hx hb hts hinR hown hK hP (0) (by omega) ff24 rfl 9 (by decide) kk2 (fun _ h => h) rfl d_R_switchSquare_31 ?_
        refine lv_aload_n hx hb d_R_switchSquare_34 rfl (lv_at hl 2 rfl) ?_
        refine w_get (C := "LevelledRing") (T := T_R) (M := 11) hx hb hts hinR hown hK hP (0) (by omega) ff24 rfl 1 (by decide) kk6 (fun _ h => h) rfl d_R_switchSquare_35 ?_
        refine w_get (C := "LevelledRing$Keys") (T := T_K) (M := 3) hx hb hts hinK hown hK hP (21) (by omega) ff27 rfl 2 (by decide) kk7 (fun _ h => h) rfl d_R_switchSquare_38 ?_
        refine lv_iload_n hx hb d_R_switchSquare_41 rfl (lv_at hl 0 rfl) ?_
        refine w_aald (r := b + (30 + 4 * jn)) hx hb hK hP (25) (by omega) 4 ff31 rfl (by omega) (by omega) (by decide) (kb2 jn (by omega)) d_R_switchSquare_42 ?_
        refine lv_iload_n hx hb d_R_switchSquare_43 rfl (lv_at hl 1 rfl) ?_
        refine w_callv (va_runV (As := [.int (iI (1)), .ref (b + 17), .ref (b + (30 + 4 * jn)), .int (iI (lv))]) (rest := []) ⟨hx, hb, hml, hown, hts⟩ (c_addProduct l D ct st ke b N z22 (k + 1) 0 32 y0 (by omega) (by decide) ff34 ff36 lv (by omega) (by omega) (by omega) (Or.inl rfl) 17 32 g3 (by omega) (by decide) (by omega) (by omega) ff32 c1 (30 + 4 * jn) 32 bg (by omega) (by decide) (by omega) (by omega) ff40 ff41 1 (Or.inl rfl) (fun i => P0 i + sws X K.2.2 i jn) (fun i => X i % mu 0 (jn : Int)) (K.2.2 jn) r0 c2 (b3.down l3)) (cwV 4 hts (gV t_271 t_102 t_103 t_3 t_104) rfl rfl rfl (by decide +kernel) ⟨Nat.le_of_ble_eq_true rfl, Nat.le_of_ble_eq_true rfl⟩) (pre_V E hP hS (k + 1) (by omega) ff34 rfl) rfl rfl hl.1 rfl (lv_room (Nat.le_of_ble_eq_true rfl)) d_R_switchSquare_44 ⟨(Nat.le_of_ble_eq_true rfl), (Nat.le_of_ble_eq_true rfl)⟩) hS (fun z43 H locs hz hP hS => ?_)
        obtain ⟨pg, p1, p2, p3⟩ := hz
        have ff45 : z43 0 = .inr (5, [.ref (b + 1), .ref (b + 21), .ref (b + 2), .ref (b + 4), .int (iI (nn)), .int (iI (vv)), .ref (b + 5), .ref (b + 10), .ref (b + 15), .ref (b + 17), .ref (b + 19)]) := (p3 0 (by omega)).trans ff24
        have ff46 : z43 15 = .inr (3, [.int (iI (0)), .ref (b + 16)]) := (p3 15 (by omega)).trans ff25
        have ff47 : z43 16 = ir ct 32 (gq) := (p3 16 (by omega)).trans ff26
        have ff48 : z43 21 = .inr (2, [.ref (b + 22), .ref (b + 24), .ref (b + 25)]) := (p3 21 (by omega)).trans ff27
        have ff49 : z43 22 = .inr (3, [.int (iI (0)), .ref (b + 23)]) := (p3 22 (by omega)).trans ff28
        have ff50 : z43 23 = ir ct 32 (gs) := (p3 23 (by omega)).trans ff29
        have ff51 : z43 24 = qr ct 4 4 (fa) := (p3 24 (by omega)).trans ff30
        have ff52 : z43 25 = qr ct 4 4 (fb) := (p3 25 (by omega)).trans ff31
        have ff53 : z43 17 = .inr (3, [.int (iI (0)), .ref (b + 18)]) := (p3 17 (by omega)).trans ff32
        have ff54 : z43 k = .inr (4, [.int (iI (lv)), .long (lI (mt)), .ref (b + (k + 1)), .ref (b + (k + 3))]) := (p3 k (by omega)).trans ff33
        have ff55 : z43 (k + 1) = .inr (3, [.int (iI (0)), .ref (b + (k + 2))]) := (p3 (k + 1) (by omega)).trans ff34
        have ff56 : z43 (k + 3) = .inr (3, [.int (iI (0)), .ref (b + (k + 4))]) := (p3 (k + 3) (by omega)).trans ff35
        have ff57 : z43 (k + 4) = ir ct 32 (y1) := (p3 (k + 4) (by omega)).trans ff37
        have ff58 : z43 (28 + 4 * jn) = .inr (3, [.int (iI (0)), .ref (b + (28 + 4 * jn + 1))]) := (p3 (28 + 4 * jn) (by omega)).trans ff38
        have ff59 : z43 (28 + 4 * jn + 1) = ir ct 32 (ag) := (p3 (28 + 4 * jn + 1) (by omega)).trans ff39
        have ff60 : z43 (30 + 4 * jn) = .inr (3, [.int (iI (0)), .ref (b + (30 + 4 * jn + 1))]) := (p3 (30 + 4 * jn) (by omega)).trans ff40
        have ff61 : z43 (30 + 4 * jn + 1) = ir ct 32 (bg) := (p3 (30 + 4 * jn + 1) (by omega)).trans ff41
        have ff62 : z43 18 = ir ct 32 (g3) := (p3 18 (by omega)).trans c1
        have fr63 : ∀ j : Nat, (j ≠ k + 2) → (j ≠ k + 4) → (j ≠ 18) → z43 j = u j := fun j h0 h1 h2 => (p3 j (by omega)).trans (fr42 j h0 h1 h2)
        refine lv_aload_n hx hb d_R_switchSquare_47 rfl (lv_at hl 3 rfl) ?_
        refine w_get (C := "LevelledRing$Value") (T := T_V) (M := 4) hx hb hts hinV hown hK hP (k) (by omega) ff54 rfl 3 (by decide) kk9 (fun _ h => h) rfl d_R_switchSquare_48 ?_
        refine lv_iconst (v := iI (1)) hx hb d_R_switchSquare_51 rfl ?_
        refine lv_aload_n hx hb d_R_switchSquare_52 rfl (lv_at hl 2 rfl) ?_
        refine w_get (C := "LevelledRing") (T := T_R) (M := 11) hx hb hts hinR hown hK hP (0) (by omega) ff45 rfl 9 (by decide) kk2 (fun _ h => h) rfl d_R_switchSquare_53 ?_
        refine lv_aload_n hx hb d_R_switchSquare_56 rfl (lv_at hl 2 rfl) ?_
        refine w_get (C := "LevelledRing") (T := T_R) (M := 11) hx hb hts hinR hown hK hP (0) (by omega) ff45 rfl 1 (by decide) kk6 (fun _ h => h) rfl d_R_switchSquare_57 ?_
        refine w_get (C := "LevelledRing$Keys") (T := T_K) (M := 3) hx hb hts hinK hown hK hP (21) (by omega) ff48 rfl 1 (by decide) kk10 (fun _ h => h) rfl d_R_switchSquare_60 ?_
        refine lv_iload_n hx hb d_R_switchSquare_63 rfl (lv_at hl 0 rfl) ?_
        refine w_aald (r := b + (28 + 4 * jn)) hx hb hK hP (24) (by omega) 4 ff51 rfl (by omega) (by omega) (by decide) (ka2 jn (by omega)) d_R_switchSquare_64 ?_
        refine lv_iload_n hx hb d_R_switchSquare_65 rfl (lv_at hl 1 rfl) ?_
        refine w_callv (va_runV (As := [.int (iI (1)), .ref (b + 17), .ref (b + (28 + 4 * jn)), .int (iI (lv))]) (rest := []) ⟨hx, hb, hml, hown, hts⟩ (c_addProduct l D ct st ke b N z43 (k + 3) 0 32 y1 (by omega) (by decide) ff56 ff57 lv (by omega) (by omega) (by omega) (Or.inl rfl) 17 32 g3 (by omega) (by decide) (by omega) (by omega) ff53 ff62 (28 + 4 * jn) 32 ag (by omega) (by decide) (by omega) (by omega) ff58 ff59 1 (Or.inl rfl) (fun i => P1 i + sws X K.2.1 i jn) (fun i => X i % mu 0 (jn : Int)) (K.2.1 jn) r1 c2 (a3.down l3)) (cwV 4 hts (gV t_271 t_102 t_103 t_3 t_104) rfl rfl rfl (by decide +kernel) ⟨Nat.le_of_ble_eq_true rfl, Nat.le_of_ble_eq_true rfl⟩) (pre_V E hP hS (k + 3) (by omega) ff56 rfl) rfl rfl hl.1 rfl (lv_room (Nat.le_of_ble_eq_true rfl)) d_R_switchSquare_66 ⟨(Nat.le_of_ble_eq_true rfl), (Nat.le_of_ble_eq_true rfl)⟩) hS (fun z64 H locs hz hP hS => ?_)
        obtain ⟨qg, q1, q2, q3⟩ := hz
        have ff66 : z64 0 = .inr (5, [.ref (b + 1), .ref (b + 21), .ref (b + 2), .ref (b + 4), .int (iI (nn)), .int (iI (vv)), .ref (b + 5), .ref (b + 10), .ref (b + 15), .ref (b + 17), .ref (b + 19)]) := (q3 0 (by omega)).trans ff45
        have ff67 : z64 15 = .inr (3, [.int (iI (0)), .ref (b + 16)]) := (q3 15 (by omega)).trans ff46
        have ff68 : z64 16 = ir ct 32 (gq) := (q3 16 (by omega)).trans ff47
        have ff69 : z64 21 = .inr (2, [.ref (b + 22), .ref (b + 24), .ref (b + 25)]) := (q3 21 (by omega)).trans ff48
        have ff70 : z64 22 = .inr (3, [.int (iI (0)), .ref (b + 23)]) := (q3 22 (by omega)).trans ff49
        have ff71 : z64 23 = ir ct 32 (gs) := (q3 23 (by omega)).trans ff50
        have ff72 : z64 24 = qr ct 4 4 (fa) := (q3 24 (by omega)).trans ff51
        have ff73 : z64 25 = qr ct 4 4 (fb) := (q3 25 (by omega)).trans ff52
        have ff74 : z64 17 = .inr (3, [.int (iI (0)), .ref (b + 18)]) := (q3 17 (by omega)).trans ff53
        have ff75 : z64 k = .inr (4, [.int (iI (lv)), .long (lI (mt)), .ref (b + (k + 1)), .ref (b + (k + 3))]) := (q3 k (by omega)).trans ff54
        have ff76 : z64 (k + 1) = .inr (3, [.int (iI (0)), .ref (b + (k + 2))]) := (q3 (k + 1) (by omega)).trans ff55
        have ff77 : z64 (k + 3) = .inr (3, [.int (iI (0)), .ref (b + (k + 4))]) := (q3 (k + 3) (by omega)).trans ff56
        have ff78 : z64 (28 + 4 * jn) = .inr (3, [.int (iI (0)), .ref (b + (28 + 4 * jn + 1))]) := (q3 (28 + 4 * jn) (by omega)).trans ff58
        have ff79 : z64 (28 + 4 * jn + 1) = ir ct 32 (ag) := (q3 (28 + 4 * jn + 1) (by omega)).trans ff59
        have ff80 : z64 (30 + 4 * jn) = .inr (3, [.int (iI (0)), .ref (b + (30 + 4 * jn + 1))]) := (q3 (30 + 4 * jn) (by omega)).trans ff60
        have ff81 : z64 (30 + 4 * jn + 1) = ir ct 32 (bg) := (q3 (30 + 4 * jn + 1) (by omega)).trans ff61
        have ff82 : z64 18 = ir ct 32 (g3) := (q3 18 (by omega)).trans ff62
        have ff83 : z64 (k + 2) = ir ct 32 (pg) := (q3 (k + 2) (by omega)).trans p1
        have fr84 : ∀ j : Nat, (j ≠ k + 2) → (j ≠ k + 4) → (j ≠ 18) → z64 j = u j := fun j h0 h1 h2 => (q3 j (by omega)).trans (fr63 j h0 h1 h2)
        refine lv_iinc (k := 0) (v := iI ((jn : Int) + 1)) (lv' := [(3, .int (iI ((jn : Int) + 1))), (2, .int (iI (lv))), (0, .ref (b + 0)), (1, .ref (b + k))]) hx hb d_R_switchSquare_69 hl rfl (iI_add _ _) (by decide) rfl (fun ls hl => ?_)
        have hl : lv_has ls 4 [(3, .int (iI (((jn + 1 : Nat) : Int)))), (2, .int (iI (lv))), (0, .ref (b + 0)), (1, .ref (b + k))] := by rw [show ((jn + 1 : Nat) : Int) = (jn : Int) + 1 from by omega]; exact hl
        refine lv_goto (tgt := 7) hx hb d_R_switchSquare_72 (by decide) ?_
        exact ihlo (jn + 1) _ _ _ z64 H locs ls (by omega) (by omega) (p2.cg (fun q i _ _ _ _ => by show cg _ (P0 i + sws X K.2.2 i jn + 1 * nc _ _ i) (P0 i + (sws X K.2.2 i jn + nc _ _ i)); rw [Int.one_mul, Int.add_assoc]; exact cg_r)) (q2.cg (fun q i _ _ _ _ => by show cg _ (P1 i + sws X K.2.1 i jn + 1 * nc _ _ i) (P1 i + (sws X K.2.1 i jn + nc _ _ i)); rw [Int.one_mul, Int.add_assoc]; exact cg_r)) ff83 q1 ff82 fr84 hP hS hl
  exact lo (lv + 2).toNat 0 g0 g1 _ u H locs ls (by omega) (by omega) (hR0.cg fun q i _ _ _ _ => by show cg _ (P0 i) (P0 i + 0); rw [Int.add_zero]; exact cg_r) (hR1.cg fun q i _ _ _ _ => by show cg _ (P1 i) (P1 i + 0); rw [Int.add_zero]; exact cg_r) hVR.2.2.1 hVR.2.2.2.2 db fr0 hP hS hl
