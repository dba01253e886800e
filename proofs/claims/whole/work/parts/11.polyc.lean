abbrev rm_c_drawUniform : Room := { frames := 1, cells := 0, slots := 0, locals := 20 }
set_option maxHeartbeats 4000000 in
set_option maxRecDepth 100000 in
/-- drawUniform(drawing) -/
theorem c_drawUniform (l : Launch) (D : va_G) (ct : Nat → ClassId) (st ke : Nat → Nat) (b N : Nat) (u : Nat → va_E) (k : Nat) (sm : Int) (g : Int → Int) (hk : k + 1 < N) (f0 : u k = po b k sm) (f1 : u (k + 1) = ir ct 32 g) (kd : Nat) (z0 : Int32) (hkd : kd < N) (fd : u kd = dr z0) : Met l y_P_drawUniform (w_P_drawUniform) rm_c_drawUniform (va_Pc [.ref (b + k), .ref (b + kd)] (fun U => ev D ct st ke b U ∧ va_P D vwCl (wl N b u) U.heap)) (va_Qv (fun z : Nat → va_E => ∃ g2 : Int → Int, z (k + 1) = ir ct 32 g2 ∧ z kd = dr (it 32 z0) ∧ (Rep g2 0 3 (uni z0)) ∧ ∀ j : Nat, j ≠ k + 1 → j ≠ kd → z j = u j) (fun (z : Nat → va_E) t => va_P D vwCl (wl (N) b (z)) t.heap) (AA b)) 0 0 (AA b) := by
  refine M_v (cc := c9_P_drawUniform) (maxL := 4) (by decide) rfl (Nat.le_of_ble_eq_true rfl) ?_
  intro p e s m args below meth c Q ls H locs hx hb hml hown hts hnm E hP hS hl ret
  have hl : lv_has ls 4 [(0, .ref (b + k)), (1, .ref (b + kd))] := hl
  have hK := ev_K E
  have kk0 := hts (.fieldLink "LevelledRing$Poly" 15 "LevelledRing$Poly" "c" "[I") (List.mem_cons_of_mem _ t_38)
  have hinP : ∀ w ∈ u_ws "LevelledRing$Poly" T_P 2, w ∈ (w_P_drawUniform) := hin_P _
  have kk2 : ((.fieldLinkNest "LevelledRing$Poly" 19 "LevelledRing" "PRIMES" "[I" "LevelledRing") : Cond).before args s = true := va_Nw.use rfl (ev_W E _ nw_2)
  have fr0 : ∀ j : Nat, (j ≠ k + 1) → (j ≠ kd) → u j = u j := fun _ _ _ => rfl
  have hd1 : kd ≠ k + 1 := fun h => by rw [h, f1] at fd; exact absurd fd (by intro h; cases h)
  have hd2 : kd ≠ k := fun h => by rw [h, f0] at fd; exact absurd fd (by intro h; cases h)
  refine lv_iconst (v := iI (0)) hx hb d_P_drawUniform_0 rfl ?_
  refine lv_istore_n (lv' := [(2, .int (iI (0))), (0, .ref (b + k)), (1, .ref (b + kd))]) hx hb d_P_drawUniform_1 rfl hl (by decide) rfl (fun ls hl => ?_)
  have lo : ∀ (d : Nat) (i : Int) (g2 : Int → Int) (w1 : Nat → va_E) (H : Heap) (locs : List Loc) (ls : Array Slot), (0 ≤ i) → (i ≤ 8) → (8 - i < d) → (∀ a c : Int, 0 ≤ a → a ≤ 3 → 0 ≤ c → c < i → g2 (a * 8 + c) = res z0 c a) → w1 (k + 1) = ir ct 32 (g2) → w1 kd = .inr (0, [.int (it (4 * i).toNat z0)]) → (∀ j : Nat, (j ≠ k + 1) → (j ≠ kd) → w1 j = u j) → va_P D vwCl (wl N b w1) H → va_S (AA b) s.heap H locs → lv_has ls 4 [(2, .int (iI (i))), (0, .ref (b + k)), (1, .ref (b + kd))] → W p l e rm_c_drawUniform s m args below meth c H locs 0 0 Q (F0 m 2 ls []) := by
    intro d
    induction d with
    | zero => intro i g2 w1 H locs ls h0 h1 hd hg fg2 fg3 fr4 hP hS hl; exfalso; omega
    | succ d ihlo =>
      intro i g2 w1 H locs ls h0 h1 hd hg fg2 fg3 fr4 hP hS hl
      have ff5 : w1 k = .inr (3, [.int (iI (sm)), .ref (b + (k + 1))]) := (fr4 k (by omega) (by omega)).trans f0
      refine lv_iload_n hx hb d_P_drawUniform_2 rfl (lv_at hl 0 rfl) ?_
      refine lv_bipush (v := iI (8)) hx hb d_P_drawUniform_3 (by decide +kernel) ?_
      refine x_icmp_ge (tgt := 48) hx hb ⟨by omega, by omega⟩ ⟨by omega, by omega⟩ d_P_drawUniform_5 (by decide) (fun hc => ?_) (fun hc => ?_)
      · obtain rfl : i = 8 := by omega
        exact ret w1 H locs 48 ls ⟨g2, fg2, fg3, uni_Rep z0 (fun a c h2 h3 h4 h5 => hg a c h2 h3 h4 h5), fr4⟩ hP hS d_P_drawUniform_48
      · refine lv_iconst (v := iI (0)) hx hb d_P_drawUniform_8 rfl ?_
        refine lv_istore_n (lv' := [(3, .int (iI (0))), (2, .int (iI (i))), (0, .ref (b + k)), (1, .ref (b + kd))]) hx hb d_P_drawUniform_9 rfl hl (by decide) rfl (fun ls hl => ?_)
        have li : ∀ (d2 : Nat) (a : Int) (g2 : Int → Int) (w6 : Nat → va_E) (H : Heap) (locs : List Loc) (ls : Array Slot), (0 ≤ a) → (a ≤ 4) → (4 - a < d2) → (∀ r c : Int, 0 ≤ r → r ≤ 3 → 0 ≤ c → (c < i ∨ (c = i ∧ r < a)) → g2 (r * 8 + c) = res z0 c r) → w6 (k + 1) = ir ct 32 (g2) → w6 kd = .inr (0, [.int (it (4 * i + a).toNat z0)]) → (∀ j : Nat, (j ≠ k + 1) → (j ≠ kd) → w6 j = u j) → va_P D vwCl (wl N b w6) H → va_S (AA b) s.heap H locs → lv_has ls 4 [(3, .int (iI (a))), (2, .int (iI (i))), (0, .ref (b + k)), (1, .ref (b + kd))] → W p l e rm_c_drawUniform s m args below meth c H locs 0 0 Q (F0 m 10 ls []) := by
          intro d2
          induction d2 with
          | zero => intro a g2 w6 H locs ls ha0 ha4 hd2 hg fg7 fg8 fr9 hP hS hl; exfalso; omega
          | succ d2 ihli =>
            intro a g2 w6 H locs ls ha0 ha4 hd2 hg fg7 fg8 fr9 hP hS hl
            have ff10 : w6 k = .inr (3, [.int (iI (sm)), .ref (b + (k + 1))]) := (fr9 k (by omega) (by omega)).trans f0
            refine lv_iload_n hx hb d_P_drawUniform_10 rfl (lv_at hl 0 rfl) ?_
            refine lv_iconst (v := iI (4)) hx hb d_P_drawUniform_11 rfl ?_
            refine x_icmp_ge (tgt := 42) hx hb ⟨by omega, by omega⟩ ⟨by omega, by omega⟩ d_P_drawUniform_12 (by decide) (fun hc => ?_) (fun hc => ?_)
            · obtain rfl : a = 4 := by omega
              refine lv_iinc (k := 1) (v := iI (i + 1)) (lv' := [(2, .int (iI (i + 1))), (3, .int (iI (4))), (0, .ref (b + k)), (1, .ref (b + kd))]) hx hb d_P_drawUniform_42 hl rfl (iI_add _ _) (by decide) rfl (fun ls hl => ?_)
              refine lv_goto (tgt := 2) hx hb d_P_drawUniform_45 (by decide) ?_
              have hl : lv_has ls 4 [(2, .int (iI (i + 1))), (0, .ref (b + k)), (1, .ref (b + kd))] := lv_sub hl [0, 2, 3] rfl
              exact ihlo (i + 1) g2 w6 H locs ls (by omega) (by omega) (by omega) (fun r c h2 h3 h4 h5 => hg r c h2 h3 h4 (by omega)) fg7 (by rw [show 4 * (i + 1) = 4 * i + 4 by omega]; exact fg8) fr9 hP hS hl
            · have hlq := lq_bd a
              have es : it (4 * i + a + 1).toNat z0 = dz (it (4 * i + a).toNat z0) := by rw [show (4 * i + a + 1).toNat = (4 * i + a).toNat + 1 by omega]; rfl
              have bdv := dv_bd (dz (it (4 * i + a).toNat z0))
              refine lv_aload_n hx hb d_P_drawUniform_15 rfl (lv_at hl 2 rfl) ?_
              refine w_get (C := "LevelledRing$Poly") (T := T_P) (M := 2) hx hb hts hinP hown hK hP (k) (by omega) ff10 rfl 1 (by decide) kk0 (fun _ h => h) rfl d_P_drawUniform_16 ?_
              refine lv_iload_n hx hb d_P_drawUniform_19 rfl (lv_at hl 0 rfl) ?_
              refine lv_bipush (v := iI (8)) hx hb d_P_drawUniform_20 (by decide +kernel) ?_
              refine x_imul hx hb d_P_drawUniform_22 ?_
              refine lv_iload_n hx hb d_P_drawUniform_23 rfl (lv_at hl 1 rfl) ?_
              refine x_iadd hx hb d_P_drawUniform_24 ?_
              refine lv_aload_n hx hb d_P_drawUniform_25 rfl (lv_at hl 3 rfl) ?_
              refine w_calli (va_runV (As := []) (rest := [.int (iI ((a * 8) + (i))), .ref (b + (k + 1))]) ⟨hx, hb, hml, hown, hts⟩ (c_draw l D ct st ke b N w6 kd (it (4 * i + a).toNat z0) hkd fg8) (cwV 0 hts (gV t_90 t_91 t_92 t_2 t_93) rfl rfl rfl (by decide +kernel) ⟨Nat.le_of_ble_eq_true rfl, Nat.le_of_ble_eq_true rfl⟩) (pre_V E hP hS (kd) (by omega) fg8 rfl) rfl rfl hl.1 rfl (lv_room (Nat.le_of_ble_eq_true rfl)) d_P_drawUniform_26 ⟨(Nat.le_of_ble_eq_true rfl), (Nat.le_of_ble_eq_true rfl)⟩) hS (fun r12 z11 H locs hz hP hS => ?_)
              obtain ⟨rfl, hzd, hzf⟩ := hz
              have ff13 : z11 k = .inr (3, [.int (iI (sm)), .ref (b + (k + 1))]) := (hzf k (by omega)).trans ff10
              have ff14 : z11 (k + 1) = ir ct 32 (g2) := (hzf (k + 1) (by omega)).trans fg7
              have fr15 : ∀ j : Nat, (j ≠ k + 1) → (j ≠ kd) → z11 j = u j := fun j h0 h1 => (hzf j (by omega)).trans (fr9 j h0 h1)
              refine va_getsN hx hb (ev_Z0 E) hS hown kk2 (fun _ h => h) d_P_drawUniform_29 ?_
              refine lv_iload_n hx hb d_P_drawUniform_32 rfl (lv_at hl 0 rfl) ?_
              refine x_ti hx hb (ev_T0 E) hS (by omega) (by omega) (by decide) d_P_drawUniform_33 ?_
              refine x_iremP hx hb ⟨by omega, by omega⟩ ⟨by omega, by omega⟩ (by omega) (by omega) d_P_drawUniform_34 ?_
              refine w_iast hx hb hK hP hS (k + 1) (by omega) ff14 (by omega) (by omega) (by omega) d_P_drawUniform_35 (fun H locs hP hS => ?_)
              obtain ⟨u16, hu17, hP⟩ : ∃ zz : Nat → va_E, zz = va_up z11 (k + 1) (ir ct 32 (zu g2 ((a * 8) + (i)) ((dv (dz (it (4 * i + a).toNat z0))) % (lq (a))))) ∧ va_P D vwCl (wl N b zz) H := ⟨_, rfl, hP⟩
              have ff18 : u16 k = .inr (3, [.int (iI (sm)), .ref (b + (k + 1))]) := (congrFun hu17 _).trans ((up_n (by omega)).trans ff13)
              have ff19 : u16 (k + 1) = ir ct 32 (zu g2 ((a * 8) + (i)) ((dv (dz (it (4 * i + a).toNat z0))) % (lq (a)))) := (congrFun hu17 _).trans up_s
              have ff20 : u16 kd = .inr (0, [.int (dz (it (4 * i + a).toNat z0))]) := (congrFun hu17 _).trans ((up_n (by omega)).trans hzd)
              have fr21 : ∀ j : Nat, (j ≠ k + 1) → (j ≠ kd) → u16 j = u j := fun j h0 h1 => (congrFun hu17 j).trans ((up_n (by omega)).trans (fr15 j h0 h1))
              refine lv_iinc (k := 0) (v := iI (a + 1)) (lv' := [(3, .int (iI (a + 1))), (2, .int (iI (i))), (0, .ref (b + k)), (1, .ref (b + kd))]) hx hb d_P_drawUniform_36 hl rfl (iI_add _ _) (by decide) rfl (fun ls hl => ?_)
              refine lv_goto (tgt := 10) hx hb d_P_drawUniform_39 (by decide) ?_
              refine ihli (a + 1) _ u16 H locs ls (by omega) (by omega) (by omega) (fun r c h2 h3 h4 h5 => ?_) ff19 (by rw [show 4 * i + (a + 1) = 4 * i + a + 1 by omega, es]; exact ff20) fr21 hP hS hl
              by_cases h6 : r * 8 + c = a * 8 + i
              · obtain ⟨rfl, rfl⟩ : r = a ∧ c = i := by omega
                rw [zu_s, ← es]
                rfl
              · rw [zu_n h6]
                exact hg r c h2 h3 h4 (by omega)
        exact li 5 0 g2 w1 H locs ls (by omega) (by omega) (by omega) (fun r c h2 h3 h4 h5 => hg r c h2 h3 h4 (by omega)) fg2 (by rw [Int.add_zero]; exact fg3) fr4 hP hS hl
  exact lo 9 0 g u H locs ls (by omega) (by omega) (by omega) (fun r c h2 h3 h4 h5 => by omega) f1 fd fr0 hP hS hl
abbrev rm_c_drawSmall : Room := { frames := 1, cells := 0, slots := 0, locals := 23 }
set_option maxHeartbeats 4000000 in
set_option maxRecDepth 100000 in
/-- drawSmall(drawing, fac) -/
theorem c_drawSmall (l : Launch) (D : va_G) (ct : Nat → ClassId) (st ke : Nat → Nat) (b N : Nat) (u : Nat → va_E) (k : Nat) (sm : Int) (g : Int → Int) (hk : k + 1 < N) (f0 : u k = po b k sm) (f1 : u (k + 1) = ir ct 32 g) (kd : Nat) (z0 : Int32) (hkd : kd < N) (fd : u kd = dr z0) (fac : Int) (hfac : fac = 1 ∨ fac = 17) : Met l y_P_drawSmall (w_P_drawSmall) rm_c_drawSmall (va_Pc [.ref (b + k), .ref (b + kd), .int (iI (fac))] (fun U => ev D ct st ke b U ∧ va_P D vwCl (wl N b u) U.heap)) (va_Qv (fun z : Nat → va_E => ∃ g2 : Int → Int, z (k + 1) = ir ct 32 g2 ∧ z kd = dr (it 8 z0) ∧ (Rep g2 0 3 (fun i => fac * sml z0 i)) ∧ ∀ j : Nat, j ≠ k + 1 → j ≠ kd → z j = u j) (fun (z : Nat → va_E) t => va_P D vwCl (wl (N) b (z)) t.heap) (AA b)) 0 0 (AA b) := by
  refine M_v (cc := c9_P_drawSmall) (maxL := 6) (by decide) rfl (Nat.le_of_ble_eq_true rfl) ?_
  intro p e s m args below meth c Q ls H locs hx hb hml hown hts hnm E hP hS hl ret
  have hl : lv_has ls 6 [(0, .ref (b + k)), (1, .ref (b + kd)), (2, .int (iI (fac)))] := hl
  have hK := ev_K E
  have kk0 := hts (.fieldLink "LevelledRing$Poly" 15 "LevelledRing$Poly" "c" "[I") (List.mem_cons_of_mem _ t_38)
  have hinP : ∀ w ∈ u_ws "LevelledRing$Poly" T_P 2, w ∈ (w_P_drawSmall) := hin_P _
  have kk2 : ((.fieldLinkNest "LevelledRing$Poly" 19 "LevelledRing" "PRIMES" "[I" "LevelledRing") : Cond).before args s = true := va_Nw.use rfl (ev_W E _ nw_2)
  have kk3 := hts (.initialized "LevelledRing") (List.mem_cons_of_mem _ t_1)
  have kk4 := hts (.static y_R_modulo) (List.mem_cons_of_mem _ t_99)
  have kn5 : va_Nw (.methodLinkNest "LevelledRing$Poly" 40 y_R_modulo "LevelledRing") s := ev_W E _ nw_3
  have fr0 : ∀ j : Nat, (j ≠ k + 1) → (j ≠ kd) → u j = u j := fun _ _ _ => rfl
  have hd1 : kd ≠ k + 1 := fun h => by rw [h, f1] at fd; exact absurd fd (by intro h; cases h)
  have hd2 : kd ≠ k := fun h => by rw [h, f0] at fd; exact absurd fd (by intro h; cases h)
  refine lv_iconst (v := iI (0)) hx hb d_P_drawSmall_0 rfl ?_
  refine lv_istore_n (lv' := [(3, .int (iI (0))), (0, .ref (b + k)), (1, .ref (b + kd)), (2, .int (iI (fac)))]) hx hb d_P_drawSmall_1 rfl hl (by decide) rfl (fun ls hl => ?_)
  have lo : ∀ (d : Nat) (i : Int) (g2 : Int → Int) (w1 : Nat → va_E) (H : Heap) (locs : List Loc) (ls : Array Slot), (0 ≤ i) → (i ≤ 8) → (8 - i < d) → (∀ a c : Int, 0 ≤ a → a ≤ 3 → 0 ≤ c → c < i → g2 (a * 8 + c) = (fac * sml z0 c) % mu 0 a) → w1 (k + 1) = ir ct 32 (g2) → w1 kd = .inr (0, [.int (it (i).toNat z0)]) → (∀ j : Nat, (j ≠ k + 1) → (j ≠ kd) → w1 j = u j) → va_P D vwCl (wl N b w1) H → va_S (AA b) s.heap H locs → lv_has ls 6 [(3, .int (iI (i))), (0, .ref (b + k)), (1, .ref (b + kd)), (2, .int (iI (fac)))] → W p l e rm_c_drawSmall s m args below meth c H locs 0 0 Q (F0 m 2 ls []) := by
    intro d
    induction d with
    | zero => intro i g2 w1 H locs ls h0 h1 hd hg fg2 fg3 fr4 hP hS hl; exfalso; omega
    | succ d ihlo =>
      intro i g2 w1 H locs ls h0 h1 hd hg fg2 fg3 fr4 hP hS hl
      have ff5 : w1 k = .inr (3, [.int (iI (sm)), .ref (b + (k + 1))]) := (fr4 k (by omega) (by omega)).trans f0
      refine lv_iload_n hx hb d_P_drawSmall_2 rfl (lv_at hl 0 rfl) ?_
      refine lv_bipush (v := iI (8)) hx hb d_P_drawSmall_3 (by decide +kernel) ?_
      refine x_icmp_ge (tgt := 65) hx hb ⟨by omega, by omega⟩ ⟨by omega, by omega⟩ d_P_drawSmall_5 (by decide) (fun hc => ?_) (fun hc => ?_)
      · obtain rfl : i = 8 := by omega
        exact ret w1 H locs 65 ls ⟨g2, fg2, fg3, fun a c h2 h3 h4 h5 => hg a c h2 h3 h4 h5, fr4⟩ hP hS d_P_drawSmall_65
      · have es : it (i + 1).toNat z0 = dz (it i.toNat z0) := by rw [show (i + 1).toNat = i.toNat + 1 by omega]; rfl
        have bdv := dv_bd (dz (it i.toNat z0))
        have bs := sml_bd z0 i
        refine lv_iload_n hx hb d_P_drawSmall_8 rfl (lv_at hl 3 rfl) ?_
        refine lv_aload_n hx hb d_P_drawSmall_9 rfl (lv_at hl 2 rfl) ?_
        refine w_calli (va_runV (As := []) (rest := [.int (iI (fac))]) ⟨hx, hb, hml, hown, hts⟩ (c_draw l D ct st ke b N w1 kd (it i.toNat z0) hkd fg3) (cwV 0 hts (gV t_90 t_91 t_92 t_2 t_93) rfl rfl rfl (by decide +kernel) ⟨Nat.le_of_ble_eq_true rfl, Nat.le_of_ble_eq_true rfl⟩) (pre_V E hP hS (kd) (by omega) fg3 rfl) rfl rfl hl.1 rfl (lv_room (Nat.le_of_ble_eq_true rfl)) d_P_drawSmall_10 ⟨(Nat.le_of_ble_eq_true rfl), (Nat.le_of_ble_eq_true rfl)⟩) hS (fun r7 z6 H locs hz hP hS => ?_)
        obtain ⟨rfl, hzd, hzf⟩ := hz
        have ff8 : z6 k = .inr (3, [.int (iI (sm)), .ref (b + (k + 1))]) := (hzf k (by omega)).trans ff5
        have ff9 : z6 (k + 1) = ir ct 32 (g2) := (hzf (k + 1) (by omega)).trans fg2
        have fr10 : ∀ j : Nat, (j ≠ k + 1) → (j ≠ kd) → z6 j = u j := fun j h0 h1 => (hzf j (by omega)).trans (fr4 j h0 h1)
        refine lv_iconst (v := iI (3)) hx hb d_P_drawSmall_13 rfl ?_
        refine x_iremP hx hb ⟨by omega, by omega⟩ ⟨by omega, by omega⟩ (by omega) (by omega) d_P_drawSmall_14 ?_
        refine lv_iconst (v := iI (1)) hx hb d_P_drawSmall_15 rfl ?_
        refine x_isub hx hb d_P_drawSmall_16 ?_
        refine x_ie (y := sml z0 i) (by unfold sml; rw [es]) ?_
        have bf : -17 ≤ fac * sml z0 i ∧ fac * sml z0 i ≤ 17 := by rcases hfac with rfl | rfl <;> omega
        refine x_imul hx hb d_P_drawSmall_17 ?_
        refine lv_istore (lv' := [(4, .int (iI ((fac) * (sml z0 i)))), (3, .int (iI (i))), (0, .ref (b + k)), (1, .ref (b + kd)), (2, .int (iI (fac)))]) hx hb d_P_drawSmall_18 hl (by decide) rfl (fun ls hl => ?_)
        refine lv_iconst (v := iI (0)) hx hb d_P_drawSmall_20 rfl ?_
        refine lv_istore (lv' := [(5, .int (iI (0))), (4, .int (iI ((fac) * (sml z0 i)))), (3, .int (iI (i))), (0, .ref (b + k)), (1, .ref (b + kd)), (2, .int (iI (fac)))]) hx hb d_P_drawSmall_21 hl (by decide) rfl (fun ls hl => ?_)
        have li : ∀ (d2 : Nat) (a : Int) (g2 : Int → Int) (w11 : Nat → va_E) (H : Heap) (locs : List Loc) (ls : Array Slot), (0 ≤ a) → (a ≤ 4) → (4 - a < d2) → (∀ r c : Int, 0 ≤ r → r ≤ 3 → 0 ≤ c → (c < i ∨ (c = i ∧ r < a)) → g2 (r * 8 + c) = (fac * sml z0 c) % mu 0 r) → w11 (k + 1) = ir ct 32 (g2) → w11 kd = .inr (0, [.int (dz (it i.toNat z0))]) → (∀ j : Nat, (j ≠ k + 1) → (j ≠ kd) → w11 j = u j) → va_P D vwCl (wl N b w11) H → va_S (AA b) s.heap H locs → lv_has ls 6 [(5, .int (iI (a))), (4, .int (iI (fac * (sml z0 i)))), (3, .int (iI (i))), (0, .ref (b + k)), (1, .ref (b + kd)), (2, .int (iI (fac)))] → W p l e rm_c_drawSmall s m args below meth c H locs 0 0 Q (F0 m 23 ls []) := by
          intro d2
          induction d2 with
          | zero => intro a g2 w11 H locs ls ha0 ha4 hd2 hg fg12 fg13 fr14 hP hS hl; exfalso; omega
          | succ d2 ihli =>
            intro a g2 w11 H locs ls ha0 ha4 hd2 hg fg12 fg13 fr14 hP hS hl
            have ff15 : w11 k = .inr (3, [.int (iI (sm)), .ref (b + (k + 1))]) := (fr14 k (by omega) (by omega)).trans f0
            refine lv_iload hx hb d_P_drawSmall_23 (lv_at hl 0 rfl) ?_
            refine lv_iconst (v := iI (4)) hx hb d_P_drawSmall_25 rfl ?_
            refine x_icmp_ge (tgt := 59) hx hb ⟨by omega, by omega⟩ ⟨by omega, by omega⟩ d_P_drawSmall_26 (by decide) (fun hc => ?_) (fun hc => ?_)
            · obtain rfl : a = 4 := by omega
              refine lv_iinc (k := 2) (v := iI (i + 1)) (lv' := [(3, .int (iI (i + 1))), (5, .int (iI (4))), (4, .int (iI (fac * (sml z0 i)))), (0, .ref (b + k)), (1, .ref (b + kd)), (2, .int (iI (fac)))]) hx hb d_P_drawSmall_59 hl rfl (iI_add _ _) (by decide) rfl (fun ls hl => ?_)
              refine lv_goto (tgt := 2) hx hb d_P_drawSmall_62 (by decide) ?_
              have hl : lv_has ls 6 [(3, .int (iI (i + 1))), (0, .ref (b + k)), (1, .ref (b + kd)), (2, .int (iI (fac)))] := lv_sub hl [0, 3, 4, 5] rfl
              exact ihlo (i + 1) g2 w11 H locs ls (by omega) (by omega) (by omega) (fun r c h2 h3 h4 h5 => hg r c h2 h3 h4 (by omega)) fg12 (by rw [es]; exact fg13) fr14 hP hS hl
            · have hlq := lq_bd a
              refine lv_aload_n hx hb d_P_drawSmall_29 rfl (lv_at hl 3 rfl) ?_
              refine w_get (C := "LevelledRing$Poly") (T := T_P) (M := 2) hx hb hts hinP hown hK hP (k) (by omega) ff15 rfl 1 (by decide) kk0 (fun _ h => h) rfl d_P_drawSmall_30 ?_
              refine lv_iload hx hb d_P_drawSmall_33 (lv_at hl 0 rfl) ?_
              refine lv_bipush (v := iI (8)) hx hb d_P_drawSmall_35 (by decide +kernel) ?_
              refine x_imul hx hb d_P_drawSmall_37 ?_
              refine lv_iload_n hx hb d_P_drawSmall_38 rfl (lv_at hl 2 rfl) ?_
              refine x_iadd hx hb d_P_drawSmall_39 ?_
              refine lv_iload hx hb d_P_drawSmall_40 (lv_at hl 1 rfl) ?_
              refine x_i2l hx hb ⟨by omega, by omega⟩ d_P_drawSmall_42 ?_
              refine va_getsN hx hb (ev_Z0 E) hS hown kk2 (fun _ h => h) d_P_drawSmall_43 ?_
              refine lv_iload hx hb d_P_drawSmall_46 (lv_at hl 0 rfl) ?_
              refine x_ti hx hb (ev_T0 E) hS (by omega) (by omega) (by decide) d_P_drawSmall_48 ?_
              refine w_calli (va_runSN (As := [.long (lI (fac * (sml z0 i))), .int (iI (lq (a)))]) (rest := [.int (iI ((a * 8) + (i))), .ref (b + (k + 1))]) ⟨hx, hb, hml, hown, hts⟩ (c_modulo l D ct st ke b N w11 (fac * (sml z0 i)) (lq (a)) ⟨by omega, by omega⟩ (by omega) (by omega)) ⟨va_cnB 2 hts (gC t_100) rfl rfl rfl kn5 kk3 (by decide +kernel) ⟨Nat.le_of_ble_eq_true rfl, Nat.le_of_ble_eq_true rfl⟩, kk4, trivial⟩ (pre_S E hP hS) rfl rfl hl.1 rfl (lv_room (Nat.le_of_ble_eq_true rfl)) d_P_drawSmall_49 ⟨(Nat.le_of_ble_eq_true rfl), (Nat.le_of_ble_eq_true rfl)⟩) hS (fun r17 z16 H locs hz hP hS => ?_)
              obtain ⟨rfl, rfl⟩ := hz
              refine w_iast hx hb hK hP hS (k + 1) (by omega) fg12 (by omega) (by omega) (by omega) d_P_drawSmall_52 (fun H locs hP hS => ?_)
              obtain ⟨u18, hu19, hP⟩ : ∃ zz : Nat → va_E, zz = va_up w11 (k + 1) (ir ct 32 (zu g2 ((a * 8) + (i)) ((fac * (sml z0 i)) % (lq (a))))) ∧ va_P D vwCl (wl N b zz) H := ⟨_, rfl, hP⟩
              have ff20 : u18 k = .inr (3, [.int (iI (sm)), .ref (b + (k + 1))]) := (congrFun hu19 _).trans ((up_n (by omega)).trans ff15)
              have ff21 : u18 (k + 1) = ir ct 32 (zu g2 ((a * 8) + (i)) ((fac * (sml z0 i)) % (lq (a)))) := (congrFun hu19 _).trans up_s
              have ff22 : u18 kd = .inr (0, [.int (dz (it i.toNat z0))]) := (congrFun hu19 _).trans ((up_n (by omega)).trans fg13)
              have fr23 : ∀ j : Nat, (j ≠ k + 1) → (j ≠ kd) → u18 j = u j := fun j h0 h1 => (congrFun hu19 j).trans ((up_n (by omega)).trans (fr14 j h0 h1))
              refine lv_iinc (k := 0) (v := iI (a + 1)) (lv' := [(5, .int (iI (a + 1))), (4, .int (iI (fac * (sml z0 i)))), (3, .int (iI (i))), (0, .ref (b + k)), (1, .ref (b + kd)), (2, .int (iI (fac)))]) hx hb d_P_drawSmall_53 hl rfl (iI_add _ _) (by decide) rfl (fun ls hl => ?_)
              refine lv_goto (tgt := 23) hx hb d_P_drawSmall_56 (by decide) ?_
              refine ihli (a + 1) _ u18 H locs ls (by omega) (by omega) (by omega) (fun r c h2 h3 h4 h5 => ?_) ff21 ff22 fr23 hP hS hl
              by_cases h6 : r * 8 + c = a * 8 + i
              · obtain ⟨rfl, rfl⟩ : r = a ∧ c = i := by omega
                rw [zu_s]
                rfl
              · rw [zu_n h6]
                exact hg r c h2 h3 h4 (by omega)
        exact li 5 0 g2 z6 H locs ls (by omega) (by omega) (by omega) (fun r c h2 h3 h4 h5 => hg r c h2 h3 h4 (by omega)) ff9 hzd fr10 hP hS hl
  exact lo 9 0 g u H locs ls (by omega) (by omega) (by omega) (fun r c h2 h3 h4 h5 => by omega) f1 fd fr0 hP hS hl
abbrev rm_c_setTurned : Room := { frames := 1, cells := 0, slots := 0, locals := 23 }
set_option maxHeartbeats 4000000 in
set_option maxRecDepth 100000 in
/-- setTurned(x, tt, top) -/
theorem c_setTurned (l : Launch) (D : va_G) (ct : Nat → ClassId) (st ke : Nat → Nat) (b N : Nat) (u : Nat → va_E) (k : Nat) (sm : Int) (n : Nat) (g : Int → Int) (hk : k + 1 < N) (hn : n < 65536) (f0 : u k = po b k sm) (f1 : u (k + 1) = ir ct n g) (top : Int) (ht0 : 0 ≤ top) (ht3 : top ≤ 3) (hn8 : 8 * (top + 1) ≤ n) (hsm : sm = 0 ∨ sm = 1) (kx nx : Nat) (gx : Int → Int) (hkx : kx + 1 < N) (hnx : nx < 65536) (hnx8 : 8 * (top + 1) ≤ nx) (hnex : kx + 1 ≠ k + 1) (fx0 : u kx = po b kx sm) (fx1 : u (kx + 1) = ir ct nx gx) (tt : Int) (htt0 : 0 ≤ tt) (htt : tt < 16) (X : Int → Int) (hX : Rep gx sm top X) : Met l y_P_setTurned (w_P_setTurned) rm_c_setTurned (va_Pc [.ref (b + k), .ref (b + kx), .int (iI (tt)), .int (iI (top))] (fun U => ev D ct st ke b U ∧ va_P D vwCl (wl N b u) U.heap)) (va_Qv (fun z : Nat → va_E => ∃ g2 : Int → Int, z (k + 1) = ir ct n g2 ∧ (Rep g2 sm top (trn X tt)) ∧ ∀ j : Nat, j ≠ k + 1 → z j = u j) (fun (z : Nat → va_E) t => va_P D vwCl (wl (N) b (z)) t.heap) (AA b)) 0 0 (AA b) := by
  refine M_v (cc := c9_P_setTurned) (maxL := 9) (by decide) rfl (Nat.le_of_ble_eq_true rfl) ?_
  intro p e s m args below meth c Q ls H locs hx hb hml hown hts hnm E hP hS hl ret
  have hl : lv_has ls 9 [(0, .ref (b + k)), (1, .ref (b + kx)), (2, .int (iI (tt))), (3, .int (iI (top)))] := hl
  have hK := ev_K E
  have kk0 := hts (.fieldLink "LevelledRing$Poly" 15 "LevelledRing$Poly" "c" "[I") (List.mem_cons_of_mem _ t_38)
  have hinP : ∀ w ∈ u_ws "LevelledRing$Poly" T_P 2, w ∈ (w_P_setTurned) := hin_P _
  have kk2 := hts (.initialized "LevelledRing") (List.mem_cons_of_mem _ t_1)
  have kk3 := hts (.static y_R_modulo) (List.mem_cons_of_mem _ t_99)
  have kn4 : va_Nw (.methodLinkNest "LevelledRing$Poly" 40 y_R_modulo "LevelledRing") s := ev_W E _ nw_3
  have fr0 : ∀ j : Nat, (j ≠ k + 1) → u j = u j := fun _ _ => rfl
  have hplx : kx ≠ k + 1 := fun h => by rw [h, f1] at fx0; exact absurd fx0 (by intro h; cases h)
  refine lv_iconst (v := iI (0)) hx hb d_P_setTurned_0 rfl ?_
  refine lv_istore (lv' := [(4, .int (iI (0))), (0, .ref (b + k)), (1, .ref (b + kx)), (2, .int (iI (tt))), (3, .int (iI (top)))]) hx hb d_P_setTurned_1 hl (by decide) rfl (fun ls hl => ?_)
  have lo : ∀ (d : Nat) (a : Int) (g2 : Int → Int) (w1 : Nat → va_E) (H : Heap) (locs : List Loc) (ls : Array Slot), (0 ≤ a) → (a ≤ top + 1) → (top + 1 - a < d) → (∀ r q : Int, 0 ≤ r → 0 ≤ q → q < 8 → r * 8 + q < a * 8 → g2 (r * 8 + (q + tt) % 16 % 8) = (if (q + tt) % 16 < 8 then X q else -X q) % mu sm r) → w1 (k + 1) = ir ct n (g2) → (∀ j : Nat, (j ≠ k + 1) → w1 j = u j) → va_P D vwCl (wl N b w1) H → va_S (AA b) s.heap H locs → lv_has ls 9 [(4, .int (iI (a))), (0, .ref (b + k)), (1, .ref (b + kx)), (2, .int (iI (tt))), (3, .int (iI (top)))] → W p l e rm_c_setTurned s m args below meth c H locs 0 0 Q (F0 m 3 ls []) := by
    intro d
    induction d with
    | zero => intro a g2 w1 H locs ls h0 h1 hd hg fg2 fr3 hP hS hl; exfalso; omega
    | succ d ihlo =>
      intro a g2 w1 H locs ls h0 h1 hd hg fg2 fr3 hP hS hl
      have ff4 : w1 k = .inr (3, [.int (iI (sm)), .ref (b + (k + 1))]) := (fr3 k (by omega)).trans f0
      have ff5 : w1 kx = .inr (3, [.int (iI (sm)), .ref (b + (kx + 1))]) := (fr3 kx (by omega)).trans fx0
      have ff6 : w1 (kx + 1) = ir ct nx (gx) := (fr3 (kx + 1) (by omega)).trans fx1
      refine lv_iload hx hb d_P_setTurned_3 (lv_at hl 0 rfl) ?_
      refine lv_iload_n hx hb d_P_setTurned_5 rfl (lv_at hl 4 rfl) ?_
      refine x_icmp_gt (tgt := 100) hx hb ⟨by omega, by omega⟩ ⟨by omega, by omega⟩ d_P_setTurned_6 (by decide) (fun hc => ?_) (fun hc => ?_)
      · refine ret w1 H locs 100 ls ⟨g2, fg2, fun r i h2 h3 h4 h5 => ?_, fr3⟩ hP hS d_P_setTurned_100
        have h6 := hg r ((i - tt) % 8) h2 (by omega) (by omega) (by omega)
        rw [show ((i - tt) % 8 + tt) % 16 % 8 = i by omega] at h6
        rw [h6]
        unfold trn tsg
        by_cases h7 : ((i - tt) % 8 + tt) % 16 < 8
        · rw [if_pos h7, if_pos (by omega), Int.one_mul]
        · rw [if_neg h7, if_neg (by omega), Int.neg_one_mul]
      · have hmu := mu_bd sm a
        refine lv_aload_n hx hb d_P_setTurned_9 rfl (lv_at hl 1 rfl) ?_
        refine lv_iload hx hb d_P_setTurned_10 (lv_at hl 0 rfl) ?_
        refine w_calli (va_runV (As := [.int (iI (a))]) (rest := []) ⟨hx, hb, hml, hown, hts⟩ (c_rowModulus l D ct st ke b N w1 k sm (a) (by omega) ff4 hsm (by omega) (by omega)) (cwV 1 hts (gV t_105 t_107 (tb_sel ((y_P_rowModulus), 2) (List.mem_of_getElem? (i := 0) (by decide +kernel))) t_3 t_108) rfl rfl rfl (by decide +kernel) ⟨Nat.le_of_ble_eq_true rfl, Nat.le_of_ble_eq_true rfl⟩) (pre_V E hP hS (k) (by omega) ff4 rfl) rfl rfl hl.1 rfl (lv_room (Nat.le_of_ble_eq_true rfl)) d_P_setTurned_12 ⟨(Nat.le_of_ble_eq_true rfl), (Nat.le_of_ble_eq_true rfl)⟩) hS (fun r8 z7 H locs hz hP hS => ?_)
        obtain ⟨rfl, rfl⟩ := hz
        refine lv_istore (lv' := [(5, .int (iI (mu sm (a)))), (4, .int (iI (a))), (0, .ref (b + k)), (1, .ref (b + kx)), (2, .int (iI (tt))), (3, .int (iI (top)))]) hx hb d_P_setTurned_15 hl (by decide) rfl (fun ls hl => ?_)
        refine lv_iconst (v := iI (0)) hx hb d_P_setTurned_17 rfl ?_
        refine lv_istore (lv' := [(6, .int (iI (0))), (5, .int (iI (mu sm (a)))), (4, .int (iI (a))), (0, .ref (b + k)), (1, .ref (b + kx)), (2, .int (iI (tt))), (3, .int (iI (top)))]) hx hb d_P_setTurned_18 hl (by decide) rfl (fun ls hl => ?_)
        have li : ∀ (d2 : Nat) (i : Int) (g2 : Int → Int) (w9 : Nat → va_E) (H : Heap) (locs : List Loc) (ls : Array Slot), (0 ≤ i) → (i ≤ 8) → (8 - i < d2) → (∀ r q : Int, 0 ≤ r → 0 ≤ q → q < 8 → r * 8 + q < a * 8 + i → g2 (r * 8 + (q + tt) % 16 % 8) = (if (q + tt) % 16 < 8 then X q else -X q) % mu sm r) → w9 (k + 1) = ir ct n (g2) → (∀ j : Nat, (j ≠ k + 1) → w9 j = u j) → va_P D vwCl (wl N b w9) H → va_S (AA b) s.heap H locs → lv_has ls 9 [(6, .int (iI (i))), (5, .int (iI (mu sm (a)))), (4, .int (iI (a))), (0, .ref (b + k)), (1, .ref (b + kx)), (2, .int (iI (tt))), (3, .int (iI (top)))] → W p l e rm_c_setTurned s m args below meth c H locs 0 0 Q (F0 m 20 ls []) := by
          intro d2
          induction d2 with
          | zero => intro i g2 w9 H locs ls hi0 hi8 hd2 hg fg10 fr11 hP hS hl; exfalso; omega
          | succ d2 ihli =>
            intro i g2 w9 H locs ls hi0 hi8 hd2 hg fg10 fr11 hP hS hl
            have ff12 : w9 k = .inr (3, [.int (iI (sm)), .ref (b + (k + 1))]) := (fr11 k (by omega)).trans f0
            have ff13 : w9 kx = .inr (3, [.int (iI (sm)), .ref (b + (kx + 1))]) := (fr11 kx (by omega)).trans fx0
            have ff14 : w9 (kx + 1) = ir ct nx (gx) := (fr11 (kx + 1) (by omega)).trans fx1
            refine lv_iload hx hb d_P_setTurned_20 (lv_at hl 0 rfl) ?_
            refine lv_bipush (v := iI (8)) hx hb d_P_setTurned_22 (by decide +kernel) ?_
            refine x_icmp_ge (tgt := 94) hx hb ⟨by omega, by omega⟩ ⟨by omega, by omega⟩ d_P_setTurned_24 (by decide) (fun hc => ?_) (fun hc => ?_)
            · refine lv_iinc (k := 2) (v := iI (a + 1)) (lv' := [(4, .int (iI (a + 1))), (6, .int (iI (i))), (5, .int (iI (mu sm (a)))), (0, .ref (b + k)), (1, .ref (b + kx)), (2, .int (iI (tt))), (3, .int (iI (top)))]) hx hb d_P_setTurned_94 hl rfl (iI_add _ _) (by decide) rfl (fun ls hl => ?_)
              refine lv_goto (tgt := 3) hx hb d_P_setTurned_97 (by decide) ?_
              have hl : lv_has ls 9 [(4, .int (iI (a + 1))), (0, .ref (b + k)), (1, .ref (b + kx)), (2, .int (iI (tt))), (3, .int (iI (top)))] := lv_sub hl [0, 3, 4, 5, 6] rfl
              exact ihlo (a + 1) g2 w9 H locs ls (by omega) (by omega) (by omega) (fun r i h2 h3 h4 h5 => hg r i h2 h3 h4 (by omega)) fg10 fr11 hP hS hl
            · have ex := hX a i h0 (by omega) (by omega) (by omega)
              have bx := hX.bd (k := a) (i := i) h0 (by omega) (by omega) (by omega)
              refine lv_iload hx hb d_P_setTurned_27 (lv_at hl 0 rfl) ?_
              refine lv_iload_n hx hb d_P_setTurned_29 rfl (lv_at hl 5 rfl) ?_
              refine x_iadd hx hb d_P_setTurned_30 ?_
              refine lv_bipush (v := iI (16)) hx hb d_P_setTurned_31 (by decide +kernel) ?_
              refine x_iremP hx hb ⟨by omega, by omega⟩ ⟨by omega, by omega⟩ (by omega) (by omega) d_P_setTurned_33 ?_
              refine lv_istore (lv' := [(7, .int (iI ((i + tt) % (16)))), (6, .int (iI (i))), (5, .int (iI (mu sm (a)))), (4, .int (iI (a))), (0, .ref (b + k)), (1, .ref (b + kx)), (2, .int (iI (tt))), (3, .int (iI (top)))]) hx hb d_P_setTurned_34 hl (by decide) rfl (fun ls hl => ?_)
              refine lv_aload_n hx hb d_P_setTurned_36 rfl (lv_at hl 5 rfl) ?_
              refine w_get (C := "LevelledRing$Poly") (T := T_P) (M := 2) hx hb hts hinP hown hK hP (kx) (by omega) ff13 rfl 1 (by decide) kk0 (fun _ h => h) rfl d_P_setTurned_37 ?_
              refine lv_iload hx hb d_P_setTurned_40 (lv_at hl 3 rfl) ?_
              refine lv_bipush (v := iI (8)) hx hb d_P_setTurned_42 (by decide +kernel) ?_
              refine x_imul hx hb d_P_setTurned_44 ?_
              refine lv_iload hx hb d_P_setTurned_45 (lv_at hl 1 rfl) ?_
              refine x_iadd hx hb d_P_setTurned_47 ?_
              refine w_iald hx hb hK hP (kx + 1) (by omega) ff14 (by omega) (by omega) (by omega) d_P_setTurned_48 ?_
              refine lv_istore (lv' := [(8, .int (iI (gx ((a * 8) + (i))))), (7, .int (iI ((i + tt) % (16)))), (6, .int (iI (i))), (5, .int (iI (mu sm (a)))), (4, .int (iI (a))), (0, .ref (b + k)), (1, .ref (b + kx)), (2, .int (iI (tt))), (3, .int (iI (top)))]) hx hb d_P_setTurned_49 hl (by decide) rfl (fun ls hl => ?_)
              refine lv_aload_n hx hb d_P_setTurned_51 rfl (lv_at hl 5 rfl) ?_
              refine w_get (C := "LevelledRing$Poly") (T := T_P) (M := 2) hx hb hts hinP hown hK hP (k) (by omega) ff12 rfl 1 (by decide) kk0 (fun _ h => h) rfl d_P_setTurned_52 ?_
              refine lv_iload hx hb d_P_setTurned_55 (lv_at hl 4 rfl) ?_
              refine lv_bipush (v := iI (8)) hx hb d_P_setTurned_57 (by decide +kernel) ?_
              refine x_imul hx hb d_P_setTurned_59 ?_
              refine lv_iload hx hb d_P_setTurned_60 (lv_at hl 1 rfl) ?_
              refine lv_bipush (v := iI (8)) hx hb d_P_setTurned_62 (by decide +kernel) ?_
              refine x_iremP hx hb ⟨by omega, by omega⟩ ⟨by omega, by omega⟩ (by omega) (by omega) d_P_setTurned_64 ?_
              refine x_iadd hx hb d_P_setTurned_65 ?_
              refine lv_iload hx hb d_P_setTurned_66 (lv_at hl 1 rfl) ?_
              refine lv_bipush (v := iI (8)) hx hb d_P_setTurned_68 (by decide +kernel) ?_
              refine x_icmp_ge (tgt := 78) hx hb ⟨by omega, by omega⟩ ⟨by omega, by omega⟩ d_P_setTurned_70 (by decide) (fun hc => ?_) (fun hc => ?_)
              · refine lv_iload hx hb d_P_setTurned_78 (lv_at hl 0 rfl) ?_
                refine x_ineg hx hb d_P_setTurned_80 ?_
                refine x_i2l hx hb ⟨by omega, by omega⟩ d_P_setTurned_81 ?_
                refine lv_iload hx hb d_P_setTurned_82 (lv_at hl 3 rfl) ?_
                refine w_calli (va_runSN (As := [.long (lI (-(gx ((a * 8) + (i))))), .int (iI (mu sm (a)))]) (rest := [.int (iI ((a * 8) + (((i + tt) % (16)) % (8)))), .ref (b + (k + 1))]) ⟨hx, hb, hml, hown, hts⟩ (c_modulo l D ct st ke b N w9 (-(gx ((a * 8) + (i)))) (mu sm (a)) ⟨by omega, by omega⟩ (by omega) (by omega)) ⟨va_cnB 2 hts (gC t_100) rfl rfl rfl kn4 kk2 (by decide +kernel) ⟨Nat.le_of_ble_eq_true rfl, Nat.le_of_ble_eq_true rfl⟩, kk3, trivial⟩ (pre_S E hP hS) rfl rfl hl.1 rfl (lv_room (Nat.le_of_ble_eq_true rfl)) d_P_setTurned_84 ⟨(Nat.le_of_ble_eq_true rfl), (Nat.le_of_ble_eq_true rfl)⟩) hS (fun r16 z15 H locs hz hP hS => ?_)
                obtain ⟨rfl, rfl⟩ := hz
                refine w_iast hx hb hK hP hS (k + 1) (by omega) fg10 (by omega) (by omega) (by omega) d_P_setTurned_87 (fun H locs hP hS => ?_)
                obtain ⟨u17, hu18, hP⟩ : ∃ zz : Nat → va_E, zz = va_up w9 (k + 1) (ir ct n (zu g2 ((a * 8) + (((i + tt) % (16)) % (8))) ((-(gx ((a * 8) + (i)))) % (mu sm (a))))) ∧ va_P D vwCl (wl N b zz) H := ⟨_, rfl, hP⟩
                have ff19 : u17 k = .inr (3, [.int (iI (sm)), .ref (b + (k + 1))]) := (congrFun hu18 _).trans ((up_n (by omega)).trans ff12)
                have ff20 : u17 kx = .inr (3, [.int (iI (sm)), .ref (b + (kx + 1))]) := (congrFun hu18 _).trans ((up_n (by omega)).trans ff13)
                have ff21 : u17 (kx + 1) = ir ct nx (gx) := (congrFun hu18 _).trans ((up_n (by omega)).trans ff14)
                have ff22 : u17 (k + 1) = ir ct n (zu g2 ((a * 8) + (((i + tt) % (16)) % (8))) ((-(gx ((a * 8) + (i)))) % (mu sm (a)))) := (congrFun hu18 _).trans up_s
                have fr23 : ∀ j : Nat, (j ≠ k + 1) → u17 j = u j := fun j h0 => (congrFun hu18 j).trans ((up_n (by omega)).trans (fr11 j h0))
                refine lv_iinc (k := 2) (v := iI (i + 1)) (lv' := [(6, .int (iI (i + 1))), (8, .int (iI (gx ((a * 8) + (i))))), (7, .int (iI ((i + tt) % (16)))), (5, .int (iI (mu sm (a)))), (4, .int (iI (a))), (0, .ref (b + k)), (1, .ref (b + kx)), (2, .int (iI (tt))), (3, .int (iI (top)))]) hx hb d_P_setTurned_88 hl rfl (iI_add _ _) (by decide) rfl (fun ls hl => ?_)
                refine lv_goto (tgt := 20) hx hb d_P_setTurned_91 (by decide) ?_
                have hl : lv_has ls 9 [(6, .int (iI (i + 1))), (5, .int (iI (mu sm (a)))), (4, .int (iI (a))), (0, .ref (b + k)), (1, .ref (b + kx)), (2, .int (iI (tt))), (3, .int (iI (top)))] := lv_sub hl [0, 3, 4, 5, 6, 7, 8] rfl
                refine ihli (i + 1) _ u17 H locs ls (by omega) (by omega) (by omega) (fun r i2 h2 h3 h4 h5 => ?_) ff22 fr23 hP hS hl
                by_cases h6 : r * 8 + (i2 + tt) % 16 % 8 = a * 8 + (i + tt) % 16 % 8
                · obtain ⟨rfl, rfl⟩ : r = a ∧ i2 = i := by omega
                  rw [zu_s, ex, if_neg (by omega)]
                  exact cg_neg cg_mod
                · rw [zu_n h6]
                  exact hg r i2 h2 h3 h4 (by omega)
              · refine lv_iload hx hb d_P_setTurned_73 (lv_at hl 0 rfl) ?_
                refine lv_goto (tgt := 87) hx hb d_P_setTurned_75 (by decide) ?_
                refine w_iast hx hb hK hP hS (k + 1) (by omega) fg10 (by omega) (by omega) (by omega) d_P_setTurned_87 (fun H locs hP hS => ?_)
                obtain ⟨u24, hu25, hP⟩ : ∃ zz : Nat → va_E, zz = va_up w9 (k + 1) (ir ct n (zu g2 ((a * 8) + (((i + tt) % (16)) % (8))) (gx ((a * 8) + (i))))) ∧ va_P D vwCl (wl N b zz) H := ⟨_, rfl, hP⟩
                have ff26 : u24 k = .inr (3, [.int (iI (sm)), .ref (b + (k + 1))]) := (congrFun hu25 _).trans ((up_n (by omega)).trans ff12)
                have ff27 : u24 kx = .inr (3, [.int (iI (sm)), .ref (b + (kx + 1))]) := (congrFun hu25 _).trans ((up_n (by omega)).trans ff13)
                have ff28 : u24 (kx + 1) = ir ct nx (gx) := (congrFun hu25 _).trans ((up_n (by omega)).trans ff14)
                have ff29 : u24 (k + 1) = ir ct n (zu g2 ((a * 8) + (((i + tt) % (16)) % (8))) (gx ((a * 8) + (i)))) := (congrFun hu25 _).trans up_s
                have fr30 : ∀ j : Nat, (j ≠ k + 1) → u24 j = u j := fun j h0 => (congrFun hu25 j).trans ((up_n (by omega)).trans (fr11 j h0))
                refine lv_iinc (k := 2) (v := iI (i + 1)) (lv' := [(6, .int (iI (i + 1))), (8, .int (iI (gx ((a * 8) + (i))))), (7, .int (iI ((i + tt) % (16)))), (5, .int (iI (mu sm (a)))), (4, .int (iI (a))), (0, .ref (b + k)), (1, .ref (b + kx)), (2, .int (iI (tt))), (3, .int (iI (top)))]) hx hb d_P_setTurned_88 hl rfl (iI_add _ _) (by decide) rfl (fun ls hl => ?_)
                refine lv_goto (tgt := 20) hx hb d_P_setTurned_91 (by decide) ?_
                have hl : lv_has ls 9 [(6, .int (iI (i + 1))), (5, .int (iI (mu sm (a)))), (4, .int (iI (a))), (0, .ref (b + k)), (1, .ref (b + kx)), (2, .int (iI (tt))), (3, .int (iI (top)))] := lv_sub hl [0, 3, 4, 5, 6, 7, 8] rfl
                refine ihli (i + 1) _ u24 H locs ls (by omega) (by omega) (by omega) (fun r i2 h2 h3 h4 h5 => ?_) ff29 fr30 hP hS hl
                by_cases h6 : r * 8 + (i2 + tt) % 16 % 8 = a * 8 + (i + tt) % 16 % 8
                · obtain ⟨rfl, rfl⟩ : r = a ∧ i2 = i := by omega
                  rw [zu_s, ex, if_pos hc]
                · rw [zu_n h6]
                  exact hg r i2 h2 h3 h4 (by omega)
        exact li 9 0 g2 w1 H locs ls (by omega) (by omega) (by omega) (fun r i h2 h3 h4 h5 => hg r i h2 h3 h4 (by omega)) fg2 fr3 hP hS hl
  exact lo (top + 2).toNat 0 g u H locs ls (by omega) (by omega) (by omega) (fun r i h2 h3 h4 h5 => by omega) f1 fr0 hP hS hl
abbrev rm_c_lowerFrom : Room := { frames := 1, cells := 0, slots := 0, locals := 23 }
set_option maxHeartbeats 4000000 in
set_option maxRecDepth 100000 in
/-- lowerFrom(top) -/
theorem c_lowerFrom (l : Launch) (D : va_G) (ct : Nat → ClassId) (st ke : Nat → Nat) (b N : Nat) (u : Nat → va_E) (k : Nat) (g : Int → Int) (hk : k + 1 < N) (f0 : u k = po b k 0) (f1 : u (k + 1) = ir ct 32 g) (top : Int) (ht0 : 1 ≤ top) (ht3 : top ≤ 3) (C : Int → Int) (hC : Rep g 0 top C) : Met l y_P_lowerFrom (w_P_lowerFrom) rm_c_lowerFrom (va_Pc [.ref (b + k), .int (iI (top))] (fun U => ev D ct st ke b U ∧ va_P D vwCl (wl N b u) U.heap)) (va_Qv (fun z : Nat → va_E => ∃ g2 : Int → Int, z (k + 1) = ir ct 32 g2 ∧ (Rep g2 0 (top - 1) (fun i => low top (C i))) ∧ ∀ j : Nat, j ≠ k + 1 → z j = u j) (fun (z : Nat → va_E) t => va_P D vwCl (wl (N) b (z)) t.heap) (AA b)) 0 0 (AA b) := by
  refine M_v (cc := c9_P_lowerFrom) (maxL := 10) (by decide) rfl (Nat.le_of_ble_eq_true rfl) ?_
  intro p e s m args below meth c Q ls H locs hx hb hml hown hts hnm E hP hS hl ret
  have hl : lv_has ls 10 [(0, .ref (b + k)), (1, .int (iI (top)))] := hl
  have hK := ev_K E
  have kk0 : ((.fieldLinkNest "LevelledRing$Poly" 19 "LevelledRing" "PRIMES" "[I" "LevelledRing") : Cond).before args s = true := va_Nw.use rfl (ev_W E _ nw_2)
  have kk1 := hts (.fieldLink "LevelledRing$Poly" 15 "LevelledRing$Poly" "c" "[I") (List.mem_cons_of_mem _ t_38)
  have hinP : ∀ w ∈ u_ws "LevelledRing$Poly" T_P 2, w ∈ (w_P_lowerFrom) := hin_P _
  have kk3 := hts (.initialized "LevelledRing") (List.mem_cons_of_mem _ t_1)
  have kk4 := hts (.static y_R_centred) (List.mem_cons_of_mem _ t_341)
  have kn5 : va_Nw (.methodLinkNest "LevelledRing$Poly" 52 y_R_centred "LevelledRing") s := ev_W E _ nw_7
  have kk6 := hts (.static y_R_modulo) (List.mem_cons_of_mem _ t_99)
  have kn7 : va_Nw (.methodLinkNest "LevelledRing$Poly" 40 y_R_modulo "LevelledRing") s := ev_W E _ nw_3
  have kk8 := hts (.constantLong "LevelledRing$Poly" 56 17) (List.mem_cons_of_mem _ t_344)
  have kk9 : ((.fieldLinkNest "LevelledRing$Poly" 58 "LevelledRing" "PRIME_INVERSES" "[I" "LevelledRing") : Cond).before args s = true := va_Nw.use rfl (ev_W E _ nw_8)
  have fr0 : ∀ j : Nat, (j ≠ k + 1) → u j = u j := fun _ _ => rfl
  have hlt := lq_bd top
  refine va_getsN hx hb (ev_Z0 E) hS hown kk0 (fun _ h => h) d_P_lowerFrom_0 ?_
  refine lv_iload_n hx hb d_P_lowerFrom_3 rfl (lv_at hl 1 rfl) ?_
  refine x_ti hx hb (ev_T0 E) hS (by omega) (by omega) (by decide) d_P_lowerFrom_4 ?_
  refine lv_istore_n (lv' := [(2, .int (iI (lq (top)))), (0, .ref (b + k)), (1, .int (iI (top)))]) hx hb d_P_lowerFrom_5 rfl hl (by decide) rfl (fun ls hl => ?_)
  refine lv_iconst (v := iI (0)) hx hb d_P_lowerFrom_6 rfl ?_
  refine lv_istore_n (lv' := [(3, .int (iI (0))), (2, .int (iI (lq (top)))), (0, .ref (b + k)), (1, .int (iI (top)))]) hx hb d_P_lowerFrom_7 rfl hl (by decide) rfl (fun ls hl => ?_)
  have lo : ∀ (d : Nat) (i : Int) (g2 : Int → Int) (w1 : Nat → va_E) (H : Heap) (locs : List Loc) (ls : Array Slot), (0 ≤ i) → (i ≤ 8) → (8 - i < d) → (∀ r c : Int, 0 ≤ r → r < top → 0 ≤ c → c < i → g2 (r * 8 + c) = low top (C c) % lq r) → (∀ r c : Int, 0 ≤ r → r ≤ top → 0 ≤ c → c < 8 → (i ≤ c ∨ r = top) → g2 (r * 8 + c) = C c % lq r) → w1 (k + 1) = ir ct 32 (g2) → (∀ j : Nat, (j ≠ k + 1) → w1 j = u j) → va_P D vwCl (wl N b w1) H → va_S (AA b) s.heap H locs → lv_has ls 10 [(3, .int (iI (i))), (2, .int (iI (lq (top)))), (0, .ref (b + k)), (1, .int (iI (top)))] → W p l e rm_c_lowerFrom s m args below meth c H locs 0 0 Q (F0 m 8 ls []) := by
    intro d
    induction d with
    | zero => intro i g2 w1 H locs ls h0 h1 hd hg hu0 fg2 fr3 hP hS hl; exfalso; omega
    | succ d ihlo =>
      intro i g2 w1 H locs ls h0 h1 hd hg hu0 fg2 fr3 hP hS hl
      have ff4 : w1 k = .inr (3, [.int (iI (0)), .ref (b + (k + 1))]) := (fr3 k (by omega)).trans f0
      refine lv_iload_n hx hb d_P_lowerFrom_8 rfl (lv_at hl 0 rfl) ?_
      refine lv_bipush (v := iI (8)) hx hb d_P_lowerFrom_9 (by decide +kernel) ?_
      refine x_icmp_ge (tgt := 134) hx hb ⟨by omega, by omega⟩ ⟨by omega, by omega⟩ d_P_lowerFrom_11 (by decide) (fun hc => ?_) (fun hc => ?_)
      · exact ret w1 H locs 134 ls ⟨g2, fg2, fun r c h2 h3 h4 h5 => hg r c h2 (by omega) h4 (by omega), fr3⟩ hP hS d_P_lowerFrom_134
      · have ed := hu0 top i (by omega) (by omega) h0 (by omega) (Or.inr rfl)
        have bd0 := Int.emod_nonneg (C i) (show lq top ≠ 0 by omega)
        have bd1 := Int.emod_lt_of_pos (C i) (show 0 < lq top by omega)
        refine lv_aload_n hx hb d_P_lowerFrom_14 rfl (lv_at hl 2 rfl) ?_
        refine w_get (C := "LevelledRing$Poly") (T := T_P) (M := 2) hx hb hts hinP hown hK hP (k) (by omega) ff4 rfl 1 (by decide) kk1 (fun _ h => h) rfl d_P_lowerFrom_15 ?_
        refine lv_iload_n hx hb d_P_lowerFrom_18 rfl (lv_at hl 3 rfl) ?_
        refine lv_bipush (v := iI (8)) hx hb d_P_lowerFrom_19 (by decide +kernel) ?_
        refine x_imul hx hb d_P_lowerFrom_21 ?_
        refine lv_iload_n hx hb d_P_lowerFrom_22 rfl (lv_at hl 0 rfl) ?_
        refine x_iadd hx hb d_P_lowerFrom_23 ?_
        refine w_iald hx hb hK hP (k + 1) (by omega) fg2 (by omega) (by omega) (by omega) d_P_lowerFrom_24 ?_
        refine x_ie (y := C i % lq top) (ed) ?_
        refine x_i2l hx hb ⟨by omega, by omega⟩ d_P_lowerFrom_25 ?_
        refine lv_iload_n hx hb d_P_lowerFrom_26 rfl (lv_at hl 1 rfl) ?_
        refine x_i2l hx hb ⟨by omega, by omega⟩ d_P_lowerFrom_27 ?_
        refine w_calll (va_runSN (As := [.long (lI (C i % lq top)), .long (lI (lq (top)))]) (rest := []) ⟨hx, hb, hml, hown, hts⟩ (c_centred l D ct st ke b N w1 (C i % lq top) (lq (top)) (by omega) (by omega) (by omega) (by omega)) ⟨va_cnB 2 hts (gC t_342) rfl rfl rfl kn5 kk3 (by decide +kernel) ⟨Nat.le_of_ble_eq_true rfl, Nat.le_of_ble_eq_true rfl⟩, kk4, trivial⟩ (pre_S E hP hS) rfl rfl hl.1 rfl (lv_room (Nat.le_of_ble_eq_true rfl)) d_P_lowerFrom_28 ⟨(Nat.le_of_ble_eq_true rfl), (Nat.le_of_ble_eq_true rfl)⟩) hS (fun r6 z5 H locs hz hP hS => ?_)
        obtain ⟨rfl, rfl⟩ := hz
        have bdc := cen_bq (x := C i % lq top) (m := lq (top)) bd0 bd1 (by omega)
        refine x_l2i hx hb d_P_lowerFrom_31 ?_
        refine lv_istore (lv' := [(4, .int (iI (cen (C i % lq top) (lq (top))))), (3, .int (iI (i))), (2, .int (iI (lq (top)))), (0, .ref (b + k)), (1, .int (iI (top)))]) hx hb d_P_lowerFrom_32 hl (by decide) rfl (fun ls hl => ?_)
        refine lv_iload hx hb d_P_lowerFrom_34 (lv_at hl 0 rfl) ?_
        refine x_ineg hx hb d_P_lowerFrom_36 ?_
        refine x_i2l hx hb ⟨by omega, by omega⟩ d_P_lowerFrom_37 ?_
        refine lv_bipush (v := iI (17)) hx hb d_P_lowerFrom_38 (by decide +kernel) ?_
        refine w_calli (va_runSN (As := [.long (lI (-(cen (C i % lq top) (lq (top))))), .int (iI (17))]) (rest := []) ⟨hx, hb, hml, hown, hts⟩ (c_modulo l D ct st ke b N w1 (-(cen (C i % lq top) (lq (top)))) (17) ⟨by omega, by omega⟩ (by decide) (by decide)) ⟨va_cnB 2 hts (gC t_100) rfl rfl rfl kn7 kk3 (by decide +kernel) ⟨Nat.le_of_ble_eq_true rfl, Nat.le_of_ble_eq_true rfl⟩, kk6, trivial⟩ (pre_S E hP hS) rfl rfl hl.1 rfl (lv_room (Nat.le_of_ble_eq_true rfl)) d_P_lowerFrom_40 ⟨(Nat.le_of_ble_eq_true rfl), (Nat.le_of_ble_eq_true rfl)⟩) hS (fun r8 z7 H locs hz hP hS => ?_)
        obtain ⟨rfl, rfl⟩ := hz
        have bk0 := Int.emod_nonneg (-(cen (C i % lq top) (lq (top)))) (show (17 : Int) ≠ 0 by decide)
        have bk1 := Int.emod_lt_of_pos (-(cen (C i % lq top) (lq (top)))) (show (0 : Int) < 17 by decide)
        refine x_i2l hx hb ⟨by omega, by omega⟩ d_P_lowerFrom_43 ?_
        refine lv_ldc2 hx hb hown kk8 d_P_lowerFrom_44 ?_
        refine x_l (y := lI (17)) (by decide +kernel) ?_
        refine w_calll (va_runSN (As := [.long (lI ((-(cen (C i % lq top) (lq (top)))) % (17))), .long (lI (17))]) (rest := []) ⟨hx, hb, hml, hown, hts⟩ (c_centred l D ct st ke b N w1 ((-(cen (C i % lq top) (lq (top)))) % (17)) (17) (by omega) (by omega) (by decide) (by decide)) ⟨va_cnB 2 hts (gC t_342) rfl rfl rfl kn5 kk3 (by decide +kernel) ⟨Nat.le_of_ble_eq_true rfl, Nat.le_of_ble_eq_true rfl⟩, kk4, trivial⟩ (pre_S E hP hS) rfl rfl hl.1 rfl (lv_room (Nat.le_of_ble_eq_true rfl)) d_P_lowerFrom_47 ⟨(Nat.le_of_ble_eq_true rfl), (Nat.le_of_ble_eq_true rfl)⟩) hS (fun r10 z9 H locs hz hP hS => ?_)
        obtain ⟨rfl, rfl⟩ := hz
        refine x_le (y := lk (cen (C i % lq top) (lq (top)))) (rfl) ?_
        have bkk := lk_bd (cen (C i % lq top) (lq (top)))
        refine x_l2i hx hb d_P_lowerFrom_50 ?_
        refine lv_istore (lv' := [(5, .int (iI (lk (cen (C i % lq top) (lq (top)))))), (4, .int (iI (cen (C i % lq top) (lq (top))))), (3, .int (iI (i))), (2, .int (iI (lq (top)))), (0, .ref (b + k)), (1, .int (iI (top)))]) hx hb d_P_lowerFrom_51 hl (by decide) rfl (fun ls hl => ?_)
        refine lv_iload hx hb d_P_lowerFrom_53 (lv_at hl 1 rfl) ?_
        refine x_i2l hx hb ⟨by omega, by omega⟩ d_P_lowerFrom_55 ?_
        refine lv_iload hx hb d_P_lowerFrom_56 (lv_at hl 0 rfl) ?_
        refine x_i2l hx hb ⟨by omega, by omega⟩ d_P_lowerFrom_58 ?_
        refine lv_iload_n hx hb d_P_lowerFrom_59 rfl (lv_at hl 3 rfl) ?_
        refine x_i2l hx hb ⟨by omega, by omega⟩ d_P_lowerFrom_60 ?_
        refine x_lmul hx hb d_P_lowerFrom_61 ?_
        refine x_ladd hx hb d_P_lowerFrom_62 ?_
        refine x_le (y := lex top (C i)) (rfl) ?_
        have ble : -300000 ≤ lex top (C i) ∧ lex top (C i) ≤ 300000 := lex_bd top (C i)
        refine lv_lstore (lv' := [(6, .long (lI (lex top (C i)))), (5, .int (iI (lk (cen (C i % lq top) (lq (top)))))), (4, .int (iI (cen (C i % lq top) (lq (top))))), (3, .int (iI (i))), (2, .int (iI (lq (top)))), (0, .ref (b + k)), (1, .int (iI (top)))]) hx hb d_P_lowerFrom_63 hl (by decide) rfl (fun ls hl => ?_)
        refine lv_iconst (v := iI (0)) hx hb d_P_lowerFrom_65 rfl ?_
        refine lv_istore (lv' := [(8, .int (iI (0))), (6, .long (lI (lex top (C i)))), (5, .int (iI (lk (cen (C i % lq top) (lq (top)))))), (4, .int (iI (cen (C i % lq top) (lq (top))))), (3, .int (iI (i))), (2, .int (iI (lq (top)))), (0, .ref (b + k)), (1, .int (iI (top)))]) hx hb d_P_lowerFrom_66 hl (by decide) rfl (fun ls hl => ?_)
        have li : ∀ (d2 : Nat) (a : Int) (g2 : Int → Int) (w11 : Nat → va_E) (H : Heap) (locs : List Loc) (ls : Array Slot), (0 ≤ a) → (a ≤ top) → (top - a < d2) → (∀ r c : Int, 0 ≤ r → r < top → 0 ≤ c → (c < i ∨ (c = i ∧ r < a)) → g2 (r * 8 + c) = low top (C c) % lq r) → (∀ r c : Int, 0 ≤ r → r ≤ top → 0 ≤ c → c < 8 → (i < c ∨ (c = i ∧ a ≤ r) ∨ r = top) → g2 (r * 8 + c) = C c % lq r) → w11 (k + 1) = ir ct 32 (g2) → (∀ j : Nat, (j ≠ k + 1) → w11 j = u j) → va_P D vwCl (wl N b w11) H → va_S (AA b) s.heap H locs → lv_has ls 10 [(8, .int (iI (a))), (6, .long (lI (lex top (C i)))), (5, .int (iI (lk (cen (C i % lq top) (lq (top)))))), (4, .int (iI (cen (C i % lq top) (lq (top))))), (3, .int (iI (i))), (2, .int (iI (lq (top)))), (0, .ref (b + k)), (1, .int (iI (top)))] → W p l e rm_c_lowerFrom s m args below meth c H locs 0 0 Q (F0 m 68 ls []) := by
          intro d2
          induction d2 with
          | zero => intro a g2 w11 H locs ls ha0 hat hd2 hg hu0 fg12 fr13 hP hS hl; exfalso; omega
          | succ d2 ihli =>
            intro a g2 w11 H locs ls ha0 hat hd2 hg hu0 fg12 fr13 hP hS hl
            have ff14 : w11 k = .inr (3, [.int (iI (0)), .ref (b + (k + 1))]) := (fr13 k (by omega)).trans f0
            refine lv_iload hx hb d_P_lowerFrom_68 (lv_at hl 0 rfl) ?_
            refine lv_iload_n hx hb d_P_lowerFrom_70 rfl (lv_at hl 7 rfl) ?_
            refine x_icmp_ge (tgt := 128) hx hb ⟨by omega, by omega⟩ ⟨by omega, by omega⟩ d_P_lowerFrom_71 (by decide) (fun hc => ?_) (fun hc => ?_)
            · refine lv_iinc (k := 4) (v := iI (i + 1)) (lv' := [(3, .int (iI (i + 1))), (8, .int (iI (a))), (6, .long (lI (lex top (C i)))), (5, .int (iI (lk (cen (C i % lq top) (lq (top)))))), (4, .int (iI (cen (C i % lq top) (lq (top))))), (2, .int (iI (lq (top)))), (0, .ref (b + k)), (1, .int (iI (top)))]) hx hb d_P_lowerFrom_128 hl rfl (iI_add _ _) (by decide) rfl (fun ls hl => ?_)
              refine lv_goto (tgt := 8) hx hb d_P_lowerFrom_131 (by decide) ?_
              have hl : lv_has ls 10 [(3, .int (iI (i + 1))), (2, .int (iI (lq (top)))), (0, .ref (b + k)), (1, .int (iI (top)))] := lv_sub hl [0, 5, 6, 7] rfl
              exact ihlo (i + 1) g2 w11 H locs ls (by omega) (by omega) (by omega) (fun r c h2 h3 h4 h5 => hg r c h2 h3 h4 (by omega)) (fun r c h2 h3 h4 h5 h6 => hu0 r c h2 h3 h4 h5 (by omega)) fg12 fr13 hP hS hl
            · have ea := hu0 a i ha0 (by omega) h0 (by omega) (by omega)
              have hla := lq_bd a
              have ba0 := Int.emod_nonneg (C i) (show lq a ≠ 0 by omega)
              have ba1 := Int.emod_lt_of_pos (C i) (show 0 < lq a by omega)
              have epv := pinv_pin (l := top) (k := a) ha0 (by omega) ht3
              have bpv : 0 ≤ pin top a ∧ pin top a ≤ 32369 := pin_bd top a
              refine lv_iload hx hb d_P_lowerFrom_74 (lv_at hl 0 rfl) ?_
              refine lv_bipush (v := iI (8)) hx hb d_P_lowerFrom_76 (by decide +kernel) ?_
              refine x_imul hx hb d_P_lowerFrom_78 ?_
              refine lv_iload_n hx hb d_P_lowerFrom_79 rfl (lv_at hl 4 rfl) ?_
              refine x_iadd hx hb d_P_lowerFrom_80 ?_
              refine lv_istore (lv' := [(9, .int (iI ((a * 8) + (i)))), (8, .int (iI (a))), (6, .long (lI (lex top (C i)))), (5, .int (iI (lk (cen (C i % lq top) (lq (top)))))), (4, .int (iI (cen (C i % lq top) (lq (top))))), (3, .int (iI (i))), (2, .int (iI (lq (top)))), (0, .ref (b + k)), (1, .int (iI (top)))]) hx hb d_P_lowerFrom_81 hl (by decide) rfl (fun ls hl => ?_)
              refine lv_aload_n hx hb d_P_lowerFrom_83 rfl (lv_at hl 7 rfl) ?_
              refine w_get (C := "LevelledRing$Poly") (T := T_P) (M := 2) hx hb hts hinP hown hK hP (k) (by omega) ff14 rfl 1 (by decide) kk1 (fun _ h => h) rfl d_P_lowerFrom_84 ?_
              refine lv_iload hx hb d_P_lowerFrom_87 (lv_at hl 0 rfl) ?_
              refine lv_aload_n hx hb d_P_lowerFrom_89 rfl (lv_at hl 7 rfl) ?_
              refine w_get (C := "LevelledRing$Poly") (T := T_P) (M := 2) hx hb hts hinP hown hK hP (k) (by omega) ff14 rfl 1 (by decide) kk1 (fun _ h => h) rfl d_P_lowerFrom_90 ?_
              refine lv_iload hx hb d_P_lowerFrom_93 (lv_at hl 0 rfl) ?_
              refine w_iald hx hb hK hP (k + 1) (by omega) fg12 (by omega) (by omega) (by omega) d_P_lowerFrom_95 ?_
              refine x_ie (y := C i % lq a) (ea) ?_
              refine x_i2l hx hb ⟨by omega, by omega⟩ d_P_lowerFrom_96 ?_
              refine lv_lload hx hb d_P_lowerFrom_97 (lv_at hl 2 rfl) ?_
              refine x_lsub hx hb d_P_lowerFrom_99 ?_
              refine va_getsN hx hb (ev_Z3 E) hS hown kk9 (fun _ h => h) d_P_lowerFrom_100 ?_
              refine lv_iload_n hx hb d_P_lowerFrom_103 rfl (lv_at hl 8 rfl) ?_
              refine lv_iconst (v := iI (4)) hx hb d_P_lowerFrom_104 rfl ?_
              refine x_imul hx hb d_P_lowerFrom_105 ?_
              refine lv_iload hx hb d_P_lowerFrom_106 (lv_at hl 1 rfl) ?_
              refine x_iadd hx hb d_P_lowerFrom_108 ?_
              refine x_ti hx hb (ev_T3 E) hS (by omega) (by omega) (by decide) d_P_lowerFrom_109 ?_
              refine x_ie (y := pin top a) (epv) ?_
              refine x_i2l hx hb ⟨by omega, by omega⟩ d_P_lowerFrom_110 ?_
              refine x_lmul hx hb d_P_lowerFrom_111 ?_
              refine va_getsN hx hb (ev_Z0 E) hS hown kk0 (fun _ h => h) d_P_lowerFrom_112 ?_
              refine lv_iload hx hb d_P_lowerFrom_115 (lv_at hl 1 rfl) ?_
              refine x_ti hx hb (ev_T0 E) hS (by omega) (by omega) (by decide) d_P_lowerFrom_117 ?_
              have bmm : -100000000000 ≤ (C i % lq a - lex top (C i)) * pin top a ∧ (C i % lq a - lex top (C i)) * pin top a ≤ 100000000000 := mul_bw (by omega) (by omega) bpv.1 bpv.2
              refine w_calli (va_runSN (As := [.long (lI (((C i % lq a) - (lex top (C i))) * (pin top a))), .int (iI (lq (a)))]) (rest := [.int (iI ((a * 8) + (i))), .ref (b + (k + 1))]) ⟨hx, hb, hml, hown, hts⟩ (c_modulo l D ct st ke b N w11 (((C i % lq a) - (lex top (C i))) * (pin top a)) (lq (a)) ⟨by omega, by omega⟩ (by omega) (by omega)) ⟨va_cnB 2 hts (gC t_100) rfl rfl rfl kn7 kk3 (by decide +kernel) ⟨Nat.le_of_ble_eq_true rfl, Nat.le_of_ble_eq_true rfl⟩, kk6, trivial⟩ (pre_S E hP hS) rfl rfl hl.1 rfl (lv_room (Nat.le_of_ble_eq_true rfl)) d_P_lowerFrom_118 ⟨(Nat.le_of_ble_eq_true rfl), (Nat.le_of_ble_eq_true rfl)⟩) hS (fun r16 z15 H locs hz hP hS => ?_)
              obtain ⟨rfl, rfl⟩ := hz
              refine w_iast hx hb hK hP hS (k + 1) (by omega) fg12 (by omega) (by omega) (by omega) d_P_lowerFrom_121 (fun H locs hP hS => ?_)
              obtain ⟨u17, hu18, hP⟩ : ∃ zz : Nat → va_E, zz = va_up w11 (k + 1) (ir ct 32 (zu g2 ((a * 8) + (i)) ((((C i % lq a) - (lex top (C i))) * (pin top a)) % (lq (a))))) ∧ va_P D vwCl (wl N b zz) H := ⟨_, rfl, hP⟩
              have ff19 : u17 k = .inr (3, [.int (iI (0)), .ref (b + (k + 1))]) := (congrFun hu18 _).trans ((up_n (by omega)).trans ff14)
              have ff20 : u17 (k + 1) = ir ct 32 (zu g2 ((a * 8) + (i)) ((((C i % lq a) - (lex top (C i))) * (pin top a)) % (lq (a)))) := (congrFun hu18 _).trans up_s
              have fr21 : ∀ j : Nat, (j ≠ k + 1) → u17 j = u j := fun j h0 => (congrFun hu18 j).trans ((up_n (by omega)).trans (fr13 j h0))
              refine lv_iinc (k := 1) (v := iI (a + 1)) (lv' := [(8, .int (iI (a + 1))), (9, .int (iI ((a * 8) + (i)))), (6, .long (lI (lex top (C i)))), (5, .int (iI (lk (cen (C i % lq top) (lq (top)))))), (4, .int (iI (cen (C i % lq top) (lq (top))))), (3, .int (iI (i))), (2, .int (iI (lq (top)))), (0, .ref (b + k)), (1, .int (iI (top)))]) hx hb d_P_lowerFrom_122 hl rfl (iI_add _ _) (by decide) rfl (fun ls hl => ?_)
              refine lv_goto (tgt := 68) hx hb d_P_lowerFrom_125 (by decide) ?_
              have hl : lv_has ls 10 [(8, .int (iI (a + 1))), (6, .long (lI (lex top (C i)))), (5, .int (iI (lk (cen (C i % lq top) (lq (top)))))), (4, .int (iI (cen (C i % lq top) (lq (top))))), (3, .int (iI (i))), (2, .int (iI (lq (top)))), (0, .ref (b + k)), (1, .int (iI (top)))] := lv_sub hl [0, 2, 3, 4, 5, 6, 7, 8] rfl
              refine ihli (a + 1) _ u17 H locs ls (by omega) (by omega) (by omega) (fun r c h2 h3 h4 h5 => ?_) (fun r c h2 h3 h4 h5 h6 => by rw [zu_n (by omega)]; exact hu0 r c h2 h3 h4 h5 (by omega)) ff20 fr21 hP hS hl
              by_cases h6 : r * 8 + c = a * 8 + i
              · obtain ⟨rfl, rfl⟩ : r = a ∧ c = i := by omega
                rw [zu_s]
                exact low_row h2 h3 ht3
              · rw [zu_n h6]
                exact hg r c h2 h3 h4 (by omega)
        exact li (top + 1).toNat 0 g2 w1 H locs ls (by omega) (by omega) (by omega) (fun r c h2 h3 h4 h5 => hg r c h2 h3 h4 (by omega)) (fun r c h2 h3 h4 h5 h6 => hu0 r c h2 h3 h4 h5 (by omega)) fg2 fr3 hP hS hl
  exact lo 9 0 g u H locs ls (by omega) (by omega) (by omega) (fun r c h2 h3 h4 h5 => by omega) (fun r c h2 h3 h4 h5 h6 => hC r c h2 h3 h4 h5) f1 fr0 hP hS hl
abbrev rm_c_P_init : Room := { frames := 1, cells := 1, slots := 32, locals := 12 }
set_option maxHeartbeats 4000000 in
set_option maxRecDepth 100000 in
/-- Poly(sm) -/
theorem c_P_init (l : Launch) (D : va_G) (ct : Nat → ClassId) (st ke : Nat → Nat) (b : Nat) (u : Nat → va_E) (k n : Nat) (sm : Int) (hn : (sm = 1 ∧ n = 8) ∨ (sm = 0 ∧ n = 32)) (f0 : u k = .inr (3, [.int (iI (0)), .null])) : Met l y_P_init (w_P_init) rm_c_P_init (va_Pc [.ref (b + k), .int (iI (sm))] (fun U => ev D ct st ke b U ∧ U.heap.size = b + (k + 1) ∧ va_P D vwCl (wl (k + 1) b u) U.heap)) (va_Qv (fun z : Nat → va_E => z k = po b k sm ∧ z (k + 1) = ir ct n (fun _ => 0) ∧ ∀ j : Nat, j ≠ k → j ≠ k + 1 → z j = u j) (fun (z : Nat → va_E) t => va_P D vwCl (wl (k + 1 + 1) b (z)) t.heap) (AA b)) 1 32 (AA b) := by
  refine M_c (cc := c9_P_init) (maxL := 2) (by decide) rfl (Nat.le_of_ble_eq_true rfl) ?_
  intro p e s m args below meth c Q ls H locs hx hb hml hown hts hnm E hsz hP hS hl ret
  have hl : lv_has ls 2 [(0, .ref (b + k)), (1, .int (iI (sm)))] := hl
  have hK := ev_K E
  have kk0 := hts (.methodLink "LevelledRing$Poly" 3 objectInit) (List.mem_cons_of_mem _ t_36)
  have kk1 := hts (.instanceMethod objectInit) (List.mem_cons_of_mem _ t_19)
  have kk2 := hts (.code objectInit ⟨#[0xb1]⟩ 1 none) (List.mem_cons_of_mem _ t_20)
  have kk3 := hts (.fieldLink "LevelledRing$Poly" 9 "LevelledRing$Poly" "small" "Z") (List.mem_cons_of_mem _ t_37)
  have hinP : ∀ w ∈ u_ws "LevelledRing$Poly" T_P 2, w ∈ (w_P_init) := hin_P _
  have kk5 := hts (.arrayClass .int) (List.mem_cons_of_mem _ t_45)
  have kk6 := hts (.fieldLink "LevelledRing$Poly" 15 "LevelledRing$Poly" "c" "[I") (List.mem_cons_of_mem _ t_38)
  have fr0 : ∀ j : Nat, (j ≠ k) → (j ≠ k + 1) → u j = u j := fun _ _ _ => rfl
  have hsm : sm = 0 ∨ sm = 1 := by omega
  refine lv_aload_n hx hb d_P_init_0 rfl (lv_at hl 0 rfl) ?_
  refine W.objInit hx hb hown kk0 kk1 kk2 rfl (by rw [hml]; exact hl.1) rfl d_P_init_1 (Nat.le_of_ble_eq_true rfl) (Nat.le_of_ble_eq_true rfl) ?_
  refine W.eq (g2 := F0 m 4 ls []) rfl ?_
  refine lv_aload_n hx hb d_P_init_4 rfl (lv_at hl 0 rfl) ?_
  refine lv_iload_n hx hb d_P_init_5 rfl (lv_at hl 1 rfl) ?_
  refine w_putF (C := "LevelledRing$Poly") (T := T_P) (M := 2) (ty := .boolean) (v := .int (iI (sm))) hx hb hts hinP ty_P tyok_P nm_P hown hK hP hS (k) (by omega) f0 rfl 0 (by decide) kk3 (fun _ h => h) rfl hnm rfl (by decide +kernel) (by rcases hsm with rfl | rfl <;> rfl) (by rcases hsm with rfl | rfl <;> rfl) (Nat.le_of_ble_eq_true rfl) d_P_init_6 (fun H locs hP hS => ?_)
  obtain ⟨u1, hu2, hP⟩ : ∃ zz : Nat → va_E, zz = va_up u k (.inr (3, [.int (iI (sm)), .null])) ∧ va_P D vwCl (wl (k + 1) b zz) H := ⟨_, rfl, hP⟩
  have ff3 : u1 k = .inr (3, [.int (iI (sm)), .null]) := (congrFun hu2 _).trans up_s
  have fr4 : ∀ j : Nat, (j ≠ k) → (j ≠ k + 1) → u1 j = u j := fun j h0 h1 => (congrFun hu2 j).trans ((up_n (by omega)).trans (fr0 j h0 h1))
  refine lv_aload_n hx hb d_P_init_9 rfl (lv_at hl 0 rfl) ?_
  refine lv_iload_n hx hb d_P_init_10 rfl (lv_at hl 1 rfl) ?_
  refine x_if_eq (tgt := 19) hx hb ⟨by omega, by omega⟩ d_P_init_11 (by decide) (fun hc => ?_) (fun hc => ?_)
  · obtain rfl : n = 32 := by omega
    refine lv_bipush (v := iI (32)) hx hb d_P_init_19 (by decide +kernel) ?_
    refine w_newi (n := 32) hx hb kk5 hK hP hS (ev_b E) (by omega) (by decide) (Nat.le_of_ble_eq_true rfl) (Nat.le_of_ble_eq_true rfl) d_P_init_21 (fun H hP hS => ?_)
    obtain ⟨u5, hu6, hP⟩ : ∃ zz : Nat → va_E, zz = va_up u1 (k + 1) (ir ct 32 (fun _ => 0)) ∧ va_P D vwCl (wl (k + 2) b zz) H := ⟨_, rfl, hP⟩
    have ff7 : u5 k = .inr (3, [.int (iI (sm)), .null]) := (congrFun hu6 _).trans ((up_n (by omega)).trans ff3)
    have ff8 : u5 (k + 1) = ir ct 32 (fun _ => 0) := (congrFun hu6 _).trans up_s
    have fr9 : ∀ j : Nat, (j ≠ k) → (j ≠ k + 1) → u5 j = u j := fun j h0 h1 => (congrFun hu6 j).trans ((up_n (by omega)).trans (fr4 j h0 h1))
    refine w_putF (C := "LevelledRing$Poly") (T := T_P) (M := 2) (ty := (.array .int)) (v := .ref (b + (k + 1))) hx hb hts hinP ty_P tyok_P nm_P hown hK hP hS (k) (by omega) ff7 rfl 1 (by decide) kk6 (fun _ h => h) rfl hnm rfl (by decide +kernel) rfl rfl (Nat.le_of_ble_eq_true rfl) d_P_init_23 (fun H locs hP hS => ?_)
    obtain ⟨u10, hu11, hP⟩ : ∃ zz : Nat → va_E, zz = va_up u5 k (.inr (3, [.int (iI (sm)), .ref (b + (k + 1))])) ∧ va_P D vwCl (wl (k + 2) b zz) H := ⟨_, rfl, hP⟩
    have ff12 : u10 k = .inr (3, [.int (iI (sm)), .ref (b + (k + 1))]) := (congrFun hu11 _).trans up_s
    have ff13 : u10 (k + 1) = ir ct 32 (fun _ => 0) := (congrFun hu11 _).trans ((up_n (by omega)).trans ff8)
    have fr14 : ∀ j : Nat, (j ≠ k) → (j ≠ k + 1) → u10 j = u j := fun j h0 h1 => (congrFun hu11 j).trans ((up_n (by omega)).trans (fr9 j h0 h1))
    refine W.widen (k := 1) (n := 32) (by decide) (by decide) ?_
    exact ret u10 H locs 26 ls ⟨ff12, ff13, fr14⟩ hP hS d_P_init_26
  · obtain rfl : n = 8 := by omega
    refine lv_bipush (v := iI (8)) hx hb d_P_init_14 (by decide +kernel) ?_
    refine lv_goto (tgt := 21) hx hb d_P_init_16 (by decide) ?_
    refine w_newi (n := 8) hx hb kk5 hK hP hS (ev_b E) (by omega) (by decide) (Nat.le_of_ble_eq_true rfl) (Nat.le_of_ble_eq_true rfl) d_P_init_21 (fun H hP hS => ?_)
    obtain ⟨u15, hu16, hP⟩ : ∃ zz : Nat → va_E, zz = va_up u1 (k + 1) (ir ct 8 (fun _ => 0)) ∧ va_P D vwCl (wl (k + 2) b zz) H := ⟨_, rfl, hP⟩
    have ff17 : u15 k = .inr (3, [.int (iI (sm)), .null]) := (congrFun hu16 _).trans ((up_n (by omega)).trans ff3)
    have ff18 : u15 (k + 1) = ir ct 8 (fun _ => 0) := (congrFun hu16 _).trans up_s
    have fr19 : ∀ j : Nat, (j ≠ k) → (j ≠ k + 1) → u15 j = u j := fun j h0 h1 => (congrFun hu16 j).trans ((up_n (by omega)).trans (fr4 j h0 h1))
    refine w_putF (C := "LevelledRing$Poly") (T := T_P) (M := 2) (ty := (.array .int)) (v := .ref (b + (k + 1))) hx hb hts hinP ty_P tyok_P nm_P hown hK hP hS (k) (by omega) ff17 rfl 1 (by decide) kk6 (fun _ h => h) rfl hnm rfl (by decide +kernel) rfl rfl (Nat.le_of_ble_eq_true rfl) d_P_init_23 (fun H locs hP hS => ?_)
    obtain ⟨u20, hu21, hP⟩ : ∃ zz : Nat → va_E, zz = va_up u15 k (.inr (3, [.int (iI (sm)), .ref (b + (k + 1))])) ∧ va_P D vwCl (wl (k + 2) b zz) H := ⟨_, rfl, hP⟩
    have ff22 : u20 k = .inr (3, [.int (iI (sm)), .ref (b + (k + 1))]) := (congrFun hu21 _).trans up_s
    have ff23 : u20 (k + 1) = ir ct 8 (fun _ => 0) := (congrFun hu21 _).trans ((up_n (by omega)).trans ff18)
    have fr24 : ∀ j : Nat, (j ≠ k) → (j ≠ k + 1) → u20 j = u j := fun j h0 h1 => (congrFun hu21 j).trans ((up_n (by omega)).trans (fr19 j h0 h1))
    refine W.widen (k := 1) (n := 32) (by decide) (by decide) ?_
    exact ret u20 H locs 26 ls ⟨ff22, ff23, fr24⟩ hP hS d_P_init_26
abbrev rm_c_D_init : Room := { frames := 1, cells := 0, slots := 0, locals := 12 }
set_option maxHeartbeats 4000000 in
set_option maxRecDepth 100000 in
/-- Drawing() -/
theorem c_D_init (l : Launch) (D : va_G) (ct : Nat → ClassId) (st ke : Nat → Nat) (b N : Nat) (u : Nat → va_E) (k : Nat) (hk : k < N) (z0 : Int32) (f0 : u k = dr z0) : Met l y_D_init (w_D_init) rm_c_D_init (va_Pc [.ref (b + k)] (fun U => ev D ct st ke b U ∧ va_P D vwCl (wl N b u) U.heap)) (va_Qv (fun z : Nat → va_E => z k = dr 0 ∧ ∀ j : Nat, j ≠ k → z j = u j) (fun (z : Nat → va_E) t => va_P D vwCl (wl (N) b (z)) t.heap) (AA b)) 0 0 (AA b) := by
  refine M_v (cc := c9_D_init) (maxL := 1) (by decide) rfl (Nat.le_of_ble_eq_true rfl) ?_
  intro p e s m args below meth c Q ls H locs hx hb hml hown hts hnm E hP hS hl ret
  have hl : lv_has ls 1 [(0, .ref (b + k))] := hl
  have hK := ev_K E
  have kk0 := hts (.methodLink "LevelledRing$Drawing" 1 objectInit) (List.mem_cons_of_mem _ t_26)
  have kk1 := hts (.instanceMethod objectInit) (List.mem_cons_of_mem _ t_19)
  have kk2 := hts (.code objectInit ⟨#[0xb1]⟩ 1 none) (List.mem_cons_of_mem _ t_20)
  have kk3 := hts (.fieldLink "LevelledRing$Drawing" 7 "LevelledRing$Drawing" "z" "I") (List.mem_cons_of_mem _ t_27)
  have hinD : ∀ w ∈ u_ws "LevelledRing$Drawing" T_D 1, w ∈ (w_D_init) := hin_D _
  have fr0 : ∀ j : Nat, (j ≠ k) → u j = u j := fun _ _ => rfl
  refine lv_aload_n hx hb d_D_init_0 rfl (lv_at hl 0 rfl) ?_
  refine W.objInit hx hb hown kk0 kk1 kk2 rfl (by rw [hml]; exact hl.1) rfl d_D_init_1 (Nat.le_of_ble_eq_true rfl) (Nat.le_of_ble_eq_true rfl) ?_
  refine W.eq (g2 := F0 m 4 ls []) rfl ?_
  refine lv_aload_n hx hb d_D_init_4 rfl (lv_at hl 0 rfl) ?_
  refine lv_iconst (v := iI (0)) hx hb d_D_init_5 rfl ?_
  refine x_i (y := 0) (by decide) ?_
  refine w_put (C := "LevelledRing$Drawing") (T := T_D) (M := 1) (ty := .int) (v := .int 0) hx hb hts hinD ty_D tyok_D nm_D hown hK hP hS (k) (by omega) f0 rfl 0 (by decide) kk3 (fun _ h => h) rfl (by decide +kernel) rfl rfl (Nat.le_of_ble_eq_true rfl) d_D_init_6 (fun H locs hP hS => ?_)
  obtain ⟨u1, hu2, hP⟩ : ∃ zz : Nat → va_E, zz = va_up u k (.inr (0, [.int 0])) ∧ va_P D vwCl (wl N b zz) H := ⟨_, rfl, hP⟩
  have ff3 : u1 k = .inr (0, [.int 0]) := (congrFun hu2 _).trans up_s
  have fr4 : ∀ j : Nat, (j ≠ k) → u1 j = u j := fun j h0 => (congrFun hu2 j).trans ((up_n (by omega)).trans (fr0 j h0))
  exact ret u1 H locs 9 ls ⟨ff3, fr4⟩ hP hS d_D_init_9
