abbrev rm_c_setSum : Room := { frames := 1, cells := 0, slots := 0, locals := 23 }
set_option maxHeartbeats 4000000 in
set_option maxRecDepth 100000 in
/-- setSum(x, sg, y, top) -/
theorem c_setSum (l : Launch) (D : va_G) (ct : Nat → ClassId) (st ke : Nat → Nat) (b N : Nat) (u : Nat → va_E) (k : Nat) (sm : Int) (n : Nat) (g : Int → Int) (hk : k + 1 < N) (hn : n < 65536) (f0 : u k = po b k sm) (f1 : u (k + 1) = ir ct n g) (top : Int) (ht0 : 0 ≤ top) (ht3 : top ≤ 3) (hn8 : 8 * (top + 1) ≤ n) (hsm : sm = 0 ∨ sm = 1) (kx nx : Nat) (gx : Int → Int) (hkx : kx + 1 < N) (hnx : nx < 65536) (hnx8 : 8 * (top + 1) ≤ nx) (hnex : kx + 1 ≠ k + 1) (fx0 : u kx = po b kx sm) (fx1 : u (kx + 1) = ir ct nx gx) (ky ny : Nat) (gy : Int → Int) (hky : ky + 1 < N) (hny : ny < 65536) (hny8 : 8 * (top + 1) ≤ ny) (hney : ky + 1 ≠ k + 1) (fy0 : u ky = po b ky sm) (fy1 : u (ky + 1) = ir ct ny gy) (sg : Int) (hsg : sg = 1 ∨ sg = -1) (X Y : Int → Int) (hX : Rep gx sm top X) (hY : Rep gy sm top Y) : Met l y_P_setSum (w_P_setSum) rm_c_setSum (va_Pc [.ref (b + k), .ref (b + kx), .int (iI (sg)), .ref (b + ky), .int (iI (top))] (fun U => ev D ct st ke b U ∧ va_P D vwCl (wl N b u) U.heap)) (va_Qv (fun z : Nat → va_E => ∃ g2 : Int → Int, z (k + 1) = ir ct n g2 ∧ (Rep g2 sm top (fun i => X i + sg * Y i)) ∧ ∀ j : Nat, j ≠ k + 1 → z j = u j) (fun (z : Nat → va_E) t => va_P D vwCl (wl (N) b (z)) t.heap) (AA b)) 0 0 (AA b) := by
  refine M_v (cc := c9_P_setSum) (maxL := 8) (by decide) rfl (Nat.le_of_ble_eq_true rfl) ?_
  intro p e s m args below meth c Q ls H locs hx hb hml hown hts hnm E hP hS hl ret
  have hl : lv_has ls 8 [(0, .ref (b + k)), (1, .ref (b + kx)), (2, .int (iI (sg))), (3, .ref (b + ky)), (4, .int (iI (top)))] := hl
  have hK := ev_K E
  have kk0 := hts (.fieldLink "LevelledRing$Poly" 15 "LevelledRing$Poly" "c" "[I") (List.mem_cons_of_mem _ t_38)
  have hinP : ∀ w ∈ u_ws "LevelledRing$Poly" T_P 2, w ∈ (w_P_setSum) := hin_P _
  have kk2 := hts (.initialized "LevelledRing") (List.mem_cons_of_mem _ t_1)
  have kk3 := hts (.static y_R_modulo) (List.mem_cons_of_mem _ t_99)
  have kn4 : va_Nw (.methodLinkNest "LevelledRing$Poly" 40 y_R_modulo "LevelledRing") s := ev_W E _ nw_3
  have fr0 : ∀ j : Nat, (j ≠ k + 1) → u j = u j := fun _ _ => rfl
  have hplx : kx ≠ k + 1 := fun h => by rw [h, f1] at fx0; exact absurd fx0 (by intro h; cases h)
  have hply : ky ≠ k + 1 := fun h => by rw [h, f1] at fy0; exact absurd fy0 (by intro h; cases h)
  refine lv_iconst (v := iI (0)) hx hb d_P_setSum_0 rfl ?_
  refine lv_istore (lv' := [(5, .int (iI (0))), (0, .ref (b + k)), (1, .ref (b + kx)), (2, .int (iI (sg))), (3, .ref (b + ky)), (4, .int (iI (top)))]) hx hb d_P_setSum_1 hl (by decide) rfl (fun ls hl => ?_)
  have lo : ∀ (d : Nat) (a : Int) (g2 : Int → Int) (w1 : Nat → va_E) (H : Heap) (locs : List Loc) (ls : Array Slot), (0 ≤ a) → (a ≤ top + 1) → (top + 1 - a < d) → (∀ r q : Int, 0 ≤ r → 0 ≤ q → q < 8 → r * 8 + q < a * 8 → g2 (r * 8 + q) = (X q + sg * Y q) % mu sm r) → w1 (k + 1) = ir ct n (g2) → (∀ j : Nat, (j ≠ k + 1) → w1 j = u j) → va_P D vwCl (wl N b w1) H → va_S (AA b) s.heap H locs → lv_has ls 8 [(5, .int (iI (a))), (0, .ref (b + k)), (1, .ref (b + kx)), (2, .int (iI (sg))), (3, .ref (b + ky)), (4, .int (iI (top)))] → W p l e rm_c_setSum s m args below meth c H locs 0 0 Q (F0 m 3 ls []) := by
    intro d
    induction d with
    | zero => intro a g2 w1 H locs ls h0 h1 hd hg fg2 fr3 hP hS hl; exfalso; omega
    | succ d ihlo =>
      intro a g2 w1 H locs ls h0 h1 hd hg fg2 fr3 hP hS hl
      have ff4 : w1 k = .inr (3, [.int (iI (sm)), .ref (b + (k + 1))]) := (fr3 k (by omega)).trans f0
      have ff5 : w1 kx = .inr (3, [.int (iI (sm)), .ref (b + (kx + 1))]) := (fr3 kx (by omega)).trans fx0
      have ff6 : w1 (kx + 1) = ir ct nx (gx) := (fr3 (kx + 1) (by omega)).trans fx1
      have ff7 : w1 ky = .inr (3, [.int (iI (sm)), .ref (b + (ky + 1))]) := (fr3 ky (by omega)).trans fy0
      have ff8 : w1 (ky + 1) = ir ct ny (gy) := (fr3 (ky + 1) (by omega)).trans fy1
      refine lv_iload hx hb d_P_setSum_3 (lv_at hl 0 rfl) ?_
      refine lv_iload hx hb d_P_setSum_5 (lv_at hl 5 rfl) ?_
      refine x_icmp_gt (tgt := 79) hx hb ⟨by omega, by omega⟩ ⟨by omega, by omega⟩ d_P_setSum_7 (by decide) (fun hc => ?_) (fun hc => ?_)
      · exact ret w1 H locs 79 ls ⟨g2, fg2, fun r i h2 h3 h4 h5 => hg r i h2 h4 h5 (by omega), fr3⟩ hP hS d_P_setSum_79
      · have hmu := mu_bd sm a
        refine lv_aload_n hx hb d_P_setSum_10 rfl (lv_at hl 1 rfl) ?_
        refine lv_iload hx hb d_P_setSum_11 (lv_at hl 0 rfl) ?_
        refine w_calli (va_runV (As := [.int (iI (a))]) (rest := []) ⟨hx, hb, hml, hown, hts⟩ (c_rowModulus l D ct st ke b N w1 k sm (a) (by omega) ff4 hsm (by omega) (by omega)) (cwV 1 hts (gV t_105 t_107 (tb_sel ((y_P_rowModulus), 2) (List.mem_of_getElem? (i := 0) (by decide +kernel))) t_3 t_108) rfl rfl rfl (by decide +kernel) ⟨Nat.le_of_ble_eq_true rfl, Nat.le_of_ble_eq_true rfl⟩) (pre_V E hP hS (k) (by omega) ff4 rfl) rfl rfl hl.1 rfl (lv_room (Nat.le_of_ble_eq_true rfl)) d_P_setSum_13 ⟨(Nat.le_of_ble_eq_true rfl), (Nat.le_of_ble_eq_true rfl)⟩) hS (fun r10 z9 H locs hz hP hS => ?_)
        obtain ⟨rfl, rfl⟩ := hz
        refine lv_istore (lv' := [(6, .int (iI (mu sm (a)))), (5, .int (iI (a))), (0, .ref (b + k)), (1, .ref (b + kx)), (2, .int (iI (sg))), (3, .ref (b + ky)), (4, .int (iI (top)))]) hx hb d_P_setSum_16 hl (by decide) rfl (fun ls hl => ?_)
        refine lv_iload hx hb d_P_setSum_18 (lv_at hl 1 rfl) ?_
        refine lv_bipush (v := iI (8)) hx hb d_P_setSum_20 (by decide +kernel) ?_
        refine x_imul hx hb d_P_setSum_22 ?_
        refine lv_istore (lv' := [(7, .int (iI (a * 8))), (6, .int (iI (mu sm (a)))), (5, .int (iI (a))), (0, .ref (b + k)), (1, .ref (b + kx)), (2, .int (iI (sg))), (3, .ref (b + ky)), (4, .int (iI (top)))]) hx hb d_P_setSum_23 hl (by decide) rfl (fun ls hl => ?_)
        have li : ∀ (d2 : Nat) (t : Int) (g2 : Int → Int) (w11 : Nat → va_E) (H : Heap) (locs : List Loc) (ls : Array Slot), (a * 8 ≤ t) → (t ≤ a * 8 + 8) → (a * 8 + 8 - t < d2) → (∀ r q : Int, 0 ≤ r → 0 ≤ q → q < 8 → r * 8 + q < t → g2 (r * 8 + q) = (X q + sg * Y q) % mu sm r) → w11 (k + 1) = ir ct n (g2) → (∀ j : Nat, (j ≠ k + 1) → w11 j = u j) → va_P D vwCl (wl N b w11) H → va_S (AA b) s.heap H locs → lv_has ls 8 [(7, .int (iI (t))), (6, .int (iI (mu sm (a)))), (5, .int (iI (a))), (0, .ref (b + k)), (1, .ref (b + kx)), (2, .int (iI (sg))), (3, .ref (b + ky)), (4, .int (iI (top)))] → W p l e rm_c_setSum s m args below meth c H locs 0 0 Q (F0 m 25 ls []) := by
          intro d2
          induction d2 with
          | zero => intro t g2 w11 H locs ls hta htb hd2 hg fg12 fr13 hP hS hl; exfalso; omega
          | succ d2 ihli =>
            intro t g2 w11 H locs ls hta htb hd2 hg fg12 fr13 hP hS hl
            have ff14 : w11 k = .inr (3, [.int (iI (sm)), .ref (b + (k + 1))]) := (fr13 k (by omega)).trans f0
            have ff15 : w11 kx = .inr (3, [.int (iI (sm)), .ref (b + (kx + 1))]) := (fr13 kx (by omega)).trans fx0
            have ff16 : w11 (kx + 1) = ir ct nx (gx) := (fr13 (kx + 1) (by omega)).trans fx1
            have ff17 : w11 ky = .inr (3, [.int (iI (sm)), .ref (b + (ky + 1))]) := (fr13 ky (by omega)).trans fy0
            have ff18 : w11 (ky + 1) = ir ct ny (gy) := (fr13 (ky + 1) (by omega)).trans fy1
            refine lv_iload hx hb d_P_setSum_25 (lv_at hl 0 rfl) ?_
            refine lv_iload hx hb d_P_setSum_27 (lv_at hl 2 rfl) ?_
            refine lv_iconst (v := iI (1)) hx hb d_P_setSum_29 rfl ?_
            refine x_iadd hx hb d_P_setSum_30 ?_
            refine lv_bipush (v := iI (8)) hx hb d_P_setSum_31 (by decide +kernel) ?_
            refine x_imul hx hb d_P_setSum_33 ?_
            refine x_icmp_ge (tgt := 73) hx hb ⟨by omega, by omega⟩ ⟨by omega, by omega⟩ d_P_setSum_34 (by decide) (fun hc => ?_) (fun hc => ?_)
            · refine lv_iinc (k := 2) (v := iI (a + 1)) (lv' := [(5, .int (iI (a + 1))), (7, .int (iI (t))), (6, .int (iI (mu sm (a)))), (0, .ref (b + k)), (1, .ref (b + kx)), (2, .int (iI (sg))), (3, .ref (b + ky)), (4, .int (iI (top)))]) hx hb d_P_setSum_73 hl rfl (iI_add _ _) (by decide) rfl (fun ls hl => ?_)
              refine lv_goto (tgt := 3) hx hb d_P_setSum_76 (by decide) ?_
              have hl : lv_has ls 8 [(5, .int (iI (a + 1))), (0, .ref (b + k)), (1, .ref (b + kx)), (2, .int (iI (sg))), (3, .ref (b + ky)), (4, .int (iI (top)))] := lv_sub hl [0, 3, 4, 5, 6, 7] rfl
              exact ihlo (a + 1) g2 w11 H locs ls (by omega) (by omega) (by omega) (fun r i h2 h3 h4 h5 => hg r i h2 h3 h4 (by omega)) fg12 fr13 hP hS hl
            · obtain ⟨i, hi⟩ : ∃ i : Int, t = a * 8 + i := ⟨t - a * 8, by omega⟩
              subst hi
              have ex := hX a i h0 (by omega) (by omega) (by omega)
              have ey := hY a i h0 (by omega) (by omega) (by omega)
              have bx := hX.bd (k := a) (i := i) h0 (by omega) (by omega) (by omega)
              have by_ := hY.bd (k := a) (i := i) h0 (by omega) (by omega) (by omega)
              have hsy : -32369 ≤ sg * gy (a * 8 + i) ∧ sg * gy (a * 8 + i) ≤ 32369 := by rcases hsg with rfl | rfl <;> omega
              refine lv_aload_n hx hb d_P_setSum_37 rfl (lv_at hl 3 rfl) ?_
              refine w_get (C := "LevelledRing$Poly") (T := T_P) (M := 2) hx hb hts hinP hown hK hP (k) (by omega) ff14 rfl 1 (by decide) kk0 (fun _ h => h) rfl d_P_setSum_38 ?_
              refine lv_iload hx hb d_P_setSum_41 (lv_at hl 0 rfl) ?_
              refine lv_aload_n hx hb d_P_setSum_43 rfl (lv_at hl 4 rfl) ?_
              refine w_get (C := "LevelledRing$Poly") (T := T_P) (M := 2) hx hb hts hinP hown hK hP (kx) (by omega) ff15 rfl 1 (by decide) kk0 (fun _ h => h) rfl d_P_setSum_44 ?_
              refine lv_iload hx hb d_P_setSum_47 (lv_at hl 0 rfl) ?_
              refine w_iald hx hb hK hP (kx + 1) (by omega) ff16 (by omega) (by omega) (by omega) d_P_setSum_49 ?_
              refine lv_iload_n hx hb d_P_setSum_50 rfl (lv_at hl 5 rfl) ?_
              refine lv_aload_n hx hb d_P_setSum_51 rfl (lv_at hl 6 rfl) ?_
              refine w_get (C := "LevelledRing$Poly") (T := T_P) (M := 2) hx hb hts hinP hown hK hP (ky) (by omega) ff17 rfl 1 (by decide) kk0 (fun _ h => h) rfl d_P_setSum_52 ?_
              refine lv_iload hx hb d_P_setSum_55 (lv_at hl 0 rfl) ?_
              refine w_iald hx hb hK hP (ky + 1) (by omega) ff18 (by omega) (by omega) (by omega) d_P_setSum_57 ?_
              refine x_imul hx hb d_P_setSum_58 ?_
              refine x_iadd hx hb d_P_setSum_59 ?_
              refine x_i2l hx hb ⟨by omega, by omega⟩ d_P_setSum_60 ?_
              refine lv_iload hx hb d_P_setSum_61 (lv_at hl 1 rfl) ?_
              refine w_calli (va_runSN (As := [.long (lI ((gx (a * 8 + i)) + ((sg) * (gy (a * 8 + i))))), .int (iI (mu sm (a)))]) (rest := [.int (iI (a * 8 + i)), .ref (b + (k + 1))]) ⟨hx, hb, hml, hown, hts⟩ (c_modulo l D ct st ke b N w11 ((gx (a * 8 + i)) + ((sg) * (gy (a * 8 + i)))) (mu sm (a)) ⟨by omega, by omega⟩ (by omega) (by omega)) ⟨va_cnB 2 hts (gC t_100) rfl rfl rfl kn4 kk2 (by decide +kernel) ⟨Nat.le_of_ble_eq_true rfl, Nat.le_of_ble_eq_true rfl⟩, kk3, trivial⟩ (pre_S E hP hS) rfl rfl hl.1 rfl (lv_room (Nat.le_of_ble_eq_true rfl)) d_P_setSum_63 ⟨(Nat.le_of_ble_eq_true rfl), (Nat.le_of_ble_eq_true rfl)⟩) hS (fun r20 z19 H locs hz hP hS => ?_)
              obtain ⟨rfl, rfl⟩ := hz
              refine w_iast hx hb hK hP hS (k + 1) (by omega) fg12 (by omega) (by omega) (by omega) d_P_setSum_66 (fun H locs hP hS => ?_)
              obtain ⟨u21, hu22, hP⟩ : ∃ zz : Nat → va_E, zz = va_up w11 (k + 1) (ir ct n (zu g2 (a * 8 + i) (((gx (a * 8 + i)) + ((sg) * (gy (a * 8 + i)))) % (mu sm (a))))) ∧ va_P D vwCl (wl N b zz) H := ⟨_, rfl, hP⟩
              have ff23 : u21 k = .inr (3, [.int (iI (sm)), .ref (b + (k + 1))]) := (congrFun hu22 _).trans ((up_n (by omega)).trans ff14)
              have ff24 : u21 kx = .inr (3, [.int (iI (sm)), .ref (b + (kx + 1))]) := (congrFun hu22 _).trans ((up_n (by omega)).trans ff15)
              have ff25 : u21 (kx + 1) = ir ct nx (gx) := (congrFun hu22 _).trans ((up_n (by omega)).trans ff16)
              have ff26 : u21 ky = .inr (3, [.int (iI (sm)), .ref (b + (ky + 1))]) := (congrFun hu22 _).trans ((up_n (by omega)).trans ff17)
              have ff27 : u21 (ky + 1) = ir ct ny (gy) := (congrFun hu22 _).trans ((up_n (by omega)).trans ff18)
              have ff28 : u21 (k + 1) = ir ct n (zu g2 (a * 8 + i) (((gx (a * 8 + i)) + ((sg) * (gy (a * 8 + i)))) % (mu sm (a)))) := (congrFun hu22 _).trans up_s
              have fr29 : ∀ j : Nat, (j ≠ k + 1) → u21 j = u j := fun j h0 => (congrFun hu22 j).trans ((up_n (by omega)).trans (fr13 j h0))
              refine lv_iinc (k := 0) (v := iI (a * 8 + i + 1)) (lv' := [(7, .int (iI (a * 8 + i + 1))), (6, .int (iI (mu sm (a)))), (5, .int (iI (a))), (0, .ref (b + k)), (1, .ref (b + kx)), (2, .int (iI (sg))), (3, .ref (b + ky)), (4, .int (iI (top)))]) hx hb d_P_setSum_67 hl rfl (iI_add _ _) (by decide) rfl (fun ls hl => ?_)
              refine lv_goto (tgt := 25) hx hb d_P_setSum_70 (by decide) ?_
              refine ihli (a * 8 + i + 1) _ u21 H locs ls (by omega) (by omega) (by omega) (fun r i2 h2 h3 h4 h5 => ?_) ff28 fr29 hP hS hl
              by_cases h6 : r * 8 + i2 = a * 8 + i
              · obtain ⟨rfl, rfl⟩ : r = a ∧ i2 = i := by omega
                rw [zu_s, ex, ey]
                exact cg_add cg_mod (cg_mul cg_r cg_mod)
              · rw [zu_n h6]
                exact hg r i2 h2 h3 h4 (by omega)
        exact li 9 (a * 8) g2 w1 H locs ls (by omega) (by omega) (by omega) hg fg2 fr3 hP hS hl
  exact lo (top + 2).toNat 0 g u H locs ls (by omega) (by omega) (by omega) (fun r i h2 h3 h4 h5 => by omega) f1 fr0 hP hS hl
abbrev rm_c_setFromRow : Room := { frames := 1, cells := 0, slots := 0, locals := 21 }
set_option maxHeartbeats 4000000 in
set_option maxRecDepth 100000 in
/-- setFromRow(x, row, top) -/
theorem c_setFromRow (l : Launch) (D : va_G) (ct : Nat → ClassId) (st ke : Nat → Nat) (b N : Nat) (u : Nat → va_E) (k : Nat) (sm : Int) (n : Nat) (g : Int → Int) (hk : k + 1 < N) (hn : n < 65536) (f0 : u k = po b k sm) (f1 : u (k + 1) = ir ct n g) (top : Int) (ht0 : 0 ≤ top) (ht3 : top ≤ 3) (hn8 : 8 * (top + 1) ≤ n) (hsm : sm = 0 ∨ sm = 1) (kx nx : Nat) (gx : Int → Int) (hkx : kx + 1 < N) (hnx : nx < 65536) (hnx8 : 8 * (top + 1) ≤ nx) (hnex : kx + 1 ≠ k + 1) (fx0 : u kx = po b kx sm) (fx1 : u (kx + 1) = ir ct nx gx) (row : Int) (hr0 : 0 ≤ row) (hr1 : row ≤ top) (X : Int → Int) (hX : Rep gx sm top X) : Met l y_P_setFromRow (w_P_setFromRow) rm_c_setFromRow (va_Pc [.ref (b + k), .ref (b + kx), .int (iI (row)), .int (iI (top))] (fun U => ev D ct st ke b U ∧ va_P D vwCl (wl N b u) U.heap)) (va_Qv (fun z : Nat → va_E => ∃ g2 : Int → Int, z (k + 1) = ir ct n g2 ∧ (Rep g2 sm top (fun i => X i % mu sm row)) ∧ ∀ j : Nat, j ≠ k + 1 → z j = u j) (fun (z : Nat → va_E) t => va_P D vwCl (wl (N) b (z)) t.heap) (AA b)) 0 0 (AA b) := by
  refine M_v (cc := c9_P_setFromRow) (maxL := 6) (by decide) rfl (Nat.le_of_ble_eq_true rfl) ?_
  intro p e s m args below meth c Q ls H locs hx hb hml hown hts hnm E hP hS hl ret
  have hl : lv_has ls 6 [(0, .ref (b + k)), (1, .ref (b + kx)), (2, .int (iI (row))), (3, .int (iI (top)))] := hl
  have hK := ev_K E
  have kk0 := hts (.fieldLink "LevelledRing$Poly" 15 "LevelledRing$Poly" "c" "[I") (List.mem_cons_of_mem _ t_38)
  have hinP : ∀ w ∈ u_ws "LevelledRing$Poly" T_P 2, w ∈ (w_P_setFromRow) := hin_P _
  have fr0 : ∀ j : Nat, (j ≠ k + 1) → u j = u j := fun _ _ => rfl
  have hplx : kx ≠ k + 1 := fun h => by rw [h, f1] at fx0; exact absurd fx0 (by intro h; cases h)
  refine lv_iconst (v := iI (0)) hx hb d_P_setFromRow_0 rfl ?_
  refine lv_istore (lv' := [(4, .int (iI (0))), (0, .ref (b + k)), (1, .ref (b + kx)), (2, .int (iI (row))), (3, .int (iI (top)))]) hx hb d_P_setFromRow_1 hl (by decide) rfl (fun ls hl => ?_)
  have lo : ∀ (d : Nat) (a : Int) (g2 : Int → Int) (w1 : Nat → va_E) (H : Heap) (locs : List Loc) (ls : Array Slot), (0 ≤ a) → (a ≤ top + 1) → (top + 1 - a < d) → (∀ r q : Int, 0 ≤ r → 0 ≤ q → q < 8 → r * 8 + q < a * 8 → g2 (r * 8 + q) = (X q % mu sm row) % mu sm r) → w1 (k + 1) = ir ct n (g2) → (∀ j : Nat, (j ≠ k + 1) → w1 j = u j) → va_P D vwCl (wl N b w1) H → va_S (AA b) s.heap H locs → lv_has ls 6 [(4, .int (iI (a))), (0, .ref (b + k)), (1, .ref (b + kx)), (2, .int (iI (row))), (3, .int (iI (top)))] → W p l e rm_c_setFromRow s m args below meth c H locs 0 0 Q (F0 m 3 ls []) := by
    intro d
    induction d with
    | zero => intro a g2 w1 H locs ls h0 h1 hd hg fg2 fr3 hP hS hl; exfalso; omega
    | succ d ihlo =>
      intro a g2 w1 H locs ls h0 h1 hd hg fg2 fr3 hP hS hl
      have ff4 : w1 k = .inr (3, [.int (iI (sm)), .ref (b + (k + 1))]) := (fr3 k (by omega)).trans f0
      have ff5 : w1 kx = .inr (3, [.int (iI (sm)), .ref (b + (kx + 1))]) := (fr3 kx (by omega)).trans fx0
      have ff6 : w1 (kx + 1) = ir ct nx (gx) := (fr3 (kx + 1) (by omega)).trans fx1
      refine lv_iload hx hb d_P_setFromRow_3 (lv_at hl 0 rfl) ?_
      refine lv_iload_n hx hb d_P_setFromRow_5 rfl (lv_at hl 4 rfl) ?_
      refine x_icmp_gt (tgt := 63) hx hb ⟨by omega, by omega⟩ ⟨by omega, by omega⟩ d_P_setFromRow_6 (by decide) (fun hc => ?_) (fun hc => ?_)
      · exact ret w1 H locs 63 ls ⟨g2, fg2, fun r i h2 h3 h4 h5 => hg r i h2 h4 h5 (by omega), fr3⟩ hP hS d_P_setFromRow_63
      · have hmu := mu_bd sm a
        have hmr := mu_bd sm row
        refine lv_iconst (v := iI (0)) hx hb d_P_setFromRow_9 rfl ?_
        refine lv_istore (lv' := [(5, .int (iI (0))), (4, .int (iI (a))), (0, .ref (b + k)), (1, .ref (b + kx)), (2, .int (iI (row))), (3, .int (iI (top)))]) hx hb d_P_setFromRow_10 hl (by decide) rfl (fun ls hl => ?_)
        have li : ∀ (d2 : Nat) (i : Int) (g2 : Int → Int) (w7 : Nat → va_E) (H : Heap) (locs : List Loc) (ls : Array Slot), (0 ≤ i) → (i ≤ 8) → (8 - i < d2) → (∀ r q : Int, 0 ≤ r → 0 ≤ q → q < 8 → r * 8 + q < a * 8 + i → g2 (r * 8 + q) = (X q % mu sm row) % mu sm r) → w7 (k + 1) = ir ct n (g2) → (∀ j : Nat, (j ≠ k + 1) → w7 j = u j) → va_P D vwCl (wl N b w7) H → va_S (AA b) s.heap H locs → lv_has ls 6 [(5, .int (iI (i))), (4, .int (iI (a))), (0, .ref (b + k)), (1, .ref (b + kx)), (2, .int (iI (row))), (3, .int (iI (top)))] → W p l e rm_c_setFromRow s m args below meth c H locs 0 0 Q (F0 m 12 ls []) := by
          intro d2
          induction d2 with
          | zero => intro i g2 w7 H locs ls hi0 hi8 hd2 hg fg8 fr9 hP hS hl; exfalso; omega
          | succ d2 ihli =>
            intro i g2 w7 H locs ls hi0 hi8 hd2 hg fg8 fr9 hP hS hl
            have ff10 : w7 k = .inr (3, [.int (iI (sm)), .ref (b + (k + 1))]) := (fr9 k (by omega)).trans f0
            have ff11 : w7 kx = .inr (3, [.int (iI (sm)), .ref (b + (kx + 1))]) := (fr9 kx (by omega)).trans fx0
            have ff12 : w7 (kx + 1) = ir ct nx (gx) := (fr9 (kx + 1) (by omega)).trans fx1
            refine lv_iload hx hb d_P_setFromRow_12 (lv_at hl 0 rfl) ?_
            refine lv_bipush (v := iI (8)) hx hb d_P_setFromRow_14 (by decide +kernel) ?_
            refine x_icmp_ge (tgt := 57) hx hb ⟨by omega, by omega⟩ ⟨by omega, by omega⟩ d_P_setFromRow_16 (by decide) (fun hc => ?_) (fun hc => ?_)
            · refine lv_iinc (k := 1) (v := iI (a + 1)) (lv' := [(4, .int (iI (a + 1))), (5, .int (iI (i))), (0, .ref (b + k)), (1, .ref (b + kx)), (2, .int (iI (row))), (3, .int (iI (top)))]) hx hb d_P_setFromRow_57 hl rfl (iI_add _ _) (by decide) rfl (fun ls hl => ?_)
              refine lv_goto (tgt := 3) hx hb d_P_setFromRow_60 (by decide) ?_
              have hl : lv_has ls 6 [(4, .int (iI (a + 1))), (0, .ref (b + k)), (1, .ref (b + kx)), (2, .int (iI (row))), (3, .int (iI (top)))] := lv_sub hl [0, 2, 3, 4, 5] rfl
              exact ihlo (a + 1) g2 w7 H locs ls (by omega) (by omega) (by omega) (fun r i h2 h3 h4 h5 => hg r i h2 h3 h4 (by omega)) fg8 fr9 hP hS hl
            · have ex := hX row i hr0 (by omega) (by omega) (by omega)
              have bx := hX.bd (k := row) (i := i) hr0 (by omega) (by omega) (by omega)
              refine lv_aload_n hx hb d_P_setFromRow_19 rfl (lv_at hl 2 rfl) ?_
              refine w_get (C := "LevelledRing$Poly") (T := T_P) (M := 2) hx hb hts hinP hown hK hP (k) (by omega) ff10 rfl 1 (by decide) kk0 (fun _ h => h) rfl d_P_setFromRow_20 ?_
              refine lv_iload hx hb d_P_setFromRow_23 (lv_at hl 1 rfl) ?_
              refine lv_bipush (v := iI (8)) hx hb d_P_setFromRow_25 (by decide +kernel) ?_
              refine x_imul hx hb d_P_setFromRow_27 ?_
              refine lv_iload hx hb d_P_setFromRow_28 (lv_at hl 0 rfl) ?_
              refine x_iadd hx hb d_P_setFromRow_30 ?_
              refine lv_aload_n hx hb d_P_setFromRow_31 rfl (lv_at hl 3 rfl) ?_
              refine w_get (C := "LevelledRing$Poly") (T := T_P) (M := 2) hx hb hts hinP hown hK hP (kx) (by omega) ff11 rfl 1 (by decide) kk0 (fun _ h => h) rfl d_P_setFromRow_32 ?_
              refine lv_iload_n hx hb d_P_setFromRow_35 rfl (lv_at hl 4 rfl) ?_
              refine lv_bipush (v := iI (8)) hx hb d_P_setFromRow_36 (by decide +kernel) ?_
              refine x_imul hx hb d_P_setFromRow_38 ?_
              refine lv_iload hx hb d_P_setFromRow_39 (lv_at hl 0 rfl) ?_
              refine x_iadd hx hb d_P_setFromRow_41 ?_
              refine w_iald hx hb hK hP (kx + 1) (by omega) ff12 (by omega) (by omega) (by omega) d_P_setFromRow_42 ?_
              refine lv_aload_n hx hb d_P_setFromRow_43 rfl (lv_at hl 2 rfl) ?_
              refine lv_iload hx hb d_P_setFromRow_44 (lv_at hl 1 rfl) ?_
              refine w_calli (va_runV (As := [.int (iI (a))]) (rest := [.int (iI (gx ((row * 8) + (i)))), .int (iI ((a * 8) + (i))), .ref (b + (k + 1))]) ⟨hx, hb, hml, hown, hts⟩ (c_rowModulus l D ct st ke b N w7 k sm (a) (by omega) ff10 hsm (by omega) (by omega)) (cwV 1 hts (gV t_105 t_107 (tb_sel ((y_P_rowModulus), 2) (List.mem_of_getElem? (i := 0) (by decide +kernel))) t_3 t_108) rfl rfl rfl (by decide +kernel) ⟨Nat.le_of_ble_eq_true rfl, Nat.le_of_ble_eq_true rfl⟩) (pre_V E hP hS (k) (by omega) ff10 rfl) rfl rfl hl.1 rfl (lv_room (Nat.le_of_ble_eq_true rfl)) d_P_setFromRow_46 ⟨(Nat.le_of_ble_eq_true rfl), (Nat.le_of_ble_eq_true rfl)⟩) hS (fun r14 z13 H locs hz hP hS => ?_)
              obtain ⟨rfl, rfl⟩ := hz
              refine x_iremP hx hb ⟨by omega, by omega⟩ ⟨by omega, by omega⟩ (by omega) (by omega) d_P_setFromRow_49 ?_
              refine w_iast hx hb hK hP hS (k + 1) (by omega) fg8 (by omega) (by omega) (by omega) d_P_setFromRow_50 (fun H locs hP hS => ?_)
              obtain ⟨u15, hu16, hP⟩ : ∃ zz : Nat → va_E, zz = va_up w7 (k + 1) (ir ct n (zu g2 ((a * 8) + (i)) ((gx ((row * 8) + (i))) % (mu sm (a))))) ∧ va_P D vwCl (wl N b zz) H := ⟨_, rfl, hP⟩
              have ff17 : u15 k = .inr (3, [.int (iI (sm)), .ref (b + (k + 1))]) := (congrFun hu16 _).trans ((up_n (by omega)).trans ff10)
              have ff18 : u15 kx = .inr (3, [.int (iI (sm)), .ref (b + (kx + 1))]) := (congrFun hu16 _).trans ((up_n (by omega)).trans ff11)
              have ff19 : u15 (kx + 1) = ir ct nx (gx) := (congrFun hu16 _).trans ((up_n (by omega)).trans ff12)
              have ff20 : u15 (k + 1) = ir ct n (zu g2 ((a * 8) + (i)) ((gx ((row * 8) + (i))) % (mu sm (a)))) := (congrFun hu16 _).trans up_s
              have fr21 : ∀ j : Nat, (j ≠ k + 1) → u15 j = u j := fun j h0 => (congrFun hu16 j).trans ((up_n (by omega)).trans (fr9 j h0))
              refine lv_iinc (k := 0) (v := iI (i + 1)) (lv' := [(5, .int (iI (i + 1))), (4, .int (iI (a))), (0, .ref (b + k)), (1, .ref (b + kx)), (2, .int (iI (row))), (3, .int (iI (top)))]) hx hb d_P_setFromRow_51 hl rfl (iI_add _ _) (by decide) rfl (fun ls hl => ?_)
              refine lv_goto (tgt := 12) hx hb d_P_setFromRow_54 (by decide) ?_
              refine ihli (i + 1) _ u15 H locs ls (by omega) (by omega) (by omega) (fun r i2 h2 h3 h4 h5 => ?_) ff20 fr21 hP hS hl
              by_cases h6 : r * 8 + i2 = a * 8 + i
              · obtain ⟨rfl, rfl⟩ : r = a ∧ i2 = i := by omega
                rw [zu_s, ex]
              · rw [zu_n h6]
                exact hg r i2 h2 h3 h4 (by omega)
        exact li 9 0 g2 w1 H locs ls (by omega) (by omega) (by omega) (fun r i h2 h3 h4 h5 => hg r i h2 h3 h4 (by omega)) fg2 fr3 hP hS hl
  exact lo (top + 2).toNat 0 g u H locs ls (by omega) (by omega) (by omega) (fun r i h2 h3 h4 h5 => by omega) f1 fr0 hP hS hl
abbrev rm_c_pc : Room := { frames := 0, cells := 0, slots := 0, locals := 0 }
set_option maxHeartbeats 4000000 in
set_option maxRecDepth 100000 in
/-- productCoefficient(x, y, a * 8, i) -/
theorem c_pc (l : Launch) (D : va_G) (ct : Nat → ClassId) (st ke : Nat → Nat) (b N : Nat) (u : Nat → va_E) (sm : Int) (kx nx : Nat) (gx : Int → Int) (hkx : kx + 1 < N) (hnx : nx < 65536) (fx0 : u kx = po b kx sm) (fx1 : u (kx + 1) = ir ct nx gx) (ky ny : Nat) (gy : Int → Int) (hky : ky + 1 < N) (hny : ny < 65536) (fy0 : u ky = po b ky sm) (fy1 : u (ky + 1) = ir ct ny gy) (a i : Int) (ha : 0 ≤ a) (hax : a * 8 + 8 ≤ nx) (hay : a * 8 + 8 ≤ ny) (hi0 : 0 ≤ i) (hi8 : i < 8) (hX : ∀ j : Int, 0 ≤ j → j < 8 → 0 ≤ gx (a * 8 + j) ∧ gx (a * 8 + j) ≤ 32369) (hY : ∀ j : Int, 0 ≤ j → j < 8 → 0 ≤ gy (a * 8 + j) ∧ gy (a * 8 + j) ≤ 32369) : Met l y_P_productCoefficient (w_P_productCoefficient) rm_c_pc (va_Pc [.ref (b + kx), .ref (b + ky), .int (iI (a * 8)), .int (iI (i))] (fun U => ev D ct st ke b U ∧ va_P D vwCl (wl N b u) U.heap)) (va_Ql (fun (r : Int64) (z : Nat → va_E) => r = lI (nc (fun j => gx (a * 8 + j)) (fun j => gy (a * 8 + j)) i) ∧ u = z) (fun (z : Nat → va_E) t => va_P D vwCl (wl (N) b (z)) t.heap) (AA b)) 0 0 (AA b) := by
  refine M_l (cc := c9_P_productCoefficient) (maxL := 7) (by decide) rfl (Nat.le_of_ble_eq_true rfl) ?_
  intro p e s m args below meth c Q ls H locs hx hb hml hown hts hnm E hP hS hl ret
  have hl : lv_has ls 7 [(0, .ref (b + kx)), (1, .ref (b + ky)), (2, .int (iI (a * 8))), (3, .int (iI (i)))] := hl
  have hK := ev_K E
  have kk0 := hts (.fieldLink "LevelledRing$Poly" 15 "LevelledRing$Poly" "c" "[I") (List.mem_cons_of_mem _ t_38)
  have hinP : ∀ w ∈ u_ws "LevelledRing$Poly" T_P 2, w ∈ (w_P_productCoefficient) := hin_P _
  have fr0 : ∀ j : Nat, u j = u j := fun _  => rfl
  refine lv_lconst (v := lI 0) hx hb d_P_productCoefficient_0 rfl ?_
  refine lv_lstore (lv' := [(4, .long (lI (0))), (0, .ref (b + kx)), (1, .ref (b + ky)), (2, .int (iI (a * 8))), (3, .int (iI (i)))]) hx hb d_P_productCoefficient_1 hl (by decide) rfl (fun ls hl => ?_)
  refine lv_iconst (v := iI (0)) hx hb d_P_productCoefficient_3 rfl ?_
  refine lv_istore (lv' := [(6, .int (iI (0))), (4, .long (lI (0))), (0, .ref (b + kx)), (1, .ref (b + ky)), (2, .int (iI (a * 8))), (3, .int (iI (i)))]) hx hb d_P_productCoefficient_4 hl (by decide) rfl (fun ls hl => ?_)
  have l2 : ∀ (d2 : Nat) (j : Int) (H : Heap) (locs : List Loc) (ls : Array Slot), (i + 1 ≤ j) → (j ≤ 8) → (8 - j < d2) → va_P D vwCl (wl N b u) H → va_S (AA b) s.heap H locs → lv_has ls 7 [(6, .int (iI (j))), (4, .long (lI (sn (nt (fun j => gx (a * 8 + j)) (fun j => gy (a * 8 + j)) i) (j).toNat))), (0, .ref (b + kx)), (1, .ref (b + ky)), (2, .int (iI (a * 8))), (3, .int (iI (i)))] → W p l e rm_c_pc s m args below meth c H locs 0 0 Q (F0 m 51 ls []) := by
    intro d2
    induction d2 with
    | zero => intro j H locs ls h0 h1 hd hP hS hl; exfalso; omega
    | succ d2 ihl2 =>
      intro j H locs ls h0 h1 hd hP hS hl
      refine lv_iload hx hb d_P_productCoefficient_51 (lv_at hl 0 rfl) ?_
      refine lv_bipush (v := iI (8)) hx hb d_P_productCoefficient_53 (by decide +kernel) ?_
      refine x_icmp_ge (tgt := 95) hx hb ⟨by omega, by omega⟩ ⟨by omega, by omega⟩ d_P_productCoefficient_55 (by decide) (fun hc => ?_) (fun hc => ?_)
      · obtain rfl : j = 8 := by omega
        refine lv_lload hx hb d_P_productCoefficient_95 (lv_at hl 1 rfl) ?_
        exact ret _ u H locs 97 ls ⟨rfl, rfl⟩ hP hS d_P_productCoefficient_97
      · have bx := hX j (by omega) (by omega)
        have by_ := hY (8 + i - j) (by omega) (by omega)
        rw [show a * 8 + (8 + i - j) = a * 8 + 8 + i - j by omega] at by_
        refine lv_lload hx hb d_P_productCoefficient_58 (lv_at hl 1 rfl) ?_
        refine lv_aload_n hx hb d_P_productCoefficient_60 rfl (lv_at hl 2 rfl) ?_
        refine w_get (C := "LevelledRing$Poly") (T := T_P) (M := 2) hx hb hts hinP hown hK hP (kx) (by omega) fx0 rfl 1 (by decide) kk0 (fun _ h => h) rfl d_P_productCoefficient_61 ?_
        refine lv_iload_n hx hb d_P_productCoefficient_64 rfl (lv_at hl 4 rfl) ?_
        refine lv_iload hx hb d_P_productCoefficient_65 (lv_at hl 0 rfl) ?_
        refine x_iadd hx hb d_P_productCoefficient_67 ?_
        refine w_iald hx hb hK hP (kx + 1) (by omega) fx1 (by omega) (by omega) (by omega) d_P_productCoefficient_68 ?_
        refine x_i2l hx hb ⟨by omega, by omega⟩ d_P_productCoefficient_69 ?_
        refine lv_aload_n hx hb d_P_productCoefficient_70 rfl (lv_at hl 3 rfl) ?_
        refine w_get (C := "LevelledRing$Poly") (T := T_P) (M := 2) hx hb hts hinP hown hK hP (ky) (by omega) fy0 rfl 1 (by decide) kk0 (fun _ h => h) rfl d_P_productCoefficient_71 ?_
        refine lv_iload_n hx hb d_P_productCoefficient_74 rfl (lv_at hl 4 rfl) ?_
        refine lv_bipush (v := iI (8)) hx hb d_P_productCoefficient_75 (by decide +kernel) ?_
        refine x_iadd hx hb d_P_productCoefficient_77 ?_
        refine lv_iload_n hx hb d_P_productCoefficient_78 rfl (lv_at hl 5 rfl) ?_
        refine x_iadd hx hb d_P_productCoefficient_79 ?_
        refine lv_iload hx hb d_P_productCoefficient_80 (lv_at hl 0 rfl) ?_
        refine x_isub hx hb d_P_productCoefficient_82 ?_
        refine w_iald hx hb hK hP (ky + 1) (by omega) fy1 (by omega) (by omega) (by omega) d_P_productCoefficient_83 ?_
        refine x_i2l hx hb ⟨by omega, by omega⟩ d_P_productCoefficient_84 ?_
        refine x_lmul hx hb d_P_productCoefficient_85 ?_
        refine x_lsub hx hb d_P_productCoefficient_86 ?_
        refine x_le (y := sn (nt (fun j => gx (a * 8 + j)) (fun j => gy (a * 8 + j)) i) (j + 1).toNat) (by rw [sn_step _ (by omega)]; unfold nt; rw [if_neg (by omega), show a * 8 + 8 + i - j = a * 8 + (8 + i - j) by omega, Int.sub_eq_add_neg]) ?_
        refine lv_lstore (lv' := [(4, .long (lI (sn (nt (fun j => gx (a * 8 + j)) (fun j => gy (a * 8 + j)) i) (j + 1).toNat))), (6, .int (iI (j))), (0, .ref (b + kx)), (1, .ref (b + ky)), (2, .int (iI (a * 8))), (3, .int (iI (i)))]) hx hb d_P_productCoefficient_87 hl (by decide) rfl (fun ls hl => ?_)
        refine lv_iinc (k := 1) (v := iI (j + 1)) (lv' := [(6, .int (iI (j + 1))), (4, .long (lI (sn (nt (fun j => gx (a * 8 + j)) (fun j => gy (a * 8 + j)) i) (j + 1).toNat))), (0, .ref (b + kx)), (1, .ref (b + ky)), (2, .int (iI (a * 8))), (3, .int (iI (i)))]) hx hb d_P_productCoefficient_89 hl rfl (iI_add _ _) (by decide) rfl (fun ls hl => ?_)
        refine lv_goto (tgt := 51) hx hb d_P_productCoefficient_92 (by decide) ?_
        have hl : lv_has ls 7 [(6, .int (iI (j + 1))), (4, .long (lI (sn (nt (fun j => gx (a * 8 + j)) (fun j => gy (a * 8 + j)) i) (j + 1).toNat))), (0, .ref (b + kx)), (1, .ref (b + ky)), (2, .int (iI (a * 8))), (3, .int (iI (i)))] := lv_sub hl [0, 1, 2, 3, 4, 5] rfl
        exact ihl2 (j + 1) H locs ls (by omega) (by omega) (by omega) hP hS hl
  have l1 : ∀ (d : Nat) (j : Int) (H : Heap) (locs : List Loc) (ls : Array Slot), (0 ≤ j) → (j ≤ i + 1) → (i + 1 - j < d) → va_P D vwCl (wl N b u) H → va_S (AA b) s.heap H locs → lv_has ls 7 [(6, .int (iI (j))), (4, .long (lI (sn (nt (fun j => gx (a * 8 + j)) (fun j => gy (a * 8 + j)) i) (j).toNat))), (0, .ref (b + kx)), (1, .ref (b + ky)), (2, .int (iI (a * 8))), (3, .int (iI (i)))] → W p l e rm_c_pc s m args below meth c H locs 0 0 Q (F0 m 6 ls []) := by
    intro d
    induction d with
    | zero => intro j H locs ls h0 h1 hd hP hS hl; exfalso; omega
    | succ d ihl1 =>
      intro j H locs ls h0 h1 hd hP hS hl
      refine lv_iload hx hb d_P_productCoefficient_6 (lv_at hl 0 rfl) ?_
      refine lv_iload_n hx hb d_P_productCoefficient_8 rfl (lv_at hl 5 rfl) ?_
      refine x_icmp_gt (tgt := 46) hx hb ⟨by omega, by omega⟩ ⟨by omega, by omega⟩ d_P_productCoefficient_9 (by decide) (fun hc => ?_) (fun hc => ?_)
      · obtain rfl : j = i + 1 := by omega
        refine lv_iload_n hx hb d_P_productCoefficient_46 rfl (lv_at hl 5 rfl) ?_
        refine lv_iconst (v := iI (1)) hx hb d_P_productCoefficient_47 rfl ?_
        refine x_iadd hx hb d_P_productCoefficient_48 ?_
        refine lv_istore (lv' := [(6, .int (iI (i + 1))), (4, .long (lI (sn (nt (fun j => gx (a * 8 + j)) (fun j => gy (a * 8 + j)) i) (i + 1).toNat))), (0, .ref (b + kx)), (1, .ref (b + ky)), (2, .int (iI (a * 8))), (3, .int (iI (i)))]) hx hb d_P_productCoefficient_49 hl (by decide) rfl (fun ls hl => ?_)
        have hl : lv_has ls 7 [(6, .int (iI (i + 1))), (4, .long (lI (sn (nt (fun j => gx (a * 8 + j)) (fun j => gy (a * 8 + j)) i) (i + 1).toNat))), (0, .ref (b + kx)), (1, .ref (b + ky)), (2, .int (iI (a * 8))), (3, .int (iI (i)))] := lv_sub hl [0, 1, 2, 3, 4, 5] rfl
        exact l2 9 (i + 1) H locs ls (by omega) (by omega) (by omega) hP hS hl
      · have bx := hX j (by omega) (by omega)
        have by_ := hY (i - j) (by omega) (by omega)
        rw [show a * 8 + (i - j) = a * 8 + i - j by omega] at by_
        refine lv_lload hx hb d_P_productCoefficient_12 (lv_at hl 1 rfl) ?_
        refine lv_aload_n hx hb d_P_productCoefficient_14 rfl (lv_at hl 2 rfl) ?_
        refine w_get (C := "LevelledRing$Poly") (T := T_P) (M := 2) hx hb hts hinP hown hK hP (kx) (by omega) fx0 rfl 1 (by decide) kk0 (fun _ h => h) rfl d_P_productCoefficient_15 ?_
        refine lv_iload_n hx hb d_P_productCoefficient_18 rfl (lv_at hl 4 rfl) ?_
        refine lv_iload hx hb d_P_productCoefficient_19 (lv_at hl 0 rfl) ?_
        refine x_iadd hx hb d_P_productCoefficient_21 ?_
        refine w_iald hx hb hK hP (kx + 1) (by omega) fx1 (by omega) (by omega) (by omega) d_P_productCoefficient_22 ?_
        refine x_i2l hx hb ⟨by omega, by omega⟩ d_P_productCoefficient_23 ?_
        refine lv_aload_n hx hb d_P_productCoefficient_24 rfl (lv_at hl 3 rfl) ?_
        refine w_get (C := "LevelledRing$Poly") (T := T_P) (M := 2) hx hb hts hinP hown hK hP (ky) (by omega) fy0 rfl 1 (by decide) kk0 (fun _ h => h) rfl d_P_productCoefficient_25 ?_
        refine lv_iload_n hx hb d_P_productCoefficient_28 rfl (lv_at hl 4 rfl) ?_
        refine lv_iload_n hx hb d_P_productCoefficient_29 rfl (lv_at hl 5 rfl) ?_
        refine x_iadd hx hb d_P_productCoefficient_30 ?_
        refine lv_iload hx hb d_P_productCoefficient_31 (lv_at hl 0 rfl) ?_
        refine x_isub hx hb d_P_productCoefficient_33 ?_
        refine w_iald hx hb hK hP (ky + 1) (by omega) fy1 (by omega) (by omega) (by omega) d_P_productCoefficient_34 ?_
        refine x_i2l hx hb ⟨by omega, by omega⟩ d_P_productCoefficient_35 ?_
        refine x_lmul hx hb d_P_productCoefficient_36 ?_
        refine x_ladd hx hb d_P_productCoefficient_37 ?_
        refine x_le (y := sn (nt (fun j => gx (a * 8 + j)) (fun j => gy (a * 8 + j)) i) (j + 1).toNat) (by rw [sn_step _ (by omega)]; unfold nt; rw [if_pos (by omega), show a * 8 + i - j = a * 8 + (i - j) by omega]) ?_
        refine lv_lstore (lv' := [(4, .long (lI (sn (nt (fun j => gx (a * 8 + j)) (fun j => gy (a * 8 + j)) i) (j + 1).toNat))), (6, .int (iI (j))), (0, .ref (b + kx)), (1, .ref (b + ky)), (2, .int (iI (a * 8))), (3, .int (iI (i)))]) hx hb d_P_productCoefficient_38 hl (by decide) rfl (fun ls hl => ?_)
        refine lv_iinc (k := 1) (v := iI (j + 1)) (lv' := [(6, .int (iI (j + 1))), (4, .long (lI (sn (nt (fun j => gx (a * 8 + j)) (fun j => gy (a * 8 + j)) i) (j + 1).toNat))), (0, .ref (b + kx)), (1, .ref (b + ky)), (2, .int (iI (a * 8))), (3, .int (iI (i)))]) hx hb d_P_productCoefficient_40 hl rfl (iI_add _ _) (by decide) rfl (fun ls hl => ?_)
        refine lv_goto (tgt := 6) hx hb d_P_productCoefficient_43 (by decide) ?_
        have hl : lv_has ls 7 [(6, .int (iI (j + 1))), (4, .long (lI (sn (nt (fun j => gx (a * 8 + j)) (fun j => gy (a * 8 + j)) i) (j + 1).toNat))), (0, .ref (b + kx)), (1, .ref (b + ky)), (2, .int (iI (a * 8))), (3, .int (iI (i)))] := lv_sub hl [0, 1, 2, 3, 4, 5] rfl
        exact ihl1 (j + 1) H locs ls (by omega) (by omega) (by omega) hP hS hl
  exact l1 10 0 H locs ls (by omega) (by omega) (by omega) hP hS hl
abbrev rm_c_copyFrom : Room := { frames := 1, cells := 0, slots := 0, locals := 40 }
set_option maxHeartbeats 4000000 in
set_option maxRecDepth 100000 in
/-- copyFrom(x) -/
theorem c_copyFrom (l : Launch) (D : va_G) (ct : Nat → ClassId) (st ke : Nat → Nat) (b N : Nat) (u : Nat → va_E) (k : Nat) (sm : Int) (n : Nat) (g : Int → Int) (hk : k + 1 < N) (hn : n < 65536) (f0 : u k = po b k sm) (f1 : u (k + 1) = ir ct n g) (kx : Nat) (gx : Int → Int) (hkx : kx + 1 < N) (fx0 : u kx = po b kx sm) (fx1 : u (kx + 1) = ir ct n gx) : Met l y_P_copyFrom (w_P_copyFrom) rm_c_copyFrom (va_Pc [.ref (b + k), .ref (b + kx)] (fun U => ev D ct st ke b U ∧ va_P D vwCl (wl N b u) U.heap)) (va_Qv (fun z : Nat → va_E => ∃ g2 : Int → Int, z (k + 1) = ir ct n g2 ∧ (∀ j : Int, 0 ≤ j → j < n → g2 j = gx j) ∧ ∀ j : Nat, j ≠ k + 1 → z j = u j) (fun (z : Nat → va_E) t => va_P D vwCl (wl (N) b (z)) t.heap) (AA b)) 0 0 (AA b) := by
  refine M_v (cc := c9_P_copyFrom) (maxL := 2) (by decide) rfl (Nat.le_of_ble_eq_true rfl) ?_
  intro p e s m args below meth c Q ls H locs hx hb hml hown hts hnm E hP hS hl ret
  have hl : lv_has ls 2 [(0, .ref (b + k)), (1, .ref (b + kx))] := hl
  have hK := ev_K E
  have kk0 := hts (.fieldLink "LevelledRing$Poly" 15 "LevelledRing$Poly" "c" "[I") (List.mem_cons_of_mem _ t_38)
  have hinP : ∀ w ∈ u_ws "LevelledRing$Poly" T_P 2, w ∈ (w_P_copyFrom) := hin_P _
  have kk2 := hts (.methodLink "LevelledRing$Poly" 22 Lib.Math.min.name) (List.mem_cons_of_mem _ t_228)
  have kk3 := hts (.static Lib.Math.min.name) (List.mem_cons_of_mem _ t_229)
  have kk4 := hts (.initialized "java/lang/Math") (List.mem_cons_of_mem _ t_10)
  have kk5 := hts (.code Lib.Math.min.name Lib.Math.min.code 2 (some .int)) (List.mem_cons_of_mem _ t_230)
  have kk6 := hts (.methodLink "LevelledRing$Poly" 28 arraycopyName) (List.mem_cons_of_mem _ t_231)
  have kk7 := hts (.native arraycopyName) (List.mem_cons_of_mem _ t_233)
  have kk8 := hts (.static arraycopyName) (List.mem_cons_of_mem _ t_232)
  have kk9 := hts (.initialized "java/lang/System") (List.mem_cons_of_mem _ t_11)
  have fr0 : ∀ j : Nat, (j ≠ k + 1) → u j = u j := fun _ _ => rfl
  refine lv_aload_n hx hb d_P_copyFrom_0 rfl (lv_at hl 1 rfl) ?_
  refine w_get (C := "LevelledRing$Poly") (T := T_P) (M := 2) hx hb hts hinP hown hK hP (kx) (by omega) fx0 rfl 1 (by decide) kk0 (fun _ h => h) rfl d_P_copyFrom_1 ?_
  refine lv_iconst (v := iI (0)) hx hb d_P_copyFrom_4 rfl ?_
  refine lv_aload_n hx hb d_P_copyFrom_5 rfl (lv_at hl 0 rfl) ?_
  refine w_get (C := "LevelledRing$Poly") (T := T_P) (M := 2) hx hb hts hinP hown hK hP (k) (by omega) f0 rfl 1 (by decide) kk0 (fun _ h => h) rfl d_P_copyFrom_6 ?_
  refine lv_iconst (v := iI (0)) hx hb d_P_copyFrom_9 rfl ?_
  refine lv_aload_n hx hb d_P_copyFrom_10 rfl (lv_at hl 0 rfl) ?_
  refine w_get (C := "LevelledRing$Poly") (T := T_P) (M := 2) hx hb hts hinP hown hK hP (k) (by omega) f0 rfl 1 (by decide) kk0 (fun _ h => h) rfl d_P_copyFrom_11 ?_
  refine w_alen hx hb hK hP (k + 1) (by omega) f1 d_P_copyFrom_14 ?_
  refine lv_aload_n hx hb d_P_copyFrom_15 rfl (lv_at hl 1 rfl) ?_
  refine w_get (C := "LevelledRing$Poly") (T := T_P) (M := 2) hx hb hts hinP hown hK hP (kx) (by omega) fx0 rfl 1 (by decide) kk0 (fun _ h => h) rfl d_P_copyFrom_16 ?_
  refine w_alen hx hb hK hP (kx + 1) (by omega) fx1 d_P_copyFrom_19 ?_
  refine va_mmin hx hb (hml.trans hl.1.symm) hown kk2 kk3 kk4 kk5 (Nat.le_of_ble_eq_true rfl) (Nat.le_of_ble_eq_true rfl) (Nat.zero_le _) (Nat.zero_le _) d_P_copyFrom_20 ?_
  refine x_i (y := iI n) (by split <;> rfl) ?_
  refine w_copy hx hb (hml.trans hl.1.symm) hown kk6 kk7 kk8 kk9 hK hP hS (kx + 1) (k + 1) (by omega) (by omega) fx1 f1 hn (Nat.le_of_ble_eq_true rfl) (Nat.le_of_ble_eq_true rfl) d_P_copyFrom_23 (fun H locs hP hS => ?_)
  exact ret _ H locs 26 ls ⟨zcp gx g n, up_s, fun j h0 h1 => zcp_in h0 h1, fun j h => up_n h⟩ hP hS d_P_copyFrom_26
