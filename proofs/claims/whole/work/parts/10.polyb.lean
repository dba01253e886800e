abbrev rm_c_addProduct : Room := { frames := 1, cells := 0, slots := 0, locals := 26 }
set_option maxHeartbeats 4000000 in
set_option maxRecDepth 100000 in
/-- addProduct(sg, x, y, top) -/
theorem c_addProduct (l : Launch) (D : va_G) (ct : Nat → ClassId) (st ke : Nat → Nat) (b N : Nat) (u : Nat → va_E) (k : Nat) (sm : Int) (n : Nat) (g : Int → Int) (hk : k + 1 < N) (hn : n < 65536) (f0 : u k = po b k sm) (f1 : u (k + 1) = ir ct n g) (top : Int) (ht0 : 0 ≤ top) (ht3 : top ≤ 3) (hn8 : 8 * (top + 1) ≤ n) (hsm : sm = 0 ∨ sm = 1) (kx nx : Nat) (gx : Int → Int) (hkx : kx + 1 < N) (hnx : nx < 65536) (hnx8 : 8 * (top + 1) ≤ nx) (hnex : kx + 1 ≠ k + 1) (fx0 : u kx = po b kx sm) (fx1 : u (kx + 1) = ir ct nx gx) (ky ny : Nat) (gy : Int → Int) (hky : ky + 1 < N) (hny : ny < 65536) (hny8 : 8 * (top + 1) ≤ ny) (hney : ky + 1 ≠ k + 1) (fy0 : u ky = po b ky sm) (fy1 : u (ky + 1) = ir ct ny gy) (sg : Int) (hsg : sg = 1 ∨ sg = -1) (C X Y : Int → Int) (hC : Rep g sm top C) (hX : Rep gx sm top X) (hY : Rep gy sm top Y) : Met l y_P_addProduct (w_P_addProduct) rm_c_addProduct (va_Pc [.ref (b + k), .int (iI (sg)), .ref (b + kx), .ref (b + ky), .int (iI (top))] (fun U => ev D ct st ke b U ∧ va_P D vwCl (wl N b u) U.heap)) (va_Qv (fun z : Nat → va_E => ∃ g2 : Int → Int, z (k + 1) = ir ct n g2 ∧ (Rep g2 sm top (fun i => C i + sg * nc X Y i)) ∧ ∀ j : Nat, j ≠ k + 1 → z j = u j) (fun (z : Nat → va_E) t => va_P D vwCl (wl (N) b (z)) t.heap) (AA b)) 0 0 (AA b) := by
  refine M_v (cc := c9_P_addProduct) (maxL := 9) (by decide) rfl (Nat.le_of_ble_eq_true rfl) ?_
  intro p e s m args below meth c Q ls H locs hx hb hml hown hts hnm E hP hS hl ret
  have hl : lv_has ls 9 [(0, .ref (b + k)), (1, .int (iI (sg))), (2, .ref (b + kx)), (3, .ref (b + ky)), (4, .int (iI (top)))] := hl
  have hK := ev_K E
  have kk0 := hts (.fieldLink "LevelledRing$Poly" 15 "LevelledRing$Poly" "c" "[I") (List.mem_cons_of_mem _ t_38)
  have hinP : ∀ w ∈ u_ws "LevelledRing$Poly" T_P 2, w ∈ (w_P_addProduct) := hin_P _
  have kk2 := hts (.initialized "LevelledRing") (List.mem_cons_of_mem _ t_1)
  have kk3 := hts (.static y_R_modulo) (List.mem_cons_of_mem _ t_99)
  have kn4 : va_Nw (.methodLinkNest "LevelledRing$Poly" 40 y_R_modulo "LevelledRing") s := ev_W E _ nw_3
  have fr0 : ∀ j : Nat, (j ≠ k + 1) → u j = u j := fun _ _ => rfl
  have hplx : kx ≠ k + 1 := fun h => by rw [h, f1] at fx0; exact absurd fx0 (by intro h; cases h)
  have hply : ky ≠ k + 1 := fun h => by rw [h, f1] at fy0; exact absurd fy0 (by intro h; cases h)
  refine lv_iconst (v := iI (0)) hx hb d_P_addProduct_0 rfl ?_
  refine lv_istore (lv' := [(5, .int (iI (0))), (0, .ref (b + k)), (1, .int (iI (sg))), (2, .ref (b + kx)), (3, .ref (b + ky)), (4, .int (iI (top)))]) hx hb d_P_addProduct_1 hl (by decide) rfl (fun ls hl => ?_)
  have lo : ∀ (d : Nat) (a : Int) (g2 : Int → Int) (w1 : Nat → va_E) (H : Heap) (locs : List Loc) (ls : Array Slot), (0 ≤ a) → (a ≤ top + 1) → (top + 1 - a < d) → (∀ r q : Int, 0 ≤ r → 0 ≤ q → q < 8 → r * 8 + q < a * 8 → g2 (r * 8 + q) = (C q + sg * nc X Y q) % mu sm r) → (∀ j : Int, a * 8 ≤ j → g2 j = g j) → w1 (k + 1) = ir ct n (g2) → (∀ j : Nat, (j ≠ k + 1) → w1 j = u j) → va_P D vwCl (wl N b w1) H → va_S (AA b) s.heap H locs → lv_has ls 9 [(5, .int (iI (a))), (0, .ref (b + k)), (1, .int (iI (sg))), (2, .ref (b + kx)), (3, .ref (b + ky)), (4, .int (iI (top)))] → W p l e rm_c_addProduct s m args below meth c H locs 0 0 Q (F0 m 3 ls []) := by
    intro d
    induction d with
    | zero => intro a g2 w1 H locs ls h0 h1 hd hg hu0 fg2 fr3 hP hS hl; exfalso; omega
    | succ d ihlo =>
      intro a g2 w1 H locs ls h0 h1 hd hg hu0 fg2 fr3 hP hS hl
      have ff4 : w1 k = .inr (3, [.int (iI (sm)), .ref (b + (k + 1))]) := (fr3 k (by omega)).trans f0
      have ff5 : w1 kx = .inr (3, [.int (iI (sm)), .ref (b + (kx + 1))]) := (fr3 kx (by omega)).trans fx0
      have ff6 : w1 (kx + 1) = ir ct nx (gx) := (fr3 (kx + 1) (by omega)).trans fx1
      have ff7 : w1 ky = .inr (3, [.int (iI (sm)), .ref (b + (ky + 1))]) := (fr3 ky (by omega)).trans fy0
      have ff8 : w1 (ky + 1) = ir ct ny (gy) := (fr3 (ky + 1) (by omega)).trans fy1
      refine lv_iload hx hb d_P_addProduct_3 (lv_at hl 0 rfl) ?_
      refine lv_iload hx hb d_P_addProduct_5 (lv_at hl 5 rfl) ?_
      refine x_icmp_gt (tgt := 86) hx hb ⟨by omega, by omega⟩ ⟨by omega, by omega⟩ d_P_addProduct_7 (by decide) (fun hc => ?_) (fun hc => ?_)
      · exact ret w1 H locs 86 ls ⟨g2, fg2, fun r i h2 h3 h4 h5 => hg r i h2 h4 h5 (by omega), fr3⟩ hP hS d_P_addProduct_86
      · have hmu := mu_bd sm a
        refine lv_aload_n hx hb d_P_addProduct_10 rfl (lv_at hl 1 rfl) ?_
        refine lv_iload hx hb d_P_addProduct_11 (lv_at hl 0 rfl) ?_
        refine w_calli (va_runV (As := [.int (iI (a))]) (rest := []) ⟨hx, hb, hml, hown, hts⟩ (c_rowModulus l D ct st ke b N w1 k sm (a) (by omega) ff4 hsm (by omega) (by omega)) (cwV 1 hts (gV t_105 t_107 (tb_sel ((y_P_rowModulus), 2) (List.mem_of_getElem? (i := 0) (by decide +kernel))) t_3 t_108) rfl rfl rfl (by decide +kernel) ⟨Nat.le_of_ble_eq_true rfl, Nat.le_of_ble_eq_true rfl⟩) (pre_V E hP hS (k) (by omega) ff4 rfl) rfl rfl hl.1 rfl (lv_room (Nat.le_of_ble_eq_true rfl)) d_P_addProduct_13 ⟨(Nat.le_of_ble_eq_true rfl), (Nat.le_of_ble_eq_true rfl)⟩) hS (fun r10 z9 H locs hz hP hS => ?_)
        obtain ⟨rfl, rfl⟩ := hz
        refine lv_istore (lv' := [(6, .int (iI (mu sm (a)))), (5, .int (iI (a))), (0, .ref (b + k)), (1, .int (iI (sg))), (2, .ref (b + kx)), (3, .ref (b + ky)), (4, .int (iI (top)))]) hx hb d_P_addProduct_16 hl (by decide) rfl (fun ls hl => ?_)
        refine lv_iconst (v := iI (0)) hx hb d_P_addProduct_18 rfl ?_
        refine lv_istore (lv' := [(7, .int (iI (0))), (6, .int (iI (mu sm (a)))), (5, .int (iI (a))), (0, .ref (b + k)), (1, .int (iI (sg))), (2, .ref (b + kx)), (3, .ref (b + ky)), (4, .int (iI (top)))]) hx hb d_P_addProduct_19 hl (by decide) rfl (fun ls hl => ?_)
        have li : ∀ (d2 : Nat) (i : Int) (g2 : Int → Int) (w11 : Nat → va_E) (H : Heap) (locs : List Loc) (ls : Array Slot), (0 ≤ i) → (i ≤ 8) → (8 - i < d2) → (∀ r q : Int, 0 ≤ r → 0 ≤ q → q < 8 → r * 8 + q < a * 8 + i → g2 (r * 8 + q) = (C q + sg * nc X Y q) % mu sm r) → (∀ j : Int, a * 8 + i ≤ j → g2 j = g j) → w11 (k + 1) = ir ct n (g2) → (∀ j : Nat, (j ≠ k + 1) → w11 j = u j) → va_P D vwCl (wl N b w11) H → va_S (AA b) s.heap H locs → lv_has ls 9 [(7, .int (iI (i))), (6, .int (iI (mu sm (a)))), (5, .int (iI (a))), (0, .ref (b + k)), (1, .int (iI (sg))), (2, .ref (b + kx)), (3, .ref (b + ky)), (4, .int (iI (top)))] → W p l e rm_c_addProduct s m args below meth c H locs 0 0 Q (F0 m 21 ls []) := by
          intro d2
          induction d2 with
          | zero => intro i g2 w11 H locs ls hi0 hi8 hd2 hg hu0 fg12 fr13 hP hS hl; exfalso; omega
          | succ d2 ihli =>
            intro i g2 w11 H locs ls hi0 hi8 hd2 hg hu0 fg12 fr13 hP hS hl
            have ff14 : w11 k = .inr (3, [.int (iI (sm)), .ref (b + (k + 1))]) := (fr13 k (by omega)).trans f0
            have ff15 : w11 kx = .inr (3, [.int (iI (sm)), .ref (b + (kx + 1))]) := (fr13 kx (by omega)).trans fx0
            have ff16 : w11 (kx + 1) = ir ct nx (gx) := (fr13 (kx + 1) (by omega)).trans fx1
            have ff17 : w11 ky = .inr (3, [.int (iI (sm)), .ref (b + (ky + 1))]) := (fr13 ky (by omega)).trans fy0
            have ff18 : w11 (ky + 1) = ir ct ny (gy) := (fr13 (ky + 1) (by omega)).trans fy1
            refine lv_iload hx hb d_P_addProduct_21 (lv_at hl 0 rfl) ?_
            refine lv_bipush (v := iI (8)) hx hb d_P_addProduct_23 (by decide +kernel) ?_
            refine x_icmp_ge (tgt := 80) hx hb ⟨by omega, by omega⟩ ⟨by omega, by omega⟩ d_P_addProduct_25 (by decide) (fun hc => ?_) (fun hc => ?_)
            · refine lv_iinc (k := 2) (v := iI (a + 1)) (lv' := [(5, .int (iI (a + 1))), (7, .int (iI (i))), (6, .int (iI (mu sm (a)))), (0, .ref (b + k)), (1, .int (iI (sg))), (2, .ref (b + kx)), (3, .ref (b + ky)), (4, .int (iI (top)))]) hx hb d_P_addProduct_80 hl rfl (iI_add _ _) (by decide) rfl (fun ls hl => ?_)
              refine lv_goto (tgt := 3) hx hb d_P_addProduct_83 (by decide) ?_
              have hl : lv_has ls 9 [(5, .int (iI (a + 1))), (0, .ref (b + k)), (1, .int (iI (sg))), (2, .ref (b + kx)), (3, .ref (b + ky)), (4, .int (iI (top)))] := lv_sub hl [0, 3, 4, 5, 6, 7] rfl
              exact ihlo (a + 1) g2 w11 H locs ls (by omega) (by omega) (by omega) (fun r i h2 h3 h4 h5 => hg r i h2 h3 h4 (by omega)) (fun j h2 => hu0 j (by omega)) fg12 fr13 hP hS hl
            · have ec := (hu0 (a * 8 + i) (by omega)).trans (hC a i h0 (by omega) (by omega) (by omega))
              have bc := hC.bd (k := a) (i := i) h0 (by omega) (by omega) (by omega)
              rw [← hu0 (a * 8 + i) (by omega)] at bc
              have bX : ∀ j : Int, 0 ≤ j → j < 8 → 0 ≤ gx (a * 8 + j) ∧ gx (a * 8 + j) ≤ 32369 := fun j h2 h3 => by have := hX.bd (k := a) (i := j) h0 (by omega) h2 h3; omega
              have bY : ∀ j : Int, 0 ≤ j → j < 8 → 0 ≤ gy (a * 8 + j) ∧ gy (a * 8 + j) ≤ 32369 := fun j h2 h3 => by have := hY.bd (k := a) (i := j) h0 (by omega) h2 h3; omega
              have bn : -16000000000 ≤ nc (fun j => gx (a * 8 + j)) (fun j => gy (a * 8 + j)) i ∧ nc (fun j => gx (a * 8 + j)) (fun j => gy (a * 8 + j)) i ≤ 16000000000 := by have h := sn_bd (f := nt (fun j => gx (a * 8 + j)) (fun j => gy (a * 8 + j)) i) 8 (fun j h2 h3 => nt_bd bX bY hi0 (by omega) h2 h3); exact ⟨by have := h.1; unfold nc; omega, by have := h.2; unfold nc; omega⟩
              have hsn : -16000000000 ≤ sg * nc (fun j => gx (a * 8 + j)) (fun j => gy (a * 8 + j)) i ∧ sg * nc (fun j => gx (a * 8 + j)) (fun j => gy (a * 8 + j)) i ≤ 16000000000 := by rcases hsg with rfl | rfl <;> omega
              refine lv_iload hx hb d_P_addProduct_28 (lv_at hl 2 rfl) ?_
              refine lv_bipush (v := iI (8)) hx hb d_P_addProduct_30 (by decide +kernel) ?_
              refine x_imul hx hb d_P_addProduct_32 ?_
              refine lv_iload hx hb d_P_addProduct_33 (lv_at hl 0 rfl) ?_
              refine x_iadd hx hb d_P_addProduct_35 ?_
              refine lv_istore (lv' := [(8, .int (iI ((a * 8) + (i)))), (7, .int (iI (i))), (6, .int (iI (mu sm (a)))), (5, .int (iI (a))), (0, .ref (b + k)), (1, .int (iI (sg))), (2, .ref (b + kx)), (3, .ref (b + ky)), (4, .int (iI (top)))]) hx hb d_P_addProduct_36 hl (by decide) rfl (fun ls hl => ?_)
              refine lv_aload_n hx hb d_P_addProduct_38 rfl (lv_at hl 4 rfl) ?_
              refine w_get (C := "LevelledRing$Poly") (T := T_P) (M := 2) hx hb hts hinP hown hK hP (k) (by omega) ff14 rfl 1 (by decide) kk0 (fun _ h => h) rfl d_P_addProduct_39 ?_
              refine lv_iload hx hb d_P_addProduct_42 (lv_at hl 0 rfl) ?_
              refine lv_aload_n hx hb d_P_addProduct_44 rfl (lv_at hl 4 rfl) ?_
              refine w_get (C := "LevelledRing$Poly") (T := T_P) (M := 2) hx hb hts hinP hown hK hP (k) (by omega) ff14 rfl 1 (by decide) kk0 (fun _ h => h) rfl d_P_addProduct_45 ?_
              refine lv_iload hx hb d_P_addProduct_48 (lv_at hl 0 rfl) ?_
              refine w_iald hx hb hK hP (k + 1) (by omega) fg12 (by omega) (by omega) (by omega) d_P_addProduct_50 ?_
              refine x_i2l hx hb ⟨by omega, by omega⟩ d_P_addProduct_51 ?_
              refine lv_iload_n hx hb d_P_addProduct_52 rfl (lv_at hl 5 rfl) ?_
              refine x_i2l hx hb ⟨by omega, by omega⟩ d_P_addProduct_53 ?_
              refine lv_aload_n hx hb d_P_addProduct_54 rfl (lv_at hl 6 rfl) ?_
              refine lv_aload_n hx hb d_P_addProduct_55 rfl (lv_at hl 7 rfl) ?_
              refine lv_iload hx hb d_P_addProduct_56 (lv_at hl 3 rfl) ?_
              refine lv_bipush (v := iI (8)) hx hb d_P_addProduct_58 (by decide +kernel) ?_
              refine x_imul hx hb d_P_addProduct_60 ?_
              refine lv_iload hx hb d_P_addProduct_61 (lv_at hl 1 rfl) ?_
              refine w_calll (va_runS (As := [.ref (b + kx), .ref (b + ky), .int (iI (a * 8)), .int (iI (i))]) (rest := [.long (lI (sg)), .long (lI (g2 ((a * 8) + (i)))), .int (iI ((a * 8) + (i))), .ref (b + (k + 1))]) ⟨hx, hb, hml, hown, hts⟩ (c_pc l D ct st ke b N w11 sm kx nx gx hkx hnx ff15 ff16 ky ny gy hky hny ff17 ff18 a i h0 (by omega) (by omega) hi0 (by omega) bX bY) (cwS 4 hts (gS t_109 t_110 t_3 t_111) rfl rfl rfl (by decide +kernel) ⟨Nat.le_of_ble_eq_true rfl, Nat.le_of_ble_eq_true rfl⟩) (pre_S E hP hS) rfl rfl hl.1 rfl (lv_room (Nat.le_of_ble_eq_true rfl)) d_P_addProduct_63 ⟨(Nat.le_of_ble_eq_true rfl), (Nat.le_of_ble_eq_true rfl)⟩) hS (fun r20 z19 H locs hz hP hS => ?_)
              obtain ⟨rfl, rfl⟩ := hz
              refine x_lmul hx hb d_P_addProduct_66 ?_
              refine x_ladd hx hb d_P_addProduct_67 ?_
              refine lv_iload hx hb d_P_addProduct_68 (lv_at hl 2 rfl) ?_
              refine w_calli (va_runSN (As := [.long (lI ((g2 ((a * 8) + (i))) + ((sg) * (nc (fun j => gx (a * 8 + j)) (fun j => gy (a * 8 + j)) i)))), .int (iI (mu sm (a)))]) (rest := [.int (iI ((a * 8) + (i))), .ref (b + (k + 1))]) ⟨hx, hb, hml, hown, hts⟩ (c_modulo l D ct st ke b N w11 ((g2 ((a * 8) + (i))) + ((sg) * (nc (fun j => gx (a * 8 + j)) (fun j => gy (a * 8 + j)) i))) (mu sm (a)) ⟨by omega, by omega⟩ (by omega) (by omega)) ⟨va_cnB 2 hts (gC t_100) rfl rfl rfl kn4 kk2 (by decide +kernel) ⟨Nat.le_of_ble_eq_true rfl, Nat.le_of_ble_eq_true rfl⟩, kk3, trivial⟩ (pre_S E hP hS) rfl rfl hl.1 rfl (lv_room (Nat.le_of_ble_eq_true rfl)) d_P_addProduct_70 ⟨(Nat.le_of_ble_eq_true rfl), (Nat.le_of_ble_eq_true rfl)⟩) hS (fun r22 z21 H locs hz hP hS => ?_)
              obtain ⟨rfl, rfl⟩ := hz
              refine w_iast hx hb hK hP hS (k + 1) (by omega) fg12 (by omega) (by omega) (by omega) d_P_addProduct_73 (fun H locs hP hS => ?_)
              obtain ⟨u23, hu24, hP⟩ : ∃ zz : Nat → va_E, zz = va_up w11 (k + 1) (ir ct n (zu g2 ((a * 8) + (i)) (((g2 ((a * 8) + (i))) + ((sg) * (nc (fun j => gx (a * 8 + j)) (fun j => gy (a * 8 + j)) i))) % (mu sm (a))))) ∧ va_P D vwCl (wl N b zz) H := ⟨_, rfl, hP⟩
              have ff25 : u23 k = .inr (3, [.int (iI (sm)), .ref (b + (k + 1))]) := (congrFun hu24 _).trans ((up_n (by omega)).trans ff14)
              have ff26 : u23 kx = .inr (3, [.int (iI (sm)), .ref (b + (kx + 1))]) := (congrFun hu24 _).trans ((up_n (by omega)).trans ff15)
              have ff27 : u23 (kx + 1) = ir ct nx (gx) := (congrFun hu24 _).trans ((up_n (by omega)).trans ff16)
              have ff28 : u23 ky = .inr (3, [.int (iI (sm)), .ref (b + (ky + 1))]) := (congrFun hu24 _).trans ((up_n (by omega)).trans ff17)
              have ff29 : u23 (ky + 1) = ir ct ny (gy) := (congrFun hu24 _).trans ((up_n (by omega)).trans ff18)
              have ff30 : u23 (k + 1) = ir ct n (zu g2 ((a * 8) + (i)) (((g2 ((a * 8) + (i))) + ((sg) * (nc (fun j => gx (a * 8 + j)) (fun j => gy (a * 8 + j)) i))) % (mu sm (a)))) := (congrFun hu24 _).trans up_s
              have fr31 : ∀ j : Nat, (j ≠ k + 1) → u23 j = u j := fun j h0 => (congrFun hu24 j).trans ((up_n (by omega)).trans (fr13 j h0))
              refine lv_iinc (k := 1) (v := iI (i + 1)) (lv' := [(7, .int (iI (i + 1))), (8, .int (iI ((a * 8) + (i)))), (6, .int (iI (mu sm (a)))), (5, .int (iI (a))), (0, .ref (b + k)), (1, .int (iI (sg))), (2, .ref (b + kx)), (3, .ref (b + ky)), (4, .int (iI (top)))]) hx hb d_P_addProduct_74 hl rfl (iI_add _ _) (by decide) rfl (fun ls hl => ?_)
              refine lv_goto (tgt := 21) hx hb d_P_addProduct_77 (by decide) ?_
              have hl : lv_has ls 9 [(7, .int (iI (i + 1))), (6, .int (iI (mu sm (a)))), (5, .int (iI (a))), (0, .ref (b + k)), (1, .int (iI (sg))), (2, .ref (b + kx)), (3, .ref (b + ky)), (4, .int (iI (top)))] := lv_sub hl [0, 2, 3, 4, 5, 6, 7, 8] rfl
              refine ihli (i + 1) _ u23 H locs ls (by omega) (by omega) (by omega) (fun r i2 h2 h3 h4 h5 => ?_) (fun j h2 => by rw [zu_n (by omega)]; exact hu0 j (by omega)) ff30 fr31 hP hS hl
              by_cases h6 : r * 8 + i2 = a * 8 + i
              · obtain ⟨rfl, rfl⟩ : r = a ∧ i2 = i := by omega
                rw [zu_s, ec]
                exact cg_add cg_mod (cg_mul cg_r (nc_cg (fun j h7 h8 => by rw [show gx (r * 8 + j) = X j % mu sm r from hX r j h2 (by omega) h7 h8]; exact cg_mod) (fun j h7 h8 => by rw [show gy (r * 8 + j) = Y j % mu sm r from hY r j h2 (by omega) h7 h8]; exact cg_mod) h3 h4))
              · rw [zu_n h6]
                exact hg r i2 h2 h3 h4 (by omega)
        exact li 9 0 g2 w1 H locs ls (by omega) (by omega) (by omega) (fun r i h2 h3 h4 h5 => hg r i h2 h3 h4 (by omega)) (fun j h2 => hu0 j (by omega)) fg2 fr3 hP hS hl
  exact lo (top + 2).toNat 0 g u H locs ls (by omega) (by omega) (by omega) (fun r i h2 h3 h4 h5 => by omega) (fun _ _ => rfl) f1 fr0 hP hS hl
abbrev rm_c_addSmall : Room := { frames := 1, cells := 0, slots := 0, locals := 23 }
set_option maxHeartbeats 4000000 in
set_option maxRecDepth 100000 in
/-- addSmall(x) -/
theorem c_addSmall (l : Launch) (D : va_G) (ct : Nat → ClassId) (st ke : Nat → Nat) (b N : Nat) (u : Nat → va_E) (k : Nat) (sm : Int) (g : Int → Int) (hk : k + 1 < N) (f0 : u k = po b k sm) (f1 : u (k + 1) = ir ct 32 g) (kx nx : Nat) (smx : Int) (gx : Int → Int) (hkx : kx + 1 < N) (hnx : nx < 65536) (hnx8 : 8 ≤ nx) (hnex : kx + 1 ≠ k + 1) (fx0 : u kx = po b kx smx) (fx1 : u (kx + 1) = ir ct nx gx) (hX : ∀ i : Int, 0 ≤ i → i < 8 → 0 ≤ gx i ∧ gx i ≤ 32369) (C : Int → Int) (hC : Rep g 0 3 C) : Met l y_P_addSmall (w_P_addSmall) rm_c_addSmall (va_Pc [.ref (b + k), .ref (b + kx)] (fun U => ev D ct st ke b U ∧ va_P D vwCl (wl N b u) U.heap)) (va_Qv (fun z : Nat → va_E => ∃ g2 : Int → Int, z (k + 1) = ir ct 32 g2 ∧ (Rep g2 0 3 (fun i => C i + gx i)) ∧ ∀ j : Nat, j ≠ k + 1 → z j = u j) (fun (z : Nat → va_E) t => va_P D vwCl (wl (N) b (z)) t.heap) (AA b)) 0 0 (AA b) := by
  refine M_v (cc := c9_P_addSmall) (maxL := 4) (by decide) rfl (Nat.le_of_ble_eq_true rfl) ?_
  intro p e s m args below meth c Q ls H locs hx hb hml hown hts hnm E hP hS hl ret
  have hl : lv_has ls 4 [(0, .ref (b + k)), (1, .ref (b + kx))] := hl
  have hK := ev_K E
  have kk0 := hts (.fieldLink "LevelledRing$Poly" 15 "LevelledRing$Poly" "c" "[I") (List.mem_cons_of_mem _ t_38)
  have hinP : ∀ w ∈ u_ws "LevelledRing$Poly" T_P 2, w ∈ (w_P_addSmall) := hin_P _
  have kk2 : ((.fieldLinkNest "LevelledRing$Poly" 19 "LevelledRing" "PRIMES" "[I" "LevelledRing") : Cond).before args s = true := va_Nw.use rfl (ev_W E _ nw_2)
  have kk3 := hts (.initialized "LevelledRing") (List.mem_cons_of_mem _ t_1)
  have kk4 := hts (.static y_R_modulo) (List.mem_cons_of_mem _ t_99)
  have kn5 : va_Nw (.methodLinkNest "LevelledRing$Poly" 40 y_R_modulo "LevelledRing") s := ev_W E _ nw_3
  have fr0 : ∀ j : Nat, (j ≠ k + 1) → u j = u j := fun _ _ => rfl
  have hplx : kx ≠ k + 1 := fun h => by rw [h, f1] at fx0; exact absurd fx0 (by intro h; cases h)
  refine lv_iconst (v := iI (0)) hx hb d_P_addSmall_0 rfl ?_
  refine lv_istore_n (lv' := [(2, .int (iI (0))), (0, .ref (b + k)), (1, .ref (b + kx))]) hx hb d_P_addSmall_1 rfl hl (by decide) rfl (fun ls hl => ?_)
  have lo : ∀ (d : Nat) (a : Int) (g2 : Int → Int) (w1 : Nat → va_E) (H : Heap) (locs : List Loc) (ls : Array Slot), (0 ≤ a) → (a ≤ 4) → (4 - a < d) → (∀ r q : Int, 0 ≤ r → 0 ≤ q → q < 8 → r * 8 + q < a * 8 → g2 (r * 8 + q) = (C q + gx q) % mu 0 r) → (∀ j : Int, a * 8 ≤ j → g2 j = g j) → w1 (k + 1) = ir ct 32 (g2) → (∀ j : Nat, (j ≠ k + 1) → w1 j = u j) → va_P D vwCl (wl N b w1) H → va_S (AA b) s.heap H locs → lv_has ls 4 [(2, .int (iI (a))), (0, .ref (b + k)), (1, .ref (b + kx))] → W p l e rm_c_addSmall s m args below meth c H locs 0 0 Q (F0 m 2 ls []) := by
    intro d
    induction d with
    | zero => intro a g2 w1 H locs ls h0 h1 hd hg hu0 fg2 fr3 hP hS hl; exfalso; omega
    | succ d ihlo =>
      intro a g2 w1 H locs ls h0 h1 hd hg hu0 fg2 fr3 hP hS hl
      have ff4 : w1 k = .inr (3, [.int (iI (sm)), .ref (b + (k + 1))]) := (fr3 k (by omega)).trans f0
      have ff5 : w1 kx = .inr (3, [.int (iI (smx)), .ref (b + (kx + 1))]) := (fr3 kx (by omega)).trans fx0
      have ff6 : w1 (kx + 1) = ir ct nx (gx) := (fr3 (kx + 1) (by omega)).trans fx1
      refine lv_iload_n hx hb d_P_addSmall_2 rfl (lv_at hl 0 rfl) ?_
      refine lv_iconst (v := iI (4)) hx hb d_P_addSmall_3 rfl ?_
      refine x_icmp_ge (tgt := 65) hx hb ⟨by omega, by omega⟩ ⟨by omega, by omega⟩ d_P_addSmall_4 (by decide) (fun hc => ?_) (fun hc => ?_)
      · exact ret w1 H locs 65 ls ⟨g2, fg2, fun r i h2 h3 h4 h5 => hg r i h2 h4 h5 (by omega), fr3⟩ hP hS d_P_addSmall_65
      · have hmu := lq_bd a
        refine lv_iconst (v := iI (0)) hx hb d_P_addSmall_7 rfl ?_
        refine lv_istore_n (lv' := [(3, .int (iI (0))), (2, .int (iI (a))), (0, .ref (b + k)), (1, .ref (b + kx))]) hx hb d_P_addSmall_8 rfl hl (by decide) rfl (fun ls hl => ?_)
        have li : ∀ (d2 : Nat) (i : Int) (g2 : Int → Int) (w7 : Nat → va_E) (H : Heap) (locs : List Loc) (ls : Array Slot), (0 ≤ i) → (i ≤ 8) → (8 - i < d2) → (∀ r q : Int, 0 ≤ r → 0 ≤ q → q < 8 → r * 8 + q < a * 8 + i → g2 (r * 8 + q) = (C q + gx q) % mu 0 r) → (∀ j : Int, a * 8 + i ≤ j → g2 j = g j) → w7 (k + 1) = ir ct 32 (g2) → (∀ j : Nat, (j ≠ k + 1) → w7 j = u j) → va_P D vwCl (wl N b w7) H → va_S (AA b) s.heap H locs → lv_has ls 4 [(3, .int (iI (i))), (2, .int (iI (a))), (0, .ref (b + k)), (1, .ref (b + kx))] → W p l e rm_c_addSmall s m args below meth c H locs 0 0 Q (F0 m 9 ls []) := by
          intro d2
          induction d2 with
          | zero => intro i g2 w7 H locs ls hi0 hi8 hd2 hg hu0 fg8 fr9 hP hS hl; exfalso; omega
          | succ d2 ihli =>
            intro i g2 w7 H locs ls hi0 hi8 hd2 hg hu0 fg8 fr9 hP hS hl
            have ff10 : w7 k = .inr (3, [.int (iI (sm)), .ref (b + (k + 1))]) := (fr9 k (by omega)).trans f0
            have ff11 : w7 kx = .inr (3, [.int (iI (smx)), .ref (b + (kx + 1))]) := (fr9 kx (by omega)).trans fx0
            have ff12 : w7 (kx + 1) = ir ct nx (gx) := (fr9 (kx + 1) (by omega)).trans fx1
            refine lv_iload_n hx hb d_P_addSmall_9 rfl (lv_at hl 0 rfl) ?_
            refine lv_bipush (v := iI (8)) hx hb d_P_addSmall_10 (by decide +kernel) ?_
            refine x_icmp_ge (tgt := 59) hx hb ⟨by omega, by omega⟩ ⟨by omega, by omega⟩ d_P_addSmall_12 (by decide) (fun hc => ?_) (fun hc => ?_)
            · refine lv_iinc (k := 1) (v := iI (a + 1)) (lv' := [(2, .int (iI (a + 1))), (3, .int (iI (i))), (0, .ref (b + k)), (1, .ref (b + kx))]) hx hb d_P_addSmall_59 hl rfl (iI_add _ _) (by decide) rfl (fun ls hl => ?_)
              refine lv_goto (tgt := 2) hx hb d_P_addSmall_62 (by decide) ?_
              have hl : lv_has ls 4 [(2, .int (iI (a + 1))), (0, .ref (b + k)), (1, .ref (b + kx))] := lv_sub hl [0, 2, 3] rfl
              exact ihlo (a + 1) g2 w7 H locs ls (by omega) (by omega) (by omega) (fun r i h2 h3 h4 h5 => hg r i h2 h3 h4 (by omega)) (fun j h2 => hu0 j (by omega)) fg8 fr9 hP hS hl
            · have ec := (hu0 (a * 8 + i) (by omega)).trans (hC a i h0 (by omega) (by omega) (by omega))
              have bc := hC.bd (k := a) (i := i) h0 (by omega) (by omega) (by omega)
              have hmu2 := mu_bd 0 a
              rw [← hu0 (a * 8 + i) (by omega)] at bc
              have bx := hX i hi0 (by omega)
              refine lv_aload_n hx hb d_P_addSmall_15 rfl (lv_at hl 2 rfl) ?_
              refine w_get (C := "LevelledRing$Poly") (T := T_P) (M := 2) hx hb hts hinP hown hK hP (k) (by omega) ff10 rfl 1 (by decide) kk0 (fun _ h => h) rfl d_P_addSmall_16 ?_
              refine lv_iload_n hx hb d_P_addSmall_19 rfl (lv_at hl 1 rfl) ?_
              refine lv_bipush (v := iI (8)) hx hb d_P_addSmall_20 (by decide +kernel) ?_
              refine x_imul hx hb d_P_addSmall_22 ?_
              refine lv_iload_n hx hb d_P_addSmall_23 rfl (lv_at hl 0 rfl) ?_
              refine x_iadd hx hb d_P_addSmall_24 ?_
              refine lv_aload_n hx hb d_P_addSmall_25 rfl (lv_at hl 2 rfl) ?_
              refine w_get (C := "LevelledRing$Poly") (T := T_P) (M := 2) hx hb hts hinP hown hK hP (k) (by omega) ff10 rfl 1 (by decide) kk0 (fun _ h => h) rfl d_P_addSmall_26 ?_
              refine lv_iload_n hx hb d_P_addSmall_29 rfl (lv_at hl 1 rfl) ?_
              refine lv_bipush (v := iI (8)) hx hb d_P_addSmall_30 (by decide +kernel) ?_
              refine x_imul hx hb d_P_addSmall_32 ?_
              refine lv_iload_n hx hb d_P_addSmall_33 rfl (lv_at hl 0 rfl) ?_
              refine x_iadd hx hb d_P_addSmall_34 ?_
              refine w_iald hx hb hK hP (k + 1) (by omega) fg8 (by omega) (by omega) (by omega) d_P_addSmall_35 ?_
              refine lv_aload_n hx hb d_P_addSmall_36 rfl (lv_at hl 3 rfl) ?_
              refine w_get (C := "LevelledRing$Poly") (T := T_P) (M := 2) hx hb hts hinP hown hK hP (kx) (by omega) ff11 rfl 1 (by decide) kk0 (fun _ h => h) rfl d_P_addSmall_37 ?_
              refine lv_iload_n hx hb d_P_addSmall_40 rfl (lv_at hl 0 rfl) ?_
              refine w_iald hx hb hK hP (kx + 1) (by omega) ff12 (by omega) (by omega) (by omega) d_P_addSmall_41 ?_
              refine x_iadd hx hb d_P_addSmall_42 ?_
              refine x_i2l hx hb ⟨by omega, by omega⟩ d_P_addSmall_43 ?_
              refine va_getsN hx hb (ev_Z0 E) hS hown kk2 (fun _ h => h) d_P_addSmall_44 ?_
              refine lv_iload_n hx hb d_P_addSmall_47 rfl (lv_at hl 1 rfl) ?_
              refine x_ti hx hb (ev_T0 E) hS (by omega) (by omega) (by decide) d_P_addSmall_48 ?_
              refine w_calli (va_runSN (As := [.long (lI ((g2 ((a * 8) + (i))) + (gx (i)))), .int (iI (lq (a)))]) (rest := [.int (iI ((a * 8) + (i))), .ref (b + (k + 1))]) ⟨hx, hb, hml, hown, hts⟩ (c_modulo l D ct st ke b N w7 ((g2 ((a * 8) + (i))) + (gx (i))) (lq (a)) ⟨by omega, by omega⟩ (by omega) (by omega)) ⟨va_cnB 2 hts (gC t_100) rfl rfl rfl kn5 kk3 (by decide +kernel) ⟨Nat.le_of_ble_eq_true rfl, Nat.le_of_ble_eq_true rfl⟩, kk4, trivial⟩ (pre_S E hP hS) rfl rfl hl.1 rfl (lv_room (Nat.le_of_ble_eq_true rfl)) d_P_addSmall_49 ⟨(Nat.le_of_ble_eq_true rfl), (Nat.le_of_ble_eq_true rfl)⟩) hS (fun r14 z13 H locs hz hP hS => ?_)
              obtain ⟨rfl, rfl⟩ := hz
              refine w_iast hx hb hK hP hS (k + 1) (by omega) fg8 (by omega) (by omega) (by omega) d_P_addSmall_52 (fun H locs hP hS => ?_)
              obtain ⟨u15, hu16, hP⟩ : ∃ zz : Nat → va_E, zz = va_up w7 (k + 1) (ir ct 32 (zu g2 ((a * 8) + (i)) (((g2 ((a * 8) + (i))) + (gx (i))) % (lq (a))))) ∧ va_P D vwCl (wl N b zz) H := ⟨_, rfl, hP⟩
              have ff17 : u15 k = .inr (3, [.int (iI (sm)), .ref (b + (k + 1))]) := (congrFun hu16 _).trans ((up_n (by omega)).trans ff10)
              have ff18 : u15 kx = .inr (3, [.int (iI (smx)), .ref (b + (kx + 1))]) := (congrFun hu16 _).trans ((up_n (by omega)).trans ff11)
              have ff19 : u15 (kx + 1) = ir ct nx (gx) := (congrFun hu16 _).trans ((up_n (by omega)).trans ff12)
              have ff20 : u15 (k + 1) = ir ct 32 (zu g2 ((a * 8) + (i)) (((g2 ((a * 8) + (i))) + (gx (i))) % (lq (a)))) := (congrFun hu16 _).trans up_s
              have fr21 : ∀ j : Nat, (j ≠ k + 1) → u15 j = u j := fun j h0 => (congrFun hu16 j).trans ((up_n (by omega)).trans (fr9 j h0))
              refine lv_iinc (k := 0) (v := iI (i + 1)) (lv' := [(3, .int (iI (i + 1))), (2, .int (iI (a))), (0, .ref (b + k)), (1, .ref (b + kx))]) hx hb d_P_addSmall_53 hl rfl (iI_add _ _) (by decide) rfl (fun ls hl => ?_)
              refine lv_goto (tgt := 9) hx hb d_P_addSmall_56 (by decide) ?_
              refine ihli (i + 1) _ u15 H locs ls (by omega) (by omega) (by omega) (fun r i2 h2 h3 h4 h5 => ?_) (fun j h2 => by rw [zu_n (by omega)]; exact hu0 j (by omega)) ff20 fr21 hP hS hl
              by_cases h6 : r * 8 + i2 = a * 8 + i
              · obtain ⟨rfl, rfl⟩ : r = a ∧ i2 = i := by omega
                rw [zu_s, ec]
                exact cg_add cg_mod cg_r
              · rw [zu_n h6]
                exact hg r i2 h2 h3 h4 (by omega)
        exact li 9 0 g2 w1 H locs ls (by omega) (by omega) (by omega) (fun r i h2 h3 h4 h5 => hg r i h2 h3 h4 (by omega)) (fun j h2 => hu0 j (by omega)) fg2 fr3 hP hS hl
  exact lo 5 0 g u H locs ls (by omega) (by omega) (by omega) (fun r i h2 h3 h4 h5 => by omega) (fun _ _ => rfl) f1 fr0 hP hS hl
abbrev rm_c_addRow : Room := { frames := 1, cells := 0, slots := 0, locals := 23 }
set_option maxHeartbeats 4000000 in
set_option maxRecDepth 100000 in
/-- addRow(x, row) -/
theorem c_addRow (l : Launch) (D : va_G) (ct : Nat → ClassId) (st ke : Nat → Nat) (b N : Nat) (u : Nat → va_E) (k : Nat) (g : Int → Int) (hk : k + 1 < N) (f0 : u k = po b k 0) (f1 : u (k + 1) = ir ct 32 g) (kx : Nat) (gx : Int → Int) (hkx : kx + 1 < N) (hnex : kx + 1 ≠ k + 1) (fx0 : u kx = po b kx 0) (fx1 : u (kx + 1) = ir ct 32 gx) (row : Int) (hr0 : 0 ≤ row) (hr3 : row ≤ 3) (C X : Int → Int) (hC : Rep g 0 3 C) (hX : Rep gx 0 3 X) : Met l y_P_addRow (w_P_addRow) rm_c_addRow (va_Pc [.ref (b + k), .ref (b + kx), .int (iI (row))] (fun U => ev D ct st ke b U ∧ va_P D vwCl (wl N b u) U.heap)) (va_Qv (fun z : Nat → va_E => ∃ g2 : Int → Int, z (k + 1) = ir ct 32 g2 ∧ (Rep g2 0 3 (fun i => C i + un row * X i)) ∧ ∀ j : Nat, j ≠ k + 1 → z j = u j) (fun (z : Nat → va_E) t => va_P D vwCl (wl (N) b (z)) t.heap) (AA b)) 0 0 (AA b) := by
  refine M_v (cc := c9_P_addRow) (maxL := 4) (by decide) rfl (Nat.le_of_ble_eq_true rfl) ?_
  intro p e s m args below meth c Q ls H locs hx hb hml hown hts hnm E hP hS hl ret
  have hl : lv_has ls 4 [(0, .ref (b + k)), (1, .ref (b + kx)), (2, .int (iI (row)))] := hl
  have hK := ev_K E
  have kk0 := hts (.fieldLink "LevelledRing$Poly" 15 "LevelledRing$Poly" "c" "[I") (List.mem_cons_of_mem _ t_38)
  have hinP : ∀ w ∈ u_ws "LevelledRing$Poly" T_P 2, w ∈ (w_P_addRow) := hin_P _
  have kk2 := hts (.initialized "LevelledRing") (List.mem_cons_of_mem _ t_1)
  have kk3 := hts (.static y_R_modulo) (List.mem_cons_of_mem _ t_99)
  have kn4 : va_Nw (.methodLinkNest "LevelledRing$Poly" 40 y_R_modulo "LevelledRing") s := ev_W E _ nw_3
  have fr0 : ∀ j : Nat, (j ≠ k + 1) → u j = u j := fun _ _ => rfl
  have hplx : kx ≠ k + 1 := fun h => by rw [h, f1] at fx0; exact absurd fx0 (by intro h; cases h)
  have hsm : (0 : Int) = 0 ∨ (0 : Int) = 1 := Or.inl rfl
  have hmu := mu_bd 0 row
  refine lv_iload_n hx hb d_P_addRow_0 rfl (lv_at hl 2 rfl) ?_
  refine lv_bipush (v := iI (8)) hx hb d_P_addRow_1 (by decide +kernel) ?_
  refine x_imul hx hb d_P_addRow_3 ?_
  refine lv_istore_n (lv' := [(3, .int (iI (row * 8))), (0, .ref (b + k)), (1, .ref (b + kx)), (2, .int (iI (row)))]) hx hb d_P_addRow_4 rfl hl (by decide) rfl (fun ls hl => ?_)
  have lo : ∀ (d : Nat) (i : Int) (g2 : Int → Int) (w1 : Nat → va_E) (H : Heap) (locs : List Loc) (ls : Array Slot), (0 ≤ i) → (i ≤ 8) → (8 - i < d) → (∀ i2 : Int, 0 ≤ i2 → i2 < i → g2 (row * 8 + i2) = (C i2 + X i2) % mu 0 row) → (∀ j : Int, (j < row * 8 ∨ row * 8 + i ≤ j) → g2 j = g j) → w1 (k + 1) = ir ct 32 (g2) → (∀ j : Nat, (j ≠ k + 1) → w1 j = u j) → va_P D vwCl (wl N b w1) H → va_S (AA b) s.heap H locs → lv_has ls 4 [(3, .int (iI (row * 8 + i))), (0, .ref (b + k)), (1, .ref (b + kx)), (2, .int (iI (row)))] → W p l e rm_c_addRow s m args below meth c H locs 0 0 Q (F0 m 5 ls []) := by
    intro d
    induction d with
    | zero => intro i g2 w1 H locs ls hi0 hi8 hd hg hu0 fg2 fr3 hP hS hl; exfalso; omega
    | succ d ihlo =>
      intro i g2 w1 H locs ls hi0 hi8 hd hg hu0 fg2 fr3 hP hS hl
      have ff4 : w1 k = .inr (3, [.int (iI (0)), .ref (b + (k + 1))]) := (fr3 k (by omega)).trans f0
      have ff5 : w1 kx = .inr (3, [.int (iI (0)), .ref (b + (kx + 1))]) := (fr3 kx (by omega)).trans fx0
      have ff6 : w1 (kx + 1) = ir ct 32 (gx) := (fr3 (kx + 1) (by omega)).trans fx1
      refine lv_iload_n hx hb d_P_addRow_5 rfl (lv_at hl 0 rfl) ?_
      refine lv_iload_n hx hb d_P_addRow_6 rfl (lv_at hl 3 rfl) ?_
      refine lv_iconst (v := iI (1)) hx hb d_P_addRow_7 rfl ?_
      refine x_iadd hx hb d_P_addRow_8 ?_
      refine lv_bipush (v := iI (8)) hx hb d_P_addRow_9 (by decide +kernel) ?_
      refine x_imul hx hb d_P_addRow_11 ?_
      refine x_icmp_ge (tgt := 49) hx hb ⟨by omega, by omega⟩ ⟨by omega, by omega⟩ d_P_addRow_12 (by decide) (fun hc => ?_) (fun hc => ?_)
      · refine ret w1 H locs 49 ls ⟨g2, fg2, fun r i2 h2 h3 h4 h5 => ?_, fr3⟩ hP hS d_P_addRow_49
        have eu := un_cg (j := row) (k := r) hr0 hr3 h2 h3
        have em : mu 0 r = lq r := by unfold mu; rw [if_pos rfl]
        by_cases h6 : row = r
        · subst h6
          rw [hg i2 h4 (by omega), em]
          rw [if_pos rfl] at eu
          have h7 := cg_add (cg_r (m := lq row) (a := C i2)) (cg_mul (cg_s eu) (cg_r (a := X i2)))
          rwa [Int.one_mul] at h7
        · rw [hu0 (r * 8 + i2) (by omega), hC r i2 h2 h3 h4 h5, em]
          rw [if_neg h6] at eu
          have h7 := cg_add (cg_r (m := lq r) (a := C i2)) (cg_mul (cg_s eu) (cg_r (a := X i2)))
          rwa [Int.zero_mul, Int.add_zero] at h7
      · have ec := (hu0 (row * 8 + i) (by omega)).trans (hC row i hr0 (by omega) (by omega) (by omega))
        have bc := hC.bd (k := row) (i := i) hr0 (by omega) (by omega) (by omega)
        rw [← hu0 (row * 8 + i) (by omega)] at bc
        have ex := hX row i hr0 (by omega) (by omega) (by omega)
        have bx := hX.bd (k := row) (i := i) hr0 (by omega) (by omega) (by omega)
        refine lv_aload_n hx hb d_P_addRow_15 rfl (lv_at hl 1 rfl) ?_
        refine w_get (C := "LevelledRing$Poly") (T := T_P) (M := 2) hx hb hts hinP hown hK hP (k) (by omega) ff4 rfl 1 (by decide) kk0 (fun _ h => h) rfl d_P_addRow_16 ?_
        refine lv_iload_n hx hb d_P_addRow_19 rfl (lv_at hl 0 rfl) ?_
        refine lv_aload_n hx hb d_P_addRow_20 rfl (lv_at hl 1 rfl) ?_
        refine w_get (C := "LevelledRing$Poly") (T := T_P) (M := 2) hx hb hts hinP hown hK hP (k) (by omega) ff4 rfl 1 (by decide) kk0 (fun _ h => h) rfl d_P_addRow_21 ?_
        refine lv_iload_n hx hb d_P_addRow_24 rfl (lv_at hl 0 rfl) ?_
        refine w_iald hx hb hK hP (k + 1) (by omega) fg2 (by omega) (by omega) (by omega) d_P_addRow_25 ?_
        refine lv_aload_n hx hb d_P_addRow_26 rfl (lv_at hl 2 rfl) ?_
        refine w_get (C := "LevelledRing$Poly") (T := T_P) (M := 2) hx hb hts hinP hown hK hP (kx) (by omega) ff5 rfl 1 (by decide) kk0 (fun _ h => h) rfl d_P_addRow_27 ?_
        refine lv_iload_n hx hb d_P_addRow_30 rfl (lv_at hl 0 rfl) ?_
        refine w_iald hx hb hK hP (kx + 1) (by omega) ff6 (by omega) (by omega) (by omega) d_P_addRow_31 ?_
        refine x_iadd hx hb d_P_addRow_32 ?_
        refine x_i2l hx hb ⟨by omega, by omega⟩ d_P_addRow_33 ?_
        refine lv_aload_n hx hb d_P_addRow_34 rfl (lv_at hl 1 rfl) ?_
        refine lv_iload_n hx hb d_P_addRow_35 rfl (lv_at hl 3 rfl) ?_
        refine w_calli (va_runV (As := [.int (iI (row))]) (rest := [.long (lI ((g2 (row * 8 + i)) + (gx (row * 8 + i)))), .int (iI (row * 8 + i)), .ref (b + (k + 1))]) ⟨hx, hb, hml, hown, hts⟩ (c_rowModulus l D ct st ke b N w1 k 0 (row) (by omega) ff4 hsm (by omega) (by omega)) (cwV 1 hts (gV t_105 t_107 (tb_sel ((y_P_rowModulus), 2) (List.mem_of_getElem? (i := 0) (by decide +kernel))) t_3 t_108) rfl rfl rfl (by decide +kernel) ⟨Nat.le_of_ble_eq_true rfl, Nat.le_of_ble_eq_true rfl⟩) (pre_V E hP hS (k) (by omega) ff4 rfl) rfl rfl hl.1 rfl (lv_room (Nat.le_of_ble_eq_true rfl)) d_P_addRow_36 ⟨(Nat.le_of_ble_eq_true rfl), (Nat.le_of_ble_eq_true rfl)⟩) hS (fun r8 z7 H locs hz hP hS => ?_)
        obtain ⟨rfl, rfl⟩ := hz
        refine w_calli (va_runSN (As := [.long (lI ((g2 (row * 8 + i)) + (gx (row * 8 + i)))), .int (iI (mu 0 (row)))]) (rest := [.int (iI (row * 8 + i)), .ref (b + (k + 1))]) ⟨hx, hb, hml, hown, hts⟩ (c_modulo l D ct st ke b N w1 ((g2 (row * 8 + i)) + (gx (row * 8 + i))) (mu 0 (row)) ⟨by omega, by omega⟩ (by omega) (by omega)) ⟨va_cnB 2 hts (gC t_100) rfl rfl rfl kn4 kk2 (by decide +kernel) ⟨Nat.le_of_ble_eq_true rfl, Nat.le_of_ble_eq_true rfl⟩, kk3, trivial⟩ (pre_S E hP hS) rfl rfl hl.1 rfl (lv_room (Nat.le_of_ble_eq_true rfl)) d_P_addRow_39 ⟨(Nat.le_of_ble_eq_true rfl), (Nat.le_of_ble_eq_true rfl)⟩) hS (fun r10 z9 H locs hz hP hS => ?_)
        obtain ⟨rfl, rfl⟩ := hz
        refine w_iast hx hb hK hP hS (k + 1) (by omega) fg2 (by omega) (by omega) (by omega) d_P_addRow_42 (fun H locs hP hS => ?_)
        obtain ⟨u11, hu12, hP⟩ : ∃ zz : Nat → va_E, zz = va_up w1 (k + 1) (ir ct 32 (zu g2 (row * 8 + i) (((g2 (row * 8 + i)) + (gx (row * 8 + i))) % (mu 0 (row))))) ∧ va_P D vwCl (wl N b zz) H := ⟨_, rfl, hP⟩
        have ff13 : u11 k = .inr (3, [.int (iI (0)), .ref (b + (k + 1))]) := (congrFun hu12 _).trans ((up_n (by omega)).trans ff4)
        have ff14 : u11 kx = .inr (3, [.int (iI (0)), .ref (b + (kx + 1))]) := (congrFun hu12 _).trans ((up_n (by omega)).trans ff5)
        have ff15 : u11 (kx + 1) = ir ct 32 (gx) := (congrFun hu12 _).trans ((up_n (by omega)).trans ff6)
        have ff16 : u11 (k + 1) = ir ct 32 (zu g2 (row * 8 + i) (((g2 (row * 8 + i)) + (gx (row * 8 + i))) % (mu 0 (row)))) := (congrFun hu12 _).trans up_s
        have fr17 : ∀ j : Nat, (j ≠ k + 1) → u11 j = u j := fun j h0 => (congrFun hu12 j).trans ((up_n (by omega)).trans (fr3 j h0))
        refine lv_iinc (k := 0) (v := iI (row * 8 + i + 1)) (lv' := [(3, .int (iI (row * 8 + i + 1))), (0, .ref (b + k)), (1, .ref (b + kx)), (2, .int (iI (row)))]) hx hb d_P_addRow_43 hl rfl (iI_add _ _) (by decide) rfl (fun ls hl => ?_)
        have hl : lv_has ls 4 [(3, .int (iI (row * 8 + (i + 1)))), (0, .ref (b + k)), (1, .ref (b + kx)), (2, .int (iI (row)))] := by rw [show row * 8 + (i + 1) = row * 8 + i + 1 from by omega]; exact hl
        refine lv_goto (tgt := 5) hx hb d_P_addRow_46 (by decide) ?_
        refine ihlo (i + 1) _ u11 H locs ls (by omega) (by omega) (by omega) (fun i2 h2 h3 => ?_) (fun j h2 => by rw [zu_n (by omega)]; exact hu0 j (by omega)) ff16 fr17 hP hS hl
        by_cases h6 : i2 = i
        · rw [h6, zu_s, ec, ex]
          exact cg_add cg_mod cg_mod
        · rw [zu_n (by omega)]
          exact hg i2 h2 (by omega)
  have hl : lv_has ls 4 [(3, .int (iI (row * 8 + 0))), (0, .ref (b + k)), (1, .ref (b + kx)), (2, .int (iI (row)))] := by rw [Int.add_zero]; exact hl
  exact lo 9 0 g u H locs ls (by omega) (by omega) (by omega) (fun i2 h2 h3 => by omega) (fun _ _ => rfl) f1 fr0 hP hS hl
abbrev rm_c_whole : Room := { frames := 1, cells := 0, slots := 0, locals := 23 }
set_option maxHeartbeats 4000000 in
set_option maxRecDepth 100000 in
/-- wholeCoefficient(i, top) -/
theorem c_whole (l : Launch) (D : va_G) (ct : Nat → ClassId) (st ke : Nat → Nat) (b N : Nat) (u : Nat → va_E) (k n : Nat) (g : Int → Int) (hk : k + 1 < N) (hn : n < 65536) (f0 : u k = po b k 0) (f1 : u (k + 1) = ir ct n g) (i top : Int) (hi0 : 0 ≤ i) (hi8 : i < 8) (ht0 : 0 ≤ top) (ht3 : top ≤ 3) (hn8 : 8 * (top + 1) ≤ n) (C : Int → Int) (hC : Rep g 0 top C) : Met l y_P_wholeCoefficient (w_P_wholeCoefficient) rm_c_whole (va_Pc [.ref (b + k), .int (iI (i)), .int (iI (top))] (fun U => ev D ct st ke b U ∧ va_P D vwCl (wl N b u) U.heap)) (va_Ql (fun (r : Int64) (z : Nat → va_E) => r = lI (C i % lQ top) ∧ u = z) (fun (z : Nat → va_E) t => va_P D vwCl (wl (N) b (z)) t.heap) (AA b)) 0 0 (AA b) := by
  refine M_l (cc := c9_P_wholeCoefficient) (maxL := 8) (by decide) rfl (Nat.le_of_ble_eq_true rfl) ?_
  intro p e s m args below meth c Q ls H locs hx hb hml hown hts hnm E hP hS hl ret
  have hl : lv_has ls 8 [(0, .ref (b + k)), (1, .int (iI (i))), (2, .int (iI (top)))] := hl
  have hK := ev_K E
  have kk0 := hts (.fieldLink "LevelledRing$Poly" 15 "LevelledRing$Poly" "c" "[I") (List.mem_cons_of_mem _ t_38)
  have hinP : ∀ w ∈ u_ws "LevelledRing$Poly" T_P 2, w ∈ (w_P_wholeCoefficient) := hin_P _
  have kk2 : ((.fieldLinkNest "LevelledRing$Poly" 19 "LevelledRing" "PRIMES" "[I" "LevelledRing") : Cond).before args s = true := va_Nw.use rfl (ev_W E _ nw_2)
  have kk3 := hts (.initialized "LevelledRing") (List.mem_cons_of_mem _ t_1)
  have kk4 := hts (.static y_R_modulo) (List.mem_cons_of_mem _ t_99)
  have kn5 : va_Nw (.methodLinkNest "LevelledRing$Poly" 40 y_R_modulo "LevelledRing") s := ev_W E _ nw_3
  have kk6 : ((.fieldLinkNest "LevelledRing$Poly" 61 "LevelledRing" "MODULI" "[J" "LevelledRing") : Cond).before args s = true := va_Nw.use rfl (ev_W E _ nw_10)
  have kk7 : ((.fieldLinkNest "LevelledRing$Poly" 65 "LevelledRing" "MODULUS_INVERSES" "[I" "LevelledRing") : Cond).before args s = true := va_Nw.use rfl (ev_W E _ nw_11)
  have fr0 : ∀ j : Nat, u j = u j := fun _  => rfl
  have e0 := hC 0 i (by omega) ht0 hi0 hi8
  have b0 := hC.bd (k := 0) (i := i) (by omega) ht0 hi0 hi8
  have hmu0 := mu_bd 0 0
  rw [show (0 : Int) * 8 + i = i by omega] at e0 b0
  refine lv_aload_n hx hb d_P_wholeCoefficient_0 rfl (lv_at hl 0 rfl) ?_
  refine w_get (C := "LevelledRing$Poly") (T := T_P) (M := 2) hx hb hts hinP hown hK hP (k) (by omega) f0 rfl 1 (by decide) kk0 (fun _ h => h) rfl d_P_wholeCoefficient_1 ?_
  refine lv_iload_n hx hb d_P_wholeCoefficient_4 rfl (lv_at hl 1 rfl) ?_
  refine w_iald hx hb hK hP (k + 1) (by omega) f1 (by omega) (by omega) (by omega) d_P_wholeCoefficient_5 ?_
  refine x_i2l hx hb ⟨by omega, by omega⟩ d_P_wholeCoefficient_6 ?_
  refine x_le (y := C i % lQ (1 - 1)) (by rw [e0]; rfl) ?_
  refine lv_lstore_n (lv' := [(3, .long (lI (C i % lQ (1 - 1)))), (0, .ref (b + k)), (1, .int (iI (i))), (2, .int (iI (top)))]) hx hb d_P_wholeCoefficient_7 rfl hl (by decide) rfl (fun ls hl => ?_)
  refine lv_iconst (v := iI (1)) hx hb d_P_wholeCoefficient_8 rfl ?_
  refine lv_istore (lv' := [(5, .int (iI (1))), (3, .long (lI (C i % lQ (1 - 1)))), (0, .ref (b + k)), (1, .int (iI (i))), (2, .int (iI (top)))]) hx hb d_P_wholeCoefficient_9 hl (by decide) rfl (fun ls hl => ?_)
  have lo : ∀ (d : Nat) (a : Int) (H : Heap) (locs : List Loc) (ls : Array Slot), (1 ≤ a) → (a ≤ top + 1) → (top + 1 - a < d) → va_P D vwCl (wl N b u) H → va_S (AA b) s.heap H locs → lv_has ls 8 [(5, .int (iI (a))), (3, .long (lI (C i % lQ (a - 1)))), (0, .ref (b + k)), (1, .int (iI (i))), (2, .int (iI (top)))] → W p l e rm_c_whole s m args below meth c H locs 0 0 Q (F0 m 11 ls []) := by
    intro d
    induction d with
    | zero => intro a H locs ls h0 h1 hd hP hS hl; exfalso; omega
    | succ d ihlo =>
      intro a H locs ls h0 h1 hd hP hS hl
      refine lv_iload hx hb d_P_wholeCoefficient_11 (lv_at hl 0 rfl) ?_
      refine lv_iload_n hx hb d_P_wholeCoefficient_13 rfl (lv_at hl 4 rfl) ?_
      refine x_icmp_gt (tgt := 80) hx hb ⟨by omega, by omega⟩ ⟨by omega, by omega⟩ d_P_wholeCoefficient_14 (by decide) (fun hc => ?_) (fun hc => ?_)
      · obtain rfl : a = top + 1 := by omega
        refine lv_lload_n hx hb d_P_wholeCoefficient_80 rfl (lv_at hl 1 rfl) ?_
        refine x_le (y := C i % lQ top) (by rw [show top + 1 - 1 = top by omega]) ?_
        exact ret _ u H locs 81 ls ⟨rfl, rfl⟩ hP hS d_P_wholeCoefficient_81
      · have ea := hC a i (by omega) (by omega) hi0 hi8
        have ba := hC.bd (k := a) (i := i) (by omega) (by omega) hi0 hi8
        have hmu := mu_bd 0 a
        have hlq := lq_bd a
        have hlQ := lQ_bd (a - 1)
        have bw0 := Int.emod_nonneg (C i) (show lQ (a - 1) ≠ 0 by omega)
        have bw1 := Int.emod_lt_of_pos (C i) (show 0 < lQ (a - 1) by omega)
        refine lv_aload_n hx hb d_P_wholeCoefficient_17 rfl (lv_at hl 2 rfl) ?_
        refine w_get (C := "LevelledRing$Poly") (T := T_P) (M := 2) hx hb hts hinP hown hK hP (k) (by omega) f0 rfl 1 (by decide) kk0 (fun _ h => h) rfl d_P_wholeCoefficient_18 ?_
        refine lv_iload hx hb d_P_wholeCoefficient_21 (lv_at hl 0 rfl) ?_
        refine lv_bipush (v := iI (8)) hx hb d_P_wholeCoefficient_23 (by decide +kernel) ?_
        refine x_imul hx hb d_P_wholeCoefficient_25 ?_
        refine lv_iload_n hx hb d_P_wholeCoefficient_26 rfl (lv_at hl 3 rfl) ?_
        refine x_iadd hx hb d_P_wholeCoefficient_27 ?_
        refine w_iald hx hb hK hP (k + 1) (by omega) f1 (by omega) (by omega) (by omega) d_P_wholeCoefficient_28 ?_
        refine x_i2l hx hb ⟨by omega, by omega⟩ d_P_wholeCoefficient_29 ?_
        refine lv_lload_n hx hb d_P_wholeCoefficient_30 rfl (lv_at hl 1 rfl) ?_
        refine x_lsub hx hb d_P_wholeCoefficient_31 ?_
        refine va_getsN hx hb (ev_Z0 E) hS hown kk2 (fun _ h => h) d_P_wholeCoefficient_32 ?_
        refine lv_iload hx hb d_P_wholeCoefficient_35 (lv_at hl 0 rfl) ?_
        refine x_ti hx hb (ev_T0 E) hS (by omega) (by omega) (by decide) d_P_wholeCoefficient_37 ?_
        refine w_calli (va_runSN (As := [.long (lI ((g ((a * 8) + (i))) - (C i % lQ (a - 1)))), .int (iI (lq (a)))]) (rest := []) ⟨hx, hb, hml, hown, hts⟩ (c_modulo l D ct st ke b N u ((g ((a * 8) + (i))) - (C i % lQ (a - 1))) (lq (a)) ⟨by omega, by omega⟩ (by omega) (by omega)) ⟨va_cnB 2 hts (gC t_100) rfl rfl rfl kn5 kk3 (by decide +kernel) ⟨Nat.le_of_ble_eq_true rfl, Nat.le_of_ble_eq_true rfl⟩, kk4, trivial⟩ (pre_S E hP hS) rfl rfl hl.1 rfl (lv_room (Nat.le_of_ble_eq_true rfl)) d_P_wholeCoefficient_38 ⟨(Nat.le_of_ble_eq_true rfl), (Nat.le_of_ble_eq_true rfl)⟩) hS (fun r2 z1 H locs hz hP hS => ?_)
        obtain ⟨rfl, rfl⟩ := hz
        have bl0 := Int.emod_nonneg (((g ((a * 8) + (i))) - (C i % lQ (a - 1)))) (show lq a ≠ 0 by omega)
        have bl1 := Int.emod_lt_of_pos (((g ((a * 8) + (i))) - (C i % lQ (a - 1)))) (show 0 < lq a by omega)
        have hmv : 0 ≤ minv a ∧ minv a ≤ 20255 := by unfold minv gin; repeat' split; all_goals omega
        have emv : minv a = gin a := by unfold minv; rw [if_neg (by omega)]
        refine x_i2l hx hb ⟨by omega, by omega⟩ d_P_wholeCoefficient_41 ?_
        refine lv_lstore (lv' := [(6, .long (lI (((g ((a * 8) + (i))) - (C i % lQ (a - 1))) % (lq (a))))), (5, .int (iI (a))), (3, .long (lI (C i % lQ (a - 1)))), (0, .ref (b + k)), (1, .int (iI (i))), (2, .int (iI (top)))]) hx hb d_P_wholeCoefficient_42 hl (by decide) rfl (fun ls hl => ?_)
        refine lv_lload_n hx hb d_P_wholeCoefficient_44 rfl (lv_at hl 2 rfl) ?_
        refine va_getsN hx hb (ev_Z1 E) hS hown kk6 (fun _ h => h) d_P_wholeCoefficient_45 ?_
        refine lv_iload hx hb d_P_wholeCoefficient_48 (lv_at hl 1 rfl) ?_
        refine lv_iconst (v := iI (1)) hx hb d_P_wholeCoefficient_50 rfl ?_
        refine x_isub hx hb d_P_wholeCoefficient_51 ?_
        refine x_tl hx hb (ev_T1 E) hS (by omega) (by omega) (by decide) d_P_wholeCoefficient_52 ?_
        refine lv_lload hx hb d_P_wholeCoefficient_53 (lv_at hl 0 rfl) ?_
        refine va_getsN hx hb (ev_Z2 E) hS hown kk7 (fun _ h => h) d_P_wholeCoefficient_55 ?_
        refine lv_iload hx hb d_P_wholeCoefficient_58 (lv_at hl 1 rfl) ?_
        refine x_ti hx hb (ev_T2 E) hS (by omega) (by omega) (by decide) d_P_wholeCoefficient_60 ?_
        refine x_i2l hx hb ⟨by omega, by omega⟩ d_P_wholeCoefficient_61 ?_
        refine x_lmul hx hb d_P_wholeCoefficient_62 ?_
        refine va_getsN hx hb (ev_Z0 E) hS hown kk2 (fun _ h => h) d_P_wholeCoefficient_63 ?_
        refine lv_iload hx hb d_P_wholeCoefficient_66 (lv_at hl 1 rfl) ?_
        refine x_ti hx hb (ev_T0 E) hS (by omega) (by omega) (by decide) d_P_wholeCoefficient_68 ?_
        refine x_i2l hx hb ⟨by omega, by omega⟩ d_P_wholeCoefficient_69 ?_
        have bp := mul_bd (x := ((g ((a * 8) + (i))) - (C i % lQ (a - 1))) % (lq (a))) (y := minv (a)) bl0 (by omega) hmv.1 (by omega)
        refine x_lremP hx hb ⟨by omega, by omega⟩ ⟨by omega, by omega⟩ (by omega) (by omega) d_P_wholeCoefficient_70 ?_
        refine x_lmul hx hb d_P_wholeCoefficient_71 ?_
        refine x_ladd hx hb d_P_wholeCoefficient_72 ?_
        refine x_le (y := C i % lQ (a + 1 - 1)) (by rw [ea, emv, show a + 1 - 1 = a by omega]; exact garner (V := C i) h0 (by omega)) ?_
        refine lv_lstore_n (lv' := [(3, .long (lI (C i % lQ (a + 1 - 1)))), (6, .long (lI (((g ((a * 8) + (i))) - (C i % lQ (a - 1))) % (lq (a))))), (5, .int (iI (a))), (0, .ref (b + k)), (1, .int (iI (i))), (2, .int (iI (top)))]) hx hb d_P_wholeCoefficient_73 rfl hl (by decide) rfl (fun ls hl => ?_)
        refine lv_iinc (k := 2) (v := iI (a + 1)) (lv' := [(5, .int (iI (a + 1))), (3, .long (lI (C i % lQ (a + 1 - 1)))), (6, .long (lI (((g ((a * 8) + (i))) - (C i % lQ (a - 1))) % (lq (a))))), (0, .ref (b + k)), (1, .int (iI (i))), (2, .int (iI (top)))]) hx hb d_P_wholeCoefficient_74 hl rfl (iI_add _ _) (by decide) rfl (fun ls hl => ?_)
        refine lv_goto (tgt := 11) hx hb d_P_wholeCoefficient_77 (by decide) ?_
        have hl : lv_has ls 8 [(5, .int (iI (a + 1))), (3, .long (lI (C i % lQ (a + 1 - 1)))), (0, .ref (b + k)), (1, .int (iI (i))), (2, .int (iI (top)))] := lv_sub hl [0, 1, 3, 4, 5] rfl
        exact ihlo (a + 1) H locs ls (by omega) (by omega) (by omega) hP hS hl
  exact lo (top + 2).toNat 1 H locs ls (by omega) (by omega) (by omega) hP hS hl
abbrev rm_c_centredC : Room := { frames := 2, cells := 0, slots := 0, locals := 50 }
set_option maxHeartbeats 4000000 in
set_option maxRecDepth 100000 in
/-- centredCoefficient(i, top) -/
theorem c_centredC (l : Launch) (D : va_G) (ct : Nat → ClassId) (st ke : Nat → Nat) (b N : Nat) (u : Nat → va_E) (k n : Nat) (g : Int → Int) (hk : k + 1 < N) (hn : n < 65536) (f0 : u k = po b k 0) (f1 : u (k + 1) = ir ct n g) (i top : Int) (hi0 : 0 ≤ i) (hi8 : i < 8) (ht0 : 0 ≤ top) (ht3 : top ≤ 3) (hn8 : 8 * (top + 1) ≤ n) (C : Int → Int) (hC : Rep g 0 top C) : Met l y_P_centredCoefficient (w_P_centredCoefficient) rm_c_centredC (va_Pc [.ref (b + k), .int (iI (i)), .int (iI (top))] (fun U => ev D ct st ke b U ∧ va_P D vwCl (wl N b u) U.heap)) (va_Ql (fun (r : Int64) (z : Nat → va_E) => r = lI (cen (C i % lQ top) (lQ top)) ∧ u = z) (fun (z : Nat → va_E) t => va_P D vwCl (wl (N) b (z)) t.heap) (AA b)) 0 0 (AA b) := by
  refine M_l (cc := c9_P_centredCoefficient) (maxL := 3) (by decide) rfl (Nat.le_of_ble_eq_true rfl) ?_
  intro p e s m args below meth c Q ls H locs hx hb hml hown hts hnm E hP hS hl ret
  have hl : lv_has ls 3 [(0, .ref (b + k)), (1, .int (iI (i))), (2, .int (iI (top)))] := hl
  have hK := ev_K E
  have kk0 : ((.fieldLinkNest "LevelledRing$Poly" 61 "LevelledRing" "MODULI" "[J" "LevelledRing") : Cond).before args s = true := va_Nw.use rfl (ev_W E _ nw_10)
  have kk1 := hts (.initialized "LevelledRing") (List.mem_cons_of_mem _ t_1)
  have kk2 := hts (.static y_R_centred) (List.mem_cons_of_mem _ t_341)
  have kn3 : va_Nw (.methodLinkNest "LevelledRing$Poly" 52 y_R_centred "LevelledRing") s := ev_W E _ nw_7
  have fr0 : ∀ j : Nat, u j = u j := fun _  => rfl
  have hlQ := lQ_bd top
  have bw0 := Int.emod_nonneg (C i) (show lQ top ≠ 0 by omega)
  have bw1 := Int.emod_lt_of_pos (C i) (show 0 < lQ top by omega)
  refine lv_aload_n hx hb d_P_centredCoefficient_0 rfl (lv_at hl 0 rfl) ?_
  refine lv_iload_n hx hb d_P_centredCoefficient_1 rfl (lv_at hl 1 rfl) ?_
  refine lv_iload_n hx hb d_P_centredCoefficient_2 rfl (lv_at hl 2 rfl) ?_
  refine w_calll (va_runV (As := [.int (iI (i)), .int (iI (top))]) (rest := []) ⟨hx, hb, hml, hown, hts⟩ (c_whole l D ct st ke b N u k n g hk hn f0 f1 i top hi0 hi8 ht0 ht3 hn8 C hC) (cwV 2 hts (gV t_425 t_426 t_427 t_3 t_428) rfl rfl rfl (by decide +kernel) ⟨Nat.le_of_ble_eq_true rfl, Nat.le_of_ble_eq_true rfl⟩) (pre_V E hP hS (k) (by omega) f0 rfl) rfl rfl hl.1 rfl (lv_room (Nat.le_of_ble_eq_true rfl)) d_P_centredCoefficient_3 ⟨(Nat.le_of_ble_eq_true rfl), (Nat.le_of_ble_eq_true rfl)⟩) hS (fun r2 z1 H locs hz hP hS => ?_)
  obtain ⟨rfl, rfl⟩ := hz
  refine va_getsN hx hb (ev_Z1 E) hS hown kk0 (fun _ h => h) d_P_centredCoefficient_6 ?_
  refine lv_iload_n hx hb d_P_centredCoefficient_9 rfl (lv_at hl 2 rfl) ?_
  refine x_tl hx hb (ev_T1 E) hS (by omega) (by omega) (by decide) d_P_centredCoefficient_10 ?_
  refine w_calll (va_runSN (As := [.long (lI (C i % lQ top)), .long (lI (lQ (top)))]) (rest := []) ⟨hx, hb, hml, hown, hts⟩ (c_centred l D ct st ke b N u (C i % lQ top) (lQ (top)) (by omega) (by omega) (by omega) (by omega)) ⟨va_cnB 2 hts (gC t_342) rfl rfl rfl kn3 kk1 (by decide +kernel) ⟨Nat.le_of_ble_eq_true rfl, Nat.le_of_ble_eq_true rfl⟩, kk2, trivial⟩ (pre_S E hP hS) rfl rfl hl.1 rfl (lv_room (Nat.le_of_ble_eq_true rfl)) d_P_centredCoefficient_11 ⟨(Nat.le_of_ble_eq_true rfl), (Nat.le_of_ble_eq_true rfl)⟩) hS (fun r4 z3 H locs hz hP hS => ?_)
  obtain ⟨rfl, rfl⟩ := hz
  exact ret _ u H locs 14 ls ⟨rfl, rfl⟩ hP hS d_P_centredCoefficient_14
