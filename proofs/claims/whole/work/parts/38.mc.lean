abbrev rm_c_MaddProduct : Room := { frames := 1, cells := 0, slots := 0, locals := 32 }
set_option maxHeartbeats 4000000 in
set_option maxRecDepth 100000 in
/-- addProduct(r, x, y, q) -/
theorem c_MaddProduct (l : Launch) (D : va_G) (ct : Nat → ClassId) (st ke : Nat → Nat) (b N : Nat) (u : Nat → va_E) (hN : 254 ≤ N) (z0 : Int32) (cnt : Int) (hM : u 236 = mo b z0 cnt) (g : Int → Int) (f1 : u 237 = lr ct 512 g) (r x y q : Int) (hr0 : 0 ≤ r) (hr1 : r < 64)(hx0 : 0 ≤ x) (hx1 : x < 64)(hy0 : 0 ≤ y) (hy1 : y < 64) (hrx : r ≠ x) (hry : r ≠ y) (hq0 : 0 < q) (hq1 : q ≤ 715450762997731793) (hC : ∀ j : Int, 0 ≤ j → j < 8 → 0 ≤ g (8 * r + j) ∧ g (8 * r + j) < q) (hX : ∀ j : Int, 0 ≤ j → j < 8 → 0 ≤ g (8 * x + j) ∧ g (8 * x + j) < q) (hY : ∀ j : Int, 0 ≤ j → j < 8 → 0 ≤ g (8 * y + j) ∧ g (8 * y + j) ≤ 715450762997731793) : Met l y_M_addProduct (w_M_addProduct) rm_c_MaddProduct (va_Pc [.ref (b + 236), .int (iI (r)), .int (iI (x)), .int (iI (y)), .long (lI (q))] (fun U => ev D ct st ke b U ∧ va_P D vwCl (wl N b u) U.heap)) (va_Qv (fun z : Nat → va_E => ∃ g2 : Int → Int, z 237 = lr ct 512 g2 ∧ (∀ i : Int, 0 ≤ i → i < 8 → g2 (8 * r + i) = (g (8 * r + i) + nc (fun j => g (8 * x + j)) (fun j => g (8 * y + j)) i) % q) ∧ (∀ j : Int, (j < 8 * r ∨ 8 * r + 8 ≤ j) → g2 j = g j) ∧ ∀ j : Nat, j ≠ 237 → z j = u j) (fun (z : Nat → va_E) t => va_P D vwCl (wl (N) b (z)) t.heap) (AA b)) 0 0 (AA b) := by
  refine M_v (cc := c9_M_addProduct) (maxL := 11) (by decide) rfl (Nat.le_of_ble_eq_true rfl) ?_
  intro p e s m args below meth c Q ls H locs hx hb hml hown hts hnm E hP hS hl ret
  have hl : lv_has ls 11 [(0, .ref (b + 236)), (1, .int (iI (r))), (2, .int (iI (x))), (3, .int (iI (y))), (4, .long (lI (q)))] := hl
  have hK := ev_K E
  have kk0 := hts (.fieldLink "LevelledRingModel" 7 "LevelledRingModel" "row" "[J") (List.mem_cons_of_mem _ t_493)
  have hinM : ∀ w ∈ u_ws "LevelledRingModel" T_M 19, w ∈ (w_M_addProduct) := hin_M _
  have fr0 : ∀ j : Nat, (j ≠ 237) → u j = u j := fun _ _ => rfl
  refine lv_iconst (v := iI (0)) hx hb d_M_addProduct_0 rfl ?_
  refine lv_istore (lv' := [(6, .int (iI (0))), (0, .ref (b + 236)), (1, .int (iI (r))), (2, .int (iI (x))), (3, .int (iI (y))), (4, .long (lI (q)))]) hx hb d_M_addProduct_1 hl (by decide) rfl (fun ls hl => ?_)
  have lo : ∀ (d : Nat) (a : Int) (g2 : Int → Int) (w1 : Nat → va_E) (H : Heap) (locs : List Loc) (ls : Array Slot), (0 ≤ a) → (a ≤ 8) → (8 - a < d) → (∀ i : Int, 0 ≤ i → i < 8 → g2 (8 * r + i) = (g (8 * r + i) + sn (nt (fun j => g (8 * x + j)) (fun j => g (8 * y + j)) i) a.toNat) % q) → (∀ j : Int, (j < 8 * r ∨ 8 * r + 8 ≤ j) → g2 j = g j) → w1 237 = lr ct 512 (g2) → (∀ j : Nat, (j ≠ 237) → w1 j = u j) → va_P D vwCl (wl N b w1) H → va_S (AA b) s.heap H locs → lv_has ls 11 [(6, .int (iI (a))), (0, .ref (b + 236)), (1, .int (iI (r))), (2, .int (iI (x))), (3, .int (iI (y))), (4, .long (lI (q)))] → W p l e rm_c_MaddProduct s m args below meth c H locs 0 0 Q (F0 m 3 ls []) := by
    intro d
    induction d with
    | zero => intro a g2 w1 H locs ls h0 h1 hd hg hk fg2 fr3 hP hS hl; exfalso; omega
    | succ d ihlo =>
      intro a g2 w1 H locs ls h0 h1 hd hg hk fg2 fr3 hP hS hl
      have ff4 : w1 236 = .inr (6, [.ref (b + 237), .ref (b + 238), .ref (b + 239), .ref (b + 240), .ref (b + 241), .ref (b + 242), .int (z0), .ref (b + 243), .int (iI (cnt)), .ref (b + 244), .ref (b + 245), .ref (b + 246), .ref (b + 247), .ref (b + 248), .ref (b + 249), .ref (b + 250), .ref (b + 251), .ref (b + 252), .ref (b + 253)]) := (fr3 236 (by omega)).trans hM
      refine lv_iload hx hb d_M_addProduct_3 (lv_at hl 0 rfl) ?_
      refine lv_bipush (v := iI (8)) hx hb d_M_addProduct_5 (by decide +kernel) ?_
      refine x_icmp_ge (tgt := 126) hx hb ⟨by omega, by omega⟩ ⟨by omega, by omega⟩ d_M_addProduct_7 (by decide) (fun hc => ?_) (fun hc => ?_)
      · obtain rfl : a = 8 := by omega
        exact ret w1 H locs 126 ls ⟨g2, fg2, hg, hk, fr3⟩ hP hS d_M_addProduct_126
      · refine lv_iconst (v := iI (0)) hx hb d_M_addProduct_10 rfl ?_
        refine lv_istore (lv' := [(7, .int (iI (0))), (6, .int (iI (a))), (0, .ref (b + 236)), (1, .int (iI (r))), (2, .int (iI (x))), (3, .int (iI (y))), (4, .long (lI (q)))]) hx hb d_M_addProduct_11 hl (by decide) rfl (fun ls hl => ?_)
        have li : ∀ (d2 : Nat) (bb : Int) (g2 : Int → Int) (w5 : Nat → va_E) (H : Heap) (locs : List Loc) (ls : Array Slot), (0 ≤ bb) → (bb ≤ 8) → (8 - bb < d2) → (∀ i : Int, 0 ≤ i → i < 8 → (i - a) % 8 < bb → g2 (8 * r + i) = (g (8 * r + i) + sn (nt (fun j => g (8 * x + j)) (fun j => g (8 * y + j)) i) (a + 1).toNat) % q) → (∀ i : Int, 0 ≤ i → i < 8 → bb ≤ (i - a) % 8 → g2 (8 * r + i) = (g (8 * r + i) + sn (nt (fun j => g (8 * x + j)) (fun j => g (8 * y + j)) i) a.toNat) % q) → (∀ j : Int, (j < 8 * r ∨ 8 * r + 8 ≤ j) → g2 j = g j) → w5 237 = lr ct 512 (g2) → (∀ j : Nat, (j ≠ 237) → w5 j = u j) → va_P D vwCl (wl N b w5) H → va_S (AA b) s.heap H locs → lv_has ls 11 [(7, .int (iI (bb))), (6, .int (iI (a))), (0, .ref (b + 236)), (1, .int (iI (r))), (2, .int (iI (x))), (3, .int (iI (y))), (4, .long (lI (q)))] → W p l e rm_c_MaddProduct s m args below meth c H locs 0 0 Q (F0 m 13 ls []) := by
          intro d2
          induction d2 with
          | zero => intro bb g2 w5 H locs ls hc0 hc8 hd2 hgA hgB hk fg6 fr7 hP hS hl; exfalso; omega
          | succ d2 ihli =>
            intro bb g2 w5 H locs ls hc0 hc8 hd2 hgA hgB hk fg6 fr7 hP hS hl
            have ff8 : w5 236 = .inr (6, [.ref (b + 237), .ref (b + 238), .ref (b + 239), .ref (b + 240), .ref (b + 241), .ref (b + 242), .int (z0), .ref (b + 243), .int (iI (cnt)), .ref (b + 244), .ref (b + 245), .ref (b + 246), .ref (b + 247), .ref (b + 248), .ref (b + 249), .ref (b + 250), .ref (b + 251), .ref (b + 252), .ref (b + 253)]) := (fr7 236 (by omega)).trans hM
            refine lv_iload hx hb d_M_addProduct_13 (lv_at hl 0 rfl) ?_
            refine lv_bipush (v := iI (8)) hx hb d_M_addProduct_15 (by decide +kernel) ?_
            refine x_icmp_ge (tgt := 120) hx hb ⟨by omega, by omega⟩ ⟨by omega, by omega⟩ d_M_addProduct_17 (by decide) (fun hc => ?_) (fun hc => ?_)
            · refine lv_iinc (k := 1) (v := iI (a + 1)) (lv' := [(6, .int (iI (a + 1))), (7, .int (iI (bb))), (0, .ref (b + 236)), (1, .int (iI (r))), (2, .int (iI (x))), (3, .int (iI (y))), (4, .long (lI (q)))]) hx hb d_M_addProduct_120 hl rfl (iI_add _ _) (by decide) rfl (fun ls hl => ?_)
              refine lv_goto (tgt := 3) hx hb d_M_addProduct_123 (by decide) ?_
              have hl : lv_has ls 11 [(6, .int (iI (a + 1))), (0, .ref (b + 236)), (1, .int (iI (r))), (2, .int (iI (x))), (3, .int (iI (y))), (4, .long (lI (q)))] := lv_sub hl [0, 2, 3, 4, 5, 6] rfl
              exact ihlo (a + 1) g2 w5 H locs ls (by omega) (by omega) (by omega) (fun i h2 h3 => hgA i h2 h3 (by omega)) hk fg6 fr7 hP hS hl
            · have ex := hk (8 * x + a) (by omega)
              have ey := hk (8 * y + bb) (by omega)
              have bX := hX a h0 (by omega)
              have bY := hY bb hc0 (by omega)
              refine lv_aload_n hx hb d_M_addProduct_20 rfl (lv_at hl 2 rfl) ?_
              refine w_get (C := "LevelledRingModel") (T := T_M) (M := 19) hx hb hts hinM hown hK hP (236) (by omega) ff8 rfl 0 (by decide) kk0 (fun _ h => h) rfl d_M_addProduct_21 ?_
              refine lv_bipush (v := iI (8)) hx hb d_M_addProduct_24 (by decide +kernel) ?_
              refine lv_iload_n hx hb d_M_addProduct_26 rfl (lv_at hl 4 rfl) ?_
              refine x_imul hx hb d_M_addProduct_27 ?_
              refine lv_iload hx hb d_M_addProduct_28 (lv_at hl 1 rfl) ?_
              refine x_iadd hx hb d_M_addProduct_30 ?_
              refine w_lald hx hb hK hP (237) (by omega) fg6 (by omega) (by omega) (by omega) d_M_addProduct_31 ?_
              refine x_le (y := g (8 * x + a)) (ex) ?_
              refine lv_aload_n hx hb d_M_addProduct_32 rfl (lv_at hl 2 rfl) ?_
              refine w_get (C := "LevelledRingModel") (T := T_M) (M := 19) hx hb hts hinM hown hK hP (236) (by omega) ff8 rfl 0 (by decide) kk0 (fun _ h => h) rfl d_M_addProduct_33 ?_
              refine lv_bipush (v := iI (8)) hx hb d_M_addProduct_36 (by decide +kernel) ?_
              refine lv_iload_n hx hb d_M_addProduct_38 rfl (lv_at hl 5 rfl) ?_
              refine x_imul hx hb d_M_addProduct_39 ?_
              refine lv_iload hx hb d_M_addProduct_40 (lv_at hl 0 rfl) ?_
              refine x_iadd hx hb d_M_addProduct_42 ?_
              refine w_lald hx hb hK hP (237) (by omega) fg6 (by omega) (by omega) (by omega) d_M_addProduct_43 ?_
              refine x_le (y := g (8 * y + bb)) (ey) ?_
              refine lv_lload hx hb d_M_addProduct_44 (lv_at hl 6 rfl) ?_
              refine x_lremP hx hb ⟨by omega, by omega⟩ ⟨by omega, by omega⟩ (by omega) (by omega) d_M_addProduct_46 ?_
              refine lv_lload hx hb d_M_addProduct_47 (lv_at hl 6 rfl) ?_
              have bm := mod_b (g (8 * y + bb)) hq0
              refine w_calll (va_runS (As := [.long (lI (g (8 * x + a))), .long (lI ((g (8 * y + bb)) % (q))), .long (lI (q))]) (rest := []) ⟨hx, hb, hml, hown, hts⟩ (c_times l D ct st ke b N w5 (g (8 * x + a)) ((g (8 * y + bb)) % (q)) (q) bX.1 bX.2 bm.1 (by omega) hq1) (cwS 3 hts (gS t_479 t_480 t_9 t_481) rfl rfl rfl (by decide +kernel) ⟨Nat.le_of_ble_eq_true rfl, Nat.le_of_ble_eq_true rfl⟩) (pre_S E hP hS) rfl rfl hl.1 rfl (lv_room (Nat.le_of_ble_eq_true rfl)) d_M_addProduct_49 ⟨(Nat.le_of_ble_eq_true rfl), (Nat.le_of_ble_eq_true rfl)⟩) hS (fun r10 z9 H locs hz hP hS => ?_)
              obtain ⟨rfl, rfl⟩ := hz
              have bt := mod_b (g (8 * x + a) * (g (8 * y + bb) % q)) hq0
              refine lv_lstore (lv' := [(8, .long (lI ((g (8 * x + a)) * ((g (8 * y + bb)) % (q)) % (q)))), (7, .int (iI (bb))), (6, .int (iI (a))), (0, .ref (b + 236)), (1, .int (iI (r))), (2, .int (iI (x))), (3, .int (iI (y))), (4, .long (lI (q)))]) hx hb d_M_addProduct_52 hl (by decide) rfl (fun ls hl => ?_)
              refine lv_bipush (v := iI (8)) hx hb d_M_addProduct_54 (by decide +kernel) ?_
              refine lv_iload_n hx hb d_M_addProduct_56 rfl (lv_at hl 4 rfl) ?_
              refine x_imul hx hb d_M_addProduct_57 ?_
              refine lv_iload hx hb d_M_addProduct_58 (lv_at hl 2 rfl) ?_
              refine lv_iload hx hb d_M_addProduct_60 (lv_at hl 1 rfl) ?_
              refine x_iadd hx hb d_M_addProduct_62 ?_
              refine lv_bipush (v := iI (7)) hx hb d_M_addProduct_63 (by decide +kernel) ?_
              refine lv_iand hx hb d_M_addProduct_65 ?_
              refine x_i (y := iI ((a + bb) % 8)) (iI_and7 _) ?_
              refine x_iadd hx hb d_M_addProduct_66 ?_
              refine lv_istore (lv' := [(10, .int (iI ((8 * r) + ((a + bb) % 8)))), (8, .long (lI ((g (8 * x + a)) * ((g (8 * y + bb)) % (q)) % (q)))), (7, .int (iI (bb))), (6, .int (iI (a))), (0, .ref (b + 236)), (1, .int (iI (r))), (2, .int (iI (x))), (3, .int (iI (y))), (4, .long (lI (q)))]) hx hb d_M_addProduct_67 hl (by decide) rfl (fun ls hl => ?_)
              refine lv_aload_n hx hb d_M_addProduct_69 rfl (lv_at hl 4 rfl) ?_
              refine w_get (C := "LevelledRingModel") (T := T_M) (M := 19) hx hb hts hinM hown hK hP (236) (by omega) ff8 rfl 0 (by decide) kk0 (fun _ h => h) rfl d_M_addProduct_70 ?_
              refine lv_iload hx hb d_M_addProduct_73 (lv_at hl 0 rfl) ?_
              refine lv_iload hx hb d_M_addProduct_75 (lv_at hl 3 rfl) ?_
              refine lv_iload hx hb d_M_addProduct_77 (lv_at hl 2 rfl) ?_
              refine x_iadd hx hb d_M_addProduct_79 ?_
              refine lv_bipush (v := iI (8)) hx hb d_M_addProduct_80 (by decide +kernel) ?_
              have ec := hgB ((a + bb) % 8) (by omega) (by omega) (by omega)
              have bc := mod_b (g (8 * r + (a + bb) % 8) + sn (nt (fun j => g (8 * x + j)) (fun j => g (8 * y + j)) ((a + bb) % 8)) a.toNat) hq0
              rw [← ec] at bc
              refine x_icmp_ge (tgt := 98) hx hb ⟨by omega, by omega⟩ ⟨by omega, by omega⟩ d_M_addProduct_82 (by decide) (fun hc => ?_) (fun hc => ?_)
              · refine lv_aload_n hx hb d_M_addProduct_98 rfl (lv_at hl 4 rfl) ?_
                refine w_get (C := "LevelledRingModel") (T := T_M) (M := 19) hx hb hts hinM hown hK hP (236) (by omega) ff8 rfl 0 (by decide) kk0 (fun _ h => h) rfl d_M_addProduct_99 ?_
                refine lv_iload hx hb d_M_addProduct_102 (lv_at hl 0 rfl) ?_
                refine w_lald hx hb hK hP (237) (by omega) fg6 (by omega) (by omega) (by omega) d_M_addProduct_104 ?_
                refine lv_lload hx hb d_M_addProduct_105 (lv_at hl 1 rfl) ?_
                refine x_lsub hx hb d_M_addProduct_107 ?_
                refine lv_lload hx hb d_M_addProduct_108 (lv_at hl 8 rfl) ?_
                refine w_calll (va_runS (As := [.long (lI ((g2 ((8 * r) + ((a + bb) % 8))) - ((g (8 * x + a)) * ((g (8 * y + bb)) % (q)) % (q)))), .long (lI (q))]) (rest := [.int (iI ((8 * r) + ((a + bb) % 8))), .ref (b + 237)]) ⟨hx, hb, hml, hown, hts⟩ (c_Mmod l D ct st ke b N w5 ((g2 ((8 * r) + ((a + bb) % 8))) - ((g (8 * x + a)) * ((g (8 * y + bb)) % (q)) % (q))) (q) ⟨by omega, by omega⟩ (by omega) (by omega)) (cwS 2 hts (gS t_486 t_487 t_9 t_488) rfl rfl rfl (by decide +kernel) ⟨Nat.le_of_ble_eq_true rfl, Nat.le_of_ble_eq_true rfl⟩) (pre_S E hP hS) rfl rfl hl.1 rfl (lv_room (Nat.le_of_ble_eq_true rfl)) d_M_addProduct_110 ⟨(Nat.le_of_ble_eq_true rfl), (Nat.le_of_ble_eq_true rfl)⟩) hS (fun r12 z11 H locs hz hP hS => ?_)
                obtain ⟨rfl, rfl⟩ := hz
                refine x_le (y := (g (8 * r + ((a + bb) % 8)) + sn (nt (fun j => g (8 * x + j)) (fun j => g (8 * y + j)) ((a + bb) % 8)) (a + 1).toNat) % q) (by rw [ec, mp_sub, sn_step _ h0, nt_gt (by omega) (by omega) (by omega), show ((a + bb) % 8 - a) % 8 = bb by omega]) ?_
                refine w_last hx hb hK hP hS (237) (by omega) fg6 (by omega) (by omega) (by omega) d_M_addProduct_113 (fun H locs hP hS => ?_)
                obtain ⟨u13, hu14, hP⟩ : ∃ zz : Nat → va_E, zz = va_up w5 237 (lr ct 512 (zu g2 ((8 * r) + ((a + bb) % 8)) ((g (8 * r + ((a + bb) % 8)) + sn (nt (fun j => g (8 * x + j)) (fun j => g (8 * y + j)) ((a + bb) % 8)) (a + 1).toNat) % q))) ∧ va_P D vwCl (wl N b zz) H := ⟨_, rfl, hP⟩
                have ff15 : u13 236 = .inr (6, [.ref (b + 237), .ref (b + 238), .ref (b + 239), .ref (b + 240), .ref (b + 241), .ref (b + 242), .int (z0), .ref (b + 243), .int (iI (cnt)), .ref (b + 244), .ref (b + 245), .ref (b + 246), .ref (b + 247), .ref (b + 248), .ref (b + 249), .ref (b + 250), .ref (b + 251), .ref (b + 252), .ref (b + 253)]) := (congrFun hu14 _).trans ((up_n (by omega)).trans ff8)
                have ff16 : u13 237 = lr ct 512 (zu g2 ((8 * r) + ((a + bb) % 8)) ((g (8 * r + ((a + bb) % 8)) + sn (nt (fun j => g (8 * x + j)) (fun j => g (8 * y + j)) ((a + bb) % 8)) (a + 1).toNat) % q)) := (congrFun hu14 _).trans up_s
                have fr17 : ∀ j : Nat, (j ≠ 237) → u13 j = u j := fun j h0 => (congrFun hu14 j).trans ((up_n (by omega)).trans (fr7 j h0))
                refine lv_iinc (k := 2) (v := iI (bb + 1)) (lv' := [(7, .int (iI (bb + 1))), (10, .int (iI ((8 * r) + ((a + bb) % 8)))), (8, .long (lI ((g (8 * x + a)) * ((g (8 * y + bb)) % (q)) % (q)))), (6, .int (iI (a))), (0, .ref (b + 236)), (1, .int (iI (r))), (2, .int (iI (x))), (3, .int (iI (y))), (4, .long (lI (q)))]) hx hb d_M_addProduct_114 hl rfl (iI_add _ _) (by decide) rfl (fun ls hl => ?_)
                refine lv_goto (tgt := 13) hx hb d_M_addProduct_117 (by decide) ?_
                have hl : lv_has ls 11 [(7, .int (iI (bb + 1))), (6, .int (iI (a))), (0, .ref (b + 236)), (1, .int (iI (r))), (2, .int (iI (x))), (3, .int (iI (y))), (4, .long (lI (q)))] := lv_sub hl [0, 3, 4, 5, 6, 7, 8] rfl
                refine ihli (bb + 1) _ u13 H locs ls (by omega) (by omega) (by omega) (fun i h2 h3 h4 => ?_) (fun i h2 h3 h4 => by rw [zu_n (by omega)]; exact hgB i h2 h3 (by omega)) (fun j h2 => by rw [zu_n (by omega)]; exact hk j h2) ff16 fr17 hP hS hl
                by_cases h5 : i = (a + bb) % 8
                · rw [h5, zu_s]
                · rw [zu_n (by omega)]; exact hgA i h2 h3 (by omega)
              · refine lv_aload_n hx hb d_M_addProduct_85 rfl (lv_at hl 4 rfl) ?_
                refine w_get (C := "LevelledRingModel") (T := T_M) (M := 19) hx hb hts hinM hown hK hP (236) (by omega) ff8 rfl 0 (by decide) kk0 (fun _ h => h) rfl d_M_addProduct_86 ?_
                refine lv_iload hx hb d_M_addProduct_89 (lv_at hl 0 rfl) ?_
                refine w_lald hx hb hK hP (237) (by omega) fg6 (by omega) (by omega) (by omega) d_M_addProduct_91 ?_
                refine lv_lload hx hb d_M_addProduct_92 (lv_at hl 1 rfl) ?_
                refine x_ladd hx hb d_M_addProduct_94 ?_
                refine lv_goto (tgt := 108) hx hb d_M_addProduct_95 (by decide) ?_
                refine lv_lload hx hb d_M_addProduct_108 (lv_at hl 8 rfl) ?_
                refine w_calll (va_runS (As := [.long (lI ((g2 ((8 * r) + ((a + bb) % 8))) + ((g (8 * x + a)) * ((g (8 * y + bb)) % (q)) % (q)))), .long (lI (q))]) (rest := [.int (iI ((8 * r) + ((a + bb) % 8))), .ref (b + 237)]) ⟨hx, hb, hml, hown, hts⟩ (c_Mmod l D ct st ke b N w5 ((g2 ((8 * r) + ((a + bb) % 8))) + ((g (8 * x + a)) * ((g (8 * y + bb)) % (q)) % (q))) (q) ⟨by omega, by omega⟩ (by omega) (by omega)) (cwS 2 hts (gS t_486 t_487 t_9 t_488) rfl rfl rfl (by decide +kernel) ⟨Nat.le_of_ble_eq_true rfl, Nat.le_of_ble_eq_true rfl⟩) (pre_S E hP hS) rfl rfl hl.1 rfl (lv_room (Nat.le_of_ble_eq_true rfl)) d_M_addProduct_110 ⟨(Nat.le_of_ble_eq_true rfl), (Nat.le_of_ble_eq_true rfl)⟩) hS (fun r19 z18 H locs hz hP hS => ?_)
                obtain ⟨rfl, rfl⟩ := hz
                refine x_le (y := (g (8 * r + ((a + bb) % 8)) + sn (nt (fun j => g (8 * x + j)) (fun j => g (8 * y + j)) ((a + bb) % 8)) (a + 1).toNat) % q) (by rw [ec, mp_add, sn_step _ h0, nt_le (by omega) (by omega) (by omega), show ((a + bb) % 8 - a) % 8 = bb by omega]) ?_
                refine w_last hx hb hK hP hS (237) (by omega) fg6 (by omega) (by omega) (by omega) d_M_addProduct_113 (fun H locs hP hS => ?_)
                obtain ⟨u20, hu21, hP⟩ : ∃ zz : Nat → va_E, zz = va_up w5 237 (lr ct 512 (zu g2 ((8 * r) + ((a + bb) % 8)) ((g (8 * r + ((a + bb) % 8)) + sn (nt (fun j => g (8 * x + j)) (fun j => g (8 * y + j)) ((a + bb) % 8)) (a + 1).toNat) % q))) ∧ va_P D vwCl (wl N b zz) H := ⟨_, rfl, hP⟩
                have ff22 : u20 236 = .inr (6, [.ref (b + 237), .ref (b + 238), .ref (b + 239), .ref (b + 240), .ref (b + 241), .ref (b + 242), .int (z0), .ref (b + 243), .int (iI (cnt)), .ref (b + 244), .ref (b + 245), .ref (b + 246), .ref (b + 247), .ref (b + 248), .ref (b + 249), .ref (b + 250), .ref (b + 251), .ref (b + 252), .ref (b + 253)]) := (congrFun hu21 _).trans ((up_n (by omega)).trans ff8)
                have ff23 : u20 237 = lr ct 512 (zu g2 ((8 * r) + ((a + bb) % 8)) ((g (8 * r + ((a + bb) % 8)) + sn (nt (fun j => g (8 * x + j)) (fun j => g (8 * y + j)) ((a + bb) % 8)) (a + 1).toNat) % q)) := (congrFun hu21 _).trans up_s
                have fr24 : ∀ j : Nat, (j ≠ 237) → u20 j = u j := fun j h0 => (congrFun hu21 j).trans ((up_n (by omega)).trans (fr7 j h0))
                refine lv_iinc (k := 2) (v := iI (bb + 1)) (lv' := [(7, .int (iI (bb + 1))), (10, .int (iI ((8 * r) + ((a + bb) % 8)))), (8, .long (lI ((g (8 * x + a)) * ((g (8 * y + bb)) % (q)) % (q)))), (6, .int (iI (a))), (0, .ref (b + 236)), (1, .int (iI (r))), (2, .int (iI (x))), (3, .int (iI (y))), (4, .long (lI (q)))]) hx hb d_M_addProduct_114 hl rfl (iI_add _ _) (by decide) rfl (fun ls hl => ?_)
                refine lv_goto (tgt := 13) hx hb d_M_addProduct_117 (by decide) ?_
                have hl : lv_has ls 11 [(7, .int (iI (bb + 1))), (6, .int (iI (a))), (0, .ref (b + 236)), (1, .int (iI (r))), (2, .int (iI (x))), (3, .int (iI (y))), (4, .long (lI (q)))] := lv_sub hl [0, 3, 4, 5, 6, 7, 8] rfl
                refine ihli (bb + 1) _ u20 H locs ls (by omega) (by omega) (by omega) (fun i h2 h3 h4 => ?_) (fun i h2 h3 h4 => by rw [zu_n (by omega)]; exact hgB i h2 h3 (by omega)) (fun j h2 => by rw [zu_n (by omega)]; exact hk j h2) ff23 fr24 hP hS hl
                by_cases h5 : i = (a + bb) % 8
                · rw [h5, zu_s]
                · rw [zu_n (by omega)]; exact hgA i h2 h3 (by omega)
        exact li 9 0 g2 w1 H locs ls (by omega) (by omega) (by omega) (fun i h2 h3 h4 => by omega) (fun i h2 h3 h4 => hg i h2 h3) hk fg2 fr3 hP hS hl
  exact lo 9 0 g u H locs ls (by omega) (by omega) (by omega) (fun i h2 h3 => by show _ = (g (8 * r + i) + 0) % q; rw [Int.add_zero, Int.emod_eq_of_lt (hC i h2 h3).1 (hC i h2 h3).2]) (fun _ _ => rfl) f1 fr0 hP hS hl
abbrev rm_c_sign : Room := { frames := 0, cells := 0, slots := 0, locals := 0 }
set_option maxHeartbeats 4000000 in
set_option maxRecDepth 100000 in
/-- sign(t, i) -/
theorem c_sign (l : Launch) (D : va_G) (ct : Nat → ClassId) (st ke : Nat → Nat) (b N : Nat) (u : Nat → va_E) (t i : Int) (ht0 : 0 ≤ t) (ht : t < 16) (hi0 : 0 ≤ i) (hi8 : i < 8) : Met l y_M_sign (w_M_sign) rm_c_sign (va_Pc [.int (iI (t)), .int (iI (i))] (fun U => ev D ct st ke b U ∧ va_P D vwCl (wl N b u) U.heap)) (va_Qi (fun (r : Int32) (z : Nat → va_E) => r = iI (tsg t i) ∧ u = z) (fun (z : Nat → va_E) t => va_P D vwCl (wl (N) b (z)) t.heap) (AA b)) 0 0 (AA b) := by
  refine M_i (cc := c9_M_sign) (maxL := 3) (by decide) rfl (Nat.le_of_ble_eq_true rfl) ?_
  intro p e s m args below meth c Q ls H locs hx hb hml hown hts hnm E hP hS hl ret
  have hl : lv_has ls 3 [(0, .int (iI (t))), (1, .int (iI (i)))] := hl
  have hK := ev_K E
  refine lv_iload_n hx hb d_M_sign_0 rfl (lv_at hl 1 rfl) ?_
  refine lv_iload_n hx hb d_M_sign_1 rfl (lv_at hl 0 rfl) ?_
  refine x_isub hx hb d_M_sign_2 ?_
  refine lv_bipush (v := iI (7)) hx hb d_M_sign_3 (by decide +kernel) ?_
  refine lv_iand hx hb d_M_sign_5 ?_
  refine x_i (y := iI ((i - t) % 8)) (iI_and7 _) ?_
  refine lv_istore_n (lv' := [(2, .int (iI ((i - t) % 8))), (0, .int (iI (t))), (1, .int (iI (i)))]) hx hb d_M_sign_6 rfl hl (by decide) rfl (fun ls hl => ?_)
  refine lv_iload_n hx hb d_M_sign_7 rfl (lv_at hl 0 rfl) ?_
  refine lv_iload_n hx hb d_M_sign_8 rfl (lv_at hl 1 rfl) ?_
  refine x_iadd hx hb d_M_sign_9 ?_
  refine lv_iconst (v := iI (3)) hx hb d_M_sign_10 rfl ?_
  refine lv_ishr hx hb d_M_sign_11 ?_
  refine x_i (y := iI ((((i - t) % 8) + (t)) / 8)) (iI_shr (by omega) (by omega)) ?_
  refine lv_iconst (v := iI (1)) hx hb d_M_sign_12 rfl ?_
  refine lv_iand hx hb d_M_sign_13 ?_
  refine x_i (y := iI (((((i - t) % 8) + (t)) / 8) % 2)) (iI_and1 _) ?_
  refine x_if_ne (tgt := 21) hx hb ⟨by omega, by omega⟩ d_M_sign_14 (by decide) (fun hc => ?_) (fun hc => ?_)
  · refine lv_iconst (v := iI (-1)) hx hb d_M_sign_21 rfl ?_
    refine x_ie (y := tsg t i) (by unfold tsg; rw [if_neg hc]) ?_
    exact ret _ u H locs 22 ls ⟨rfl, rfl⟩ hP hS d_M_sign_22
  · refine lv_iconst (v := iI (1)) hx hb d_M_sign_17 rfl ?_
    refine lv_goto (tgt := 22) hx hb d_M_sign_18 (by decide) ?_
    refine x_ie (y := tsg t i) (by unfold tsg; rw [if_pos hc]) ?_
    exact ret _ u H locs 22 ls ⟨rfl, rfl⟩ hP hS d_M_sign_22
abbrev rm_c_MtooGreat : Room := { frames := 0, cells := 0, slots := 0, locals := 0 }
set_option maxHeartbeats 4000000 in
set_option maxRecDepth 100000 in
/-- tooGreat(mt, l1) -/
theorem c_MtooGreat (l : Launch) (D : va_G) (ct : Nat → ClassId) (st ke : Nat → Nat) (b N : Nat) (u : Nat → va_E) (hN : 254 ≤ N) (z0 : Int32) (cnt : Int) (hM : u 236 = mo b z0 cnt) (hMK : MK ct u) (mt l1 : Int) (hmt : r64 mt) (hl0 : 0 ≤ l1) (hl3 : l1 ≤ 3) : Met l y_M_tooGreat (w_M_tooGreat) rm_c_MtooGreat (va_Pc [.ref (b + 236), .long (lI (mt)), .int (iI (l1))] (fun U => ev D ct st ke b U ∧ va_P D vwCl (wl N b u) U.heap)) (va_Qi (fun (r : Int32) (z : Nat → va_E) => r = iI (tg l1 mt) ∧ u = z) (fun (z : Nat → va_E) t => va_P D vwCl (wl (N) b (z)) t.heap) (AA b)) 0 0 (AA b) := by
  refine M_z (cc := c9_M_tooGreat) (maxL := 4) (by decide) rfl (Nat.le_of_ble_eq_true rfl) ?_
  intro p e s m args below meth c Q ls H locs hx hb hml hown hts hnm E hP hS hl ret
  have hl : lv_has ls 4 [(0, .ref (b + 236)), (1, .long (lI (mt))), (3, .int (iI (l1)))] := hl
  have hK := ev_K E
  have kk0 := hts (.fieldLink "LevelledRingModel" 17 "LevelledRingModel" "big" "[J") (List.mem_cons_of_mem _ t_495)
  have hinM : ∀ w ∈ u_ws "LevelledRingModel" T_M 19, w ∈ (w_M_tooGreat) := hin_M _
  have kk2 := hts (.constantLong "LevelledRingModel" 120 2) (List.mem_cons_of_mem _ t_630)
  have fr0 : ∀ j : Nat, u j = u j := fun _  => rfl
  obtain ⟨⟨pr, hp1, hp2⟩, ⟨bg, hb1, hb2⟩, ut, hu1, hu2⟩ := hMK
  have hlQ := lQ_bd l1
  refine lv_lload_n hx hb d_M_tooGreat_0 rfl (lv_at hl 1 rfl) ?_
  refine lv_aload_n hx hb d_M_tooGreat_1 rfl (lv_at hl 0 rfl) ?_
  refine w_get (C := "LevelledRingModel") (T := T_M) (M := 19) hx hb hts hinM hown hK hP (236) (by omega) hM rfl 2 (by decide) kk0 (fun _ h => h) rfl d_M_tooGreat_2 ?_
  refine lv_iload_n hx hb d_M_tooGreat_5 rfl (lv_at hl 2 rfl) ?_
  refine w_lald hx hb hK hP (239) (by omega) hb1 (by omega) (by omega) (by omega) d_M_tooGreat_6 ?_
  refine x_le (y := lQ l1) (hb2 l1 hl0 hl3) ?_
  refine lv_lconst (v := lI 1) hx hb d_M_tooGreat_7 rfl ?_
  refine x_lsub hx hb d_M_tooGreat_8 ?_
  refine lv_ldc2 hx hb hown kk2 d_M_tooGreat_9 ?_
  refine x_l (y := lI (2)) (by decide +kernel) ?_
  refine x_ldivP hx hb ⟨by omega, by omega⟩ ⟨by omega, by omega⟩ (by omega) (by omega) d_M_tooGreat_12 ?_
  refine x_lcmp hx hb hmt ⟨by omega, by omega⟩ d_M_tooGreat_13 ?_
  refine x_if_le (tgt := 21) hx hb (cmpz_r _ _) d_M_tooGreat_14 (by decide) (fun hc => ?_) (fun hc => ?_)
  · have hc := cmpz_le.mp hc
    refine lv_iconst (v := iI (0)) hx hb d_M_tooGreat_21 rfl ?_
    refine x_ie (y := tg l1 mt) (by unfold tg; rw [if_neg (by omega)]) ?_
    exact ret _ u H locs 22 ls (tg_01 _ _) ⟨rfl, rfl⟩ hP hS d_M_tooGreat_22
  · have hc : ¬ mt ≤ (lQ l1 - 1) / 2 := fun h => by have := cmpz_le.mpr h; omega
    refine lv_iconst (v := iI (1)) hx hb d_M_tooGreat_17 rfl ?_
    refine lv_goto (tgt := 22) hx hb d_M_tooGreat_18 (by decide) ?_
    refine x_ie (y := tg l1 mt) (by unfold tg; rw [if_pos (by omega)]) ?_
    exact ret _ u H locs 22 ls (tg_01 _ _) ⟨rfl, rfl⟩ hP hS d_M_tooGreat_22
abbrev rm_c_load : Room := { frames := 0, cells := 0, slots := 0, locals := 0 }
set_option maxHeartbeats 4000000 in
set_option maxRecDepth 100000 in
/-- load(w0, x) -/
theorem c_load (l : Launch) (D : va_G) (ct : Nat → ClassId) (st ke : Nat → Nat) (b N : Nat) (u : Nat → va_E) (hN : 254 ≤ N) (z0 : Int32) (cnt : Int) (hM : u 236 = mo b z0 cnt) (g lv mt wv wm : Int → Int) (f1 : u 237 = lr ct 512 g) (f2 : u 249 = ir ct 24 lv) (f3 : u 250 = lr ct 24 mt) (f4 : u 251 = ir ct 2 wv) (f5 : u 252 = lr ct 2 wm) (w0 x : Int) (hw0 : 0 ≤ w0) (hw1 : w0 ≤ 1) (hx0 : 0 ≤ x) (hx1 : x < 24) : Met l y_M_load (w_M_load) rm_c_load (va_Pc [.ref (b + 236), .int (iI (w0)), .int (iI (x))] (fun U => ev D ct st ke b U ∧ va_P D vwCl (wl N b u) U.heap)) (va_Qv (fun z : Nat → va_E => ∃ g2 : Int → Int, z 237 = lr ct 512 g2 ∧ z 251 = ir ct 2 (zu wv w0 (lv x)) ∧ z 252 = lr ct 2 (zu wm w0 (mt x)) ∧ (∀ i : Int, 0 ≤ i → i < 16 → g2 (8 * (56 + 2 * w0) + i) = g (8 * (8 + 2 * x) + i)) ∧ (∀ j : Int, (j < 8 * (56 + 2 * w0) ∨ 8 * (56 + 2 * w0) + 16 ≤ j) → g2 j = g j) ∧ ∀ j : Nat, j ≠ 237 → j ≠ 251 → j ≠ 252 → z j = u j) (fun (z : Nat → va_E) t => va_P D vwCl (wl (N) b (z)) t.heap) (AA b)) 0 0 (AA b) := by
  refine M_v (cc := c9_M_load) (maxL := 4) (by decide) rfl (Nat.le_of_ble_eq_true rfl) ?_
  intro p e s m args below meth c Q ls H locs hx hb hml hown hts hnm E hP hS hl ret
  have hl : lv_has ls 4 [(0, .ref (b + 236)), (1, .int (iI (w0))), (2, .int (iI (x)))] := hl
  have hK := ev_K E
  have kk0 := hts (.fieldLink "LevelledRingModel" 54 "LevelledRingModel" "workLevel" "[I") (List.mem_cons_of_mem _ t_509)
  have hinM : ∀ w ∈ u_ws "LevelledRingModel" T_M 19, w ∈ (w_M_load) := hin_M _
  have kk2 := hts (.fieldLink "LevelledRingModel" 48 "LevelledRingModel" "level" "[I") (List.mem_cons_of_mem _ t_507)
  have kk3 := hts (.fieldLink "LevelledRingModel" 57 "LevelledRingModel" "workMeter" "[J") (List.mem_cons_of_mem _ t_510)
  have kk4 := hts (.fieldLink "LevelledRingModel" 51 "LevelledRingModel" "meter" "[J") (List.mem_cons_of_mem _ t_508)
  have kk5 := hts (.fieldLink "LevelledRingModel" 7 "LevelledRingModel" "row" "[J") (List.mem_cons_of_mem _ t_493)
  have fr0 : ∀ j : Nat, (j ≠ 237) → (j ≠ 251) → (j ≠ 252) → u j = u j := fun _ _ _ _ => rfl
  refine lv_aload_n hx hb d_M_load_0 rfl (lv_at hl 0 rfl) ?_
  refine w_get (C := "LevelledRingModel") (T := T_M) (M := 19) hx hb hts hinM hown hK hP (236) (by omega) hM rfl 16 (by decide) kk0 (fun _ h => h) rfl d_M_load_1 ?_
  refine lv_iload_n hx hb d_M_load_4 rfl (lv_at hl 1 rfl) ?_
  refine lv_aload_n hx hb d_M_load_5 rfl (lv_at hl 0 rfl) ?_
  refine w_get (C := "LevelledRingModel") (T := T_M) (M := 19) hx hb hts hinM hown hK hP (236) (by omega) hM rfl 14 (by decide) kk2 (fun _ h => h) rfl d_M_load_6 ?_
  refine lv_iload_n hx hb d_M_load_9 rfl (lv_at hl 2 rfl) ?_
  refine w_iald hx hb hK hP (249) (by omega) f2 (by omega) (by omega) (by omega) d_M_load_10 ?_
  refine w_iast hx hb hK hP hS (251) (by omega) f4 (by omega) (by omega) (by omega) d_M_load_11 (fun H locs hP hS => ?_)
  obtain ⟨u1, hu2, hP⟩ : ∃ zz : Nat → va_E, zz = va_up u 251 (ir ct 2 (zu wv (w0) (lv (x)))) ∧ va_P D vwCl (wl N b zz) H := ⟨_, rfl, hP⟩
  have ff3 : u1 236 = .inr (6, [.ref (b + 237), .ref (b + 238), .ref (b + 239), .ref (b + 240), .ref (b + 241), .ref (b + 242), .int (z0), .ref (b + 243), .int (iI (cnt)), .ref (b + 244), .ref (b + 245), .ref (b + 246), .ref (b + 247), .ref (b + 248), .ref (b + 249), .ref (b + 250), .ref (b + 251), .ref (b + 252), .ref (b + 253)]) := (congrFun hu2 _).trans ((up_n (by omega)).trans hM)
  have ff4 : u1 237 = lr ct 512 (g) := (congrFun hu2 _).trans ((up_n (by omega)).trans f1)
  have ff5 : u1 249 = ir ct 24 (lv) := (congrFun hu2 _).trans ((up_n (by omega)).trans f2)
  have ff6 : u1 250 = lr ct 24 (mt) := (congrFun hu2 _).trans ((up_n (by omega)).trans f3)
  have ff7 : u1 251 = ir ct 2 (zu wv (w0) (lv (x))) := (congrFun hu2 _).trans up_s
  have ff8 : u1 252 = lr ct 2 (wm) := (congrFun hu2 _).trans ((up_n (by omega)).trans f5)
  have fr9 : ∀ j : Nat, (j ≠ 237) → (j ≠ 251) → (j ≠ 252) → u1 j = u j := fun j h0 h1 h2 => (congrFun hu2 j).trans ((up_n (by omega)).trans (fr0 j h0 h1 h2))
  refine lv_aload_n hx hb d_M_load_12 rfl (lv_at hl 0 rfl) ?_
  refine w_get (C := "LevelledRingModel") (T := T_M) (M := 19) hx hb hts hinM hown hK hP (236) (by omega) ff3 rfl 17 (by decide) kk3 (fun _ h => h) rfl d_M_load_13 ?_
  refine lv_iload_n hx hb d_M_load_16 rfl (lv_at hl 1 rfl) ?_
  refine lv_aload_n hx hb d_M_load_17 rfl (lv_at hl 0 rfl) ?_
  refine w_get (C := "LevelledRingModel") (T := T_M) (M := 19) hx hb hts hinM hown hK hP (236) (by omega) ff3 rfl 15 (by decide) kk4 (fun _ h => h) rfl d_M_load_18 ?_
  refine lv_iload_n hx hb d_M_load_21 rfl (lv_at hl 2 rfl) ?_
  refine w_lald hx hb hK hP (250) (by omega) ff6 (by omega) (by omega) (by omega) d_M_load_22 ?_
  refine w_last hx hb hK hP hS (252) (by omega) ff8 (by omega) (by omega) (by omega) d_M_load_23 (fun H locs hP hS => ?_)
  obtain ⟨u10, hu11, hP⟩ : ∃ zz : Nat → va_E, zz = va_up u1 252 (lr ct 2 (zu wm (w0) (mt (x)))) ∧ va_P D vwCl (wl N b zz) H := ⟨_, rfl, hP⟩
  have ff12 : u10 236 = .inr (6, [.ref (b + 237), .ref (b + 238), .ref (b + 239), .ref (b + 240), .ref (b + 241), .ref (b + 242), .int (z0), .ref (b + 243), .int (iI (cnt)), .ref (b + 244), .ref (b + 245), .ref (b + 246), .ref (b + 247), .ref (b + 248), .ref (b + 249), .ref (b + 250), .ref (b + 251), .ref (b + 252), .ref (b + 253)]) := (congrFun hu11 _).trans ((up_n (by omega)).trans ff3)
  have ff13 : u10 237 = lr ct 512 (g) := (congrFun hu11 _).trans ((up_n (by omega)).trans ff4)
  have ff14 : u10 249 = ir ct 24 (lv) := (congrFun hu11 _).trans ((up_n (by omega)).trans ff5)
  have ff15 : u10 250 = lr ct 24 (mt) := (congrFun hu11 _).trans ((up_n (by omega)).trans ff6)
  have ff16 : u10 251 = ir ct 2 (zu wv (w0) (lv (x))) := (congrFun hu11 _).trans ((up_n (by omega)).trans ff7)
  have ff17 : u10 252 = lr ct 2 (zu wm (w0) (mt (x))) := (congrFun hu11 _).trans up_s
  have fr18 : ∀ j : Nat, (j ≠ 237) → (j ≠ 251) → (j ≠ 252) → u10 j = u j := fun j h0 h1 h2 => (congrFun hu11 j).trans ((up_n (by omega)).trans (fr9 j h0 h1 h2))
  refine lv_iconst (v := iI (0)) hx hb d_M_load_24 rfl ?_
  refine lv_istore_n (lv' := [(3, .int (iI (0))), (0, .ref (b + 236)), (1, .int (iI (w0))), (2, .int (iI (x)))]) hx hb d_M_load_25 rfl hl (by decide) rfl (fun ls hl => ?_)
  have lo : ∀ (d : Nat) (i : Int) (g2 : Int → Int) (w19 : Nat → va_E) (H : Heap) (locs : List Loc) (ls : Array Slot), (0 ≤ i) → (i ≤ 16) → (16 - i < d) → (∀ c : Int, 0 ≤ c → c < i → g2 (8 * (56 + 2 * w0) + c) = g (8 * (8 + 2 * x) + c)) → (∀ j : Int, (j < 8 * (56 + 2 * w0) ∨ 8 * (56 + 2 * w0) + i ≤ j) → g2 j = g j) → w19 237 = lr ct 512 (g2) → w19 251 = ir ct 2 (zu wv w0 (lv x)) → w19 252 = lr ct 2 (zu wm w0 (mt x)) → (∀ j : Nat, (j ≠ 237) → (j ≠ 251) → (j ≠ 252) → w19 j = u j) → va_P D vwCl (wl N b w19) H → va_S (AA b) s.heap H locs → lv_has ls 4 [(3, .int (iI (i))), (0, .ref (b + 236)), (1, .int (iI (w0))), (2, .int (iI (x)))] → W p l e rm_c_load s m args below meth c H locs 0 0 Q (F0 m 26 ls []) := by
    intro d
    induction d with
    | zero => intro i g2 w19 H locs ls h0 h1 hd hg hk fg20 fg21 fg22 fr23 hP hS hl; exfalso; omega
    | succ d ihlo =>
      intro i g2 w19 H locs ls h0 h1 hd hg hk fg20 fg21 fg22 fr23 hP hS hl
      have ff24 : w19 236 = .inr (6, [.ref (b + 237), .ref (b + 238), .ref (b + 239), .ref (b + 240), .ref (b + 241), .ref (b + 242), .int (z0), .ref (b + 243), .int (iI (cnt)), .ref (b + 244), .ref (b + 245), .ref (b + 246), .ref (b + 247), .ref (b + 248), .ref (b + 249), .ref (b + 250), .ref (b + 251), .ref (b + 252), .ref (b + 253)]) := (fr23 236 (by omega) (by omega) (by omega)).trans hM
      have ff25 : w19 249 = ir ct 24 (lv) := (fr23 249 (by omega) (by omega) (by omega)).trans f2
      have ff26 : w19 250 = lr ct 24 (mt) := (fr23 250 (by omega) (by omega) (by omega)).trans f3
      refine lv_iload_n hx hb d_M_load_26 rfl (lv_at hl 0 rfl) ?_
      refine lv_bipush (v := iI (16)) hx hb d_M_load_27 (by decide +kernel) ?_
      refine x_icmp_ge (tgt := 70) hx hb ⟨by omega, by omega⟩ ⟨by omega, by omega⟩ d_M_load_29 (by decide) (fun hc => ?_) (fun hc => ?_)
      · obtain rfl : i = 16 := by omega
        exact ret w19 H locs 70 ls ⟨g2, fg20, fg21, fg22, hg, hk, fr23⟩ hP hS d_M_load_70
      · refine lv_aload_n hx hb d_M_load_32 rfl (lv_at hl 1 rfl) ?_
        refine w_get (C := "LevelledRingModel") (T := T_M) (M := 19) hx hb hts hinM hown hK hP (236) (by omega) ff24 rfl 0 (by decide) kk5 (fun _ h => h) rfl d_M_load_33 ?_
        refine lv_bipush (v := iI (8)) hx hb d_M_load_36 (by decide +kernel) ?_
        refine lv_bipush (v := iI (56)) hx hb d_M_load_38 (by decide +kernel) ?_
        refine lv_iconst (v := iI (2)) hx hb d_M_load_40 rfl ?_
        refine lv_iload_n hx hb d_M_load_41 rfl (lv_at hl 2 rfl) ?_
        refine x_imul hx hb d_M_load_42 ?_
        refine x_iadd hx hb d_M_load_43 ?_
        refine x_imul hx hb d_M_load_44 ?_
        refine lv_iload_n hx hb d_M_load_45 rfl (lv_at hl 0 rfl) ?_
        refine x_iadd hx hb d_M_load_46 ?_
        refine lv_aload_n hx hb d_M_load_47 rfl (lv_at hl 1 rfl) ?_
        refine w_get (C := "LevelledRingModel") (T := T_M) (M := 19) hx hb hts hinM hown hK hP (236) (by omega) ff24 rfl 0 (by decide) kk5 (fun _ h => h) rfl d_M_load_48 ?_
        refine lv_bipush (v := iI (8)) hx hb d_M_load_51 (by decide +kernel) ?_
        refine lv_bipush (v := iI (8)) hx hb d_M_load_53 (by decide +kernel) ?_
        refine lv_iconst (v := iI (2)) hx hb d_M_load_55 rfl ?_
        refine lv_iload_n hx hb d_M_load_56 rfl (lv_at hl 3 rfl) ?_
        refine x_imul hx hb d_M_load_57 ?_
        refine x_iadd hx hb d_M_load_58 ?_
        refine x_imul hx hb d_M_load_59 ?_
        refine lv_iload_n hx hb d_M_load_60 rfl (lv_at hl 0 rfl) ?_
        refine x_iadd hx hb d_M_load_61 ?_
        refine w_lald hx hb hK hP (237) (by omega) fg20 (by omega) (by omega) (by omega) d_M_load_62 ?_
        refine x_le (y := g (8 * (8 + 2 * x) + i)) (hk _ (by omega)) ?_
        refine w_last hx hb hK hP hS (237) (by omega) fg20 (by omega) (by omega) (by omega) d_M_load_63 (fun H locs hP hS => ?_)
        obtain ⟨u27, hu28, hP⟩ : ∃ zz : Nat → va_E, zz = va_up w19 237 (lr ct 512 (zu g2 (((8) * ((56) + (2 * w0))) + (i)) (g (8 * (8 + 2 * x) + i)))) ∧ va_P D vwCl (wl N b zz) H := ⟨_, rfl, hP⟩
        have ff29 : u27 236 = .inr (6, [.ref (b + 237), .ref (b + 238), .ref (b + 239), .ref (b + 240), .ref (b + 241), .ref (b + 242), .int (z0), .ref (b + 243), .int (iI (cnt)), .ref (b + 244), .ref (b + 245), .ref (b + 246), .ref (b + 247), .ref (b + 248), .ref (b + 249), .ref (b + 250), .ref (b + 251), .ref (b + 252), .ref (b + 253)]) := (congrFun hu28 _).trans ((up_n (by omega)).trans ff24)
        have ff30 : u27 249 = ir ct 24 (lv) := (congrFun hu28 _).trans ((up_n (by omega)).trans ff25)
        have ff31 : u27 250 = lr ct 24 (mt) := (congrFun hu28 _).trans ((up_n (by omega)).trans ff26)
        have ff32 : u27 237 = lr ct 512 (zu g2 (((8) * ((56) + (2 * w0))) + (i)) (g (8 * (8 + 2 * x) + i))) := (congrFun hu28 _).trans up_s
        have ff33 : u27 251 = ir ct 2 (zu wv w0 (lv x)) := (congrFun hu28 _).trans ((up_n (by omega)).trans fg21)
        have ff34 : u27 252 = lr ct 2 (zu wm w0 (mt x)) := (congrFun hu28 _).trans ((up_n (by omega)).trans fg22)
        have fr35 : ∀ j : Nat, (j ≠ 237) → (j ≠ 251) → (j ≠ 252) → u27 j = u j := fun j h0 h1 h2 => (congrFun hu28 j).trans ((up_n (by omega)).trans (fr23 j h0 h1 h2))
        refine lv_iinc (k := 0) (v := iI (i + 1)) (lv' := [(3, .int (iI (i + 1))), (0, .ref (b + 236)), (1, .int (iI (w0))), (2, .int (iI (x)))]) hx hb d_M_load_64 hl rfl (iI_add _ _) (by decide) rfl (fun ls hl => ?_)
        refine lv_goto (tgt := 26) hx hb d_M_load_67 (by decide) ?_
        refine ihlo (i + 1) _ u27 H locs ls (by omega) (by omega) (by omega) (fun c h2 h3 => ?_) (fun j h2 => by rw [zu_n (by omega)]; exact hk j (by omega)) ff32 ff33 ff34 fr35 hP hS hl
        by_cases h4 : c = i
        · rw [h4, zu_s]
        · rw [zu_n (by omega)]; exact hg c h2 (by omega)
  exact lo 17 0 g u10 H locs ls (by omega) (by omega) (by omega) (fun c h2 h3 => by omega) (fun _ _ => rfl) ff13 ff16 ff17 fr18 hP hS hl
