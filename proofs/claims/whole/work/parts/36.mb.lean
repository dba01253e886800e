abbrev rm_c_withSecret : Room := { frames := 1, cells := 0, slots := 0, locals := 25 }
set_option maxHeartbeats 4000000 in
set_option maxRecDepth 100000 in
/-- withSecret(x, i, q) -/
theorem c_withSecret (l : Launch) (D : va_G) (ct : Nat → ClassId) (st ke : Nat → Nat) (b N : Nat) (u : Nat → va_E) (hN : 254 ≤ N) (z0 : Int32) (cnt : Int) (hM : u 236 = mo b z0 cnt) (S : Int → Int) (hE : ME ct u S) (hS1 : ∀ i : Int, -1 ≤ S i ∧ S i ≤ 1) (g : Int → Int) (f1 : u 237 = lr ct 512 g) (x i q : Int) (hx0 : 0 ≤ x) (hx1 : x < 64) (hi0 : 0 ≤ i) (hi8 : i < 8) (hq0 : 0 < q) (hq1 : q ≤ 715450762997731793) (hX : ∀ j : Int, 0 ≤ j → j < 8 → 0 ≤ g (8 * x + j) ∧ g (8 * x + j) ≤ 715450762997731793) : Met l y_M_withSecret (w_M_withSecret) rm_c_withSecret (va_Pc [.ref (b + 236), .int (iI (x)), .int (iI (i)), .long (lI (q))] (fun U => ev D ct st ke b U ∧ va_P D vwCl (wl N b u) U.heap)) (va_Ql (fun (r : Int64) (z : Nat → va_E) => r = lI (nc (fun j => g (8 * x + j)) S i % q) ∧ u = z) (fun (z : Nat → va_E) t => va_P D vwCl (wl (N) b (z)) t.heap) (AA b)) 0 0 (AA b) := by
  refine M_l (cc := c9_M_withSecret) (maxL := 10) (by decide) rfl (Nat.le_of_ble_eq_true rfl) ?_
  intro p e s m args below meth c Q ls H locs hx hb hml hown hts hnm E hP hS hl ret
  have hl : lv_has ls 10 [(0, .ref (b + 236)), (1, .int (iI (x))), (2, .int (iI (i))), (3, .long (lI (q)))] := hl
  have hK := ev_K E
  have kk0 := hts (.fieldLink "LevelledRingModel" 23 "LevelledRingModel" "secret" "[I") (List.mem_cons_of_mem _ t_497)
  have hinM : ∀ w ∈ u_ws "LevelledRingModel" T_M 19, w ∈ (w_M_withSecret) := hin_M _
  have kk2 := hts (.fieldLink "LevelledRingModel" 7 "LevelledRingModel" "row" "[J") (List.mem_cons_of_mem _ t_493)
  have fr0 : ∀ j : Nat, u j = u j := fun _  => rfl
  obtain ⟨sc, hs1, hs2⟩ := hE
  refine lv_lconst (v := lI 0) hx hb d_M_withSecret_0 rfl ?_
  refine lv_lstore (lv' := [(5, .long (lI (0))), (0, .ref (b + 236)), (1, .int (iI (x))), (2, .int (iI (i))), (3, .long (lI (q)))]) hx hb d_M_withSecret_1 hl (by decide) rfl (fun ls hl => ?_)
  refine lv_iconst (v := iI (0)) hx hb d_M_withSecret_3 rfl ?_
  refine lv_istore (lv' := [(7, .int (iI (0))), (5, .long (lI (0))), (0, .ref (b + 236)), (1, .int (iI (x))), (2, .int (iI (i))), (3, .long (lI (q)))]) hx hb d_M_withSecret_4 hl (by decide) rfl (fun ls hl => ?_)
  have hl : lv_has ls 10 [(7, .int (iI (0))), (5, .long (lI (sn (nt (fun j => g (8 * x + j)) S i) (0 : Int).toNat % q))), (0, .ref (b + 236)), (1, .int (iI (x))), (2, .int (iI (i))), (3, .long (lI (q)))] := by rw [show sn (nt (fun j => g (8 * x + j)) S i) (0 : Int).toNat % q = 0 from Int.zero_emod q]; exact hl
  have hl : lv_has ls 10 [(7, .int (iI (0))), (5, .long (lI (sn (nt (fun j => g (8 * x + j)) S i) (0 : Int).toNat % q))), (0, .ref (b + 236)), (1, .int (iI (x))), (2, .int (iI (i))), (3, .long (lI (q)))] := lv_sub hl [0, 1, 2, 3, 4, 5] rfl
  have lo : ∀ (d : Nat) (a : Int) (H : Heap) (locs : List Loc) (ls : Array Slot), (0 ≤ a) → (a ≤ 8) → (8 - a < d) → va_P D vwCl (wl N b u) H → va_S (AA b) s.heap H locs → lv_has ls 10 [(7, .int (iI (a))), (5, .long (lI (sn (nt (fun j => g (8 * x + j)) S i) a.toNat % q))), (0, .ref (b + 236)), (1, .int (iI (x))), (2, .int (iI (i))), (3, .long (lI (q)))] → W p l e rm_c_withSecret s m args below meth c H locs 0 0 Q (F0 m 6 ls []) := by
    intro d
    induction d with
    | zero => intro a H locs ls h0 h1 hd hP hS hl; exfalso; omega
    | succ d ihlo =>
      intro a H locs ls h0 h1 hd hP hS hl
      refine lv_iload hx hb d_M_withSecret_6 (lv_at hl 0 rfl) ?_
      refine lv_bipush (v := iI (8)) hx hb d_M_withSecret_8 (by decide +kernel) ?_
      refine x_icmp_ge (tgt := 82) hx hb ⟨by omega, by omega⟩ ⟨by omega, by omega⟩ d_M_withSecret_10 (by decide) (fun hc => ?_) (fun hc => ?_)
      · obtain rfl : a = 8 := by omega
        refine lv_lload hx hb d_M_withSecret_82 (lv_at hl 1 rfl) ?_
        refine x_le (y := nc (fun j => g (8 * x + j)) S i % q) (rfl) ?_
        exact ret _ u H locs 84 ls ⟨rfl, rfl⟩ hP hS d_M_withSecret_84
      · have bs := mod_b (sn (nt (fun j => g (8 * x + j)) S i) a.toNat) hq0
        have bX := hX a h0 (by omega)
        refine lv_iload_n hx hb d_M_withSecret_13 rfl (lv_at hl 4 rfl) ?_
        refine lv_iload hx hb d_M_withSecret_14 (lv_at hl 0 rfl) ?_
        refine x_isub hx hb d_M_withSecret_16 ?_
        refine lv_bipush (v := iI (7)) hx hb d_M_withSecret_17 (by decide +kernel) ?_
        refine lv_iand hx hb d_M_withSecret_19 ?_
        refine x_i (y := iI ((i - a) % 8)) (iI_and7 _) ?_
        refine lv_istore (lv' := [(8, .int (iI ((i - a) % 8))), (7, .int (iI (a))), (5, .long (lI (sn (nt (fun j => g (8 * x + j)) S i) a.toNat % q))), (0, .ref (b + 236)), (1, .int (iI (x))), (2, .int (iI (i))), (3, .long (lI (q)))]) hx hb d_M_withSecret_20 hl (by decide) rfl (fun ls hl => ?_)
        refine lv_iload hx hb d_M_withSecret_22 (lv_at hl 1 rfl) ?_
        refine lv_iload hx hb d_M_withSecret_24 (lv_at hl 0 rfl) ?_
        refine x_iadd hx hb d_M_withSecret_26 ?_
        refine lv_iload_n hx hb d_M_withSecret_27 rfl (lv_at hl 5 rfl) ?_
        refine x_icmp_ne (tgt := 41) hx hb ⟨by omega, by omega⟩ ⟨by omega, by omega⟩ d_M_withSecret_28 (by decide) (fun hc => ?_) (fun hc => ?_)
        · have bS := hS1 ((i - a) % 8)
          have eS := hs2 ((i - a) % 8) (by omega) (by omega)
          refine lv_aload_n hx hb d_M_withSecret_41 rfl (lv_at hl 3 rfl) ?_
          refine w_get (C := "LevelledRingModel") (T := T_M) (M := 19) hx hb hts hinM hown hK hP (236) (by omega) hM rfl 4 (by decide) kk0 (fun _ h => h) rfl d_M_withSecret_42 ?_
          refine lv_iload hx hb d_M_withSecret_45 (lv_at hl 0 rfl) ?_
          refine w_iald hx hb hK hP (241) (by omega) hs1 (by omega) (by omega) (by omega) d_M_withSecret_47 ?_
          refine x_ineg hx hb d_M_withSecret_48 ?_
          refine x_ie (y := -S ((i - a) % 8)) (by rw [eS]) ?_
          have bm := mul_s (s := -S ((i - a) % 8)) (x := g (8 * x + a)) (by omega) (by omega) bX.1 bX.2
          refine lv_istore (lv' := [(9, .int (iI (-S ((i - a) % 8)))), (8, .int (iI ((i - a) % 8))), (7, .int (iI (a))), (5, .long (lI (sn (nt (fun j => g (8 * x + j)) S i) a.toNat % q))), (0, .ref (b + 236)), (1, .int (iI (x))), (2, .int (iI (i))), (3, .long (lI (q)))]) hx hb d_M_withSecret_49 hl (by decide) rfl (fun ls hl => ?_)
          refine lv_lload hx hb d_M_withSecret_51 (lv_at hl 3 rfl) ?_
          refine lv_iload hx hb d_M_withSecret_53 (lv_at hl 0 rfl) ?_
          refine x_i2l hx hb ⟨by omega, by omega⟩ d_M_withSecret_55 ?_
          refine lv_aload_n hx hb d_M_withSecret_56 rfl (lv_at hl 4 rfl) ?_
          refine w_get (C := "LevelledRingModel") (T := T_M) (M := 19) hx hb hts hinM hown hK hP (236) (by omega) hM rfl 0 (by decide) kk2 (fun _ h => h) rfl d_M_withSecret_57 ?_
          refine lv_bipush (v := iI (8)) hx hb d_M_withSecret_60 (by decide +kernel) ?_
          refine lv_iload_n hx hb d_M_withSecret_62 rfl (lv_at hl 5 rfl) ?_
          refine x_imul hx hb d_M_withSecret_63 ?_
          refine lv_iload hx hb d_M_withSecret_64 (lv_at hl 2 rfl) ?_
          refine x_iadd hx hb d_M_withSecret_66 ?_
          refine w_lald hx hb hK hP (237) (by omega) f1 (by omega) (by omega) (by omega) d_M_withSecret_67 ?_
          refine x_lmul hx hb d_M_withSecret_68 ?_
          refine x_ladd hx hb d_M_withSecret_69 ?_
          refine lv_lload_n hx hb d_M_withSecret_70 rfl (lv_at hl 7 rfl) ?_
          refine w_calll (va_runS (As := [.long (lI ((sn (nt (fun j => g (8 * x + j)) S i) a.toNat % q) + ((-S ((i - a) % 8)) * (g ((8 * x) + (a)))))), .long (lI (q))]) (rest := []) ⟨hx, hb, hml, hown, hts⟩ (c_Mmod l D ct st ke b N u ((sn (nt (fun j => g (8 * x + j)) S i) a.toNat % q) + ((-S ((i - a) % 8)) * (g ((8 * x) + (a))))) (q) ⟨by omega, by omega⟩ (by omega) (by omega)) (cwS 2 hts (gS t_486 t_487 t_9 t_488) rfl rfl rfl (by decide +kernel) ⟨Nat.le_of_ble_eq_true rfl, Nat.le_of_ble_eq_true rfl⟩) (pre_S E hP hS) rfl rfl hl.1 rfl (lv_room (Nat.le_of_ble_eq_true rfl)) d_M_withSecret_71 ⟨(Nat.le_of_ble_eq_true rfl), (Nat.le_of_ble_eq_true rfl)⟩) hS (fun r2 z1 H locs hz hP hS => ?_)
          obtain ⟨rfl, rfl⟩ := hz
          refine x_le (y := sn (nt (fun j => g (8 * x + j)) S i) (a + 1).toNat % q) (by rw [sn_step _ h0, nt_gt (by omega) (by omega) (by omega)]; exact cg_add cg_mod (by show cg _ _ _; rw [Int.neg_mul, Int.mul_comm]; exact cg_r)) ?_
          refine lv_lstore (lv' := [(5, .long (lI (sn (nt (fun j => g (8 * x + j)) S i) (a + 1).toNat % q))), (9, .int (iI (-S ((i - a) % 8)))), (8, .int (iI ((i - a) % 8))), (7, .int (iI (a))), (0, .ref (b + 236)), (1, .int (iI (x))), (2, .int (iI (i))), (3, .long (lI (q)))]) hx hb d_M_withSecret_74 hl (by decide) rfl (fun ls hl => ?_)
          refine lv_iinc (k := 3) (v := iI (a + 1)) (lv' := [(7, .int (iI (a + 1))), (5, .long (lI (sn (nt (fun j => g (8 * x + j)) S i) (a + 1).toNat % q))), (9, .int (iI (-S ((i - a) % 8)))), (8, .int (iI ((i - a) % 8))), (0, .ref (b + 236)), (1, .int (iI (x))), (2, .int (iI (i))), (3, .long (lI (q)))]) hx hb d_M_withSecret_76 hl rfl (iI_add _ _) (by decide) rfl (fun ls hl => ?_)
          refine lv_goto (tgt := 6) hx hb d_M_withSecret_79 (by decide) ?_
          have hl : lv_has ls 10 [(7, .int (iI (a + 1))), (5, .long (lI (sn (nt (fun j => g (8 * x + j)) S i) (a + 1).toNat % q))), (0, .ref (b + 236)), (1, .int (iI (x))), (2, .int (iI (i))), (3, .long (lI (q)))] := lv_sub hl [0, 1, 4, 5, 6, 7] rfl
          exact ihlo (a + 1) H locs ls (by omega) (by omega) (by omega) hP hS hl
        · have bS := hS1 ((i - a) % 8)
          have eS := hs2 ((i - a) % 8) (by omega) (by omega)
          refine lv_aload_n hx hb d_M_withSecret_31 rfl (lv_at hl 3 rfl) ?_
          refine w_get (C := "LevelledRingModel") (T := T_M) (M := 19) hx hb hts hinM hown hK hP (236) (by omega) hM rfl 4 (by decide) kk0 (fun _ h => h) rfl d_M_withSecret_32 ?_
          refine lv_iload hx hb d_M_withSecret_35 (lv_at hl 0 rfl) ?_
          refine w_iald hx hb hK hP (241) (by omega) hs1 (by omega) (by omega) (by omega) d_M_withSecret_37 ?_
          refine lv_goto (tgt := 49) hx hb d_M_withSecret_38 (by decide) ?_
          refine x_ie (y := S ((i - a) % 8)) (by rw [eS]) ?_
          have bm := mul_s (s := S ((i - a) % 8)) (x := g (8 * x + a)) (by omega) (by omega) bX.1 bX.2
          refine lv_istore (lv' := [(9, .int (iI (S ((i - a) % 8)))), (8, .int (iI ((i - a) % 8))), (7, .int (iI (a))), (5, .long (lI (sn (nt (fun j => g (8 * x + j)) S i) a.toNat % q))), (0, .ref (b + 236)), (1, .int (iI (x))), (2, .int (iI (i))), (3, .long (lI (q)))]) hx hb d_M_withSecret_49 hl (by decide) rfl (fun ls hl => ?_)
          refine lv_lload hx hb d_M_withSecret_51 (lv_at hl 3 rfl) ?_
          refine lv_iload hx hb d_M_withSecret_53 (lv_at hl 0 rfl) ?_
          refine x_i2l hx hb ⟨by omega, by omega⟩ d_M_withSecret_55 ?_
          refine lv_aload_n hx hb d_M_withSecret_56 rfl (lv_at hl 4 rfl) ?_
          refine w_get (C := "LevelledRingModel") (T := T_M) (M := 19) hx hb hts hinM hown hK hP (236) (by omega) hM rfl 0 (by decide) kk2 (fun _ h => h) rfl d_M_withSecret_57 ?_
          refine lv_bipush (v := iI (8)) hx hb d_M_withSecret_60 (by decide +kernel) ?_
          refine lv_iload_n hx hb d_M_withSecret_62 rfl (lv_at hl 5 rfl) ?_
          refine x_imul hx hb d_M_withSecret_63 ?_
          refine lv_iload hx hb d_M_withSecret_64 (lv_at hl 2 rfl) ?_
          refine x_iadd hx hb d_M_withSecret_66 ?_
          refine w_lald hx hb hK hP (237) (by omega) f1 (by omega) (by omega) (by omega) d_M_withSecret_67 ?_
          refine x_lmul hx hb d_M_withSecret_68 ?_
          refine x_ladd hx hb d_M_withSecret_69 ?_
          refine lv_lload_n hx hb d_M_withSecret_70 rfl (lv_at hl 7 rfl) ?_
          refine w_calll (va_runS (As := [.long (lI ((sn (nt (fun j => g (8 * x + j)) S i) a.toNat % q) + ((S ((i - a) % 8)) * (g ((8 * x) + (a)))))), .long (lI (q))]) (rest := []) ⟨hx, hb, hml, hown, hts⟩ (c_Mmod l D ct st ke b N u ((sn (nt (fun j => g (8 * x + j)) S i) a.toNat % q) + ((S ((i - a) % 8)) * (g ((8 * x) + (a))))) (q) ⟨by omega, by omega⟩ (by omega) (by omega)) (cwS 2 hts (gS t_486 t_487 t_9 t_488) rfl rfl rfl (by decide +kernel) ⟨Nat.le_of_ble_eq_true rfl, Nat.le_of_ble_eq_true rfl⟩) (pre_S E hP hS) rfl rfl hl.1 rfl (lv_room (Nat.le_of_ble_eq_true rfl)) d_M_withSecret_71 ⟨(Nat.le_of_ble_eq_true rfl), (Nat.le_of_ble_eq_true rfl)⟩) hS (fun r4 z3 H locs hz hP hS => ?_)
          obtain ⟨rfl, rfl⟩ := hz
          refine x_le (y := sn (nt (fun j => g (8 * x + j)) S i) (a + 1).toNat % q) (by rw [sn_step _ h0, nt_le (by omega) (by omega) (by omega)]; exact cg_add cg_mod (by show cg _ _ _; rw [Int.mul_comm]; exact cg_r)) ?_
          refine lv_lstore (lv' := [(5, .long (lI (sn (nt (fun j => g (8 * x + j)) S i) (a + 1).toNat % q))), (9, .int (iI (S ((i - a) % 8)))), (8, .int (iI ((i - a) % 8))), (7, .int (iI (a))), (0, .ref (b + 236)), (1, .int (iI (x))), (2, .int (iI (i))), (3, .long (lI (q)))]) hx hb d_M_withSecret_74 hl (by decide) rfl (fun ls hl => ?_)
          refine lv_iinc (k := 3) (v := iI (a + 1)) (lv' := [(7, .int (iI (a + 1))), (5, .long (lI (sn (nt (fun j => g (8 * x + j)) S i) (a + 1).toNat % q))), (9, .int (iI (S ((i - a) % 8)))), (8, .int (iI ((i - a) % 8))), (0, .ref (b + 236)), (1, .int (iI (x))), (2, .int (iI (i))), (3, .long (lI (q)))]) hx hb d_M_withSecret_76 hl rfl (iI_add _ _) (by decide) rfl (fun ls hl => ?_)
          refine lv_goto (tgt := 6) hx hb d_M_withSecret_79 (by decide) ?_
          have hl : lv_has ls 10 [(7, .int (iI (a + 1))), (5, .long (lI (sn (nt (fun j => g (8 * x + j)) S i) (a + 1).toNat % q))), (0, .ref (b + 236)), (1, .int (iI (x))), (2, .int (iI (i))), (3, .long (lI (q)))] := lv_sub hl [0, 1, 4, 5, 6, 7] rfl
          exact ihlo (a + 1) H locs ls (by omega) (by omega) (by omega) hP hS hl
  exact lo 9 0 H locs ls (by omega) (by omega) (by omega) hP hS hl
abbrev rm_c_makeB : Room := { frames := 2, cells := 0, slots := 0, locals := 54 }
set_option maxHeartbeats 4000000 in
set_option maxRecDepth 100000 in
/-- makeB(x) -/
theorem c_makeB (l : Launch) (D : va_G) (ct : Nat → ClassId) (st ke : Nat → Nat) (b N : Nat) (u : Nat → va_E) (hN : 254 ≤ N) (z0 : Int32) (cnt : Int) (hM : u 236 = mo b z0 cnt) (hMK : MK ct u) (S : Int → Int) (hE : ME ct u S) (hS1 : ∀ i : Int, -1 ≤ S i ∧ S i ≤ 1) (g : Int → Int) (f1 : u 237 = lr ct 512 g) (se : Int → Int) (f2 : u 242 = ir ct 8 se) (Er : Int → Int) (hEe : ∀ i : Int, 0 ≤ i → i < 8 → se i = Er i) (hE1 : ∀ i : Int, -1 ≤ Er i ∧ Er i ≤ 1) (x : Int) (hx0 : 0 ≤ x) (hx3 : x ≤ 3) (hX : ∀ j : Int, 0 ≤ j → j < 8 → 0 ≤ g (8 * x + j) ∧ g (8 * x + j) ≤ 715450762997731793) : Met l y_M_makeB (w_M_makeB) rm_c_makeB (va_Pc [.ref (b + 236), .int (iI (x))] (fun U => ev D ct st ke b U ∧ va_P D vwCl (wl N b u) U.heap)) (va_Qv (fun z : Nat → va_E => ∃ g2 : Int → Int, z 237 = lr ct 512 g2 ∧ (∀ i : Int, 0 ≤ i → i < 8 → g2 (8 * (4 + x) + i) = (17 * Er i + (-1) * nc (fun j => g (8 * x + j)) S i + un x * nc S S i) % lQ 3) ∧ (∀ j : Int, (j < 8 * (4 + x) ∨ 8 * (4 + x) + 8 ≤ j) → g2 j = g j) ∧ ∀ j : Nat, j ≠ 237 → z j = u j) (fun (z : Nat → va_E) t => va_P D vwCl (wl (N) b (z)) t.heap) (AA b)) 0 0 (AA b) := by
  refine M_v (cc := c9_M_makeB) (maxL := 8) (by decide) rfl (Nat.le_of_ble_eq_true rfl) ?_
  intro p e s m args below meth c Q ls H locs hx hb hml hown hts hnm E hP hS hl ret
  have hl : lv_has ls 8 [(0, .ref (b + 236)), (1, .int (iI (x)))] := hl
  have hK := ev_K E
  have kk0 := hts (.fieldLink "LevelledRingModel" 17 "LevelledRingModel" "big" "[J") (List.mem_cons_of_mem _ t_495)
  have hinM : ∀ w ∈ u_ws "LevelledRingModel" T_M 19, w ∈ (w_M_makeB) := hin_M _
  have kk2 := hts (.fieldLink "LevelledRingModel" 20 "LevelledRingModel" "unit" "[J") (List.mem_cons_of_mem _ t_496)
  have kk3 := hts (.fieldLink "LevelledRingModel" 26 "LevelledRingModel" "small" "[I") (List.mem_cons_of_mem _ t_498)
  have kk4 := hts (.fieldLink "LevelledRingModel" 7 "LevelledRingModel" "row" "[J") (List.mem_cons_of_mem _ t_493)
  have kk5 := hts (.fieldLink "LevelledRingModel" 23 "LevelledRingModel" "secret" "[I") (List.mem_cons_of_mem _ t_497)
  have fr0 : ∀ j : Nat, (j ≠ 237) → u j = u j := fun _ _ => rfl
  have hE9 := hE
  obtain ⟨⟨pr, hp1, hp2⟩, ⟨bg, hb1, hb2⟩, ut, hu1, hu2⟩ := hMK
  obtain ⟨sc, hs1, hs2⟩ := hE
  refine lv_iconst (v := iI (0)) hx hb d_M_makeB_0 rfl ?_
  refine lv_istore_n (lv' := [(2, .int (iI (0))), (0, .ref (b + 236)), (1, .int (iI (x)))]) hx hb d_M_makeB_1 rfl hl (by decide) rfl (fun ls hl => ?_)
  have lo : ∀ (d : Nat) (i : Int) (g2 : Int → Int) (w1 : Nat → va_E) (H : Heap) (locs : List Loc) (ls : Array Slot), (0 ≤ i) → (i ≤ 8) → (8 - i < d) → (∀ c : Int, 0 ≤ c → c < i → g2 (8 * (4 + x) + c) = (17 * Er c + (-1) * nc (fun j => g (8 * x + j)) S c + un x * nc S S c) % lQ 3) → (∀ j : Int, (j < 8 * (4 + x) ∨ 8 * (4 + x) + 8 ≤ j) → g2 j = g j) → w1 237 = lr ct 512 (g2) → (∀ j : Nat, (j ≠ 237) → w1 j = u j) → va_P D vwCl (wl N b w1) H → va_S (AA b) s.heap H locs → lv_has ls 8 [(2, .int (iI (i))), (0, .ref (b + 236)), (1, .int (iI (x)))] → W p l e rm_c_makeB s m args below meth c H locs 0 0 Q (F0 m 2 ls []) := by
    intro d
    induction d with
    | zero => intro i g2 w1 H locs ls h0 h1 hd hg hk fg2 fr3 hP hS hl; exfalso; omega
    | succ d ihlo =>
      intro i g2 w1 H locs ls h0 h1 hd hg hk fg2 fr3 hP hS hl
      have ff4 : w1 236 = .inr (6, [.ref (b + 237), .ref (b + 238), .ref (b + 239), .ref (b + 240), .ref (b + 241), .ref (b + 242), .int (z0), .ref (b + 243), .int (iI (cnt)), .ref (b + 244), .ref (b + 245), .ref (b + 246), .ref (b + 247), .ref (b + 248), .ref (b + 249), .ref (b + 250), .ref (b + 251), .ref (b + 252), .ref (b + 253)]) := (fr3 236 (by omega)).trans hM
      have ff5 : w1 242 = ir ct 8 (se) := (fr3 242 (by omega)).trans f2
      have ff6 : w1 238 = ir ct 4 (pr) := (fr3 238 (by omega)).trans hp1
      have ff7 : w1 239 = lr ct 4 (bg) := (fr3 239 (by omega)).trans hb1
      have ff8 : w1 240 = lr ct 4 (ut) := (fr3 240 (by omega)).trans hu1
      have ff9 : w1 241 = ir ct 8 (sc) := (fr3 241 (by omega)).trans hs1
      refine lv_iload_n hx hb d_M_makeB_2 rfl (lv_at hl 0 rfl) ?_
      refine lv_bipush (v := iI (8)) hx hb d_M_makeB_3 (by decide +kernel) ?_
      refine x_icmp_ge (tgt := 176) hx hb ⟨by omega, by omega⟩ ⟨by omega, by omega⟩ d_M_makeB_5 (by decide) (fun hc => ?_) (fun hc => ?_)
      · obtain rfl : i = 8 := by omega
        exact ret w1 H locs 176 ls ⟨g2, fg2, hg, hk, fr3⟩ hP hS d_M_makeB_176
      · refine lv_iconst (v := iI (0)) hx hb d_M_makeB_8 rfl ?_
        refine lv_istore_n (lv' := [(3, .int (iI (0))), (2, .int (iI (i))), (0, .ref (b + 236)), (1, .int (iI (x)))]) hx hb d_M_makeB_9 rfl hl (by decide) rfl (fun ls hl => ?_)
        refine lv_iconst (v := iI (0)) hx hb d_M_makeB_10 rfl ?_
        refine lv_istore (lv' := [(4, .int (iI (0))), (3, .int (iI (0))), (2, .int (iI (i))), (0, .ref (b + 236)), (1, .int (iI (x)))]) hx hb d_M_makeB_11 hl (by decide) rfl (fun ls hl => ?_)
        have hl : lv_has ls 8 [(4, .int (iI (0))), (3, .int (iI (sn (nt S S i) (0 : Int).toNat))), (2, .int (iI (i))), (0, .ref (b + 236)), (1, .int (iI (x)))] := by rw [show sn (nt S S i) (0 : Int).toNat = 0 from rfl]; exact hl
        have hl : lv_has ls 8 [(4, .int (iI (0))), (3, .int (iI (sn (nt S S i) (0 : Int).toNat))), (2, .int (iI (i))), (0, .ref (b + 236)), (1, .int (iI (x)))] := lv_sub hl [0, 1, 2, 3, 4] rfl
        have li : ∀ (d2 : Nat) (a : Int) (H : Heap) (locs : List Loc) (ls : Array Slot), (0 ≤ a) → (a ≤ 8) → (8 - a < d2) → va_P D vwCl (wl N b w1) H → va_S (AA b) s.heap H locs → lv_has ls 8 [(4, .int (iI (a))), (3, .int (iI (sn (nt S S i) a.toNat))), (2, .int (iI (i))), (0, .ref (b + 236)), (1, .int (iI (x)))] → W p l e rm_c_makeB s m args below meth c H locs 0 0 Q (F0 m 13 ls []) := by
          intro d2
          induction d2 with
          | zero => intro a H locs ls ha0 ha8 hd2 hP hS hl; exfalso; omega
          | succ d2 ihli =>
            intro a H locs ls ha0 ha8 hd2 hP hS hl
            refine lv_iload hx hb d_M_makeB_13 (lv_at hl 0 rfl) ?_
            refine lv_bipush (v := iI (8)) hx hb d_M_makeB_15 (by decide +kernel) ?_
            refine x_icmp_ge (tgt := 81) hx hb ⟨by omega, by omega⟩ ⟨by omega, by omega⟩ d_M_makeB_17 (by decide) (fun hc => ?_) (fun hc => ?_)
            · obtain rfl : a = 8 := by omega
              have bsq := sn_b1 (f := nt S S i) 8 (fun j _ _ => nt_11 hS1 i j)
              refine lv_iload_n hx hb d_M_makeB_81 rfl (lv_at hl 1 rfl) ?_
              refine x_ie (y := nc S S i) (rfl) ?_
              refine x_i2l hx hb (show r32 (sn (nt S S i) 8) from ⟨by omega, by omega⟩) d_M_makeB_82 ?_
              refine lv_aload_n hx hb d_M_makeB_83 rfl (lv_at hl 3 rfl) ?_
              refine w_get (C := "LevelledRingModel") (T := T_M) (M := 19) hx hb hts hinM hown hK hP (236) (by omega) ff4 rfl 2 (by decide) kk0 (fun _ h => h) rfl d_M_makeB_84 ?_
              refine lv_iconst (v := iI (3)) hx hb d_M_makeB_87 rfl ?_
              refine w_lald hx hb hK hP (239) (by omega) ff7 (by omega) (by omega) (by omega) d_M_makeB_88 ?_
              refine x_le (y := lQ 3) (hb2 3 (by decide) (by decide)) ?_
              refine w_calll (va_runS (As := [.long (lI (nc S S i)), .long (lI (lQ 3))]) (rest := []) ⟨hx, hb, hml, hown, hts⟩ (c_Mmod l D ct st ke b N w1 (nc S S i) (lQ 3) (show r64 (sn (nt S S i) 8) from ⟨by omega, by omega⟩) (lQ_p 3) (lQ_m 3)) (cwS 2 hts (gS t_486 t_487 t_9 t_488) rfl rfl rfl (by decide +kernel) ⟨Nat.le_of_ble_eq_true rfl, Nat.le_of_ble_eq_true rfl⟩) (pre_S E hP hS) rfl rfl hl.1 rfl (lv_room (Nat.le_of_ble_eq_true rfl)) d_M_makeB_89 ⟨(Nat.le_of_ble_eq_true rfl), (Nat.le_of_ble_eq_true rfl)⟩) hS (fun r11 z10 H locs hz hP hS => ?_)
              obtain ⟨rfl, rfl⟩ := hz
              refine lv_lstore (lv' := [(4, .long (lI ((nc S S i) % (lQ 3)))), (3, .int (iI (sn (nt S S i) (8 : Int).toNat))), (2, .int (iI (i))), (0, .ref (b + 236)), (1, .int (iI (x)))]) hx hb d_M_makeB_92 hl (by decide) rfl (fun ls hl => ?_)
              refine lv_aload_n hx hb d_M_makeB_94 rfl (lv_at hl 3 rfl) ?_
              refine w_get (C := "LevelledRingModel") (T := T_M) (M := 19) hx hb hts hinM hown hK hP (236) (by omega) ff4 rfl 3 (by decide) kk2 (fun _ h => h) rfl d_M_makeB_95 ?_
              refine lv_iload_n hx hb d_M_makeB_98 rfl (lv_at hl 4 rfl) ?_
              refine w_lald hx hb hK hP (240) (by omega) ff8 (by omega) (by omega) (by omega) d_M_makeB_99 ?_
              refine x_le (y := un x) (hu2 x hx0 hx3) ?_
              refine lv_lload hx hb d_M_makeB_100 (lv_at hl 0 rfl) ?_
              refine lv_aload_n hx hb d_M_makeB_102 rfl (lv_at hl 3 rfl) ?_
              refine w_get (C := "LevelledRingModel") (T := T_M) (M := 19) hx hb hts hinM hown hK hP (236) (by omega) ff4 rfl 2 (by decide) kk0 (fun _ h => h) rfl d_M_makeB_103 ?_
              refine lv_iconst (v := iI (3)) hx hb d_M_makeB_106 rfl ?_
              refine w_lald hx hb hK hP (239) (by omega) ff7 (by omega) (by omega) (by omega) d_M_makeB_107 ?_
              refine x_le (y := lQ 3) (hb2 3 (by decide) (by decide)) ?_
              have bh := md_b (nc S S i) 3
              have bQ := lQ_bd 3
              refine w_calll (va_runS (As := [.long (lI (un x)), .long (lI ((nc S S i) % (lQ 3))), .long (lI (lQ 3))]) (rest := []) ⟨hx, hb, hml, hown, hts⟩ (c_times l D ct st ke b N w1 (un x) ((nc S S i) % (lQ 3)) (lQ 3) (un_bd x).1 (show un x < lQ 3 from (un_bd x).2) bh.1 (by omega) bQ.2) (cwS 3 hts (gS t_479 t_480 t_9 t_481) rfl rfl rfl (by decide +kernel) ⟨Nat.le_of_ble_eq_true rfl, Nat.le_of_ble_eq_true rfl⟩) (pre_S E hP hS) rfl rfl hl.1 rfl (lv_room (Nat.le_of_ble_eq_true rfl)) d_M_makeB_108 ⟨(Nat.le_of_ble_eq_true rfl), (Nat.le_of_ble_eq_true rfl)⟩) hS (fun r13 z12 H locs hz hP hS => ?_)
              obtain ⟨rfl, rfl⟩ := hz
              refine lv_bipush (v := iI (17)) hx hb d_M_makeB_111 (by decide +kernel) ?_
              refine lv_aload_n hx hb d_M_makeB_113 rfl (lv_at hl 3 rfl) ?_
              refine w_get (C := "LevelledRingModel") (T := T_M) (M := 19) hx hb hts hinM hown hK hP (236) (by omega) ff4 rfl 5 (by decide) kk3 (fun _ h => h) rfl d_M_makeB_114 ?_
              refine lv_iload_n hx hb d_M_makeB_117 rfl (lv_at hl 2 rfl) ?_
              refine w_iald hx hb hK hP (242) (by omega) ff5 (by omega) (by omega) (by omega) d_M_makeB_118 ?_
              refine x_ie (y := Er i) (hEe i h0 (by omega)) ?_
              have bE := hE1 i
              refine x_imul hx hb d_M_makeB_119 ?_
              refine x_i2l hx hb ⟨by omega, by omega⟩ d_M_makeB_120 ?_
              refine lv_aload_n hx hb d_M_makeB_121 rfl (lv_at hl 3 rfl) ?_
              refine w_get (C := "LevelledRingModel") (T := T_M) (M := 19) hx hb hts hinM hown hK hP (236) (by omega) ff4 rfl 2 (by decide) kk0 (fun _ h => h) rfl d_M_makeB_122 ?_
              refine lv_iconst (v := iI (3)) hx hb d_M_makeB_125 rfl ?_
              refine w_lald hx hb hK hP (239) (by omega) ff7 (by omega) (by omega) (by omega) d_M_makeB_126 ?_
              refine x_le (y := lQ 3) (hb2 3 (by decide) (by decide)) ?_
              refine w_calll (va_runS (As := [.long (lI ((17) * (Er i))), .long (lI (lQ 3))]) (rest := [.long (lI ((un x) * ((nc S S i) % (lQ 3)) % (lQ 3)))]) ⟨hx, hb, hml, hown, hts⟩ (c_Mmod l D ct st ke b N w1 ((17) * (Er i)) (lQ 3) ⟨by omega, by omega⟩ (lQ_p 3) (lQ_m 3)) (cwS 2 hts (gS t_486 t_487 t_9 t_488) rfl rfl rfl (by decide +kernel) ⟨Nat.le_of_ble_eq_true rfl, Nat.le_of_ble_eq_true rfl⟩) (pre_S E hP hS) rfl rfl hl.1 rfl (lv_room (Nat.le_of_ble_eq_true rfl)) d_M_makeB_127 ⟨(Nat.le_of_ble_eq_true rfl), (Nat.le_of_ble_eq_true rfl)⟩) hS (fun r15 z14 H locs hz hP hS => ?_)
              obtain ⟨rfl, rfl⟩ := hz
              refine x_ladd hx hb d_M_makeB_130 ?_
              refine lv_lstore (lv' := [(6, .long (lI (((un x) * ((nc S S i) % (lQ 3)) % (lQ 3)) + (((17) * (Er i)) % (lQ 3))))), (4, .long (lI ((nc S S i) % (lQ 3)))), (3, .int (iI (sn (nt S S i) (8 : Int).toNat))), (2, .int (iI (i))), (0, .ref (b + 236)), (1, .int (iI (x)))]) hx hb d_M_makeB_131 hl (by decide) rfl (fun ls hl => ?_)
              refine lv_aload_n hx hb d_M_makeB_133 rfl (lv_at hl 4 rfl) ?_
              refine w_get (C := "LevelledRingModel") (T := T_M) (M := 19) hx hb hts hinM hown hK hP (236) (by omega) ff4 rfl 0 (by decide) kk4 (fun _ h => h) rfl d_M_makeB_134 ?_
              refine lv_bipush (v := iI (8)) hx hb d_M_makeB_137 (by decide +kernel) ?_
              refine lv_iconst (v := iI (4)) hx hb d_M_makeB_139 rfl ?_
              refine lv_iload_n hx hb d_M_makeB_140 rfl (lv_at hl 5 rfl) ?_
              refine x_iadd hx hb d_M_makeB_141 ?_
              refine x_imul hx hb d_M_makeB_142 ?_
              refine lv_iload_n hx hb d_M_makeB_143 rfl (lv_at hl 3 rfl) ?_
              refine x_iadd hx hb d_M_makeB_144 ?_
              refine lv_lload hx hb d_M_makeB_145 (lv_at hl 0 rfl) ?_
              refine lv_aload_n hx hb d_M_makeB_147 rfl (lv_at hl 4 rfl) ?_
              refine lv_iload_n hx hb d_M_makeB_148 rfl (lv_at hl 5 rfl) ?_
              refine lv_iload_n hx hb d_M_makeB_149 rfl (lv_at hl 3 rfl) ?_
              refine lv_aload_n hx hb d_M_makeB_150 rfl (lv_at hl 4 rfl) ?_
              refine w_get (C := "LevelledRingModel") (T := T_M) (M := 19) hx hb hts hinM hown hK hP (236) (by omega) ff4 rfl 2 (by decide) kk0 (fun _ h => h) rfl d_M_makeB_151 ?_
              refine lv_iconst (v := iI (3)) hx hb d_M_makeB_154 rfl ?_
              refine w_lald hx hb hK hP (239) (by omega) ff7 (by omega) (by omega) (by omega) d_M_makeB_155 ?_
              refine x_le (y := lQ 3) (hb2 3 (by decide) (by decide)) ?_
              have hE8 : ME ct w1 S := ⟨sc, ff9, hs2⟩
              refine w_calll (va_runV (As := [.int (iI (x)), .int (iI (i)), .long (lI (lQ 3))]) (rest := [.long (lI (((un x) * ((nc S S i) % (lQ 3)) % (lQ 3)) + (((17) * (Er i)) % (lQ 3)))), .int (iI (((8) * (4 + x)) + (i))), .ref (b + 237)]) ⟨hx, hb, hml, hown, hts⟩ (c_withSecret l D ct st ke b N w1 hN z0 cnt ff4 S hE8 hS1 g2 fg2 x i (lQ 3) hx0 (by omega) h0 (by omega) (lQ_p 3) bQ.2 (fun j h2 h3 => by rw [hk _ (by omega)]; exact hX j h2 h3)) (cwV 3 hts (gV t_489 t_491 (tb_sel ((y_M_withSecret), 19) (List.mem_of_getElem? (i := 18) (by decide +kernel))) t_9 t_492) rfl rfl rfl (by decide +kernel) ⟨Nat.le_of_ble_eq_true rfl, Nat.le_of_ble_eq_true rfl⟩) (pre_V E hP hS (236) (by omega) ff4 rfl) rfl rfl hl.1 rfl (lv_room (Nat.le_of_ble_eq_true rfl)) d_M_makeB_156 ⟨(Nat.le_of_ble_eq_true rfl), (Nat.le_of_ble_eq_true rfl)⟩) hS (fun r17 z16 H locs hz hP hS => ?_)
              obtain ⟨rfl, rfl⟩ := hz
              have bw := md_b (nc (fun j => g2 (8 * x + j)) S i) 3
              have b1 := md_b (un x * (nc S S i % lQ 3)) 3
              have b2 := md_b (17 * Er i) 3
              refine x_lsub hx hb d_M_makeB_159 ?_
              refine lv_aload_n hx hb d_M_makeB_160 rfl (lv_at hl 4 rfl) ?_
              refine w_get (C := "LevelledRingModel") (T := T_M) (M := 19) hx hb hts hinM hown hK hP (236) (by omega) ff4 rfl 2 (by decide) kk0 (fun _ h => h) rfl d_M_makeB_161 ?_
              refine lv_iconst (v := iI (3)) hx hb d_M_makeB_164 rfl ?_
              refine w_lald hx hb hK hP (239) (by omega) ff7 (by omega) (by omega) (by omega) d_M_makeB_165 ?_
              refine x_le (y := lQ 3) (hb2 3 (by decide) (by decide)) ?_
              refine w_calll (va_runS (As := [.long (lI ((((un x) * ((nc S S i) % (lQ 3)) % (lQ 3)) + (((17) * (Er i)) % (lQ 3))) - (nc (fun j => g2 (8 * x + j)) S i % lQ 3))), .long (lI (lQ 3))]) (rest := [.int (iI (((8) * (4 + x)) + (i))), .ref (b + 237)]) ⟨hx, hb, hml, hown, hts⟩ (c_Mmod l D ct st ke b N w1 ((((un x) * ((nc S S i) % (lQ 3)) % (lQ 3)) + (((17) * (Er i)) % (lQ 3))) - (nc (fun j => g2 (8 * x + j)) S i % lQ 3)) (lQ 3) ⟨by omega, by omega⟩ (lQ_p 3) (lQ_m 3)) (cwS 2 hts (gS t_486 t_487 t_9 t_488) rfl rfl rfl (by decide +kernel) ⟨Nat.le_of_ble_eq_true rfl, Nat.le_of_ble_eq_true rfl⟩) (pre_S E hP hS) rfl rfl hl.1 rfl (lv_room (Nat.le_of_ble_eq_true rfl)) d_M_makeB_166 ⟨(Nat.le_of_ble_eq_true rfl), (Nat.le_of_ble_eq_true rfl)⟩) hS (fun r19 z18 H locs hz hP hS => ?_)
              obtain ⟨rfl, rfl⟩ := hz
              have en : nc (fun j => g2 (8 * x + j)) S i = nc (fun j => g (8 * x + j)) S i := nc_eq (fun j h2 h3 => hk _ (by omega)) (fun _ _ _ => rfl) h0 (by omega)
              refine x_le (y := (17 * Er i + (-1) * nc (fun j => g (8 * x + j)) S i + un x * nc S S i) % lQ 3) (by rw [en]; exact makeB_eq _ _ _ _ _) ?_
              refine w_last hx hb hK hP hS (237) (by omega) fg2 (by omega) (by omega) (by omega) d_M_makeB_169 (fun H locs hP hS => ?_)
              obtain ⟨u20, hu21, hP⟩ : ∃ zz : Nat → va_E, zz = va_up w1 237 (lr ct 512 (zu g2 (((8) * (4 + x)) + (i)) ((17 * Er i + (-1) * nc (fun j => g (8 * x + j)) S i + un x * nc S S i) % lQ 3))) ∧ va_P D vwCl (wl N b zz) H := ⟨_, rfl, hP⟩
              have ff22 : u20 236 = .inr (6, [.ref (b + 237), .ref (b + 238), .ref (b + 239), .ref (b + 240), .ref (b + 241), .ref (b + 242), .int (z0), .ref (b + 243), .int (iI (cnt)), .ref (b + 244), .ref (b + 245), .ref (b + 246), .ref (b + 247), .ref (b + 248), .ref (b + 249), .ref (b + 250), .ref (b + 251), .ref (b + 252), .ref (b + 253)]) := (congrFun hu21 _).trans ((up_n (by omega)).trans ff4)
              have ff23 : u20 242 = ir ct 8 (se) := (congrFun hu21 _).trans ((up_n (by omega)).trans ff5)
              have ff24 : u20 238 = ir ct 4 (pr) := (congrFun hu21 _).trans ((up_n (by omega)).trans ff6)
              have ff25 : u20 239 = lr ct 4 (bg) := (congrFun hu21 _).trans ((up_n (by omega)).trans ff7)
              have ff26 : u20 240 = lr ct 4 (ut) := (congrFun hu21 _).trans ((up_n (by omega)).trans ff8)
              have ff27 : u20 241 = ir ct 8 (sc) := (congrFun hu21 _).trans ((up_n (by omega)).trans ff9)
              have ff28 : u20 237 = lr ct 512 (zu g2 (((8) * (4 + x)) + (i)) ((17 * Er i + (-1) * nc (fun j => g (8 * x + j)) S i + un x * nc S S i) % lQ 3)) := (congrFun hu21 _).trans up_s
              have fr29 : ∀ j : Nat, (j ≠ 237) → u20 j = u j := fun j h0 => (congrFun hu21 j).trans ((up_n (by omega)).trans (fr3 j h0))
              refine lv_iinc (k := 3) (v := iI (i + 1)) (lv' := [(2, .int (iI (i + 1))), (6, .long (lI (((un x) * ((nc S S i) % (lQ 3)) % (lQ 3)) + (((17) * (Er i)) % (lQ 3))))), (4, .long (lI ((nc S S i) % (lQ 3)))), (3, .int (iI (sn (nt S S i) (8 : Int).toNat))), (0, .ref (b + 236)), (1, .int (iI (x)))]) hx hb d_M_makeB_170 hl rfl (iI_add _ _) (by decide) rfl (fun ls hl => ?_)
              have hl : lv_has ls 8 [(2, .int (iI (i + 1))), (0, .ref (b + 236)), (1, .int (iI (x)))] := lv_sub hl [0, 4, 5] rfl
              refine lv_goto (tgt := 2) hx hb d_M_makeB_173 (by decide) ?_
              refine ihlo (i + 1) _ u20 H locs ls (by omega) (by omega) (by omega) (fun c h2 h3 => ?_) (fun j h2 => by rw [zu_n (by omega)]; exact hk j h2) ff28 fr29 hP hS hl
              by_cases h4 : c = i
              · rw [h4, zu_s]
              · rw [zu_n (by omega)]; exact hg c h2 (by omega)
            · refine lv_iload_n hx hb d_M_makeB_20 rfl (lv_at hl 2 rfl) ?_
              refine lv_iload hx hb d_M_makeB_21 (lv_at hl 0 rfl) ?_
              refine x_isub hx hb d_M_makeB_23 ?_
              refine lv_bipush (v := iI (7)) hx hb d_M_makeB_24 (by decide +kernel) ?_
              refine lv_iand hx hb d_M_makeB_26 ?_
              refine x_i (y := iI ((i - a) % 8)) (iI_and7 _) ?_
              refine lv_istore (lv' := [(5, .int (iI ((i - a) % 8))), (4, .int (iI (a))), (3, .int (iI (sn (nt S S i) a.toNat))), (2, .int (iI (i))), (0, .ref (b + 236)), (1, .int (iI (x)))]) hx hb d_M_makeB_27 hl (by decide) rfl (fun ls hl => ?_)
              refine lv_iload_n hx hb d_M_makeB_29 rfl (lv_at hl 2 rfl) ?_
              refine lv_iload hx hb d_M_makeB_30 (lv_at hl 1 rfl) ?_
              refine lv_iload hx hb d_M_makeB_32 (lv_at hl 0 rfl) ?_
              refine x_iadd hx hb d_M_makeB_34 ?_
              refine lv_iload_n hx hb d_M_makeB_35 rfl (lv_at hl 3 rfl) ?_
              refine x_icmp_ne (tgt := 57) hx hb ⟨by omega, by omega⟩ ⟨by omega, by omega⟩ d_M_makeB_36 (by decide) (fun hc => ?_) (fun hc => ?_)
              · have eS := hs2 ((i - a) % 8) (by omega) (by omega)
                have eA := hs2 a ha0 (by omega)
                refine lv_aload_n hx hb d_M_makeB_57 rfl (lv_at hl 4 rfl) ?_
                refine w_get (C := "LevelledRingModel") (T := T_M) (M := 19) hx hb hts hinM hown hK hP (236) (by omega) ff4 rfl 4 (by decide) kk5 (fun _ h => h) rfl d_M_makeB_58 ?_
                refine lv_iload hx hb d_M_makeB_61 (lv_at hl 1 rfl) ?_
                refine w_iald hx hb hK hP (241) (by omega) ff9 (by omega) (by omega) (by omega) d_M_makeB_63 ?_
                refine x_ineg hx hb d_M_makeB_64 ?_
                refine lv_aload_n hx hb d_M_makeB_65 rfl (lv_at hl 4 rfl) ?_
                refine w_get (C := "LevelledRingModel") (T := T_M) (M := 19) hx hb hts hinM hown hK hP (236) (by omega) ff4 rfl 4 (by decide) kk5 (fun _ h => h) rfl d_M_makeB_66 ?_
                refine lv_iload hx hb d_M_makeB_69 (lv_at hl 0 rfl) ?_
                refine w_iald hx hb hK hP (241) (by omega) ff9 (by omega) (by omega) (by omega) d_M_makeB_71 ?_
                refine x_imul hx hb d_M_makeB_72 ?_
                refine x_iadd hx hb d_M_makeB_73 ?_
                refine x_ie (y := sn (nt S S i) (a + 1).toNat) (by rw [sn_step _ ha0, nt_gt (by omega) (by omega) (by omega), eS, eA]; rw [Int.neg_mul]) ?_
                refine lv_istore_n (lv' := [(3, .int (iI (sn (nt S S i) (a + 1).toNat))), (5, .int (iI ((i - a) % 8))), (4, .int (iI (a))), (2, .int (iI (i))), (0, .ref (b + 236)), (1, .int (iI (x)))]) hx hb d_M_makeB_74 rfl hl (by decide) rfl (fun ls hl => ?_)
                refine lv_iinc (k := 2) (v := iI (a + 1)) (lv' := [(4, .int (iI (a + 1))), (3, .int (iI (sn (nt S S i) (a + 1).toNat))), (5, .int (iI ((i - a) % 8))), (2, .int (iI (i))), (0, .ref (b + 236)), (1, .int (iI (x)))]) hx hb d_M_makeB_75 hl rfl (iI_add _ _) (by decide) rfl (fun ls hl => ?_)
                refine lv_goto (tgt := 13) hx hb d_M_makeB_78 (by decide) ?_
                have hl : lv_has ls 8 [(4, .int (iI (a + 1))), (3, .int (iI (sn (nt S S i) (a + 1).toNat))), (2, .int (iI (i))), (0, .ref (b + 236)), (1, .int (iI (x)))] := lv_sub hl [0, 1, 3, 4, 5] rfl
                exact ihli (a + 1) H locs ls (by omega) (by omega) (by omega) hP hS hl
              · have eS := hs2 ((i - a) % 8) (by omega) (by omega)
                have eA := hs2 a ha0 (by omega)
                refine lv_aload_n hx hb d_M_makeB_39 rfl (lv_at hl 4 rfl) ?_
                refine w_get (C := "LevelledRingModel") (T := T_M) (M := 19) hx hb hts hinM hown hK hP (236) (by omega) ff4 rfl 4 (by decide) kk5 (fun _ h => h) rfl d_M_makeB_40 ?_
                refine lv_iload hx hb d_M_makeB_43 (lv_at hl 1 rfl) ?_
                refine w_iald hx hb hK hP (241) (by omega) ff9 (by omega) (by omega) (by omega) d_M_makeB_45 ?_
                refine lv_aload_n hx hb d_M_makeB_46 rfl (lv_at hl 4 rfl) ?_
                refine w_get (C := "LevelledRingModel") (T := T_M) (M := 19) hx hb hts hinM hown hK hP (236) (by omega) ff4 rfl 4 (by decide) kk5 (fun _ h => h) rfl d_M_makeB_47 ?_
                refine lv_iload hx hb d_M_makeB_50 (lv_at hl 0 rfl) ?_
                refine w_iald hx hb hK hP (241) (by omega) ff9 (by omega) (by omega) (by omega) d_M_makeB_52 ?_
                refine x_imul hx hb d_M_makeB_53 ?_
                refine lv_goto (tgt := 73) hx hb d_M_makeB_54 (by decide) ?_
                refine x_iadd hx hb d_M_makeB_73 ?_
                refine x_ie (y := sn (nt S S i) (a + 1).toNat) (by rw [sn_step _ ha0, nt_le (by omega) (by omega) (by omega), eS, eA]) ?_
                refine lv_istore_n (lv' := [(3, .int (iI (sn (nt S S i) (a + 1).toNat))), (5, .int (iI ((i - a) % 8))), (4, .int (iI (a))), (2, .int (iI (i))), (0, .ref (b + 236)), (1, .int (iI (x)))]) hx hb d_M_makeB_74 rfl hl (by decide) rfl (fun ls hl => ?_)
                refine lv_iinc (k := 2) (v := iI (a + 1)) (lv' := [(4, .int (iI (a + 1))), (3, .int (iI (sn (nt S S i) (a + 1).toNat))), (5, .int (iI ((i - a) % 8))), (2, .int (iI (i))), (0, .ref (b + 236)), (1, .int (iI (x)))]) hx hb d_M_makeB_75 hl rfl (iI_add _ _) (by decide) rfl (fun ls hl => ?_)
                refine lv_goto (tgt := 13) hx hb d_M_makeB_78 (by decide) ?_
                have hl : lv_has ls 8 [(4, .int (iI (a + 1))), (3, .int (iI (sn (nt S S i) (a + 1).toNat))), (2, .int (iI (i))), (0, .ref (b + 236)), (1, .int (iI (x)))] := lv_sub hl [0, 1, 3, 4, 5] rfl
                exact ihli (a + 1) H locs ls (by omega) (by omega) (by omega) hP hS hl
        exact li 9 0 H locs ls (by omega) (by omega) (by omega) hP hS hl
  exact lo 9 0 g u H locs ls (by omega) (by omega) (by omega) (fun c h2 h3 => by omega) (fun _ _ => rfl) f1 fr0 hP hS hl
