abbrev rm_c_Mmod : Room := { frames := 0, cells := 0, slots := 0, locals := 0 }
set_option maxHeartbeats 4000000 in
set_option maxRecDepth 100000 in
/-- modulo(x, q) -/
theorem c_Mmod (l : Launch) (D : va_G) (ct : Nat → ClassId) (st ke : Nat → Nat) (b N : Nat) (u : Nat → va_E) (x q : Int) (hx0 : r64 x) (hq : 0 < q) (hq1 : q ≤ 9223372036854775807) : Met l y_M_modulo (w_M_modulo) rm_c_Mmod (va_Pc [.long (lI (x)), .long (lI (q))] (fun U => ev D ct st ke b U ∧ va_P D vwCl (wl N b u) U.heap)) (va_Ql (fun (r : Int64) (z : Nat → va_E) => r = lI (x % q) ∧ u = z) (fun (z : Nat → va_E) t => va_P D vwCl (wl (N) b (z)) t.heap) (AA b)) 0 0 (AA b) := by
  refine M_l (cc := c9_M_modulo) (maxL := 6) (by decide) rfl (Nat.le_of_ble_eq_true rfl) ?_
  intro p e s m args below meth c Q ls H locs hx hb hml hown hts hnm E hP hS hl ret
  have hl : lv_has ls 6 [(0, .long (lI (x))), (2, .long (lI (q)))] := hl
  have hK := ev_K E
  have hbd := tmod_bd (a := x) hq
  refine lv_lload_n hx hb d_M_modulo_0 rfl (lv_at hl 0 rfl) ?_
  refine lv_lload_n hx hb d_M_modulo_1 rfl (lv_at hl 1 rfl) ?_
  refine x_lrem hx hb hx0 ⟨by omega, by omega⟩ (by omega) d_M_modulo_2 ?_
  refine lv_lstore (lv' := [(4, .long (lI ((x).tmod (q)))), (0, .long (lI (x))), (2, .long (lI (q)))]) hx hb d_M_modulo_3 hl (by decide) rfl (fun ls hl => ?_)
  refine lv_lload hx hb d_M_modulo_5 (lv_at hl 0 rfl) ?_
  refine lv_lconst (v := lI 0) hx hb d_M_modulo_7 rfl ?_
  refine x_lcmp hx hb ⟨by omega, by omega⟩ ⟨by omega, by omega⟩ d_M_modulo_8 ?_
  refine x_if_ge (tgt := 19) hx hb (cmpz_r _ _) d_M_modulo_9 (by decide) (fun hc => ?_) (fun hc => ?_)
  · have hc : ¬ x.tmod q < 0 := fun h => by have := cmpz_lt.mpr h; omega
    refine lv_lload hx hb d_M_modulo_19 (lv_at hl 0 rfl) ?_
    refine x_le (y := x % q) (by rw [← tmod_mend hq, if_neg hc]) ?_
    exact ret _ u H locs 21 ls ⟨rfl, rfl⟩ hP hS d_M_modulo_21
  · have hc := cmpz_lt.mp hc
    refine lv_lload hx hb d_M_modulo_12 (lv_at hl 0 rfl) ?_
    refine lv_lload_n hx hb d_M_modulo_14 rfl (lv_at hl 2 rfl) ?_
    refine x_ladd hx hb d_M_modulo_15 ?_
    refine lv_goto (tgt := 21) hx hb d_M_modulo_16 (by decide) ?_
    refine x_le (y := x % q) (by rw [← tmod_mend hq, if_pos hc]) ?_
    exact ret _ u H locs 21 ls ⟨rfl, rfl⟩ hP hS d_M_modulo_21
abbrev rm_c_times : Room := { frames := 0, cells := 0, slots := 0, locals := 0 }
set_option maxHeartbeats 4000000 in
set_option maxRecDepth 100000 in
/-- times(x, y, q) -/
theorem c_times (l : Launch) (D : va_G) (ct : Nat → ClassId) (st ke : Nat → Nat) (b N : Nat) (u : Nat → va_E) (x y q : Int) (hx0 : 0 ≤ x) (hx1 : x < q) (hy0 : 0 ≤ y) (hy1 : y < 4611686018427387904) (hq1 : q ≤ 715450762997731793) : Met l y_M_times (w_M_times) rm_c_times (va_Pc [.long (lI (x)), .long (lI (y)), .long (lI (q))] (fun U => ev D ct st ke b U ∧ va_P D vwCl (wl N b u) U.heap)) (va_Ql (fun (r : Int64) (z : Nat → va_E) => r = lI (x * y % q) ∧ u = z) (fun (z : Nat → va_E) t => va_P D vwCl (wl (N) b (z)) t.heap) (AA b)) 0 0 (AA b) := by
  refine M_l (cc := c9_M_times) (maxL := 13) (by decide) rfl (Nat.le_of_ble_eq_true rfl) ?_
  intro p e s m args below meth c Q ls H locs hx hb hml hown hts hnm E hP hS hl ret
  have hl : lv_has ls 13 [(0, .long (lI (x))), (2, .long (lI (y))), (4, .long (lI (q)))] := hl
  have hK := ev_K E
  refine lv_lconst (v := lI 0) hx hb d_M_times_0 rfl ?_
  refine lv_lstore (lv' := [(6, .long (lI (0))), (0, .long (lI (x))), (2, .long (lI (y))), (4, .long (lI (q)))]) hx hb d_M_times_1 hl (by decide) rfl (fun ls hl => ?_)
  refine lv_lload_n hx hb d_M_times_3 rfl (lv_at hl 1 rfl) ?_
  refine lv_lstore (lv' := [(8, .long (lI (x))), (6, .long (lI (0))), (0, .long (lI (x))), (2, .long (lI (y))), (4, .long (lI (q)))]) hx hb d_M_times_4 hl (by decide) rfl (fun ls hl => ?_)
  refine lv_lload_n hx hb d_M_times_6 rfl (lv_at hl 3 rfl) ?_
  refine lv_lstore (lv' := [(10, .long (lI (y))), (8, .long (lI (x))), (6, .long (lI (0))), (0, .long (lI (x))), (2, .long (lI (y))), (4, .long (lI (q)))]) hx hb d_M_times_7 hl (by decide) rfl (fun ls hl => ?_)
  refine lv_iconst (v := iI (0)) hx hb d_M_times_9 rfl ?_
  refine lv_istore (lv' := [(12, .int (iI (0))), (10, .long (lI (y))), (8, .long (lI (x))), (6, .long (lI (0))), (0, .long (lI (x))), (2, .long (lI (y))), (4, .long (lI (q)))]) hx hb d_M_times_10 hl (by decide) rfl (fun ls hl => ?_)
  have lo : ∀ (d : Nat) (j : Nat) (s0 : Int) (t0 : Int) (r0 : Int) (H : Heap) (locs : List Loc) (ls : Array Slot), (j ≤ 62) → (j < d) → (0 ≤ s0) → (s0 < q) → (0 ≤ t0) → (t0 < q) → (0 ≤ r0) → (r0 < ((2 ^ j : Nat) : Int)) → (cg q (s0 + t0 * r0) (x * y)) → va_P D vwCl (wl N b u) H → va_S (AA b) s.heap H locs → lv_has ls 13 [(12, .int (iI ((62 - (j : Int))))), (10, .long (lI (r0))), (8, .long (lI (t0))), (6, .long (lI (s0))), (0, .long (lI (x))), (2, .long (lI (y))), (4, .long (lI (q)))] → W p l e rm_c_times s m args below meth c H locs 0 0 Q (F0 m 12 ls []) := by
    intro d
    induction d with
    | zero => intro j s0 t0 r0 H locs ls hj hd hs0 hs1 ht0 ht1 hr0 hr1 hcg hP hS hl; exfalso; omega
    | succ d ihlo =>
      intro j s0 t0 r0 H locs ls hj hd hs0 hs1 ht0 ht1 hr0 hr1 hcg hP hS hl
      refine lv_iload hx hb d_M_times_12 (lv_at hl 0 rfl) ?_
      refine lv_bipush (v := iI (62)) hx hb d_M_times_14 (by decide +kernel) ?_
      refine x_icmp_ge (tgt := 72) hx hb ⟨by omega, by omega⟩ ⟨by omega, by omega⟩ d_M_times_16 (by decide) (fun hc => ?_) (fun hc => ?_)
      · obtain rfl : j = 0 := by omega
        have hr2 : r0 < 1 := hr1
        obtain rfl : r0 = 0 := by omega
        rw [Int.mul_zero, Int.add_zero] at hcg
        refine lv_lload hx hb d_M_times_72 (lv_at hl 3 rfl) ?_
        refine x_le (y := x * y % q) (cg_fin (by omega) hs0 hs1 hcg) ?_
        exact ret _ u H locs 74 ls ⟨rfl, rfl⟩ hP hS d_M_times_74
      · obtain ⟨j1, rfl⟩ : ∃ j1, j = j1 + 1 := ⟨j - 1, by omega⟩
        have hp2 : ((2 ^ (j1 + 1) : Nat) : Int) = 2 * ((2 ^ j1 : Nat) : Int) := by rw [Nat.pow_succ]; omega
        have hp62 : ((2 ^ (j1 + 1) : Nat) : Int) ≤ 4611686018427387904 := pow62 (by omega)
        refine lv_lload hx hb d_M_times_19 (lv_at hl 1 rfl) ?_
        refine lv_lconst (v := lI 0) hx hb d_M_times_21 rfl ?_
        refine x_lcmp hx hb ⟨by omega, by omega⟩ ⟨by omega, by omega⟩ d_M_times_22 ?_
        refine x_if_le (tgt := 72) hx hb (cmpz_r _ _) d_M_times_23 (by decide) (fun hc => ?_) (fun hc => ?_)
        · have hc := cmpz_le.mp hc
          obtain rfl : r0 = 0 := by omega
          rw [Int.mul_zero, Int.add_zero] at hcg
          refine lv_lload hx hb d_M_times_72 (lv_at hl 3 rfl) ?_
          refine x_le (y := x * y % q) (cg_fin (by omega) hs0 hs1 hcg) ?_
          exact ret _ u H locs 74 ls ⟨rfl, rfl⟩ hP hS d_M_times_74
        · have hc : ¬ r0 ≤ 0 := fun h => by have := cmpz_le.mpr h; omega
          have hst := tm_step hcg
          refine lv_lload hx hb d_M_times_26 (lv_at hl 1 rfl) ?_
          refine lv_lconst (v := lI 1) hx hb d_M_times_28 rfl ?_
          refine lv_land hx hb d_M_times_29 ?_
          refine x_l (y := lI (r0 % 2)) (lI_and1 (by omega) (by omega)) ?_
          refine lv_lconst (v := lI 1) hx hb d_M_times_30 rfl ?_
          refine x_lcmp hx hb ⟨by omega, by omega⟩ ⟨by omega, by omega⟩ d_M_times_31 ?_
          refine x_if_ne (tgt := 46) hx hb (cmpz_r _ _) d_M_times_32 (by decide) (fun hc => ?_) (fun hc => ?_)
          · have hc : ¬ r0 % 2 = 1 := fun h => by have := cmpz_eq.mpr h; omega
            refine lv_lload hx hb d_M_times_46 (lv_at hl 3 rfl) ?_
            refine lv_lstore (lv' := [(6, .long (lI (s0))), (12, .int (iI ((62 - ((j1 + 1 : Nat) : Int))))), (10, .long (lI (r0))), (8, .long (lI (t0))), (0, .long (lI (x))), (2, .long (lI (y))), (4, .long (lI (q)))]) hx hb d_M_times_48 hl (by decide) rfl (fun ls hl => ?_)
            refine lv_lload hx hb d_M_times_50 (lv_at hl 3 rfl) ?_
            refine lv_lload hx hb d_M_times_52 (lv_at hl 3 rfl) ?_
            refine x_ladd hx hb d_M_times_54 ?_
            refine lv_lload hx hb d_M_times_55 (lv_at hl 6 rfl) ?_
            refine x_lremP hx hb ⟨by omega, by omega⟩ ⟨by omega, by omega⟩ (by omega) (by omega) d_M_times_57 ?_
            refine lv_lstore (lv' := [(8, .long (lI ((t0 + t0) % (q)))), (6, .long (lI (s0))), (12, .int (iI ((62 - ((j1 + 1 : Nat) : Int))))), (10, .long (lI (r0))), (0, .long (lI (x))), (2, .long (lI (y))), (4, .long (lI (q)))]) hx hb d_M_times_58 hl (by decide) rfl (fun ls hl => ?_)
            refine lv_lload hx hb d_M_times_60 (lv_at hl 3 rfl) ?_
            refine lv_iconst (v := iI (1)) hx hb d_M_times_62 rfl ?_
            refine lv_lshr (v := lI (r0 / 2)) hx hb d_M_times_63 (lI_shr1 (by omega) (by omega)) ?_
            refine lv_lstore (lv' := [(10, .long (lI (r0 / 2))), (8, .long (lI ((t0 + t0) % (q)))), (6, .long (lI (s0))), (12, .int (iI ((62 - ((j1 + 1 : Nat) : Int))))), (0, .long (lI (x))), (2, .long (lI (y))), (4, .long (lI (q)))]) hx hb d_M_times_64 hl (by decide) rfl (fun ls hl => ?_)
            refine lv_iinc (k := 3) (v := iI ((62 - ((j1 + 1 : Nat) : Int)) + 1)) (lv' := [(12, .int (iI ((62 - ((j1 + 1 : Nat) : Int)) + 1))), (10, .long (lI (r0 / 2))), (8, .long (lI ((t0 + t0) % (q)))), (6, .long (lI (s0))), (0, .long (lI (x))), (2, .long (lI (y))), (4, .long (lI (q)))]) hx hb d_M_times_66 hl rfl (iI_add _ _) (by decide) rfl (fun ls hl => ?_)
            have hl : lv_has ls 13 [(12, .int (iI ((62 - (j1 : Int))))), (10, .long (lI (r0 / 2))), (8, .long (lI ((t0 + t0) % (q)))), (6, .long (lI (s0))), (0, .long (lI (x))), (2, .long (lI (y))), (4, .long (lI (q)))] := by rw [show (62 - (j1 : Int)) = (62 - ((j1 + 1 : Nat) : Int)) + 1 from by omega]; exact hl
            refine lv_goto (tgt := 12) hx hb d_M_times_69 (by decide) ?_
            have hl : lv_has ls 13 [(12, .int (iI ((62 - (j1 : Int))))), (10, .long (lI (r0 / 2))), (8, .long (lI ((t0 + t0) % (q)))), (6, .long (lI (s0))), (0, .long (lI (x))), (2, .long (lI (y))), (4, .long (lI (q)))] := lv_sub hl [0, 1, 2, 3, 4, 5, 6] rfl
            have hb0 := Int.emod_nonneg (t0 + t0) (show q ≠ 0 by omega)
            have hb1 := Int.emod_lt_of_pos (t0 + t0) (show 0 < q by omega)
            have hb2 := Int.emod_nonneg (s0 + t0) (show q ≠ 0 by omega)
            have hb3 := Int.emod_lt_of_pos (s0 + t0) (show 0 < q by omega)
            exact ihlo j1 _ _ _ H locs ls (by omega) (by omega) (by omega) (by omega) (by omega) (by omega) (by omega) (by omega) (by rw [if_neg hc] at hst; exact hst) hP hS hl
          · have hc := cmpz_eq.mp hc
            refine lv_lload hx hb d_M_times_35 (lv_at hl 3 rfl) ?_
            refine lv_lload hx hb d_M_times_37 (lv_at hl 2 rfl) ?_
            refine x_ladd hx hb d_M_times_39 ?_
            refine lv_lload hx hb d_M_times_40 (lv_at hl 6 rfl) ?_
            refine x_lremP hx hb ⟨by omega, by omega⟩ ⟨by omega, by omega⟩ (by omega) (by omega) d_M_times_42 ?_
            refine lv_goto (tgt := 48) hx hb d_M_times_43 (by decide) ?_
            refine lv_lstore (lv' := [(6, .long (lI ((s0 + t0) % (q)))), (12, .int (iI ((62 - ((j1 + 1 : Nat) : Int))))), (10, .long (lI (r0))), (8, .long (lI (t0))), (0, .long (lI (x))), (2, .long (lI (y))), (4, .long (lI (q)))]) hx hb d_M_times_48 hl (by decide) rfl (fun ls hl => ?_)
            refine lv_lload hx hb d_M_times_50 (lv_at hl 3 rfl) ?_
            refine lv_lload hx hb d_M_times_52 (lv_at hl 3 rfl) ?_
            refine x_ladd hx hb d_M_times_54 ?_
            refine lv_lload hx hb d_M_times_55 (lv_at hl 6 rfl) ?_
            refine x_lremP hx hb ⟨by omega, by omega⟩ ⟨by omega, by omega⟩ (by omega) (by omega) d_M_times_57 ?_
            refine lv_lstore (lv' := [(8, .long (lI ((t0 + t0) % (q)))), (6, .long (lI ((s0 + t0) % (q)))), (12, .int (iI ((62 - ((j1 + 1 : Nat) : Int))))), (10, .long (lI (r0))), (0, .long (lI (x))), (2, .long (lI (y))), (4, .long (lI (q)))]) hx hb d_M_times_58 hl (by decide) rfl (fun ls hl => ?_)
            refine lv_lload hx hb d_M_times_60 (lv_at hl 3 rfl) ?_
            refine lv_iconst (v := iI (1)) hx hb d_M_times_62 rfl ?_
            refine lv_lshr (v := lI (r0 / 2)) hx hb d_M_times_63 (lI_shr1 (by omega) (by omega)) ?_
            refine lv_lstore (lv' := [(10, .long (lI (r0 / 2))), (8, .long (lI ((t0 + t0) % (q)))), (6, .long (lI ((s0 + t0) % (q)))), (12, .int (iI ((62 - ((j1 + 1 : Nat) : Int))))), (0, .long (lI (x))), (2, .long (lI (y))), (4, .long (lI (q)))]) hx hb d_M_times_64 hl (by decide) rfl (fun ls hl => ?_)
            refine lv_iinc (k := 3) (v := iI ((62 - ((j1 + 1 : Nat) : Int)) + 1)) (lv' := [(12, .int (iI ((62 - ((j1 + 1 : Nat) : Int)) + 1))), (10, .long (lI (r0 / 2))), (8, .long (lI ((t0 + t0) % (q)))), (6, .long (lI ((s0 + t0) % (q)))), (0, .long (lI (x))), (2, .long (lI (y))), (4, .long (lI (q)))]) hx hb d_M_times_66 hl rfl (iI_add _ _) (by decide) rfl (fun ls hl => ?_)
            have hl : lv_has ls 13 [(12, .int (iI ((62 - (j1 : Int))))), (10, .long (lI (r0 / 2))), (8, .long (lI ((t0 + t0) % (q)))), (6, .long (lI ((s0 + t0) % (q)))), (0, .long (lI (x))), (2, .long (lI (y))), (4, .long (lI (q)))] := by rw [show (62 - (j1 : Int)) = (62 - ((j1 + 1 : Nat) : Int)) + 1 from by omega]; exact hl
            refine lv_goto (tgt := 12) hx hb d_M_times_69 (by decide) ?_
            have hl : lv_has ls 13 [(12, .int (iI ((62 - (j1 : Int))))), (10, .long (lI (r0 / 2))), (8, .long (lI ((t0 + t0) % (q)))), (6, .long (lI ((s0 + t0) % (q)))), (0, .long (lI (x))), (2, .long (lI (y))), (4, .long (lI (q)))] := lv_sub hl [0, 1, 2, 3, 4, 5, 6] rfl
            have hb0 := Int.emod_nonneg (t0 + t0) (show q ≠ 0 by omega)
            have hb1 := Int.emod_lt_of_pos (t0 + t0) (show 0 < q by omega)
            have hb2 := Int.emod_nonneg (s0 + t0) (show q ≠ 0 by omega)
            have hb3 := Int.emod_lt_of_pos (s0 + t0) (show 0 < q by omega)
            exact ihlo j1 _ _ _ H locs ls (by omega) (by omega) (by omega) (by omega) (by omega) (by omega) (by omega) (by omega) (by rw [if_pos hc] at hst; exact hst) hP hS hl
  exact lo 63 62 0 x y H locs ls (by omega) (by omega) (by omega) (by omega) hx0 hx1 hy0 (show y < 4611686018427387904 from hy1) (by rw [Int.zero_add]; exact cg_r) hP hS hl
abbrev rm_c_Mdraw : Room := { frames := 0, cells := 0, slots := 0, locals := 0 }
set_option maxHeartbeats 4000000 in
set_option maxRecDepth 100000 in
/-- draw() -/
theorem c_Mdraw (l : Launch) (D : va_G) (ct : Nat → ClassId) (st ke : Nat → Nat) (b N : Nat) (u : Nat → va_E) (hN : 254 ≤ N) (z0 : Int32) (cnt : Int) (hM : u 236 = mo b z0 cnt) : Met l y_M_draw (w_M_draw) rm_c_Mdraw (va_Pc [.ref (b + 236)] (fun U => ev D ct st ke b U ∧ va_P D vwCl (wl N b u) U.heap)) (va_Qi (fun (r : Int32) (w : Nat → va_E) => r = iI (dv (dz z0)) ∧ w 236 = mo b (dz z0) cnt ∧ ∀ j : Nat, j ≠ 236 → w j = u j) (fun (z : Nat → va_E) t => va_P D vwCl (wl (N) b (z)) t.heap) (AA b)) 0 0 (AA b) := by
  refine M_i (cc := c9_M_draw) (maxL := 1) (by decide) rfl (Nat.le_of_ble_eq_true rfl) ?_
  intro p e s m args below meth c Q ls H locs hx hb hml hown hts hnm E hP hS hl ret
  have hl : lv_has ls 1 [(0, .ref (b + 236))] := hl
  have hK := ev_K E
  have kk0 := hts (.fieldLink "LevelledRingModel" 64 "LevelledRingModel" "z" "I") (List.mem_cons_of_mem _ t_499)
  have hinM : ∀ w ∈ u_ws "LevelledRingModel" T_M 19, w ∈ (w_M_draw) := hin_M _
  have kk2 := hts (.constant "LevelledRingModel" 78 1664525) (List.mem_cons_of_mem _ t_473)
  have kk3 := hts (.constant "LevelledRingModel" 79 1013904223) (List.mem_cons_of_mem _ t_474)
  have fr0 : ∀ j : Nat, (j ≠ 236) → u j = u j := fun _ _ => rfl
  refine lv_aload_n hx hb d_M_draw_0 rfl (lv_at hl 0 rfl) ?_
  refine lv_aload_n hx hb d_M_draw_1 rfl (lv_at hl 0 rfl) ?_
  refine w_get (C := "LevelledRingModel") (T := T_M) (M := 19) hx hb hts hinM hown hK hP (236) (by omega) hM rfl 6 (by decide) kk0 (fun _ h => h) rfl d_M_draw_2 ?_
  refine lv_ldc hx hb hown kk2 d_M_draw_5 ?_
  refine lv_imul hx hb d_M_draw_7 ?_
  refine lv_ldc hx hb hown kk3 d_M_draw_8 ?_
  refine lv_iadd hx hb d_M_draw_10 ?_
  refine x_i (y := dz z0) rfl ?_
  refine w_put (C := "LevelledRingModel") (T := T_M) (M := 19) (ty := .int) (v := .int (dz z0)) hx hb hts hinM ty_M tyok_M nm_M hown hK hP hS (236) (by omega) hM rfl 6 (by decide) kk0 (fun _ h => h) rfl (by decide +kernel) rfl rfl (Nat.le_of_ble_eq_true rfl) d_M_draw_11 (fun H locs hP hS => ?_)
  obtain ⟨u1, hu2, hP⟩ : ∃ zz : Nat → va_E, zz = va_up u 236 (.inr (6, [.ref (b + 237), .ref (b + 238), .ref (b + 239), .ref (b + 240), .ref (b + 241), .ref (b + 242), .int (dz z0), .ref (b + 243), .int (iI (cnt)), .ref (b + 244), .ref (b + 245), .ref (b + 246), .ref (b + 247), .ref (b + 248), .ref (b + 249), .ref (b + 250), .ref (b + 251), .ref (b + 252), .ref (b + 253)])) ∧ va_P D vwCl (wl N b zz) H := ⟨_, rfl, hP⟩
  have ff3 : u1 236 = .inr (6, [.ref (b + 237), .ref (b + 238), .ref (b + 239), .ref (b + 240), .ref (b + 241), .ref (b + 242), .int (dz z0), .ref (b + 243), .int (iI (cnt)), .ref (b + 244), .ref (b + 245), .ref (b + 246), .ref (b + 247), .ref (b + 248), .ref (b + 249), .ref (b + 250), .ref (b + 251), .ref (b + 252), .ref (b + 253)]) := (congrFun hu2 _).trans up_s
  have fr4 : ∀ j : Nat, (j ≠ 236) → u1 j = u j := fun j h0 => (congrFun hu2 j).trans ((up_n (by omega)).trans (fr0 j h0))
  refine lv_aload_n hx hb d_M_draw_14 rfl (lv_at hl 0 rfl) ?_
  refine w_get (C := "LevelledRingModel") (T := T_M) (M := 19) hx hb hts hinM hown hK hP (236) (by omega) ff3 rfl 6 (by decide) kk0 (fun _ h => h) rfl d_M_draw_15 ?_
  refine lv_bipush (v := iI (8)) hx hb d_M_draw_18 (by decide +kernel) ?_
  refine lv_iushr (v := iI (dv (dz z0))) hx hb d_M_draw_20 (dv_iI (dz z0)) ?_
  exact ret _ u1 H locs 21 ls ⟨rfl, ff3, fr4⟩ hP hS d_M_draw_21
abbrev rm_c_MdrawSmall : Room := { frames := 1, cells := 0, slots := 0, locals := 20 }
set_option maxHeartbeats 4000000 in
set_option maxRecDepth 100000 in
/-- drawSmall() -/
theorem c_MdrawSmall (l : Launch) (D : va_G) (ct : Nat → ClassId) (st ke : Nat → Nat) (b N : Nat) (u : Nat → va_E) (hN : 254 ≤ N) (z0 : Int32) (cnt : Int) (hM : u 236 = mo b z0 cnt) (g : Int → Int) (f1 : u 242 = ir ct 8 g) : Met l y_M_drawSmall (w_M_drawSmall) rm_c_MdrawSmall (va_Pc [.ref (b + 236)] (fun U => ev D ct st ke b U ∧ va_P D vwCl (wl N b u) U.heap)) (va_Qv (fun z : Nat → va_E => ∃ g2 : Int → Int, z 242 = ir ct 8 g2 ∧ z 236 = mo b (it 8 z0) cnt ∧ (∀ i : Int, 0 ≤ i → i < 8 → g2 i = sml z0 i) ∧ ∀ j : Nat, j ≠ 236 → j ≠ 242 → z j = u j) (fun (z : Nat → va_E) t => va_P D vwCl (wl (N) b (z)) t.heap) (AA b)) 0 0 (AA b) := by
  refine M_v (cc := c9_M_drawSmall) (maxL := 2) (by decide) rfl (Nat.le_of_ble_eq_true rfl) ?_
  intro p e s m args below meth c Q ls H locs hx hb hml hown hts hnm E hP hS hl ret
  have hl : lv_has ls 2 [(0, .ref (b + 236))] := hl
  have hK := ev_K E
  have kk0 := hts (.fieldLink "LevelledRingModel" 26 "LevelledRingModel" "small" "[I") (List.mem_cons_of_mem _ t_498)
  have hinM : ∀ w ∈ u_ws "LevelledRingModel" T_M 19, w ∈ (w_M_drawSmall) := hin_M _
  have fr0 : ∀ j : Nat, (j ≠ 236) → (j ≠ 242) → u j = u j := fun _ _ _ => rfl
  refine lv_iconst (v := iI (0)) hx hb d_M_drawSmall_0 rfl ?_
  refine lv_istore_n (lv' := [(1, .int (iI (0))), (0, .ref (b + 236))]) hx hb d_M_drawSmall_1 rfl hl (by decide) rfl (fun ls hl => ?_)
  have lo : ∀ (d : Nat) (i : Int) (g2 : Int → Int) (w1 : Nat → va_E) (H : Heap) (locs : List Loc) (ls : Array Slot), (0 ≤ i) → (i ≤ 8) → (8 - i < d) → (∀ c : Int, 0 ≤ c → c < i → g2 c = sml z0 c) → w1 242 = ir ct 8 (g2) → w1 236 = .inr (6, [.ref (b + 237), .ref (b + 238), .ref (b + 239), .ref (b + 240), .ref (b + 241), .ref (b + 242), .int (it i.toNat z0), .ref (b + 243), .int (iI (cnt)), .ref (b + 244), .ref (b + 245), .ref (b + 246), .ref (b + 247), .ref (b + 248), .ref (b + 249), .ref (b + 250), .ref (b + 251), .ref (b + 252), .ref (b + 253)]) → (∀ j : Nat, (j ≠ 236) → (j ≠ 242) → w1 j = u j) → va_P D vwCl (wl N b w1) H → va_S (AA b) s.heap H locs → lv_has ls 2 [(1, .int (iI (i))), (0, .ref (b + 236))] → W p l e rm_c_MdrawSmall s m args below meth c H locs 0 0 Q (F0 m 2 ls []) := by
    intro d
    induction d with
    | zero => intro i g2 w1 H locs ls h0 h1 hd hg fg2 fg3 fr4 hP hS hl; exfalso; omega
    | succ d ihlo =>
      intro i g2 w1 H locs ls h0 h1 hd hg fg2 fg3 fr4 hP hS hl
      refine lv_iload_n hx hb d_M_drawSmall_2 rfl (lv_at hl 0 rfl) ?_
      refine lv_bipush (v := iI (8)) hx hb d_M_drawSmall_3 (by decide +kernel) ?_
      refine x_icmp_ge (tgt := 28) hx hb ⟨by omega, by omega⟩ ⟨by omega, by omega⟩ d_M_drawSmall_5 (by decide) (fun hc => ?_) (fun hc => ?_)
      · obtain rfl : i = 8 := by omega
        exact ret w1 H locs 28 ls ⟨g2, fg2, fg3, hg, fr4⟩ hP hS d_M_drawSmall_28
      · have es : it (i + 1).toNat z0 = dz (it i.toNat z0) := by rw [show (i + 1).toNat = i.toNat + 1 by omega]; rfl
        have bdv := dv_bd (dz (it i.toNat z0))
        refine lv_aload_n hx hb d_M_drawSmall_8 rfl (lv_at hl 1 rfl) ?_
        refine w_get (C := "LevelledRingModel") (T := T_M) (M := 19) hx hb hts hinM hown hK hP (236) (by omega) fg3 rfl 5 (by decide) kk0 (fun _ h => h) rfl d_M_drawSmall_9 ?_
        refine lv_iload_n hx hb d_M_drawSmall_12 rfl (lv_at hl 0 rfl) ?_
        refine lv_aload_n hx hb d_M_drawSmall_13 rfl (lv_at hl 1 rfl) ?_
        refine w_calli (va_runV (As := []) (rest := [.int (iI (i)), .ref (b + 242)]) ⟨hx, hb, hml, hown, hts⟩ (c_Mdraw l D ct st ke b N w1 (by omega) (it i.toNat z0) cnt fg3) (cwV 0 hts (gV t_469 t_471 (tb_sel ((y_M_draw), 19) (List.mem_of_getElem? (i := 15) (by decide +kernel))) t_9 t_472) rfl rfl rfl (by decide +kernel) ⟨Nat.le_of_ble_eq_true rfl, Nat.le_of_ble_eq_true rfl⟩) (pre_V E hP hS (236) (by omega) fg3 rfl) rfl rfl hl.1 rfl (lv_room (Nat.le_of_ble_eq_true rfl)) d_M_drawSmall_14 ⟨(Nat.le_of_ble_eq_true rfl), (Nat.le_of_ble_eq_true rfl)⟩) hS (fun r6 z5 H locs hz hP hS => ?_)
        obtain ⟨rfl, hzd, hzdf⟩ := hz
        have ff7 : z5 242 = ir ct 8 (g2) := (hzdf 242 (by omega)).trans fg2
        have fr8 : ∀ j : Nat, (j ≠ 236) → (j ≠ 242) → z5 j = u j := fun j h0 h1 => (hzdf j (by omega)).trans (fr4 j h0 h1)
        refine lv_iconst (v := iI (3)) hx hb d_M_drawSmall_17 rfl ?_
        refine x_iremP hx hb ⟨by omega, by omega⟩ ⟨by omega, by omega⟩ (by omega) (by omega) d_M_drawSmall_18 ?_
        refine lv_iconst (v := iI (1)) hx hb d_M_drawSmall_19 rfl ?_
        refine x_isub hx hb d_M_drawSmall_20 ?_
        refine x_ie (y := sml z0 i) (by unfold sml; rw [es]) ?_
        refine w_iast hx hb hK hP hS (242) (by omega) ff7 (by omega) (by omega) (by omega) d_M_drawSmall_21 (fun H locs hP hS => ?_)
        obtain ⟨u9, hu10, hP⟩ : ∃ zz : Nat → va_E, zz = va_up z5 242 (ir ct 8 (zu g2 (i) (sml z0 i))) ∧ va_P D vwCl (wl N b zz) H := ⟨_, rfl, hP⟩
        have ff11 : u9 242 = ir ct 8 (zu g2 (i) (sml z0 i)) := (congrFun hu10 _).trans up_s
        have ff12 : u9 236 = .inr (6, [.ref (b + 237), .ref (b + 238), .ref (b + 239), .ref (b + 240), .ref (b + 241), .ref (b + 242), .int (dz (it i.toNat z0)), .ref (b + 243), .int (iI (cnt)), .ref (b + 244), .ref (b + 245), .ref (b + 246), .ref (b + 247), .ref (b + 248), .ref (b + 249), .ref (b + 250), .ref (b + 251), .ref (b + 252), .ref (b + 253)]) := (congrFun hu10 _).trans ((up_n (by omega)).trans hzd)
        have fr13 : ∀ j : Nat, (j ≠ 236) → (j ≠ 242) → u9 j = u j := fun j h0 h1 => (congrFun hu10 j).trans ((up_n (by omega)).trans (fr8 j h0 h1))
        refine lv_iinc (k := 0) (v := iI (i + 1)) (lv' := [(1, .int (iI (i + 1))), (0, .ref (b + 236))]) hx hb d_M_drawSmall_22 hl rfl (iI_add _ _) (by decide) rfl (fun ls hl => ?_)
        refine lv_goto (tgt := 2) hx hb d_M_drawSmall_25 (by decide) ?_
        refine ihlo (i + 1) _ u9 H locs ls (by omega) (by omega) (by omega) (fun c h2 h3 => ?_) ff11 (by rw [es]; exact ff12) fr13 hP hS hl
        by_cases h4 : c = i
        · rw [h4, zu_s]
        · rw [zu_n h4]; exact hg c h2 (by omega)
  exact lo 9 0 g u H locs ls (by omega) (by omega) (by omega) (fun c h2 h3 => by omega) f1 hM fr0 hP hS hl
abbrev rm_c_MdrawUniform : Room := { frames := 1, cells := 0, slots := 0, locals := 32 }
set_option maxHeartbeats 4000000 in
set_option maxRecDepth 100000 in
/-- drawUniform(x) -/
theorem c_MdrawUniform (l : Launch) (D : va_G) (ct : Nat → ClassId) (st ke : Nat → Nat) (b N : Nat) (u : Nat → va_E) (hN : 254 ≤ N) (z0 : Int32) (cnt : Int) (hM : u 236 = mo b z0 cnt) (hMK : MK ct u) (g : Int → Int) (f1 : u 237 = lr ct 512 g) (x : Int) (hx0 : 0 ≤ x) (hx1 : x < 64) : Met l y_M_drawUniform (w_M_drawUniform) rm_c_MdrawUniform (va_Pc [.ref (b + 236), .int (iI (x))] (fun U => ev D ct st ke b U ∧ va_P D vwCl (wl N b u) U.heap)) (va_Qv (fun z : Nat → va_E => ∃ g2 : Int → Int, z 237 = lr ct 512 g2 ∧ z 236 = mo b (it 32 z0) cnt ∧ (∀ i : Int, 0 ≤ i → i < 8 → g2 (8 * x + i) = uni z0 i) ∧ (∀ j : Int, (j < 8 * x ∨ 8 * x + 8 ≤ j) → g2 j = g j) ∧ ∀ j : Nat, j ≠ 236 → j ≠ 237 → z j = u j) (fun (z : Nat → va_E) t => va_P D vwCl (wl (N) b (z)) t.heap) (AA b)) 0 0 (AA b) := by
  refine M_v (cc := c9_M_drawUniform) (maxL := 7) (by decide) rfl (Nat.le_of_ble_eq_true rfl) ?_
  intro p e s m args below meth c Q ls H locs hx hb hml hown hts hnm E hP hS hl ret
  have hl : lv_has ls 7 [(0, .ref (b + 236)), (1, .int (iI (x)))] := hl
  have hK := ev_K E
  have kk0 := hts (.fieldLink "LevelledRingModel" 7 "LevelledRingModel" "row" "[J") (List.mem_cons_of_mem _ t_493)
  have hinM : ∀ w ∈ u_ws "LevelledRingModel" T_M 19, w ∈ (w_M_drawUniform) := hin_M _
  have kk2 := hts (.fieldLink "LevelledRingModel" 13 "LevelledRingModel" "prime" "[I") (List.mem_cons_of_mem _ t_494)
  have kk3 := hts (.fieldLink "LevelledRingModel" 20 "LevelledRingModel" "unit" "[J") (List.mem_cons_of_mem _ t_496)
  have kk4 := hts (.fieldLink "LevelledRingModel" 17 "LevelledRingModel" "big" "[J") (List.mem_cons_of_mem _ t_495)
  have fr0 : ∀ j : Nat, (j ≠ 236) → (j ≠ 237) → u j = u j := fun _ _ _ => rfl
  obtain ⟨⟨pr, hp1, hp2⟩, ⟨bg, hb1, hb2⟩, ut, hu1, hu2⟩ := hMK
  refine lv_iconst (v := iI (0)) hx hb d_M_drawUniform_0 rfl ?_
  refine lv_istore_n (lv' := [(2, .int (iI (0))), (0, .ref (b + 236)), (1, .int (iI (x)))]) hx hb d_M_drawUniform_1 rfl hl (by decide) rfl (fun ls hl => ?_)
  have lo : ∀ (d : Nat) (i : Int) (g2 : Int → Int) (w1 : Nat → va_E) (H : Heap) (locs : List Loc) (ls : Array Slot), (0 ≤ i) → (i ≤ 8) → (8 - i < d) → (∀ c : Int, 0 ≤ c → c < i → g2 (8 * x + c) = uni z0 c) → (∀ j : Int, (j < 8 * x ∨ 8 * x + 8 ≤ j) → g2 j = g j) → w1 237 = lr ct 512 (g2) → w1 236 = .inr (6, [.ref (b + 237), .ref (b + 238), .ref (b + 239), .ref (b + 240), .ref (b + 241), .ref (b + 242), .int (it (4 * i).toNat z0), .ref (b + 243), .int (iI (cnt)), .ref (b + 244), .ref (b + 245), .ref (b + 246), .ref (b + 247), .ref (b + 248), .ref (b + 249), .ref (b + 250), .ref (b + 251), .ref (b + 252), .ref (b + 253)]) → (∀ j : Nat, (j ≠ 236) → (j ≠ 237) → w1 j = u j) → va_P D vwCl (wl N b w1) H → va_S (AA b) s.heap H locs → lv_has ls 7 [(2, .int (iI (i))), (0, .ref (b + 236)), (1, .int (iI (x)))] → W p l e rm_c_MdrawUniform s m args below meth c H locs 0 0 Q (F0 m 2 ls []) := by
    intro d
    induction d with
    | zero => intro i g2 w1 H locs ls h0 h1 hd hg hk fg2 fg3 fr4 hP hS hl; exfalso; omega
    | succ d ihlo =>
      intro i g2 w1 H locs ls h0 h1 hd hg hk fg2 fg3 fr4 hP hS hl
      have ff5 : w1 238 = ir ct 4 (pr) := (fr4 238 (by omega) (by omega)).trans hp1
      have ff6 : w1 239 = lr ct 4 (bg) := (fr4 239 (by omega) (by omega)).trans hb1
      have ff7 : w1 240 = lr ct 4 (ut) := (fr4 240 (by omega) (by omega)).trans hu1
      refine lv_iload_n hx hb d_M_drawUniform_2 rfl (lv_at hl 0 rfl) ?_
      refine lv_bipush (v := iI (8)) hx hb d_M_drawUniform_3 (by decide +kernel) ?_
      refine x_icmp_ge (tgt := 86) hx hb ⟨by omega, by omega⟩ ⟨by omega, by omega⟩ d_M_drawUniform_5 (by decide) (fun hc => ?_) (fun hc => ?_)
      · obtain rfl : i = 8 := by omega
        exact ret w1 H locs 86 ls ⟨g2, fg2, fg3, hg, hk, fr4⟩ hP hS d_M_drawUniform_86
      · refine lv_lconst (v := lI 0) hx hb d_M_drawUniform_8 rfl ?_
        refine lv_lstore_n (lv' := [(3, .long (lI (0))), (2, .int (iI (i))), (0, .ref (b + 236)), (1, .int (iI (x)))]) hx hb d_M_drawUniform_9 rfl hl (by decide) rfl (fun ls hl => ?_)
        refine lv_iconst (v := iI (0)) hx hb d_M_drawUniform_10 rfl ?_
        refine lv_istore (lv' := [(5, .int (iI (0))), (3, .long (lI (0))), (2, .int (iI (i))), (0, .ref (b + 236)), (1, .int (iI (x)))]) hx hb d_M_drawUniform_11 hl (by decide) rfl (fun ls hl => ?_)
        have li : ∀ (d2 : Nat) (a : Int) (w8 : Nat → va_E) (H : Heap) (locs : List Loc) (ls : Array Slot), (0 ≤ a) → (a ≤ 4) → (4 - a < d2) → w8 236 = .inr (6, [.ref (b + 237), .ref (b + 238), .ref (b + 239), .ref (b + 240), .ref (b + 241), .ref (b + 242), .int (it (4 * i + a).toNat z0), .ref (b + 243), .int (iI (cnt)), .ref (b + 244), .ref (b + 245), .ref (b + 246), .ref (b + 247), .ref (b + 248), .ref (b + 249), .ref (b + 250), .ref (b + 251), .ref (b + 252), .ref (b + 253)]) → w8 237 = lr ct 512 (g2) → (∀ j : Nat, (j ≠ 236) → (j ≠ 237) → w8 j = u j) → va_P D vwCl (wl N b w8) H → va_S (AA b) s.heap H locs → lv_has ls 7 [(5, .int (iI (a))), (3, .long (lI (usm z0 i a.toNat % lQ 3))), (2, .int (iI (i))), (0, .ref (b + 236)), (1, .int (iI (x)))] → W p l e rm_c_MdrawUniform s m args below meth c H locs 0 0 Q (F0 m 13 ls []) := by
          intro d2
          induction d2 with
          | zero => intro a w8 H locs ls ha0 ha4 hd2 fg9 fg10 fr11 hP hS hl; exfalso; omega
          | succ d2 ihli =>
            intro a w8 H locs ls ha0 ha4 hd2 fg9 fg10 fr11 hP hS hl
            have ff12 : w8 238 = ir ct 4 (pr) := (fr11 238 (by omega) (by omega)).trans hp1
            have ff13 : w8 239 = lr ct 4 (bg) := (fr11 239 (by omega) (by omega)).trans hb1
            have ff14 : w8 240 = lr ct 4 (ut) := (fr11 240 (by omega) (by omega)).trans hu1
            refine lv_iload hx hb d_M_drawUniform_13 (lv_at hl 0 rfl) ?_
            refine lv_iconst (v := iI (4)) hx hb d_M_drawUniform_15 rfl ?_
            refine x_icmp_ge (tgt := 68) hx hb ⟨by omega, by omega⟩ ⟨by omega, by omega⟩ d_M_drawUniform_16 (by decide) (fun hc => ?_) (fun hc => ?_)
            · obtain rfl : a = 4 := by omega
              refine lv_aload_n hx hb d_M_drawUniform_68 rfl (lv_at hl 3 rfl) ?_
              refine w_get (C := "LevelledRingModel") (T := T_M) (M := 19) hx hb hts hinM hown hK hP (236) (by omega) fg9 rfl 0 (by decide) kk0 (fun _ h => h) rfl d_M_drawUniform_69 ?_
              refine lv_bipush (v := iI (8)) hx hb d_M_drawUniform_72 (by decide +kernel) ?_
              refine lv_iload_n hx hb d_M_drawUniform_74 rfl (lv_at hl 4 rfl) ?_
              refine x_imul hx hb d_M_drawUniform_75 ?_
              refine lv_iload_n hx hb d_M_drawUniform_76 rfl (lv_at hl 2 rfl) ?_
              refine x_iadd hx hb d_M_drawUniform_77 ?_
              refine lv_lload_n hx hb d_M_drawUniform_78 rfl (lv_at hl 1 rfl) ?_
              refine x_le (y := uni z0 i) (usm_4 z0 i) ?_
              refine w_last hx hb hK hP hS (237) (by omega) fg10 (by omega) (by omega) (by omega) d_M_drawUniform_79 (fun H locs hP hS => ?_)
              obtain ⟨u15, hu16, hP⟩ : ∃ zz : Nat → va_E, zz = va_up w8 237 (lr ct 512 (zu g2 ((8 * x) + (i)) (uni z0 i))) ∧ va_P D vwCl (wl N b zz) H := ⟨_, rfl, hP⟩
              have ff17 : u15 238 = ir ct 4 (pr) := (congrFun hu16 _).trans ((up_n (by omega)).trans ff12)
              have ff18 : u15 239 = lr ct 4 (bg) := (congrFun hu16 _).trans ((up_n (by omega)).trans ff13)
              have ff19 : u15 240 = lr ct 4 (ut) := (congrFun hu16 _).trans ((up_n (by omega)).trans ff14)
              have ff20 : u15 236 = .inr (6, [.ref (b + 237), .ref (b + 238), .ref (b + 239), .ref (b + 240), .ref (b + 241), .ref (b + 242), .int (it (4 * i + (4 : Int)).toNat z0), .ref (b + 243), .int (iI (cnt)), .ref (b + 244), .ref (b + 245), .ref (b + 246), .ref (b + 247), .ref (b + 248), .ref (b + 249), .ref (b + 250), .ref (b + 251), .ref (b + 252), .ref (b + 253)]) := (congrFun hu16 _).trans ((up_n (by omega)).trans fg9)
              have ff21 : u15 237 = lr ct 512 (zu g2 ((8 * x) + (i)) (uni z0 i)) := (congrFun hu16 _).trans up_s
              have fr22 : ∀ j : Nat, (j ≠ 236) → (j ≠ 237) → u15 j = u j := fun j h0 h1 => (congrFun hu16 j).trans ((up_n (by omega)).trans (fr11 j h0 h1))
              refine lv_iinc (k := 2) (v := iI (i + 1)) (lv' := [(2, .int (iI (i + 1))), (5, .int (iI ((4 : Int)))), (3, .long (lI (usm z0 i (4 : Int).toNat % lQ 3))), (0, .ref (b + 236)), (1, .int (iI (x)))]) hx hb d_M_drawUniform_80 hl rfl (iI_add _ _) (by decide) rfl (fun ls hl => ?_)
              refine lv_goto (tgt := 2) hx hb d_M_drawUniform_83 (by decide) ?_
              have hl : lv_has ls 7 [(2, .int (iI (i + 1))), (0, .ref (b + 236)), (1, .int (iI (x)))] := lv_sub hl [0, 3, 4] rfl
              refine ihlo (i + 1) _ u15 H locs ls (by omega) (by omega) (by omega) (fun c h2 h3 => ?_) (fun j h2 => by rw [zu_n (by omega)]; exact hk j h2) ff21 (by rw [show 4 * (i + 1) = 4 * i + 4 by omega]; exact ff20) fr22 hP hS hl
              by_cases h4 : c = i
              · rw [h4, zu_s]
              · rw [zu_n (by omega)]; exact hg c h2 (by omega)
            · refine lv_aload_n hx hb d_M_drawUniform_19 rfl (lv_at hl 3 rfl) ?_
              refine w_calli (va_runV (As := []) (rest := []) ⟨hx, hb, hml, hown, hts⟩ (c_Mdraw l D ct st ke b N w8 (by omega) (it (4 * i + a).toNat z0) cnt fg9) (cwV 0 hts (gV t_469 t_471 (tb_sel ((y_M_draw), 19) (List.mem_of_getElem? (i := 15) (by decide +kernel))) t_9 t_472) rfl rfl rfl (by decide +kernel) ⟨Nat.le_of_ble_eq_true rfl, Nat.le_of_ble_eq_true rfl⟩) (pre_V E hP hS (236) (by omega) fg9 rfl) rfl rfl hl.1 rfl (lv_room (Nat.le_of_ble_eq_true rfl)) d_M_drawUniform_20 ⟨(Nat.le_of_ble_eq_true rfl), (Nat.le_of_ble_eq_true rfl)⟩) hS (fun r24 z23 H locs hz hP hS => ?_)
              obtain ⟨rfl, hzd, hzdf⟩ := hz
              have ff25 : z23 238 = ir ct 4 (pr) := (hzdf 238 (by omega)).trans ff12
              have ff26 : z23 239 = lr ct 4 (bg) := (hzdf 239 (by omega)).trans ff13
              have ff27 : z23 240 = lr ct 4 (ut) := (hzdf 240 (by omega)).trans ff14
              have ff28 : z23 237 = lr ct 512 (g2) := (hzdf 237 (by omega)).trans fg10
              have fr29 : ∀ j : Nat, (j ≠ 236) → (j ≠ 237) → z23 j = u j := fun j h0 h1 => (hzdf j (by omega)).trans (fr11 j h0 h1)
              refine lv_aload_n hx hb d_M_drawUniform_23 rfl (lv_at hl 3 rfl) ?_
              refine w_get (C := "LevelledRingModel") (T := T_M) (M := 19) hx hb hts hinM hown hK hP (236) (by omega) hzd rfl 1 (by decide) kk2 (fun _ h => h) rfl d_M_drawUniform_24 ?_
              refine lv_iload hx hb d_M_drawUniform_27 (lv_at hl 0 rfl) ?_
              refine w_iald hx hb hK hP (238) (by omega) ff25 (by omega) (by omega) (by omega) d_M_drawUniform_29 ?_
              refine x_ie (y := lq a) (hp2 a ha0 (by omega)) ?_
              refine x_iremP hx hb (dv_r _) (lq_r a) (lq_p a) (dv_bd _).1 d_M_drawUniform_30 ?_
              refine x_ie (y := res z0 i a) (by unfold res; rw [it_s z0 (by omega)]) ?_
              refine lv_istore (lv' := [(6, .int (iI (res z0 i a))), (5, .int (iI (a))), (3, .long (lI (usm z0 i a.toNat % lQ 3))), (2, .int (iI (i))), (0, .ref (b + 236)), (1, .int (iI (x)))]) hx hb d_M_drawUniform_31 hl (by decide) rfl (fun ls hl => ?_)
              refine lv_lload_n hx hb d_M_drawUniform_33 rfl (lv_at hl 2 rfl) ?_
              refine lv_aload_n hx hb d_M_drawUniform_34 rfl (lv_at hl 4 rfl) ?_
              refine w_get (C := "LevelledRingModel") (T := T_M) (M := 19) hx hb hts hinM hown hK hP (236) (by omega) hzd rfl 3 (by decide) kk3 (fun _ h => h) rfl d_M_drawUniform_35 ?_
              refine lv_iload hx hb d_M_drawUniform_38 (lv_at hl 1 rfl) ?_
              refine w_lald hx hb hK hP (240) (by omega) ff27 (by omega) (by omega) (by omega) d_M_drawUniform_40 ?_
              refine x_le (y := un a) (hu2 a ha0 (by omega)) ?_
              refine lv_iload hx hb d_M_drawUniform_41 (lv_at hl 0 rfl) ?_
              refine x_i2l hx hb (res_r _ _ _) d_M_drawUniform_43 ?_
              refine lv_aload_n hx hb d_M_drawUniform_44 rfl (lv_at hl 4 rfl) ?_
              refine w_get (C := "LevelledRingModel") (T := T_M) (M := 19) hx hb hts hinM hown hK hP (236) (by omega) hzd rfl 2 (by decide) kk4 (fun _ h => h) rfl d_M_drawUniform_45 ?_
              refine lv_iconst (v := iI (3)) hx hb d_M_drawUniform_48 rfl ?_
              refine w_lald hx hb hK hP (239) (by omega) ff26 (by omega) (by omega) (by omega) d_M_drawUniform_49 ?_
              refine x_le (y := lQ 3) (hb2 3 (by decide) (by decide)) ?_
              refine w_calll (va_runS (As := [.long (lI (un a)), .long (lI (res z0 i a)), .long (lI (lQ 3))]) (rest := [.long (lI (usm z0 i a.toNat % lQ 3))]) ⟨hx, hb, hml, hown, hts⟩ (c_times l D ct st ke b N z23 (un a) (res z0 i a) (lQ 3) (un_bd a).1 (show un a < lQ 3 from (un_bd a).2) (res_bd z0 i a).1 (res_sm z0 i a) (lQ_bd 3).2) (cwS 3 hts (gS t_479 t_480 t_9 t_481) rfl rfl rfl (by decide +kernel) ⟨Nat.le_of_ble_eq_true rfl, Nat.le_of_ble_eq_true rfl⟩) (pre_S E hP hS) rfl rfl hl.1 rfl (lv_room (Nat.le_of_ble_eq_true rfl)) d_M_drawUniform_50 ⟨(Nat.le_of_ble_eq_true rfl), (Nat.le_of_ble_eq_true rfl)⟩) hS (fun r31 z30 H locs hz hP hS => ?_)
              obtain ⟨rfl, rfl⟩ := hz
              refine x_ladd hx hb d_M_drawUniform_53 ?_
              refine lv_aload_n hx hb d_M_drawUniform_54 rfl (lv_at hl 4 rfl) ?_
              refine w_get (C := "LevelledRingModel") (T := T_M) (M := 19) hx hb hts hinM hown hK hP (236) (by omega) hzd rfl 2 (by decide) kk4 (fun _ h => h) rfl d_M_drawUniform_55 ?_
              refine lv_iconst (v := iI (3)) hx hb d_M_drawUniform_58 rfl ?_
              refine w_lald hx hb hK hP (239) (by omega) ff26 (by omega) (by omega) (by omega) d_M_drawUniform_59 ?_
              refine x_le (y := lQ 3) (hb2 3 (by decide) (by decide)) ?_
              refine x_lremP hx hb (two_r _ _ _) (lQ_r _) (lQ_p _) (two_0 _ _ _) d_M_drawUniform_60 ?_
              refine x_le (y := usm z0 i (a + 1).toNat % lQ 3) (by unfold usm; rw [sn_step _ ha0]; exact cg_add cg_mod cg_mod) ?_
              refine lv_lstore_n (lv' := [(3, .long (lI (usm z0 i (a + 1).toNat % lQ 3))), (6, .int (iI (res z0 i a))), (5, .int (iI (a))), (2, .int (iI (i))), (0, .ref (b + 236)), (1, .int (iI (x)))]) hx hb d_M_drawUniform_61 rfl hl (by decide) rfl (fun ls hl => ?_)
              refine lv_iinc (k := 2) (v := iI (a + 1)) (lv' := [(5, .int (iI (a + 1))), (3, .long (lI (usm z0 i (a + 1).toNat % lQ 3))), (6, .int (iI (res z0 i a))), (2, .int (iI (i))), (0, .ref (b + 236)), (1, .int (iI (x)))]) hx hb d_M_drawUniform_62 hl rfl (iI_add _ _) (by decide) rfl (fun ls hl => ?_)
              refine lv_goto (tgt := 13) hx hb d_M_drawUniform_65 (by decide) ?_
              have hl : lv_has ls 7 [(5, .int (iI (a + 1))), (3, .long (lI (usm z0 i (a + 1).toNat % lQ 3))), (2, .int (iI (i))), (0, .ref (b + 236)), (1, .int (iI (x)))] := lv_sub hl [0, 1, 3, 4, 5] rfl
              exact ihli (a + 1) z23 H locs ls (by omega) (by omega) (by omega) (by rw [show 4 * i + (a + 1) = 4 * i + a + 1 by omega, it_s z0 (by omega)]; exact hzd) ff28 fr29 hP hS hl
        exact li 5 0 w1 H locs ls (by omega) (by omega) (by omega) (by rw [Int.add_zero]; exact fg3) fg2 fr4 hP hS hl
  exact lo 9 0 g u H locs ls (by omega) (by omega) (by omega) (fun c h2 h3 => by omega) (fun _ _ => rfl) f1 hM fr0 hP hS hl
