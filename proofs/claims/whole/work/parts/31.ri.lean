abbrev rm_c_run : Room := { frames := 6, cells := 0, slots := 0, locals := 136 }
set_option maxHeartbeats 4000000 in
set_option maxRecDepth 100000 in
/-- run() -/
theorem c_run (l : Launch) (D : va_G) (ct : Nat → ClassId) (st ke : Nat → Nat) (b N : Nat) (u : Nat → va_E) (hN : 236 ≤ N) (K : Ky) (n v : Nat) (msg : Int → Int) (G : Int → Gt) (V : Int → Val) (hC : CS ct b ke u K n v msg G V) (hI : PI n v msg G V) : Met l y_R_run (w_R_run) rm_c_run (va_Pc [.ref (b + 0)] (fun U => ev D ct st ke b U ∧ va_P D vwCl (wl N b u) U.heap)) (va_Qi (fun (r : Int32) (z : Nat → va_E) => r = iI (rnA n (rnS K G n 24 v V)) ∧ CS ct b ke z K n (rnS K G n 24 v V).1 msg G (rnS K G n 24 v V).2 ∧ ∀ j : Nat, 236 ≤ j → z j = u j) (fun (z : Nat → va_E) t => va_P D vwCl (wl (N) b (z)) t.heap) (AA b)) 0 0 (AA b) := by
  refine M_i (cc := c9_R_run) (maxL := 2) (by decide) rfl (Nat.le_of_ble_eq_true rfl) ?_
  intro p e s m args below meth c Q ls H locs hx hb hml hown hts hnm E hP hS hl ret
  have hl : lv_has ls 2 [(0, .ref (b + 0))] := hl
  have hK := ev_K E
  have kk0 := hts (.fieldLink "LevelledRing" 35 "LevelledRing" "valueCount" "I") (List.mem_cons_of_mem _ t_178)
  have hinR : ∀ w ∈ u_ws "LevelledRing" T_R 11, w ∈ (w_R_run) := hin_R _
  have kk2 := hts (.fieldLink "LevelledRing" 31 "LevelledRing" "gateCount" "I") (List.mem_cons_of_mem _ t_177)
  have kk3 := hts (.fieldLink "LevelledRing" 27 "LevelledRing" "gates" "[LLevelledRing$Gate;") (List.mem_cons_of_mem _ t_176)
  have fr0 : ∀ j : Nat, (236 ≤ j) → u j = u j := fun _ _ => rfl
  have hC0 := hC
  have hn24 := hI.1
  have hvn := hI.2.1
  obtain ⟨hO, hSC, hSV, ⟨gf, hgr, hgf⟩, hKS, hGC⟩ := hC
  refine lv_aload_n hx hb d_R_run_0 rfl (lv_at hl 0 rfl) ?_
  refine w_get (C := "LevelledRing") (T := T_R) (M := 11) hx hb hts hinR hown hK hP (0) (by omega) hO rfl 5 (by decide) kk0 (fun _ h => h) rfl d_R_run_1 ?_
  refine lv_istore_n (lv' := [(1, .int (iI ((v : Int)))), (0, .ref (b + 0))]) hx hb d_R_run_4 rfl hl (by decide) rfl (fun ls hl => ?_)
  have lo : ∀ (d : Nat) (v1 : Nat) (V1 : Int → Val) (f : Nat) (w1 : Nat → va_E) (H : Heap) (locs : List Loc) (ls : Array Slot), (24 - v1 < d) → (n ≤ f + v1) → (PI n v1 msg G V1) → (rnS K G n f v1 V1 = rnS K G n 24 v V) → (CS ct b ke w1 K n v1 msg G V1) → (∀ j : Nat, (236 ≤ j) → w1 j = u j) → va_P D vwCl (wl N b w1) H → va_S (AA b) s.heap H locs → lv_has ls 2 [(1, .int (iI ((v1 : Int)))), (0, .ref (b + 0))] → W p l e rm_c_run s m args below meth c H locs 0 0 Q (F0 m 5 ls []) := by
    intro d
    induction d with
    | zero => intro v1 V1 f w1 H locs ls hd hf hI1 hrn hC1 fr2 hP hS hl; exfalso; have h1 := hI1.1; have h2 := hI1.2.1; omega
    | succ d ihlo =>
      intro v1 V1 f w1 H locs ls hd hf hI1 hrn hC1 fr2 hP hS hl
      have hC8 := hC1
      have hv1n := hI1.2.1
      obtain ⟨gO, gSC, gSV, ⟨gf1, ggr, ggf⟩, gKS, gGC⟩ := hC1
      refine lv_iload_n hx hb d_R_run_5 rfl (lv_at hl 0 rfl) ?_
      refine lv_aload_n hx hb d_R_run_6 rfl (lv_at hl 1 rfl) ?_
      refine w_get (C := "LevelledRing") (T := T_R) (M := 11) hx hb hts hinR hown hK hP (0) (by omega) gO rfl 4 (by decide) kk2 (fun _ h => h) rfl d_R_run_7 ?_
      refine x_icmp_ge (tgt := 41) hx hb ⟨by omega, by omega⟩ ⟨by omega, by omega⟩ d_R_run_10 (by decide) (fun hc => ?_) (fun hc => ?_)
      · refine lv_iconst (v := iI (-1)) hx hb d_R_run_41 rfl ?_
        have hx9 := rnS_x (K := K) (G := G) (n := n) (f := f) (v := v1) (V := V1) (by omega)
        rw [hx9] at hrn
        exact ret _ w1 H locs 42 ls ⟨by rw [← hrn]; unfold rnA; rw [if_neg (show ¬ v1 < n by omega)], by rw [← hrn]; exact hC8, fr2⟩ hP hS d_R_run_42
      · have hvl : v1 < n := by omega
        have hg0 := (gGC.2.1 v1 hvl).1
        refine lv_aload_n hx hb d_R_run_13 rfl (lv_at hl 1 rfl) ?_
        refine lv_aload_n hx hb d_R_run_14 rfl (lv_at hl 1 rfl) ?_
        refine w_get (C := "LevelledRing") (T := T_R) (M := 11) hx hb hts hinR hown hK hP (0) (by omega) gO rfl 3 (by decide) kk3 (fun _ h => h) rfl d_R_run_15 ?_
        refine lv_iload_n hx hb d_R_run_18 rfl (lv_at hl 0 rfl) ?_
        refine w_aald (r := b + (44 + 8 * v1)) hx hb hK hP (4) (by omega) 3 ggr rfl (by omega) (by omega) (by decide) (ggf v1 (by omega)) d_R_run_19 ?_
        refine w_calli (va_runV (As := [.ref (b + (44 + 8 * v1))]) (rest := []) ⟨hx, hb, hml, hown, hts⟩ (c_giveValue l D ct st ke b N w1 hN K n v1 msg G V1 hC8 hI1 hvl) (cwV 1 hts (gV t_313 t_315 (tb_sel ((y_R_giveValue), 11) (List.mem_of_getElem? (i := 4) (by decide +kernel))) t_1 t_316) rfl rfl rfl (by decide +kernel) ⟨Nat.le_of_ble_eq_true rfl, Nat.le_of_ble_eq_true rfl⟩) (pre_V E hP hS (0) (by omega) gO rfl) rfl rfl hl.1 rfl (lv_room (Nat.le_of_ble_eq_true rfl)) d_R_run_20 ⟨(Nat.le_of_ble_eq_true rfl), (Nat.le_of_ble_eq_true rfl)⟩) hS (fun r z3 H locs hz hP hS => ?_)
        obtain ⟨hz, hzS, hzf⟩ := hz
        have ff4 : z3 0 = .inr (5, [.ref (b + 1), .ref (b + 21), .ref (b + 2), .ref (b + 4), .int (iI ((n : Int))), .int (iI ((v1 : Int))), .ref (b + 5), .ref (b + 10), .ref (b + 15), .ref (b + 17), .ref (b + 19)]) := (hzf 0 (by omega)).trans gO
        have ff5 : z3 4 = qr ct 3 24 (gf1) := (hzf 4 (by omega)).trans ggr
        have ff6 : z3 (44 + 8 * v1) = .inr (1, [.ref (ke (G v1).1), .int (iI ((G v1).2.1)), .int (iI ((G v1).2.2.1)), .int (iI ((G v1).2.2.2.1)), .ref (b + (44 + 8 * v1 + 1)), .ref (b + (44 + 8 * v1 + 3))]) := (hzf (44 + 8 * v1) (by omega)).trans hg0
        have fr7 : ∀ j : Nat, (236 ≤ j) → z3 j = u j := fun j h0 => (hzf j (by omega)).trans (fr2 j h0)
        obtain ⟨f1, rfl⟩ : ∃ f1, f = f1 + 1 := ⟨f - 1, by omega⟩
        rcases hz with ⟨w9, w1, w2, w3⟩ | ⟨w1, w2, w3⟩
        · subst w2
          refine x_if_ne (tgt := 28) hx hb ⟨by omega, by omega⟩ d_R_run_23 (by decide) (fun hc => ?_) (fun hc => by exfalso; omega)
          rw [rnS_s hvl w1] at hrn
          have xf8 : ∀ j : Nat, (j ≠ 0) → z3 j = z3 j := fun _ _ => rfl
          refine lv_aload_n hx hb d_R_run_28 rfl (lv_at hl 1 rfl) ?_
          refine lv_iload_n hx hb d_R_run_29 rfl (lv_at hl 0 rfl) ?_
          refine lv_iconst (v := iI (1)) hx hb d_R_run_30 rfl ?_
          refine x_iadd hx hb d_R_run_31 ?_
          refine w_put (C := "LevelledRing") (T := T_R) (M := 11) (ty := .int) (v := .int (iI (((v1 : Int)) + (1)))) hx hb hts hinR ty_R tyok_R nm_R hown hK hP hS (0) (by omega) ff4 rfl 5 (by decide) kk0 (fun _ h => h) rfl (by decide +kernel) rfl rfl (Nat.le_of_ble_eq_true rfl) d_R_run_32 (fun H locs hP hS => ?_)
          obtain ⟨u9, hu10, hP⟩ : ∃ zz : Nat → va_E, zz = va_up z3 0 (.inr (5, [.ref (b + 1), .ref (b + 21), .ref (b + 2), .ref (b + 4), .int (iI ((n : Int))), .int (iI (((v1 : Int)) + (1))), .ref (b + 5), .ref (b + 10), .ref (b + 15), .ref (b + 17), .ref (b + 19)])) ∧ va_P D vwCl (wl N b zz) H := ⟨_, rfl, hP⟩
          have ff11 : u9 0 = .inr (5, [.ref (b + 1), .ref (b + 21), .ref (b + 2), .ref (b + 4), .int (iI ((n : Int))), .int (iI (((v1 : Int)) + (1))), .ref (b + 5), .ref (b + 10), .ref (b + 15), .ref (b + 17), .ref (b + 19)]) := (congrFun hu10 _).trans up_s
          have ff12 : u9 4 = qr ct 3 24 (gf1) := (congrFun hu10 _).trans ((up_n (by omega)).trans ff5)
          have ff13 : u9 (44 + 8 * v1) = .inr (1, [.ref (ke (G v1).1), .int (iI ((G v1).2.1)), .int (iI ((G v1).2.2.1)), .int (iI ((G v1).2.2.2.1)), .ref (b + (44 + 8 * v1 + 1)), .ref (b + (44 + 8 * v1 + 3))]) := (congrFun hu10 _).trans ((up_n (by omega)).trans ff6)
          have fr14 : ∀ j : Nat, (236 ≤ j) → u9 j = u j := fun j h0 => (congrFun hu10 j).trans ((up_n (by omega)).trans (fr7 j h0))
          have xf15 : ∀ j : Nat, (j ≠ 0) → u9 j = z3 j := fun j h0 => (congrFun hu10 j).trans ((up_n (by omega)).trans (xf8 j h0))
          refine lv_iinc (k := 0) (v := iI ((v1 : Int) + 1)) (lv' := [(1, .int (iI ((v1 : Int) + 1))), (0, .ref (b + 0))]) hx hb d_R_run_35 hl rfl (iI_add _ _) (by decide) rfl (fun ls hl => ?_)
          have hl : lv_has ls 2 [(1, .int (iI (((v1 + 1 : Nat) : Int)))), (0, .ref (b + 0))] := by rw [show ((v1 + 1 : Nat) : Int) = (v1 : Int) + 1 from by omega]; exact hl
          refine lv_goto (tgt := 5) hx hb d_R_run_38 (by decide) ?_
          have hGv := GC_val gGC hn24 hvl (fun j h1 h2 h3 => hzf j (by omega)) w3
          refine ihlo (v1 + 1) _ f1 u9 H locs ls (by omega) (by omega) (PI_val hI1 hvl (gv_ok hI1 hvl w1)) hrn ⟨ff11, hzS.of fun j h1 h2 h3 h4 h5 => xf15 j (by omega), (gSV.of (z := z3) fun j h1 h2 => hzf j (by omega)).of fun j h1 h2 => xf15 j (by omega), ⟨gf1, ff12, ggf⟩, (gKS.of (z := z3) fun j h1 h2 => hzf j (by omega)).of fun j h1 h2 => xf15 j (by omega), hGv.of hn24 (by omega) fun j h1 h2 => xf15 j (by omega)⟩ fr14 hP hS hl
        · subst w2
          refine x_if_ne (tgt := 28) hx hb ⟨by omega, by omega⟩ d_R_run_23 (by decide) (fun hc => by exfalso; omega) (fun hc => ?_)
          rw [rnS_n hvl w1] at hrn
          refine lv_iload_n hx hb d_R_run_26 rfl (lv_at hl 0 rfl) ?_
          exact ret _ z3 H locs 27 ls ⟨by rw [← hrn]; unfold rnA; rw [if_pos (show v1 < n by omega)], by rw [← hrn]; exact ⟨ff4, hzS, gSV.of fun j h1 h2 => hzf j (by omega), ⟨gf1, ff5, ggf⟩, gKS.of fun j h1 h2 => hzf j (by omega), GC_no gGC hn24 hvl (fun j h1 h2 h3 => hzf j (by omega)) w3⟩, fr7⟩ hP hS d_R_run_27
  exact lo 25 v V 24 u H locs ls (by omega) (by omega) hI rfl hC0 fr0 hP hS hl
