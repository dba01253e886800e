abbrev rm_c_plainOf : Room := { frames := 1, cells := 0, slots := 0, locals := 22 }
set_option maxHeartbeats 4000000 in
set_option maxRecDepth 100000 in
/-- plainOf(kd, x, y, i) -/
theorem c_plainOf (l : Launch) (D : va_G) (ct : Nat → ClassId) (st ke : Nat → Nat) (b N : Nat) (u : Nat → va_E) (hN : 254 ≤ N) (z0 : Int32) (cnt : Int) (hM : u 236 = mo b z0 cnt) (ms pl : Int → Int) (f1 : u 243 = ir ct 8 ms) (f2 : u 247 = ir ct 192 pl) (kd : Nat) (h6 : kd < 6) (x y i : Int) (hi0 : 0 ≤ i) (hi8 : i < 8) (X Y : Int → Int) (hX : 1 ≤ kd → (0 ≤ x ∧ x < 24) ∧ p17 X ∧ ∀ j : Int, 0 ≤ j → j < 8 → pl (8 * x + j) = X j) (hY : 1 ≤ kd → kd ≤ 3 → (0 ≤ y ∧ y < 24) ∧ p17 Y ∧ ∀ j : Int, 0 ≤ j → j < 8 → pl (8 * y + j) = Y j) (ht : kd = 4 → 0 ≤ y ∧ y < 16) : Met l y_M_plainOf (w_M_plainOf) rm_c_plainOf (va_Pc [.ref (b + 236), .int (iI ((kd : Int))), .int (iI (x)), .int (iI (y)), .int (iI (i))] (fun U => ev D ct st ke b U ∧ va_P D vwCl (wl N b u) U.heap)) (va_Qi (fun (r : Int32) (z : Nat → va_E) => r = iI (pof kd ms X Y y i) ∧ u = z) (fun (z : Nat → va_E) t => va_P D vwCl (wl (N) b (z)) t.heap) (AA b)) 0 0 (AA b) := by
  refine M_i (cc := c9_M_plainOf) (maxL := 8) (by decide) rfl (Nat.le_of_ble_eq_true rfl) ?_
  intro p e s m args below meth c Q ls H locs hx hb hml hown hts hnm E hP hS hl ret
  have hl : lv_has ls 8 [(0, .ref (b + 236)), (1, .int (iI ((kd : Int)))), (2, .int (iI (x))), (3, .int (iI (y))), (4, .int (iI (i)))] := hl
  have hK := ev_K E
  have kk0 := hts (.fieldLink "LevelledRingModel" 41 "LevelledRingModel" "plain" "[I") (List.mem_cons_of_mem _ t_505)
  have hinM : ∀ w ∈ u_ws "LevelledRingModel" T_M 19, w ∈ (w_M_plainOf) := hin_M _
  have kk2 := hts (.fieldLink "LevelledRingModel" 29 "LevelledRingModel" "message" "[I") (List.mem_cons_of_mem _ t_500)
  have fr0 : ∀ j : Nat, u j = u j := fun _  => rfl
  refine lv_iload_n hx hb d_M_plainOf_0 rfl (lv_at hl 1 rfl) ?_
  refine x_if_ne (tgt := 12) hx hb ⟨by omega, by omega⟩ d_M_plainOf_1 (by decide) (fun hk0 => ?_) (fun hk0 => ?_)
  · obtain ⟨hx9, pX, eX⟩ := hX (by omega)
    have bX := pX i hi0 hi8
    refine lv_iload_n hx hb d_M_plainOf_12 rfl (lv_at hl 1 rfl) ?_
    refine lv_iconst (v := iI (1)) hx hb d_M_plainOf_13 rfl ?_
    refine x_icmp_ne (tgt := 43) hx hb ⟨by omega, by omega⟩ ⟨by omega, by omega⟩ d_M_plainOf_14 (by decide) (fun hk1 => ?_) (fun hk1 => ?_)
    · refine lv_iload_n hx hb d_M_plainOf_43 rfl (lv_at hl 1 rfl) ?_
      refine lv_iconst (v := iI (2)) hx hb d_M_plainOf_44 rfl ?_
      refine x_icmp_ne (tgt := 74) hx hb ⟨by omega, by omega⟩ ⟨by omega, by omega⟩ d_M_plainOf_45 (by decide) (fun hk2 => ?_) (fun hk2 => ?_)
      · refine lv_iload_n hx hb d_M_plainOf_74 rfl (lv_at hl 1 rfl) ?_
        refine lv_iconst (v := iI (4)) hx hb d_M_plainOf_75 rfl ?_
        refine x_icmp_ne (tgt := 104) hx hb ⟨by omega, by omega⟩ ⟨by omega, by omega⟩ d_M_plainOf_76 (by decide) (fun hk4 => ?_) (fun hk4 => ?_)
        · refine lv_iload_n hx hb d_M_plainOf_104 rfl (lv_at hl 1 rfl) ?_
          refine lv_iconst (v := iI (5)) hx hb d_M_plainOf_105 rfl ?_
          refine x_icmp_ne (tgt := 122) hx hb ⟨by omega, by omega⟩ ⟨by omega, by omega⟩ d_M_plainOf_106 (by decide) (fun hk5 => ?_) (fun hk5 => ?_)
          · obtain ⟨hy9, pY, eY⟩ := hY (by omega) (by omega)
            have bY := pY i hi0 hi8
            refine lv_iconst (v := iI (0)) hx hb d_M_plainOf_122 rfl ?_
            refine lv_istore (lv' := [(5, .int (iI (0))), (0, .ref (b + 236)), (1, .int (iI ((kd : Int)))), (2, .int (iI (x))), (3, .int (iI (y))), (4, .int (iI (i)))]) hx hb d_M_plainOf_123 hl (by decide) rfl (fun ls hl => ?_)
            refine lv_iconst (v := iI (0)) hx hb d_M_plainOf_125 rfl ?_
            refine lv_istore (lv' := [(6, .int (iI (0))), (5, .int (iI (0))), (0, .ref (b + 236)), (1, .int (iI ((kd : Int)))), (2, .int (iI (x))), (3, .int (iI (y))), (4, .int (iI (i)))]) hx hb d_M_plainOf_126 hl (by decide) rfl (fun ls hl => ?_)
            have hl : lv_has ls 8 [(6, .int (iI (0))), (5, .int (iI (sn (nt X Y i) (0 : Int).toNat))), (0, .ref (b + 236)), (1, .int (iI ((kd : Int)))), (2, .int (iI (x))), (3, .int (iI (y))), (4, .int (iI (i)))] := by rw [show sn (nt X Y i) (0 : Int).toNat = 0 from rfl]; exact hl
            have hl : lv_has ls 8 [(6, .int (iI (0))), (5, .int (iI (sn (nt X Y i) (0 : Int).toNat))), (0, .ref (b + 236)), (1, .int (iI ((kd : Int)))), (2, .int (iI (x))), (3, .int (iI (y))), (4, .int (iI (i)))] := lv_sub hl [0, 1, 2, 3, 4, 5, 6] rfl
            have lo : ∀ (d : Nat) (k : Int) (H : Heap) (locs : List Loc) (ls : Array Slot), (0 ≤ k) → (k ≤ 8) → (8 - k < d) → va_P D vwCl (wl N b u) H → va_S (AA b) s.heap H locs → lv_has ls 8 [(6, .int (iI (k))), (5, .int (iI (sn (nt X Y i) k.toNat))), (0, .ref (b + 236)), (1, .int (iI ((kd : Int)))), (2, .int (iI (x))), (3, .int (iI (y))), (4, .int (iI (i)))] → W p l e rm_c_plainOf s m args below meth c H locs 0 0 Q (F0 m 128 ls []) := by
              intro d
              induction d with
              | zero => intro k H locs ls h0 h1 hd hP hS hl; exfalso; omega
              | succ d ihlo =>
                intro k H locs ls h0 h1 hd hP hS hl
                refine lv_iload hx hb d_M_plainOf_128 (lv_at hl 0 rfl) ?_
                refine lv_bipush (v := iI (8)) hx hb d_M_plainOf_130 (by decide +kernel) ?_
                refine x_icmp_ge (tgt := 196) hx hb ⟨by omega, by omega⟩ ⟨by omega, by omega⟩ d_M_plainOf_132 (by decide) (fun hc => ?_) (fun hc => ?_)
                · obtain rfl : k = 8 := by omega
                  refine lv_iload hx hb d_M_plainOf_196 (lv_at hl 1 rfl) ?_
                  refine x_ie (y := pof kd ms X Y y i) (by unfold pof; rw [if_neg (by omega), if_neg (by omega), if_neg (by omega), if_neg (by omega), if_neg (by omega)]; rfl) ?_
                  exact ret _ u H locs 198 ls ⟨rfl, rfl⟩ hP hS d_M_plainOf_198
                · refine lv_aload_n hx hb d_M_plainOf_135 rfl (lv_at hl 2 rfl) ?_
                  refine w_get (C := "LevelledRingModel") (T := T_M) (M := 19) hx hb hts hinM hown hK hP (236) (by omega) hM rfl 12 (by decide) kk0 (fun _ h => h) rfl d_M_plainOf_136 ?_
                  refine lv_bipush (v := iI (8)) hx hb d_M_plainOf_139 (by decide +kernel) ?_
                  refine lv_iload_n hx hb d_M_plainOf_141 rfl (lv_at hl 4 rfl) ?_
                  refine x_imul hx hb d_M_plainOf_142 ?_
                  refine lv_iload hx hb d_M_plainOf_143 (lv_at hl 0 rfl) ?_
                  refine x_iadd hx hb d_M_plainOf_145 ?_
                  refine w_iald hx hb hK hP (247) (by omega) f2 (by omega) (by omega) (by omega) d_M_plainOf_146 ?_
                  refine x_ie (y := X k) (eX k h0 (by omega)) ?_
                  refine lv_aload_n hx hb d_M_plainOf_147 rfl (lv_at hl 2 rfl) ?_
                  refine w_get (C := "LevelledRingModel") (T := T_M) (M := 19) hx hb hts hinM hown hK hP (236) (by omega) hM rfl 12 (by decide) kk0 (fun _ h => h) rfl d_M_plainOf_148 ?_
                  refine lv_bipush (v := iI (8)) hx hb d_M_plainOf_151 (by decide +kernel) ?_
                  refine lv_iload_n hx hb d_M_plainOf_153 rfl (lv_at hl 5 rfl) ?_
                  refine x_imul hx hb d_M_plainOf_154 ?_
                  refine lv_iload hx hb d_M_plainOf_155 (lv_at hl 6 rfl) ?_
                  refine lv_iload hx hb d_M_plainOf_157 (lv_at hl 0 rfl) ?_
                  refine x_isub hx hb d_M_plainOf_159 ?_
                  refine lv_bipush (v := iI (7)) hx hb d_M_plainOf_160 (by decide +kernel) ?_
                  refine lv_iand hx hb d_M_plainOf_162 ?_
                  refine x_i (y := iI ((i - k) % 8)) (iI_and7 _) ?_
                  refine x_iadd hx hb d_M_plainOf_163 ?_
                  refine w_iald hx hb hK hP (247) (by omega) f2 (by omega) (by omega) (by omega) d_M_plainOf_164 ?_
                  refine x_ie (y := Y ((i - k) % 8)) (eY _ (by omega) (by omega)) ?_
                  refine x_imul hx hb d_M_plainOf_165 ?_
                  refine lv_istore (lv' := [(7, .int (iI ((X k) * (Y ((i - k) % 8))))), (6, .int (iI (k))), (5, .int (iI (sn (nt X Y i) k.toNat))), (0, .ref (b + 236)), (1, .int (iI ((kd : Int)))), (2, .int (iI (x))), (3, .int (iI (y))), (4, .int (iI (i)))]) hx hb d_M_plainOf_166 hl (by decide) rfl (fun ls hl => ?_)
                  refine lv_iload hx hb d_M_plainOf_168 (lv_at hl 1 rfl) ?_
                  refine lv_iload hx hb d_M_plainOf_170 (lv_at hl 7 rfl) ?_
                  refine x_icmp_gt (tgt := 183) hx hb ⟨by omega, by omega⟩ ⟨by omega, by omega⟩ d_M_plainOf_172 (by decide) (fun hki => ?_) (fun hki => ?_)
                  · refine lv_iload hx hb d_M_plainOf_183 (lv_at hl 2 rfl) ?_
                    refine lv_iload hx hb d_M_plainOf_185 (lv_at hl 0 rfl) ?_
                    refine x_isub hx hb d_M_plainOf_187 ?_
                    refine x_ie (y := sn (nt X Y i) (k + 1).toNat) (by rw [sn_step _ h0, nt_gt (by omega) (by omega) (by omega)]; omega) ?_
                    refine lv_istore (lv' := [(5, .int (iI (sn (nt X Y i) (k + 1).toNat))), (7, .int (iI ((X k) * (Y ((i - k) % 8))))), (6, .int (iI (k))), (0, .ref (b + 236)), (1, .int (iI ((kd : Int)))), (2, .int (iI (x))), (3, .int (iI (y))), (4, .int (iI (i)))]) hx hb d_M_plainOf_188 hl (by decide) rfl (fun ls hl => ?_)
                    refine lv_iinc (k := 2) (v := iI (k + 1)) (lv' := [(6, .int (iI (k + 1))), (5, .int (iI (sn (nt X Y i) (k + 1).toNat))), (7, .int (iI ((X k) * (Y ((i - k) % 8))))), (0, .ref (b + 236)), (1, .int (iI ((kd : Int)))), (2, .int (iI (x))), (3, .int (iI (y))), (4, .int (iI (i)))]) hx hb d_M_plainOf_190 hl rfl (iI_add _ _) (by decide) rfl (fun ls hl => ?_)
                    refine lv_goto (tgt := 128) hx hb d_M_plainOf_193 (by decide) ?_
                    have hl : lv_has ls 8 [(6, .int (iI (k + 1))), (5, .int (iI (sn (nt X Y i) (k + 1).toNat))), (0, .ref (b + 236)), (1, .int (iI ((kd : Int)))), (2, .int (iI (x))), (3, .int (iI (y))), (4, .int (iI (i)))] := lv_sub hl [0, 1, 3, 4, 5, 6, 7] rfl
                    exact ihlo (k + 1) H locs ls (by omega) (by omega) (by omega) hP hS hl
                  · refine lv_iload hx hb d_M_plainOf_175 (lv_at hl 2 rfl) ?_
                    refine lv_iload hx hb d_M_plainOf_177 (lv_at hl 0 rfl) ?_
                    refine x_iadd hx hb d_M_plainOf_179 ?_
                    refine lv_goto (tgt := 188) hx hb d_M_plainOf_180 (by decide) ?_
                    refine x_ie (y := sn (nt X Y i) (k + 1).toNat) (by rw [sn_step _ h0, nt_le (by omega) (by omega) (by omega)]) ?_
                    refine lv_istore (lv' := [(5, .int (iI (sn (nt X Y i) (k + 1).toNat))), (7, .int (iI ((X k) * (Y ((i - k) % 8))))), (6, .int (iI (k))), (0, .ref (b + 236)), (1, .int (iI ((kd : Int)))), (2, .int (iI (x))), (3, .int (iI (y))), (4, .int (iI (i)))]) hx hb d_M_plainOf_188 hl (by decide) rfl (fun ls hl => ?_)
                    refine lv_iinc (k := 2) (v := iI (k + 1)) (lv' := [(6, .int (iI (k + 1))), (5, .int (iI (sn (nt X Y i) (k + 1).toNat))), (7, .int (iI ((X k) * (Y ((i - k) % 8))))), (0, .ref (b + 236)), (1, .int (iI ((kd : Int)))), (2, .int (iI (x))), (3, .int (iI (y))), (4, .int (iI (i)))]) hx hb d_M_plainOf_190 hl rfl (iI_add _ _) (by decide) rfl (fun ls hl => ?_)
                    refine lv_goto (tgt := 128) hx hb d_M_plainOf_193 (by decide) ?_
                    have hl : lv_has ls 8 [(6, .int (iI (k + 1))), (5, .int (iI (sn (nt X Y i) (k + 1).toNat))), (0, .ref (b + 236)), (1, .int (iI ((kd : Int)))), (2, .int (iI (x))), (3, .int (iI (y))), (4, .int (iI (i)))] := lv_sub hl [0, 1, 3, 4, 5, 6, 7] rfl
                    exact ihlo (k + 1) H locs ls (by omega) (by omega) (by omega) hP hS hl
            exact lo 9 0 H locs ls (by omega) (by omega) (by omega) hP hS hl
          · refine lv_aload_n hx hb d_M_plainOf_109 rfl (lv_at hl 0 rfl) ?_
            refine w_get (C := "LevelledRingModel") (T := T_M) (M := 19) hx hb hts hinM hown hK hP (236) (by omega) hM rfl 12 (by decide) kk0 (fun _ h => h) rfl d_M_plainOf_110 ?_
            refine lv_bipush (v := iI (8)) hx hb d_M_plainOf_113 (by decide +kernel) ?_
            refine lv_iload_n hx hb d_M_plainOf_115 rfl (lv_at hl 2 rfl) ?_
            refine x_imul hx hb d_M_plainOf_116 ?_
            refine lv_iload hx hb d_M_plainOf_117 (lv_at hl 4 rfl) ?_
            refine x_iadd hx hb d_M_plainOf_119 ?_
            refine w_iald hx hb hK hP (247) (by omega) f2 (by omega) (by omega) (by omega) d_M_plainOf_120 ?_
            refine x_ie (y := X i) (eX i hi0 hi8) ?_
            refine x_ie (y := pof kd ms X Y y i) (by unfold pof; rw [if_neg (by omega), if_neg (by omega), if_neg (by omega), if_neg (by omega), if_pos (by omega)]) ?_
            exact ret _ u H locs 121 ls ⟨rfl, rfl⟩ hP hS d_M_plainOf_121
        · have ht9 := ht (by omega)
          refine lv_iload_n hx hb d_M_plainOf_79 rfl (lv_at hl 3 rfl) ?_
          refine lv_iload hx hb d_M_plainOf_80 (lv_at hl 4 rfl) ?_
          refine w_calli (va_runS (As := [.int (iI (y)), .int (iI (i))]) (rest := []) ⟨hx, hb, hml, hown, hts⟩ (c_sign l D ct st ke b N u y i ht9.1 ht9.2 hi0 hi8) (cwS 2 hts (gS t_570 t_571 t_9 t_572) rfl rfl rfl (by decide +kernel) ⟨Nat.le_of_ble_eq_true rfl, Nat.le_of_ble_eq_true rfl⟩) (pre_S E hP hS) rfl rfl hl.1 rfl (lv_room (Nat.le_of_ble_eq_true rfl)) d_M_plainOf_82 ⟨(Nat.le_of_ble_eq_true rfl), (Nat.le_of_ble_eq_true rfl)⟩) hS (fun r2 z1 H locs hz hP hS => ?_)
          obtain ⟨rfl, rfl⟩ := hz
          refine lv_aload_n hx hb d_M_plainOf_85 rfl (lv_at hl 0 rfl) ?_
          refine w_get (C := "LevelledRingModel") (T := T_M) (M := 19) hx hb hts hinM hown hK hP (236) (by omega) hM rfl 12 (by decide) kk0 (fun _ h => h) rfl d_M_plainOf_86 ?_
          refine lv_bipush (v := iI (8)) hx hb d_M_plainOf_89 (by decide +kernel) ?_
          refine lv_iload_n hx hb d_M_plainOf_91 rfl (lv_at hl 2 rfl) ?_
          refine x_imul hx hb d_M_plainOf_92 ?_
          refine lv_iload hx hb d_M_plainOf_93 (lv_at hl 4 rfl) ?_
          refine lv_iload_n hx hb d_M_plainOf_95 rfl (lv_at hl 3 rfl) ?_
          refine x_isub hx hb d_M_plainOf_96 ?_
          refine lv_bipush (v := iI (7)) hx hb d_M_plainOf_97 (by decide +kernel) ?_
          refine lv_iand hx hb d_M_plainOf_99 ?_
          refine x_i (y := iI ((i - y) % 8)) (iI_and7 _) ?_
          refine x_iadd hx hb d_M_plainOf_100 ?_
          refine w_iald hx hb hK hP (247) (by omega) f2 (by omega) (by omega) (by omega) d_M_plainOf_101 ?_
          refine x_ie (y := X ((i - y) % 8)) (eX _ (by omega) (by omega)) ?_
          refine x_imul hx hb d_M_plainOf_102 ?_
          refine x_ie (y := pof kd ms X Y y i) (by unfold pof; rw [if_neg (by omega), if_neg (by omega), if_neg (by omega), if_pos (by omega)]; rfl) ?_
          exact ret _ u H locs 103 ls ⟨rfl, rfl⟩ hP hS d_M_plainOf_103
      · obtain ⟨hy9, pY, eY⟩ := hY (by omega) (by omega)
        have bY := pY i hi0 hi8
        refine lv_aload_n hx hb d_M_plainOf_48 rfl (lv_at hl 0 rfl) ?_
        refine w_get (C := "LevelledRingModel") (T := T_M) (M := 19) hx hb hts hinM hown hK hP (236) (by omega) hM rfl 12 (by decide) kk0 (fun _ h => h) rfl d_M_plainOf_49 ?_
        refine lv_bipush (v := iI (8)) hx hb d_M_plainOf_52 (by decide +kernel) ?_
        refine lv_iload_n hx hb d_M_plainOf_54 rfl (lv_at hl 2 rfl) ?_
        refine x_imul hx hb d_M_plainOf_55 ?_
        refine lv_iload hx hb d_M_plainOf_56 (lv_at hl 4 rfl) ?_
        refine x_iadd hx hb d_M_plainOf_58 ?_
        refine w_iald hx hb hK hP (247) (by omega) f2 (by omega) (by omega) (by omega) d_M_plainOf_59 ?_
        refine x_ie (y := X i) (eX i hi0 hi8) ?_
        refine lv_aload_n hx hb d_M_plainOf_60 rfl (lv_at hl 0 rfl) ?_
        refine w_get (C := "LevelledRingModel") (T := T_M) (M := 19) hx hb hts hinM hown hK hP (236) (by omega) hM rfl 12 (by decide) kk0 (fun _ h => h) rfl d_M_plainOf_61 ?_
        refine lv_bipush (v := iI (8)) hx hb d_M_plainOf_64 (by decide +kernel) ?_
        refine lv_iload_n hx hb d_M_plainOf_66 rfl (lv_at hl 3 rfl) ?_
        refine x_imul hx hb d_M_plainOf_67 ?_
        refine lv_iload hx hb d_M_plainOf_68 (lv_at hl 4 rfl) ?_
        refine x_iadd hx hb d_M_plainOf_70 ?_
        refine w_iald hx hb hK hP (247) (by omega) f2 (by omega) (by omega) (by omega) d_M_plainOf_71 ?_
        refine x_ie (y := Y i) (eY i hi0 hi8) ?_
        refine x_isub hx hb d_M_plainOf_72 ?_
        refine x_ie (y := pof kd ms X Y y i) (by unfold pof; rw [if_neg (by omega), if_neg (by omega), if_pos (by omega)]) ?_
        exact ret _ u H locs 73 ls ⟨rfl, rfl⟩ hP hS d_M_plainOf_73
    · obtain ⟨hy9, pY, eY⟩ := hY (by omega) (by omega)
      have bY := pY i hi0 hi8
      refine lv_aload_n hx hb d_M_plainOf_17 rfl (lv_at hl 0 rfl) ?_
      refine w_get (C := "LevelledRingModel") (T := T_M) (M := 19) hx hb hts hinM hown hK hP (236) (by omega) hM rfl 12 (by decide) kk0 (fun _ h => h) rfl d_M_plainOf_18 ?_
      refine lv_bipush (v := iI (8)) hx hb d_M_plainOf_21 (by decide +kernel) ?_
      refine lv_iload_n hx hb d_M_plainOf_23 rfl (lv_at hl 2 rfl) ?_
      refine x_imul hx hb d_M_plainOf_24 ?_
      refine lv_iload hx hb d_M_plainOf_25 (lv_at hl 4 rfl) ?_
      refine x_iadd hx hb d_M_plainOf_27 ?_
      refine w_iald hx hb hK hP (247) (by omega) f2 (by omega) (by omega) (by omega) d_M_plainOf_28 ?_
      refine x_ie (y := X i) (eX i hi0 hi8) ?_
      refine lv_aload_n hx hb d_M_plainOf_29 rfl (lv_at hl 0 rfl) ?_
      refine w_get (C := "LevelledRingModel") (T := T_M) (M := 19) hx hb hts hinM hown hK hP (236) (by omega) hM rfl 12 (by decide) kk0 (fun _ h => h) rfl d_M_plainOf_30 ?_
      refine lv_bipush (v := iI (8)) hx hb d_M_plainOf_33 (by decide +kernel) ?_
      refine lv_iload_n hx hb d_M_plainOf_35 rfl (lv_at hl 3 rfl) ?_
      refine x_imul hx hb d_M_plainOf_36 ?_
      refine lv_iload hx hb d_M_plainOf_37 (lv_at hl 4 rfl) ?_
      refine x_iadd hx hb d_M_plainOf_39 ?_
      refine w_iald hx hb hK hP (247) (by omega) f2 (by omega) (by omega) (by omega) d_M_plainOf_40 ?_
      refine x_ie (y := Y i) (eY i hi0 hi8) ?_
      refine x_iadd hx hb d_M_plainOf_41 ?_
      refine x_ie (y := pof kd ms X Y y i) (by unfold pof; rw [if_neg (by omega), if_pos (by omega)]) ?_
      exact ret _ u H locs 42 ls ⟨rfl, rfl⟩ hP hS d_M_plainOf_42
  · refine lv_aload_n hx hb d_M_plainOf_4 rfl (lv_at hl 0 rfl) ?_
    refine w_get (C := "LevelledRingModel") (T := T_M) (M := 19) hx hb hts hinM hown hK hP (236) (by omega) hM rfl 7 (by decide) kk2 (fun _ h => h) rfl d_M_plainOf_5 ?_
    refine lv_iload hx hb d_M_plainOf_8 (lv_at hl 4 rfl) ?_
    refine w_iald hx hb hK hP (243) (by omega) f1 (by omega) (by omega) (by omega) d_M_plainOf_10 ?_
    refine x_ie (y := pof kd ms X Y y i) (by unfold pof; rw [if_pos (by omega)]) ?_
    exact ret _ u H locs 11 ls ⟨rfl, rfl⟩ hP hS d_M_plainOf_11
abbrev rm_c_add : Room := { frames := 2, cells := 0, slots := 0, locals := 49 }
set_option maxHeartbeats 4000000 in
set_option maxRecDepth 100000 in
/-- add(kn, x, y) -/
theorem c_add (l : Launch) (D : va_G) (ct : Nat → ClassId) (st ke : Nat → Nat) (b N : Nat) (u : Nat → va_E) (hN : 254 ≤ N) (K : Ky) (okk : okK K) (n v : Nat) (msg : Int → Int) (G : Int → Gt) (V : Int → Val) (hC : MS ct b u K n v msg G V) (hI : PI n v msg G V) (hn : n < 24) (kn : Nat) (h6 : kn < 6) (x y : Int) (hX : 1 ≤ kn → 0 ≤ x ∧ x < n) (hY : 1 ≤ kn → kn ≤ 3 → 0 ≤ y ∧ y < n) (ht : kn = 4 → 0 ≤ y ∧ y < 16) (g : Gt) (g1 : g.1 = kn) (g2 : mfi g = x) (g3 : mse g = y) (g4 : ∀ i : Int, 0 ≤ i → i < 8 → pof kn msg (G x).2.2.2.2 (G y).2.2.2.2 y i % 17 = g.2.2.2.2 i) : Met l y_M_add (w_M_add) rm_c_add (va_Pc [.ref (b + 236), .int (iI ((kn : Int))), .int (iI (x)), .int (iI (y))] (fun U => ev D ct st ke b U ∧ va_P D vwCl (wl N b u) U.heap)) (va_Qi (fun (r : Int32) (z : Nat → va_E) => r = iI (n : Int) ∧ MS ct b z K (n + 1) v msg (addG G n g) V ∧ ∀ j : Nat, j < 236 → z j = u j) (fun (z : Nat → va_E) t => va_P D vwCl (wl (N) b (z)) t.heap) (AA b)) 0 0 (AA b) := by
  refine M_i (cc := c9_M_add) (maxL := 5) (by decide) rfl (Nat.le_of_ble_eq_true rfl) ?_
  intro p e s m args below meth c Q ls H locs hx hb hml hown hts hnm E hP hS hl ret
  have hl : lv_has ls 5 [(0, .ref (b + 236)), (1, .int (iI ((kn : Int)))), (2, .int (iI (x))), (3, .int (iI (y)))] := hl
  have hK := ev_K E
  have kk0 := hts (.fieldLink "LevelledRingModel" 32 "LevelledRingModel" "kind" "[I") (List.mem_cons_of_mem _ t_502)
  have hinM : ∀ w ∈ u_ws "LevelledRingModel" T_M 19, w ∈ (w_M_add) := hin_M _
  have kk2 := hts (.fieldLink "LevelledRingModel" 98 "LevelledRingModel" "count" "I") (List.mem_cons_of_mem _ t_501)
  have kk3 := hts (.fieldLink "LevelledRingModel" 35 "LevelledRingModel" "first" "[I") (List.mem_cons_of_mem _ t_503)
  have kk4 := hts (.fieldLink "LevelledRingModel" 38 "LevelledRingModel" "second" "[I") (List.mem_cons_of_mem _ t_504)
  have kk5 := hts (.fieldLink "LevelledRingModel" 44 "LevelledRingModel" "has" "[Z") (List.mem_cons_of_mem _ t_506)
  have kk6 := hts (.fieldLink "LevelledRingModel" 41 "LevelledRingModel" "plain" "[I") (List.mem_cons_of_mem _ t_505)
  have kk7 := hts (.constantLong "LevelledRingModel" 96 17) (List.mem_cons_of_mem _ t_557)
  have fr0 : ∀ j : Nat, (j < 236) → u j = u j := fun _ _ => rfl
  have hn24 := hI.1
  have hvn := hI.2.1
  have hC9 := hC
  obtain ⟨z0, R, sm, ms, kd, fi, se, pl, hs, lv, mt, wv, wm, vv, hW, hkR, hms, hMG, hMH, hMV⟩ := hC
  obtain ⟨mM, ⟨⟨pr, hp1, hp2⟩, ⟨bg, hb1, hb2⟩, ut, hut1, hut2⟩, ⟨sc, hs1, hs2⟩, m0, m1, m2, m3, m4, m5, m6, m7, m8, m9, m10, m11, m12⟩ := hW
  have hmp := hI.2.2.1
  refine lv_aload_n hx hb d_M_add_0 rfl (lv_at hl 0 rfl) ?_
  refine w_get (C := "LevelledRingModel") (T := T_M) (M := 19) hx hb hts hinM hown hK hP (236) (by omega) mM rfl 9 (by decide) kk0 (fun _ h => h) rfl d_M_add_1 ?_
  refine lv_aload_n hx hb d_M_add_4 rfl (lv_at hl 0 rfl) ?_
  refine w_get (C := "LevelledRingModel") (T := T_M) (M := 19) hx hb hts hinM hown hK hP (236) (by omega) mM rfl 8 (by decide) kk2 (fun _ h => h) rfl d_M_add_5 ?_
  refine lv_iload_n hx hb d_M_add_8 rfl (lv_at hl 1 rfl) ?_
  refine w_iast hx hb hK hP hS (244) (by omega) m3 (by omega) (by omega) (by omega) d_M_add_9 (fun H locs hP hS => ?_)
  obtain ⟨u1, hu2, hP⟩ : ∃ zz : Nat → va_E, zz = va_up u 244 (ir ct 24 (zu kd ((n : Int)) ((kn : Int)))) ∧ va_P D vwCl (wl N b zz) H := ⟨_, rfl, hP⟩
  have ff3 : u1 236 = .inr (6, [.ref (b + 237), .ref (b + 238), .ref (b + 239), .ref (b + 240), .ref (b + 241), .ref (b + 242), .int (z0), .ref (b + 243), .int (iI ((n : Int))), .ref (b + 244), .ref (b + 245), .ref (b + 246), .ref (b + 247), .ref (b + 248), .ref (b + 249), .ref (b + 250), .ref (b + 251), .ref (b + 252), .ref (b + 253)]) := (congrFun hu2 _).trans ((up_n (by omega)).trans mM)
  have ff4 : u1 238 = ir ct 4 (pr) := (congrFun hu2 _).trans ((up_n (by omega)).trans hp1)
  have ff5 : u1 239 = lr ct 4 (bg) := (congrFun hu2 _).trans ((up_n (by omega)).trans hb1)
  have ff6 : u1 240 = lr ct 4 (ut) := (congrFun hu2 _).trans ((up_n (by omega)).trans hut1)
  have ff7 : u1 241 = ir ct 8 (sc) := (congrFun hu2 _).trans ((up_n (by omega)).trans hs1)
  have ff8 : u1 237 = lr ct 512 (R) := (congrFun hu2 _).trans ((up_n (by omega)).trans m0)
  have ff9 : u1 242 = ir ct 8 (sm) := (congrFun hu2 _).trans ((up_n (by omega)).trans m1)
  have ff10 : u1 243 = ir ct 8 (ms) := (congrFun hu2 _).trans ((up_n (by omega)).trans m2)
  have ff11 : u1 244 = ir ct 24 (zu kd ((n : Int)) ((kn : Int))) := (congrFun hu2 _).trans up_s
  have ff12 : u1 245 = ir ct 24 (fi) := (congrFun hu2 _).trans ((up_n (by omega)).trans m4)
  have ff13 : u1 246 = ir ct 24 (se) := (congrFun hu2 _).trans ((up_n (by omega)).trans m5)
  have ff14 : u1 247 = ir ct 192 (pl) := (congrFun hu2 _).trans ((up_n (by omega)).trans m6)
  have ff15 : u1 248 = zr ct 24 (hs) := (congrFun hu2 _).trans ((up_n (by omega)).trans m7)
  have ff16 : u1 249 = ir ct 24 (lv) := (congrFun hu2 _).trans ((up_n (by omega)).trans m8)
  have ff17 : u1 250 = lr ct 24 (mt) := (congrFun hu2 _).trans ((up_n (by omega)).trans m9)
  have ff18 : u1 251 = ir ct 2 (wv) := (congrFun hu2 _).trans ((up_n (by omega)).trans m10)
  have ff19 : u1 252 = lr ct 2 (wm) := (congrFun hu2 _).trans ((up_n (by omega)).trans m11)
  have ff20 : u1 253 = lr ct 8 (vv) := (congrFun hu2 _).trans ((up_n (by omega)).trans m12)
  have fr21 : ∀ j : Nat, (j < 236) → u1 j = u j := fun j h0 => (congrFun hu2 j).trans ((up_n (by omega)).trans (fr0 j h0))
  refine lv_aload_n hx hb d_M_add_10 rfl (lv_at hl 0 rfl) ?_
  refine w_get (C := "LevelledRingModel") (T := T_M) (M := 19) hx hb hts hinM hown hK hP (236) (by omega) ff3 rfl 10 (by decide) kk3 (fun _ h => h) rfl d_M_add_11 ?_
  refine lv_aload_n hx hb d_M_add_14 rfl (lv_at hl 0 rfl) ?_
  refine w_get (C := "LevelledRingModel") (T := T_M) (M := 19) hx hb hts hinM hown hK hP (236) (by omega) ff3 rfl 8 (by decide) kk2 (fun _ h => h) rfl d_M_add_15 ?_
  refine lv_iload_n hx hb d_M_add_18 rfl (lv_at hl 2 rfl) ?_
  refine w_iast hx hb hK hP hS (245) (by omega) ff12 (by omega) (by omega) (by omega) d_M_add_19 (fun H locs hP hS => ?_)
  obtain ⟨u22, hu23, hP⟩ : ∃ zz : Nat → va_E, zz = va_up u1 245 (ir ct 24 (zu fi ((n : Int)) (x))) ∧ va_P D vwCl (wl N b zz) H := ⟨_, rfl, hP⟩
  have ff24 : u22 236 = .inr (6, [.ref (b + 237), .ref (b + 238), .ref (b + 239), .ref (b + 240), .ref (b + 241), .ref (b + 242), .int (z0), .ref (b + 243), .int (iI ((n : Int))), .ref (b + 244), .ref (b + 245), .ref (b + 246), .ref (b + 247), .ref (b + 248), .ref (b + 249), .ref (b + 250), .ref (b + 251), .ref (b + 252), .ref (b + 253)]) := (congrFun hu23 _).trans ((up_n (by omega)).trans ff3)
  have ff25 : u22 238 = ir ct 4 (pr) := (congrFun hu23 _).trans ((up_n (by omega)).trans ff4)
  have ff26 : u22 239 = lr ct 4 (bg) := (congrFun hu23 _).trans ((up_n (by omega)).trans ff5)
  have ff27 : u22 240 = lr ct 4 (ut) := (congrFun hu23 _).trans ((up_n (by omega)).trans ff6)
  have ff28 : u22 241 = ir ct 8 (sc) := (congrFun hu23 _).trans ((up_n (by omega)).trans ff7)
  have ff29 : u22 237 = lr ct 512 (R) := (congrFun hu23 _).trans ((up_n (by omega)).trans ff8)
  have ff30 : u22 242 = ir ct 8 (sm) := (congrFun hu23 _).trans ((up_n (by omega)).trans ff9)
  have ff31 : u22 243 = ir ct 8 (ms) := (congrFun hu23 _).trans ((up_n (by omega)).trans ff10)
  have ff32 : u22 244 = ir ct 24 (zu kd ((n : Int)) ((kn : Int))) := (congrFun hu23 _).trans ((up_n (by omega)).trans ff11)
  have ff33 : u22 245 = ir ct 24 (zu fi ((n : Int)) (x)) := (congrFun hu23 _).trans up_s
  have ff34 : u22 246 = ir ct 24 (se) := (congrFun hu23 _).trans ((up_n (by omega)).trans ff13)
  have ff35 : u22 247 = ir ct 192 (pl) := (congrFun hu23 _).trans ((up_n (by omega)).trans ff14)
  have ff36 : u22 248 = zr ct 24 (hs) := (congrFun hu23 _).trans ((up_n (by omega)).trans ff15)
  have ff37 : u22 249 = ir ct 24 (lv) := (congrFun hu23 _).trans ((up_n (by omega)).trans ff16)
  have ff38 : u22 250 = lr ct 24 (mt) := (congrFun hu23 _).trans ((up_n (by omega)).trans ff17)
  have ff39 : u22 251 = ir ct 2 (wv) := (congrFun hu23 _).trans ((up_n (by omega)).trans ff18)
  have ff40 : u22 252 = lr ct 2 (wm) := (congrFun hu23 _).trans ((up_n (by omega)).trans ff19)
  have ff41 : u22 253 = lr ct 8 (vv) := (congrFun hu23 _).trans ((up_n (by omega)).trans ff20)
  have fr42 : ∀ j : Nat, (j < 236) → u22 j = u j := fun j h0 => (congrFun hu23 j).trans ((up_n (by omega)).trans (fr21 j h0))
  refine lv_aload_n hx hb d_M_add_20 rfl (lv_at hl 0 rfl) ?_
  refine w_get (C := "LevelledRingModel") (T := T_M) (M := 19) hx hb hts hinM hown hK hP (236) (by omega) ff24 rfl 11 (by decide) kk4 (fun _ h => h) rfl d_M_add_21 ?_
  refine lv_aload_n hx hb d_M_add_24 rfl (lv_at hl 0 rfl) ?_
  refine w_get (C := "LevelledRingModel") (T := T_M) (M := 19) hx hb hts hinM hown hK hP (236) (by omega) ff24 rfl 8 (by decide) kk2 (fun _ h => h) rfl d_M_add_25 ?_
  refine lv_iload_n hx hb d_M_add_28 rfl (lv_at hl 3 rfl) ?_
  refine w_iast hx hb hK hP hS (246) (by omega) ff34 (by omega) (by omega) (by omega) d_M_add_29 (fun H locs hP hS => ?_)
  obtain ⟨u43, hu44, hP⟩ : ∃ zz : Nat → va_E, zz = va_up u22 246 (ir ct 24 (zu se ((n : Int)) (y))) ∧ va_P D vwCl (wl N b zz) H := ⟨_, rfl, hP⟩
  have ff45 : u43 236 = .inr (6, [.ref (b + 237), .ref (b + 238), .ref (b + 239), .ref (b + 240), .ref (b + 241), .ref (b + 242), .int (z0), .ref (b + 243), .int (iI ((n : Int))), .ref (b + 244), .ref (b + 245), .ref (b + 246), .ref (b + 247), .ref (b + 248), .ref (b + 249), .ref (b + 250), .ref (b + 251), .ref (b + 252), .ref (b + 253)]) := (congrFun hu44 _).trans ((up_n (by omega)).trans ff24)
  have ff46 : u43 238 = ir ct 4 (pr) := (congrFun hu44 _).trans ((up_n (by omega)).trans ff25)
  have ff47 : u43 239 = lr ct 4 (bg) := (congrFun hu44 _).trans ((up_n (by omega)).trans ff26)
  have ff48 : u43 240 = lr ct 4 (ut) := (congrFun hu44 _).trans ((up_n (by omega)).trans ff27)
  have ff49 : u43 241 = ir ct 8 (sc) := (congrFun hu44 _).trans ((up_n (by omega)).trans ff28)
  have ff50 : u43 237 = lr ct 512 (R) := (congrFun hu44 _).trans ((up_n (by omega)).trans ff29)
  have ff51 : u43 242 = ir ct 8 (sm) := (congrFun hu44 _).trans ((up_n (by omega)).trans ff30)
  have ff52 : u43 243 = ir ct 8 (ms) := (congrFun hu44 _).trans ((up_n (by omega)).trans ff31)
  have ff53 : u43 244 = ir ct 24 (zu kd ((n : Int)) ((kn : Int))) := (congrFun hu44 _).trans ((up_n (by omega)).trans ff32)
  have ff54 : u43 245 = ir ct 24 (zu fi ((n : Int)) (x)) := (congrFun hu44 _).trans ((up_n (by omega)).trans ff33)
  have ff55 : u43 246 = ir ct 24 (zu se ((n : Int)) (y)) := (congrFun hu44 _).trans up_s
  have ff56 : u43 247 = ir ct 192 (pl) := (congrFun hu44 _).trans ((up_n (by omega)).trans ff35)
  have ff57 : u43 248 = zr ct 24 (hs) := (congrFun hu44 _).trans ((up_n (by omega)).trans ff36)
  have ff58 : u43 249 = ir ct 24 (lv) := (congrFun hu44 _).trans ((up_n (by omega)).trans ff37)
  have ff59 : u43 250 = lr ct 24 (mt) := (congrFun hu44 _).trans ((up_n (by omega)).trans ff38)
  have ff60 : u43 251 = ir ct 2 (wv) := (congrFun hu44 _).trans ((up_n (by omega)).trans ff39)
  have ff61 : u43 252 = lr ct 2 (wm) := (congrFun hu44 _).trans ((up_n (by omega)).trans ff40)
  have ff62 : u43 253 = lr ct 8 (vv) := (congrFun hu44 _).trans ((up_n (by omega)).trans ff41)
  have fr63 : ∀ j : Nat, (j < 236) → u43 j = u j := fun j h0 => (congrFun hu44 j).trans ((up_n (by omega)).trans (fr42 j h0))
  refine lv_aload_n hx hb d_M_add_30 rfl (lv_at hl 0 rfl) ?_
  refine w_get (C := "LevelledRingModel") (T := T_M) (M := 19) hx hb hts hinM hown hK hP (236) (by omega) ff45 rfl 13 (by decide) kk5 (fun _ h => h) rfl d_M_add_31 ?_
  refine lv_aload_n hx hb d_M_add_34 rfl (lv_at hl 0 rfl) ?_
  refine w_get (C := "LevelledRingModel") (T := T_M) (M := 19) hx hb hts hinM hown hK hP (236) (by omega) ff45 rfl 8 (by decide) kk2 (fun _ h => h) rfl d_M_add_35 ?_
  refine lv_iconst (v := iI (0)) hx hb d_M_add_38 rfl ?_
  refine w_zast hx hb hK hP hS (248) (by omega) ff57 (by omega) (by omega) (by omega) (by omega) d_M_add_39 (fun H locs hP hS => ?_)
  obtain ⟨u64, hu65, hP⟩ : ∃ zz : Nat → va_E, zz = va_up u43 248 (zr ct 24 (zu hs ((n : Int)) (0))) ∧ va_P D vwCl (wl N b zz) H := ⟨_, rfl, hP⟩
  have ff66 : u64 236 = .inr (6, [.ref (b + 237), .ref (b + 238), .ref (b + 239), .ref (b + 240), .ref (b + 241), .ref (b + 242), .int (z0), .ref (b + 243), .int (iI ((n : Int))), .ref (b + 244), .ref (b + 245), .ref (b + 246), .ref (b + 247), .ref (b + 248), .ref (b + 249), .ref (b + 250), .ref (b + 251), .ref (b + 252), .ref (b + 253)]) := (congrFun hu65 _).trans ((up_n (by omega)).trans ff45)
  have ff67 : u64 238 = ir ct 4 (pr) := (congrFun hu65 _).trans ((up_n (by omega)).trans ff46)
  have ff68 : u64 239 = lr ct 4 (bg) := (congrFun hu65 _).trans ((up_n (by omega)).trans ff47)
  have ff69 : u64 240 = lr ct 4 (ut) := (congrFun hu65 _).trans ((up_n (by omega)).trans ff48)
  have ff70 : u64 241 = ir ct 8 (sc) := (congrFun hu65 _).trans ((up_n (by omega)).trans ff49)
  have ff71 : u64 237 = lr ct 512 (R) := (congrFun hu65 _).trans ((up_n (by omega)).trans ff50)
  have ff72 : u64 242 = ir ct 8 (sm) := (congrFun hu65 _).trans ((up_n (by omega)).trans ff51)
  have ff73 : u64 243 = ir ct 8 (ms) := (congrFun hu65 _).trans ((up_n (by omega)).trans ff52)
  have ff74 : u64 244 = ir ct 24 (zu kd ((n : Int)) ((kn : Int))) := (congrFun hu65 _).trans ((up_n (by omega)).trans ff53)
  have ff75 : u64 245 = ir ct 24 (zu fi ((n : Int)) (x)) := (congrFun hu65 _).trans ((up_n (by omega)).trans ff54)
  have ff76 : u64 246 = ir ct 24 (zu se ((n : Int)) (y)) := (congrFun hu65 _).trans ((up_n (by omega)).trans ff55)
  have ff77 : u64 247 = ir ct 192 (pl) := (congrFun hu65 _).trans ((up_n (by omega)).trans ff56)
  have ff78 : u64 248 = zr ct 24 (zu hs ((n : Int)) (0)) := (congrFun hu65 _).trans up_s
  have ff79 : u64 249 = ir ct 24 (lv) := (congrFun hu65 _).trans ((up_n (by omega)).trans ff58)
  have ff80 : u64 250 = lr ct 24 (mt) := (congrFun hu65 _).trans ((up_n (by omega)).trans ff59)
  have ff81 : u64 251 = ir ct 2 (wv) := (congrFun hu65 _).trans ((up_n (by omega)).trans ff60)
  have ff82 : u64 252 = lr ct 2 (wm) := (congrFun hu65 _).trans ((up_n (by omega)).trans ff61)
  have ff83 : u64 253 = lr ct 8 (vv) := (congrFun hu65 _).trans ((up_n (by omega)).trans ff62)
  have fr84 : ∀ j : Nat, (j < 236) → u64 j = u j := fun j h0 => (congrFun hu65 j).trans ((up_n (by omega)).trans (fr63 j h0))
  refine lv_iconst (v := iI (0)) hx hb d_M_add_40 rfl ?_
  refine lv_istore (lv' := [(4, .int (iI (0))), (0, .ref (b + 236)), (1, .int (iI ((kn : Int)))), (2, .int (iI (x))), (3, .int (iI (y)))]) hx hb d_M_add_41 hl (by decide) rfl (fun ls hl => ?_)
  have fr85 : ∀ j : Nat, (j ≠ 247) → u64 j = u64 j := fun _ _ => rfl
  have lo : ∀ (d : Nat) (i : Int) (pl2 : Int → Int) (w86 : Nat → va_E) (H : Heap) (locs : List Loc) (ls : Array Slot), (0 ≤ i) → (i ≤ 8) → (8 - i < d) → (∀ q : Int, 0 ≤ q → q < i → pl2 (8 * (n : Int) + q) = g.2.2.2.2 q) → (∀ j : Int, j < 8 * (n : Int) → pl2 j = pl j) → w86 247 = ir ct 192 (pl2) → (∀ j : Nat, (j ≠ 247) → w86 j = u64 j) → va_P D vwCl (wl N b w86) H → va_S (AA b) s.heap H locs → lv_has ls 5 [(4, .int (iI (i))), (0, .ref (b + 236)), (1, .int (iI ((kn : Int)))), (2, .int (iI (x))), (3, .int (iI (y)))] → W p l e rm_c_add s m args below meth c H locs 0 0 Q (F0 m 43 ls []) := by
    intro d
    induction d with
    | zero => intro i pl2 w86 H locs ls h0 h1 hd hg hk fg87 fr88 hP hS hl; exfalso; omega
    | succ d ihlo =>
      intro i pl2 w86 H locs ls h0 h1 hd hg hk fg87 fr88 hP hS hl
      have ff89 : w86 236 = .inr (6, [.ref (b + 237), .ref (b + 238), .ref (b + 239), .ref (b + 240), .ref (b + 241), .ref (b + 242), .int (z0), .ref (b + 243), .int (iI ((n : Int))), .ref (b + 244), .ref (b + 245), .ref (b + 246), .ref (b + 247), .ref (b + 248), .ref (b + 249), .ref (b + 250), .ref (b + 251), .ref (b + 252), .ref (b + 253)]) := (fr88 236 (by omega)).trans ff66
      have ff90 : w86 238 = ir ct 4 (pr) := (fr88 238 (by omega)).trans ff67
      have ff91 : w86 239 = lr ct 4 (bg) := (fr88 239 (by omega)).trans ff68
      have ff92 : w86 240 = lr ct 4 (ut) := (fr88 240 (by omega)).trans ff69
      have ff93 : w86 241 = ir ct 8 (sc) := (fr88 241 (by omega)).trans ff70
      have ff94 : w86 237 = lr ct 512 (R) := (fr88 237 (by omega)).trans ff71
      have ff95 : w86 242 = ir ct 8 (sm) := (fr88 242 (by omega)).trans ff72
      have ff96 : w86 243 = ir ct 8 (ms) := (fr88 243 (by omega)).trans ff73
      have ff97 : w86 244 = ir ct 24 (zu kd ((n : Int)) ((kn : Int))) := (fr88 244 (by omega)).trans ff74
      have ff98 : w86 245 = ir ct 24 (zu fi ((n : Int)) (x)) := (fr88 245 (by omega)).trans ff75
      have ff99 : w86 246 = ir ct 24 (zu se ((n : Int)) (y)) := (fr88 246 (by omega)).trans ff76
      have ff100 : w86 248 = zr ct 24 (zu hs ((n : Int)) (0)) := (fr88 248 (by omega)).trans ff78
      have ff101 : w86 249 = ir ct 24 (lv) := (fr88 249 (by omega)).trans ff79
      have ff102 : w86 250 = lr ct 24 (mt) := (fr88 250 (by omega)).trans ff80
      have ff103 : w86 251 = ir ct 2 (wv) := (fr88 251 (by omega)).trans ff81
      have ff104 : w86 252 = lr ct 2 (wm) := (fr88 252 (by omega)).trans ff82
      have ff105 : w86 253 = lr ct 8 (vv) := (fr88 253 (by omega)).trans ff83
      refine lv_iload hx hb d_M_add_43 (lv_at hl 0 rfl) ?_
      refine lv_bipush (v := iI (8)) hx hb d_M_add_45 (by decide +kernel) ?_
      refine x_icmp_ge (tgt := 88) hx hb ⟨by omega, by omega⟩ ⟨by omega, by omega⟩ d_M_add_47 (by decide) (fun hc => ?_) (fun hc => ?_)
      · obtain rfl : i = 8 := by omega
        refine lv_aload_n hx hb d_M_add_88 rfl (lv_at hl 1 rfl) ?_
        refine lv_dup hx hb d_M_add_89 rfl ?_
        refine w_get (C := "LevelledRingModel") (T := T_M) (M := 19) hx hb hts hinM hown hK hP (236) (by omega) ff89 rfl 8 (by decide) kk2 (fun _ h => h) rfl d_M_add_90 ?_
        refine lv_iconst (v := iI (1)) hx hb d_M_add_93 rfl ?_
        refine x_iadd hx hb d_M_add_94 ?_
        refine x_ie (y := ((n + 1 : Nat) : Int)) (by omega) ?_
        have xf106 : ∀ j : Nat, (j ≠ 236) → w86 j = w86 j := fun _ _ => rfl
        refine w_put (C := "LevelledRingModel") (T := T_M) (M := 19) (ty := .int) (v := .int (iI (((n + 1 : Nat) : Int)))) hx hb hts hinM ty_M tyok_M nm_M hown hK hP hS (236) (by omega) ff89 rfl 8 (by decide) kk2 (fun _ h => h) rfl (by decide +kernel) rfl rfl (Nat.le_of_ble_eq_true rfl) d_M_add_95 (fun H locs hP hS => ?_)
        obtain ⟨u107, hu108, hP⟩ : ∃ zz : Nat → va_E, zz = va_up w86 236 (.inr (6, [.ref (b + 237), .ref (b + 238), .ref (b + 239), .ref (b + 240), .ref (b + 241), .ref (b + 242), .int (z0), .ref (b + 243), .int (iI (((n + 1 : Nat) : Int))), .ref (b + 244), .ref (b + 245), .ref (b + 246), .ref (b + 247), .ref (b + 248), .ref (b + 249), .ref (b + 250), .ref (b + 251), .ref (b + 252), .ref (b + 253)])) ∧ va_P D vwCl (wl N b zz) H := ⟨_, rfl, hP⟩
        have ff109 : u107 236 = .inr (6, [.ref (b + 237), .ref (b + 238), .ref (b + 239), .ref (b + 240), .ref (b + 241), .ref (b + 242), .int (z0), .ref (b + 243), .int (iI (((n + 1 : Nat) : Int))), .ref (b + 244), .ref (b + 245), .ref (b + 246), .ref (b + 247), .ref (b + 248), .ref (b + 249), .ref (b + 250), .ref (b + 251), .ref (b + 252), .ref (b + 253)]) := (congrFun hu108 _).trans up_s
        have ff110 : u107 238 = ir ct 4 (pr) := (congrFun hu108 _).trans ((up_n (by omega)).trans ff90)
        have ff111 : u107 239 = lr ct 4 (bg) := (congrFun hu108 _).trans ((up_n (by omega)).trans ff91)
        have ff112 : u107 240 = lr ct 4 (ut) := (congrFun hu108 _).trans ((up_n (by omega)).trans ff92)
        have ff113 : u107 241 = ir ct 8 (sc) := (congrFun hu108 _).trans ((up_n (by omega)).trans ff93)
        have ff114 : u107 237 = lr ct 512 (R) := (congrFun hu108 _).trans ((up_n (by omega)).trans ff94)
        have ff115 : u107 242 = ir ct 8 (sm) := (congrFun hu108 _).trans ((up_n (by omega)).trans ff95)
        have ff116 : u107 243 = ir ct 8 (ms) := (congrFun hu108 _).trans ((up_n (by omega)).trans ff96)
        have ff117 : u107 244 = ir ct 24 (zu kd ((n : Int)) ((kn : Int))) := (congrFun hu108 _).trans ((up_n (by omega)).trans ff97)
        have ff118 : u107 245 = ir ct 24 (zu fi ((n : Int)) (x)) := (congrFun hu108 _).trans ((up_n (by omega)).trans ff98)
        have ff119 : u107 246 = ir ct 24 (zu se ((n : Int)) (y)) := (congrFun hu108 _).trans ((up_n (by omega)).trans ff99)
        have ff120 : u107 248 = zr ct 24 (zu hs ((n : Int)) (0)) := (congrFun hu108 _).trans ((up_n (by omega)).trans ff100)
        have ff121 : u107 249 = ir ct 24 (lv) := (congrFun hu108 _).trans ((up_n (by omega)).trans ff101)
        have ff122 : u107 250 = lr ct 24 (mt) := (congrFun hu108 _).trans ((up_n (by omega)).trans ff102)
        have ff123 : u107 251 = ir ct 2 (wv) := (congrFun hu108 _).trans ((up_n (by omega)).trans ff103)
        have ff124 : u107 252 = lr ct 2 (wm) := (congrFun hu108 _).trans ((up_n (by omega)).trans ff104)
        have ff125 : u107 253 = lr ct 8 (vv) := (congrFun hu108 _).trans ((up_n (by omega)).trans ff105)
        have ff126 : u107 247 = ir ct 192 (pl2) := (congrFun hu108 _).trans ((up_n (by omega)).trans fg87)
        have xf127 : ∀ j : Nat, (j ≠ 236) → u107 j = w86 j := fun j h0 => (congrFun hu108 j).trans ((up_n (by omega)).trans (xf106 j h0))
        refine lv_aload_n hx hb d_M_add_98 rfl (lv_at hl 1 rfl) ?_
        refine w_get (C := "LevelledRingModel") (T := T_M) (M := 19) hx hb hts hinM hown hK hP (236) (by omega) ff109 rfl 8 (by decide) kk2 (fun _ h => h) rfl d_M_add_99 ?_
        refine lv_iconst (v := iI (1)) hx hb d_M_add_102 rfl ?_
        refine x_isub hx hb d_M_add_103 ?_
        refine x_ie (y := (n : Int)) (by omega) ?_
        exact ret _ u107 H locs 104 ls ⟨rfl, MS_add hvn hkR hms hMG hMH hMV ⟨ff109, ⟨⟨pr, ff110, hp2⟩, ⟨bg, ff111, hb2⟩, ut, ff112, hut2⟩, ⟨sc, ff113, hs2⟩, ff114, ff115, ff116, ff117, ff118, ff119, ff126, ff120, ff121, ff122, ff123, ff124, ff125⟩ (by rw [g1]) (by rw [g2]) (by rw [g3]) rfl hk hg, fun j h2 => (xf127 j (by omega)).trans ((fr88 j (by omega)).trans (fr84 j h2))⟩ hP hS d_M_add_104
      · refine lv_aload_n hx hb d_M_add_50 rfl (lv_at hl 1 rfl) ?_
        refine w_get (C := "LevelledRingModel") (T := T_M) (M := 19) hx hb hts hinM hown hK hP (236) (by omega) ff89 rfl 12 (by decide) kk6 (fun _ h => h) rfl d_M_add_51 ?_
        refine lv_bipush (v := iI (8)) hx hb d_M_add_54 (by decide +kernel) ?_
        refine lv_aload_n hx hb d_M_add_56 rfl (lv_at hl 1 rfl) ?_
        refine w_get (C := "LevelledRingModel") (T := T_M) (M := 19) hx hb hts hinM hown hK hP (236) (by omega) ff89 rfl 8 (by decide) kk2 (fun _ h => h) rfl d_M_add_57 ?_
        refine x_imul hx hb d_M_add_60 ?_
        refine lv_iload hx hb d_M_add_61 (lv_at hl 0 rfl) ?_
        refine x_iadd hx hb d_M_add_63 ?_
        refine lv_aload_n hx hb d_M_add_64 rfl (lv_at hl 1 rfl) ?_
        refine lv_iload_n hx hb d_M_add_65 rfl (lv_at hl 2 rfl) ?_
        refine lv_iload_n hx hb d_M_add_66 rfl (lv_at hl 3 rfl) ?_
        refine lv_iload_n hx hb d_M_add_67 rfl (lv_at hl 4 rfl) ?_
        refine lv_iload hx hb d_M_add_68 (lv_at hl 0 rfl) ?_
        refine w_calli (va_runV (As := [.int (iI ((kn : Int))), .int (iI (x)), .int (iI (y)), .int (iI (i))]) (rest := [.int (iI (((8) * ((n : Int))) + (i))), .ref (b + 247)]) ⟨hx, hb, hml, hown, hts⟩ (c_plainOf l D ct st ke b N w86 (by omega) z0 (n : Int) ff89 ms pl2 ff96 fg87 kn h6 x y i h0 (by omega) (G x).2.2.2.2 (G y).2.2.2.2 (fun h3 => ⟨⟨(hX h3).1, by have := (hX h3).2; omega⟩, PI_p17 hI (hX h3).1 (hX h3).2, fun j h4 h5 => (hk _ (by have := (hX h3).2; omega)).trans ((hMG x (hX h3).1 (hX h3).2).2.2.2 j h4 h5)⟩) (fun h3 h9 => ⟨⟨(hY h3 h9).1, by have := (hY h3 h9).2; omega⟩, PI_p17 hI (hY h3 h9).1 (hY h3 h9).2, fun j h4 h5 => (hk _ (by have := (hY h3 h9).2; omega)).trans ((hMG y (hY h3 h9).1 (hY h3 h9).2).2.2.2 j h4 h5)⟩) ht) (cwV 4 hts (gV t_566 t_568 (tb_sel ((y_M_plainOf), 19) (List.mem_of_getElem? (i := 20) (by decide +kernel))) t_9 t_569) rfl rfl rfl (by decide +kernel) ⟨Nat.le_of_ble_eq_true rfl, Nat.le_of_ble_eq_true rfl⟩) (pre_V E hP hS (236) (by omega) ff89 rfl) rfl rfl hl.1 rfl (lv_room (Nat.le_of_ble_eq_true rfl)) d_M_add_70 ⟨(Nat.le_of_ble_eq_true rfl), (Nat.le_of_ble_eq_true rfl)⟩) hS (fun r129 z128 H locs hz hP hS => ?_)
        obtain ⟨rfl, rfl⟩ := hz
        have epf : pof kn ms (G x).2.2.2.2 (G y).2.2.2.2 y i = pof kn msg (G x).2.2.2.2 (G y).2.2.2.2 y i := by unfold pof; rw [hms i h0 (by omega)]
        refine x_ie (y := pof kn msg (G x).2.2.2.2 (G y).2.2.2.2 y i) (epf) ?_
        have bpf := pof_bd (kd := kn) (ms := msg) (X := (G x).2.2.2.2) (Y := (G y).2.2.2.2) (t := y) h6 hmp (fun h => PI_p17 hI (hX h).1 (hX h).2) (fun h h3 => PI_p17 hI (hY h h3).1 (hY h h3).2) h0 (show i < 8 by omega)
        refine x_i2l hx hb ⟨by omega, by omega⟩ d_M_add_73 ?_
        refine lv_ldc2 hx hb hown kk7 d_M_add_74 ?_
        refine x_l (y := lI (17)) (by decide +kernel) ?_
        refine w_calll (va_runS (As := [.long (lI (pof kn msg (G x).2.2.2.2 (G y).2.2.2.2 y i)), .long (lI (17))]) (rest := [.int (iI (((8) * ((n : Int))) + (i))), .ref (b + 247)]) ⟨hx, hb, hml, hown, hts⟩ (c_Mmod l D ct st ke b N w86 (pof kn msg (G x).2.2.2.2 (G y).2.2.2.2 y i) (17) ⟨by omega, by omega⟩ (by decide) (by decide)) (cwS 2 hts (gS t_486 t_487 t_9 t_488) rfl rfl rfl (by decide +kernel) ⟨Nat.le_of_ble_eq_true rfl, Nat.le_of_ble_eq_true rfl⟩) (pre_S E hP hS) rfl rfl hl.1 rfl (lv_room (Nat.le_of_ble_eq_true rfl)) d_M_add_77 ⟨(Nat.le_of_ble_eq_true rfl), (Nat.le_of_ble_eq_true rfl)⟩) hS (fun r131 z130 H locs hz hP hS => ?_)
        obtain ⟨rfl, rfl⟩ := hz
        refine x_le (y := g.2.2.2.2 i) (g4 i h0 (by omega)) ?_
        refine x_l2i hx hb d_M_add_80 ?_
        refine w_iast hx hb hK hP hS (247) (by omega) fg87 (by omega) (by omega) (by omega) d_M_add_81 (fun H locs hP hS => ?_)
        obtain ⟨u132, hu133, hP⟩ : ∃ zz : Nat → va_E, zz = va_up w86 247 (ir ct 192 (zu pl2 (((8) * ((n : Int))) + (i)) (g.2.2.2.2 i))) ∧ va_P D vwCl (wl N b zz) H := ⟨_, rfl, hP⟩
        have ff134 : u132 236 = .inr (6, [.ref (b + 237), .ref (b + 238), .ref (b + 239), .ref (b + 240), .ref (b + 241), .ref (b + 242), .int (z0), .ref (b + 243), .int (iI ((n : Int))), .ref (b + 244), .ref (b + 245), .ref (b + 246), .ref (b + 247), .ref (b + 248), .ref (b + 249), .ref (b + 250), .ref (b + 251), .ref (b + 252), .ref (b + 253)]) := (congrFun hu133 _).trans ((up_n (by omega)).trans ff89)
        have ff135 : u132 238 = ir ct 4 (pr) := (congrFun hu133 _).trans ((up_n (by omega)).trans ff90)
        have ff136 : u132 239 = lr ct 4 (bg) := (congrFun hu133 _).trans ((up_n (by omega)).trans ff91)
        have ff137 : u132 240 = lr ct 4 (ut) := (congrFun hu133 _).trans ((up_n (by omega)).trans ff92)
        have ff138 : u132 241 = ir ct 8 (sc) := (congrFun hu133 _).trans ((up_n (by omega)).trans ff93)
        have ff139 : u132 237 = lr ct 512 (R) := (congrFun hu133 _).trans ((up_n (by omega)).trans ff94)
        have ff140 : u132 242 = ir ct 8 (sm) := (congrFun hu133 _).trans ((up_n (by omega)).trans ff95)
        have ff141 : u132 243 = ir ct 8 (ms) := (congrFun hu133 _).trans ((up_n (by omega)).trans ff96)
        have ff142 : u132 244 = ir ct 24 (zu kd ((n : Int)) ((kn : Int))) := (congrFun hu133 _).trans ((up_n (by omega)).trans ff97)
        have ff143 : u132 245 = ir ct 24 (zu fi ((n : Int)) (x)) := (congrFun hu133 _).trans ((up_n (by omega)).trans ff98)
        have ff144 : u132 246 = ir ct 24 (zu se ((n : Int)) (y)) := (congrFun hu133 _).trans ((up_n (by omega)).trans ff99)
        have ff145 : u132 248 = zr ct 24 (zu hs ((n : Int)) (0)) := (congrFun hu133 _).trans ((up_n (by omega)).trans ff100)
        have ff146 : u132 249 = ir ct 24 (lv) := (congrFun hu133 _).trans ((up_n (by omega)).trans ff101)
        have ff147 : u132 250 = lr ct 24 (mt) := (congrFun hu133 _).trans ((up_n (by omega)).trans ff102)
        have ff148 : u132 251 = ir ct 2 (wv) := (congrFun hu133 _).trans ((up_n (by omega)).trans ff103)
        have ff149 : u132 252 = lr ct 2 (wm) := (congrFun hu133 _).trans ((up_n (by omega)).trans ff104)
        have ff150 : u132 253 = lr ct 8 (vv) := (congrFun hu133 _).trans ((up_n (by omega)).trans ff105)
        have ff151 : u132 247 = ir ct 192 (zu pl2 (((8) * ((n : Int))) + (i)) (g.2.2.2.2 i)) := (congrFun hu133 _).trans up_s
        have fr152 : ∀ j : Nat, (j ≠ 247) → u132 j = u64 j := fun j h0 => (congrFun hu133 j).trans ((up_n (by omega)).trans (fr88 j h0))
        refine lv_iinc (k := 0) (v := iI (i + 1)) (lv' := [(4, .int (iI (i + 1))), (0, .ref (b + 236)), (1, .int (iI ((kn : Int)))), (2, .int (iI (x))), (3, .int (iI (y)))]) hx hb d_M_add_82 hl rfl (iI_add _ _) (by decide) rfl (fun ls hl => ?_)
        refine lv_goto (tgt := 43) hx hb d_M_add_85 (by decide) ?_
        have hl : lv_has ls 5 [(4, .int (iI (i + 1))), (0, .ref (b + 236)), (1, .int (iI ((kn : Int)))), (2, .int (iI (x))), (3, .int (iI (y)))] := lv_sub hl [0, 1, 2, 3, 4] rfl
        refine ihlo (i + 1) _ u132 H locs ls (by omega) (by omega) (by omega) (fun q h2 h3 => ?_) (fun j h2 => by rw [zu_n (by omega)]; exact hk j h2) ff151 fr152 hP hS hl
        by_cases h4 : q = i
        · rw [h4, zu_s]
        · rw [zu_n (by omega)]; exact hg q h2 (by omega)
  exact lo 9 0 pl u64 H locs ls (by omega) (by omega) (by omega) (fun q h2 h3 => by omega) (fun _ _ => rfl) ff77 fr85 hP hS hl
abbrev rm_c_Minput : Room := { frames := 3, cells := 0, slots := 0, locals := 73 }
set_option maxHeartbeats 4000000 in
set_option maxRecDepth 100000 in
/-- input(t) -/
theorem c_Minput (l : Launch) (D : va_G) (ct : Nat → ClassId) (st ke : Nat → Nat) (b N : Nat) (u : Nat → va_E) (hN : 254 ≤ N) (K : Ky) (okk : okK K) (n v : Nat) (msg : Int → Int) (G : Int → Gt) (V : Int → Val) (hC : MS ct b u K n v msg G V) (hI : PI n v msg G V) (t : Int) : Met l y_M_input (w_M_input) rm_c_Minput (va_Pc [.ref (b + 236), .int (iI (t))] (fun U => ev D ct st ke b U ∧ va_P D vwCl (wl N b u) U.heap)) (va_Qi (fun (r : Int32) (z : Nat → va_E) => (n < 24 ∧ r = iI (n : Int) ∧ MS ct b z K (n + 1) v msg (addG G n (0, -1, -1, t, msg)) V ∧ ∀ j : Nat, j < 236 → z j = u j) ∨ (¬ n < 24 ∧ r = iI (-1) ∧ u = z)) (fun (z : Nat → va_E) t => va_P D vwCl (wl (N) b (z)) t.heap) (AA b)) 0 0 (AA b) := by
  refine M_i (cc := c9_M_input) (maxL := 2) (by decide) rfl (Nat.le_of_ble_eq_true rfl) ?_
  intro p e s m args below meth c Q ls H locs hx hb hml hown hts hnm E hP hS hl ret
  have hl : lv_has ls 2 [(0, .ref (b + 236)), (1, .int (iI (t)))] := hl
  have hK := ev_K E
  have kk0 := hts (.fieldLink "LevelledRingModel" 98 "LevelledRingModel" "count" "I") (List.mem_cons_of_mem _ t_501)
  have hinM : ∀ w ∈ u_ws "LevelledRingModel" T_M 19, w ∈ (w_M_input) := hin_M _
  have fr0 : ∀ j : Nat, (j < 236) → u j = u j := fun _ _ => rfl
  have hn24 := hI.1
  have hvn := hI.2.1
  have hC9 := hC
  obtain ⟨z0, R, sm, ms, kd, fi, se, pl, hs, lv, mt, wv, wm, vv, hW, hkR, hms, hMG, hMH, hMV⟩ := hC
  obtain ⟨mM, ⟨⟨pr, hp1, hp2⟩, ⟨bg, hb1, hb2⟩, ut, hut1, hut2⟩, ⟨sc, hs1, hs2⟩, m0, m1, m2, m3, m4, m5, m6, m7, m8, m9, m10, m11, m12⟩ := hW
  have hmp := hI.2.2.1
  refine lv_aload_n hx hb d_M_input_0 rfl (lv_at hl 0 rfl) ?_
  refine w_get (C := "LevelledRingModel") (T := T_M) (M := 19) hx hb hts hinM hown hK hP (236) (by omega) mM rfl 8 (by decide) kk0 (fun _ h => h) rfl d_M_input_1 ?_
  refine lv_bipush (v := iI (24)) hx hb d_M_input_4 (by decide +kernel) ?_
  refine x_icmp_ne (tgt := 13) hx hb ⟨by omega, by omega⟩ ⟨by omega, by omega⟩ d_M_input_6 (by decide) (fun hc => ?_) (fun hc => ?_)
  · refine lv_aload_n hx hb d_M_input_13 rfl (lv_at hl 0 rfl) ?_
    refine lv_iconst (v := iI (0)) hx hb d_M_input_14 rfl ?_
    refine lv_iload_n hx hb d_M_input_15 rfl (lv_at hl 1 rfl) ?_
    refine lv_iconst (v := iI (0)) hx hb d_M_input_16 rfl ?_
    refine w_calli (va_runV (As := [.int (iI (0)), .int (iI (t)), .int (iI (0))]) (rest := []) ⟨hx, hb, hml, hown, hts⟩ (c_add l D ct st ke b N u (by omega) K okk n v msg G V hC9 hI (by omega) 0 (by decide) t 0 (fun h => by omega) (fun h => by omega) (fun h => by omega) (0, -1, -1, t, msg) rfl rfl rfl (fun i h0 h8 => pof_0 hmp h0 h8)) (cwV 3 hts (gV t_562 t_564 (tb_sel ((y_M_add), 19) (List.mem_of_getElem? (i := 19) (by decide +kernel))) t_9 t_565) rfl rfl rfl (by decide +kernel) ⟨Nat.le_of_ble_eq_true rfl, Nat.le_of_ble_eq_true rfl⟩) (pre_V E hP hS (236) (by omega) mM rfl) rfl rfl hl.1 rfl (lv_room (Nat.le_of_ble_eq_true rfl)) d_M_input_17 ⟨(Nat.le_of_ble_eq_true rfl), (Nat.le_of_ble_eq_true rfl)⟩) hS (fun r z1 H locs hz hP hS => ?_)
    exact ret r z1 H locs 20 ls (Or.inl ⟨by omega, hz⟩) hP hS d_M_input_20
  · refine lv_iconst (v := iI (-1)) hx hb d_M_input_9 rfl ?_
    refine lv_goto (tgt := 20) hx hb d_M_input_10 (by decide) ?_
    exact ret _ u H locs 20 ls (Or.inr ⟨by omega, rfl, rfl⟩) hP hS d_M_input_20
abbrev rm_c_pair : Room := { frames := 3, cells := 0, slots := 0, locals := 73 }
set_option maxHeartbeats 4000000 in
set_option maxRecDepth 100000 in
/-- pair(kn, x, y) -/
theorem c_pair (l : Launch) (D : va_G) (ct : Nat → ClassId) (st ke : Nat → Nat) (b N : Nat) (u : Nat → va_E) (hN : 254 ≤ N) (K : Ky) (okk : okK K) (n v : Nat) (msg : Int → Int) (G : Int → Gt) (V : Int → Val) (hC : MS ct b u K n v msg G V) (hI : PI n v msg G V) (kn : Nat) (hk1 : 1 ≤ kn) (hk3 : kn ≤ 3) (x y : Int) (hx0 : r32 x) (hy0 : r32 y) : Met l y_M_pair (w_M_pair) rm_c_pair (va_Pc [.ref (b + 236), .int (iI ((kn : Int))), .int (iI (x)), .int (iI (y))] (fun U => ev D ct st ke b U ∧ va_P D vwCl (wl N b u) U.heap)) (va_Qi (fun (r : Int32) (z : Nat → va_E) => (canA n x y ∧ r = iI (n : Int) ∧ MS ct b z K (n + 1) v msg (addG G n (kn, x, y, 0, gpl kn (G x).2.2.2.2 (G y).2.2.2.2 0)) V ∧ ∀ j : Nat, j < 236 → z j = u j) ∨ (¬ canA n x y ∧ r = iI (-1) ∧ u = z)) (fun (z : Nat → va_E) t => va_P D vwCl (wl (N) b (z)) t.heap) (AA b)) 0 0 (AA b) := by
  refine M_i (cc := c9_M_pair) (maxL := 4) (by decide) rfl (Nat.le_of_ble_eq_true rfl) ?_
  intro p e s m args below meth c Q ls H locs hx hb hml hown hts hnm E hP hS hl ret
  have hl : lv_has ls 4 [(0, .ref (b + 236)), (1, .int (iI ((kn : Int)))), (2, .int (iI (x))), (3, .int (iI (y)))] := hl
  have hK := ev_K E
  have kk0 := hts (.fieldLink "LevelledRingModel" 98 "LevelledRingModel" "count" "I") (List.mem_cons_of_mem _ t_501)
  have hinM : ∀ w ∈ u_ws "LevelledRingModel" T_M 19, w ∈ (w_M_pair) := hin_M _
  have fr0 : ∀ j : Nat, (j < 236) → u j = u j := fun _ _ => rfl
  have hn24 := hI.1
  have hvn := hI.2.1
  have hC9 := hC
  obtain ⟨z0, R, sm, ms, kd, fi, se, pl, hs, lv, mt, wv, wm, vv, hW, hkR, hms, hMG, hMH, hMV⟩ := hC
  obtain ⟨mM, ⟨⟨pr, hp1, hp2⟩, ⟨bg, hb1, hb2⟩, ut, hut1, hut2⟩, ⟨sc, hs1, hs2⟩, m0, m1, m2, m3, m4, m5, m6, m7, m8, m9, m10, m11, m12⟩ := hW
  refine lv_aload_n hx hb d_M_pair_0 rfl (lv_at hl 0 rfl) ?_
  refine lv_iload_n hx hb d_M_pair_1 rfl (lv_at hl 2 rfl) ?_
  refine w_calli (va_runV (As := [.int (iI (x))]) (rest := []) ⟨hx, hb, hml, hown, hts⟩ (c_MisGate l D ct st ke b N u (by omega) z0 n hn24 mM (x) hx0) (cwV 1 hts (gV t_581 t_583 (tb_sel ((y_M_isGate), 19) (List.mem_of_getElem? (i := 22) (by decide +kernel))) t_9 t_584) rfl rfl rfl (by decide +kernel) ⟨Nat.le_of_ble_eq_true rfl, Nat.le_of_ble_eq_true rfl⟩) (pre_V E hP hS (236) (by omega) mM rfl) rfl rfl hl.1 rfl (lv_room (Nat.le_of_ble_eq_true rfl)) d_M_pair_2 ⟨(Nat.le_of_ble_eq_true rfl), (Nat.le_of_ble_eq_true rfl)⟩) hS (fun r2 z1 H locs hz hP hS => ?_)
  obtain ⟨rfl, rfl⟩ := hz
  have hi01 := inb_01 (x) (n : Int)
  refine x_if_eq (tgt := 25) hx hb ⟨by omega, by omega⟩ d_M_pair_5 (by decide) (fun hc => ?_) (fun hc => ?_)
  · refine lv_iconst (v := iI (-1)) hx hb d_M_pair_25 rfl ?_
    refine lv_goto (tgt := 36) hx hb d_M_pair_26 (by decide) ?_
    exact ret _ u H locs 36 ls (Or.inr ⟨fun h => inb_z hc h.1, rfl, rfl⟩) hP hS d_M_pair_36
  · have hxv := inb_n hc
    refine lv_aload_n hx hb d_M_pair_8 rfl (lv_at hl 0 rfl) ?_
    refine lv_iload_n hx hb d_M_pair_9 rfl (lv_at hl 3 rfl) ?_
    refine w_calli (va_runV (As := [.int (iI (y))]) (rest := []) ⟨hx, hb, hml, hown, hts⟩ (c_MisGate l D ct st ke b N u (by omega) z0 n hn24 mM (y) hy0) (cwV 1 hts (gV t_581 t_583 (tb_sel ((y_M_isGate), 19) (List.mem_of_getElem? (i := 22) (by decide +kernel))) t_9 t_584) rfl rfl rfl (by decide +kernel) ⟨Nat.le_of_ble_eq_true rfl, Nat.le_of_ble_eq_true rfl⟩) (pre_V E hP hS (236) (by omega) mM rfl) rfl rfl hl.1 rfl (lv_room (Nat.le_of_ble_eq_true rfl)) d_M_pair_10 ⟨(Nat.le_of_ble_eq_true rfl), (Nat.le_of_ble_eq_true rfl)⟩) hS (fun r4 z3 H locs hz hP hS => ?_)
    obtain ⟨rfl, rfl⟩ := hz
    have hi01 := inb_01 (y) (n : Int)
    refine x_if_eq (tgt := 25) hx hb ⟨by omega, by omega⟩ d_M_pair_13 (by decide) (fun hc => ?_) (fun hc => ?_)
    · refine lv_iconst (v := iI (-1)) hx hb d_M_pair_25 rfl ?_
      refine lv_goto (tgt := 36) hx hb d_M_pair_26 (by decide) ?_
      exact ret _ u H locs 36 ls (Or.inr ⟨fun h => inb_z hc h.2.1, rfl, rfl⟩) hP hS d_M_pair_36
    · have hyv := inb_n hc
      refine lv_aload_n hx hb d_M_pair_16 rfl (lv_at hl 0 rfl) ?_
      refine w_get (C := "LevelledRingModel") (T := T_M) (M := 19) hx hb hts hinM hown hK hP (236) (by omega) mM rfl 8 (by decide) kk0 (fun _ h => h) rfl d_M_pair_17 ?_
      refine lv_bipush (v := iI (24)) hx hb d_M_pair_20 (by decide +kernel) ?_
      refine x_icmp_ne (tgt := 29) hx hb ⟨by omega, by omega⟩ ⟨by omega, by omega⟩ d_M_pair_22 (by decide) (fun hd => ?_) (fun hd => ?_)
      · refine lv_aload_n hx hb d_M_pair_29 rfl (lv_at hl 0 rfl) ?_
        refine lv_iload_n hx hb d_M_pair_30 rfl (lv_at hl 1 rfl) ?_
        refine lv_iload_n hx hb d_M_pair_31 rfl (lv_at hl 2 rfl) ?_
        refine lv_iload_n hx hb d_M_pair_32 rfl (lv_at hl 3 rfl) ?_
        have hpx := PI_p17 hI hxv.1 hxv.2
        refine w_calli (va_runV (As := [.int (iI ((kn : Int))), .int (iI (x)), .int (iI (y))]) (rest := []) ⟨hx, hb, hml, hown, hts⟩ (c_add l D ct st ke b N u (by omega) K okk n v msg G V hC9 hI (by omega) kn (by omega) x y (fun _ => hxv) (fun _ _ => hyv) (fun h => by omega) (kn, x, y, 0, gpl kn (G x).2.2.2.2 (G y).2.2.2.2 0) rfl (by unfold mfi; rw [if_neg (show ¬ kn = 0 by omega)]) (by unfold mse; rw [if_neg (show ¬ kn = 0 by omega), if_neg (show ¬ kn = 4 by omega), if_neg (show ¬ kn = 5 by omega)]) (fun i h0 h8 => (pof_gpl (t := y) hk1 (by omega) hpx h0 h8).trans (gpl_t hk3))) (cwV 3 hts (gV t_562 t_564 (tb_sel ((y_M_add), 19) (List.mem_of_getElem? (i := 19) (by decide +kernel))) t_9 t_565) rfl rfl rfl (by decide +kernel) ⟨Nat.le_of_ble_eq_true rfl, Nat.le_of_ble_eq_true rfl⟩) (pre_V E hP hS (236) (by omega) mM rfl) rfl rfl hl.1 rfl (lv_room (Nat.le_of_ble_eq_true rfl)) d_M_pair_33 ⟨(Nat.le_of_ble_eq_true rfl), (Nat.le_of_ble_eq_true rfl)⟩) hS (fun r z5 H locs hz hP hS => ?_)
        exact ret r z5 H locs 36 ls (Or.inl ⟨⟨hxv, hyv, by omega⟩, hz⟩) hP hS d_M_pair_36
      · refine lv_iconst (v := iI (-1)) hx hb d_M_pair_25 rfl ?_
        refine lv_goto (tgt := 36) hx hb d_M_pair_26 (by decide) ?_
        exact ret _ u H locs 36 ls (Or.inr ⟨fun h => by have := h.2.2; omega, rfl, rfl⟩) hP hS d_M_pair_36
abbrev rm_c_Msum : Room := { frames := 4, cells := 0, slots := 0, locals := 96 }
set_option maxHeartbeats 4000000 in
set_option maxRecDepth 100000 in
/-- sum(x, y) -/
theorem c_Msum (l : Launch) (D : va_G) (ct : Nat → ClassId) (st ke : Nat → Nat) (b N : Nat) (u : Nat → va_E) (hN : 254 ≤ N) (K : Ky) (okk : okK K) (n v : Nat) (msg : Int → Int) (G : Int → Gt) (V : Int → Val) (hC : MS ct b u K n v msg G V) (hI : PI n v msg G V) (x y : Int) (hx0 : r32 x) (hy0 : r32 y) : Met l y_M_sum (w_M_sum) rm_c_Msum (va_Pc [.ref (b + 236), .int (iI (x)), .int (iI (y))] (fun U => ev D ct st ke b U ∧ va_P D vwCl (wl N b u) U.heap)) (va_Qi (fun (r : Int32) (z : Nat → va_E) => (canA n x y ∧ r = iI (n : Int) ∧ MS ct b z K (n + 1) v msg (addG G n (1, x, y, 0, gpl 1 (G x).2.2.2.2 (G y).2.2.2.2 0)) V ∧ ∀ j : Nat, j < 236 → z j = u j) ∨ (¬ canA n x y ∧ r = iI (-1) ∧ u = z)) (fun (z : Nat → va_E) t => va_P D vwCl (wl (N) b (z)) t.heap) (AA b)) 0 0 (AA b) := by
  refine M_i (cc := c9_M_sum) (maxL := 3) (by decide) rfl (Nat.le_of_ble_eq_true rfl) ?_
  intro p e s m args below meth c Q ls H locs hx hb hml hown hts hnm E hP hS hl ret
  have hl : lv_has ls 3 [(0, .ref (b + 236)), (1, .int (iI (x))), (2, .int (iI (y)))] := hl
  have hK := ev_K E
  have hn24 := hI.1
  have hvn := hI.2.1
  have hC9 := hC
  obtain ⟨z0, R, sm, ms, kd, fi, se, pl, hs, lv, mt, wv, wm, vv, hW, hkR, hms, hMG, hMH, hMV⟩ := hC
  obtain ⟨mM, ⟨⟨pr, hp1, hp2⟩, ⟨bg, hb1, hb2⟩, ut, hut1, hut2⟩, ⟨sc, hs1, hs2⟩, m0, m1, m2, m3, m4, m5, m6, m7, m8, m9, m10, m11, m12⟩ := hW
  refine lv_aload_n hx hb d_M_sum_0 rfl (lv_at hl 0 rfl) ?_
  refine lv_iconst (v := iI (1)) hx hb d_M_sum_1 rfl ?_
  refine lv_iload_n hx hb d_M_sum_2 rfl (lv_at hl 1 rfl) ?_
  refine lv_iload_n hx hb d_M_sum_3 rfl (lv_at hl 2 rfl) ?_
  refine w_calli (va_runV (As := [.int (iI (1)), .int (iI (x)), .int (iI (y))]) (rest := []) ⟨hx, hb, hml, hown, hts⟩ (c_pair l D ct st ke b N u (by omega) K okk n v msg G V hC9 hI 1 (by decide) (by decide) x y hx0 hy0) (cwV 3 hts (gV t_577 t_579 (tb_sel ((y_M_pair), 19) (List.mem_of_getElem? (i := 21) (by decide +kernel))) t_9 t_580) rfl rfl rfl (by decide +kernel) ⟨Nat.le_of_ble_eq_true rfl, Nat.le_of_ble_eq_true rfl⟩) (pre_V E hP hS (236) (by omega) mM rfl) rfl rfl hl.1 rfl (lv_room (Nat.le_of_ble_eq_true rfl)) d_M_sum_4 ⟨(Nat.le_of_ble_eq_true rfl), (Nat.le_of_ble_eq_true rfl)⟩) hS (fun r z1 H locs hz hP hS => ?_)
  exact ret r z1 H locs 7 ls hz hP hS d_M_sum_7
abbrev rm_c_Mdifference : Room := { frames := 4, cells := 0, slots := 0, locals := 96 }
set_option maxHeartbeats 4000000 in
set_option maxRecDepth 100000 in
/-- difference(x, y) -/
theorem c_Mdifference (l : Launch) (D : va_G) (ct : Nat → ClassId) (st ke : Nat → Nat) (b N : Nat) (u : Nat → va_E) (hN : 254 ≤ N) (K : Ky) (okk : okK K) (n v : Nat) (msg : Int → Int) (G : Int → Gt) (V : Int → Val) (hC : MS ct b u K n v msg G V) (hI : PI n v msg G V) (x y : Int) (hx0 : r32 x) (hy0 : r32 y) : Met l y_M_difference (w_M_difference) rm_c_Mdifference (va_Pc [.ref (b + 236), .int (iI (x)), .int (iI (y))] (fun U => ev D ct st ke b U ∧ va_P D vwCl (wl N b u) U.heap)) (va_Qi (fun (r : Int32) (z : Nat → va_E) => (canA n x y ∧ r = iI (n : Int) ∧ MS ct b z K (n + 1) v msg (addG G n (2, x, y, 0, gpl 2 (G x).2.2.2.2 (G y).2.2.2.2 0)) V ∧ ∀ j : Nat, j < 236 → z j = u j) ∨ (¬ canA n x y ∧ r = iI (-1) ∧ u = z)) (fun (z : Nat → va_E) t => va_P D vwCl (wl (N) b (z)) t.heap) (AA b)) 0 0 (AA b) := by
  refine M_i (cc := c9_M_difference) (maxL := 3) (by decide) rfl (Nat.le_of_ble_eq_true rfl) ?_
  intro p e s m args below meth c Q ls H locs hx hb hml hown hts hnm E hP hS hl ret
  have hl : lv_has ls 3 [(0, .ref (b + 236)), (1, .int (iI (x))), (2, .int (iI (y)))] := hl
  have hK := ev_K E
  have hn24 := hI.1
  have hvn := hI.2.1
  have hC9 := hC
  obtain ⟨z0, R, sm, ms, kd, fi, se, pl, hs, lv, mt, wv, wm, vv, hW, hkR, hms, hMG, hMH, hMV⟩ := hC
  obtain ⟨mM, ⟨⟨pr, hp1, hp2⟩, ⟨bg, hb1, hb2⟩, ut, hut1, hut2⟩, ⟨sc, hs1, hs2⟩, m0, m1, m2, m3, m4, m5, m6, m7, m8, m9, m10, m11, m12⟩ := hW
  refine lv_aload_n hx hb d_M_difference_0 rfl (lv_at hl 0 rfl) ?_
  refine lv_iconst (v := iI (2)) hx hb d_M_difference_1 rfl ?_
  refine lv_iload_n hx hb d_M_difference_2 rfl (lv_at hl 1 rfl) ?_
  refine lv_iload_n hx hb d_M_difference_3 rfl (lv_at hl 2 rfl) ?_
  refine w_calli (va_runV (As := [.int (iI (2)), .int (iI (x)), .int (iI (y))]) (rest := []) ⟨hx, hb, hml, hown, hts⟩ (c_pair l D ct st ke b N u (by omega) K okk n v msg G V hC9 hI 2 (by decide) (by decide) x y hx0 hy0) (cwV 3 hts (gV t_577 t_579 (tb_sel ((y_M_pair), 19) (List.mem_of_getElem? (i := 21) (by decide +kernel))) t_9 t_580) rfl rfl rfl (by decide +kernel) ⟨Nat.le_of_ble_eq_true rfl, Nat.le_of_ble_eq_true rfl⟩) (pre_V E hP hS (236) (by omega) mM rfl) rfl rfl hl.1 rfl (lv_room (Nat.le_of_ble_eq_true rfl)) d_M_difference_4 ⟨(Nat.le_of_ble_eq_true rfl), (Nat.le_of_ble_eq_true rfl)⟩) hS (fun r z1 H locs hz hP hS => ?_)
  exact ret r z1 H locs 7 ls hz hP hS d_M_difference_7
abbrev rm_c_Mproduct : Room := { frames := 4, cells := 0, slots := 0, locals := 96 }
set_option maxHeartbeats 4000000 in
set_option maxRecDepth 100000 in
/-- product(x, y) -/
theorem c_Mproduct (l : Launch) (D : va_G) (ct : Nat → ClassId) (st ke : Nat → Nat) (b N : Nat) (u : Nat → va_E) (hN : 254 ≤ N) (K : Ky) (okk : okK K) (n v : Nat) (msg : Int → Int) (G : Int → Gt) (V : Int → Val) (hC : MS ct b u K n v msg G V) (hI : PI n v msg G V) (x y : Int) (hx0 : r32 x) (hy0 : r32 y) : Met l y_M_product (w_M_product) rm_c_Mproduct (va_Pc [.ref (b + 236), .int (iI (x)), .int (iI (y))] (fun U => ev D ct st ke b U ∧ va_P D vwCl (wl N b u) U.heap)) (va_Qi (fun (r : Int32) (z : Nat → va_E) => (canA n x y ∧ r = iI (n : Int) ∧ MS ct b z K (n + 1) v msg (addG G n (3, x, y, 0, gpl 3 (G x).2.2.2.2 (G y).2.2.2.2 0)) V ∧ ∀ j : Nat, j < 236 → z j = u j) ∨ (¬ canA n x y ∧ r = iI (-1) ∧ u = z)) (fun (z : Nat → va_E) t => va_P D vwCl (wl (N) b (z)) t.heap) (AA b)) 0 0 (AA b) := by
  refine M_i (cc := c9_M_product) (maxL := 3) (by decide) rfl (Nat.le_of_ble_eq_true rfl) ?_
  intro p e s m args below meth c Q ls H locs hx hb hml hown hts hnm E hP hS hl ret
  have hl : lv_has ls 3 [(0, .ref (b + 236)), (1, .int (iI (x))), (2, .int (iI (y)))] := hl
  have hK := ev_K E
  have hn24 := hI.1
  have hvn := hI.2.1
  have hC9 := hC
  obtain ⟨z0, R, sm, ms, kd, fi, se, pl, hs, lv, mt, wv, wm, vv, hW, hkR, hms, hMG, hMH, hMV⟩ := hC
  obtain ⟨mM, ⟨⟨pr, hp1, hp2⟩, ⟨bg, hb1, hb2⟩, ut, hut1, hut2⟩, ⟨sc, hs1, hs2⟩, m0, m1, m2, m3, m4, m5, m6, m7, m8, m9, m10, m11, m12⟩ := hW
  refine lv_aload_n hx hb d_M_product_0 rfl (lv_at hl 0 rfl) ?_
  refine lv_iconst (v := iI (3)) hx hb d_M_product_1 rfl ?_
  refine lv_iload_n hx hb d_M_product_2 rfl (lv_at hl 1 rfl) ?_
  refine lv_iload_n hx hb d_M_product_3 rfl (lv_at hl 2 rfl) ?_
  refine w_calli (va_runV (As := [.int (iI (3)), .int (iI (x)), .int (iI (y))]) (rest := []) ⟨hx, hb, hml, hown, hts⟩ (c_pair l D ct st ke b N u (by omega) K okk n v msg G V hC9 hI 3 (by decide) (by decide) x y hx0 hy0) (cwV 3 hts (gV t_577 t_579 (tb_sel ((y_M_pair), 19) (List.mem_of_getElem? (i := 21) (by decide +kernel))) t_9 t_580) rfl rfl rfl (by decide +kernel) ⟨Nat.le_of_ble_eq_true rfl, Nat.le_of_ble_eq_true rfl⟩) (pre_V E hP hS (236) (by omega) mM rfl) rfl rfl hl.1 rfl (lv_room (Nat.le_of_ble_eq_true rfl)) d_M_product_4 ⟨(Nat.le_of_ble_eq_true rfl), (Nat.le_of_ble_eq_true rfl)⟩) hS (fun r z1 H locs hz hP hS => ?_)
  exact ret r z1 H locs 7 ls hz hP hS d_M_product_7
abbrev rm_c_Mshift : Room := { frames := 3, cells := 0, slots := 0, locals := 73 }
set_option maxHeartbeats 4000000 in
set_option maxRecDepth 100000 in
/-- shift(x, y) -/
theorem c_Mshift (l : Launch) (D : va_G) (ct : Nat → ClassId) (st ke : Nat → Nat) (b N : Nat) (u : Nat → va_E) (hN : 254 ≤ N) (K : Ky) (okk : okK K) (n v : Nat) (msg : Int → Int) (G : Int → Gt) (V : Int → Val) (hC : MS ct b u K n v msg G V) (hI : PI n v msg G V) (x y : Int) (hx0 : r32 x) (hy0 : r32 y) : Met l y_M_shift (w_M_shift) rm_c_Mshift (va_Pc [.ref (b + 236), .int (iI (x)), .int (iI (y))] (fun U => ev D ct st ke b U ∧ va_P D vwCl (wl N b u) U.heap)) (va_Qi (fun (r : Int32) (z : Nat → va_E) => ((0 ≤ y ∧ y < 16) ∧ canA n x x ∧ r = iI (n : Int) ∧ MS ct b z K (n + 1) v msg (addG G n (4, x, x, y, gpl 4 (G x).2.2.2.2 (G x).2.2.2.2 y)) V ∧ ∀ j : Nat, j < 236 → z j = u j) ∨ (¬ ((0 ≤ y ∧ y < 16) ∧ canA n x x) ∧ r = iI (-1) ∧ u = z)) (fun (z : Nat → va_E) t => va_P D vwCl (wl (N) b (z)) t.heap) (AA b)) 0 0 (AA b) := by
  refine M_i (cc := c9_M_shift) (maxL := 3) (by decide) rfl (Nat.le_of_ble_eq_true rfl) ?_
  intro p e s m args below meth c Q ls H locs hx hb hml hown hts hnm E hP hS hl ret
  have hl : lv_has ls 3 [(0, .ref (b + 236)), (1, .int (iI (x))), (2, .int (iI (y)))] := hl
  have hK := ev_K E
  have kk0 := hts (.fieldLink "LevelledRingModel" 98 "LevelledRingModel" "count" "I") (List.mem_cons_of_mem _ t_501)
  have hinM : ∀ w ∈ u_ws "LevelledRingModel" T_M 19, w ∈ (w_M_shift) := hin_M _
  have fr0 : ∀ j : Nat, (j < 236) → u j = u j := fun _ _ => rfl
  have hn24 := hI.1
  have hvn := hI.2.1
  have hC9 := hC
  obtain ⟨z0, R, sm, ms, kd, fi, se, pl, hs, lv, mt, wv, wm, vv, hW, hkR, hms, hMG, hMH, hMV⟩ := hC
  obtain ⟨mM, ⟨⟨pr, hp1, hp2⟩, ⟨bg, hb1, hb2⟩, ut, hut1, hut2⟩, ⟨sc, hs1, hs2⟩, m0, m1, m2, m3, m4, m5, m6, m7, m8, m9, m10, m11, m12⟩ := hW
  refine lv_aload_n hx hb d_M_shift_0 rfl (lv_at hl 0 rfl) ?_
  refine lv_iload_n hx hb d_M_shift_1 rfl (lv_at hl 1 rfl) ?_
  refine w_calli (va_runV (As := [.int (iI (x))]) (rest := []) ⟨hx, hb, hml, hown, hts⟩ (c_MisGate l D ct st ke b N u (by omega) z0 n hn24 mM (x) hx0) (cwV 1 hts (gV t_581 t_583 (tb_sel ((y_M_isGate), 19) (List.mem_of_getElem? (i := 22) (by decide +kernel))) t_9 t_584) rfl rfl rfl (by decide +kernel) ⟨Nat.le_of_ble_eq_true rfl, Nat.le_of_ble_eq_true rfl⟩) (pre_V E hP hS (236) (by omega) mM rfl) rfl rfl hl.1 rfl (lv_room (Nat.le_of_ble_eq_true rfl)) d_M_shift_2 ⟨(Nat.le_of_ble_eq_true rfl), (Nat.le_of_ble_eq_true rfl)⟩) hS (fun r2 z1 H locs hz hP hS => ?_)
  obtain ⟨rfl, rfl⟩ := hz
  have hi01 := inb_01 (x) (n : Int)
  refine x_if_eq (tgt := 27) hx hb ⟨by omega, by omega⟩ d_M_shift_5 (by decide) (fun hc => ?_) (fun hc => ?_)
  · refine lv_iconst (v := iI (-1)) hx hb d_M_shift_27 rfl ?_
    refine lv_goto (tgt := 38) hx hb d_M_shift_28 (by decide) ?_
    exact ret _ u H locs 38 ls (Or.inr ⟨fun h => inb_z hc h.2.1, rfl, rfl⟩) hP hS d_M_shift_38
  · have hxv := inb_n hc
    refine lv_iload_n hx hb d_M_shift_8 rfl (lv_at hl 2 rfl) ?_
    refine x_if_lt (tgt := 27) hx hb hy0 d_M_shift_9 (by decide) (fun hd => ?_) (fun hd => ?_)
    · refine lv_iconst (v := iI (-1)) hx hb d_M_shift_27 rfl ?_
      refine lv_goto (tgt := 38) hx hb d_M_shift_28 (by decide) ?_
      exact ret _ u H locs 38 ls (Or.inr ⟨fun h => by have := h.1; omega, rfl, rfl⟩) hP hS d_M_shift_38
    · refine lv_iload_n hx hb d_M_shift_12 rfl (lv_at hl 2 rfl) ?_
      refine lv_bipush (v := iI (15)) hx hb d_M_shift_13 (by decide +kernel) ?_
      refine x_icmp_gt (tgt := 27) hx hb hy0 ⟨by omega, by omega⟩ d_M_shift_15 (by decide) (fun he => ?_) (fun he => ?_)
      · refine lv_iconst (v := iI (-1)) hx hb d_M_shift_27 rfl ?_
        refine lv_goto (tgt := 38) hx hb d_M_shift_28 (by decide) ?_
        exact ret _ u H locs 38 ls (Or.inr ⟨fun h => by have := h.1; omega, rfl, rfl⟩) hP hS d_M_shift_38
      · refine lv_aload_n hx hb d_M_shift_18 rfl (lv_at hl 0 rfl) ?_
        refine w_get (C := "LevelledRingModel") (T := T_M) (M := 19) hx hb hts hinM hown hK hP (236) (by omega) mM rfl 8 (by decide) kk0 (fun _ h => h) rfl d_M_shift_19 ?_
        refine lv_bipush (v := iI (24)) hx hb d_M_shift_22 (by decide +kernel) ?_
        refine x_icmp_ne (tgt := 31) hx hb ⟨by omega, by omega⟩ ⟨by omega, by omega⟩ d_M_shift_24 (by decide) (fun hf => ?_) (fun hf => ?_)
        · refine lv_aload_n hx hb d_M_shift_31 rfl (lv_at hl 0 rfl) ?_
          refine lv_iconst (v := iI (4)) hx hb d_M_shift_32 rfl ?_
          refine lv_iload_n hx hb d_M_shift_33 rfl (lv_at hl 1 rfl) ?_
          refine lv_iload_n hx hb d_M_shift_34 rfl (lv_at hl 2 rfl) ?_
          have hpx := PI_p17 hI hxv.1 hxv.2
          refine w_calli (va_runV (As := [.int (iI (4)), .int (iI (x)), .int (iI (y))]) (rest := []) ⟨hx, hb, hml, hown, hts⟩ (c_add l D ct st ke b N u (by omega) K okk n v msg G V hC9 hI (by omega) 4 (by decide) x y (fun _ => hxv) (fun _ h => by omega) (fun h => ⟨by omega, by omega⟩) (4, x, x, y, gpl 4 (G x).2.2.2.2 (G x).2.2.2.2 y) rfl rfl rfl (fun i h0 h8 => pof_gpl (kd := 4) (by decide) (by decide) hpx h0 h8)) (cwV 3 hts (gV t_562 t_564 (tb_sel ((y_M_add), 19) (List.mem_of_getElem? (i := 19) (by decide +kernel))) t_9 t_565) rfl rfl rfl (by decide +kernel) ⟨Nat.le_of_ble_eq_true rfl, Nat.le_of_ble_eq_true rfl⟩) (pre_V E hP hS (236) (by omega) mM rfl) rfl rfl hl.1 rfl (lv_room (Nat.le_of_ble_eq_true rfl)) d_M_shift_35 ⟨(Nat.le_of_ble_eq_true rfl), (Nat.le_of_ble_eq_true rfl)⟩) hS (fun r z3 H locs hz hP hS => ?_)
          exact ret r z3 H locs 38 ls (Or.inl ⟨⟨by omega, by omega⟩, ⟨hxv, hxv, by omega⟩, hz⟩) hP hS d_M_shift_38
        · refine lv_iconst (v := iI (-1)) hx hb d_M_shift_27 rfl ?_
          refine lv_goto (tgt := 38) hx hb d_M_shift_28 (by decide) ?_
          exact ret _ u H locs 38 ls (Or.inr ⟨fun h => by have := h.2.2.2; omega, rfl, rfl⟩) hP hS d_M_shift_38
abbrev rm_c_Mlowered : Room := { frames := 3, cells := 0, slots := 0, locals := 73 }
set_option maxHeartbeats 4000000 in
set_option maxRecDepth 100000 in
/-- lowered(x) -/
theorem c_Mlowered (l : Launch) (D : va_G) (ct : Nat → ClassId) (st ke : Nat → Nat) (b N : Nat) (u : Nat → va_E) (hN : 254 ≤ N) (K : Ky) (okk : okK K) (n v : Nat) (msg : Int → Int) (G : Int → Gt) (V : Int → Val) (hC : MS ct b u K n v msg G V) (hI : PI n v msg G V) (x : Int) (hx0 : r32 x) : Met l y_M_lowered (w_M_lowered) rm_c_Mlowered (va_Pc [.ref (b + 236), .int (iI (x))] (fun U => ev D ct st ke b U ∧ va_P D vwCl (wl N b u) U.heap)) (va_Qi (fun (r : Int32) (z : Nat → va_E) => (canA n x x ∧ r = iI (n : Int) ∧ MS ct b z K (n + 1) v msg (addG G n (5, x, x, 0, gpl 5 (G x).2.2.2.2 (G x).2.2.2.2 0)) V ∧ ∀ j : Nat, j < 236 → z j = u j) ∨ (¬ canA n x x ∧ r = iI (-1) ∧ u = z)) (fun (z : Nat → va_E) t => va_P D vwCl (wl (N) b (z)) t.heap) (AA b)) 0 0 (AA b) := by
  refine M_i (cc := c9_M_lowered) (maxL := 2) (by decide) rfl (Nat.le_of_ble_eq_true rfl) ?_
  intro p e s m args below meth c Q ls H locs hx hb hml hown hts hnm E hP hS hl ret
  have hl : lv_has ls 2 [(0, .ref (b + 236)), (1, .int (iI (x)))] := hl
  have hK := ev_K E
  have kk0 := hts (.fieldLink "LevelledRingModel" 98 "LevelledRingModel" "count" "I") (List.mem_cons_of_mem _ t_501)
  have hinM : ∀ w ∈ u_ws "LevelledRingModel" T_M 19, w ∈ (w_M_lowered) := hin_M _
  have fr0 : ∀ j : Nat, (j < 236) → u j = u j := fun _ _ => rfl
  have hn24 := hI.1
  have hvn := hI.2.1
  have hC9 := hC
  obtain ⟨z0, R, sm, ms, kd, fi, se, pl, hs, lv, mt, wv, wm, vv, hW, hkR, hms, hMG, hMH, hMV⟩ := hC
  obtain ⟨mM, ⟨⟨pr, hp1, hp2⟩, ⟨bg, hb1, hb2⟩, ut, hut1, hut2⟩, ⟨sc, hs1, hs2⟩, m0, m1, m2, m3, m4, m5, m6, m7, m8, m9, m10, m11, m12⟩ := hW
  refine lv_aload_n hx hb d_M_lowered_0 rfl (lv_at hl 0 rfl) ?_
  refine lv_iload_n hx hb d_M_lowered_1 rfl (lv_at hl 1 rfl) ?_
  refine w_calli (va_runV (As := [.int (iI (x))]) (rest := []) ⟨hx, hb, hml, hown, hts⟩ (c_MisGate l D ct st ke b N u (by omega) z0 n hn24 mM (x) hx0) (cwV 1 hts (gV t_581 t_583 (tb_sel ((y_M_isGate), 19) (List.mem_of_getElem? (i := 22) (by decide +kernel))) t_9 t_584) rfl rfl rfl (by decide +kernel) ⟨Nat.le_of_ble_eq_true rfl, Nat.le_of_ble_eq_true rfl⟩) (pre_V E hP hS (236) (by omega) mM rfl) rfl rfl hl.1 rfl (lv_room (Nat.le_of_ble_eq_true rfl)) d_M_lowered_2 ⟨(Nat.le_of_ble_eq_true rfl), (Nat.le_of_ble_eq_true rfl)⟩) hS (fun r2 z1 H locs hz hP hS => ?_)
  obtain ⟨rfl, rfl⟩ := hz
  have hi01 := inb_01 (x) (n : Int)
  refine x_if_eq (tgt := 17) hx hb ⟨by omega, by omega⟩ d_M_lowered_5 (by decide) (fun hc => ?_) (fun hc => ?_)
  · refine lv_iconst (v := iI (-1)) hx hb d_M_lowered_17 rfl ?_
    refine lv_goto (tgt := 28) hx hb d_M_lowered_18 (by decide) ?_
    exact ret _ u H locs 28 ls (Or.inr ⟨fun h => inb_z hc h.1, rfl, rfl⟩) hP hS d_M_lowered_28
  · have hxv := inb_n hc
    refine lv_aload_n hx hb d_M_lowered_8 rfl (lv_at hl 0 rfl) ?_
    refine w_get (C := "LevelledRingModel") (T := T_M) (M := 19) hx hb hts hinM hown hK hP (236) (by omega) mM rfl 8 (by decide) kk0 (fun _ h => h) rfl d_M_lowered_9 ?_
    refine lv_bipush (v := iI (24)) hx hb d_M_lowered_12 (by decide +kernel) ?_
    refine x_icmp_ne (tgt := 21) hx hb ⟨by omega, by omega⟩ ⟨by omega, by omega⟩ d_M_lowered_14 (by decide) (fun hd => ?_) (fun hd => ?_)
    · refine lv_aload_n hx hb d_M_lowered_21 rfl (lv_at hl 0 rfl) ?_
      refine lv_iconst (v := iI (5)) hx hb d_M_lowered_22 rfl ?_
      refine lv_iload_n hx hb d_M_lowered_23 rfl (lv_at hl 1 rfl) ?_
      refine lv_iconst (v := iI (0)) hx hb d_M_lowered_24 rfl ?_
      have hpx := PI_p17 hI hxv.1 hxv.2
      refine w_calli (va_runV (As := [.int (iI (5)), .int (iI (x)), .int (iI (0))]) (rest := []) ⟨hx, hb, hml, hown, hts⟩ (c_add l D ct st ke b N u (by omega) K okk n v msg G V hC9 hI (by omega) 5 (by decide) x 0 (fun _ => hxv) (fun _ h => by omega) (fun h => by omega) (5, x, x, 0, gpl 5 (G x).2.2.2.2 (G x).2.2.2.2 0) rfl rfl rfl (fun i h0 h8 => pof_gpl (kd := 5) (by decide) (by decide) hpx h0 h8)) (cwV 3 hts (gV t_562 t_564 (tb_sel ((y_M_add), 19) (List.mem_of_getElem? (i := 19) (by decide +kernel))) t_9 t_565) rfl rfl rfl (by decide +kernel) ⟨Nat.le_of_ble_eq_true rfl, Nat.le_of_ble_eq_true rfl⟩) (pre_V E hP hS (236) (by omega) mM rfl) rfl rfl hl.1 rfl (lv_room (Nat.le_of_ble_eq_true rfl)) d_M_lowered_25 ⟨(Nat.le_of_ble_eq_true rfl), (Nat.le_of_ble_eq_true rfl)⟩) hS (fun r z3 H locs hz hP hS => ?_)
      exact ret r z3 H locs 28 ls (Or.inl ⟨⟨hxv, hxv, by omega⟩, hz⟩) hP hS d_M_lowered_28
    · refine lv_iconst (v := iI (-1)) hx hb d_M_lowered_17 rfl ?_
      refine lv_goto (tgt := 28) hx hb d_M_lowered_18 (by decide) ?_
      exact ret _ u H locs 28 ls (Or.inr ⟨fun h => by have := h.2.2; omega, rfl, rfl⟩) hP hS d_M_lowered_28
