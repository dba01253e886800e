-- opening a value
def opV (S : Int → Int) (v : Val) (i : Int) : Int := cen ((v.2.2.1 i + nc v.2.2.2 S i) % lQ v.1) (lQ v.1)
def ab (x : Int) : Int := if x < 0 then -x else x
def mxs (f : Int → Int) : Nat → Int
  | 0 => 0
  | n + 1 => if mxs f n < ab (f n) then ab (f n) else mxs f n
theorem mxs_step (f : Int → Int) {k : Int} (h : 0 ≤ k) : mxs f (k + 1).toNat = if mxs f k.toNat < ab (f k) then ab (f k) else mxs f k.toNat := by
  obtain ⟨n, rfl⟩ := Int.eq_ofNat_of_zero_le h
  have e : ((n : Int) + 1).toNat = n + 1 := by omega
  rw [e, Int.toNat_natCast]
  rfl
theorem opV_bd (S : Int → Int) (v : Val) (i : Int) : -4611686018427387904 ≤ opV S v i ∧ opV S v i ≤ 4611686018427387903 := by
  have h := lQ_bd v.1
  exact cen_bd (Int.emod_nonneg _ (by omega)) (Int.emod_lt_of_pos _ (by omega)) (by omega)
theorem ab_bd (S : Int → Int) (v : Val) (i : Int) : 0 ≤ ab (opV S v i) ∧ ab (opV S v i) ≤ 4611686018427387904 := by
  have h := opV_bd S v i
  unfold ab
  split <;> omega
theorem mxs_bd (S : Int → Int) (v : Val) : ∀ n : Nat, 0 ≤ mxs (opV S v) n ∧ mxs (opV S v) n ≤ 4611686018427387904
  | 0 => by
    show (0 : Int) ≤ 0 ∧ (0 : Int) ≤ 4611686018427387904
    omega
  | n + 1 => by
    have h := mxs_bd S v n
    have h2 := ab_bd S v n
    have e : mxs (opV S v) (n + 1) = if mxs (opV S v) n < ab (opV S v n) then ab (opV S v n) else mxs (opV S v) n := rfl
    rw [e]
    split <;> omega
-- meters
theorem sn_nn {f : Int → Int} : ∀ n : Nat, (∀ j : Int, 0 ≤ j → j < n → 0 ≤ f j ∧ f j ≤ 32369) → 0 ≤ sn f n ∧ sn f n ≤ 32369 * (n : Int)
  | 0, _ => by
    show (0 : Int) ≤ 0 ∧ (0 : Int) ≤ 32369 * ((0 : Nat) : Int)
    omega
  | n + 1, h => by
    have h1 := sn_nn n fun j h0 h1 => h j h0 (by omega)
    have h2 := h n (by omega) (by omega)
    show 0 ≤ sn f n + f n ∧ sn f n + f n ≤ 32369 * ((n + 1 : Nat) : Int)
    omega
theorem gdg_bd {l : Int} (h0 : 0 ≤ l) (h3 : l ≤ 3) : 0 ≤ gdg l ∧ gdg l ≤ 130000 := by
  have h := sn_nn (f := fun k => lq k - 1) (l + 1).toNat (fun j _ _ => by have := lq_bd j; show 0 ≤ lq j - 1 ∧ lq j - 1 ≤ 32369; omega)
  unfold gdg
  omega
/-- quiet enough for a product -/
def qu (p : V2) : Prop := okV p.1 ∧ okV p.2 ∧ p.1.1 = p.2.1 ∧ (p.1.1 = 0 ∨ (p.1.2.1 ≤ 1000 ∧ p.2.2.1 ≤ 1000))
theorem qu_bd {p : V2} (h : qu p) : 0 ≤ pmt p ∧ pmt p ≤ 100000000000 := by
  obtain ⟨h1, h2, h3, h4⟩ := h
  have hg := gdg_bd h1.1 h1.2.1
  have m0 := h1.2.2.1
  have n0 := h2.2.2.1
  have hm : p.1.2.1 ≤ 20000 ∧ p.2.2.1 ≤ 20000 := by
    rcases h4 with h4 | h4
    · have a := h1.2.2.2
      have c := h2.2.2.2
      rw [← h3] at c
      rw [h4] at a c
      have e : lQ 0 = 32369 := rfl
      rw [e] at a c
      omega
    · omega
  unfold pmt
  have hp := mul_bd m0 (show p.1.2.1 ≤ 32369 by omega) n0 (show p.2.2.1 ≤ 32369 by omega)
  rw [Int.mul_assoc]
  omega
theorem lI_0 : (0 : Int64) = lI 0 := by decide
theorem abs_lI {x : Int} (h : r64 x) : (if (0 : Int64) < lI x then lI x else -lI x) = lI (ab x) := by
  rw [lI_0]
  unfold ab
  by_cases h1 : 0 < x
  · rw [if_pos ((lI_lt ⟨by decide, by decide⟩ h).mpr h1), if_neg (by omega)]
  · rw [if_neg (fun e => h1 ((lI_lt ⟨by decide, by decide⟩ h).mp e)), lI_neg]
    by_cases h2 : x < 0
    · rw [if_pos h2]
    · rw [if_neg h2, show x = 0 by omega]
      rfl
theorem max_lI {x y : Int} (hx : r64 x) (hy : r64 y) : (if lI y < lI x then lI x else lI y) = lI (if x < y then y else x) := by
  by_cases h : x < y
  · rw [if_pos h, if_neg (fun e => by have := (lI_lt hy hx).mp e; omega)]
  · rw [if_neg h]
    by_cases h2 : y < x
    · rw [if_pos ((lI_lt hy hx).mpr h2)]
    · rw [if_neg (fun e => h2 ((lI_lt hy hx).mp e)), show y = x by omega]
