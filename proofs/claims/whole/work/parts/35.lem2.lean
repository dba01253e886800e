theorem iI_and7 (a : Int) : iI a &&& iI 7 = iI (a % 8) := iI_and a 3 (by decide) (by decide)
theorem iI_and1 (a : Int) : iI a &&& iI 1 = iI (a % 2) := iI_and a 1 (by decide) (by decide)
theorem mul_s {s x : Int} (h1 : -1 ≤ s) (h2 : s ≤ 1) (h3 : 0 ≤ x) (h4 : x ≤ 715450762997731793) : -715450762997731793 ≤ s * x ∧ s * x ≤ 715450762997731793 := by
  rcases (show s = -1 ∨ s = 0 ∨ s = 1 by omega) with rfl | rfl | rfl <;> omega
theorem mul_11 {s x : Int} (h1 : -1 ≤ s) (h2 : s ≤ 1) (h3 : -1 ≤ x) (h4 : x ≤ 1) : -1 ≤ s * x ∧ s * x ≤ 1 := by
  rcases (show s = -1 ∨ s = 0 ∨ s = 1 by omega) with rfl | rfl | rfl <;> omega
theorem nt_le {X Y : Int → Int} {i a : Int} (h : a ≤ i) (h1 : i < 8) (h2 : 0 ≤ a) : nt X Y i a = X a * Y ((i - a) % 8) := by
  unfold nt
  rw [if_pos h, show (i - a) % 8 = i - a by omega]
theorem nt_gt {X Y : Int → Int} {i a : Int} (h : i < a) (h1 : a < 8) (h2 : 0 ≤ i) : nt X Y i a = -(X a * Y ((i - a) % 8)) := by
  unfold nt
  rw [if_neg (by omega), show (i - a) % 8 = 8 + i - a by omega]
theorem sn_b1 {f : Int → Int} : ∀ n : Nat, (∀ j : Int, 0 ≤ j → j < n → -1 ≤ f j ∧ f j ≤ 1) → -(n : Int) ≤ sn f n ∧ sn f n ≤ (n : Int)
  | 0, _ => by
    show -((0 : Nat) : Int) ≤ 0 ∧ 0 ≤ ((0 : Nat) : Int)
    omega
  | n + 1, h => by
    have h1 := sn_b1 n fun j h0 h1 => h j h0 (by omega)
    have h2 := h n (by omega) (by omega)
    show -((n + 1 : Nat) : Int) ≤ sn f n + f n ∧ sn f n + f n ≤ ((n + 1 : Nat) : Int)
    omega
theorem nt_11 {S : Int → Int} (h : ∀ i : Int, -1 ≤ S i ∧ S i ≤ 1) (i j : Int) : -1 ≤ nt S S i j ∧ nt S S i j ≤ 1 := by
  unfold nt
  split
  · exact mul_11 (h _).1 (h _).2 (h _).1 (h _).2
  · have := mul_11 (h j).1 (h j).2 (h (8 + i - j)).1 (h (8 + i - j)).2
    omega
theorem mod_b {q : Int} (x : Int) (h : 0 < q) : 0 ≤ x % q ∧ x % q < q := ⟨Int.emod_nonneg _ (by omega), Int.emod_lt_of_pos _ h⟩
theorem makeB_eq (k s e w q : Int) : (k * (s % q) % q + 17 * e % q - w % q) % q = (17 * e + (-1) * w + k * s) % q := by
  have h : cg q (k * (s % q) % q + 17 * e % q - w % q) (k * s + 17 * e - w) := cg_sub (cg_add (cg_t cg_mod (cg_mul cg_r cg_mod)) cg_mod) cg_mod
  have e1 : k * s + 17 * e - w = 17 * e + (-1) * w + k * s := by omega
  rw [e1] at h
  exact h
