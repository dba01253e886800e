/-- behind a gate's evaluation by the reference: o is the document's value -/
def VP (ct : Nat → ClassId) (b : Nat) (z : Nat → va_E) (cnt : Int) (S R ms kd fi se pl hs lv mt vv : Int → Int) (x : Int) (o : Option Val) (r : Int32) : Prop :=
  ∃ (z1 : Int32) (R2 sm2 hs2 lv2 mt2 wv2 wm2 : Int → Int), MW ct b z z1 cnt S R2 sm2 ms kd fi se pl hs2 lv2 mt2 wv2 wm2 vv ∧ (∀ j : Int, j < 448 → (j < 8 * (8 + 2 * x) ∨ 8 * (8 + 2 * x) + 16 ≤ j) → R2 j = R j) ∧ (∀ y : Int, y ≠ x → hs2 y = hs y ∧ lv2 y = lv y ∧ mt2 y = mt y) ∧ ((∃ w, o = some w ∧ r = iI 1 ∧ hs2 x = 1 ∧ GV R2 lv2 mt2 x w) ∨ (o = none ∧ r = iI 0 ∧ hs2 x = 0))
theorem enc_eq (p s w q : Int) : (p + 17 * s - w % q) % q = (17 * s - w + p) % q := by
  have h : cg q (p + 17 * s - w % q) (p + 17 * s - w) := cg_sub cg_r cg_mod
  rw [show p + 17 * s - w = 17 * s - w + p by omega] at h
  exact h
