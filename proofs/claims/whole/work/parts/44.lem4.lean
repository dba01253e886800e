theorem qt_n1 {n : Nat} {p : V2} (hc : 0 < p.1.1 ∧ (1000 < p.1.2.1 ∨ 1000 < p.2.2.1)) (h : low1 p.1 = none) : qt (n + 1) p = none := by
  rw [qt_s hc, h]
  rfl
theorem qt_n2 {n : Nat} {p : V2} {x : Val} (hc : 0 < p.1.1 ∧ (1000 < p.1.2.1 ∨ 1000 < p.2.2.1)) (h : low1 p.1 = some x) (h2 : low1 p.2 = none) : qt (n + 1) p = none := by
  rw [qt_s hc, h]
  show (low1 p.2).bind _ = _
  rw [h2]
  rfl
theorem qt_n3 {n : Nat} {p : V2} {x y : Val} (hc : 0 < p.1.1 ∧ (1000 < p.1.2.1 ∨ 1000 < p.2.2.1)) (h : low1 p.1 = some x) (h2 : low1 p.2 = some y) : qt (n + 1) p = qt n (x, y) := by
  rw [qt_s hc, h]
  show (low1 p.2).bind _ = _
  rw [h2]
  rfl
/-- a sum of rows, reduced once more -/
theorem add_md {q a x : Int} : (a % q + x) % q = (a + x) % q := by
  have h : cg q (a % q + x) (a + x) := cg_add cg_mod cg_r
  exact h
theorem gdg_s {j : Nat} : gdg (j : Int) = sn (fun k => lq k - 1) (j + 1) := by
  unfold gdg
  rw [show ((j : Int) + 1).toNat = j + 1 by omega]
theorem lq_le_lQ {j l : Int} (h0 : 0 ≤ j) (h1 : j ≤ l) (h3 : l ≤ 3) : lq j ≤ lQ l := Int.le_of_dvd (lQ_p l) (lq_dvd h0 h1 h3)
