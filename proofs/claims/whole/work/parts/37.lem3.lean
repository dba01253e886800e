theorem tsg_01 (t i : Int) : tsg t i = 1 ∨ tsg t i = -1 := by
  unfold tsg
  split
  · exact Or.inl rfl
  · exact Or.inr rfl
theorem mp_add {q c s x y : Int} : ((c + s) % q + x * (y % q) % q) % q = (c + (s + x * y)) % q := by
  have h : cg q ((c + s) % q + x * (y % q) % q) (c + s + x * y) := cg_add cg_mod (cg_t cg_mod (cg_mul cg_r cg_mod))
  rw [Int.add_assoc] at h
  exact h
theorem mp_sub {q c s x y : Int} : ((c + s) % q - x * (y % q) % q) % q = (c + (s + -(x * y))) % q := by
  have h : cg q ((c + s) % q - x * (y % q) % q) (c + s - x * y) := cg_sub cg_mod (cg_t cg_mod (cg_mul cg_r cg_mod))
  rw [Int.sub_eq_add_neg (a := c + s), Int.add_assoc] at h
  exact h
/-- the search for k: the number below which none fits -/
theorem lk_search {d k : Int} (h8 : -8 ≤ k) (hk : k ≤ 8) (hn : ∀ j : Int, -8 ≤ j → j < k → (d + j) % 17 ≠ 0) (h : (d + k) % 17 = 0 ∨ k = 8) : k = lk d := by
  have hb := lk_bd d
  rcases h with h | h
  · exact lk_uniq h8 hk h
  · have h1 : ¬ lk d < k := fun h2 => hn (lk d) hb.1 h2 hb.2.2
    omega
theorem tmod17 {x : Int} : x.tmod 17 = 0 ↔ x % 17 = 0 := by
  rw [← Int.dvd_iff_tmod_eq_zero, Int.dvd_iff_emod_eq_zero]
theorem low_b {l c : Int} (h0 : 0 ≤ c) (h1 : c < lQ l) : r64 (c - cen (c % lq l) (lq l) - lk (cen (c % lq l) (lq l)) * lq l) := by
  have h2 := lex_bd l c
  have h3 := lQ_bd l
  unfold lex at h2
  exact ⟨by omega, by omega⟩
theorem low_q (l c : Int) : (c - cen (c % lq l) (lq l) - lk (cen (c % lq l) (lq l)) * lq l).tdiv (lq l) = low l c := by
  have h1 := low_mul l c
  have h2 := lq_p l
  have e : c - cen (c % lq l) (lq l) - lk (cen (c % lq l) (lq l)) * lq l = lq l * low l c := by
    rw [h1]
    unfold lex
    omega
  rw [e]
  exact Int.mul_tdiv_cancel_left _ (by omega)
theorem low_r {l c : Int} (h0 : 0 ≤ c) (h1 : c < lQ l) : r64 (low l c) := by
  have h2 := low_b h0 h1
  have h3 := low_q l c
  have h4 := Int.natAbs_tdiv_le_natAbs (c - cen (c % lq l) (lq l) - lk (cen (c % lq l) (lq l)) * lq l) (lq l)
  rw [h3] at h4
  have h5 := lex_bd l c
  have h6 := lQ_bd l
  unfold lex at h5
  exact ⟨by omega, by omega⟩
