theorem dv_r (z : Int32) : r32 (dv z) := by
  have h := dv_bd z
  exact ⟨by omega, by omega⟩
theorem lq_r (k : Int) : r32 (lq k) := by
  have h := lq_bd k
  exact ⟨by omega, by omega⟩
theorem lq_r6 (k : Int) : r64 (lq k) := by
  have h := lq_bd k
  exact ⟨by omega, by omega⟩
theorem lq_p (k : Int) : 0 < lq k := by
  have h := lq_bd k
  omega
theorem lQ_r (k : Int) : r64 (lQ k) := by
  have h := lQ_bd k
  exact ⟨by omega, by omega⟩
theorem lQ_p (k : Int) : 0 < lQ k := by
  have h := lQ_bd k
  omega
theorem lQ_m (k : Int) : lQ k ≤ 9223372036854775807 := by
  have h := lQ_bd k
  omega
theorem res_r (z : Int32) (i k : Int) : r32 (res z i k) := by
  have h := lq_bd k
  have h2 := res_bd z i k
  exact ⟨by omega, by omega⟩
theorem res_sm (z : Int32) (i k : Int) : res z i k < 4611686018427387904 := by
  have h := lq_bd k
  have h2 := res_bd z i k
  omega
theorem it_s (z : Int32) {n : Int} (h : 0 ≤ n) : it (n + 1).toNat z = dz (it n.toNat z) := by
  rw [show (n + 1).toNat = n.toNat + 1 by omega]
  rfl
theorem md_b (x l : Int) : 0 ≤ x % lQ l ∧ x % lQ l < lQ l := by
  have h := lQ_p l
  exact ⟨Int.emod_nonneg _ (by omega), Int.emod_lt_of_pos _ h⟩
theorem two_r (x y l : Int) : r64 (x % lQ l + y % lQ l) := by
  have h := lQ_bd l
  have h1 := md_b x l
  have h2 := md_b y l
  exact ⟨by omega, by omega⟩
theorem two_0 (x y l : Int) : 0 ≤ x % lQ l + y % lQ l := by
  have h1 := md_b x l
  have h2 := md_b y l
  omega
