-- bits, by whole numbers
theorem iI_and (a : Int) {m : Int32} (k : Nat) (hk : k ≤ 5) (hm : m.toBitVec.toNat = 2 ^ k - 1) : iI a &&& m = iI (a % 2 ^ k) := by
  rw [pk_and (iI a) k hm, nI_iI]
  congr 1
  have e : (iI a).toBitVec = BitVec.ofInt 32 a := rfl
  rw [e, BitVec.toNat_ofInt]
  rcases (show k = 0 ∨ k = 1 ∨ k = 2 ∨ k = 3 ∨ k = 4 ∨ k = 5 by omega) with rfl | rfl | rfl | rfl | rfl | rfl <;> omega
theorem iI_shr {a : Int} (h0 : 0 ≤ a) (h : a ≤ 2147483647) : iI a >>> (iI 3 &&& 31) = iI (a / 8) := by
  obtain ⟨n, rfl⟩ := Int.eq_ofNat_of_zero_le h0
  have h1 := pk_shrN (n := n) (by omega) (iI 3 &&& 31) 3 (by decide)
  rw [nI_iI, nI_iI] at h1
  rw [h1]
  congr 1
theorem lI_and1 {a : Int} (h0 : 0 ≤ a) (h : a ≤ 9223372036854775807) : lI a &&& lI 1 = lI (a % 2) := by
  obtain ⟨n, rfl⟩ := Int.eq_ofNat_of_zero_le h0
  apply Int64.toBitVec_inj.mp
  rw [Int64.toBitVec_and]
  have e1 : (lI (n : Int)).toBitVec = BitVec.ofInt 64 n := rfl
  have e2 : (lI 1).toBitVec = BitVec.ofNat 64 1 := by decide
  have e3 : (lI ((n : Int) % 2)).toBitVec = BitVec.ofInt 64 ((n : Int) % 2) := rfl
  rw [e1, e2, e3]
  apply BitVec.eq_of_toNat_eq
  rw [BitVec.toNat_and, BitVec.toNat_ofInt, BitVec.toNat_ofInt, BitVec.toNat_ofNat]
  have e4 : 1 % 2 ^ 64 = 2 ^ 1 - 1 := by decide
  rw [e4, Nat.and_two_pow_sub_one_eq_mod]
  omega
theorem lI_shr1 {a : Int} (h0 : 0 ≤ a) (h : a ≤ 4611686018427387903) : lI a >>> ((iI 1).toInt64 &&& 63) = lI (a / 2) := by
  apply Int64.toInt_inj.mp
  have e : (lI a >>> ((iI 1).toInt64 &&& 63)).toInt = (lI a).toInt >>> 1 := by
    have hD : ((((iI 1).toInt64 &&& 63) : Int64).toBitVec.smod 64).toNat = 1 := by decide
    rw [← hD]
    exact BitVec.toInt_sshiftRight ..
  rw [e, Int.shiftRight_eq_div_pow, lI_toInt ⟨by omega, by omega⟩, lI_toInt ⟨by omega, by omega⟩]
  rfl
-- a product modulo m, by doubling
theorem tm_step {m s t r a b : Int} (h : cg m (s + t * r) (a * b)) : cg m ((if r % 2 = 1 then (s + t) % m else s) + (t + t) % m * (r / 2)) (a * b) := by
  refine cg_t ?_ h
  have h1 : cg m ((t + t) % m * (r / 2)) ((t + t) * (r / 2)) := cg_mul cg_mod cg_r
  by_cases hr : r % 2 = 1
  · rw [if_pos hr]
    have h2 := cg_add (cg_mod (m := m) (a := s + t)) h1
    have e : s + t + (t + t) * (r / 2) = s + t * r := by
      have e1 : r = 2 * (r / 2) + 1 := by omega
      generalize r / 2 = k at e1
      rw [e1, Int.mul_add, Int.mul_one, Int.add_mul, ← Int.mul_assoc, Int.mul_comm t 2, Int.two_mul, Int.add_mul]
      omega
    rw [e] at h2
    exact h2
  · rw [if_neg hr]
    have h2 := cg_add (cg_r (m := m) (a := s)) h1
    have e : s + (t + t) * (r / 2) = s + t * r := by
      have e1 : r = 2 * (r / 2) := by omega
      generalize r / 2 = k at e1
      rw [e1, ← Int.mul_assoc, Int.mul_comm t 2, Int.two_mul]
    rw [e] at h2
    exact h2
theorem pow62 {j : Nat} (h : j ≤ 62) : ((2 ^ j : Nat) : Int) ≤ 4611686018427387904 := by
  have h1 := Nat.pow_le_pow_right (show 0 < 2 by decide) h
  have e : 2 ^ 62 = 4611686018427387904 := by decide
  rw [e] at h1
  omega
theorem cg_fin {m s x : Int} (hm : 0 < m) (h0 : 0 ≤ s) (h1 : s < m) (h : cg m s x) : s = x % m := by
  unfold cg at h
  rw [Int.emod_eq_of_lt h0 h1] at h
  exact h
-- the reference's object at the place 236 and its rows
abbrev mo (b : Nat) (z : Int32) (cnt : Int) : va_E := .inr (6, [.ref (b + 237), .ref (b + 238), .ref (b + 239), .ref (b + 240), .ref (b + 241), .ref (b + 242), .int z, .ref (b + 243), .int (iI cnt), .ref (b + 244), .ref (b + 245), .ref (b + 246), .ref (b + 247), .ref (b + 248), .ref (b + 249), .ref (b + 250), .ref (b + 251), .ref (b + 252), .ref (b + 253)])
/-- primes, their products, units -/
def MK (ct : Nat → ClassId) (u : Nat → va_E) : Prop := (∃ g : Int → Int, u 238 = ir ct 4 g ∧ ∀ k : Int, 0 ≤ k → k ≤ 3 → g k = lq k) ∧ (∃ g : Int → Int, u 239 = lr ct 4 g ∧ ∀ k : Int, 0 ≤ k → k ≤ 3 → g k = lQ k) ∧ ∃ g : Int → Int, u 240 = lr ct 4 g ∧ ∀ k : Int, 0 ≤ k → k ≤ 3 → g k = un k
theorem MK.of {ct : Nat → ClassId} {u z : Nat → va_E} (h : MK ct u) (hz : ∀ j, 238 ≤ j → j ≤ 240 → z j = u j) : MK ct z := by
  obtain ⟨⟨g1, h1, h2⟩, ⟨g3, h3, h4⟩, g5, h5, h6⟩ := h
  exact ⟨⟨g1, (hz 238 (by omega) (by omega)).trans h1, h2⟩, ⟨g3, (hz 239 (by omega) (by omega)).trans h3, h4⟩, g5, (hz 240 (by omega) (by omega)).trans h5, h6⟩
/-- the secret's row -/
def ME (ct : Nat → ClassId) (u : Nat → va_E) (S : Int → Int) : Prop := ∃ g : Int → Int, u 241 = ir ct 8 g ∧ ∀ i : Int, 0 ≤ i → i < 8 → g i = S i
theorem un_bd (k : Int) : 0 ≤ un k ∧ un k < 715450762997731793 := by
  unfold un
  repeat' split
  all_goals omega
def usm (z : Int32) (i : Int) (n : Nat) : Int := sn (fun j => un j * res z i j) n
theorem usm_4 (z : Int32) (i : Int) : usm z i 4 % lQ 3 = uni z i := by
  show (0 + un 0 * res z i 0 + un 1 * res z i 1 + un 2 * res z i 2 + un 3 * res z i 3) % lQ 3 = _
  rw [Int.zero_add]
  rfl
