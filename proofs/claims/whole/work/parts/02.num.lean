-- numbers: every int is iI of a whole number, every long lI of one; sums and products need no bounds
def iI (a : Int) : Int32 := Int32.ofInt a
def lI (a : Int) : Int64 := Int64.ofInt a
abbrev r32 (a : Int) : Prop := -2147483648 ≤ a ∧ a ≤ 2147483647
abbrev r64 (a : Int) : Prop := -9223372036854775808 ≤ a ∧ a ≤ 9223372036854775807
theorem iI_toInt {a : Int} (h : r32 a) : (iI a).toInt = a := by
  have h1 := h.1
  have h2 := h.2
  exact Int32.toInt_ofInt_of_le (by omega) (by omega)
theorem lI_toInt {a : Int} (h : r64 a) : (lI a).toInt = a := by
  have h1 := h.1
  have h2 := h.2
  exact Int64.toInt_ofInt_of_le (by omega) (by omega)
theorem r32_of (x : Int32) : r32 x.toInt := by
  have h1 := x.le_toInt
  have h2 := x.toInt_lt
  exact ⟨by omega, by omega⟩
theorem r64_of (x : Int64) : r64 x.toInt := by
  have h1 := x.le_toInt
  have h2 := x.toInt_lt
  exact ⟨by omega, by omega⟩
theorem iI_of (x : Int32) : ∃ a : Int, r32 a ∧ x = iI a := ⟨x.toInt, r32_of x, (Int32.ofInt_toInt x).symm⟩
theorem lI_of (x : Int64) : ∃ a : Int, r64 a ∧ x = lI a := ⟨x.toInt, r64_of x, (Int64.ofInt_toInt x).symm⟩
theorem iI_inj {a b : Int} (ha : r32 a) (hb : r32 b) : iI a = iI b ↔ a = b :=
  ⟨fun h => by rw [← iI_toInt ha, ← iI_toInt hb, h], fun h => by rw [h]⟩
theorem lI_inj {a b : Int} (ha : r64 a) (hb : r64 b) : lI a = lI b ↔ a = b :=
  ⟨fun h => by rw [← lI_toInt ha, ← lI_toInt hb, h], fun h => by rw [h]⟩
theorem iI_lt {a b : Int} (ha : r32 a) (hb : r32 b) : iI a < iI b ↔ a < b := by
  rw [Int32.lt_iff_toInt_lt, iI_toInt ha, iI_toInt hb]
theorem iI_le {a b : Int} (ha : r32 a) (hb : r32 b) : iI a ≤ iI b ↔ a ≤ b := by
  rw [Int32.le_iff_toInt_le, iI_toInt ha, iI_toInt hb]
theorem lI_lt {a b : Int} (ha : r64 a) (hb : r64 b) : lI a < lI b ↔ a < b := by
  rw [Int64.lt_iff_toInt_lt, lI_toInt ha, lI_toInt hb]
theorem lI_le {a b : Int} (ha : r64 a) (hb : r64 b) : lI a ≤ lI b ↔ a ≤ b := by
  rw [Int64.le_iff_toInt_le, lI_toInt ha, lI_toInt hb]
theorem iI_add (a b : Int) : iI a + iI b = iI (a + b) := (Int32.ofInt_add a b).symm
theorem iI_sub (a b : Int) : iI a - iI b = iI (a - b) := (Int32.ofInt_sub a b).symm
theorem iI_mul (a b : Int) : iI a * iI b = iI (a * b) := (Int32.ofInt_mul a b).symm
theorem iI_neg (a : Int) : -iI a = iI (-a) := (Int32.ofInt_neg a).symm
theorem lI_add (a b : Int) : lI a + lI b = lI (a + b) := (Int64.ofInt_add a b).symm
theorem lI_sub (a b : Int) : lI a - lI b = lI (a - b) := (Int64.ofInt_sub a b).symm
theorem lI_mul (a b : Int) : lI a * lI b = lI (a * b) := (Int64.ofInt_mul a b).symm
theorem lI_neg (a : Int) : -lI a = lI (-a) := (Int64.ofInt_neg a).symm
theorem lI_toI (a : Int) : (lI a).toInt32 = iI a := Int64.toInt32_ofInt
theorem iI_toL {a : Int} (h : r32 a) : (iI a).toInt64 = lI a := by
  have e := iI_toInt h
  unfold lI
  rw [← Int64.ofInt_int32ToInt, e]
theorem nI_iI (n : Nat) : nI n = iI n := Int32.ofInt_eq_ofNat.symm
theorem iI_clamp {n : Nat} (h : n < 2147483648) : (iI (n : Int)).toNatClampNeg = n := by
  rw [← nI_iI]
  exact nI_clamp (by omega)
theorem iI_in {n N : Nat} (h : n < N) (hN : N < 2147483648) : vp_in (iI (n : Int)) N := by
  rw [← nI_iI]
  exact vp_in_nI h (by omega)
theorem iI_ne0 {a : Int} (h : r32 a) (h0 : a ≠ 0) : ¬ iI a = 0 := fun e => h0 ((iI_inj h ⟨by decide, by decide⟩).mp (e.trans (by decide)))
theorem lI_ne0 {a : Int} (h : r64 a) (h0 : a ≠ 0) : ¬ lI a = 0 := fun e => h0 ((lI_inj h ⟨by decide, by decide⟩).mp (e.trans (by decide)))
theorem tmod_bd {a b : Int} (h : 0 < b) : -b < a.tmod b ∧ a.tmod b < b := ⟨Int.lt_tmod_of_pos a h, Int.tmod_lt_of_pos a h⟩
theorem iI_div {a b : Int} (ha : r32 a) (hb : r32 b) (h : 0 < b) : iI a / iI b = iI (a.tdiv b) := by
  have hne : iI b ≠ -1 := fun e => by
    have e2 : b = -1 := (iI_inj hb ⟨by decide, by decide⟩).mp (e.trans (by decide))
    omega
  have e1 := Int32.toInt_div_of_ne_right (iI a) (iI b) hne
  rw [iI_toInt ha, iI_toInt hb] at e1
  rw [← Int32.ofInt_toInt (iI a / iI b), e1]
  rfl
theorem lI_div {a b : Int} (ha : r64 a) (hb : r64 b) (h : 0 < b) : lI a / lI b = lI (a.tdiv b) := by
  have hne : lI b ≠ -1 := fun e => by
    have e2 : b = -1 := (lI_inj hb ⟨by decide, by decide⟩).mp (e.trans (by decide))
    omega
  have e1 := Int64.toInt_div_of_ne_right (lI a) (lI b) hne
  rw [lI_toInt ha, lI_toInt hb] at e1
  rw [← Int64.ofInt_toInt (lI a / lI b), e1]
  rfl
/-- what the machine calls the remainder -/
theorem iI_rem {a b : Int} (ha : r32 a) (hb : r32 b) (h : 0 < b) : iI a - iI a / iI b * iI b = iI (a.tmod b) := by
  rw [iI_div ha hb h, iI_mul, iI_sub, Int.tmod_def, Int.mul_comm b]
theorem lI_rem {a b : Int} (ha : r64 a) (hb : r64 b) (h : 0 < b) : lI a - lI a / lI b * lI b = lI (a.tmod b) := by
  rw [lI_div ha hb h, lI_mul, lI_sub, Int.tmod_def, Int.mul_comm b]
/-- a remainder that is mended where it is negative -/
theorem tmod_mend {a b : Int} (h : 0 < b) : (if a.tmod b < 0 then a.tmod b + b else a.tmod b) = a % b := by
  have h1 := Int.mul_tdiv_add_tmod a b
  have h2 := tmod_bd (a := a) h
  have h3 := Int.emod_nonneg a (Int.ne_of_gt h)
  have h4 := Int.emod_lt_of_pos a h
  split
  · rename_i hn
    have e : a = (a.tmod b + b) + b * (a.tdiv b - 1) := by rw [Int.mul_sub]; omega
    conv => rhs; rw [e]
    rw [Int.add_mul_emod_self_left, Int.emod_eq_of_lt (by omega) (by omega)]
  · rename_i hn
    have e : a = a.tmod b + b * a.tdiv b := by omega
    conv => rhs; rw [e]
    rw [Int.add_mul_emod_self_left, Int.emod_eq_of_lt (by omega) (by omega)]
