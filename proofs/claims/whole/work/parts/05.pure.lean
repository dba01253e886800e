-- the document's numbers
def lq (k : Int) : Int := if k = 0 then 32369 else if k = 1 then 29921 else if k = 2 then 28289 else 26113
def lQ (l : Int) : Int := if l = 0 then 32369 else if l = 1 then 968512849 else if l = 2 then 27398259985361 else 715450762997731793
def mu (sm k : Int) : Int := if sm = 0 then lq k else 17
theorem c4 {k : Int} (h0 : 0 ≤ k) (h3 : k ≤ 3) : k = 0 ∨ k = 1 ∨ k = 2 ∨ k = 3 := by omega
theorem c8 {k : Int} (h0 : 0 ≤ k) (h3 : k < 8) : k = 0 ∨ k = 1 ∨ k = 2 ∨ k = 3 ∨ k = 4 ∨ k = 5 ∨ k = 6 ∨ k = 7 := by omega
theorem lq_bd (k : Int) : 26113 ≤ lq k ∧ lq k ≤ 32369 := by
  unfold lq
  split
  · omega
  · split
    · omega
    · split <;> omega
theorem mu_bd (sm k : Int) : 17 ≤ mu sm k ∧ mu sm k ≤ 32369 := by
  have := lq_bd k
  unfold mu
  split <;> omega
theorem lQ_bd (l : Int) : 32369 ≤ lQ l ∧ lQ l ≤ 715450762997731793 := by
  unfold lQ
  split
  · omega
  · split
    · omega
    · split <;> omega
theorem lq_dvd {k l : Int} (h0 : 0 ≤ k) (hk : k ≤ l) (hl : l ≤ 3) : lq k ∣ lQ l := by
  rcases c4 (k := l) (by omega) hl with rfl | rfl | rfl | rfl <;> rcases c4 (k := k) h0 (by omega) with rfl | rfl | rfl | rfl <;> first | (exfalso; omega) | decide +kernel
-- congruence
def cg (m a b : Int) : Prop := a % m = b % m
theorem cg_r {m a : Int} : cg m a a := rfl
theorem cg_s {m a b : Int} (h : cg m a b) : cg m b a := Eq.symm h
theorem cg_t {m a b c : Int} (h : cg m a b) (g : cg m b c) : cg m a c := Eq.trans h g
theorem cg_add {m a b c d : Int} (h : cg m a b) (g : cg m c d) : cg m (a + c) (b + d) := by
  unfold cg at *
  rw [Int.add_emod, h, g, ← Int.add_emod]
theorem cg_sub {m a b c d : Int} (h : cg m a b) (g : cg m c d) : cg m (a - c) (b - d) := by
  unfold cg at *
  rw [Int.sub_emod, h, g, ← Int.sub_emod]
theorem cg_mul {m a b c d : Int} (h : cg m a b) (g : cg m c d) : cg m (a * c) (b * d) := by
  unfold cg at *
  rw [Int.mul_emod, h, g, ← Int.mul_emod]
theorem cg_neg {m a b : Int} (h : cg m a b) : cg m (-a) (-b) := by
  have h1 := cg_sub (cg_r (m := m) (a := 0)) h
  rwa [Int.zero_sub, Int.zero_sub] at h1
theorem cg_mod {m a : Int} : cg m (a % m) a := Int.emod_emod_of_dvd a (Int.dvd_refl m)
theorem cg_dvd {m n a b : Int} (hd : m ∣ n) (h : cg n a b) : cg m a b := by
  unfold cg at *
  rw [← Int.emod_emod_of_dvd a hd, h, Int.emod_emod_of_dvd b hd]
-- sums, and the product of two polynomials modulo x^8 + 1
def sn (f : Int → Int) : Nat → Int
  | 0 => 0
  | n + 1 => sn f n + f n
theorem sn_step (f : Int → Int) {k : Int} (h : 0 ≤ k) : sn f (k + 1).toNat = sn f k.toNat + f k := by
  obtain ⟨n, rfl⟩ := Int.eq_ofNat_of_zero_le h
  have e : ((n : Int) + 1).toNat = n + 1 := by omega
  rw [e, Int.toNat_natCast]
  rfl
def nt (X Y : Int → Int) (i j : Int) : Int := if j ≤ i then X j * Y (i - j) else -(X j * Y (8 + i - j))
def nc (X Y : Int → Int) (i : Int) : Int := sn (nt X Y i) 8
theorem sn_cg {m : Int} {f g : Int → Int} : ∀ n : Nat, (∀ j : Int, 0 ≤ j → j < n → cg m (f j) (g j)) → cg m (sn f n) (sn g n)
  | 0, _ => rfl
  | n + 1, h => cg_add (sn_cg n fun j h0 h1 => h j h0 (by omega)) (h n (by omega) (by omega))
theorem sn_eq {f g : Int → Int} : ∀ n : Nat, (∀ j : Int, 0 ≤ j → j < n → f j = g j) → sn f n = sn g n
  | 0, _ => rfl
  | n + 1, h => by
    show sn f n + f n = sn g n + g n
    rw [sn_eq n fun j h0 h1 => h j h0 (by omega), h n (by omega) (by omega)]
theorem sn_bd {f : Int → Int} : ∀ n : Nat, (∀ j : Int, 0 ≤ j → j < n → -2000000000 ≤ f j ∧ f j ≤ 2000000000) → -(2000000000 * (n : Int)) ≤ sn f n ∧ sn f n ≤ 2000000000 * (n : Int)
  | 0, _ => by
    show -(2000000000 * ((0 : Nat) : Int)) ≤ 0 ∧ 0 ≤ 2000000000 * ((0 : Nat) : Int)
    omega
  | n + 1, h => by
    have h1 := sn_bd n fun j h0 h1 => h j h0 (by omega)
    have h2 := h n (by omega) (by omega)
    show -(2000000000 * ((n + 1 : Nat) : Int)) ≤ sn f n + f n ∧ sn f n + f n ≤ 2000000000 * ((n + 1 : Nat) : Int)
    omega
theorem nt_cg {m : Int} {X Y X1 Y1 : Int → Int} (hX : ∀ j : Int, 0 ≤ j → j < 8 → cg m (X j) (X1 j)) (hY : ∀ j : Int, 0 ≤ j → j < 8 → cg m (Y j) (Y1 j)) {i j : Int} (hi : 0 ≤ i) (hi8 : i < 8) (hj : 0 ≤ j) (hj8 : j < 8) : cg m (nt X Y i j) (nt X1 Y1 i j) := by
  unfold nt
  by_cases h : j ≤ i
  · rw [if_pos h, if_pos h]
    exact cg_mul (hX j hj hj8) (hY _ (by omega) (by omega))
  · rw [if_neg h, if_neg h]
    exact cg_neg (cg_mul (hX j hj hj8) (hY _ (by omega) (by omega)))
theorem nc_cg {m : Int} {X Y X1 Y1 : Int → Int} (hX : ∀ j : Int, 0 ≤ j → j < 8 → cg m (X j) (X1 j)) (hY : ∀ j : Int, 0 ≤ j → j < 8 → cg m (Y j) (Y1 j)) {i : Int} (hi : 0 ≤ i) (hi8 : i < 8) : cg m (nc X Y i) (nc X1 Y1 i) :=
  sn_cg 8 fun _ h0 h1 => nt_cg hX hY hi hi8 h0 h1
theorem nc_eq {X Y X1 Y1 : Int → Int} (hX : ∀ j : Int, 0 ≤ j → j < 8 → X j = X1 j) (hY : ∀ j : Int, 0 ≤ j → j < 8 → Y j = Y1 j) {i : Int} (hi : 0 ≤ i) (hi8 : i < 8) : nc X Y i = nc X1 Y1 i := by
  refine sn_eq 8 fun j h0 h1 => ?_
  unfold nt
  have h1 : j < 8 := h1
  by_cases h : j ≤ i
  · rw [if_pos h, if_pos h, hX j h0 h1, hY _ (by omega) (by omega)]
  · rw [if_neg h, if_neg h, hX j h0 h1, hY _ (by omega) (by omega)]
theorem mul_bd {x y : Int} (hx : 0 ≤ x) (hx1 : x ≤ 32369) (hy : 0 ≤ y) (hy1 : y ≤ 32369) : 0 ≤ x * y ∧ x * y ≤ 2000000000 := by
  refine ⟨Int.mul_nonneg hx hy, ?_⟩
  have h := Int.mul_le_mul hx1 hy1 hy (show (0 : Int) ≤ 32369 by decide)
  omega
theorem nt_bd {X Y : Int → Int} (hX : ∀ j : Int, 0 ≤ j → j < 8 → 0 ≤ X j ∧ X j ≤ 32369) (hY : ∀ j : Int, 0 ≤ j → j < 8 → 0 ≤ Y j ∧ Y j ≤ 32369) {i j : Int} (hi : 0 ≤ i) (hi8 : i < 8) (hj : 0 ≤ j) (hj8 : j < 8) : -2000000000 ≤ nt X Y i j ∧ nt X Y i j ≤ 2000000000 := by
  unfold nt
  by_cases h : j ≤ i
  · rw [if_pos h]
    have h1 := mul_bd (hX j hj hj8).1 (hX j hj hj8).2 (hY (i - j) (by omega) (by omega)).1 (hY (i - j) (by omega) (by omega)).2
    omega
  · rw [if_neg h]
    have h1 := mul_bd (hX j hj hj8).1 (hX j hj hj8).2 (hY (8 + i - j) (by omega) (by omega)).1 (hY (8 + i - j) (by omega) (by omega)).2
    omega
-- what stands in the rows of a polynomial: up to the row 'top' its coefficients modulo the rows' moduli
def Rep (c : Int → Int) (sm top : Int) (P : Int → Int) : Prop := ∀ k i : Int, 0 ≤ k → k ≤ top → 0 ≤ i → i < 8 → c (k * 8 + i) = P i % mu sm k
theorem Rep.bd {c P : Int → Int} {sm top k i : Int} (h : Rep c sm top P) (h0 : 0 ≤ k) (h1 : k ≤ top) (h2 : 0 ≤ i) (h3 : i < 8) : 0 ≤ c (k * 8 + i) ∧ c (k * 8 + i) < mu sm k := by
  rw [h k i h0 h1 h2 h3]
  have := (mu_bd sm k).1
  exact ⟨Int.emod_nonneg _ (by omega), Int.emod_lt_of_pos _ (by omega)⟩
theorem Rep.down {c P : Int → Int} {sm top t : Int} (h : Rep c sm top P) (ht : t ≤ top) : Rep c sm t P := fun k i h0 h1 h2 h3 => h k i h0 (by omega) h2 h3
theorem Rep.cg {c P P1 : Int → Int} {sm top : Int} (h : Rep c sm top P) (hp : ∀ k i : Int, 0 ≤ k → k ≤ top → 0 ≤ i → i < 8 → cg (mu sm k) (P i) (P1 i)) : Rep c sm top P1 := fun k i h0 h1 h2 h3 => (h k i h0 h1 h2 h3).trans (hp k i h0 h1 h2 h3)
theorem Rep.of {c d P : Int → Int} {sm top : Int} (h : Rep c sm top P) (hc : ∀ j : Int, 0 ≤ j → j < 8 * (top + 1) → d j = c j) : Rep d sm top P := fun k i h0 h1 h2 h3 => (hc _ (by omega) (by omega)).trans (h k i h0 h1 h2 h3)
/-- only the number modulo Q(top) counts -/
theorem Rep.mod {c P : Int → Int} {top : Int} (h : Rep c 0 top P) (ht : top ≤ 3) : Rep c 0 top (fun i => P i % lQ top) := h.cg fun k i h0 h1 _ _ => by
  have e : mu 0 k = lq k := by unfold mu; rw [if_pos rfl]
  rw [e]
  exact cg_s (Int.emod_emod_of_dvd (P i) (lq_dvd h0 h1 ht))
theorem Rep.unmod {c P : Int → Int} {top : Int} (h : Rep c 0 top (fun i => P i % lQ top)) (ht : top ≤ 3) : Rep c 0 top P := h.cg fun k i h0 h1 _ _ => by
  have e : mu 0 k = lq k := by unfold mu; rw [if_pos rfl]
  rw [e]
  exact Int.emod_emod_of_dvd (P i) (lq_dvd h0 h1 ht)
theorem Rep.zero {c : Int → Int} {sm top : Int} (h : ∀ j : Int, 0 ≤ j → j < 8 * (top + 1) → c j = 0) : Rep c sm top (fun _ => 0) := fun k i h0 h1 h2 h3 => by
  rw [h _ (by omega) (by omega)]
  rfl
-- centred numbers, lowering
def cen (x m : Int) : Int := if (m - 1) / 2 < x then x - m else x
def lk (d : Int) : Int := cen ((-d) % 17) 17
theorem lk_bd (d : Int) : -8 ≤ lk d ∧ lk d ≤ 8 ∧ (d + lk d) % 17 = 0 := by
  unfold lk cen
  split <;> omega
theorem lk_uniq {d k : Int} (h1 : -8 ≤ k) (h2 : k ≤ 8) (h3 : (d + k) % 17 = 0) : k = lk d := by
  have := lk_bd d
  omega
def lex (l c : Int) : Int := cen (c % lq l) (lq l) + lk (cen (c % lq l) (lq l)) * lq l
def low (l c : Int) : Int := (c - lex l c) / lq l
def pin (l k : Int) : Int := if l = 1 then 17996 else if l = 2 then (if k = 0 then 30219 else 9992) else (if k = 0 then 15486 else if k = 1 then 21380 else 13)
theorem cen_cg (x m : Int) : cg m (cen x m) x := by
  unfold cen
  split
  · exact Int.sub_emod_right x m
  · rfl
theorem cen_bd {x m : Int} (h0 : 0 ≤ x) (h1 : x < m) (hm : m ≤ 9223372036854775807) : -4611686018427387904 ≤ cen x m ∧ cen x m ≤ 4611686018427387903 := by
  unfold cen
  split <;> omega
theorem cen_bq {x m : Int} (h0 : 0 ≤ x) (h1 : x < m) (hm : m ≤ 32369) : -16185 ≤ cen x m ∧ cen x m ≤ 16185 := by
  unfold cen
  split <;> omega
theorem low_mul (l c : Int) : lq l * low l c = c - lex l c := by
  unfold low
  have hd : lq l ∣ c - lex l c := by
    apply Int.dvd_of_emod_eq_zero
    have h1 : cg (lq l) (lex l c) (c % lq l + 0) := by
      unfold lex
      exact cg_add (cen_cg _ _) (by unfold cg; simp)
    have h2 : cg (lq l) (c - lex l c) (c - (c % lq l + 0)) := cg_sub cg_r h1
    have h3 : cg (lq l) (c - (c % lq l + 0)) (c - c) := cg_sub cg_r (by rw [Int.add_zero]; exact cg_mod)
    have h4 := h2.trans h3
    rw [Int.sub_self] at h4
    exact h4.trans (Int.zero_emod _)
  exact Int.mul_ediv_cancel' hd
theorem pin_cg {l k : Int} (h0 : 0 ≤ k) (hk : k < l) (hl : l ≤ 3) : cg (lq k) (lq l * pin l k) 1 := by
  rcases c4 (k := l) (by omega) hl with rfl | rfl | rfl | rfl <;> rcases c4 (k := k) h0 (by omega) with rfl | rfl | rfl | rfl <;> first | (exfalso; omega) | (unfold cg; decide +kernel)
/-- one row of a lowered coefficient -/
theorem low_row {l k c : Int} (h0 : 0 ≤ k) (hk : k < l) (hl : l ≤ 3) : cg (lq k) ((c % lq k - lex l c) * pin l k) (low l c) := by
  have h1 : cg (lq k) ((c % lq k - lex l c) * pin l k) ((c - lex l c) * pin l k) := cg_mul (cg_sub cg_mod cg_r) cg_r
  rw [← low_mul] at h1
  have h2 : lq l * low l c * pin l k = lq l * pin l k * low l c := by
    rw [Int.mul_assoc, Int.mul_comm (low l c), ← Int.mul_assoc]
  rw [h2] at h1
  have h3 : cg (lq k) (lq l * pin l k * low l c) (1 * low l c) := cg_mul (pin_cg h0 hk hl) cg_r
  rw [Int.one_mul] at h3
  exact cg_t h1 h3
-- the number behind the rows
def gin (k : Int) : Int := if k = 1 then 13286 else if k = 2 then 14579 else 20255
/-- one step from modulo Q(k - 1) to modulo Q(k) -/
theorem garner {k V : Int} (h1 : 1 ≤ k) (h3 : k ≤ 3) : V % lQ (k - 1) + lQ (k - 1) * ((V % lq k - V % lQ (k - 1)) % lq k * gin k % lq k) = V % lQ k := by
  rcases c4 (k := k) (by omega) h3 with rfl | rfl | rfl | rfl
  · omega
  · show V % 32369 + 32369 * ((V % 29921 - V % 32369) % 29921 * 13286 % 29921) = V % 968512849
    omega
  · show V % 968512849 + 968512849 * ((V % 28289 - V % 968512849) % 28289 * 14579 % 28289) = V % 27398259985361
    omega
  · show V % 27398259985361 + 27398259985361 * ((V % 26113 - V % 27398259985361) % 26113 * 20255 % 26113) = V % 715450762997731793
    omega
-- draws
def dz (z : Int32) : Int32 := z * 1664525 + 1013904223
def dv (z : Int32) : Int := ((z.toUInt32 >>> ((8 : Int32).toUInt32 &&& Int32.toUInt32 31)).toInt32).toInt
def it : Nat → Int32 → Int32
  | 0, z => z
  | n + 1, z => dz (it n z)
theorem it_add (z : Int32) (a : Nat) : ∀ n : Nat, it n (it a z) = it (a + n) z
  | 0 => rfl
  | n + 1 => by
    show dz (it n (it a z)) = dz (it (a + n) z)
    rw [it_add z a n]
theorem dv_bd (z : Int32) : 0 ≤ dv z ∧ dv z < 16777216 := by
  have h1 := pk_ushr z 8 8 (by decide)
  have h2 : z.toBitVec.toNat < 2 ^ 32 := z.toBitVec.isLt
  generalize hw : (z.toUInt32 >>> ((8 : Int32).toUInt32 &&& Int32.toUInt32 31)).toInt32 = w at h1
  have h3 : dv z = w.toBitVec.toInt := by unfold dv; rw [hw]; rfl
  have h4 : w.toBitVec.toInt = w.toBitVec.toNat := BitVec.toInt_eq_toNat_of_lt (by omega)
  rw [h3, h4]
  omega
def sml (z : Int32) (i : Int) : Int := dv (it (i + 1).toNat z) % 3 - 1
def res (z : Int32) (i k : Int) : Int := dv (it (4 * i + k + 1).toNat z) % lq k
def un (k : Int) : Int := if k = 0 then 640809061782268224 else if k = 1 then 450011141326069060 else if k = 2 then 500580329881371041 else 554951756003487055
def uni (z : Int32) (i : Int) : Int := (un 0 * res z i 0 + un 1 * res z i 1 + un 2 * res z i 2 + un 3 * res z i 3) % lQ 3
theorem sml_bd (z : Int32) (i : Int) : -1 ≤ sml z i ∧ sml z i ≤ 1 := by
  unfold sml
  omega
theorem res_bd (z : Int32) (i k : Int) : 0 ≤ res z i k ∧ res z i k < lq k := by
  unfold res
  have := (lq_bd k).1
  exact ⟨Int.emod_nonneg _ (by omega), Int.emod_lt_of_pos _ (by omega)⟩
theorem un_cg {j k : Int} (hj : 0 ≤ j) (hj3 : j ≤ 3) (hk : 0 ≤ k) (hk3 : k ≤ 3) : cg (lq k) (un j) (if j = k then 1 else 0) := by
  rcases c4 hj hj3 with rfl | rfl | rfl | rfl <;> rcases c4 hk hk3 with rfl | rfl | rfl | rfl <;> (unfold cg; decide +kernel)
theorem uni_bd (z : Int32) (i : Int) : 0 ≤ uni z i ∧ uni z i < lQ 3 := by
  unfold uni
  have := (lQ_bd 3).1
  exact ⟨Int.emod_nonneg _ (by omega), Int.emod_lt_of_pos _ (by omega)⟩
theorem uni_res (z : Int32) (i : Int) {k : Int} (h0 : 0 ≤ k) (h3 : k ≤ 3) : uni z i % lq k = res z i k := by
  have hb := res_bd z i k
  unfold uni
  rw [Int.emod_emod_of_dvd _ (lq_dvd h0 h3 (by omega))]
  have h := cg_add (cg_add (cg_add (cg_mul (un_cg (j := 0) (by omega) (by omega) h0 h3) (cg_r (a := res z i 0))) (cg_mul (un_cg (j := 1) (by omega) (by omega) h0 h3) (cg_r (a := res z i 1)))) (cg_mul (un_cg (j := 2) (by omega) (by omega) h0 h3) (cg_r (a := res z i 2)))) (cg_mul (un_cg (j := 3) (by omega) (by omega) h0 h3) (cg_r (a := res z i 3)))
  refine Eq.trans h ?_
  rcases c4 h0 h3 with rfl | rfl | rfl | rfl
  · simp only [reduceIte, Int.one_mul, Int.zero_mul, Int.add_zero, Int.zero_add, show ¬ (1 : Int) = 0 by decide, show ¬ (2 : Int) = 0 by decide, show ¬ (3 : Int) = 0 by decide]
    exact Int.emod_eq_of_lt hb.1 hb.2
  · simp only [reduceIte, Int.one_mul, Int.zero_mul, Int.add_zero, Int.zero_add, show ¬ (0 : Int) = 1 by decide, show ¬ (2 : Int) = 1 by decide, show ¬ (3 : Int) = 1 by decide]
    exact Int.emod_eq_of_lt hb.1 hb.2
  · simp only [reduceIte, Int.one_mul, Int.zero_mul, Int.add_zero, Int.zero_add, show ¬ (0 : Int) = 2 by decide, show ¬ (1 : Int) = 2 by decide, show ¬ (3 : Int) = 2 by decide]
    exact Int.emod_eq_of_lt hb.1 hb.2
  · simp only [reduceIte, Int.one_mul, Int.zero_mul, Int.add_zero, Int.zero_add, show ¬ (0 : Int) = 3 by decide, show ¬ (1 : Int) = 3 by decide, show ¬ (2 : Int) = 3 by decide]
    exact Int.emod_eq_of_lt hb.1 hb.2
theorem uni_Rep {c : Int → Int} (z : Int32) (h : ∀ k i : Int, 0 ≤ k → k ≤ 3 → 0 ≤ i → i < 8 → c (k * 8 + i) = res z i k) : Rep c 0 3 (uni z) := fun k i h0 h1 h2 h3 => by
  rw [h k i h0 h1 h2 h3, ← uni_res z i h0 h1]
  rfl
-- shifts
def tsg (t i : Int) : Int := if ((i - t) % 8 + t) / 8 % 2 = 0 then 1 else -1
def trn (X : Int → Int) (t i : Int) : Int := tsg t i * X ((i - t) % 8)
theorem lex_bd (l c : Int) : -300000 ≤ lex l c ∧ lex l c ≤ 300000 := by
  have h := lq_bd l
  have b0 := Int.emod_nonneg c (show lq l ≠ 0 by omega)
  have b1 := Int.emod_lt_of_pos c (show 0 < lq l by omega)
  have h1 := cen_bq b0 b1 h.2
  have h2 := lk_bd (cen (c % lq l) (lq l))
  unfold lex
  generalize cen (c % lq l) (lq l) = d at h1 h2
  generalize lk d = k at h2
  generalize lq l = q at h
  have h3 : k * q ≤ 8 * 32369 := by
    rcases Int.le_total 0 k with h0 | h0
    · exact Int.mul_le_mul h2.2.1 h.2 (by omega) (by decide)
    · have := Int.mul_nonneg (show 0 ≤ -k by omega) (show 0 ≤ q by omega)
      rw [Int.neg_mul] at this
      omega
  have h4 : (-k) * q ≤ 8 * 32369 := by
    rcases Int.le_total 0 k with h0 | h0
    · have := Int.mul_nonneg (show 0 ≤ k by omega) (show 0 ≤ q by omega)
      rw [Int.neg_mul]
      omega
    · exact Int.mul_le_mul (show -k ≤ 8 by omega) h.2 (by omega) (by decide)
  rw [Int.neg_mul] at h4
  omega
theorem pin_bd (l k : Int) : 0 ≤ pin l k ∧ pin l k ≤ 32369 := by
  unfold pin
  repeat' split
  all_goals omega
theorem mul_bw {x y : Int} (h1 : -332369 ≤ x) (h2 : x ≤ 332369) (h3 : 0 ≤ y) (h4 : y ≤ 32369) : -100000000000 ≤ x * y ∧ x * y ≤ 100000000000 := by
  have h5 : x * y ≤ 332369 * 32369 := by
    rcases Int.le_total 0 x with h0 | h0
    · exact Int.mul_le_mul h2 h4 h3 (by decide)
    · have := Int.mul_nonneg (show 0 ≤ -x by omega) h3
      rw [Int.neg_mul] at this
      omega
  have h6 : (-x) * y ≤ 332369 * 32369 := by
    rcases Int.le_total 0 x with h0 | h0
    · have := Int.mul_nonneg h0 h3
      rw [Int.neg_mul]
      omega
    · exact Int.mul_le_mul (show -x ≤ 332369 by omega) h4 h3 (by decide)
  rw [Int.neg_mul] at h6
  omega
