-- the reference's rows of primes, products, units, as the constructor lays them
def prR : Int → Int := zu (zu (zu (zu (fun _ => 0) 0 32369) 1 29921) 2 28289) 3 26113
def bgR : Int → Int := zu (zu (zu (zu (fun _ => 0) 0 32369) 1 968512849) 2 27398259985361) 3 715450762997731793
def utR : Int → Int := zu (zu (zu (zu (fun _ => 0) 0 640809061782268224) 1 450011141326069060) 2 500580329881371041) 3 554951756003487055
theorem prR_e (k : Int) (h0 : 0 ≤ k) (h3 : k ≤ 3) : prR k = lq k := by
  rcases c4 h0 h3 with rfl | rfl | rfl | rfl <;> decide
theorem bgR_e (k : Int) (h0 : 0 ≤ k) (h3 : k ≤ 3) : bgR k = lQ k := by
  rcases c4 h0 h3 with rfl | rfl | rfl | rfl <;> decide
theorem utR_e (k : Int) (h0 : 0 ≤ k) (h3 : k ≤ 3) : utR k = un k := by
  rcases c4 h0 h3 with rfl | rfl | rfl | rfl <;> decide
theorem inv_0 {k : Int} (h0 : 0 ≤ k) (h1 : k ≤ 28991) : (22102961568097 * (k + 1)) % 32369 = 1 ↔ k = 28991 := by omega
theorem inv_1 {k : Int} (h0 : 0 ≤ k) (h1 : k ≤ 18819) : (23911325256433 * (k + 1)) % 29921 = 1 ↔ k = 18819 := by omega
theorem inv_2 {k : Int} (h0 : 0 ≤ k) (h1 : k ≤ 19792) : (25290776025937 * (k + 1)) % 28289 = 1 ↔ k = 19792 := by omega
theorem inv_3 {k : Int} (h0 : 0 ≤ k) (h1 : k ≤ 20254) : (27398259985361 * (k + 1)) % 26113 = 1 ↔ k = 20254 := by omega
