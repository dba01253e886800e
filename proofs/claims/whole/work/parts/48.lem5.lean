-- behind the reference's calls that change its gates
/-- what the reference's plainOf answers -/
def pof (kd : Nat) (ms X Y : Int → Int) (t i : Int) : Int := if kd = 0 then ms i else if kd = 1 then X i + Y i else if kd = 2 then X i - Y i else if kd = 4 then trn X t i else if kd = 5 then X i else nc X Y i
theorem pof_gpl {kd : Nat} (h1 : 1 ≤ kd) (h6 : kd < 6) {ms X Y : Int → Int} {t i : Int} (hX : p17 X) (h0 : 0 ≤ i) (h8 : i < 8) : pof kd ms X Y t i % 17 = gpl kd X Y t i := by
  unfold pof gpl
  rcases (show kd = 1 ∨ kd = 2 ∨ kd = 3 ∨ kd = 4 ∨ kd = 5 by omega) with rfl | rfl | rfl | rfl | rfl
  · rfl
  · rfl
  · rfl
  · rfl
  · have h := hX i h0 h8
    show X i % 17 = X i
    omega
theorem pof_0 {ms X Y : Int → Int} {t i : Int} (hX : p17 ms) (h0 : 0 ≤ i) (h8 : i < 8) : pof 0 ms X Y t i % 17 = ms i := by
  have h := hX i h0 h8
  show ms i % 17 = ms i
  omega
theorem inb_v {x v : Int} (h : 0 ≤ x) : (if x < v then 1 else 0) = inb x v := by
  unfold inb
  by_cases c : x < v
  · rw [if_pos c, if_pos ⟨h, c⟩]
  · rw [if_neg c, if_neg (fun g => c g.2)]
theorem PI_okW {n v : Nat} {msg : Int → Int} {G : Int → Gt} {V : Int → Val} (hI : PI n v msg G V) {x : Int} (h0 : 0 ≤ x) (h1 : x < v) : okW (V x) := by
  obtain ⟨a, ha⟩ := Int.eq_ofNat_of_zero_le h0
  subst ha
  exact hI.2.2.2.2 a (by omega)
theorem PI_p17 {n v : Nat} {msg : Int → Int} {G : Int → Gt} {V : Int → Val} (hI : PI n v msg G V) {x : Int} (h0 : 0 ≤ x) (h1 : x < n) : p17 (G x).2.2.2.2 := by
  obtain ⟨a, ha⟩ := Int.eq_ofNat_of_zero_le h0
  subst ha
  exact (hI.2.2.2.1 a (by omega)).2.1
theorem MS_add {ct : Nat → ClassId} {b : Nat} {z : Nat → va_E} {K : Ky} {n v : Nat} {msg : Int → Int} {G : Int → Gt} {V : Int → Val} {R ms kd fi se pl hs lv mt vv : Int → Int} {g : Gt} (hvn : v ≤ n) (h2 : kR R K) (h3 : ∀ i : Int, 0 ≤ i → i < 8 → ms i = msg i) (h4 : MG n kd fi se pl G) (h5 : MH n v hs) (h6 : MV v R lv mt V) {z1 : Int32} {sm wv wm kd2 fi2 se2 pl2 hs2 : Int → Int} (h1 : MW ct b z z1 ((n + 1 : Nat) : Int) K.1 R sm ms kd2 fi2 se2 pl2 hs2 lv mt wv wm vv) (e1 : kd2 = zu kd n (g.1 : Int)) (e2 : fi2 = zu fi n (mfi g)) (e3 : se2 = zu se n (mse g)) (e4 : hs2 = zu hs n 0) (e5 : ∀ j : Int, j < 8 * (n : Int) → pl2 j = pl j) (e6 : ∀ i : Int, 0 ≤ i → i < 8 → pl2 (8 * (n : Int) + i) = g.2.2.2.2 i) : MS ct b z K (n + 1) v msg (addG G n g) V := by
  refine ⟨z1, R, sm, ms, kd2, fi2, se2, pl2, hs2, lv, mt, wv, wm, vv, h1, h2, h3, fun x a c => ?_, fun x a c => ?_, h6⟩
  · subst e1 e2 e3 e4
    by_cases e : x = n
    · subst e
      rw [addG_s]
      exact ⟨zu_s, zu_s, zu_s, e6⟩
    · rw [addG_n e, zu_n e, zu_n e, zu_n e]
      obtain ⟨a1, a2, a3, a4⟩ := h4 x a (by omega)
      exact ⟨a1, a2, a3, fun i p q => (e5 _ (by omega)).trans (a4 i p q)⟩
  · subst e1 e2 e3 e4
    by_cases e : x = n
    · subst e
      rw [zu_s, if_neg (by omega)]
    · rw [zu_n e]
      exact h5 x a (by omega)
theorem MS_cut {ct : Nat → ClassId} {b : Nat} {z : Nat → va_E} {K : Ky} {n v g : Nat} {msg : Int → Int} {G : Int → Gt} {V : Int → Val} {R ms kd fi se pl hs lv mt vv : Int → Int} (hg : g < n) (h2 : kR R K) (h3 : ∀ i : Int, 0 ≤ i → i < 8 → ms i = msg i) (h4 : MG n kd fi se pl G) (h5 : MH n v hs) (h6 : MV v R lv mt V) {z1 : Int32} {sm wv wm : Int → Int} (h1 : MW ct b z z1 (g : Int) K.1 R sm ms kd fi se pl hs lv mt wv wm vv) : MS ct b z K g (min v g) msg G V := by
  refine ⟨z1, R, sm, ms, kd, fi, se, pl, hs, lv, mt, wv, wm, vv, h1, h2, h3, fun x a c => h4 x a (by omega), fun x a c => ?_, fun x a c => h6 x a (by omega)⟩
  rw [h5 x a (by omega)]
  by_cases f : x < v
  · rw [if_pos f, if_pos (by omega)]
  · rw [if_neg f, if_neg (by omega)]
-- the numbers' invariant behind each call
theorem PI_put {n v : Nat} {msg : Int → Int} {G : Int → Gt} {V : Int → Val} (hI : PI n v msg G V) (x y : Int) : PI n v (putm msg x y) G V := by
  obtain ⟨h1, h2, h3, h4, h5⟩ := hI
  refine ⟨h1, h2, fun i a c => ?_, h4, h5⟩
  unfold putm
  by_cases hx : 0 ≤ x ∧ x < 8
  · rw [if_pos hx]
    by_cases e : i = x
    · subst e
      rw [zu_s]
      omega
    · rw [zu_n e]; exact h3 i a c
  · rw [if_neg hx]; exact h3 i a c
theorem PI_add {n v : Nat} {msg : Int → Int} {G : Int → Gt} {V : Int → Val} {g : Gt} (hI : PI n v msg G V) (hn : n < 24) (hg : okG g n) : PI (n + 1) v msg (addG G n g) V := by
  obtain ⟨h1, h2, h3, h4, h5⟩ := hI
  refine ⟨by omega, by omega, h3, fun i hi => ?_, h5⟩
  by_cases e : i = n
  · subst e; rw [addG_s]; exact hg
  · rw [addG_n (by omega)]; exact h4 i (by omega)
theorem PI_cut {n v g : Nat} {msg : Int → Int} {G : Int → Gt} {V : Int → Val} (hI : PI n v msg G V) (hg : g < n) : PI g (min v g) msg G V := by
  obtain ⟨h1, h2, h3, h4, h5⟩ := hI
  exact ⟨by omega, by omega, h3, fun i hi => h4 i (by omega), fun i hi => h5 i (by omega)⟩
theorem p17_gpl {kd : Nat} (h1 : 1 ≤ kd) (h6 : kd < 6) {X Y : Int → Int} {t : Int} (hX : p17 X) : p17 (gpl kd X Y t) := fun i h0 h8 => by
  rw [← pof_gpl (ms := X) h1 h6 hX h0 h8]
  omega
theorem PI_rn {K : Ky} {n : Nat} {msg : Int → Int} {G : Int → Gt} : ∀ (f v : Nat) (V : Int → Val), PI n v msg G V → PI n (rnS K G n f v V).1 msg G (rnS K G n f v V).2
  | 0, _, _, h => h
  | f + 1, v, V, h => by
    by_cases hv : v < n
    · cases e : gv K V (G v) with
      | none => rw [rnS_n hv e]; exact h
      | some w => rw [rnS_s hv e]; exact PI_rn f (v + 1) _ (PI_val h hv (gv_ok h hv e))
    · rw [rnS_x (by omega)]; exact h
theorem okK_kyO (z0 : Int32) : okK (kyO z0) := by
  refine ⟨fun i => sml_bd z0 i, fun j i _ _ _ _ => ⟨?_, ?_⟩⟩
  · have h := uni_bd (it (8 + 40 * j.toNat) z0) i
    have h2 := (lQ_bd 3).2
    exact ⟨h.1, show uni (it (8 + 40 * j.toNat) z0) i ≤ _ by omega⟩
  · have h2 := lQ_bd 3
    have h3 := Int.emod_nonneg (17 * sml (it 32 (it (8 + 40 * j.toNat) z0)) i + (-1) * nc (uni (it (8 + 40 * j.toNat) z0)) (sml z0) i + un j * nc (sml z0) (sml z0) i) (show lQ 3 ≠ 0 by omega)
    have h4 := Int.emod_lt_of_pos (17 * sml (it 32 (it (8 + 40 * j.toNat) z0)) i + (-1) * nc (uni (it (8 + 40 * j.toNat) z0)) (sml z0) i + un j * nc (sml z0) (sml z0) i) (show 0 < lQ 3 by omega)
    exact ⟨h3, Int.le_trans (Int.le_of_lt h4) h2.2⟩
theorem gpl_t {kd : Nat} {X Y : Int → Int} {t s i : Int} (h : kd ≤ 3) : gpl kd X Y t i = gpl kd X Y s i := by
  unfold gpl
  rcases (show kd = 0 ∨ kd = 1 ∨ kd = 2 ∨ kd = 3 by omega) with rfl | rfl | rfl | rfl <;> rfl
theorem GV_part {R lv mt : Int → Int} {x y t : Int} {v : Val} (h : GV R lv mt x v) (hy : y = 0 ∨ y = 1) (h0 : 0 ≤ t) (h8 : t < 8) : R (8 * (8 + 2 * x + y) + t) = if y = 0 then v.2.2.1 t else v.2.2.2 t := by
  rcases hy with rfl | rfl
  · rw [if_pos rfl, show 8 * (8 + 2 * x + 0) + t = 8 * (8 + 2 * x) + t by omega]
    exact h.2.2.1 t h0 h8
  · rw [if_neg (by decide), show 8 * (8 + 2 * x + 1) + t = 8 * (8 + 2 * x) + 8 + t by omega]
    exact h.2.2.2 t h0 h8
theorem sn_b {f : Int → Int} {B : Int} : ∀ n : Nat, (∀ j : Int, 0 ≤ j → j < n → -B ≤ f j ∧ f j ≤ B) → -(B * n) ≤ sn f n ∧ sn f n ≤ B * n
  | 0, _ => by
    show -(B * ((0 : Nat) : Int)) ≤ 0 ∧ 0 ≤ B * ((0 : Nat) : Int)
    omega
  | n + 1, h => by
    have h1 := sn_b n fun j h0 h1 => h j h0 (by omega)
    have h2 := h n (by omega) (by omega)
    show -(B * ((n + 1 : Nat) : Int)) ≤ sn f n + f n ∧ sn f n + f n ≤ B * ((n + 1 : Nat) : Int)
    have e : B * ((n + 1 : Nat) : Int) = B * (n : Int) + B := by
      rw [show ((n + 1 : Nat) : Int) = (n : Int) + 1 by omega, Int.mul_add, Int.mul_one]
    omega
theorem nt_17 {X Y : Int → Int} (hX : p17 X) (hY : p17 Y) {i j : Int} (hi : 0 ≤ i) (hi8 : i < 8) (hj : 0 ≤ j) (hj8 : j < 8) : -256 ≤ nt X Y i j ∧ nt X Y i j ≤ 256 := by
  have m17 : ∀ {x y : Int}, 0 ≤ x ∧ x < 17 → 0 ≤ y ∧ y < 17 → 0 ≤ x * y ∧ x * y ≤ 256 := fun {x y} a c => by
    refine ⟨Int.mul_nonneg a.1 c.1, ?_⟩
    have h := Int.mul_le_mul (show x ≤ 16 by omega) (show y ≤ 16 by omega) c.1 (show (0 : Int) ≤ 16 by decide)
    omega
  unfold nt
  by_cases h : j ≤ i
  · rw [if_pos h]
    have := m17 (hX j hj hj8) (hY (i - j) (by omega) (by omega))
    omega
  · rw [if_neg h]
    have := m17 (hX j hj hj8) (hY (8 + i - j) (by omega) (by omega))
    omega
theorem nc_17 {X Y : Int → Int} (hX : p17 X) (hY : p17 Y) {i : Int} (h0 : 0 ≤ i) (h8 : i < 8) : -16000 ≤ nc X Y i ∧ nc X Y i ≤ 16000 := by
  have h := sn_b (f := nt X Y i) (B := 256) 8 (fun j a c => nt_17 hX hY h0 h8 a (by omega))
  unfold nc
  omega
theorem pof_bd {kd : Nat} {ms X Y : Int → Int} {t i : Int} (h6 : kd < 6) (hm : p17 ms) (hX : 1 ≤ kd → p17 X) (hY : 1 ≤ kd → kd ≤ 3 → p17 Y) (h0 : 0 ≤ i) (h8 : i < 8) : -16000 ≤ pof kd ms X Y t i ∧ pof kd ms X Y t i ≤ 16000 := by
  have a := hm i h0 h8
  rcases (show kd = 0 ∨ kd = 1 ∨ kd = 2 ∨ kd = 3 ∨ kd = 4 ∨ kd = 5 by omega) with rfl | rfl | rfl | rfl | rfl | rfl
  · show -16000 ≤ ms i ∧ ms i ≤ 16000
    omega
  · have c := hX (by decide) i h0 h8
    have d := hY (by decide) (by decide) i h0 h8
    show -16000 ≤ X i + Y i ∧ X i + Y i ≤ 16000
    omega
  · have c := hX (by decide) i h0 h8
    have d := hY (by decide) (by decide) i h0 h8
    show -16000 ≤ X i - Y i ∧ X i - Y i ≤ 16000
    omega
  · exact nc_17 (hX (by decide)) (hY (by decide) (by decide)) h0 h8
  · have c := hX (by decide) ((i - t) % 8) (by omega) (by omega)
    show -16000 ≤ tsg t i * X ((i - t) % 8) ∧ tsg t i * X ((i - t) % 8) ≤ 16000
    rcases tsg_01 t i with e | e <;> rw [e] <;> omega
  · have c := hX (by decide) i h0 h8
    show -16000 ≤ X i ∧ X i ≤ 16000
    omega
