-- the reference's state
def MW (ct : Nat → ClassId) (b : Nat) (u : Nat → va_E) (z : Int32) (cnt : Int) (S R sm ms kd fi se pl hs lv mt wv wm vv : Int → Int) : Prop :=
  u 236 = mo b z cnt ∧ MK ct u ∧ ME ct u S ∧ u 237 = lr ct 512 R ∧ u 242 = ir ct 8 sm ∧ u 243 = ir ct 8 ms ∧ u 244 = ir ct 24 kd ∧ u 245 = ir ct 24 fi ∧ u 246 = ir ct 24 se ∧ u 247 = ir ct 192 pl ∧ u 248 = zr ct 24 hs ∧ u 249 = ir ct 24 lv ∧ u 250 = lr ct 24 mt ∧ u 251 = ir ct 2 wv ∧ u 252 = lr ct 2 wm ∧ u 253 = lr ct 8 vv
theorem MW.of {ct : Nat → ClassId} {b : Nat} {u w : Nat → va_E} {z : Int32} {cnt : Int} {S R sm ms kd fi se pl hs lv mt wv wm vv : Int → Int} (h : MW ct b u z cnt S R sm ms kd fi se pl hs lv mt wv wm vv) (hz : ∀ j, 236 ≤ j → j < 254 → w j = u j) : MW ct b w z cnt S R sm ms kd fi se pl hs lv mt wv wm vv := by
  obtain ⟨h1, h2, ⟨sc, h3, h3b⟩, h4, h5, h6, h7, h8, h9, h10, h11, h12, h13, h14, h15, h16⟩ := h
  exact ⟨(hz _ (by omega) (by omega)).trans h1, h2.of fun j a c => hz j (by omega) (by omega), ⟨sc, (hz _ (by omega) (by omega)).trans h3, h3b⟩, (hz _ (by omega) (by omega)).trans h4, (hz _ (by omega) (by omega)).trans h5, (hz _ (by omega) (by omega)).trans h6, (hz _ (by omega) (by omega)).trans h7, (hz _ (by omega) (by omega)).trans h8, (hz _ (by omega) (by omega)).trans h9, (hz _ (by omega) (by omega)).trans h10, (hz _ (by omega) (by omega)).trans h11, (hz _ (by omega) (by omega)).trans h12, (hz _ (by omega) (by omega)).trans h13, (hz _ (by omega) (by omega)).trans h14, (hz _ (by omega) (by omega)).trans h15, (hz _ (by omega) (by omega)).trans h16⟩
/-- the pair of rows from the place at on is v's -/
def RV (R : Int → Int) (a : Int) (v : Val) : Prop := (∀ i : Int, 0 ≤ i → i < 8 → R (a + i) = v.2.2.1 i) ∧ ∀ i : Int, 0 ≤ i → i < 8 → R (a + 8 + i) = v.2.2.2 i
/-- the work value w is v -/
def WV (R wv wm : Int → Int) (w : Int) (v : Val) : Prop := wv w = v.1 ∧ wm w = v.2.1 ∧ RV R (8 * (56 + 2 * w)) v
/-- the value of the gate x is v -/
def GV (R lv mt : Int → Int) (x : Int) (v : Val) : Prop := lv x = v.1 ∧ mt x = v.2.1 ∧ RV R (8 * (8 + 2 * x)) v
theorem RV.of {R R2 : Int → Int} {a c : Int} {v : Val} (h : RV R a v) (hz : ∀ i : Int, 0 ≤ i → i < 16 → R2 (c + i) = R (a + i)) : RV R2 c v :=
  ⟨fun i h0 h1 => (hz i h0 (by omega)).trans (h.1 i h0 h1), fun i h0 h1 => by
    have e := hz (8 + i) (by omega) (by omega)
    rw [← Int.add_assoc, ← Int.add_assoc] at e
    exact e.trans (h.2 i h0 h1)⟩
theorem RV.bd {R : Int → Int} {a : Int} {v : Val} (h : RV R a v) (h1 : rd v.1 v.2.2.1) (h2 : rd v.1 v.2.2.2) {i : Int} (h0 : 0 ≤ i) (hi : i < 16) : 0 ≤ R (a + i) ∧ R (a + i) < lQ v.1 := by
  by_cases h8 : i < 8
  · rw [h.1 i h0 h8]; exact h1 i h0 h8
  · have e := h.2 (i - 8) (by omega) (by omega)
    rw [show a + 8 + (i - 8) = a + i by omega] at e
    rw [e]; exact h2 (i - 8) (by omega) (by omega)
/-- rows that hold the lowered value -/
theorem RV.low {R R2 : Int → Int} {a : Int} {v : Val} (h : RV R a v) (hz : ∀ i : Int, 0 ≤ i → i < 16 → R2 (a + i) = low v.1 (R (a + i)) % lQ (v.1 - 1)) : RV R2 a (lw1 v) :=
  ⟨fun i h0 h1 => (hz i h0 (by omega)).trans (by rw [h.1 i h0 h1]; rfl), fun i h0 h1 => by
    have e := hz (8 + i) (by omega) (by omega)
    rw [← Int.add_assoc] at e
    exact e.trans (by rw [h.2 i h0 h1]; rfl)⟩
theorem opn_e {x y : Val} (h : x.1 = y.1) : opn x y = some (x, y) := by
  unfold opn
  rw [show (x.1 - y.1).toNat = 0 by omega]
  show (lowT (y.1 - x.1).toNat y).bind _ = _
  rw [show (y.1 - x.1).toNat = 0 by omega]
  rfl
theorem opn_l {x y : Val} (hx : okV x) (h : y.1 < x.1) : opn x y = (low1 x).bind fun x1 => opn x1 y := by
  unfold opn
  rw [show (x.1 - y.1).toNat = (x.1 - 1 - y.1).toNat + 1 by omega]
  show ((low1 x).bind (lowT (x.1 - 1 - y.1).toNat)).bind _ = _
  cases e : low1 x with
  | none => rfl
  | some x1 =>
    have h1 := (low1_ok hx e).2.1
    show (lowT (x.1 - 1 - y.1).toNat x1).bind _ = (lowT (x1.1 - y.1).toNat x1).bind _
    rw [h1]
theorem opn_r {x y : Val} (hy : okV y) (h : x.1 < y.1) : opn x y = (low1 y).bind fun y1 => opn x y1 := by
  unfold opn
  rw [show (x.1 - y.1).toNat = 0 by omega]
  show (lowT (y.1 - x.1).toNat y).bind _ = _
  rw [show (y.1 - x.1).toNat = (y.1 - 1 - x.1).toNat + 1 by omega]
  show ((low1 y).bind (lowT (y.1 - 1 - x.1).toNat)).bind _ = _
  cases e : low1 y with
  | none => rfl
  | some y1 =>
    have h1 := (low1_ok hy e).2.1
    show (lowT (y.1 - 1 - x.1).toNat y1).bind _ = (lowT (x.1 - y1.1).toNat x).bind _
    rw [show (x.1 - y1.1).toNat = 0 by omega]
    show _ = (lowT (y1.1 - x.1).toNat y1).bind _
    rw [h1]
def kR (R : Int → Int) (K : Ky) : Prop := ∀ j i : Int, 0 ≤ j → j ≤ 3 → 0 ≤ i → i < 8 → R (8 * j + i) = K.2.1 j i ∧ R (8 * (4 + j) + i) = K.2.2 j i
def mfi (G : Gt) : Int := if G.1 = 0 then G.2.2.2.1 else G.2.1
def mse (G : Gt) : Int := if G.1 = 0 then 0 else if G.1 = 4 then G.2.2.2.1 else if G.1 = 5 then 0 else G.2.2.1
def MG (n : Nat) (kd fi se pl : Int → Int) (G : Int → Gt) : Prop := ∀ x : Int, 0 ≤ x → x < n → kd x = (G x).1 ∧ fi x = mfi (G x) ∧ se x = mse (G x) ∧ ∀ i : Int, 0 ≤ i → i < 8 → pl (8 * x + i) = (G x).2.2.2.2 i
def MH (n v : Nat) (hs : Int → Int) : Prop := ∀ x : Int, 0 ≤ x → x < n → hs x = if x < v then 1 else 0
def MV (v : Nat) (R lv mt : Int → Int) (V : Int → Val) : Prop := ∀ x : Int, 0 ≤ x → x < v → GV R lv mt x (V x)
/-- the keys are as they should be -/
def okK (K : Ky) : Prop := (∀ i : Int, -1 ≤ K.1 i ∧ K.1 i ≤ 1) ∧ ∀ j i : Int, 0 ≤ j → j ≤ 3 → 0 ≤ i → i < 8 → (0 ≤ K.2.1 j i ∧ K.2.1 j i ≤ 715450762997731793) ∧ 0 ≤ K.2.2 j i ∧ K.2.2 j i ≤ 715450762997731793
