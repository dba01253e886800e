-- values, gates, keys: the document's words
abbrev Val : Type := Int × Int × (Int → Int) × (Int → Int)
/-- one level lower -/
def lw1 (v : Val) : Val := (v.1 - 1, v.2.1 / lq v.1 + 77, fun i => low v.1 (v.2.2.1 i) % lQ (v.1 - 1), fun i => low v.1 (v.2.2.2 i) % lQ (v.1 - 1))
def low1 (v : Val) : Option Val := if v.1 ≤ 0 then none else if tg (lw1 v).1 (lw1 v).2.1 = 1 then none else some (lw1 v)
theorem low1_0 {v : Val} (h : v.1 ≤ 0) : low1 v = none := by
  unfold low1
  rw [if_pos h]
theorem low1_s {v : Val} (h0 : 0 < v.1) (h : tg (v.1 - 1) (v.2.1 / lq v.1 + 77) = 0) : low1 v = some (lw1 v) := by
  have h1 : ¬ tg (lw1 v).1 (lw1 v).2.1 = 1 := fun g => by
    have g1 : tg (v.1 - 1) (v.2.1 / lq v.1 + 77) = 1 := g
    omega
  unfold low1
  rw [if_neg (by omega), if_neg h1]
theorem low1_n {v : Val} (h0 : 0 < v.1) (h : tg (v.1 - 1) (v.2.1 / lq v.1 + 77) = 1) : low1 v = none := by
  have h1 : tg (lw1 v).1 (lw1 v).2.1 = 1 := h
  unfold low1
  rw [if_neg (by omega), if_pos h1]
def lowT : Nat → Val → Option Val
  | 0, v => some v
  | n + 1, v => (low1 v).bind (lowT n)
/-- a value that a gate can have -/
def okV (v : Val) : Prop := 0 ≤ v.1 ∧ v.1 ≤ 3 ∧ 0 ≤ v.2.1 ∧ v.2.1 ≤ (lQ v.1 - 1) / 2
theorem okV.bd {v : Val} (h : okV v) : v.2.1 ≤ 400000000000000000 := by
  have h1 := lQ_bd v.1
  have h2 := h.2.2.2
  omega
theorem tg_le {lv mt : Int} : tg lv mt = 0 ↔ mt ≤ (lQ lv - 1) / 2 := by
  unfold tg
  split <;> omega
theorem low1_ok {v w : Val} (hv : okV v) (h : low1 v = some w) : okV w ∧ w.1 = v.1 - 1 ∧ 0 < v.1 := by
  unfold low1 at h
  by_cases h0 : v.1 ≤ 0
  · rw [if_pos h0] at h; cases h
  · rw [if_neg h0] at h
    by_cases h1 : tg (lw1 v).1 (lw1 v).2.1 = 1
    · rw [if_pos h1] at h; cases h
    · rw [if_neg h1] at h
      have e := Option.some.inj h
      subst e
      have h2 := tg_01 (lw1 v).1 (lw1 v).2.1
      have h3 := tg_le.mp (show tg (lw1 v).1 (lw1 v).2.1 = 0 by omega)
      have h4 := lq_bd v.1
      have h5 : 0 ≤ v.2.1 / lq v.1 := Int.ediv_nonneg hv.2.2.1 (by omega)
      have h6 := hv.2.1
      refine ⟨⟨?_, ?_, ?_, h3⟩, rfl, by omega⟩
      · show 0 ≤ v.1 - 1; omega
      · show v.1 - 1 ≤ 3; omega
      · show 0 ≤ v.2.1 / lq v.1 + 77; omega
theorem lowT_ok : ∀ (n : Nat) {v w : Val}, okV v → lowT n v = some w → okV w ∧ w.1 = v.1 - n
  | 0, v, w, hv, h => by
    have e := Option.some.inj h
    subst e
    exact ⟨hv, by omega⟩
  | n + 1, v, w, hv, h => by
    have h1 : (low1 v).bind (lowT n) = some w := h
    cases h2 : low1 v with
    | none => rw [h2] at h1; cases h1
    | some x =>
      rw [h2] at h1
      obtain ⟨a1, a2, a3⟩ := low1_ok hv h2
      obtain ⟨b1, b2⟩ := lowT_ok n a1 h1
      exact ⟨b1, by omega⟩
section VV
variable {ct : Nat → ClassId} {b : Nat} {u z : Nat → va_E} {k : Nat}
/-- the Value at the place k is v -/
def VV (ct : Nat → ClassId) (b : Nat) (u : Nat → va_E) (k : Nat) (v : Val) : Prop := ∃ g0 g1 : Int → Int, VR ct b u k v.1 v.2.1 g0 g1 ∧ Rep g0 0 v.1 v.2.2.1 ∧ Rep g1 0 v.1 v.2.2.2
/-- the Value at the place k, whatever it is -/
def VS (ct : Nat → ClassId) (b : Nat) (u : Nat → va_E) (k : Nat) : Prop := ∃ (lv mt : Int) (g0 g1 : Int → Int), VR ct b u k lv mt g0 g1
/-- the big Poly at the place k, whatever it is -/
def PS (ct : Nat → ClassId) (b : Nat) (u : Nat → va_E) (k : Nat) : Prop := u k = po b k 0 ∧ ∃ g : Int → Int, u (k + 1) = ir ct 32 g
/-- the big Poly at the place k is P modulo Q(top) -/
def PV (ct : Nat → ClassId) (b : Nat) (u : Nat → va_E) (k : Nat) (top : Int) (P : Int → Int) : Prop := u k = po b k 0 ∧ ∃ g : Int → Int, u (k + 1) = ir ct 32 g ∧ Rep g 0 top P
/-- the small Poly at the place k has the coefficients X -/
def SV (ct : Nat → ClassId) (b : Nat) (u : Nat → va_E) (k : Nat) (X : Int → Int) : Prop := u k = po b k 1 ∧ ∃ g : Int → Int, u (k + 1) = ir ct 8 g ∧ ∀ i : Int, 0 ≤ i → i < 8 → g i = X i
theorem VV.VS {v : Val} (h : VV ct b u k v) : VS ct b u k := by
  obtain ⟨g0, g1, h1, -, -⟩ := h
  exact ⟨_, _, g0, g1, h1⟩
theorem PV.PS {top : Int} {P : Int → Int} (h : PV ct b u k top P) : PS ct b u k := by
  obtain ⟨h0, g, h1, -⟩ := h
  exact ⟨h0, g, h1⟩
theorem VR.of {lv mt : Int} {g0 g1 : Int → Int} (h : VR ct b u k lv mt g0 g1) (hz : ∀ j, k ≤ j → j < k + 5 → z j = u j) : VR ct b z k lv mt g0 g1 :=
  ⟨(hz k (by omega) (by omega)).trans h.1, (hz (k + 1) (by omega) (by omega)).trans h.2.1, (hz (k + 2) (by omega) (by omega)).trans h.2.2.1, (hz (k + 3) (by omega) (by omega)).trans h.2.2.2.1, (hz (k + 4) (by omega) (by omega)).trans h.2.2.2.2⟩
theorem VV.of {v : Val} (h : VV ct b u k v) (hz : ∀ j, k ≤ j → j < k + 5 → z j = u j) : VV ct b z k v := by
  obtain ⟨g0, g1, h1, h2, h3⟩ := h
  exact ⟨g0, g1, h1.of hz, h2, h3⟩
theorem VS.of (h : VS ct b u k) (hz : ∀ j, k ≤ j → j < k + 5 → z j = u j) : VS ct b z k := by
  obtain ⟨lv, mt, g0, g1, h1⟩ := h
  exact ⟨lv, mt, g0, g1, h1.of hz⟩
theorem PS.of (h : PS ct b u k) (hz : ∀ j, k ≤ j → j < k + 2 → z j = u j) : PS ct b z k := by
  obtain ⟨h0, g, h1⟩ := h
  exact ⟨(hz k (by omega) (by omega)).trans h0, g, (hz (k + 1) (by omega) (by omega)).trans h1⟩
theorem PV.of {top : Int} {P : Int → Int} (h : PV ct b u k top P) (hz : ∀ j, k ≤ j → j < k + 2 → z j = u j) : PV ct b z k top P := by
  obtain ⟨h0, g, h1, h2⟩ := h
  exact ⟨(hz k (by omega) (by omega)).trans h0, g, (hz (k + 1) (by omega) (by omega)).trans h1, h2⟩
theorem SV.of {X : Int → Int} (h : SV ct b u k X) (hz : ∀ j, k ≤ j → j < k + 2 → z j = u j) : SV ct b z k X := by
  obtain ⟨h0, g, h1, h2⟩ := h
  exact ⟨(hz k (by omega) (by omega)).trans h0, g, (hz (k + 1) (by omega) (by omega)).trans h1, h2⟩
end VV
abbrev Ky : Type := (Int → Int) × (Int → Int → Int) × (Int → Int → Int)
/-- the keys that are drawn from z0 on -/
def kyO (z0 : Int32) : Ky := (sml z0, fun j => uni (it (8 + 40 * j.toNat) z0), fun j i => (17 * sml (it 32 (it (8 + 40 * j.toNat) z0)) i + (-1) * nc (uni (it (8 + 40 * j.toNat) z0)) (sml z0) i + un j * nc (sml z0) (sml z0) i) % lQ 3)
/-- the Keys at the place 21 -/
def KS (ct : Nat → ClassId) (b : Nat) (u : Nat → va_E) (K : Ky) : Prop := u 21 = ky b 21 22 24 25 ∧ PV ct b u 22 3 K.1 ∧ (∃ f : Nat → Option Nat, u 24 = qr ct 4 4 f ∧ ∀ i : Nat, i < 4 → f i = some (b + (28 + 4 * i))) ∧ (∃ f : Nat → Option Nat, u 25 = qr ct 4 4 f ∧ ∀ i : Nat, i < 4 → f i = some (b + (30 + 4 * i))) ∧ ∀ i : Nat, i < 4 → PV ct b u (28 + 4 * i) 3 (K.2.1 i) ∧ PV ct b u (30 + 4 * i) 3 (K.2.2 i)
theorem KS.of {ct : Nat → ClassId} {b : Nat} {u z : Nat → va_E} {K : Ky} (h : KS ct b u K) (hz : ∀ j, 21 ≤ j → j < 44 → z j = u j) : KS ct b z K := by
  obtain ⟨h1, h2, ⟨fa, h3, h4⟩, ⟨fb, h5, h6⟩, h7⟩ := h
  exact ⟨(hz 21 (by omega) (by omega)).trans h1, h2.of fun j a c => hz j (by omega) (by omega), ⟨fa, (hz 24 (by omega) (by omega)).trans h3, h4⟩, ⟨fb, (hz 25 (by omega) (by omega)).trans h5, h6⟩, fun i hi => ⟨(h7 i hi).1.of fun j a c => hz j (by omega) (by omega), (h7 i hi).2.of fun j a c => hz j (by omega) (by omega)⟩⟩
-- operands of one level, quietened
abbrev V2 : Type := Val × Val
def opn (x y : Val) : Option V2 := (lowT (x.1 - y.1).toNat x).bind fun x1 => (lowT (y.1 - x1.1).toNat y).bind fun y1 => some (x1, y1)
def qt : Nat → V2 → Option V2
  | 0, p => some p
  | n + 1, p => if 0 < p.1.1 ∧ (1000 < p.1.2.1 ∨ 1000 < p.2.2.1) then (low1 p.1).bind fun x => (low1 p.2).bind fun y => qt n (x, y) else some p
/-- the sum, or the difference -/
def sumV (sg : Int) (p : V2) : Option Val := if tg p.1.1 (p.1.2.1 + p.2.2.1) = 1 then none else some (p.1.1, p.1.2.1 + p.2.2.1, fun i => (p.1.2.2.1 i + sg * p.2.2.2.1 i) % lQ p.1.1, fun i => (p.1.2.2.2 i + sg * p.2.2.2.2 i) % lQ p.1.1)
/-- the greatest digits' sum -/
def gdg (l : Int) : Int := sn (fun k => lq k - 1) (l + 1).toNat
def pmt (p : V2) : Int := 8 * p.1.2.1 * p.2.2.1 + 136 * gdg p.1.1
/-- the digits' part of a product: the square X, the keys B, up to level l -/
def sws (X : Int → Int) (B : Int → Int → Int) (i : Int) (n : Nat) : Int := sn (fun j => nc (fun i => X i % lq j) (B j) i) n
def prV (K : Ky) (p : V2) : Option Val := if tg p.1.1 (pmt p) = 1 then none else some (p.1.1, pmt p,
  fun i => (nc p.1.2.2.1 p.2.2.2.1 i + sws (nc p.1.2.2.2 p.2.2.2.2) K.2.2 i (p.1.1 + 1).toNat) % lQ p.1.1,
  fun i => (nc p.1.2.2.1 p.2.2.2.2 i + nc p.1.2.2.2 p.2.2.2.1 i + sws (nc p.1.2.2.2 p.2.2.2.2) K.2.1 i (p.1.1 + 1).toNat) % lQ p.1.1)
def trV (t : Int) (v : Val) : Val := (v.1, v.2.1, fun i => trn v.2.2.1 t i % lQ v.1, fun i => trn v.2.2.2 t i % lQ v.1)
def inV (S : Int → Int) (z : Int32) (X : Int → Int) : Val := (3, 33, fun i => (17 * sml (it 32 z) i - nc (uni z) S i + X i) % lQ 3, uni z)
-- gates: kind, operands, number, plain
abbrev Gt : Type := Nat × Int × Int × Int × (Int → Int)
/-- a gate's value, of the values before it -/
def gv (K : Ky) (V : Int → Val) (G : Gt) : Option Val :=
  if G.1 = 0 then some (inV K.1 (iI G.2.2.2.1) G.2.2.2.2)
  else if G.1 = 1 then (opn (V G.2.1) (V G.2.2.1)).bind (sumV 1)
  else if G.1 = 2 then (opn (V G.2.1) (V G.2.2.1)).bind (sumV (-1))
  else if G.1 = 3 then (opn (V G.2.1) (V G.2.2.1)).bind fun p => (qt 4 p).bind (prV K)
  else if G.1 = 4 then some (trV G.2.2.2.1 (V G.2.1))
  else low1 (V G.2.1)
/-- a new gate's plain -/
def gpl (kd : Nat) (X Y : Int → Int) (t : Int) : Int → Int := fun i =>
  if kd = 1 then (X i + Y i) % 17 else if kd = 2 then (X i - Y i) % 17 else if kd = 3 then nc X Y i % 17 else if kd = 4 then trn X t i % 17 else X i
