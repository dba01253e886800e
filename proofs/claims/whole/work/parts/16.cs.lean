-- the state of the system: the object at the place 0, its gates from the place 44 on, eight cells each
abbrev ob (b : Nat) (n v : Int) : va_E := .inr (5, [.ref (b + 1), .ref (b + 21), .ref (b + 2), .ref (b + 4), .int (iI n), .int (iI v), .ref (b + 5), .ref (b + 10), .ref (b + 15), .ref (b + 17), .ref (b + 19)])
/-- the Gate at the place q is G -/
def GA (ct : Nat → ClassId) (b : Nat) (ke : Nat → Nat) (u : Nat → va_E) (q : Nat) (G : Gt) : Prop := u q = gt b ke q G.1 G.2.1 G.2.2.1 G.2.2.2.1 ∧ SV ct b u (q + 1) G.2.2.2.2
theorem GA.of {ct : Nat → ClassId} {b : Nat} {ke : Nat → Nat} {u z : Nat → va_E} {q : Nat} {G : Gt} (h : GA ct b ke u q G) (hz : ∀ j, q ≤ j → j < q + 3 → z j = u j) : GA ct b ke z q G :=
  ⟨(hz q (by omega) (by omega)).trans h.1, h.2.of fun j a c => hz j (by omega) (by omega)⟩
/-- gates: whatever they are; those below n; the values of those below v -/
def GC (ct : Nat → ClassId) (b : Nat) (ke : Nat → Nat) (u : Nat → va_E) (n v : Nat) (G : Int → Gt) (V : Int → Val) : Prop :=
  (∀ i : Nat, i < 24 → (∃ G1 : Gt, GA ct b ke u (44 + 8 * i) G1) ∧ VS ct b u (47 + 8 * i)) ∧ (∀ i : Nat, i < n → GA ct b ke u (44 + 8 * i) (G i)) ∧ ∀ i : Nat, i < v → VV ct b u (47 + 8 * i) (V i)
/-- the scratch: drawing, left, right, square, digit, opened -/
def SC (ct : Nat → ClassId) (b : Nat) (u : Nat → va_E) : Prop := (∃ z, u 1 = dr z) ∧ VS ct b u 5 ∧ VS ct b u 10 ∧ PS ct b u 15 ∧ PS ct b u 17 ∧ PS ct b u 19
theorem SC.of {ct : Nat → ClassId} {b : Nat} {u z : Nat → va_E} (h : SC ct b u) (hz : ∀ j, 1 ≤ j → j < 21 → j ≠ 2 → j ≠ 3 → j ≠ 4 → z j = u j) : SC ct b z := by
  obtain ⟨⟨x, h1⟩, h2, h3, h4, h5, h6⟩ := h
  exact ⟨⟨x, (hz 1 (by omega) (by omega) (by omega) (by omega) (by omega)).trans h1⟩, h2.of fun j a c => hz j (by omega) (by omega) (by omega) (by omega) (by omega), h3.of fun j a c => hz j (by omega) (by omega) (by omega) (by omega) (by omega), h4.of fun j a c => hz j (by omega) (by omega) (by omega) (by omega) (by omega), h5.of fun j a c => hz j (by omega) (by omega) (by omega) (by omega) (by omega), h6.of fun j a c => hz j (by omega) (by omega) (by omega) (by omega) (by omega)⟩
def GR (ct : Nat → ClassId) (b : Nat) (u : Nat → va_E) : Prop := ∃ f : Nat → Option Nat, u 4 = qr ct 3 24 f ∧ ∀ i : Nat, i < 24 → f i = some (b + (44 + 8 * i))
def CS (ct : Nat → ClassId) (b : Nat) (ke : Nat → Nat) (u : Nat → va_E) (K : Ky) (n v : Nat) (msg : Int → Int) (G : Int → Gt) (V : Int → Val) : Prop :=
  u 0 = ob b n v ∧ SC ct b u ∧ SV ct b u 2 msg ∧ GR ct b u ∧ KS ct b u K ∧ GC ct b ke u n v G V
theorem GC.of {ct : Nat → ClassId} {b : Nat} {ke : Nat → Nat} {u z : Nat → va_E} {n v : Nat} {G : Int → Gt} {V : Int → Val} (h : GC ct b ke u n v G V) (hn : n ≤ 24) (hv : v ≤ 24) (hz : ∀ j, 44 ≤ j → j < 236 → z j = u j) : GC ct b ke z n v G V := by
  obtain ⟨h1, h2, h3⟩ := h
  refine ⟨fun i hi => ?_, fun i hi => (h2 i hi).of fun j a c => hz j (by omega) (by omega), fun i hi => (h3 i hi).of fun j a c => hz j (by omega) (by omega)⟩
  obtain ⟨⟨G1, h4⟩, h5⟩ := h1 i hi
  exact ⟨⟨G1, h4.of fun j a c => hz j (by omega) (by omega)⟩, h5.of fun j a c => hz j (by omega) (by omega)⟩
-- what holds of the numbers
def p17 (X : Int → Int) : Prop := ∀ i : Int, 0 ≤ i → i < 8 → 0 ≤ X i ∧ X i < 17
def okG (G : Gt) (i : Int) : Prop := G.1 < 6 ∧ p17 G.2.2.2.2 ∧ (1 ≤ G.1 → 0 ≤ G.2.1 ∧ G.2.1 < i) ∧ (1 ≤ G.1 → 0 ≤ G.2.2.1 ∧ G.2.2.1 < i) ∧ (G.1 = 4 → 0 ≤ G.2.2.2.1 ∧ G.2.2.2.1 < 16)
/-- a polynomial modulo Q(l), reduced -/
def rd (l : Int) (P : Int → Int) : Prop := ∀ i : Int, 0 ≤ i → i < 8 → 0 ≤ P i ∧ P i < lQ l
def okW (v : Val) : Prop := okV v ∧ rd v.1 v.2.2.1 ∧ rd v.1 v.2.2.2
def PI (n v : Nat) (msg : Int → Int) (G : Int → Gt) (V : Int → Val) : Prop := n ≤ 24 ∧ v ≤ n ∧ p17 msg ∧ (∀ i : Nat, i < n → okG (G i) i) ∧ ∀ i : Nat, i < v → okW (V i)
def inb (x n : Int) : Int := if 0 ≤ x ∧ x < n then 1 else 0
theorem inb_01 (x n : Int) : inb x n = 0 ∨ inb x n = 1 := by
  unfold inb
  split
  · exact Or.inr rfl
  · exact Or.inl rfl
theorem inb_n {x n : Int} (h : inb x n ≠ 0) : 0 ≤ x ∧ x < n := by
  unfold inb at h
  split at h
  · assumption
  · exact absurd rfl h
theorem inb_y {x n : Int} (h0 : 0 ≤ x) (h1 : x < n) : inb x n = 1 := by
  unfold inb
  rw [if_pos ⟨h0, h1⟩]
theorem inb_z {x n : Int} (h : inb x n = 0) : ¬ (0 ≤ x ∧ x < n) := fun g => by
  rw [inb_y g.1 g.2] at h
  cases h
theorem inb_o {x n : Int} (h : ¬ (0 ≤ x ∧ x < n)) : inb x n = 0 := by
  unfold inb
  rw [if_neg h]
def putm (msg : Int → Int) (x y : Int) : Int → Int := if 0 ≤ x ∧ x < 8 then zu msg x (y % 17) else msg
theorem CS.of {ct : Nat → ClassId} {b : Nat} {ke : Nat → Nat} {u z : Nat → va_E} {K : Ky} {n v : Nat} {msg : Int → Int} {G : Int → Gt} {V : Int → Val} (h : CS ct b ke u K n v msg G V) (hn : n ≤ 24) (hv : v ≤ n) (hz : ∀ j, j < 236 → z j = u j) : CS ct b ke z K n v msg G V := by
  obtain ⟨h1, h2, h3, ⟨f, h4, h5⟩, h6, h7⟩ := h
  exact ⟨(hz 0 (by omega)).trans h1, h2.of fun j a c _ _ _ => hz j (by omega), h3.of fun j a c => hz j (by omega), ⟨f, (hz 4 (by omega)).trans h4, h5⟩, h6.of fun j a c => hz j (by omega), h7.of hn (by omega) fun j a c => hz j (by omega)⟩
