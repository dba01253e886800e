theorem VP_r {ct : Nat → ClassId} {b : Nat} {z : Nat → va_E} {cnt : Int} {S R ms kd fi se pl hs lv mt vv : Int → Int} {x : Int} {o : Option Val} {r : Int32} (h : VP ct b z cnt S R ms kd fi se pl hs lv mt vv x o r) : ∃ gd : Int, r = iI gd ∧ (gd = 0 ∨ gd = 1) := by
  obtain ⟨z1, R2, sm2, hs2, lv2, mt2, wv2, wm2, -, -, -, h⟩ := h
  rcases h with ⟨_, _, h, _⟩ | ⟨_, h, _⟩
  · exact ⟨1, h, Or.inr rfl⟩
  · exact ⟨0, h, Or.inl rfl⟩
theorem trn_0 {P : Int → Int} {l i : Int} (h : rd l P) (h0 : 0 ≤ i) (h1 : i < 8) : trn P 0 i % lQ l = P i := by
  unfold trn tsg
  rw [if_pos (by omega), Int.one_mul, show (i - 0) % 8 = i by omega]
  exact Int.emod_eq_of_lt (h i h0 h1).1 (h i h0 h1).2
theorem GV_0 {R lv mt : Int → Int} {x : Int} {v : Val} (h1 : rd v.1 v.2.2.1) (h2 : rd v.1 v.2.2.2) (h : GV R lv mt x (trV 0 v)) : GV R lv mt x v :=
  ⟨h.1, h.2.1, fun i h0 h8 => (h.2.2.1 i h0 h8).trans (trn_0 h1 h0 h8), fun i h0 h8 => (h.2.2.2 i h0 h8).trans (trn_0 h2 h0 h8)⟩
def MS (ct : Nat → ClassId) (b : Nat) (u : Nat → va_E) (K : Ky) (n v : Nat) (msg : Int → Int) (G : Int → Gt) (V : Int → Val) : Prop :=
  ∃ (z : Int32) (R sm ms kd fi se pl hs lv mt wv wm vv : Int → Int), MW ct b u z n K.1 R sm ms kd fi se pl hs lv mt wv wm vv ∧ kR R K ∧ (∀ i : Int, 0 ≤ i → i < 8 → ms i = msg i) ∧ MG n kd fi se pl G ∧ MH n v hs ∧ MV v R lv mt V
theorem MS.of {ct : Nat → ClassId} {b : Nat} {u w : Nat → va_E} {K : Ky} {n v : Nat} {msg : Int → Int} {G : Int → Gt} {V : Int → Val} (h : MS ct b u K n v msg G V) (hz : ∀ j, 236 ≤ j → j < 254 → w j = u j) : MS ct b w K n v msg G V := by
  obtain ⟨z, R, sm, ms, kd, fi, se, pl, hs, lv, mt, wv, wm, vv, h1, h2⟩ := h
  exact ⟨z, R, sm, ms, kd, fi, se, pl, hs, lv, mt, wv, wm, vv, h1.of hz, h2⟩
/-- behind a gate's value -/
theorem MS_val {ct : Nat → ClassId} {b : Nat} {z : Nat → va_E} {K : Ky} {n v : Nat} {msg : Int → Int} {G : Int → Gt} {V : Int → Val} {R ms kd fi se pl hs lv mt vv : Int → Int} {w : Val} (hn : n ≤ 24) (hv : v < n) (h2 : kR R K) (h3 : ∀ i : Int, 0 ≤ i → i < 8 → ms i = msg i) (h4 : MG n kd fi se pl G) (h5 : MH n v hs) (h6 : MV v R lv mt V) {z1 : Int32} {R2 sm2 hs2 lv2 mt2 wv2 wm2 : Int → Int} (h1 : MW ct b z z1 n K.1 R2 sm2 ms kd fi se pl hs2 lv2 mt2 wv2 wm2 vv) (hR : ∀ j : Int, j < 448 → (j < 8 * (8 + 2 * (v : Int)) ∨ 8 * (8 + 2 * (v : Int)) + 16 ≤ j) → R2 j = R j) (hy : ∀ y : Int, y ≠ (v : Int) → hs2 y = hs y ∧ lv2 y = lv y ∧ mt2 y = mt y) (hx : hs2 v = 1) (hg : GV R2 lv2 mt2 v w) : MS ct b z K n (v + 1) msg G (upV V v w) := by
  refine ⟨z1, R2, sm2, ms, kd, fi, se, pl, hs2, lv2, mt2, wv2, wm2, vv, h1, fun j i a c d e => ?_, h3, h4, fun x a c => ?_, fun x a c => ?_⟩
  · have := h2 j i a c d e
    exact ⟨(hR _ (by omega) (by omega)).trans this.1, (hR _ (by omega) (by omega)).trans this.2⟩
  · by_cases e : x = v
    · rw [e, hx, if_pos (by omega)]
    · rw [(hy x e).1, h5 x a c]
      by_cases f : x < v
      · rw [if_pos f, if_pos (by omega)]
      · rw [if_neg f, if_neg (by omega)]
  · by_cases e : x = v
    · subst e; rw [upV_s]; exact hg
    · rw [upV_n e]
      have := h6 x a (by omega)
      exact ⟨(hy x e).2.1.trans this.1, (hy x e).2.2.trans this.2.1, this.2.2.of fun i f g => hR _ (by omega) (by omega)⟩
theorem MS_no {ct : Nat → ClassId} {b : Nat} {z : Nat → va_E} {K : Ky} {n v : Nat} {msg : Int → Int} {G : Int → Gt} {V : Int → Val} {R ms kd fi se pl hs lv mt vv : Int → Int} (hn : n ≤ 24) (hv : v < n) (h2 : kR R K) (h3 : ∀ i : Int, 0 ≤ i → i < 8 → ms i = msg i) (h4 : MG n kd fi se pl G) (h5 : MH n v hs) (h6 : MV v R lv mt V) {z1 : Int32} {R2 sm2 hs2 lv2 mt2 wv2 wm2 : Int → Int} (h1 : MW ct b z z1 n K.1 R2 sm2 ms kd fi se pl hs2 lv2 mt2 wv2 wm2 vv) (hR : ∀ j : Int, j < 448 → (j < 8 * (8 + 2 * (v : Int)) ∨ 8 * (8 + 2 * (v : Int)) + 16 ≤ j) → R2 j = R j) (hy : ∀ y : Int, y ≠ (v : Int) → hs2 y = hs y ∧ lv2 y = lv y ∧ mt2 y = mt y) (hx : hs2 v = 0) : MS ct b z K n v msg G V := by
  refine ⟨z1, R2, sm2, ms, kd, fi, se, pl, hs2, lv2, mt2, wv2, wm2, vv, h1, fun j i a c d e => ?_, h3, h4, fun x a c => ?_, fun x a c => ?_⟩
  · have := h2 j i a c d e
    exact ⟨(hR _ (by omega) (by omega)).trans this.1, (hR _ (by omega) (by omega)).trans this.2⟩
  · by_cases e : x = v
    · rw [e, hx, if_neg (by omega)]
    · rw [(hy x e).1, h5 x a c]
  · have := h6 x a c
    exact ⟨(hy x (by omega)).2.1.trans this.1, (hy x (by omega)).2.2.trans this.2.1, this.2.2.of fun i f g => hR _ (by omega) (by omega)⟩
