theorem opn_ok {x y : Val} {p : V2} (hx : okV x) (hy : okV y) (h : opn x y = some p) : okV p.1 ∧ okV p.2 ∧ p.1.1 = p.2.1 := by
  unfold opn at h
  cases h1 : lowT (x.1 - y.1).toNat x with
  | none => rw [h1] at h; cases h
  | some x1 =>
    rw [h1] at h
    have h : (lowT (y.1 - x1.1).toNat y).bind (fun y1 => some (x1, y1)) = some p := h
    cases h2 : lowT (y.1 - x1.1).toNat y with
    | none => rw [h2] at h; cases h
    | some y1 =>
      rw [h2] at h
      have e : (x1, y1) = p := Option.some.inj h
      subst e
      obtain ⟨a1, a2⟩ := lowT_ok _ hx h1
      obtain ⟨b1, b2⟩ := lowT_ok _ hy h2
      exact ⟨a1, b1, by show x1.1 = y1.1; omega⟩
theorem qt_ok : ∀ (n : Nat) {p q : V2}, okV p.1 → okV p.2 → p.1.1 = p.2.1 → p.1.1 < n → qt n p = some q → qu q
  | 0, p, q, h1, _, _, h4, _ => by have := h1.1; omega
  | n + 1, p, q, h1, h2, h3, h4, h => by
    by_cases hc : 0 < p.1.1 ∧ (1000 < p.1.2.1 ∨ 1000 < p.2.2.1)
    · have e : qt (n + 1) p = (low1 p.1).bind fun x => (low1 p.2).bind fun y => qt n (x, y) := by
        show (if _ then _ else _) = _
        rw [if_pos hc]
      rw [e] at h
      cases e1 : low1 p.1 with
      | none => rw [e1] at h; cases h
      | some x =>
        rw [e1] at h
        have h : (low1 p.2).bind (fun y => qt n (x, y)) = some q := h
        cases e2 : low1 p.2 with
        | none => rw [e2] at h; cases h
        | some y =>
          rw [e2] at h
          obtain ⟨a1, a2, a3⟩ := low1_ok h1 e1
          obtain ⟨b1, b2, b3⟩ := low1_ok h2 e2
          exact qt_ok n (p := (x, y)) a1 b1 (by show x.1 = y.1; omega) (by show x.1 < n; omega) h
    · have e : qt (n + 1) p = some p := by
        show (if _ then _ else _) = _
        rw [if_neg hc]
      rw [e] at h
      have e2 := Option.some.inj h
      subst e2
      have h0 := h1.1
      exact ⟨h1, h2, h3, by omega⟩
theorem rd_mod {l : Int} (P : Int → Int) : rd l (fun i => P i % lQ l) := fun i _ _ => by
  have := lQ_bd l
  exact ⟨Int.emod_nonneg _ (by omega), Int.emod_lt_of_pos _ (by omega)⟩
theorem rd_uni (z : Int32) : rd 3 (uni z) := fun i _ _ => uni_bd z i
theorem qt_x {f : Nat} {p : V2} (hf : 0 < f) (hc : ¬ (0 < p.1.1 ∧ (1000 < p.1.2.1 ∨ 1000 < p.2.2.1))) : qt f p = some p := by
  obtain ⟨n, rfl⟩ : ∃ n, f = n + 1 := ⟨f - 1, by omega⟩
  show (if _ then _ else _) = _
  rw [if_neg hc]
theorem qt_s {n : Nat} {p : V2} (hc : 0 < p.1.1 ∧ (1000 < p.1.2.1 ∨ 1000 < p.2.2.1)) : qt (n + 1) p = (low1 p.1).bind fun x => (low1 p.2).bind fun y => qt n (x, y) := by
  show (if _ then _ else _) = _
  rw [if_pos hc]
theorem Rep.add {c d e X Y : Int → Int} {sm top : Int} (h : Rep e sm top (fun i => X i + Y i)) : Rep e sm top (fun i => X i + Y i) := h
