-- the world: N cells that lie one behind another from b on; a cell's place in the layout is its number
def wl (N b : Nat) (u : Nat → va_E) : va_W := (List.range N).map (fun k => (b + k, u k))
def AA (b : Nat) : Nat → Prop := fun q => b ≤ q
theorem wl_get {N b k : Nat} {u : Nat → va_E} (h : k < N) : (wl N b u)[k]? = some (b + k, u k) := by
  unfold wl
  rw [List.getElem?_map, List.getElem?_range h]
  rfl
theorem wl_len {N b : Nat} {u : Nat → va_E} : (wl N b u).length = N := by simp [wl]
theorem wl_in {N b k : Nat} {u : Nat → va_E} {q : Nat × va_E} (h : (wl N b u)[k]? = some q) : k < N ∧ q = (b + k, u k) := by
  have hk : k < N := by
    have h1 := (List.getElem?_eq_some_iff.mp h).1
    rwa [wl_len] at h1
  rw [wl_get hk] at h
  exact ⟨hk, (Option.some.inj h).symm⟩
theorem up_s {α : Type} {f : Nat → α} {k : Nat} {v : α} : va_up f k v k = v := by simp [va_up]
theorem up_n {α : Type} {f : Nat → α} {k j : Nat} {v : α} (h : j ≠ k) : va_up f k v j = f j := by simp [va_up, h]
theorem wl_set {N b : Nat} {u : Nat → va_E} (k : Nat) (e : va_E) : (wl N b u).set k (b + k, e) = wl N b (va_up u k e) := by
  apply List.ext_getElem?
  intro j
  by_cases hj : j < N
  · by_cases hk : k = j
    · subst hk
      rw [wl_get hj, List.getElem?_set_self (by rw [wl_len]; exact hj), up_s]
    · rw [List.getElem?_set_ne hk, wl_get hj, wl_get hj, up_n (Ne.symm hk)]
  · rw [List.getElem?_eq_none (by rw [List.length_set, wl_len]; omega), List.getElem?_eq_none (by rw [wl_len]; omega)]
theorem wl_push {N b : Nat} {u : Nat → va_E} (e : va_E) : wl N b u ++ [(b + N, e)] = wl (N + 1) b (va_up u N e) := by
  unfold wl
  rw [List.range_succ, List.map_append]
  congr 1
  · apply List.map_congr_left
    intro k hk
    have h : k < N := List.mem_range.mp hk
    rw [up_n (Nat.ne_of_lt h)]
  · simp [va_up]
theorem wl_congr {N b : Nat} {u v : Nat → va_E} (h : ∀ k, k < N → u k = v k) : wl N b u = wl N b v := by
  unfold wl
  apply List.map_congr_left
  intro k hk
  rw [h k (List.mem_range.mp hk)]
theorem wl_D {N b : Nat} {u : Nat → va_E} : va_D (AA b) (wl N b u) := by
  refine ⟨fun i j p q hi hj he => ?_, fun k q hk => ?_⟩
  · obtain ⟨-, rfl⟩ := wl_in hi
    obtain ⟨-, rfl⟩ := wl_in hj
    have he : b + i = b + j := he
    omega
  · obtain ⟨-, rfl⟩ := wl_in hk
    exact Nat.le_add_right b k
/-- array contents by whole numbers -/
def zu (g : Int → Int) (a x : Int) : Int → Int := fun j => if j = a then x else g j
theorem zu_s {g : Int → Int} {a x : Int} : zu g a x a = x := by simp [zu]
theorem zu_n {g : Int → Int} {a x j : Int} (h : j ≠ a) : zu g a x j = g j := by simp [zu, h]
abbrev ir (ct : Nat → ClassId) (n : Nat) (g : Int → Int) : va_E := .inl (ct 0, n, .inl (fun j => iI (g (j : Int))))
abbrev lr (ct : Nat → ClassId) (n : Nat) (g : Int → Int) : va_E := .inl (ct 1, n, .inr (.inl (fun j => lI (g (j : Int)))))
abbrev zr (ct : Nat → ClassId) (n : Nat) (g : Int → Int) : va_E := .inl (ct 2, n, .inl (fun j => iI (g (j : Int))))
abbrev qr (ct : Nat → ClassId) (i n : Nat) (f : Nat → Option Nat) : va_E := .inl (ct i, n, .inr (.inr (.inr (.inr f))))
theorem zu_upd (g : Int → Int) {n : Nat} (h : n < 2147483648) (x : Int) : upd (fun j => iI (g (j : Int))) (iI (n : Int)).toNatClampNeg (iI x) = fun j : Nat => iI (zu g n x (j : Int)) := by
  funext j
  rw [iI_clamp h]
  unfold upd zu
  by_cases hj : j = n
  · rw [if_pos hj, if_pos (by omega)]
  · rw [if_neg hj, if_neg (by omega)]
theorem zu_updL (g : Int → Int) {n : Nat} (h : n < 2147483648) (x : Int) : vp_updL (fun j => lI (g (j : Int))) (iI (n : Int)).toNatClampNeg (lI x) = fun j : Nat => lI (zu g n x (j : Int)) := by
  funext j
  rw [iI_clamp h]
  unfold vp_updL zu
  by_cases hj : j = n
  · rw [if_pos hj, if_pos (by omega)]
  · rw [if_neg hj, if_neg (by omega)]
/-- the kinds of arrays of the world: int, long, boolean, gates, polynomials -/
abbrev cty (ct : Nat → ClassId) : List (ClassId × FieldType) := [(ct 0, .int), (ct 1, .long), (ct 2, .boolean), (ct 3, .object "LevelledRing$Gate"), (ct 4, .object "LevelledRing$Poly")]
section XW
variable {p : Program} {l : Launch} {e : Env} {R : Room} {s : State} {m : MethodId} {args : Array Value} {below : List Frame} {meth : Method} {c : Code} {H : Heap} {locs : List Loc} {cells slots : Nat} {Q : State → Prop}
variable {cc : ByteArray} {pc : Nat} {ls : Array Slot} {rest : List Value}
variable {D : va_G} {cl : List vw_C} {ct : Nat → ClassId} {b N : Nat} {u : Nat → va_E}
/-- another name of the number on top -/
theorem x_i {x y : Int32} (h : x = y) (k : W p l e R s m args below meth c H locs cells slots Q (F0 m pc ls (.int y :: rest))) : W p l e R s m args below meth c H locs cells slots Q (F0 m pc ls (.int x :: rest)) := h ▸ k
theorem x_l {x y : Int64} (h : x = y) (k : W p l e R s m args below meth c H locs cells slots Q (F0 m pc ls (.long y :: rest))) : W p l e R s m args below meth c H locs cells slots Q (F0 m pc ls (.long x :: rest)) := h ▸ k
theorem x_ie {x y : Int} (h : x = y) (k : W p l e R s m args below meth c H locs cells slots Q (F0 m pc ls (.int (iI y) :: rest))) : W p l e R s m args below meth c H locs cells slots Q (F0 m pc ls (.int (iI x) :: rest)) := h ▸ k
theorem x_le {x y : Int} (h : x = y) (k : W p l e R s m args below meth c H locs cells slots Q (F0 m pc ls (.long (lI y) :: rest))) : W p l e R s m args below meth c H locs cells slots Q (F0 m pc ls (.long (lI x) :: rest)) := h ▸ k
theorem x_iadd (hx : p.tables.exec = Jvm.exec) (hb : c.code = cc) {x y : Int} (hdg : decode cc pc = .ok (.iadd, 1)) (k : W p l e R s m args below meth c H locs cells slots Q (F0 m (pc + 1) ls (.int (iI (x + y)) :: rest))) : W p l e R s m args below meth c H locs cells slots Q (F0 m pc ls (.int (iI y) :: .int (iI x) :: rest)) :=
  lv_iadd hx hb hdg (x_i (iI_add x y) k)
theorem x_isub (hx : p.tables.exec = Jvm.exec) (hb : c.code = cc) {x y : Int} (hdg : decode cc pc = .ok (.isub, 1)) (k : W p l e R s m args below meth c H locs cells slots Q (F0 m (pc + 1) ls (.int (iI (x - y)) :: rest))) : W p l e R s m args below meth c H locs cells slots Q (F0 m pc ls (.int (iI y) :: .int (iI x) :: rest)) :=
  lv_isub hx hb hdg (x_i (iI_sub x y) k)
theorem x_imul (hx : p.tables.exec = Jvm.exec) (hb : c.code = cc) {x y : Int} (hdg : decode cc pc = .ok (.imul, 1)) (k : W p l e R s m args below meth c H locs cells slots Q (F0 m (pc + 1) ls (.int (iI (x * y)) :: rest))) : W p l e R s m args below meth c H locs cells slots Q (F0 m pc ls (.int (iI y) :: .int (iI x) :: rest)) :=
  lv_imul hx hb hdg (x_i (iI_mul x y) k)
theorem x_ineg (hx : p.tables.exec = Jvm.exec) (hb : c.code = cc) {x : Int} (hdg : decode cc pc = .ok (.ineg, 1)) (k : W p l e R s m args below meth c H locs cells slots Q (F0 m (pc + 1) ls (.int (iI (-x)) :: rest))) : W p l e R s m args below meth c H locs cells slots Q (F0 m pc ls (.int (iI x) :: rest)) :=
  lv_ineg hx hb hdg (x_i (iI_neg x) k)
theorem x_ladd (hx : p.tables.exec = Jvm.exec) (hb : c.code = cc) {x y : Int} (hdg : decode cc pc = .ok (.ladd, 1)) (k : W p l e R s m args below meth c H locs cells slots Q (F0 m (pc + 1) ls (.long (lI (x + y)) :: rest))) : W p l e R s m args below meth c H locs cells slots Q (F0 m pc ls (.long (lI y) :: .long (lI x) :: rest)) :=
  lv_ladd hx hb hdg (x_l (lI_add x y) k)
theorem x_lsub (hx : p.tables.exec = Jvm.exec) (hb : c.code = cc) {x y : Int} (hdg : decode cc pc = .ok (.lsub, 1)) (k : W p l e R s m args below meth c H locs cells slots Q (F0 m (pc + 1) ls (.long (lI (x - y)) :: rest))) : W p l e R s m args below meth c H locs cells slots Q (F0 m pc ls (.long (lI y) :: .long (lI x) :: rest)) :=
  lv_lsub hx hb hdg (x_l (lI_sub x y) k)
theorem x_lmul (hx : p.tables.exec = Jvm.exec) (hb : c.code = cc) {x y : Int} (hdg : decode cc pc = .ok (.lmul, 1)) (k : W p l e R s m args below meth c H locs cells slots Q (F0 m (pc + 1) ls (.long (lI (x * y)) :: rest))) : W p l e R s m args below meth c H locs cells slots Q (F0 m pc ls (.long (lI y) :: .long (lI x) :: rest)) :=
  lv_lmul hx hb hdg (x_l (lI_mul x y) k)
theorem x_lneg (hx : p.tables.exec = Jvm.exec) (hb : c.code = cc) {x : Int} (hdg : decode cc pc = .ok (.lneg, 1)) (k : W p l e R s m args below meth c H locs cells slots Q (F0 m (pc + 1) ls (.long (lI (-x)) :: rest))) : W p l e R s m args below meth c H locs cells slots Q (F0 m pc ls (.long (lI x) :: rest)) :=
  lv_lneg hx hb hdg (x_l (lI_neg x) k)
theorem x_i2l (hx : p.tables.exec = Jvm.exec) (hb : c.code = cc) {x : Int} (hr : r32 x) (hdg : decode cc pc = .ok (.i2l, 1)) (k : W p l e R s m args below meth c H locs cells slots Q (F0 m (pc + 1) ls (.long (lI x) :: rest))) : W p l e R s m args below meth c H locs cells slots Q (F0 m pc ls (.int (iI x) :: rest)) :=
  lv_i2l hx hb hdg (iI_toL hr) k
theorem x_l2i (hx : p.tables.exec = Jvm.exec) (hb : c.code = cc) {x : Int} (hdg : decode cc pc = .ok (.l2i, 1)) (k : W p l e R s m args below meth c H locs cells slots Q (F0 m (pc + 1) ls (.int (iI x) :: rest))) : W p l e R s m args below meth c H locs cells slots Q (F0 m pc ls (.long (lI x) :: rest)) :=
  lv_l2i hx hb hdg (lI_toI x) k
theorem x_irem (hx : p.tables.exec = Jvm.exec) (hb : c.code = cc) {x y : Int} (hr : r32 x) (hy : r32 y) (h0 : 0 < y) (hdg : decode cc pc = .ok (.irem, 1)) (k : W p l e R s m args below meth c H locs cells slots Q (F0 m (pc + 1) ls (.int (iI (x.tmod y)) :: rest))) : W p l e R s m args below meth c H locs cells slots Q (F0 m pc ls (.int (iI y) :: .int (iI x) :: rest)) :=
  lv_irem hx hb hdg (iI_ne0 hy (Int.ne_of_gt h0)) (x_i (iI_rem hr hy h0) k)
theorem x_iremP (hx : p.tables.exec = Jvm.exec) (hb : c.code = cc) {x y : Int} (hr : r32 x) (hy : r32 y) (h0 : 0 < y) (hp : 0 ≤ x) (hdg : decode cc pc = .ok (.irem, 1)) (k : W p l e R s m args below meth c H locs cells slots Q (F0 m (pc + 1) ls (.int (iI (x % y)) :: rest))) : W p l e R s m args below meth c H locs cells slots Q (F0 m pc ls (.int (iI y) :: .int (iI x) :: rest)) :=
  x_irem hx hb hr hy h0 hdg (x_ie (Int.tmod_eq_emod_of_nonneg hp) k)
theorem x_lrem (hx : p.tables.exec = Jvm.exec) (hb : c.code = cc) {x y : Int} (hr : r64 x) (hy : r64 y) (h0 : 0 < y) (hdg : decode cc pc = .ok (.lrem, 1)) (k : W p l e R s m args below meth c H locs cells slots Q (F0 m (pc + 1) ls (.long (lI (x.tmod y)) :: rest))) : W p l e R s m args below meth c H locs cells slots Q (F0 m pc ls (.long (lI y) :: .long (lI x) :: rest)) :=
  lv_lrem hx hb hdg (lI_ne0 hy (Int.ne_of_gt h0)) (x_l (lI_rem hr hy h0) k)
theorem x_lremP (hx : p.tables.exec = Jvm.exec) (hb : c.code = cc) {x y : Int} (hr : r64 x) (hy : r64 y) (h0 : 0 < y) (hp : 0 ≤ x) (hdg : decode cc pc = .ok (.lrem, 1)) (k : W p l e R s m args below meth c H locs cells slots Q (F0 m (pc + 1) ls (.long (lI (x % y)) :: rest))) : W p l e R s m args below meth c H locs cells slots Q (F0 m pc ls (.long (lI y) :: .long (lI x) :: rest)) :=
  x_lrem hx hb hr hy h0 hdg (x_le (Int.tmod_eq_emod_of_nonneg hp) k)
theorem x_ldiv (hx : p.tables.exec = Jvm.exec) (hb : c.code = cc) {x y : Int} (hr : r64 x) (hy : r64 y) (h0 : 0 < y) (hdg : decode cc pc = .ok (.ldiv, 1)) (k : W p l e R s m args below meth c H locs cells slots Q (F0 m (pc + 1) ls (.long (lI (x.tdiv y)) :: rest))) : W p l e R s m args below meth c H locs cells slots Q (F0 m pc ls (.long (lI y) :: .long (lI x) :: rest)) :=
  lv_ldiv hx hb hdg (lI_ne0 hy (Int.ne_of_gt h0)) (x_l (lI_div hr hy h0) k)
theorem x_ldivP (hx : p.tables.exec = Jvm.exec) (hb : c.code = cc) {x y : Int} (hr : r64 x) (hy : r64 y) (h0 : 0 < y) (hp : 0 ≤ x) (hdg : decode cc pc = .ok (.ldiv, 1)) (k : W p l e R s m args below meth c H locs cells slots Q (F0 m (pc + 1) ls (.long (lI (x / y)) :: rest))) : W p l e R s m args below meth c H locs cells slots Q (F0 m pc ls (.long (lI y) :: .long (lI x) :: rest)) :=
  x_ldiv hx hb hr hy h0 hdg (x_le (Int.tdiv_eq_ediv_of_nonneg hp) k)
theorem x_idivP (hx : p.tables.exec = Jvm.exec) (hb : c.code = cc) {x y : Int} (hr : r32 x) (hy : r32 y) (h0 : 0 < y) (hp : 0 ≤ x) (hdg : decode cc pc = .ok (.idiv, 1)) (k : W p l e R s m args below meth c H locs cells slots Q (F0 m (pc + 1) ls (.int (iI (x / y)) :: rest))) : W p l e R s m args below meth c H locs cells slots Q (F0 m pc ls (.int (iI y) :: .int (iI x) :: rest)) :=
  lv_idiv hx hb hdg (iI_ne0 hy (Int.ne_of_gt h0)) (x_i (iI_div hr hy h0) (x_ie (Int.tdiv_eq_ediv_of_nonneg hp) k))
-- branches
theorem x_icmp_ge (hx : p.tables.exec = Jvm.exec) (hb : c.code = cc) {x y : Int} (hr : r32 x) (hy : r32 y) {off : Int} {tgt : Nat} (hdg : decode cc pc = .ok (.if_icmp .ge off, 3)) (ht : (pc : Int) + off = (tgt : Int)) (kt : y ≤ x → W p l e R s m args below meth c H locs cells slots Q (F0 m tgt ls rest)) (kf : x < y → W p l e R s m args below meth c H locs cells slots Q (F0 m (pc + 3) ls rest)) : W p l e R s m args below meth c H locs cells slots Q (F0 m pc ls (.int (iI y) :: .int (iI x) :: rest)) :=
  lv_icmp_ge hx hb hdg ht (fun h => kt ((iI_le hy hr).mp h)) (fun h => kf (Int.not_le.mp fun g => h ((iI_le hy hr).mpr g)))
theorem x_icmp_gt (hx : p.tables.exec = Jvm.exec) (hb : c.code = cc) {x y : Int} (hr : r32 x) (hy : r32 y) {off : Int} {tgt : Nat} (hdg : decode cc pc = .ok (.if_icmp .gt off, 3)) (ht : (pc : Int) + off = (tgt : Int)) (kt : y < x → W p l e R s m args below meth c H locs cells slots Q (F0 m tgt ls rest)) (kf : x ≤ y → W p l e R s m args below meth c H locs cells slots Q (F0 m (pc + 3) ls rest)) : W p l e R s m args below meth c H locs cells slots Q (F0 m pc ls (.int (iI y) :: .int (iI x) :: rest)) :=
  lv_icmp_gt hx hb hdg ht (fun h => kt ((iI_lt hy hr).mp h)) (fun h => kf (Int.not_lt.mp fun g => h ((iI_lt hy hr).mpr g)))
theorem x_icmp_lt (hx : p.tables.exec = Jvm.exec) (hb : c.code = cc) {x y : Int} (hr : r32 x) (hy : r32 y) {off : Int} {tgt : Nat} (hdg : decode cc pc = .ok (.if_icmp .lt off, 3)) (ht : (pc : Int) + off = (tgt : Int)) (kt : x < y → W p l e R s m args below meth c H locs cells slots Q (F0 m tgt ls rest)) (kf : y ≤ x → W p l e R s m args below meth c H locs cells slots Q (F0 m (pc + 3) ls rest)) : W p l e R s m args below meth c H locs cells slots Q (F0 m pc ls (.int (iI y) :: .int (iI x) :: rest)) :=
  lv_icmp_lt hx hb hdg ht (fun h => kt ((iI_lt hr hy).mp h)) (fun h => kf (Int.not_lt.mp fun g => h ((iI_lt hr hy).mpr g)))
theorem x_icmp_le (hx : p.tables.exec = Jvm.exec) (hb : c.code = cc) {x y : Int} (hr : r32 x) (hy : r32 y) {off : Int} {tgt : Nat} (hdg : decode cc pc = .ok (.if_icmp .le off, 3)) (ht : (pc : Int) + off = (tgt : Int)) (kt : x ≤ y → W p l e R s m args below meth c H locs cells slots Q (F0 m tgt ls rest)) (kf : y < x → W p l e R s m args below meth c H locs cells slots Q (F0 m (pc + 3) ls rest)) : W p l e R s m args below meth c H locs cells slots Q (F0 m pc ls (.int (iI y) :: .int (iI x) :: rest)) :=
  lv_icmp_le hx hb hdg ht (fun h => kt ((iI_le hr hy).mp h)) (fun h => kf (Int.not_le.mp fun g => h ((iI_le hr hy).mpr g)))
theorem x_icmp_eq (hx : p.tables.exec = Jvm.exec) (hb : c.code = cc) {x y : Int} (hr : r32 x) (hy : r32 y) {off : Int} {tgt : Nat} (hdg : decode cc pc = .ok (.if_icmp .eq off, 3)) (ht : (pc : Int) + off = (tgt : Int)) (kt : x = y → W p l e R s m args below meth c H locs cells slots Q (F0 m tgt ls rest)) (kf : x ≠ y → W p l e R s m args below meth c H locs cells slots Q (F0 m (pc + 3) ls rest)) : W p l e R s m args below meth c H locs cells slots Q (F0 m pc ls (.int (iI y) :: .int (iI x) :: rest)) :=
  lv_icmp_eq hx hb hdg ht (fun h => kt ((iI_inj hr hy).mp h)) (fun h => kf fun g => h ((iI_inj hr hy).mpr g))
theorem x_icmp_ne (hx : p.tables.exec = Jvm.exec) (hb : c.code = cc) {x y : Int} (hr : r32 x) (hy : r32 y) {off : Int} {tgt : Nat} (hdg : decode cc pc = .ok (.if_icmp .ne off, 3)) (ht : (pc : Int) + off = (tgt : Int)) (kt : x ≠ y → W p l e R s m args below meth c H locs cells slots Q (F0 m tgt ls rest)) (kf : x = y → W p l e R s m args below meth c H locs cells slots Q (F0 m (pc + 3) ls rest)) : W p l e R s m args below meth c H locs cells slots Q (F0 m pc ls (.int (iI y) :: .int (iI x) :: rest)) :=
  lv_icmp_ne hx hb hdg ht (fun h => kt fun g => h ((iI_inj hr hy).mpr g)) (fun h => kf ((iI_inj hr hy).mp h))
theorem r32_0 : r32 0 := ⟨by decide, by decide⟩
theorem iI_0 : (0 : Int32) = iI 0 := by decide
theorem x_if_lt (hx : p.tables.exec = Jvm.exec) (hb : c.code = cc) {x : Int} (hr : r32 x) {off : Int} {tgt : Nat} (hdg : decode cc pc = .ok (.ifCond .lt off, 3)) (ht : (pc : Int) + off = (tgt : Int)) (kt : x < 0 → W p l e R s m args below meth c H locs cells slots Q (F0 m tgt ls rest)) (kf : 0 ≤ x → W p l e R s m args below meth c H locs cells slots Q (F0 m (pc + 3) ls rest)) : W p l e R s m args below meth c H locs cells slots Q (F0 m pc ls (.int (iI x) :: rest)) :=
  lv_if_lt hx hb hdg ht (fun h => kt ((iI_lt hr r32_0).mp (iI_0 ▸ h))) (fun h => kf (Int.not_lt.mp fun g => h (iI_0 ▸ (iI_lt hr r32_0).mpr g)))
theorem x_if_ge (hx : p.tables.exec = Jvm.exec) (hb : c.code = cc) {x : Int} (hr : r32 x) {off : Int} {tgt : Nat} (hdg : decode cc pc = .ok (.ifCond .ge off, 3)) (ht : (pc : Int) + off = (tgt : Int)) (kt : 0 ≤ x → W p l e R s m args below meth c H locs cells slots Q (F0 m tgt ls rest)) (kf : x < 0 → W p l e R s m args below meth c H locs cells slots Q (F0 m (pc + 3) ls rest)) : W p l e R s m args below meth c H locs cells slots Q (F0 m pc ls (.int (iI x) :: rest)) :=
  lv_if_ge hx hb hdg ht (fun h => kt ((iI_le r32_0 hr).mp (iI_0 ▸ h))) (fun h => kf (Int.not_le.mp fun g => h (iI_0 ▸ (iI_le r32_0 hr).mpr g)))
theorem x_if_gt (hx : p.tables.exec = Jvm.exec) (hb : c.code = cc) {x : Int} (hr : r32 x) {off : Int} {tgt : Nat} (hdg : decode cc pc = .ok (.ifCond .gt off, 3)) (ht : (pc : Int) + off = (tgt : Int)) (kt : 0 < x → W p l e R s m args below meth c H locs cells slots Q (F0 m tgt ls rest)) (kf : x ≤ 0 → W p l e R s m args below meth c H locs cells slots Q (F0 m (pc + 3) ls rest)) : W p l e R s m args below meth c H locs cells slots Q (F0 m pc ls (.int (iI x) :: rest)) :=
  lv_if_gt hx hb hdg ht (fun h => kt ((iI_lt r32_0 hr).mp (iI_0 ▸ h))) (fun h => kf (Int.not_lt.mp fun g => h (iI_0 ▸ (iI_lt r32_0 hr).mpr g)))
theorem x_if_le (hx : p.tables.exec = Jvm.exec) (hb : c.code = cc) {x : Int} (hr : r32 x) {off : Int} {tgt : Nat} (hdg : decode cc pc = .ok (.ifCond .le off, 3)) (ht : (pc : Int) + off = (tgt : Int)) (kt : x ≤ 0 → W p l e R s m args below meth c H locs cells slots Q (F0 m tgt ls rest)) (kf : 0 < x → W p l e R s m args below meth c H locs cells slots Q (F0 m (pc + 3) ls rest)) : W p l e R s m args below meth c H locs cells slots Q (F0 m pc ls (.int (iI x) :: rest)) :=
  lv_if_le hx hb hdg ht (fun h => kt ((iI_le hr r32_0).mp (iI_0 ▸ h))) (fun h => kf (Int.not_le.mp fun g => h (iI_0 ▸ (iI_le hr r32_0).mpr g)))
theorem x_if_eq (hx : p.tables.exec = Jvm.exec) (hb : c.code = cc) {x : Int} (hr : r32 x) {off : Int} {tgt : Nat} (hdg : decode cc pc = .ok (.ifCond .eq off, 3)) (ht : (pc : Int) + off = (tgt : Int)) (kt : x = 0 → W p l e R s m args below meth c H locs cells slots Q (F0 m tgt ls rest)) (kf : x ≠ 0 → W p l e R s m args below meth c H locs cells slots Q (F0 m (pc + 3) ls rest)) : W p l e R s m args below meth c H locs cells slots Q (F0 m pc ls (.int (iI x) :: rest)) :=
  lv_if_eq hx hb hdg ht (fun h => kt ((iI_inj hr r32_0).mp (h.trans iI_0))) (fun h => kf fun g => h (by rw [g]; exact iI_0.symm))
theorem x_if_ne (hx : p.tables.exec = Jvm.exec) (hb : c.code = cc) {x : Int} (hr : r32 x) {off : Int} {tgt : Nat} (hdg : decode cc pc = .ok (.ifCond .ne off, 3)) (ht : (pc : Int) + off = (tgt : Int)) (kt : x ≠ 0 → W p l e R s m args below meth c H locs cells slots Q (F0 m tgt ls rest)) (kf : x = 0 → W p l e R s m args below meth c H locs cells slots Q (F0 m (pc + 3) ls rest)) : W p l e R s m args below meth c H locs cells slots Q (F0 m pc ls (.int (iI x) :: rest)) :=
  lv_if_ne hx hb hdg ht (fun h => kt fun g => h (by rw [g]; exact iI_0.symm)) (fun h => kf ((iI_inj hr r32_0).mp (h.trans iI_0)))
/-- a comparison of longs: the number that the branch behind it asks for -/
def cmpz (x y : Int) : Int := if y < x then 1 else if x = y then 0 else -1
theorem cmpz_r (x y : Int) : r32 (cmpz x y) := by
  unfold cmpz r32
  split
  · exact ⟨by decide, by decide⟩
  · split <;> exact ⟨by decide, by decide⟩
theorem x_lcmp (hx : p.tables.exec = Jvm.exec) (hb : c.code = cc) {x y : Int} (hr : r64 x) (hy : r64 y) (hdg : decode cc pc = .ok (.lcmp, 1)) (k : W p l e R s m args below meth c H locs cells slots Q (F0 m (pc + 1) ls (.int (iI (cmpz x y)) :: rest))) : W p l e R s m args below meth c H locs cells slots Q (F0 m pc ls (.long (lI y) :: .long (lI x) :: rest)) := by
  refine W.lcmp hx hb hdg (x_i ?_ k)
  unfold lg_cmp cmpz
  by_cases h1 : y < x
  · rw [if_pos ((lI_lt hy hr).mpr h1), if_pos h1]; decide
  · rw [if_neg (fun g => h1 ((lI_lt hy hr).mp g)), if_neg h1]
    by_cases h2 : x = y
    · rw [if_pos ((lI_inj hr hy).mpr h2), if_pos h2]; decide
    · rw [if_neg (fun g => h2 ((lI_inj hr hy).mp g)), if_neg h2]; decide
theorem cmpz_le {x y : Int} : cmpz x y ≤ 0 ↔ x ≤ y := by
  unfold cmpz
  split
  · omega
  · split <;> omega
theorem cmpz_lt {x y : Int} : cmpz x y < 0 ↔ x < y := by
  unfold cmpz
  split
  · omega
  · split <;> omega
theorem cmpz_eq {x y : Int} : cmpz x y = 0 ↔ x = y := by
  unfold cmpz
  split
  · omega
  · split <;> omega
end XW
