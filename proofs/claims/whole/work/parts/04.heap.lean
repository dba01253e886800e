-- rows over the world wl: fields, arrays, what is made, calls
section XH
variable {p : Program} {l : Launch} {e : Env} {R : Room} {s : State} {m : MethodId} {args : Array Value} {below : List Frame} {meth : Method} {c : Code} {H : Heap} {locs : List Loc} {cells slots : Nat} {Q : State → Prop}
variable {cc : ByteArray} {pc : Nat} {ls : Array Slot} {rest : List Value}
variable {D : va_G} {cl : List vw_C} {ct : Nat → ClassId} {b N : Nat} {u : Nat → va_E}
theorem w_get (hx : p.tables.exec = Jvm.exec) (hb : c.code = cc) {own ref C : String} {T : u_T} {M ci index : Nat} {Ts : List Cond} (hts : ∀ w ∈ Ts, w.before args s = true) (hin : ∀ w ∈ u_ws C T M, w ∈ Ts) (hown : s.vm.findClass own = some m.cls) (hK : va_K D cl (cty ct) s) (hP : va_P D cl (wl N b u) H) (k : Nat) (hk : k < N) {fs : List Value} (hu : u k = .inr (ci, fs)) (hc : cl[ci]? = some (C, T, M)) (j : Nat) (hj : j < M) (hlink : (Cond.fieldLink own index ref (T j).2.1 (T j).2.2.1).before args s = true) (hsame : ∀ x, s.fieldFound? (T j).1 (T j).2.1 (T j).2.2.1 = some x → s.fieldFound? ref (T j).2.1 (T j).2.2.1 = some x) {v : Value} (hv : fs[j]? = some v) (hdg : decode cc pc = .ok (.getfield index, 3)) (kk : W p l e R s m args below meth c H locs cells slots Q (F0 m (pc + 3) ls (v :: rest))) : W p l e R s m args below meth c H locs cells slots Q (F0 m pc ls (.ref (b + k) :: rest)) :=
  va_get hx hb hts hin hown hK hP k (by rw [wl_get hk, hu]) hc j hj hlink hsame hv hdg kk
theorem w_put (hx : p.tables.exec = Jvm.exec) (hb : c.code = cc) {own ref C : String} {T : u_T} {M ci index : Nat} {Ts : List Cond} (hts : ∀ w ∈ Ts, w.before args s = true) (hin : ∀ w ∈ u_ws C T M, w ∈ Ts) (ty0 : Nat → FieldType) (hty : ∀ k, k < M → parseFieldDescriptor (T k).2.2.1 = some (ty0 k)) (hnm : ∀ a, a < M → ∀ b, b < M → a ≠ b → (T a).2.1 ≠ (T b).2.1) (hown : s.vm.findClass own = some m.cls) (hK : va_K D cl (cty ct) s) (hP : va_P D cl (wl N b u) H) (hS : va_S (AA b) s.heap H locs) (k : Nat) (hk : k < N) {fs : List Value} (hu : u k = .inr (ci, fs)) (hc : cl[ci]? = some (C, T, M)) (j : Nat) (hj : j < M) (hlink : (Cond.fieldLink own index ref (T j).2.1 (T j).2.2.1).before args s = true) (hsame : ∀ x, s.fieldFound? (T j).1 (T j).2.1 (T j).2.2.1 = some x → s.fieldFound? ref (T j).2.1 (T j).2.2.1 = some x) (hfin : (T j).2.2.2 = false) {ty : FieldType} {v : Value} (hd : parseFieldDescriptor (T j).2.2.1 = some ty) (hn : narrow ty v = v) (hfit : fits ty v = true) (hl : j < fs.length) (hdg : decode cc pc = .ok (.putfield index, 3)) (kk : ∀ (H1 : Heap) (locs1 : List Loc), va_P D cl (wl N b (va_up u k (.inr (ci, fs.set j v)))) H1 → va_S (AA b) s.heap H1 locs1 → W p l e R s m args below meth c H1 locs1 cells slots Q (F0 m (pc + 3) ls rest)) : W p l e R s m args below meth c H locs cells slots Q (F0 m pc ls (v :: .ref (b + k) :: rest)) :=
  va_put hx hb hts hin ty0 hty hnm hown hK hP wl_D hS k (by rw [wl_get hk, hu]) hc j hj hlink hsame hfin hd hn hfit hl hdg (fun H1 locs1 h1 _ h3 => kk H1 locs1 (by rw [← wl_set]; exact h1) h3)
theorem w_putF (hx : p.tables.exec = Jvm.exec) (hb : c.code = cc) {own ref C : String} {T : u_T} {M ci index : Nat} {Ts : List Cond} (hts : ∀ w ∈ Ts, w.before args s = true) (hin : ∀ w ∈ u_ws C T M, w ∈ Ts) (ty0 : Nat → FieldType) (hty : ∀ k, k < M → parseFieldDescriptor (T k).2.2.1 = some (ty0 k)) (hnm : ∀ a, a < M → ∀ b, b < M → a ≠ b → (T a).2.1 ≠ (T b).2.1) (hown : s.vm.findClass own = some m.cls) (hK : va_K D cl (cty ct) s) (hP : va_P D cl (wl N b u) H) (hS : va_S (AA b) s.heap H locs) (k : Nat) (hk : k < N) {fs : List Value} (hu : u k = .inr (ci, fs)) (hc : cl[ci]? = some (C, T, M)) (j : Nat) (hj : j < M) (hlink : (Cond.fieldLink own index ref (T j).2.1 (T j).2.2.1).before args s = true) (hsame : ∀ x, s.fieldFound? (T j).1 (T j).2.1 (T j).2.2.1 = some x → s.fieldFound? ref (T j).2.1 (T j).2.2.1 = some x) (hfin : (T j).2.2.2 = true) (hin2 : meth.name = "<init>") (hdecl : (T j).1 = own) {ty : FieldType} {v : Value} (hd : parseFieldDescriptor (T j).2.2.1 = some ty) (hn : narrow ty v = v) (hfit : fits ty v = true) (hl : j < fs.length) (hdg : decode cc pc = .ok (.putfield index, 3)) (kk : ∀ (H1 : Heap) (locs1 : List Loc), va_P D cl (wl N b (va_up u k (.inr (ci, fs.set j v)))) H1 → va_S (AA b) s.heap H1 locs1 → W p l e R s m args below meth c H1 locs1 cells slots Q (F0 m (pc + 3) ls rest)) : W p l e R s m args below meth c H locs cells slots Q (F0 m pc ls (v :: .ref (b + k) :: rest)) :=
  va_putF hx hb hts hin ty0 hty hnm hown hK hP wl_D hS k (by rw [wl_get hk, hu]) hc j hj hlink hsame hfin hin2 hdecl hd hn hfit hl hdg (fun H1 locs1 h1 _ h3 => kk H1 locs1 (by rw [← wl_set]; exact h1) h3)
theorem w_iald (hx : p.tables.exec = Jvm.exec) (hb : c.code = cc) (hK : va_K D cl (cty ct) s) (hP : va_P D cl (wl N b u) H) (k : Nat) (hk : k < N) {n : Nat} {g : Int → Int} (hu : u k = ir ct n g) {a : Int} (h0 : 0 ≤ a) (h1 : a < n) (hn : n < 2147483648) (hdg : decode cc pc = .ok (.iaload, 1)) (kk : W p l e R s m args below meth c H locs cells slots Q (F0 m (pc + 1) ls (.int (iI (g a)) :: rest))) : W p l e R s m args below meth c H locs cells slots Q (F0 m pc ls (.int (iI a) :: .ref (b + k) :: rest)) := by
  obtain ⟨j, rfl⟩ := Int.eq_ofNat_of_zero_le h0
  refine va_iald hx hb hK hP k 0 (n := n) (f := fun j => iI (g (j : Int))) (by rw [wl_get hk, hu]) rfl (iI_in (by omega) hn) hdg ?_
  rw [iI_clamp (by omega)]
  exact kk
theorem w_iast (hx : p.tables.exec = Jvm.exec) (hb : c.code = cc) (hK : va_K D cl (cty ct) s) (hP : va_P D cl (wl N b u) H) (hS : va_S (AA b) s.heap H locs) (k : Nat) (hk : k < N) {n : Nat} {g : Int → Int} (hu : u k = ir ct n g) {a x : Int} (h0 : 0 ≤ a) (h1 : a < n) (hn : n < 2147483648) (hdg : decode cc pc = .ok (.iastore, 1)) (kk : ∀ (H1 : Heap) (locs1 : List Loc), va_P D cl (wl N b (va_up u k (ir ct n (zu g a x)))) H1 → va_S (AA b) s.heap H1 locs1 → W p l e R s m args below meth c H1 locs1 cells slots Q (F0 m (pc + 1) ls rest)) : W p l e R s m args below meth c H locs cells slots Q (F0 m pc ls (.int (iI x) :: .int (iI a) :: .ref (b + k) :: rest)) := by
  obtain ⟨j, rfl⟩ := Int.eq_ofNat_of_zero_le h0
  refine va_iast hx hb hK hP wl_D hS k 0 (n := n) (f := fun j => iI (g (j : Int))) (by rw [wl_get hk, hu]) rfl (iI_in (by omega) hn) hdg (fun H1 locs1 h1 _ h3 => kk H1 locs1 ?_ h3)
  rw [zu_upd g (by omega)] at h1
  rw [← wl_set]
  exact h1
theorem w_lald (hx : p.tables.exec = Jvm.exec) (hb : c.code = cc) (hK : va_K D cl (cty ct) s) (hP : va_P D cl (wl N b u) H) (k : Nat) (hk : k < N) {n : Nat} {g : Int → Int} (hu : u k = lr ct n g) {a : Int} (h0 : 0 ≤ a) (h1 : a < n) (hn : n < 2147483648) (hdg : decode cc pc = .ok (.laload, 1)) (kk : W p l e R s m args below meth c H locs cells slots Q (F0 m (pc + 1) ls (.long (lI (g a)) :: rest))) : W p l e R s m args below meth c H locs cells slots Q (F0 m pc ls (.int (iI a) :: .ref (b + k) :: rest)) := by
  obtain ⟨j, rfl⟩ := Int.eq_ofNat_of_zero_le h0
  refine va_lald hx hb hK hP k 1 (n := n) (f := fun j => lI (g (j : Int))) (by rw [wl_get hk, hu]) rfl (iI_in (by omega) hn) hdg ?_
  rw [iI_clamp (by omega)]
  exact kk
theorem w_last (hx : p.tables.exec = Jvm.exec) (hb : c.code = cc) (hK : va_K D cl (cty ct) s) (hP : va_P D cl (wl N b u) H) (hS : va_S (AA b) s.heap H locs) (k : Nat) (hk : k < N) {n : Nat} {g : Int → Int} (hu : u k = lr ct n g) {a x : Int} (h0 : 0 ≤ a) (h1 : a < n) (hn : n < 2147483648) (hdg : decode cc pc = .ok (.lastore, 1)) (kk : ∀ (H1 : Heap) (locs1 : List Loc), va_P D cl (wl N b (va_up u k (lr ct n (zu g a x)))) H1 → va_S (AA b) s.heap H1 locs1 → W p l e R s m args below meth c H1 locs1 cells slots Q (F0 m (pc + 1) ls rest)) : W p l e R s m args below meth c H locs cells slots Q (F0 m pc ls (.long (lI x) :: .int (iI a) :: .ref (b + k) :: rest)) := by
  obtain ⟨j, rfl⟩ := Int.eq_ofNat_of_zero_le h0
  refine va_last hx hb hK hP wl_D hS k 1 (n := n) (f := fun j => lI (g (j : Int))) (by rw [wl_get hk, hu]) rfl (iI_in (by omega) hn) hdg (fun H1 locs1 h1 _ h3 => kk H1 locs1 ?_ h3)
  rw [zu_updL g (by omega)] at h1
  rw [← wl_set]
  exact h1
theorem w_zald (hx : p.tables.exec = Jvm.exec) (hb : c.code = cc) (hK : va_K D cl (cty ct) s) (hP : va_P D cl (wl N b u) H) (k : Nat) (hk : k < N) {n : Nat} {g : Int → Int} (hu : u k = zr ct n g) {a : Int} (h0 : 0 ≤ a) (h1 : a < n) (hn : n < 2147483648) (hdg : decode cc pc = .ok (.baload, 1)) (kk : W p l e R s m args below meth c H locs cells slots Q (F0 m (pc + 1) ls (.int (iI (g a)) :: rest))) : W p l e R s m args below meth c H locs cells slots Q (F0 m pc ls (.int (iI a) :: .ref (b + k) :: rest)) := by
  obtain ⟨j, rfl⟩ := Int.eq_ofNat_of_zero_le h0
  refine va_zald hx hb hK hP k 2 (n := n) (f := fun j => iI (g (j : Int))) (by rw [wl_get hk, hu]) rfl (iI_in (by omega) hn) hdg ?_
  rw [iI_clamp (by omega)]
  exact kk
theorem nar_z {x : Int} (h : x = 0 ∨ x = 1) : vp_nar .boolean (iI x) = iI x := by
  rcases h with rfl | rfl <;> rfl
theorem w_zast (hx : p.tables.exec = Jvm.exec) (hb : c.code = cc) (hK : va_K D cl (cty ct) s) (hP : va_P D cl (wl N b u) H) (hS : va_S (AA b) s.heap H locs) (k : Nat) (hk : k < N) {n : Nat} {g : Int → Int} (hu : u k = zr ct n g) {a x : Int} (h0 : 0 ≤ a) (h1 : a < n) (hn : n < 2147483648) (hz : x = 0 ∨ x = 1) (hdg : decode cc pc = .ok (.bastore, 1)) (kk : ∀ (H1 : Heap) (locs1 : List Loc), va_P D cl (wl N b (va_up u k (zr ct n (zu g a x)))) H1 → va_S (AA b) s.heap H1 locs1 → W p l e R s m args below meth c H1 locs1 cells slots Q (F0 m (pc + 1) ls rest)) : W p l e R s m args below meth c H locs cells slots Q (F0 m pc ls (.int (iI x) :: .int (iI a) :: .ref (b + k) :: rest)) := by
  obtain ⟨j, rfl⟩ := Int.eq_ofNat_of_zero_le h0
  refine va_zast hx hb hK hP wl_D hS k 2 (n := n) (f := fun j => iI (g (j : Int))) (by rw [wl_get hk, hu]) rfl (iI_in (by omega) hn) hdg (fun H1 locs1 h1 _ h3 => kk H1 locs1 ?_ h3)
  rw [nar_z hz, zu_upd g (by omega)] at h1
  rw [← wl_set]
  exact h1
theorem w_alen (hx : p.tables.exec = Jvm.exec) (hb : c.code = cc) (hK : va_K D cl (cty ct) s) (hP : va_P D cl (wl N b u) H) (k : Nat) (hk : k < N) {n : Nat} {g : Int → Int} (hu : u k = ir ct n g) (hdg : decode cc pc = .ok (.arraylength, 1)) (kk : W p l e R s m args below meth c H locs cells slots Q (F0 m (pc + 1) ls (.int (iI n) :: rest))) : W p l e R s m args below meth c H locs cells slots Q (F0 m pc ls (.ref (b + k) :: rest)) :=
  va_alen hx hb hK hP k 0 (x := (n, .inl (fun j => iI (g (j : Int))))) (by rw [wl_get hk, hu]) (ty := .int) rfl (v := iI n) (nI_iI n) hdg kk
theorem w_aald (hx : p.tables.exec = Jvm.exec) (hb : c.code = cc) (hK : va_K D cl (cty ct) s) (hP : va_P D cl (wl N b u) H) (k : Nat) (hk : k < N) (t0 : Nat) {C : String} {n : Nat} {f : Nat → Option Nat} (hu : u k = qr ct t0 n f) (ht : (cty ct)[t0]? = some (ct t0, .object C)) {a : Int} (h0 : 0 ≤ a) (h1 : a < n) (hn : n < 2147483648) {r : Nat} (hr : f a.toNat = some r) (hdg : decode cc pc = .ok (.aaload, 1)) (kk : W p l e R s m args below meth c H locs cells slots Q (F0 m (pc + 1) ls (.ref r :: rest))) : W p l e R s m args below meth c H locs cells slots Q (F0 m pc ls (.int (iI a) :: .ref (b + k) :: rest)) := by
  obtain ⟨j, rfl⟩ := Int.eq_ofNat_of_zero_le h0
  refine va_aldq hx hb hK hP k t0 (n := n) (f := f) (by rw [wl_get hk, hu]) ht (iI_in (by omega) hn) hdg ?_
  rw [iI_clamp (by omega), show f j = some r from hr]
  exact kk
theorem w_aast (hx : p.tables.exec = Jvm.exec) (hb : c.code = cc) (hK : va_K D cl (cty ct) s) (hP : va_P D cl (wl N b u) H) (hS : va_S (AA b) s.heap H locs) (k : Nat) (hk : k < N) (t0 j ci : Nat) (hj : j < N) {C : vw_C} {n : Nat} {f : Nat → Option Nat} {vs : List Value} (hu : u k = qr ct t0 n f) (ht : (cty ct)[t0]? = some (ct t0, .object C.1)) (hv : u j = .inr (ci, vs)) (hc : cl[ci]? = some C) {a : Int} (h0 : 0 ≤ a) (h1 : a < n) (hn : n < 2147483648) (hdg : decode cc pc = .ok (.aastore, 1)) (kk : ∀ (H1 : Heap) (locs1 : List Loc), va_P D cl (wl N b (va_up u k (qr ct t0 n (va_up f a.toNat (some (b + j)))))) H1 → va_S (AA b) s.heap H1 locs1 → W p l e R s m args below meth c H1 locs1 cells slots Q (F0 m (pc + 1) ls rest)) : W p l e R s m args below meth c H locs cells slots Q (F0 m pc ls (.ref (b + j) :: .int (iI a) :: .ref (b + k) :: rest)) := by
  obtain ⟨i, rfl⟩ := Int.eq_ofNat_of_zero_le h0
  refine va_astq hx hb hK hP wl_D hS k t0 j ci (n := n) (f := f) (by rw [wl_get hk, hu]) ht (by rw [wl_get hj, hv]) hc (iI_in (by omega) hn) hdg (fun H1 locs1 h1 _ h3 => kk H1 locs1 ?_ h3)
  rw [iI_clamp (by omega)] at h1
  rw [← wl_set]
  exact h1
/-- the heap is no greater than the cells that were counted -/
theorem W.size {g : JFrame} (kk : H.size ≤ s.heap.size + cells → W p l e R s m args below meth c H locs cells slots Q g) : W p l e R s m args below meth c H locs cells slots Q g := fun T hT X => kk (by rw [← hT]; exact X.heapSize) T hT X
/-- a new cell of the world lies just behind the others -/
theorem wl_next {q : Nat} {x : va_E} {H1 : Heap} (hP : va_P D cl (wl N b u ++ [(q, x)]) H1) (hD : va_D (AA b) (wl N b u ++ [(q, x)])) (hz : H1.size ≤ b + N + 1) : q = b + N := by
  have h1 : (wl N b u ++ [(q, x)])[N]? = some (q, x) := by
    rw [List.getElem?_append_right (by rw [wl_len]; exact Nat.le_refl _), wl_len]
    simp
  have h2 : q < H1.size := (hP N _ h1).lt
  have h3 : b ≤ q := hD.2 N _ h1
  by_cases h4 : q = b + N
  · exact h4
  · have h5 : q - b < N := by omega
    have h6 : (wl N b u ++ [(q, x)])[q - b]? = some (b + (q - b), u (q - b)) := by
      rw [List.getElem?_append_left (by rw [wl_len]; exact h5), wl_get h5]
    have h7 := hD.1 (q - b) N _ _ h6 h1 (by show b + (q - b) = q; omega)
    omega
theorem w_new (hx : p.tables.exec = Jvm.exec) (hb : c.code = cc) {own C : String} {T : u_T} {M ci index : Nat} {Ts : List Cond} (hts : ∀ w ∈ Ts, w.before args s = true) (hin : ∀ w ∈ u_ws C T M, w ∈ Ts) (ty : Nat → FieldType) (hty : ∀ k, k < M → parseFieldDescriptor (T k).2.2.1 = some (ty k)) (hown : s.vm.findClass own = some m.cls) (hcl : (Cond.classLink own index C).before args s = true) (hinst : (Cond.instantiable C M).before args s = true) (hini : (Cond.initialized C).before args s = true) (hK : va_K D cl (cty ct) s) (hP : va_P D cl (wl N b u) H) (hS : va_S (AA b) s.heap H locs) (hA : b ≤ s.heap.size) (hz : s.heap.size + cells = b + N) (hc : cl[ci]? = some (C, T, M)) {fs : List Value} (hfs : ∀ j, j < M → defaultValue (ty j) = vp_V fs j) (hcells : cells + 1 ≤ R.cells) (hslots : slots + M ≤ R.slots) (hdg : decode cc pc = .ok (.new index, 3)) (kk : ∀ (H1 : Heap), va_P D cl (wl (N + 1) b (va_up u N (.inr (ci, fs)))) H1 → va_S (AA b) s.heap H1 locs → W p l e R s m args below meth c H1 locs (cells + 1) (slots + M) Q (F0 m (pc + 3) ls (.ref (b + N) :: rest))) : W p l e R s m args below meth c H locs cells slots Q (F0 m pc ls rest) := by
  refine va_new hx hb hts hin ty hty hown hcl hinst hini hK hP wl_D hS (fun q h => Nat.le_trans hA h) hc hfs hcells hslots hdg (fun q H1 h1 h2 h3 => W.size fun hs => ?_)
  have hq := wl_next h1 h2 (by omega)
  subst hq
  exact kk H1 (by rw [← wl_push]; exact h1) h3
theorem ct_uniq {ty : FieldType} {i : Nat} {cA : ClassId} {T : List (ClassId × FieldType)} (hK : va_K D cl (cty ct) s) (hi : (cty ct)[i]? = some (ct i, ty)) (hK1 : va_K D cl (T ++ [(cA, ty)]) s) : cA = ct i := by
  have h1 := (hK.2 i _ hi).2
  have h2 := (hK1.2 T.length (cA, ty) (by simp)).2
  cases ty with
  | object C =>
    obtain ⟨k1, c1, -, -, -, e1⟩ := h1
    obtain ⟨k2, c2, -, -, -, e2⟩ := h2
    rw [e1] at e2
    exact (Option.some.inj e2).symm
  | _ =>
    have e1 : s.vm.findClass _ = some (ct i) := h1
    have e2 : s.vm.findClass _ = some cA := h2
    rw [e1] at e2
    exact (Option.some.inj e2).symm
theorem w_newi (hx : p.tables.exec = Jvm.exec) (hb : c.code = cc) (harr : (Cond.arrayClass .int).before args s = true) (hK : va_K D cl (cty ct) s) (hP : va_P D cl (wl N b u) H) (hS : va_S (AA b) s.heap H locs) (hA : b ≤ s.heap.size) (hz : s.heap.size + cells = b + N) {n : Nat} (hn : n < 65536) (hcells : cells + 1 ≤ R.cells) (hslots : slots + n ≤ R.slots) (hdg : decode cc pc = .ok (.newarray .int, 2)) (kk : ∀ (H1 : Heap), va_P D cl (wl (N + 1) b (va_up u N (ir ct n (fun _ => 0)))) H1 → va_S (AA b) s.heap H1 locs → W p l e R s m args below meth c H1 locs (cells + 1) (slots + n) Q (F0 m (pc + 2) ls (.ref (b + N) :: rest))) : W p l e R s m args below meth c H locs cells slots Q (F0 m pc ls (.int (iI n) :: rest)) := by
  refine va_newa (atype := .int) hx hb harr rfl hK hP wl_D hS (fun q h => Nat.le_trans hA h) (N' := n) (a0 := (n, .inl (fun _ => iI 0))) (fun cA => rfl) ?_ (iI_clamp (by omega)) ?_ hcells hslots hdg (fun q cA H1 hK1 h1 h2 h3 => W.size fun hs => ?_)
  · rw [iI_0, iI_lt ⟨by omega, by omega⟩ r32_0]; omega
  · have e4 : componentBytes (newarray.typeOf .int) = 4 := rfl
    rw [e4]; omega
  · have hc := ct_uniq (i := 0) hK rfl hK1
    subst hc
    have hq := wl_next h1 h2 (by omega)
    subst hq
    exact kk H1 (by rw [← wl_push]; exact h1) h3
theorem w_newl (hx : p.tables.exec = Jvm.exec) (hb : c.code = cc) (harr : (Cond.arrayClass .long).before args s = true) (hK : va_K D cl (cty ct) s) (hP : va_P D cl (wl N b u) H) (hS : va_S (AA b) s.heap H locs) (hA : b ≤ s.heap.size) (hz : s.heap.size + cells = b + N) {n : Nat} (hn : n < 65536) (hcells : cells + 1 ≤ R.cells) (hslots : slots + n ≤ R.slots) (hdg : decode cc pc = .ok (.newarray .long, 2)) (kk : ∀ (H1 : Heap), va_P D cl (wl (N + 1) b (va_up u N (lr ct n (fun _ => 0)))) H1 → va_S (AA b) s.heap H1 locs → W p l e R s m args below meth c H1 locs (cells + 1) (slots + n) Q (F0 m (pc + 2) ls (.ref (b + N) :: rest))) : W p l e R s m args below meth c H locs cells slots Q (F0 m pc ls (.int (iI n) :: rest)) := by
  refine va_newa (atype := .long) hx hb harr rfl hK hP wl_D hS (fun q h => Nat.le_trans hA h) (N' := n) (a0 := (n, .inr (.inl (fun _ => lI 0)))) (fun cA => rfl) ?_ (iI_clamp (by omega)) ?_ hcells hslots hdg (fun q cA H1 hK1 h1 h2 h3 => W.size fun hs => ?_)
  · rw [iI_0, iI_lt ⟨by omega, by omega⟩ r32_0]; omega
  · have e4 : componentBytes (newarray.typeOf .long) = 8 := rfl
    rw [e4]; omega
  · have hc := ct_uniq (i := 1) hK rfl hK1
    subst hc
    have hq := wl_next h1 h2 (by omega)
    subst hq
    exact kk H1 (by rw [← wl_push]; exact h1) h3
theorem w_newz (hx : p.tables.exec = Jvm.exec) (hb : c.code = cc) (harr : (Cond.arrayClass .boolean).before args s = true) (hK : va_K D cl (cty ct) s) (hP : va_P D cl (wl N b u) H) (hS : va_S (AA b) s.heap H locs) (hA : b ≤ s.heap.size) (hz : s.heap.size + cells = b + N) {n : Nat} (hn : n < 65536) (hcells : cells + 1 ≤ R.cells) (hslots : slots + n ≤ R.slots) (hdg : decode cc pc = .ok (.newarray .boolean, 2)) (kk : ∀ (H1 : Heap), va_P D cl (wl (N + 1) b (va_up u N (zr ct n (fun _ => 0)))) H1 → va_S (AA b) s.heap H1 locs → W p l e R s m args below meth c H1 locs (cells + 1) (slots + n) Q (F0 m (pc + 2) ls (.ref (b + N) :: rest))) : W p l e R s m args below meth c H locs cells slots Q (F0 m pc ls (.int (iI n) :: rest)) := by
  refine va_newa (atype := .boolean) hx hb harr rfl hK hP wl_D hS (fun q h => Nat.le_trans hA h) (N' := n) (a0 := (n, .inl (fun _ => iI 0))) (fun cA => rfl) ?_ (iI_clamp (by omega)) ?_ hcells hslots hdg (fun q cA H1 hK1 h1 h2 h3 => W.size fun hs => ?_)
  · rw [iI_0, iI_lt ⟨by omega, by omega⟩ r32_0]; omega
  · have e4 : componentBytes (newarray.typeOf .boolean) = 1 := rfl
    rw [e4]; omega
  · have hc := ct_uniq (i := 2) hK rfl hK1
    subst hc
    have hq := wl_next h1 h2 (by omega)
    subst hq
    exact kk H1 (by rw [← wl_push]; exact h1) h3
theorem w_newq (hx : p.tables.exec = Jvm.exec) (hb : c.code = cc) {own C : String} {index : Nat} (hown : s.vm.findClass own = some m.cls) (hclink : (Cond.classLink own index C).before args s = true) (hover : va_AO C s) (i : Nat) (hi : (cty ct)[i]? = some (ct i, .object C)) (hK : va_K D cl (cty ct) s) (hP : va_P D cl (wl N b u) H) (hS : va_S (AA b) s.heap H locs) (hA : b ≤ s.heap.size) (hz : s.heap.size + cells = b + N) {n : Nat} (hn : n < 65536) (hcells : cells + 1 ≤ R.cells) (hslots : slots + n ≤ R.slots) (hdg : decode cc pc = .ok (.anewarray index, 3)) (kk : ∀ (H1 : Heap), va_P D cl (wl (N + 1) b (va_up u N (qr ct i n (fun _ => none)))) H1 → va_S (AA b) s.heap H1 locs → W p l e R s m args below meth c H1 locs (cells + 1) (slots + n) Q (F0 m (pc + 3) ls (.ref (b + N) :: rest))) : W p l e R s m args below meth c H locs cells slots Q (F0 m pc ls (.int (iI n) :: rest)) := by
  refine va_newq hx hb hown hclink hover hK hP wl_D hS (fun q h => Nat.le_trans hA h) (N' := n) ?_ (iI_clamp (by omega)) (by omega) hcells hslots hdg (fun q cA H1 hK1 h1 h2 h3 => W.size fun hs => ?_)
  · rw [iI_0, iI_lt ⟨by omega, by omega⟩ r32_0]; omega
  · have hc := ct_uniq (i := i) hK hi hK1
    subst hc
    have hq := wl_next h1 h2 (by omega)
    subst hq
    exact kk H1 (by rw [← wl_push]; exact h1) h3
/-- behind a call -/
theorem w_callv {S : Type} {post : S → Prop} {N1 : Nat} {u1 : S → Nat → va_E} {st0 : List Value} {a : Array Value} {mc ms : Nat} (hr : va_Run p l e R s m args below meth c H locs cells slots mc ms (F0 m pc ls st0) rest (va_Qv post (fun z t => va_P D cl (wl N1 b (u1 z)) t.heap) (AA b) a) (AA b)) (hS : va_S (AA b) s.heap H locs) (kk : ∀ (z : S) (H1 : Heap) (locs1 : List Loc), post z → va_P D cl (wl N1 b (u1 z)) H1 → va_S (AA b) s.heap H1 locs1 → W p l e R s m args below meth c H1 locs1 (cells + mc) (slots + ms) Q (F0 m (pc + 3) ls rest)) : W p l e R s m args below meth c H locs cells slots Q (F0 m pc ls st0) :=
  va_callv hr hS (fun _ _ h => h) (fun _ h => h) (fun z t H1 locs1 ht _ hp hB _ _ hS => kk z H1 locs1 hp (by rw [← ht]; exact hB) hS)
theorem w_calli {S : Type} {post : Int32 → S → Prop} {N1 : Nat} {u1 : S → Nat → va_E} {st0 : List Value} {a : Array Value} {mc ms : Nat} (hr : va_Run p l e R s m args below meth c H locs cells slots mc ms (F0 m pc ls st0) rest (va_Qi post (fun z t => va_P D cl (wl N1 b (u1 z)) t.heap) (AA b) a) (AA b)) (hS : va_S (AA b) s.heap H locs) (kk : ∀ (r : Int32) (z : S) (H1 : Heap) (locs1 : List Loc), post r z → va_P D cl (wl N1 b (u1 z)) H1 → va_S (AA b) s.heap H1 locs1 → W p l e R s m args below meth c H1 locs1 (cells + mc) (slots + ms) Q (F0 m (pc + 3) ls (.int r :: rest))) : W p l e R s m args below meth c H locs cells slots Q (F0 m pc ls st0) :=
  va_calli hr hS (fun _ _ h => h) (fun _ h => h) (fun r z t H1 locs1 ht _ hp hB _ _ hS => kk r z H1 locs1 hp (by rw [← ht]; exact hB) hS)
theorem w_calll {S : Type} {post : Int64 → S → Prop} {N1 : Nat} {u1 : S → Nat → va_E} {st0 : List Value} {a : Array Value} {mc ms : Nat} (hr : va_Run p l e R s m args below meth c H locs cells slots mc ms (F0 m pc ls st0) rest (va_Ql post (fun z t => va_P D cl (wl N1 b (u1 z)) t.heap) (AA b) a) (AA b)) (hS : va_S (AA b) s.heap H locs) (kk : ∀ (r : Int64) (z : S) (H1 : Heap) (locs1 : List Loc), post r z → va_P D cl (wl N1 b (u1 z)) H1 → va_S (AA b) s.heap H1 locs1 → W p l e R s m args below meth c H1 locs1 (cells + mc) (slots + ms) Q (F0 m (pc + 3) ls (.long r :: rest))) : W p l e R s m args below meth c H locs cells slots Q (F0 m pc ls st0) :=
  va_calll hr hS (fun _ _ h => h) (fun _ h => h) (fun r z t H1 locs1 ht _ hp hB _ _ hS => kk r z H1 locs1 hp (by rw [← ht]; exact hB) hS)
def zcp (f g : Int → Int) (n : Nat) : Int → Int := fun j => if 0 ≤ j ∧ j < n then f j else g j
theorem zcp_in {f g : Int → Int} {n : Nat} {j : Int} (h0 : 0 ≤ j) (h1 : j < n) : zcp f g n j = f j := by
  unfold zcp
  rw [if_pos ⟨h0, h1⟩]
theorem zcp_eq (f g : Int → Int) {n : Nat} (hn : n < 65536) : va_cpy (fun j => iI (f (j : Int))) (fun j => iI (g (j : Int))) (iI 0).toNatClampNeg (iI 0).toNatClampNeg (iI (n : Int)).toNatClampNeg = fun j : Nat => iI (zcp f g n (j : Int)) := by
  have e0 : (iI 0).toNatClampNeg = 0 := iI_clamp (n := 0) (by omega)
  funext j
  rw [e0, iI_clamp (by omega)]
  unfold va_cpy zcp
  by_cases h : j < n
  · rw [if_pos ⟨by omega, by omega⟩, if_pos ⟨by omega, by omega⟩, show 0 + (j - 0) = j by omega]
  · rw [if_neg (by omega), if_neg (by omega)]
theorem w_copy (hx : p.tables.exec = Jvm.exec) (hb : c.code = cc) (hml : c.maxLocals = ls.size) {own : String} {index : Nat} (hown : s.vm.findClass own = some m.cls) (hlink : (Cond.methodLink own index arraycopyName).before args s = true) (hnat : (Cond.native arraycopyName).before args s = true) (hstat : (Cond.static arraycopyName).before args s = true) (hini : (Cond.initialized "java/lang/System").before args s = true) (hK : va_K D cl (cty ct) s) (hP : va_P D cl (wl N b u) H) (hS : va_S (AA b) s.heap H locs) (k0 k1 : Nat) (h0 : k0 < N) (h1 : k1 < N) {n : Nat} {f g : Int → Int} (e0 : u k0 = ir ct n f) (e1 : u k1 = ir ct n g) (hn : n < 65536) (hframes : 1 ≤ R.frames) (hlocals : (rest.map fun v => v.category).sum + (nativeFrameWords "java/lang/System" "arraycopy" 5 + 11) ≤ R.locals) (hdg : decode cc pc = .ok (.invokestatic index, 3)) (kk : ∀ (H1 : Heap) (locs1 : List Loc), va_P D cl (wl N b (va_up u k1 (ir ct n (zcp f g n)))) H1 → va_S (AA b) s.heap H1 locs1 → W p l e R s m args below meth c H1 locs1 cells slots Q (F0 m (pc + 3) ls rest)) : W p l e R s m args below meth c H locs cells slots Q (F0 m pc ls (.int (iI n) :: .int (iI 0) :: .ref (b + k1) :: .int (iI 0) :: .ref (b + k0) :: rest)) := by
  have z0 : ¬ iI 0 < 0 := by rw [iI_0, iI_lt r32_0 r32_0]; omega
  have zn : ¬ iI (n : Int) < 0 := by rw [iI_0, iI_lt ⟨by omega, by omega⟩ r32_0]; omega
  have c0 : (iI 0).toNatClampNeg = 0 := iI_clamp (n := 0) (by omega)
  have cn : (iI (n : Int)).toNatClampNeg = n := iI_clamp (by omega)
  refine va_copyi hx hb hml hown hlink hnat hstat hini hK hP wl_D hS k0 k1 0 0 (n0 := n) (n1 := n) (f := fun j => iI (f (j : Int))) (g := fun j => iI (g (j : Int))) (ty := .int) (by rw [wl_get h0, e0]) (by rw [wl_get h1, e1]) rfl rfl rfl z0 z0 zn (by rw [c0, cn]; omega) (by rw [c0, cn]; omega) (fun _ _ => rfl) hframes hlocals hdg (fun H1 locs1 g1 _ g3 => kk H1 locs1 ?_ g3)
  rw [zcp_eq f g hn] at g1
  rw [← wl_set]
  exact g1
theorem w_sz {g : JFrame} (hP : va_P D cl (wl N b u) H) (hN : 0 < N) (hz : s.heap.size + cells = b + N) (kk : H.size = b + N → W p l e R s m args below meth c H locs cells slots Q g) : W p l e R s m args below meth c H locs cells slots Q g := by
  refine W.size fun h => kk ?_
  have h1 : b + (N - 1) < H.size := (hP (N - 1) _ (wl_get (by omega))).lt
  omega
end XH
