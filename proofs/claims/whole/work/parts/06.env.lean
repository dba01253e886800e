-- what holds of the launch all through: kinds, static rows, the enum's constants, words on nest mates
def sI (g : Int → Int) : Nat → Value := fun j => .int (iI (g (j : Int)))
def sL (g : Int → Int) : Nat → Value := fun j => .long (lI (g (j : Int)))
def minv (a : Int) : Int := if a = 0 then 1 else gin a
def pinv (a : Int) : Int := if a = 4 then 17996 else if a = 8 then 30219 else if a = 9 then 9992 else if a = 12 then 15486 else if a = 13 then 21380 else if a = 14 then 13 else 0
def swm (a : Int) : Int := a
theorem pinv_pin {l k : Int} (h0 : 0 ≤ k) (hk : k < l) (hl : l ≤ 3) : pinv (l * 4 + k) = pin l k := by
  rcases c4 (k := l) (by omega) hl with rfl | rfl | rfl | rfl <;> rcases c4 (k := k) h0 (by omega) with rfl | rfl | rfl | rfl <;> first | (exfalso; omega) | rfl
abbrev po (b k : Nat) (sm : Int) : va_E := .inr (3, [.int (iI sm), .ref (b + (k + 1))])
abbrev vl (b k : Nat) (lv mt : Int) : va_E := .inr (4, [.int (iI lv), .long (lI mt), .ref (b + (k + 1)), .ref (b + (k + 3))])
/-- a Value at the place k, with what stands in its rows -/
def VR (ct : Nat → ClassId) (b : Nat) (u : Nat → va_E) (k : Nat) (lv mt : Int) (g0 g1 : Int → Int) : Prop := u k = vl b k lv mt ∧ u (k + 1) = po b (k + 1) 0 ∧ u (k + 2) = ir ct 32 g0 ∧ u (k + 3) = po b (k + 3) 0 ∧ u (k + 4) = ir ct 32 g1
/-- is the meter too great for its level -/
def tg (lv mt : Int) : Int := if (lQ lv - 1) / 2 < mt then 1 else 0
theorem tg_01 (lv mt : Int) : tg lv mt = 0 ∨ tg lv mt = 1 := by
  unfold tg
  split
  · exact Or.inr rfl
  · exact Or.inl rfl
abbrev gt (b : Nat) (ke : Nat → Nat) (k kd : Nat) (a0 b0 n0 : Int) : va_E := .inr (1, [.ref (ke kd), .int (iI a0), .int (iI b0), .int (iI n0), .ref (b + (k + 1)), .ref (b + (k + 3))])
abbrev ky (b k ks ka kb : Nat) : va_E := .inr (2, [.ref (b + ks), .ref (b + ka), .ref (b + kb)])
theorem pl_ne {u : Nat → va_E} {i j : Nat} {x y : va_E} (hx : u i = x) (hy : u j = y) (h : x = y → False) : i ≠ j := fun e => h (by rw [← hx, ← hy, e])
abbrev dr (z : Int32) : va_E := .inr (0, [.int z])
theorem dv_iI (z : Int32) : (z.toUInt32 >>> ((iI 8).toUInt32 &&& Int32.toUInt32 31)).toInt32 = iI (dv z) := by
  unfold dv iI
  rw [Int32.ofInt_toInt]
  rfl
def sta (st : Nat → Nat) (b : Nat) (U : State) (H : Heap) : Prop :=
  (va_Z "LevelledRing" "PRIMES" "[I" (.ref (st 0)) (AA b) U H ∧ va_T .int (st 0) 4 (sI lq) (AA b) U H) ∧
  (va_Z "LevelledRing" "MODULI" "[J" (.ref (st 1)) (AA b) U H ∧ va_T .long (st 1) 4 (sL lQ) (AA b) U H) ∧
  (va_Z "LevelledRing" "MODULUS_INVERSES" "[I" (.ref (st 2)) (AA b) U H ∧ va_T .int (st 2) 4 (sI minv) (AA b) U H) ∧
  (va_Z "LevelledRing" "PRIME_INVERSES" "[I" (.ref (st 3)) (AA b) U H ∧ va_T .int (st 3) 16 (sI pinv) (AA b) U H) ∧
  (va_Z "LevelledRing$1" "$SwitchMap$LevelledRing$Kind" "[I" (.ref (st 4)) (AA b) U H ∧ va_T .int (st 4) 6 (sI swm) (AA b) U H)
theorem sta.moved {st : Nat → Nat} {b : Nat} {u U : State} {H : Heap} (hvm : u.vm.Alike U.vm) (h : sta st b u H) : sta st b U H :=
  ⟨⟨h.1.1.moved hvm, h.1.2.moved hvm⟩, ⟨h.2.1.1.moved hvm, h.2.1.2.moved hvm⟩, ⟨h.2.2.1.1.moved hvm, h.2.2.1.2.moved hvm⟩, ⟨h.2.2.2.1.1.moved hvm, h.2.2.2.1.2.moved hvm⟩, ⟨h.2.2.2.2.1.moved hvm, h.2.2.2.2.2.moved hvm⟩⟩
theorem sta.kept {st : Nat → Nat} {b : Nat} {U : State} {H H1 : Heap} (h : sta st b U H) (hq : ∀ a : Nat, a < H.size → ¬ AA b a → H1[a]? = H[a]?) : sta st b U H1 :=
  ⟨⟨h.1.1.kept hq, h.1.2.kept hq⟩, ⟨h.2.1.1.kept hq, h.2.1.2.kept hq⟩, ⟨h.2.2.1.1.kept hq, h.2.2.1.2.kept hq⟩, ⟨h.2.2.2.1.1.kept hq, h.2.2.2.1.2.kept hq⟩, ⟨h.2.2.2.2.1.kept hq, h.2.2.2.2.2.kept hq⟩⟩
abbrev knm : List String := ["INPUT", "SUM", "DIFFERENCE", "PRODUCT", "SHIFT", "LOWERED"]
abbrev kF : List (String × String × String × List Int32) := [("java/lang/Enum", "ordinal", "I", [0, 1, 2, 3, 4, 5])]
def nws : List Cond := [(Jvm.Cond.methodLinkNest "LevelledRing" (11 : Nat) ({ cls := "LevelledRing$Drawing", name := "<init>", desc := "()V" } : Jvm.MethodName) "LevelledRing"), (Jvm.Cond.methodLinkNest "LevelledRing" (40 : Nat) ({ cls := "LevelledRing$Value", name := "<init>", desc := "()V" } : Jvm.MethodName) "LevelledRing"), (Jvm.Cond.fieldLinkNest "LevelledRing$Poly" (19 : Nat) "LevelledRing" "PRIMES" "[I" "LevelledRing"), (Jvm.Cond.methodLinkNest "LevelledRing$Poly" (40 : Nat) ({ cls := "LevelledRing", name := "modulo", desc := "(JI)I" } : Jvm.MethodName) "LevelledRing"), (Jvm.Cond.methodLinkNest "LevelledRing" (70 : Nat) ({ cls := "LevelledRing$Gate", name := "<init>", desc := "()V" } : Jvm.MethodName) "LevelledRing"), (Jvm.Cond.methodLinkNest "LevelledRing$Gate" (41 : Nat) ({ cls := "LevelledRing$Value", name := "<init>", desc := "()V" } : Jvm.MethodName) "LevelledRing"), (Jvm.Cond.fieldLinkNest "LevelledRing$Value" (41 : Nat) "LevelledRing" "PRIMES" "[I" "LevelledRing"), (Jvm.Cond.methodLinkNest "LevelledRing$Poly" (52 : Nat) ({ cls := "LevelledRing", name := "centred", desc := "(JJ)J" } : Jvm.MethodName) "LevelledRing"), (Jvm.Cond.fieldLinkNest "LevelledRing$Poly" (58 : Nat) "LevelledRing" "PRIME_INVERSES" "[I" "LevelledRing"), (Jvm.Cond.fieldLinkNest "LevelledRing$Value" (35 : Nat) "LevelledRing" "MODULI" "[J" "LevelledRing"), (Jvm.Cond.fieldLinkNest "LevelledRing$Poly" (61 : Nat) "LevelledRing" "MODULI" "[J" "LevelledRing"), (Jvm.Cond.fieldLinkNest "LevelledRing$Poly" (65 : Nat) "LevelledRing" "MODULUS_INVERSES" "[I" "LevelledRing")]
theorem nw_0 : (Jvm.Cond.methodLinkNest "LevelledRing" (11 : Nat) ({ cls := "LevelledRing$Drawing", name := "<init>", desc := "()V" } : Jvm.MethodName) "LevelledRing") ∈ nws := List.mem_of_getElem? (i := 0) rfl
theorem nw_1 : (Jvm.Cond.methodLinkNest "LevelledRing" (40 : Nat) ({ cls := "LevelledRing$Value", name := "<init>", desc := "()V" } : Jvm.MethodName) "LevelledRing") ∈ nws := List.mem_of_getElem? (i := 1) rfl
theorem nw_2 : (Jvm.Cond.fieldLinkNest "LevelledRing$Poly" (19 : Nat) "LevelledRing" "PRIMES" "[I" "LevelledRing") ∈ nws := List.mem_of_getElem? (i := 2) rfl
theorem nw_3 : (Jvm.Cond.methodLinkNest "LevelledRing$Poly" (40 : Nat) ({ cls := "LevelledRing", name := "modulo", desc := "(JI)I" } : Jvm.MethodName) "LevelledRing") ∈ nws := List.mem_of_getElem? (i := 3) rfl
theorem nw_4 : (Jvm.Cond.methodLinkNest "LevelledRing" (70 : Nat) ({ cls := "LevelledRing$Gate", name := "<init>", desc := "()V" } : Jvm.MethodName) "LevelledRing") ∈ nws := List.mem_of_getElem? (i := 4) rfl
theorem nw_5 : (Jvm.Cond.methodLinkNest "LevelledRing$Gate" (41 : Nat) ({ cls := "LevelledRing$Value", name := "<init>", desc := "()V" } : Jvm.MethodName) "LevelledRing") ∈ nws := List.mem_of_getElem? (i := 5) rfl
theorem nw_6 : (Jvm.Cond.fieldLinkNest "LevelledRing$Value" (41 : Nat) "LevelledRing" "PRIMES" "[I" "LevelledRing") ∈ nws := List.mem_of_getElem? (i := 6) rfl
theorem nw_7 : (Jvm.Cond.methodLinkNest "LevelledRing$Poly" (52 : Nat) ({ cls := "LevelledRing", name := "centred", desc := "(JJ)J" } : Jvm.MethodName) "LevelledRing") ∈ nws := List.mem_of_getElem? (i := 7) rfl
theorem nw_8 : (Jvm.Cond.fieldLinkNest "LevelledRing$Poly" (58 : Nat) "LevelledRing" "PRIME_INVERSES" "[I" "LevelledRing") ∈ nws := List.mem_of_getElem? (i := 8) rfl
theorem nw_9 : (Jvm.Cond.fieldLinkNest "LevelledRing$Value" (35 : Nat) "LevelledRing" "MODULI" "[J" "LevelledRing") ∈ nws := List.mem_of_getElem? (i := 9) rfl
theorem nw_10 : (Jvm.Cond.fieldLinkNest "LevelledRing$Poly" (61 : Nat) "LevelledRing" "MODULI" "[J" "LevelledRing") ∈ nws := List.mem_of_getElem? (i := 10) rfl
theorem nw_11 : (Jvm.Cond.fieldLinkNest "LevelledRing$Poly" (65 : Nat) "LevelledRing" "MODULUS_INVERSES" "[I" "LevelledRing") ∈ nws := List.mem_of_getElem? (i := 11) rfl
theorem nws_warm {s U : State} (hW : s.WarmedH U.vm) (h : ∀ w ∈ nws, va_Nw w s) : ∀ w ∈ nws, va_Nw w U := by
  intro w hw
  have h1 := h w hw
  unfold nws at hw
  simp only [List.mem_cons, List.not_mem_nil, or_false] at hw
  rcases hw with rfl | rfl | rfl | rfl | rfl | rfl | rfl | rfl | rfl | rfl | rfl | rfl <;> first | exact va_Nw.warmF hW h1 | exact va_Nw.warmM hW h1
theorem nws_same {s U : State} (hv : s.vm = U.vm) (h : ∀ w ∈ nws, va_Nw w s) : ∀ w ∈ nws, va_Nw w U := by
  intro w hw
  have h1 := h w hw
  unfold nws at hw
  simp only [List.mem_cons, List.not_mem_nil, or_false] at hw
  rcases hw with rfl | rfl | rfl | rfl | rfl | rfl | rfl | rfl | rfl | rfl | rfl | rfl <;> exact va_Nw.same rfl hv h1
def ev (D : va_G) (ct : Nat → ClassId) (st ke : Nat → Nat) (b : Nat) (U : State) : Prop :=
  va_K D vwCl (cty ct) U ∧ b ≤ U.heap.size ∧ (va_AO "LevelledRing$Gate" U ∧ va_AO "LevelledRing$Poly" U) ∧ (∀ w ∈ nws, va_Nw w U) ∧ sta st b U U.heap ∧ va_En "LevelledRing$Kind" "LLevelledRing$Kind;" knm kF ke (AA b) U U.heap
section EV
variable {D : va_G} {ct : Nat → ClassId} {st ke : Nat → Nat} {b : Nat} {s U : State} {H : Heap} {locs : List Loc}
theorem ev_K (E : ev D ct st ke b s) : va_K D vwCl (cty ct) s := E.1
theorem ev_b (E : ev D ct st ke b s) : b ≤ s.heap.size := E.2.1
theorem ev_AG (E : ev D ct st ke b s) : va_AO "LevelledRing$Gate" s := E.2.2.1.1
theorem ev_AP (E : ev D ct st ke b s) : va_AO "LevelledRing$Poly" s := E.2.2.1.2
theorem ev_W (E : ev D ct st ke b s) (w : Cond) (hw : w ∈ nws) : va_Nw w s := E.2.2.2.1 w hw
theorem ev_Z0 (E : ev D ct st ke b s) : va_Z "LevelledRing" "PRIMES" "[I" (.ref (st 0)) (AA b) s s.heap := E.2.2.2.2.1.1.1
theorem ev_T0 (E : ev D ct st ke b s) : va_T .int (st 0) 4 (sI lq) (AA b) s s.heap := E.2.2.2.2.1.1.2
theorem ev_Z1 (E : ev D ct st ke b s) : va_Z "LevelledRing" "MODULI" "[J" (.ref (st 1)) (AA b) s s.heap := E.2.2.2.2.1.2.1.1
theorem ev_T1 (E : ev D ct st ke b s) : va_T .long (st 1) 4 (sL lQ) (AA b) s s.heap := E.2.2.2.2.1.2.1.2
theorem ev_Z2 (E : ev D ct st ke b s) : va_Z "LevelledRing" "MODULUS_INVERSES" "[I" (.ref (st 2)) (AA b) s s.heap := E.2.2.2.2.1.2.2.1.1
theorem ev_T2 (E : ev D ct st ke b s) : va_T .int (st 2) 4 (sI minv) (AA b) s s.heap := E.2.2.2.2.1.2.2.1.2
theorem ev_Z3 (E : ev D ct st ke b s) : va_Z "LevelledRing" "PRIME_INVERSES" "[I" (.ref (st 3)) (AA b) s s.heap := E.2.2.2.2.1.2.2.2.1.1
theorem ev_T3 (E : ev D ct st ke b s) : va_T .int (st 3) 16 (sI pinv) (AA b) s s.heap := E.2.2.2.2.1.2.2.2.1.2
theorem ev_Z4 (E : ev D ct st ke b s) : va_Z "LevelledRing$1" "$SwitchMap$LevelledRing$Kind" "[I" (.ref (st 4)) (AA b) s s.heap := E.2.2.2.2.1.2.2.2.2.1
theorem ev_T4 (E : ev D ct st ke b s) : va_T .int (st 4) 6 (sI swm) (AA b) s s.heap := E.2.2.2.2.1.2.2.2.2.2
theorem ev_E (E : ev D ct st ke b s) : va_En "LevelledRing$Kind" "LLevelledRing$Kind;" knm kF ke (AA b) s s.heap := E.2.2.2.2.2
theorem ev_move (E : ev D ct st ke b s) (hS : va_S (AA b) s.heap H locs) (hU : U.heap = H) (hW : s.WarmedH U.vm) : ev D ct st ke b U := by
  obtain ⟨h1, h2, ⟨h3, h4⟩, h5, h6, h7⟩ := E
  subst hU
  exact ⟨va_K.moved hW.alike h1, Nat.le_trans h2 hS.1, ⟨va_AO.moved hW.alike h3, va_AO.moved hW.alike h4⟩, nws_warm hW h5, (h6.kept hS.2.1).moved hW.alike, (h7.kept hS.2.1).moved hW.alike⟩
theorem ev_call {g : JFrame} {mk : MethodId} {a : Array Value} (E : ev D ct st ke b U) : ev D ct st ke b (U.calling g mk a) := by
  obtain ⟨h1, h2, ⟨h3, h4⟩, h5, h6, h7⟩ := E
  exact ⟨va_K.moved (u := U) (U := U.calling g mk a) (Vm.Alike.refl U.vm) h1, h2, ⟨va_AO.moved (u := U) (U := U.calling g mk a) (Vm.Alike.refl U.vm) h3, va_AO.moved (u := U) (U := U.calling g mk a) (Vm.Alike.refl U.vm) h4⟩, nws_same (s := U) (U := U.calling g mk a) rfl h5, sta.moved (u := U) (U := U.calling g mk a) (Vm.Alike.refl U.vm) h6, va_En.moved (u := U) (U := U.calling g mk a) (Vm.Alike.refl U.vm) h7⟩
theorem at_t {cl : List vw_C} {w : va_W} {t : State} (ht : t.heap = H) (h : va_P D cl w H) : va_P D cl w t.heap := by rw [ht]; exact h
theorem pre_S {N : Nat} {u : Nat → va_E} {As : List Value} (E : ev D ct st ke b s) (hP : va_P D vwCl (wl N b u) H) (hS : va_S (AA b) s.heap H locs) : PreS s H (va_Pc As (fun U => ev D ct st ke b U ∧ va_P D vwCl (wl N b u) U.heap)) As :=
  ⟨fun _ _ _ _ q => ⟨q.1, ev_call q.2.1, q.2.2⟩, fun _ hU hW => ⟨rfl, ev_move E hS hU hW, at_t hU hP⟩⟩
theorem pre_V {N : Nat} {u : Nat → va_E} {As : List Value} (E : ev D ct st ke b s) (hP : va_P D vwCl (wl N b u) H) (hS : va_S (AA b) s.heap H locs) (k : Nat) (hk : k < N) {ci : Nat} {fs : List Value} {q : vw_C} (hu : u k = .inr (ci, fs)) (hc : vwCl[ci]? = some q) : PreV s H q.1 (b + k) (va_Pc (.ref (b + k) :: As) (fun U => ev D ct st ke b U ∧ va_P D vwCl (wl N b u) U.heap)) As :=
  ⟨fun _ _ _ _ q => ⟨q.1, ev_call q.2.1, q.2.2⟩, va_recv (ev_K E) hP hc (by rw [wl_get hk, hu]), fun _ hU hW => ⟨rfl, ev_move E hS hU hW, at_t hU hP⟩⟩
end EV
section MET
variable {l : Launch} {y : MethodName} {ws ws' : List Cond} {rm : Room} {cc : ByteArray} {maxL mc ms : Nat} {As : List Value} {S : Type} {N1 : Nat} {u1 : S → Nat → va_E} {D : va_G} {ct : Nat → ClassId} {st ke : Nat → Nat} {b N : Nat} {u : Nat → va_E}
theorem M_v {post : S → Prop} (hy : plainName y.cls = true) (hw : ws = .code y cc maxL none :: ws') (hsz : (lg_sl As).length ≤ maxL)
    (body : ∀ (p : Program) (e : Env) (s : State) (m : MethodId) (args : Array Value) (below : List Frame) (meth : Method) (c : Code) (Q : State → Prop) (ls : Array Slot) (H : Heap) (locs : List Loc), p.tables.exec = Jvm.exec → c.code = cc → c.maxLocals = maxL → s.vm.findClass y.cls = some m.cls → (∀ w ∈ ws, w.before args s = true) → meth.name = y.name → ev D ct st ke b s → va_P D vwCl (wl N b u) H → va_S (AA b) s.heap H locs → lv_has ls maxL (lv_args 0 As) →
      (∀ (z : S) (H : Heap) (locs : List Loc) (pc : Nat) (ls : Array Slot), post z → va_P D vwCl (wl N1 b (u1 z)) H → va_S (AA b) s.heap H locs → decode cc pc = .ok (.return_, 1) → W p l e rm s m args below meth c H locs mc ms Q (F0 m pc ls [])) →
      W p l e rm s m args below meth c H locs 0 0 Q (F0 m 0 ls [])) :
    Met l y ws rm (va_Pc As (fun U => ev D ct st ke b U ∧ va_P D vwCl (wl N b u) U.heap)) (va_Qv post (fun z t => va_P D vwCl (wl N1 b (u1 z)) t.heap) (AA b)) mc ms (AA b) := by
  refine Met.ofW (cc := cc) (maxL := maxL) (ret := none) hy hw ?_
  intro p e s m args below meth c s₁ B hml hv
  obtain ⟨rfl, E, hP⟩ := hv
  have hl := lv_entry As (n := maxL) hsz
  rw [lg_entry_eq]
  exact body p e s m _ below meth c _ _ s.heap [] B.exec B.bytes hml (findClass_of_methodNamed B.named) (atoms_spec (ws := ws) B.pre) (name_of_methodNamed B.named B.method).1 E hP va_S.rf hl (fun z H locs pc ls h1 h2 h3 hd => W.vret B.exec B.bytes B.returns (fun t ht _ => ⟨⟨z, rfl, h1, at_t ht h2⟩, h3.F ht⟩) h3.2.2 hd B.notSynchronized)
theorem M_i {post : Int32 → S → Prop} (hy : plainName y.cls = true) (hw : ws = .code y cc maxL (some .int) :: ws') (hsz : (lg_sl As).length ≤ maxL)
    (body : ∀ (p : Program) (e : Env) (s : State) (m : MethodId) (args : Array Value) (below : List Frame) (meth : Method) (c : Code) (Q : State → Prop) (ls : Array Slot) (H : Heap) (locs : List Loc), p.tables.exec = Jvm.exec → c.code = cc → c.maxLocals = maxL → s.vm.findClass y.cls = some m.cls → (∀ w ∈ ws, w.before args s = true) → meth.name = y.name → ev D ct st ke b s → va_P D vwCl (wl N b u) H → va_S (AA b) s.heap H locs → lv_has ls maxL (lv_args 0 As) →
      (∀ (r : Int32) (z : S) (H : Heap) (locs : List Loc) (pc : Nat) (ls : Array Slot), post r z → va_P D vwCl (wl N1 b (u1 z)) H → va_S (AA b) s.heap H locs → decode cc pc = .ok (.ireturn, 1) → W p l e rm s m args below meth c H locs mc ms Q (F0 m pc ls [.int r])) →
      W p l e rm s m args below meth c H locs 0 0 Q (F0 m 0 ls [])) :
    Met l y ws rm (va_Pc As (fun U => ev D ct st ke b U ∧ va_P D vwCl (wl N b u) U.heap)) (va_Qi post (fun z t => va_P D vwCl (wl N1 b (u1 z)) t.heap) (AA b)) mc ms (AA b) := by
  refine Met.ofW (cc := cc) (maxL := maxL) (ret := some .int) hy hw ?_
  intro p e s m args below meth c s₁ B hml hv
  obtain ⟨rfl, E, hP⟩ := hv
  have hl := lv_entry As (n := maxL) hsz
  rw [lg_entry_eq]
  exact body p e s m _ below meth c _ _ s.heap [] B.exec B.bytes hml (findClass_of_methodNamed B.named) (atoms_spec (ws := ws) B.pre) (name_of_methodNamed B.named B.method).1 E hP va_S.rf hl (fun r z H locs pc ls h1 h2 h3 hd => W.iret B.exec B.bytes B.returns (fun t ht _ => ⟨⟨r, z, rfl, h1, at_t ht h2⟩, h3.F ht⟩) h3.2.2 hd B.notSynchronized)
/-- a boolean answer: 0 or 1 -/
theorem M_z {post : Int32 → S → Prop} (hy : plainName y.cls = true) (hw : ws = .code y cc maxL (some .boolean) :: ws') (hsz : (lg_sl As).length ≤ maxL)
    (body : ∀ (p : Program) (e : Env) (s : State) (m : MethodId) (args : Array Value) (below : List Frame) (meth : Method) (c : Code) (Q : State → Prop) (ls : Array Slot) (H : Heap) (locs : List Loc), p.tables.exec = Jvm.exec → c.code = cc → c.maxLocals = maxL → s.vm.findClass y.cls = some m.cls → (∀ w ∈ ws, w.before args s = true) → meth.name = y.name → ev D ct st ke b s → va_P D vwCl (wl N b u) H → va_S (AA b) s.heap H locs → lv_has ls maxL (lv_args 0 As) →
      (∀ (r : Int) (z : S) (H : Heap) (locs : List Loc) (pc : Nat) (ls : Array Slot), (r = 0 ∨ r = 1) → post (iI r) z → va_P D vwCl (wl N1 b (u1 z)) H → va_S (AA b) s.heap H locs → decode cc pc = .ok (.ireturn, 1) → W p l e rm s m args below meth c H locs mc ms Q (F0 m pc ls [.int (iI r)])) →
      W p l e rm s m args below meth c H locs 0 0 Q (F0 m 0 ls [])) :
    Met l y ws rm (va_Pc As (fun U => ev D ct st ke b U ∧ va_P D vwCl (wl N b u) U.heap)) (va_Qi post (fun z t => va_P D vwCl (wl N1 b (u1 z)) t.heap) (AA b)) mc ms (AA b) := by
  refine Met.ofW (cc := cc) (maxL := maxL) (ret := some .boolean) hy hw ?_
  intro p e s m args below meth c s₁ B hml hv
  obtain ⟨rfl, E, hP⟩ := hv
  have hl := lv_entry As (n := maxL) hsz
  rw [lg_entry_eq]
  exact body p e s m _ below meth c _ _ s.heap [] B.exec B.bytes hml (findClass_of_methodNamed B.named) (atoms_spec (ws := ws) B.pre) (name_of_methodNamed B.named B.method).1 E hP va_S.rf hl (fun r z H locs pc ls h0 h1 h2 h3 hd => W.zret (ty := .boolean) B.exec B.bytes B.returns (by rcases h0 with rfl | rfl <;> rfl) (fun t ht _ => ⟨⟨iI r, z, rfl, h1, at_t ht h2⟩, h3.F ht⟩) h3.2.2 hd B.notSynchronized)
theorem M_l {post : Int64 → S → Prop} (hy : plainName y.cls = true) (hw : ws = .code y cc maxL (some .long) :: ws') (hsz : (lg_sl As).length ≤ maxL)
    (body : ∀ (p : Program) (e : Env) (s : State) (m : MethodId) (args : Array Value) (below : List Frame) (meth : Method) (c : Code) (Q : State → Prop) (ls : Array Slot) (H : Heap) (locs : List Loc), p.tables.exec = Jvm.exec → c.code = cc → c.maxLocals = maxL → s.vm.findClass y.cls = some m.cls → (∀ w ∈ ws, w.before args s = true) → meth.name = y.name → ev D ct st ke b s → va_P D vwCl (wl N b u) H → va_S (AA b) s.heap H locs → lv_has ls maxL (lv_args 0 As) →
      (∀ (r : Int64) (z : S) (H : Heap) (locs : List Loc) (pc : Nat) (ls : Array Slot), post r z → va_P D vwCl (wl N1 b (u1 z)) H → va_S (AA b) s.heap H locs → decode cc pc = .ok (.lreturn, 1) → W p l e rm s m args below meth c H locs mc ms Q (F0 m pc ls [.long r])) →
      W p l e rm s m args below meth c H locs 0 0 Q (F0 m 0 ls [])) :
    Met l y ws rm (va_Pc As (fun U => ev D ct st ke b U ∧ va_P D vwCl (wl N b u) U.heap)) (va_Ql post (fun z t => va_P D vwCl (wl N1 b (u1 z)) t.heap) (AA b)) mc ms (AA b) := by
  refine Met.ofW (cc := cc) (maxL := maxL) (ret := some .long) hy hw ?_
  intro p e s m args below meth c s₁ B hml hv
  obtain ⟨rfl, E, hP⟩ := hv
  have hl := lv_entry As (n := maxL) hsz
  rw [lg_entry_eq]
  exact body p e s m _ below meth c _ _ s.heap [] B.exec B.bytes hml (findClass_of_methodNamed B.named) (atoms_spec (ws := ws) B.pre) (name_of_methodNamed B.named B.method).1 E hP va_S.rf hl (fun r z H locs pc ls h1 h2 h3 hd => W.lret B.exec B.bytes B.returns (fun t ht _ => ⟨⟨r, z, rfl, h1, at_t ht h2⟩, h3.F ht⟩) h3.2.2 hd B.notSynchronized)
end MET
section MC
variable {l : Launch} {y : MethodName} {ws ws' : List Cond} {rm : Room} {cc : ByteArray} {maxL mc ms : Nat} {As : List Value} {S : Type} {N1 : Nat} {u1 : S → Nat → va_E} {D : va_G} {ct : Nat → ClassId} {st ke : Nat → Nat} {b N : Nat} {u : Nat → va_E}
/-- a maker: the heap ends where the world ends -/
theorem M_c {post : S → Prop} (hy : plainName y.cls = true) (hw : ws = .code y cc maxL none :: ws') (hsz : (lg_sl As).length ≤ maxL)
    (body : ∀ (p : Program) (e : Env) (s : State) (m : MethodId) (args : Array Value) (below : List Frame) (meth : Method) (c : Code) (Q : State → Prop) (ls : Array Slot) (H : Heap) (locs : List Loc), p.tables.exec = Jvm.exec → c.code = cc → c.maxLocals = maxL → s.vm.findClass y.cls = some m.cls → (∀ w ∈ ws, w.before args s = true) → meth.name = y.name → ev D ct st ke b s → s.heap.size = b + N → va_P D vwCl (wl N b u) H → va_S (AA b) s.heap H locs → lv_has ls maxL (lv_args 0 As) →
      (∀ (z : S) (H : Heap) (locs : List Loc) (pc : Nat) (ls : Array Slot), post z → va_P D vwCl (wl N1 b (u1 z)) H → va_S (AA b) s.heap H locs → decode cc pc = .ok (.return_, 1) → W p l e rm s m args below meth c H locs mc ms Q (F0 m pc ls [])) →
      W p l e rm s m args below meth c H locs 0 0 Q (F0 m 0 ls [])) :
    Met l y ws rm (va_Pc As (fun U => ev D ct st ke b U ∧ U.heap.size = b + N ∧ va_P D vwCl (wl N b u) U.heap)) (va_Qv post (fun z t => va_P D vwCl (wl N1 b (u1 z)) t.heap) (AA b)) mc ms (AA b) := by
  refine Met.ofW (cc := cc) (maxL := maxL) (ret := none) hy hw ?_
  intro p e s m args below meth c s₁ B hml hv
  obtain ⟨rfl, E, hz, hP⟩ := hv
  have hl := lv_entry As (n := maxL) hsz
  rw [lg_entry_eq]
  exact body p e s m _ below meth c _ _ s.heap [] B.exec B.bytes hml (findClass_of_methodNamed B.named) (atoms_spec (ws := ws) B.pre) (name_of_methodNamed B.named B.method).1 E hz hP va_S.rf hl (fun z H locs pc ls h1 h2 h3 hd => W.vret B.exec B.bytes B.returns (fun t ht _ => ⟨⟨z, rfl, h1, at_t ht h2⟩, h3.F ht⟩) h3.2.2 hd B.notSynchronized)
theorem pre_C {s : State} {H : Heap} {locs : List Loc} (E : ev D ct st ke b s) (hP : va_P D vwCl (wl N b u) H) (hS : va_S (AA b) s.heap H locs) (hz : H.size = b + N) : PreS s H (va_Pc As (fun U => ev D ct st ke b U ∧ U.heap.size = b + N ∧ va_P D vwCl (wl N b u) U.heap)) As :=
  ⟨fun _ _ _ _ q => ⟨q.1, ev_call q.2.1, q.2.2.1, q.2.2.2⟩, fun _ hU hW => ⟨rfl, ev_move E hS hU hW, by rw [hU]; exact hz, at_t hU hP⟩⟩
end MC
section XT
variable {p : Program} {l : Launch} {e : Env} {R : Room} {s : State} {m : MethodId} {args : Array Value} {below : List Frame} {meth : Method} {c : Code} {H : Heap} {locs : List Loc} {cells slots : Nat} {Q : State → Prop}
variable {cc : ByteArray} {pc : Nat} {ls : Array Slot} {rest : List Value} {b : Nat}
theorem x_ti (hx : p.tables.exec = Jvm.exec) (hb : c.code = cc) {t n : Nat} {g : Int → Int} (hT : va_T .int t n (sI g) (AA b) s s.heap) (hS : va_S (AA b) s.heap H locs) {a : Int} (h0 : 0 ≤ a) (h1 : a < n) (hn : n < 2147483648) (hdg : decode cc pc = .ok (.iaload, 1)) (kk : W p l e R s m args below meth c H locs cells slots Q (F0 m (pc + 1) ls (.int (iI (g a)) :: rest))) : W p l e R s m args below meth c H locs cells slots Q (F0 m pc ls (.int (iI a) :: .ref t :: rest)) := by
  obtain ⟨j, rfl⟩ := Int.eq_ofNat_of_zero_le h0
  exact va_ti hx hb hT hS (iI_in (by omega) hn) (v := .int (iI (g (j : Int)))) (by rw [iI_clamp (by omega)]; rfl) hdg kk
theorem x_tl (hx : p.tables.exec = Jvm.exec) (hb : c.code = cc) {t n : Nat} {g : Int → Int} (hT : va_T .long t n (sL g) (AA b) s s.heap) (hS : va_S (AA b) s.heap H locs) {a : Int} (h0 : 0 ≤ a) (h1 : a < n) (hn : n < 2147483648) (hdg : decode cc pc = .ok (.laload, 1)) (kk : W p l e R s m args below meth c H locs cells slots Q (F0 m (pc + 1) ls (.long (lI (g a)) :: rest))) : W p l e R s m args below meth c H locs cells slots Q (F0 m pc ls (.int (iI a) :: .ref t :: rest)) := by
  obtain ⟨j, rfl⟩ := Int.eq_ofNat_of_zero_le h0
  exact va_tl hx hb hT hS (iI_in (by omega) hn) (v := .long (lI (g (j : Int)))) (by rw [iI_clamp (by omega)]; rfl) hdg kk
end XT
