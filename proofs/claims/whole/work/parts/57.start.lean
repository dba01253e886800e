/-! THE CLAIM OUT OF ONE WALK OF THE LAW'S BODY. Your part is whole_start (and what it stands on); all else here is the same for every law, but numbers. -/
def R_law : String := "LevelledRingLaw"
def lw_P (b : Addr) (xs : List Int32) (args : Array Value) (s : State) : Prop := args = #[.ref b] ∧ s.IntsAt b xs ∧ xs.length ≤ 2049 ∧ (Jvm.Cond.and given_1 narrow_1).before args s = true
def lw_Q (_ : Array Value) (s : State) (o : Outcome) (t : State) : Prop := o = .returned (some (.int 1)) ∧ Framed s o t [] 600000 7302250
def lw_Z (below : List Frame) (a : Array Value) (s : State) : State → Prop := fun t => ∃ o, t.status = .running ∧ Ended t below o ∧ lw_Q a s o t
/-- the law's own end, with 1 on the stack, nothing written that was there before, its room as the claim has it -/
theorem lw_ret {p : Program} {l : Launch} {e : Env} {s : State} {m : MethodId} {below : List Frame} {meth : Method} {c : Code} {b : Nat} (hx : p.tables.exec = Jvm.exec) (hb : c.code = code) (hr : meth.sig.returnType = ret) (hlocks : meth.locks = false) {pc : Nat} {H : Heap} {ls : Array Slot} (hdg : decode code pc = .ok (.ireturn, 1)) : W p l e room_1 s m #[Value.ref b] below meth c H [] 600000 7302250 (lw_Z below #[Value.ref b] s) (F0 m pc ls [.int 1]) := by
  intro T hT X
  obtain ⟨fs, hret, hrun, hended, hW, hframe⟩ := X.leave (v := some (.int 1)) (hlocks := hlocks) (fun h => by rw [hr] at h; cases h)
  have hmeth' : T.vm.method? m = some meth := X.method'
  refine ⟨T.setFrames fs, ?_, .returned (some (.int 1)), hrun, hended, rfl, ⟨_, rfl⟩, hW, hframe⟩
  jvm_step X.here [X.here.top, hx, hb, hdg, hmeth', hr, ret, narrow_b1]
  (try refine ⟨rfl, ?_⟩); (try refine ⟨rfl, ?_⟩)
  first | (intro acts; rw [hret _ acts rfl rfl rfl]) | rw [hret _ _ rfl rfl rfl]
  exact Steps.refl _
/-- what holds at the law's entry: the machine, the code, the tables' words (any of lw_tbl by 'hts w (by decide +kernel)'), the script of L ints xs at the cell b, what the Statement gives of the start (any of its parts by flat_of_before) -/
def lw_At (p : Program) (s : State) (m : MethodId) (meth : Method) (c : Code) (b L : Nat) (xs : Nat → Int32) : Prop :=
  p.tables.exec = Jvm.exec ∧ c.code = code ∧ meth.sig.returnType = ret ∧ c.maxLocals = 4 ∧ s.vm.findClass R_law = some m.cls ∧ (∀ w ∈ lw_tbl, w.before #[Value.ref b] s = true) ∧ va_X b L xs s s.heap ∧ b < s.heap.size ∧ meth.locks = false ∧ (Jvm.Cond.and given_1 narrow_1).before #[Value.ref b] s = true
theorem arr_p {args : Array Value} {s : State} {ty : FieldType} (h : (Cond.arrayClass ty).before args s = true) (h2 : ∀ cA : ClassId, s.vm.findClass ("[" ++ ty.toString) = some cA → va_RA s cA ty) : ∃ cA : ClassId, ArrOfT s cA ty ∧ va_RA s cA ty := by
  obtain ⟨c, k, comp, h3, h4, h5⟩ := Cond.arrayClass_spec h
  exact ⟨c, fun n z => ⟨fun k h => (by cases h), k, h4, comp, h5⟩, h2 c h3⟩
theorem arr_o {args : Array Value} {s : State} {C : String} (h : (Cond.arrayOver (.object C)).before args s = true) : ∃ cA : ClassId, ArrOfT s cA (.object C) ∧ va_RA s cA (.object C) := by
  obtain ⟨comp, c, k, h1, h2, h3, h4, h5⟩ := Cond.arrayOver_spec h
  exact ⟨c, fun n z => ⟨fun k h => (by cases h), k, h3, comp, h4⟩, k, comp, h3, h4, h1, h5⟩
set_option maxRecDepth 100000 in
theorem sT_0 {args : Array Value} {s : State} (hs : ∀ w ∈ flatC (Jvm.Cond.and given_1 narrow_1), w.before args s = true) (hA : ∀ a : Nat, a < s.heap.size → ¬ AA s.heap.size a) : ∃ t : Nat, (Term.static "LevelledRing" "PRIMES" "[I").eval args s none [] s = some (.ref t) ∧ va_T .int t 4 (sI lq) (AA s.heap.size) s s.heap := by
  refine va_Tof (by decide) (hs (Cond.arrayOf (Term.static "LevelledRing" "PRIMES" "[I") .int) (by decide +kernel)) (va_eqt (hs (Cond.eq (.length (Term.static "LevelledRing" "PRIMES" "[I")) (.int 4)) (by decide +kernel))) (fun j hj => ?_) hA
  rcases (show j = 0 ∨ j = 1 ∨ j = 2 ∨ j = 3 by omega) with rfl | rfl | rfl | rfl
  · exact (va_eqt (hs (Cond.eq (.elem (Term.static "LevelledRing" "PRIMES" "[I") (.int 0)) (.int 32369)) (by decide +kernel))).trans (congrArg (fun x => some (Value.int x)) (show (32369 : Int32) = iI (lq ((0 : Nat) : Int)) by decide +kernel))
  · exact (va_eqt (hs (Cond.eq (.elem (Term.static "LevelledRing" "PRIMES" "[I") (.int 1)) (.int 29921)) (by decide +kernel))).trans (congrArg (fun x => some (Value.int x)) (show (29921 : Int32) = iI (lq ((1 : Nat) : Int)) by decide +kernel))
  · exact (va_eqt (hs (Cond.eq (.elem (Term.static "LevelledRing" "PRIMES" "[I") (.int 2)) (.int 28289)) (by decide +kernel))).trans (congrArg (fun x => some (Value.int x)) (show (28289 : Int32) = iI (lq ((2 : Nat) : Int)) by decide +kernel))
  · exact (va_eqt (hs (Cond.eq (.elem (Term.static "LevelledRing" "PRIMES" "[I") (.int 3)) (.int 26113)) (by decide +kernel))).trans (congrArg (fun x => some (Value.int x)) (show (26113 : Int32) = iI (lq ((3 : Nat) : Int)) by decide +kernel))
set_option maxRecDepth 100000 in
theorem sT_1 {args : Array Value} {s : State} (hs : ∀ w ∈ flatC (Jvm.Cond.and given_1 narrow_1), w.before args s = true) (hA : ∀ a : Nat, a < s.heap.size → ¬ AA s.heap.size a) : ∃ t : Nat, (Term.static "LevelledRing" "MODULI" "[J").eval args s none [] s = some (.ref t) ∧ va_T .long t 4 (sL lQ) (AA s.heap.size) s s.heap := by
  refine va_Tof (by decide) (hs (Cond.arrayOf (Term.static "LevelledRing" "MODULI" "[J") .long) (by decide +kernel)) (va_eqt (hs (Cond.eq (.length (Term.static "LevelledRing" "MODULI" "[J")) (.int 4)) (by decide +kernel))) (fun j hj => ?_) hA
  rcases (show j = 0 ∨ j = 1 ∨ j = 2 ∨ j = 3 by omega) with rfl | rfl | rfl | rfl
  · exact (va_eqtl (hs (Cond.eq (.elem (Term.static "LevelledRing" "MODULI" "[J") (.int 0)) (.long 32369)) (by decide +kernel))).trans (congrArg (fun x => some (Value.long x)) (show (32369 : Int64) = lI (lQ ((0 : Nat) : Int)) by decide +kernel))
  · exact (va_eqtl (hs (Cond.eq (.elem (Term.static "LevelledRing" "MODULI" "[J") (.int 1)) (.long 968512849)) (by decide +kernel))).trans (congrArg (fun x => some (Value.long x)) (show (968512849 : Int64) = lI (lQ ((1 : Nat) : Int)) by decide +kernel))
  · exact (va_eqtl (hs (Cond.eq (.elem (Term.static "LevelledRing" "MODULI" "[J") (.int 2)) (.long 27398259985361)) (by decide +kernel))).trans (congrArg (fun x => some (Value.long x)) (show (27398259985361 : Int64) = lI (lQ ((2 : Nat) : Int)) by decide +kernel))
  · exact (va_eqtl (hs (Cond.eq (.elem (Term.static "LevelledRing" "MODULI" "[J") (.int 3)) (.long 715450762997731793)) (by decide +kernel))).trans (congrArg (fun x => some (Value.long x)) (show (715450762997731793 : Int64) = lI (lQ ((3 : Nat) : Int)) by decide +kernel))
set_option maxRecDepth 100000 in
theorem sT_2 {args : Array Value} {s : State} (hs : ∀ w ∈ flatC (Jvm.Cond.and given_1 narrow_1), w.before args s = true) (hA : ∀ a : Nat, a < s.heap.size → ¬ AA s.heap.size a) : ∃ t : Nat, (Term.static "LevelledRing" "MODULUS_INVERSES" "[I").eval args s none [] s = some (.ref t) ∧ va_T .int t 4 (sI minv) (AA s.heap.size) s s.heap := by
  refine va_Tof (by decide) (hs (Cond.arrayOf (Term.static "LevelledRing" "MODULUS_INVERSES" "[I") .int) (by decide +kernel)) (va_eqt (hs (Cond.eq (.length (Term.static "LevelledRing" "MODULUS_INVERSES" "[I")) (.int 4)) (by decide +kernel))) (fun j hj => ?_) hA
  rcases (show j = 0 ∨ j = 1 ∨ j = 2 ∨ j = 3 by omega) with rfl | rfl | rfl | rfl
  · exact (va_eqt (hs (Cond.eq (.elem (Term.static "LevelledRing" "MODULUS_INVERSES" "[I") (.int 0)) (.int 1)) (by decide +kernel))).trans (congrArg (fun x => some (Value.int x)) (show (1 : Int32) = iI (minv ((0 : Nat) : Int)) by decide +kernel))
  · exact (va_eqt (hs (Cond.eq (.elem (Term.static "LevelledRing" "MODULUS_INVERSES" "[I") (.int 1)) (.int 13286)) (by decide +kernel))).trans (congrArg (fun x => some (Value.int x)) (show (13286 : Int32) = iI (minv ((1 : Nat) : Int)) by decide +kernel))
  · exact (va_eqt (hs (Cond.eq (.elem (Term.static "LevelledRing" "MODULUS_INVERSES" "[I") (.int 2)) (.int 14579)) (by decide +kernel))).trans (congrArg (fun x => some (Value.int x)) (show (14579 : Int32) = iI (minv ((2 : Nat) : Int)) by decide +kernel))
  · exact (va_eqt (hs (Cond.eq (.elem (Term.static "LevelledRing" "MODULUS_INVERSES" "[I") (.int 3)) (.int 20255)) (by decide +kernel))).trans (congrArg (fun x => some (Value.int x)) (show (20255 : Int32) = iI (minv ((3 : Nat) : Int)) by decide +kernel))
set_option maxRecDepth 100000 in
theorem sT_3 {args : Array Value} {s : State} (hs : ∀ w ∈ flatC (Jvm.Cond.and given_1 narrow_1), w.before args s = true) (hA : ∀ a : Nat, a < s.heap.size → ¬ AA s.heap.size a) : ∃ t : Nat, (Term.static "LevelledRing" "PRIME_INVERSES" "[I").eval args s none [] s = some (.ref t) ∧ va_T .int t 16 (sI pinv) (AA s.heap.size) s s.heap := by
  refine va_Tof (by decide) (hs (Cond.arrayOf (Term.static "LevelledRing" "PRIME_INVERSES" "[I") .int) (by decide +kernel)) (va_eqt (hs (Cond.eq (.length (Term.static "LevelledRing" "PRIME_INVERSES" "[I")) (.int 16)) (by decide +kernel))) (fun j hj => ?_) hA
  rcases (show j = 0 ∨ j = 1 ∨ j = 2 ∨ j = 3 ∨ j = 4 ∨ j = 5 ∨ j = 6 ∨ j = 7 ∨ j = 8 ∨ j = 9 ∨ j = 10 ∨ j = 11 ∨ j = 12 ∨ j = 13 ∨ j = 14 ∨ j = 15 by omega) with rfl | rfl | rfl | rfl | rfl | rfl | rfl | rfl | rfl | rfl | rfl | rfl | rfl | rfl | rfl | rfl
  · exact (va_eqt (hs (Cond.eq (.elem (Term.static "LevelledRing" "PRIME_INVERSES" "[I") (.int 0)) (.int 0)) (by decide +kernel))).trans (congrArg (fun x => some (Value.int x)) (show (0 : Int32) = iI (pinv ((0 : Nat) : Int)) by decide +kernel))
  · exact (va_eqt (hs (Cond.eq (.elem (Term.static "LevelledRing" "PRIME_INVERSES" "[I") (.int 1)) (.int 0)) (by decide +kernel))).trans (congrArg (fun x => some (Value.int x)) (show (0 : Int32) = iI (pinv ((1 : Nat) : Int)) by decide +kernel))
  · exact (va_eqt (hs (Cond.eq (.elem (Term.static "LevelledRing" "PRIME_INVERSES" "[I") (.int 2)) (.int 0)) (by decide +kernel))).trans (congrArg (fun x => some (Value.int x)) (show (0 : Int32) = iI (pinv ((2 : Nat) : Int)) by decide +kernel))
  · exact (va_eqt (hs (Cond.eq (.elem (Term.static "LevelledRing" "PRIME_INVERSES" "[I") (.int 3)) (.int 0)) (by decide +kernel))).trans (congrArg (fun x => some (Value.int x)) (show (0 : Int32) = iI (pinv ((3 : Nat) : Int)) by decide +kernel))
  · exact (va_eqt (hs (Cond.eq (.elem (Term.static "LevelledRing" "PRIME_INVERSES" "[I") (.int 4)) (.int 17996)) (by decide +kernel))).trans (congrArg (fun x => some (Value.int x)) (show (17996 : Int32) = iI (pinv ((4 : Nat) : Int)) by decide +kernel))
  · exact (va_eqt (hs (Cond.eq (.elem (Term.static "LevelledRing" "PRIME_INVERSES" "[I") (.int 5)) (.int 0)) (by decide +kernel))).trans (congrArg (fun x => some (Value.int x)) (show (0 : Int32) = iI (pinv ((5 : Nat) : Int)) by decide +kernel))
  · exact (va_eqt (hs (Cond.eq (.elem (Term.static "LevelledRing" "PRIME_INVERSES" "[I") (.int 6)) (.int 0)) (by decide +kernel))).trans (congrArg (fun x => some (Value.int x)) (show (0 : Int32) = iI (pinv ((6 : Nat) : Int)) by decide +kernel))
  · exact (va_eqt (hs (Cond.eq (.elem (Term.static "LevelledRing" "PRIME_INVERSES" "[I") (.int 7)) (.int 0)) (by decide +kernel))).trans (congrArg (fun x => some (Value.int x)) (show (0 : Int32) = iI (pinv ((7 : Nat) : Int)) by decide +kernel))
  · exact (va_eqt (hs (Cond.eq (.elem (Term.static "LevelledRing" "PRIME_INVERSES" "[I") (.int 8)) (.int 30219)) (by decide +kernel))).trans (congrArg (fun x => some (Value.int x)) (show (30219 : Int32) = iI (pinv ((8 : Nat) : Int)) by decide +kernel))
  · exact (va_eqt (hs (Cond.eq (.elem (Term.static "LevelledRing" "PRIME_INVERSES" "[I") (.int 9)) (.int 9992)) (by decide +kernel))).trans (congrArg (fun x => some (Value.int x)) (show (9992 : Int32) = iI (pinv ((9 : Nat) : Int)) by decide +kernel))
  · exact (va_eqt (hs (Cond.eq (.elem (Term.static "LevelledRing" "PRIME_INVERSES" "[I") (.int 10)) (.int 0)) (by decide +kernel))).trans (congrArg (fun x => some (Value.int x)) (show (0 : Int32) = iI (pinv ((10 : Nat) : Int)) by decide +kernel))
  · exact (va_eqt (hs (Cond.eq (.elem (Term.static "LevelledRing" "PRIME_INVERSES" "[I") (.int 11)) (.int 0)) (by decide +kernel))).trans (congrArg (fun x => some (Value.int x)) (show (0 : Int32) = iI (pinv ((11 : Nat) : Int)) by decide +kernel))
  · exact (va_eqt (hs (Cond.eq (.elem (Term.static "LevelledRing" "PRIME_INVERSES" "[I") (.int 12)) (.int 15486)) (by decide +kernel))).trans (congrArg (fun x => some (Value.int x)) (show (15486 : Int32) = iI (pinv ((12 : Nat) : Int)) by decide +kernel))
  · exact (va_eqt (hs (Cond.eq (.elem (Term.static "LevelledRing" "PRIME_INVERSES" "[I") (.int 13)) (.int 21380)) (by decide +kernel))).trans (congrArg (fun x => some (Value.int x)) (show (21380 : Int32) = iI (pinv ((13 : Nat) : Int)) by decide +kernel))
  · exact (va_eqt (hs (Cond.eq (.elem (Term.static "LevelledRing" "PRIME_INVERSES" "[I") (.int 14)) (.int 13)) (by decide +kernel))).trans (congrArg (fun x => some (Value.int x)) (show (13 : Int32) = iI (pinv ((14 : Nat) : Int)) by decide +kernel))
  · exact (va_eqt (hs (Cond.eq (.elem (Term.static "LevelledRing" "PRIME_INVERSES" "[I") (.int 15)) (.int 0)) (by decide +kernel))).trans (congrArg (fun x => some (Value.int x)) (show (0 : Int32) = iI (pinv ((15 : Nat) : Int)) by decide +kernel))
set_option maxRecDepth 100000 in
theorem sT_4 {args : Array Value} {s : State} (hs : ∀ w ∈ flatC (Jvm.Cond.and given_1 narrow_1), w.before args s = true) (hA : ∀ a : Nat, a < s.heap.size → ¬ AA s.heap.size a) : ∃ t : Nat, (Term.static "LevelledRing$1" "$SwitchMap$LevelledRing$Kind" "[I").eval args s none [] s = some (.ref t) ∧ va_T .int t 6 (sI swm) (AA s.heap.size) s s.heap := by
  refine va_Tof (by decide) (hs (Cond.arrayOf (Term.static "LevelledRing$1" "$SwitchMap$LevelledRing$Kind" "[I") .int) (by decide +kernel)) (va_eqt (hs (Cond.eq (.length (Term.static "LevelledRing$1" "$SwitchMap$LevelledRing$Kind" "[I")) (.int 6)) (by decide +kernel))) (fun j hj => ?_) hA
  rcases (show j = 0 ∨ j = 1 ∨ j = 2 ∨ j = 3 ∨ j = 4 ∨ j = 5 by omega) with rfl | rfl | rfl | rfl | rfl | rfl
  · exact (va_eqt (hs (Cond.eq (.elem (Term.static "LevelledRing$1" "$SwitchMap$LevelledRing$Kind" "[I") (.int 0)) (.int 0)) (by decide +kernel))).trans (congrArg (fun x => some (Value.int x)) (show (0 : Int32) = iI (swm ((0 : Nat) : Int)) by decide +kernel))
  · exact (va_eqt (hs (Cond.eq (.elem (Term.static "LevelledRing$1" "$SwitchMap$LevelledRing$Kind" "[I") (.int 1)) (.int 1)) (by decide +kernel))).trans (congrArg (fun x => some (Value.int x)) (show (1 : Int32) = iI (swm ((1 : Nat) : Int)) by decide +kernel))
  · exact (va_eqt (hs (Cond.eq (.elem (Term.static "LevelledRing$1" "$SwitchMap$LevelledRing$Kind" "[I") (.int 2)) (.int 2)) (by decide +kernel))).trans (congrArg (fun x => some (Value.int x)) (show (2 : Int32) = iI (swm ((2 : Nat) : Int)) by decide +kernel))
  · exact (va_eqt (hs (Cond.eq (.elem (Term.static "LevelledRing$1" "$SwitchMap$LevelledRing$Kind" "[I") (.int 3)) (.int 3)) (by decide +kernel))).trans (congrArg (fun x => some (Value.int x)) (show (3 : Int32) = iI (swm ((3 : Nat) : Int)) by decide +kernel))
  · exact (va_eqt (hs (Cond.eq (.elem (Term.static "LevelledRing$1" "$SwitchMap$LevelledRing$Kind" "[I") (.int 4)) (.int 4)) (by decide +kernel))).trans (congrArg (fun x => some (Value.int x)) (show (4 : Int32) = iI (swm ((4 : Nat) : Int)) by decide +kernel))
  · exact (va_eqt (hs (Cond.eq (.elem (Term.static "LevelledRing$1" "$SwitchMap$LevelledRing$Kind" "[I") (.int 5)) (.int 5)) (by decide +kernel))).trans (congrArg (fun x => some (Value.int x)) (show (5 : Int32) = iI (swm ((5 : Nat) : Int)) by decide +kernel))
set_option maxRecDepth 100000 in
theorem sE {args : Array Value} {s : State} (hin : ∀ w ∈ tables_1, w.before args s = true) (hs : ∀ w ∈ flatC (Jvm.Cond.and given_1 narrow_1), w.before args s = true) (hA : ∀ a : Nat, a < s.heap.size → ¬ AA s.heap.size a) : ∃ ad : Nat → Nat, va_En "LevelledRing$Kind" "LLevelledRing$Kind;" knm kF ad (AA s.heap.size) s s.heap := by
  refine Exists.elim (va_Enof2 (args := args) (s := s) (E := "LevelledRing$Kind") (d := "LLevelledRing$Kind;") (nm := knm) (F := kF) (A := AA s.heap.size) ?_ (hin _ (List.mem_of_getElem? (i := 8) (by decide +kernel))) ?_ ?_ ?_ hA) (fun ad h => ⟨ad, h.1⟩)
  · intro i hi
    have hi : i < 6 := hi
    rcases (show i = 0 ∨ i = 1 ∨ i = 2 ∨ i = 3 ∨ i = 4 ∨ i = 5 by omega) with rfl | rfl | rfl | rfl | rfl | rfl
    · exact (hin _ (List.mem_of_getElem? (i := 143) (by decide +kernel)))
    · exact (hin _ (List.mem_of_getElem? (i := 243) (by decide +kernel)))
    · exact (hin _ (List.mem_of_getElem? (i := 281) (by decide +kernel)))
    · exact (hin _ (List.mem_of_getElem? (i := 287) (by decide +kernel)))
    · exact (hin _ (List.mem_of_getElem? (i := 293) (by decide +kernel)))
    · exact (hin _ (List.mem_of_getElem? (i := 299) (by decide +kernel)))
  · intro i hi
    have hi : i < 6 := hi
    rcases (show i = 0 ∨ i = 1 ∨ i = 2 ∨ i = 3 ∨ i = 4 ∨ i = 5 by omega) with rfl | rfl | rfl | rfl | rfl | rfl
    · exact hs (Cond.exactly (.static "LevelledRing$Kind" "INPUT" "LLevelledRing$Kind;") "LevelledRing$Kind") (by decide +kernel)
    · exact hs (Cond.exactly (.static "LevelledRing$Kind" "SUM" "LLevelledRing$Kind;") "LevelledRing$Kind") (by decide +kernel)
    · exact hs (Cond.exactly (.static "LevelledRing$Kind" "DIFFERENCE" "LLevelledRing$Kind;") "LevelledRing$Kind") (by decide +kernel)
    · exact hs (Cond.exactly (.static "LevelledRing$Kind" "PRODUCT" "LLevelledRing$Kind;") "LevelledRing$Kind") (by decide +kernel)
    · exact hs (Cond.exactly (.static "LevelledRing$Kind" "SHIFT" "LLevelledRing$Kind;") "LevelledRing$Kind") (by decide +kernel)
    · exact hs (Cond.exactly (.static "LevelledRing$Kind" "LOWERED" "LLevelledRing$Kind;") "LevelledRing$Kind") (by decide +kernel)
  · intro q hq i hi
    have hi : i < 6 := hi
    have hq := List.mem_singleton.mp hq
    subst hq
    rcases (show i = 0 ∨ i = 1 ∨ i = 2 ∨ i = 3 ∨ i = 4 ∨ i = 5 by omega) with rfl | rfl | rfl | rfl | rfl | rfl
    · exact hs (Cond.eq (.field (.static "LevelledRing$Kind" "INPUT" "LLevelledRing$Kind;") "java/lang/Enum" "ordinal" "I") (.int 0)) (by decide +kernel)
    · exact hs (Cond.eq (.field (.static "LevelledRing$Kind" "SUM" "LLevelledRing$Kind;") "java/lang/Enum" "ordinal" "I") (.int 1)) (by decide +kernel)
    · exact hs (Cond.eq (.field (.static "LevelledRing$Kind" "DIFFERENCE" "LLevelledRing$Kind;") "java/lang/Enum" "ordinal" "I") (.int 2)) (by decide +kernel)
    · exact hs (Cond.eq (.field (.static "LevelledRing$Kind" "PRODUCT" "LLevelledRing$Kind;") "java/lang/Enum" "ordinal" "I") (.int 3)) (by decide +kernel)
    · exact hs (Cond.eq (.field (.static "LevelledRing$Kind" "SHIFT" "LLevelledRing$Kind;") "java/lang/Enum" "ordinal" "I") (.int 4)) (by decide +kernel)
    · exact hs (Cond.eq (.field (.static "LevelledRing$Kind" "LOWERED" "LLevelledRing$Kind;") "java/lang/Enum" "ordinal" "I") (.int 5)) (by decide +kernel)
  · intro i j hi hj hne
    have hi : i < 6 := hi
    have hj : j < 6 := hj
    rcases (show i = 0 ∨ i = 1 ∨ i = 2 ∨ i = 3 ∨ i = 4 ∨ i = 5 by omega) with rfl | rfl | rfl | rfl | rfl | rfl
    · rcases (show j = 0 ∨ j = 1 ∨ j = 2 ∨ j = 3 ∨ j = 4 ∨ j = 5 by omega) with rfl | rfl | rfl | rfl | rfl | rfl
      · exact absurd rfl hne
      · exact Or.inl (hs (Cond.not (.eq (.static "LevelledRing$Kind" "INPUT" "LLevelledRing$Kind;") (.static "LevelledRing$Kind" "SUM" "LLevelledRing$Kind;"))) (by decide +kernel))
      · exact Or.inl (hs (Cond.not (.eq (.static "LevelledRing$Kind" "INPUT" "LLevelledRing$Kind;") (.static "LevelledRing$Kind" "DIFFERENCE" "LLevelledRing$Kind;"))) (by decide +kernel))
      · exact Or.inl (hs (Cond.not (.eq (.static "LevelledRing$Kind" "INPUT" "LLevelledRing$Kind;") (.static "LevelledRing$Kind" "PRODUCT" "LLevelledRing$Kind;"))) (by decide +kernel))
      · exact Or.inl (hs (Cond.not (.eq (.static "LevelledRing$Kind" "INPUT" "LLevelledRing$Kind;") (.static "LevelledRing$Kind" "SHIFT" "LLevelledRing$Kind;"))) (by decide +kernel))
      · exact Or.inl (hs (Cond.not (.eq (.static "LevelledRing$Kind" "INPUT" "LLevelledRing$Kind;") (.static "LevelledRing$Kind" "LOWERED" "LLevelledRing$Kind;"))) (by decide +kernel))
    · rcases (show j = 0 ∨ j = 1 ∨ j = 2 ∨ j = 3 ∨ j = 4 ∨ j = 5 by omega) with rfl | rfl | rfl | rfl | rfl | rfl
      · exact Or.inr (hs (Cond.not (.eq (.static "LevelledRing$Kind" "INPUT" "LLevelledRing$Kind;") (.static "LevelledRing$Kind" "SUM" "LLevelledRing$Kind;"))) (by decide +kernel))
      · exact absurd rfl hne
      · exact Or.inl (hs (Cond.not (.eq (.static "LevelledRing$Kind" "SUM" "LLevelledRing$Kind;") (.static "LevelledRing$Kind" "DIFFERENCE" "LLevelledRing$Kind;"))) (by decide +kernel))
      · exact Or.inl (hs (Cond.not (.eq (.static "LevelledRing$Kind" "SUM" "LLevelledRing$Kind;") (.static "LevelledRing$Kind" "PRODUCT" "LLevelledRing$Kind;"))) (by decide +kernel))
      · exact Or.inl (hs (Cond.not (.eq (.static "LevelledRing$Kind" "SUM" "LLevelledRing$Kind;") (.static "LevelledRing$Kind" "SHIFT" "LLevelledRing$Kind;"))) (by decide +kernel))
      · exact Or.inl (hs (Cond.not (.eq (.static "LevelledRing$Kind" "SUM" "LLevelledRing$Kind;") (.static "LevelledRing$Kind" "LOWERED" "LLevelledRing$Kind;"))) (by decide +kernel))
    · rcases (show j = 0 ∨ j = 1 ∨ j = 2 ∨ j = 3 ∨ j = 4 ∨ j = 5 by omega) with rfl | rfl | rfl | rfl | rfl | rfl
      · exact Or.inr (hs (Cond.not (.eq (.static "LevelledRing$Kind" "INPUT" "LLevelledRing$Kind;") (.static "LevelledRing$Kind" "DIFFERENCE" "LLevelledRing$Kind;"))) (by decide +kernel))
      · exact Or.inr (hs (Cond.not (.eq (.static "LevelledRing$Kind" "SUM" "LLevelledRing$Kind;") (.static "LevelledRing$Kind" "DIFFERENCE" "LLevelledRing$Kind;"))) (by decide +kernel))
      · exact absurd rfl hne
      · exact Or.inl (hs (Cond.not (.eq (.static "LevelledRing$Kind" "DIFFERENCE" "LLevelledRing$Kind;") (.static "LevelledRing$Kind" "PRODUCT" "LLevelledRing$Kind;"))) (by decide +kernel))
      · exact Or.inl (hs (Cond.not (.eq (.static "LevelledRing$Kind" "DIFFERENCE" "LLevelledRing$Kind;") (.static "LevelledRing$Kind" "SHIFT" "LLevelledRing$Kind;"))) (by decide +kernel))
      · exact Or.inl (hs (Cond.not (.eq (.static "LevelledRing$Kind" "DIFFERENCE" "LLevelledRing$Kind;") (.static "LevelledRing$Kind" "LOWERED" "LLevelledRing$Kind;"))) (by decide +kernel))
    · rcases (show j = 0 ∨ j = 1 ∨ j = 2 ∨ j = 3 ∨ j = 4 ∨ j = 5 by omega) with rfl | rfl | rfl | rfl | rfl | rfl
      · exact Or.inr (hs (Cond.not (.eq (.static "LevelledRing$Kind" "INPUT" "LLevelledRing$Kind;") (.static "LevelledRing$Kind" "PRODUCT" "LLevelledRing$Kind;"))) (by decide +kernel))
      · exact Or.inr (hs (Cond.not (.eq (.static "LevelledRing$Kind" "SUM" "LLevelledRing$Kind;") (.static "LevelledRing$Kind" "PRODUCT" "LLevelledRing$Kind;"))) (by decide +kernel))
      · exact Or.inr (hs (Cond.not (.eq (.static "LevelledRing$Kind" "DIFFERENCE" "LLevelledRing$Kind;") (.static "LevelledRing$Kind" "PRODUCT" "LLevelledRing$Kind;"))) (by decide +kernel))
      · exact absurd rfl hne
      · exact Or.inl (hs (Cond.not (.eq (.static "LevelledRing$Kind" "PRODUCT" "LLevelledRing$Kind;") (.static "LevelledRing$Kind" "SHIFT" "LLevelledRing$Kind;"))) (by decide +kernel))
      · exact Or.inl (hs (Cond.not (.eq (.static "LevelledRing$Kind" "PRODUCT" "LLevelledRing$Kind;") (.static "LevelledRing$Kind" "LOWERED" "LLevelledRing$Kind;"))) (by decide +kernel))
    · rcases (show j = 0 ∨ j = 1 ∨ j = 2 ∨ j = 3 ∨ j = 4 ∨ j = 5 by omega) with rfl | rfl | rfl | rfl | rfl | rfl
      · exact Or.inr (hs (Cond.not (.eq (.static "LevelledRing$Kind" "INPUT" "LLevelledRing$Kind;") (.static "LevelledRing$Kind" "SHIFT" "LLevelledRing$Kind;"))) (by decide +kernel))
      · exact Or.inr (hs (Cond.not (.eq (.static "LevelledRing$Kind" "SUM" "LLevelledRing$Kind;") (.static "LevelledRing$Kind" "SHIFT" "LLevelledRing$Kind;"))) (by decide +kernel))
      · exact Or.inr (hs (Cond.not (.eq (.static "LevelledRing$Kind" "DIFFERENCE" "LLevelledRing$Kind;") (.static "LevelledRing$Kind" "SHIFT" "LLevelledRing$Kind;"))) (by decide +kernel))
      · exact Or.inr (hs (Cond.not (.eq (.static "LevelledRing$Kind" "PRODUCT" "LLevelledRing$Kind;") (.static "LevelledRing$Kind" "SHIFT" "LLevelledRing$Kind;"))) (by decide +kernel))
      · exact absurd rfl hne
      · exact Or.inl (hs (Cond.not (.eq (.static "LevelledRing$Kind" "SHIFT" "LLevelledRing$Kind;") (.static "LevelledRing$Kind" "LOWERED" "LLevelledRing$Kind;"))) (by decide +kernel))
    · rcases (show j = 0 ∨ j = 1 ∨ j = 2 ∨ j = 3 ∨ j = 4 ∨ j = 5 by omega) with rfl | rfl | rfl | rfl | rfl | rfl
      · exact Or.inr (hs (Cond.not (.eq (.static "LevelledRing$Kind" "INPUT" "LLevelledRing$Kind;") (.static "LevelledRing$Kind" "LOWERED" "LLevelledRing$Kind;"))) (by decide +kernel))
      · exact Or.inr (hs (Cond.not (.eq (.static "LevelledRing$Kind" "SUM" "LLevelledRing$Kind;") (.static "LevelledRing$Kind" "LOWERED" "LLevelledRing$Kind;"))) (by decide +kernel))
      · exact Or.inr (hs (Cond.not (.eq (.static "LevelledRing$Kind" "DIFFERENCE" "LLevelledRing$Kind;") (.static "LevelledRing$Kind" "LOWERED" "LLevelledRing$Kind;"))) (by decide +kernel))
      · exact Or.inr (hs (Cond.not (.eq (.static "LevelledRing$Kind" "PRODUCT" "LLevelledRing$Kind;") (.static "LevelledRing$Kind" "LOWERED" "LLevelledRing$Kind;"))) (by decide +kernel))
      · exact Or.inr (hs (Cond.not (.eq (.static "LevelledRing$Kind" "SHIFT" "LLevelledRing$Kind;") (.static "LevelledRing$Kind" "LOWERED" "LLevelledRing$Kind;"))) (by decide +kernel))
      · exact absurd rfl hne
set_option maxRecDepth 100000 in
theorem sK {args : Array Value} {s : State} (hin : ∀ w ∈ tables_1, w.before args s = true) (hts : ∀ w ∈ w_L_law, w.before args s = true) : ∃ (D : va_G) (ct : Nat → ClassId), va_K D vwCl (cty ct) s := by
  obtain ⟨c0, i0, k0⟩ := u_known (n := 1) hts (hin_D _) (hin _ (List.mem_of_getElem? (i := 22) (by decide +kernel)))
  obtain ⟨c1, i1, k1⟩ := u_known (n := 6) hts (hin_G _) (hin _ (List.mem_of_getElem? (i := 137) (by decide +kernel)))
  obtain ⟨c2, i2, k2⟩ := u_known (n := 3) hts (hin_K _) (hin _ (List.mem_of_getElem? (i := 78) (by decide +kernel)))
  obtain ⟨c3, i3, k3⟩ := u_known (n := 2) hts (hin_P _) (hin _ (List.mem_of_getElem? (i := 32) (by decide +kernel)))
  obtain ⟨c4, i4, k4⟩ := u_known (n := 4) hts (hin_V _) (hin _ (List.mem_of_getElem? (i := 49) (by decide +kernel)))
  obtain ⟨c5, i5, k5⟩ := u_known (n := 11) hts (hin_R _) (hin _ (List.mem_of_getElem? (i := 14) (by decide +kernel)))
  obtain ⟨c6, i6, k6⟩ := u_known (n := 19) hts (hin_M _) (hin _ (List.mem_of_getElem? (i := 459) (by decide +kernel)))
  obtain ⟨a0, b0⟩ := arr_p (ty := .int) (hin _ (List.mem_of_getElem? (i := 45) (by decide +kernel))) (fun _ h => h)
  obtain ⟨a1, b1⟩ := arr_p (ty := .long) (hin _ (List.mem_of_getElem? (i := 551) (by decide +kernel))) (fun _ h => h)
  obtain ⟨a2, b2⟩ := arr_p (ty := .boolean) (hin _ (List.mem_of_getElem? (i := 552) (by decide +kernel))) (fun _ h => h)
  obtain ⟨a3, b3⟩ := arr_o (C := "LevelledRing$Gate") (hin _ (List.mem_of_getElem? (i := 47) (by decide +kernel)))
  obtain ⟨a4, b4⟩ := arr_o (C := "LevelledRing$Poly") (hin _ (List.mem_of_getElem? (i := 85) (by decide +kernel)))
  refine ⟨((fun k => match k with | 0 => c0 | 1 => c1 | 2 => c2 | 3 => c3 | 4 => c4 | 5 => c5 | _ => c6), (fun k => match k with | 0 => i0 | 1 => i1 | 2 => i2 | 3 => i3 | 4 => i4 | 5 => i5 | _ => i6)), (fun k => match k with | 0 => a0 | 1 => a1 | 2 => a2 | 3 => a3 | _ => a4), fun c q hq => ?_, fun k q hq => ?_⟩
  · match c, hq with
    | 0, hq => cases hq; exact k0
    | 1, hq => cases hq; exact k1
    | 2, hq => cases hq; exact k2
    | 3, hq => cases hq; exact k3
    | 4, hq => cases hq; exact k4
    | 5, hq => cases hq; exact k5
    | 6, hq => cases hq; exact k6
    | n + 7, hq => cases hq
  · match k, hq with
    | 0, hq => cases hq; exact b0
    | 1, hq => cases hq; exact b1
    | 2, hq => cases hq; exact b2
    | 3, hq => cases hq; exact b3
    | 4, hq => cases hq; exact b4
    | n + 5, hq => cases hq
set_option maxRecDepth 100000 in
theorem sN {args : Array Value} {s : State} (hin : ∀ w ∈ tables_1, w.before args s = true) : ∀ w ∈ nws, va_Nw w s := by
  intro w hw
  unfold nws at hw
  simp only [List.mem_cons, List.not_mem_nil, or_false] at hw
  rcases hw with rfl | rfl | rfl | rfl | rfl | rfl | rfl | rfl | rfl | rfl | rfl | rfl
  · exact va_Nw.of rfl (hin _ (List.mem_of_getElem? (i := 23) (by decide +kernel)))
  · exact va_Nw.of rfl (hin _ (List.mem_of_getElem? (i := 50) (by decide +kernel)))
  · exact va_Nw.of rfl (hin _ (List.mem_of_getElem? (i := 96) (by decide +kernel)))
  · exact va_Nw.of rfl (hin _ (List.mem_of_getElem? (i := 98) (by decide +kernel)))
  · exact va_Nw.of rfl (hin _ (List.mem_of_getElem? (i := 138) (by decide +kernel)))
  · exact va_Nw.of rfl (hin _ (List.mem_of_getElem? (i := 147) (by decide +kernel)))
  · exact va_Nw.of rfl (hin _ (List.mem_of_getElem? (i := 334) (by decide +kernel)))
  · exact va_Nw.of rfl (hin _ (List.mem_of_getElem? (i := 340) (by decide +kernel)))
  · exact va_Nw.of rfl (hin _ (List.mem_of_getElem? (i := 345) (by decide +kernel)))
  · exact va_Nw.of rfl (hin _ (List.mem_of_getElem? (i := 351) (by decide +kernel)))
  · exact va_Nw.of rfl (hin _ (List.mem_of_getElem? (i := 429) (by decide +kernel)))
  · exact va_Nw.of rfl (hin _ (List.mem_of_getElem? (i := 430) (by decide +kernel)))
theorem start_ev {args : Array Value} {s : State} (hin : ∀ w ∈ tables_1, w.before args s = true) (hts : ∀ w ∈ w_L_law, w.before args s = true) (hs : ∀ w ∈ flatC (Jvm.Cond.and given_1 narrow_1), w.before args s = true) : ∃ (D : va_G) (ct : Nat → ClassId) (st ke : Nat → Nat), ev D ct st ke s.heap.size s := by
  have hA : ∀ a : Nat, a < s.heap.size → ¬ AA s.heap.size a := fun a h g => absurd g (Nat.not_le.mpr h)
  obtain ⟨t0, e0, f0⟩ := sT_0 hs hA
  obtain ⟨t1, e1, f1⟩ := sT_1 hs hA
  obtain ⟨t2, e2, f2⟩ := sT_2 hs hA
  obtain ⟨t3, e3, f3⟩ := sT_3 hs hA
  obtain ⟨t4, e4, f4⟩ := sT_4 hs hA
  obtain ⟨ke, hE⟩ := sE hin hs hA
  obtain ⟨D, ct, hK⟩ := sK hin hts
  exact ⟨D, ct, (fun k => match k with | 0 => t0 | 1 => t1 | 2 => t2 | 3 => t3 | _ => t4), ke, hK, Nat.le_refl _, ⟨va_AO.of (hin _ (List.mem_of_getElem? (i := 47) (by decide +kernel))), va_AO.of (hin _ (List.mem_of_getElem? (i := 85) (by decide +kernel)))⟩, sN hin, ⟨⟨va_Zref (hin _ (List.mem_of_getElem? (i := 97) (by decide +kernel))) (hin _ (List.mem_of_getElem? (i := 1) (by decide +kernel))) e0 hA, f0⟩, ⟨va_Zref (hin _ (List.mem_of_getElem? (i := 352) (by decide +kernel))) (hin _ (List.mem_of_getElem? (i := 1) (by decide +kernel))) e1 hA, f1⟩, ⟨va_Zref (hin _ (List.mem_of_getElem? (i := 431) (by decide +kernel))) (hin _ (List.mem_of_getElem? (i := 1) (by decide +kernel))) e2 hA, f2⟩, ⟨va_Zref (hin _ (List.mem_of_getElem? (i := 346) (by decide +kernel))) (hin _ (List.mem_of_getElem? (i := 1) (by decide +kernel))) e3 hA, f3⟩, ⟨va_Zref (hin _ (List.mem_of_getElem? (i := 256) (by decide +kernel))) (hin _ (List.mem_of_getElem? (i := 12) (by decide +kernel))) e4 hA, f4⟩⟩, hE⟩
set_option maxHeartbeats 4000000 in
theorem whole_start {p : Program} {e : Env} {s : State} {m : MethodId} {below : List Frame} {meth : Method} {c : Code} (l : Launch) {b L : Nat} {xs : Nat → Int32} (hL : L ≤ 2049) (C0 : lw_At p s m meth c b L xs) : W p l e room_1 s m #[Value.ref b] below meth c s.heap [] 0 0 (lw_Z below #[Value.ref b] s) (entryFrame m ([Value.ref b] : List Value).toArray 4) := by
  obtain ⟨hx, hb, hr, hml, hown, hts, hX, hbl, hlk, hgv⟩ := C0
  have hin : ∀ w ∈ tables_1, w.before #[Value.ref b] s = true := fun w h => hts w (List.mem_append_right _ h)
  have hts2 : ∀ w ∈ w_L_law, w.before #[Value.ref b] s = true := fun w h => by
    rcases List.mem_cons.mp h with h | h
    · rw [h]; exact hin _ (List.mem_of_getElem? (i := 0) (by decide +kernel))
    · exact hts w (List.mem_filter.mp h).1
  obtain ⟨D, ct, st, ke, E⟩ := start_ev hin hts2 (flat_of_before _ hgv)
  have hl := lv_entry [Value.ref b] (n := 4) (Nat.le_of_ble_eq_true rfl)
  rw [lg_entry_eq]
  refine law_body l D ct st ke s.heap.size b L xs hL (fun _ => .inr (0, [])) hx hb hml hown hts2 E hX hbl rfl _ hl (fun H locs ls hS => ?_)
  refine va_forget (fun q hq => hS.2.2 q hq) ?_
  refine W.widen (k := 600000) (n := 7302250) (by decide) (by decide) ?_
  have e1 : iI 1 = 1 := by decide
  rw [e1]
  exact lw_ret hx hb hr hlk d_L_law_595
set_option maxHeartbeats 4000000 in
theorem lw_walk (l : Launch) (b : Addr) (xs : List Int32) : MetFree l x (headSpec (Jvm.Cond.code x code maxLocals ret :: tables_1) room_1) (lw_P b xs) (fun _ _ _ _ _ => True) lw_Q := by
  refine MetFree.of_bodyS (code := code) (maxLocals := maxLocals) (ret := ret) (by decide) ?_ ?_
  · intro args s m h hn
    obtain ⟨meth, c, h1, h2, h3, h4, h5, h6, -, -⟩ := Cond.code_spec hn (atoms_spec (ws := Jvm.Cond.code x code maxLocals ret :: tables_1) h _ List.mem_cons_self)
    exact ⟨meth, c, h1, h2, h3, h4, h5, h6⟩
  · intro p e s m args below meth c s₁ B hml0 hP _
    obtain ⟨rfl, hx, hbd, hgv⟩ := hP
    obtain ⟨scr, harrAt, hlist, hof, hsmall⟩ := hx
    obtain ⟨hcb, hkn, -, -⟩ := State.arrayAt?_spec harrAt
    have hown : s.vm.findClass R_law = some m.cls := findClass_of_methodNamed B.named
    have hts0 : ∀ c ∈ (Jvm.Cond.code x code maxLocals ret :: tables_1), c.before #[Value.ref b] s = true := atoms_spec (ws := Jvm.Cond.code x code maxLocals ret :: tables_1) B.pre
    have hts : ∀ w ∈ lw_tbl, w.before #[Value.ref b] s = true := k2_hts_sels lw_privs (fun w hw => hts0 w (List.mem_cons_of_mem _ hw)) lw_privs_ok
    have hml : c.maxLocals = 4 := B.maxLocals_eq (hts0 _ List.mem_cons_self)
    have X₀ : Stand p l e room_1 s m #[Value.ref b] below meth c s₁ [] 0 0 := Stand.of_body B
    have hh0 : s₁.heap = s.heap := by rw [B.state]; rfl
    have hsz : scr.slots.size = xs.length := by rw [← Array.length_toList, hlist, List.length_map]
    have hval : ∀ j : Nat, j < xs.length → scr.slots[j]? = some (.int (xs.getD j 0)) := fun j hj => by
      rw [← Array.getElem?_toList, hlist]
      simp [hj]
    have hbl : b < s.heap.size := (Array.getElem?_eq_some_iff.mp hcb).1
    have hX : va_X b xs.length (fun j => xs.getD j 0) s s.heap := ⟨scr, hcb, hof, hkn, hsz, hval⟩
    have K : W p l e room_1 s m #[Value.ref b] below meth c s₁.heap [] 0 0 (lw_Z below #[Value.ref b] s) (entryFrame m ([Value.ref b] : List Value).toArray 4) := by
      rw [hh0]
      exact whole_start l hbd ⟨B.exec, B.bytes, B.returns, hml, hown, hts, hX, hbl, B.notSynchronized, hgv⟩
    obtain ⟨t, a1, o, b1, b2, b3⟩ := K s₁ rfl X₀
    exact ⟨t, o, a1, b1, b2, b3⟩
theorem lw_pre_spec {args : Array Value} {s : State} (h : (Jvm.Cond.and given_1 narrow_1).before args s = true) (hr : rest_1_c.before args s = true) : ∃ (b : Addr) (xs : List Int32), lw_P b xs args s := by
  have hs := flat_of_before _ h
  have hq := flat_of_before _ hr
  have hc : (Cond.count 1).before args s = true := hs _ (by decide +kernel)
  have harr : (Cond.arrayOf (.arg 0) .int).before args s = true := hs _ (by decide +kernel)
  have hle : (Cond.le (.length (.arg 0)) (.int 2049)).before args s = true := hs _ (by decide +kernel)
  have hlen : (Cond.isInt (.length (.arg 0))).before args s = true := hq _ (by decide +kernel)
  have hall : (Cond.all (.arg 0) (.isInt (.elem (.arg 0) (.index 0)))).before args s = true := hq _ (by decide +kernel)
  obtain ⟨b, xs, hb, hx⟩ := State.ints_of_pre rfl harr hlen hall
  have hsm : xs.length < 2 ^ 31 := hx.choose_spec.2.2.2
  have hev : (Term.length (.arg 0)).eval args s none [] s = some (.int xs.length.toInt32) := hx.length_eval hb
  have hv := Cond.le_ints hev (show (Term.int 2049).eval args s none [] s = some (.int 2049) from rfl)
  have hd : xs.length.toInt32 ≤ 2049 := by
    simpa [Cond.before, Cond.holds, hv] using hle
  have hN : xs.length ≤ 2049 := (Int32.ofNat_le_ofNat hsm (by decide)).mp (show Int32.ofNat xs.length ≤ Int32.ofNat 2049 from hd)
  exact ⟨b, xs, Cond.one_arg hc (show args[0]? = some (.ref b) from hb), hx, hN, h⟩
theorem lw_comes (l : Launch) : Comes l x (Jvm.Cond.code x code maxLocals ret :: tables_1) room_1 (fun tb e args s => Calls_1 tb e args s ∧ rest_1 tb e args s ∧ Pre_1 tb e args s)
    (fun _ _ args s o t => lw_Q args s o t) := by
  intro p e ha hc hk s m args below hf hfit hheap happ hpre
  obtain ⟨b, xs, hP⟩ := lw_pre_spec hpre.2.2 hpre.2.1
  obtain ⟨k, o, h1, h2, h3, hQ⟩ := lw_walk l b xs p e ha hc hk s m args below hf ((Spec.applies_iff_loose hf).mp happ).1 hP trivial
  exact ⟨k, o, h1, h2, h3, hQ⟩
theorem lw_frame {s t : State} {o : Outcome} {args : Array Value} (h : Framed s o t [] 600000 7302250) :
    Framed s o t (fieldLocs frame_1_writes args s ++ arrayLocs frame_1_arrays args s ++ staticLocs frame_1_statics s) 600000 7302250 := h
theorem lw_limb (L : Cond) (hL : ∀ (args : Array Value) (s t : State), L.after args s (.returned (some (.int 1))) t = true) :
    ArmFor flags0 classFile x code maxLocals ret World_1 tables_1 room_1 Calls_1 rest_1 Pre_1
      (fun tb e a s o t => postC L tb e a s o t ∧ Framed s o t (fieldLocs frame_1_writes a s ++ arrayLocs frame_1_arrays a s ++ staticLocs frame_1_statics s) 600000 7302250) := by
  intro l _ _ _ p e ha hc hk s m args below hf hfit hheap happ hpre
  obtain ⟨k, o, h1, h2, h3, rfl, hF⟩ := lw_comes l p e ha hc hk s m args below hf hfit hheap happ hpre
  exact ⟨k, _, h1, h2, h3, hL args s _, lw_frame hF⟩
theorem i_vc : Claimed_1_1 ∧ Claimed_1_2 := ⟨lw_limb limb_1_1 (fun args s t => by simp [limb_1_1, Cond.after, Cond.holds, Cond.value]), lw_limb limb_1_2 (fun args s t => Cond.after_iff.mpr (by
  first | (rw [show limb_1_2 = Cond.eq .result (.int 1) from rfl, Cond.eq_ints (x := 1) (y := 1) rfl rfl]; simp; done) | (simp [limb_1_2, Cond.value, Term.eval]; done)))⟩

