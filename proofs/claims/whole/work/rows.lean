section
-- ===== PART A: goes FIRST, ahead of the names: the tables' words, and 'selects' of the private methods out of them =====
/-- a private method of a class that the tables say can be made, by its rows of tables_1 -/
def lw_okq (q : MethodName × Nat) : Prop := (q.1.cls ≠ "java/lang/invoke/MethodHandle" ∧ q.1.cls ≠ "java/lang/invoke/VarHandle") ∧ Cond.instantiable q.1.cls q.2 ∈ tables_1 ∧ Cond.privateMethod q.1 ∈ tables_1 ∧ Cond.instanceMethod q.1 ∈ tables_1
theorem lw_p0 : lw_okq (⟨"LevelledRing$Poly", "rowModulus", "(I)I"⟩, 2) := ⟨⟨by decide +kernel, by decide +kernel⟩, List.mem_of_getElem? (i := 32) (by decide +kernel), List.mem_of_getElem? (i := 106) (by decide +kernel), List.mem_of_getElem? (i := 107) (by decide +kernel)⟩
theorem lw_p1 : lw_okq (⟨"LevelledRing", "keepGate", "()I"⟩, 11) := ⟨⟨by decide +kernel, by decide +kernel⟩, List.mem_of_getElem? (i := 14) (by decide +kernel), List.mem_of_getElem? (i := 235) (by decide +kernel), List.mem_of_getElem? (i := 236) (by decide +kernel)⟩
theorem lw_p2 : lw_okq (⟨"LevelledRing", "addGate", "(LLevelledRing$Kind;III)I"⟩, 11) := ⟨⟨by decide +kernel, by decide +kernel⟩, List.mem_of_getElem? (i := 14) (by decide +kernel), List.mem_of_getElem? (i := 245) (by decide +kernel), List.mem_of_getElem? (i := 246) (by decide +kernel)⟩
theorem lw_p3 : lw_okq (⟨"LevelledRing", "isGate", "(I)Z"⟩, 11) := ⟨⟨by decide +kernel, by decide +kernel⟩, List.mem_of_getElem? (i := 14) (by decide +kernel), List.mem_of_getElem? (i := 249) (by decide +kernel), List.mem_of_getElem? (i := 250) (by decide +kernel)⟩
theorem lw_p4 : lw_okq (⟨"LevelledRing", "giveValue", "(LLevelledRing$Gate;)Z"⟩, 11) := ⟨⟨by decide +kernel, by decide +kernel⟩, List.mem_of_getElem? (i := 14) (by decide +kernel), List.mem_of_getElem? (i := 314) (by decide +kernel), List.mem_of_getElem? (i := 315) (by decide +kernel)⟩
theorem lw_p5 : lw_okq (⟨"LevelledRing", "takeOperands", "(LLevelledRing$Gate;)Z"⟩, 11) := ⟨⟨by decide +kernel, by decide +kernel⟩, List.mem_of_getElem? (i := 14) (by decide +kernel), List.mem_of_getElem? (i := 318) (by decide +kernel), List.mem_of_getElem? (i := 319) (by decide +kernel)⟩
theorem lw_p6 : lw_okq (⟨"LevelledRing", "giveSum", "(LLevelledRing$Value;I)Z"⟩, 11) := ⟨⟨by decide +kernel, by decide +kernel⟩, List.mem_of_getElem? (i := 14) (by decide +kernel), List.mem_of_getElem? (i := 355) (by decide +kernel), List.mem_of_getElem? (i := 356) (by decide +kernel)⟩
theorem lw_p7 : lw_okq (⟨"LevelledRing", "quietenOperands", "()Z"⟩, 11) := ⟨⟨by decide +kernel, by decide +kernel⟩, List.mem_of_getElem? (i := 14) (by decide +kernel), List.mem_of_getElem? (i := 360) (by decide +kernel), List.mem_of_getElem? (i := 361) (by decide +kernel)⟩
theorem lw_p8 : lw_okq (⟨"LevelledRing", "giveProduct", "(LLevelledRing$Value;)Z"⟩, 11) := ⟨⟨by decide +kernel, by decide +kernel⟩, List.mem_of_getElem? (i := 14) (by decide +kernel), List.mem_of_getElem? (i := 366) (by decide +kernel), List.mem_of_getElem? (i := 367) (by decide +kernel)⟩
theorem lw_p9 : lw_okq (⟨"LevelledRing", "multiplyOperands", "(LLevelledRing$Value;)V"⟩, 11) := ⟨⟨by decide +kernel, by decide +kernel⟩, List.mem_of_getElem? (i := 14) (by decide +kernel), List.mem_of_getElem? (i := 376) (by decide +kernel), List.mem_of_getElem? (i := 377) (by decide +kernel)⟩
theorem lw_p10 : lw_okq (⟨"LevelledRing", "switchSquare", "(LLevelledRing$Value;)V"⟩, 11) := ⟨⟨by decide +kernel, by decide +kernel⟩, List.mem_of_getElem? (i := 14) (by decide +kernel), List.mem_of_getElem? (i := 380) (by decide +kernel), List.mem_of_getElem? (i := 381) (by decide +kernel)⟩
theorem lw_p11 : lw_okq (⟨"LevelledRing", "hideMessage", "(LLevelledRing$Value;LLevelledRing$Poly;I)V"⟩, 11) := ⟨⟨by decide +kernel, by decide +kernel⟩, List.mem_of_getElem? (i := 14) (by decide +kernel), List.mem_of_getElem? (i := 391) (by decide +kernel), List.mem_of_getElem? (i := 392) (by decide +kernel)⟩
theorem lw_p12 : lw_okq (⟨"LevelledRing", "hasValue", "(I)Z"⟩, 11) := ⟨⟨by decide +kernel, by decide +kernel⟩, List.mem_of_getElem? (i := 14) (by decide +kernel), List.mem_of_getElem? (i := 405) (by decide +kernel), List.mem_of_getElem? (i := 406) (by decide +kernel)⟩
theorem lw_p13 : lw_okq (⟨"LevelledRing", "openValue", "(LLevelledRing$Value;)V"⟩, 11) := ⟨⟨by decide +kernel, by decide +kernel⟩, List.mem_of_getElem? (i := 14) (by decide +kernel), List.mem_of_getElem? (i := 418) (by decide +kernel), List.mem_of_getElem? (i := 419) (by decide +kernel)⟩
theorem lw_p14 : lw_okq (⟨"LevelledRingModel", "drawSmall", "()V"⟩, 19) := ⟨⟨by decide +kernel, by decide +kernel⟩, List.mem_of_getElem? (i := 459) (by decide +kernel), List.mem_of_getElem? (i := 466) (by decide +kernel), List.mem_of_getElem? (i := 467) (by decide +kernel)⟩
theorem lw_p15 : lw_okq (⟨"LevelledRingModel", "draw", "()I"⟩, 19) := ⟨⟨by decide +kernel, by decide +kernel⟩, List.mem_of_getElem? (i := 459) (by decide +kernel), List.mem_of_getElem? (i := 470) (by decide +kernel), List.mem_of_getElem? (i := 471) (by decide +kernel)⟩
def lw_privs_1 : List (MethodName × Nat) := [(⟨"LevelledRing$Poly", "rowModulus", "(I)I"⟩, 2), (⟨"LevelledRing", "keepGate", "()I"⟩, 11), (⟨"LevelledRing", "addGate", "(LLevelledRing$Kind;III)I"⟩, 11), (⟨"LevelledRing", "isGate", "(I)Z"⟩, 11), (⟨"LevelledRing", "giveValue", "(LLevelledRing$Gate;)Z"⟩, 11), (⟨"LevelledRing", "takeOperands", "(LLevelledRing$Gate;)Z"⟩, 11), (⟨"LevelledRing", "giveSum", "(LLevelledRing$Value;I)Z"⟩, 11), (⟨"LevelledRing", "quietenOperands", "()Z"⟩, 11), (⟨"LevelledRing", "giveProduct", "(LLevelledRing$Value;)Z"⟩, 11), (⟨"LevelledRing", "multiplyOperands", "(LLevelledRing$Value;)V"⟩, 11), (⟨"LevelledRing", "switchSquare", "(LLevelledRing$Value;)V"⟩, 11), (⟨"LevelledRing", "hideMessage", "(LLevelledRing$Value;LLevelledRing$Poly;I)V"⟩, 11), (⟨"LevelledRing", "hasValue", "(I)Z"⟩, 11), (⟨"LevelledRing", "openValue", "(LLevelledRing$Value;)V"⟩, 11), (⟨"LevelledRingModel", "drawSmall", "()V"⟩, 19), (⟨"LevelledRingModel", "draw", "()I"⟩, 19)]
theorem lw_r1 : ∀ q ∈ lw_privs_1, lw_okq q := List.forall_mem_cons.mpr ⟨lw_p0, List.forall_mem_cons.mpr ⟨lw_p1, List.forall_mem_cons.mpr ⟨lw_p2, List.forall_mem_cons.mpr ⟨lw_p3, List.forall_mem_cons.mpr ⟨lw_p4, List.forall_mem_cons.mpr ⟨lw_p5, List.forall_mem_cons.mpr ⟨lw_p6, List.forall_mem_cons.mpr ⟨lw_p7, List.forall_mem_cons.mpr ⟨lw_p8, List.forall_mem_cons.mpr ⟨lw_p9, List.forall_mem_cons.mpr ⟨lw_p10, List.forall_mem_cons.mpr ⟨lw_p11, List.forall_mem_cons.mpr ⟨lw_p12, List.forall_mem_cons.mpr ⟨lw_p13, List.forall_mem_cons.mpr ⟨lw_p14, List.forall_mem_cons.mpr ⟨lw_p15, fun _ h => absurd h List.not_mem_nil⟩⟩⟩⟩⟩⟩⟩⟩⟩⟩⟩⟩⟩⟩⟩⟩
theorem lw_p16 : lw_okq (⟨"LevelledRingModel", "drawUniform", "(I)V"⟩, 19) := ⟨⟨by decide +kernel, by decide +kernel⟩, List.mem_of_getElem? (i := 459) (by decide +kernel), List.mem_of_getElem? (i := 476) (by decide +kernel), List.mem_of_getElem? (i := 477) (by decide +kernel)⟩
theorem lw_p17 : lw_okq (⟨"LevelledRingModel", "makeB", "(I)V"⟩, 19) := ⟨⟨by decide +kernel, by decide +kernel⟩, List.mem_of_getElem? (i := 459) (by decide +kernel), List.mem_of_getElem? (i := 483) (by decide +kernel), List.mem_of_getElem? (i := 484) (by decide +kernel)⟩
theorem lw_p18 : lw_okq (⟨"LevelledRingModel", "withSecret", "(IIJ)J"⟩, 19) := ⟨⟨by decide +kernel, by decide +kernel⟩, List.mem_of_getElem? (i := 459) (by decide +kernel), List.mem_of_getElem? (i := 490) (by decide +kernel), List.mem_of_getElem? (i := 491) (by decide +kernel)⟩
theorem lw_p19 : lw_okq (⟨"LevelledRingModel", "add", "(III)I"⟩, 19) := ⟨⟨by decide +kernel, by decide +kernel⟩, List.mem_of_getElem? (i := 459) (by decide +kernel), List.mem_of_getElem? (i := 563) (by decide +kernel), List.mem_of_getElem? (i := 564) (by decide +kernel)⟩
theorem lw_p20 : lw_okq (⟨"LevelledRingModel", "plainOf", "(IIII)I"⟩, 19) := ⟨⟨by decide +kernel, by decide +kernel⟩, List.mem_of_getElem? (i := 459) (by decide +kernel), List.mem_of_getElem? (i := 567) (by decide +kernel), List.mem_of_getElem? (i := 568) (by decide +kernel)⟩
theorem lw_p21 : lw_okq (⟨"LevelledRingModel", "pair", "(III)I"⟩, 19) := ⟨⟨by decide +kernel, by decide +kernel⟩, List.mem_of_getElem? (i := 459) (by decide +kernel), List.mem_of_getElem? (i := 578) (by decide +kernel), List.mem_of_getElem? (i := 579) (by decide +kernel)⟩
theorem lw_p22 : lw_okq (⟨"LevelledRingModel", "isGate", "(I)Z"⟩, 19) := ⟨⟨by decide +kernel, by decide +kernel⟩, List.mem_of_getElem? (i := 459) (by decide +kernel), List.mem_of_getElem? (i := 582) (by decide +kernel), List.mem_of_getElem? (i := 583) (by decide +kernel)⟩
theorem lw_p23 : lw_okq (⟨"LevelledRingModel", "value", "(I)Z"⟩, 19) := ⟨⟨by decide +kernel, by decide +kernel⟩, List.mem_of_getElem? (i := 459) (by decide +kernel), List.mem_of_getElem? (i := 614) (by decide +kernel), List.mem_of_getElem? (i := 615) (by decide +kernel)⟩
theorem lw_p24 : lw_okq (⟨"LevelledRingModel", "encrypt", "(I)Z"⟩, 19) := ⟨⟨by decide +kernel, by decide +kernel⟩, List.mem_of_getElem? (i := 459) (by decide +kernel), List.mem_of_getElem? (i := 618) (by decide +kernel), List.mem_of_getElem? (i := 619) (by decide +kernel)⟩
theorem lw_p25 : lw_okq (⟨"LevelledRingModel", "keep", "(IIJ)Z"⟩, 19) := ⟨⟨by decide +kernel, by decide +kernel⟩, List.mem_of_getElem? (i := 459) (by decide +kernel), List.mem_of_getElem? (i := 623) (by decide +kernel), List.mem_of_getElem? (i := 624) (by decide +kernel)⟩
theorem lw_p26 : lw_okq (⟨"LevelledRingModel", "tooGreat", "(JI)Z"⟩, 19) := ⟨⟨by decide +kernel, by decide +kernel⟩, List.mem_of_getElem? (i := 459) (by decide +kernel), List.mem_of_getElem? (i := 627) (by decide +kernel), List.mem_of_getElem? (i := 628) (by decide +kernel)⟩
theorem lw_p27 : lw_okq (⟨"LevelledRingModel", "multiply", "(I)Z"⟩, 19) := ⟨⟨by decide +kernel, by decide +kernel⟩, List.mem_of_getElem? (i := 459) (by decide +kernel), List.mem_of_getElem? (i := 632) (by decide +kernel), List.mem_of_getElem? (i := 633) (by decide +kernel)⟩
theorem lw_p28 : lw_okq (⟨"LevelledRingModel", "level2", "(II)Z"⟩, 19) := ⟨⟨by decide +kernel, by decide +kernel⟩, List.mem_of_getElem? (i := 459) (by decide +kernel), List.mem_of_getElem? (i := 636) (by decide +kernel), List.mem_of_getElem? (i := 637) (by decide +kernel)⟩
theorem lw_p29 : lw_okq (⟨"LevelledRingModel", "load", "(II)V"⟩, 19) := ⟨⟨by decide +kernel, by decide +kernel⟩, List.mem_of_getElem? (i := 459) (by decide +kernel), List.mem_of_getElem? (i := 640) (by decide +kernel), List.mem_of_getElem? (i := 641) (by decide +kernel)⟩
theorem lw_p30 : lw_okq (⟨"LevelledRingModel", "lower", "(I)Z"⟩, 19) := ⟨⟨by decide +kernel, by decide +kernel⟩, List.mem_of_getElem? (i := 459) (by decide +kernel), List.mem_of_getElem? (i := 644) (by decide +kernel), List.mem_of_getElem? (i := 645) (by decide +kernel)⟩
theorem lw_p31 : lw_okq (⟨"LevelledRingModel", "addProduct", "(IIIJ)V"⟩, 19) := ⟨⟨by decide +kernel, by decide +kernel⟩, List.mem_of_getElem? (i := 459) (by decide +kernel), List.mem_of_getElem? (i := 652) (by decide +kernel), List.mem_of_getElem? (i := 653) (by decide +kernel)⟩
def lw_privs_2 : List (MethodName × Nat) := [(⟨"LevelledRingModel", "drawUniform", "(I)V"⟩, 19), (⟨"LevelledRingModel", "makeB", "(I)V"⟩, 19), (⟨"LevelledRingModel", "withSecret", "(IIJ)J"⟩, 19), (⟨"LevelledRingModel", "add", "(III)I"⟩, 19), (⟨"LevelledRingModel", "plainOf", "(IIII)I"⟩, 19), (⟨"LevelledRingModel", "pair", "(III)I"⟩, 19), (⟨"LevelledRingModel", "isGate", "(I)Z"⟩, 19), (⟨"LevelledRingModel", "value", "(I)Z"⟩, 19), (⟨"LevelledRingModel", "encrypt", "(I)Z"⟩, 19), (⟨"LevelledRingModel", "keep", "(IIJ)Z"⟩, 19), (⟨"LevelledRingModel", "tooGreat", "(JI)Z"⟩, 19), (⟨"LevelledRingModel", "multiply", "(I)Z"⟩, 19), (⟨"LevelledRingModel", "level2", "(II)Z"⟩, 19), (⟨"LevelledRingModel", "load", "(II)V"⟩, 19), (⟨"LevelledRingModel", "lower", "(I)Z"⟩, 19), (⟨"LevelledRingModel", "addProduct", "(IIIJ)V"⟩, 19)]
theorem lw_r2 : ∀ q ∈ lw_privs_2, lw_okq q := List.forall_mem_cons.mpr ⟨lw_p16, List.forall_mem_cons.mpr ⟨lw_p17, List.forall_mem_cons.mpr ⟨lw_p18, List.forall_mem_cons.mpr ⟨lw_p19, List.forall_mem_cons.mpr ⟨lw_p20, List.forall_mem_cons.mpr ⟨lw_p21, List.forall_mem_cons.mpr ⟨lw_p22, List.forall_mem_cons.mpr ⟨lw_p23, List.forall_mem_cons.mpr ⟨lw_p24, List.forall_mem_cons.mpr ⟨lw_p25, List.forall_mem_cons.mpr ⟨lw_p26, List.forall_mem_cons.mpr ⟨lw_p27, List.forall_mem_cons.mpr ⟨lw_p28, List.forall_mem_cons.mpr ⟨lw_p29, List.forall_mem_cons.mpr ⟨lw_p30, List.forall_mem_cons.mpr ⟨lw_p31, fun _ h => absurd h List.not_mem_nil⟩⟩⟩⟩⟩⟩⟩⟩⟩⟩⟩⟩⟩⟩⟩⟩
theorem lw_p32 : lw_okq (⟨"LevelledRingModel", "combine", "(II)Z"⟩, 19) := ⟨⟨by decide +kernel, by decide +kernel⟩, List.mem_of_getElem? (i := 459) (by decide +kernel), List.mem_of_getElem? (i := 657) (by decide +kernel), List.mem_of_getElem? (i := 658) (by decide +kernel)⟩
theorem lw_p33 : lw_okq (⟨"LevelledRingModel", "valued", "(I)Z"⟩, 19) := ⟨⟨by decide +kernel, by decide +kernel⟩, List.mem_of_getElem? (i := 459) (by decide +kernel), List.mem_of_getElem? (i := 665) (by decide +kernel), List.mem_of_getElem? (i := 666) (by decide +kernel)⟩
theorem lw_p34 : lw_okq (⟨"LevelledRingModel", "open", "(I)V"⟩, 19) := ⟨⟨by decide +kernel, by decide +kernel⟩, List.mem_of_getElem? (i := 459) (by decide +kernel), List.mem_of_getElem? (i := 678) (by decide +kernel), List.mem_of_getElem? (i := 679) (by decide +kernel)⟩
def lw_privs_3 : List (MethodName × Nat) := [(⟨"LevelledRingModel", "combine", "(II)Z"⟩, 19), (⟨"LevelledRingModel", "valued", "(I)Z"⟩, 19), (⟨"LevelledRingModel", "open", "(I)V"⟩, 19)]
theorem lw_r3 : ∀ q ∈ lw_privs_3, lw_okq q := List.forall_mem_cons.mpr ⟨lw_p32, List.forall_mem_cons.mpr ⟨lw_p33, List.forall_mem_cons.mpr ⟨lw_p34, fun _ h => absurd h List.not_mem_nil⟩⟩⟩
def lw_privs : List (MethodName × Nat) := lw_privs_1 ++ (lw_privs_2 ++ (lw_privs_3))
def lw_tbl : List Cond := k2_sels lw_privs ++ tables_1
theorem lw_privs_ok : ∀ q ∈ lw_privs, lw_okq q := by
  show ∀ q ∈ lw_privs_1 ++ (lw_privs_2 ++ (lw_privs_3)), lw_okq q
  exact List.forall_mem_append.mpr ⟨lw_r1, List.forall_mem_append.mpr ⟨lw_r2, lw_r3⟩⟩
end
section
-- the words of the tables that stay; a row for each: it is among them
def TB : List Cond := lw_tbl.filter goodWord
theorem tb_of {w : Cond} (h : w ∈ tables_1) (g : goodWord w = true) : w ∈ TB := List.mem_filter.mpr ⟨List.mem_append_right _ h, g⟩
theorem tb_sel (q : MethodName × Nat) (h : q ∈ lw_privs) : Cond.selects q.1.cls q.1 q.1 ∈ TB := List.mem_filter.mpr ⟨List.mem_append_left _ (List.mem_map.mpr ⟨q, h, rfl⟩), rfl⟩
theorem goodIn_sb {big ws : List Cond} (hm : ∀ w ∈ ws, w ∈ big) (h : ws.all goodWord = true) : GoodIn big ws := fun w hw => ⟨hm w hw, good_of_word (List.all_eq_true.mp h w hw)⟩
theorem gC {c0 c1 : Cond} (h : c1 ∈ TB) : GoodIn (c0 :: TB) (c1 :: TB) := goodIn_sb (List.forall_mem_cons.mpr ⟨List.mem_cons_of_mem _ h, fun _ h => List.mem_cons_of_mem _ h⟩) (List.all_eq_true.mpr (List.forall_mem_cons.mpr ⟨(List.mem_filter.mp h).2, fun _ h => (List.mem_filter.mp h).2⟩))
theorem gA {c0 : Cond} {a b : List Cond} (ha : ∀ w ∈ a, w ∈ TB) (hb : GoodIn (c0 :: TB) b) : GoodIn (c0 :: TB) (a ++ b) := fun w h => (List.mem_append.mp h).elim (fun h => ⟨List.mem_cons_of_mem _ (ha w h), good_of_word (List.mem_filter.mp (ha w h)).2⟩) (hb w)
theorem gV {c0 : Cond} {own C : String} {idx n : Nat} {y : MethodName} {cc : ByteArray} {r : Option FieldType} (h1 : Cond.methodLink own idx y ∈ TB) (h2 : Cond.instanceMethod y ∈ TB) (h3 : Cond.selects C y y ∈ TB) (h4 : Cond.initialized C ∈ TB) (h5 : Cond.code y cc n r ∈ TB) : GoodIn (c0 :: TB) (wsV own idx C y (Cond.code y cc n r :: TB)) := gA (List.forall_mem_cons.mpr ⟨h1, List.forall_mem_cons.mpr ⟨h2, List.forall_mem_cons.mpr ⟨h3, List.forall_mem_cons.mpr ⟨h4, fun _ h => absurd h List.not_mem_nil⟩⟩⟩⟩) (gC h5)
theorem gS {c0 : Cond} {own : String} {idx n : Nat} {y : MethodName} {cc : ByteArray} {r : Option FieldType} (h1 : Cond.methodLink own idx y ∈ TB) (h2 : Cond.static y ∈ TB) (h3 : Cond.initialized own ∈ TB) (h5 : Cond.code y cc n r ∈ TB) : GoodIn (c0 :: TB) (wsS own idx y (Cond.code y cc n r :: TB)) := gA (List.forall_mem_cons.mpr ⟨h1, List.forall_mem_cons.mpr ⟨h2, List.forall_mem_cons.mpr ⟨h3, fun _ h => absurd h List.not_mem_nil⟩⟩⟩) (gC h5)
theorem tb_good : TB.all goodWord = true := List.all_eq_true.mpr fun _ h => (List.mem_filter.mp h).2
theorem t_0 : (Jvm.Cond.initialized "LevelledRingLaw") ∈ TB := tb_of (List.mem_of_getElem? (i := 0) (by decide +kernel)) (by decide +kernel)
theorem t_1 : (Jvm.Cond.initialized "LevelledRing") ∈ TB := tb_of (List.mem_of_getElem? (i := 1) (by decide +kernel)) (by decide +kernel)
theorem t_2 : (Jvm.Cond.initialized "LevelledRing$Drawing") ∈ TB := tb_of (List.mem_of_getElem? (i := 2) (by decide +kernel)) (by decide +kernel)
theorem t_3 : (Jvm.Cond.initialized "LevelledRing$Poly") ∈ TB := tb_of (List.mem_of_getElem? (i := 3) (by decide +kernel)) (by decide +kernel)
theorem t_4 : (Jvm.Cond.initialized "LevelledRing$Value") ∈ TB := tb_of (List.mem_of_getElem? (i := 4) (by decide +kernel)) (by decide +kernel)
theorem t_5 : (Jvm.Cond.initialized "LevelledRing$Keys") ∈ TB := tb_of (List.mem_of_getElem? (i := 5) (by decide +kernel)) (by decide +kernel)
theorem t_6 : (Jvm.Cond.initialized "LevelledRing$Gate") ∈ TB := tb_of (List.mem_of_getElem? (i := 6) (by decide +kernel)) (by decide +kernel)
theorem t_7 : (Jvm.Cond.initialized "java/lang/Enum") ∈ TB := tb_of (List.mem_of_getElem? (i := 7) (by decide +kernel)) (by decide +kernel)
theorem t_8 : (Jvm.Cond.initialized "LevelledRing$Kind") ∈ TB := tb_of (List.mem_of_getElem? (i := 8) (by decide +kernel)) (by decide +kernel)
theorem t_9 : (Jvm.Cond.initialized "LevelledRingModel") ∈ TB := tb_of (List.mem_of_getElem? (i := 9) (by decide +kernel)) (by decide +kernel)
theorem t_10 : (Jvm.Cond.initialized "java/lang/Math") ∈ TB := tb_of (List.mem_of_getElem? (i := 10) (by decide +kernel)) (by decide +kernel)
theorem t_11 : (Jvm.Cond.initialized "java/lang/System") ∈ TB := tb_of (List.mem_of_getElem? (i := 11) (by decide +kernel)) (by decide +kernel)
theorem t_12 : (Jvm.Cond.initialized "LevelledRing$1") ∈ TB := tb_of (List.mem_of_getElem? (i := 12) (by decide +kernel)) (by decide +kernel)
theorem t_13 : (Jvm.Cond.classLink "LevelledRingLaw" (7 : Nat) "LevelledRing") ∈ TB := tb_of (List.mem_of_getElem? (i := 13) (by decide +kernel)) (by decide +kernel)
theorem t_14 : (Jvm.Cond.instantiable "LevelledRing" (11 : Nat)) ∈ TB := tb_of (List.mem_of_getElem? (i := 14) (by decide +kernel)) (by decide +kernel)
theorem t_15 : (Jvm.Cond.methodLink "LevelledRingLaw" (15 : Nat) ({ cls := "LevelledRing", name := "<init>", desc := "(I)V" } : Jvm.MethodName)) ∈ TB := tb_of (List.mem_of_getElem? (i := 15) (by decide +kernel)) (by decide +kernel)
theorem t_16 : (Jvm.Cond.instanceMethod ({ cls := "LevelledRing", name := "<init>", desc := "(I)V" } : Jvm.MethodName)) ∈ TB := tb_of (List.mem_of_getElem? (i := 16) (by decide +kernel)) (by decide +kernel)
theorem t_17 : (Jvm.Cond.code ({ cls := "LevelledRing", name := "<init>", desc := "(I)V" } : Jvm.MethodName) prog_1_method_1_code (3 : Nat) (Option.none : Option Jvm.ClassFile.FieldType)) ∈ TB := tb_of (List.mem_of_getElem? (i := 17) (by decide +kernel)) (by decide +kernel)
theorem t_18 : (Jvm.Cond.methodLink "LevelledRing" (3 : Nat) ({ cls := "java/lang/Object", name := "<init>", desc := "()V" } : Jvm.MethodName)) ∈ TB := tb_of (List.mem_of_getElem? (i := 18) (by decide +kernel)) (by decide +kernel)
theorem t_19 : (Jvm.Cond.instanceMethod ({ cls := "java/lang/Object", name := "<init>", desc := "()V" } : Jvm.MethodName)) ∈ TB := tb_of (List.mem_of_getElem? (i := 19) (by decide +kernel)) (by decide +kernel)
theorem t_20 : (Jvm.Cond.code ({ cls := "java/lang/Object", name := "<init>", desc := "()V" } : Jvm.MethodName) object_method_1_code (1 : Nat) (Option.none : Option Jvm.ClassFile.FieldType)) ∈ TB := tb_of (List.mem_of_getElem? (i := 20) (by decide +kernel)) (by decide +kernel)
theorem t_21 : (Jvm.Cond.classLink "LevelledRing" (9 : Nat) "LevelledRing$Drawing") ∈ TB := tb_of (List.mem_of_getElem? (i := 21) (by decide +kernel)) (by decide +kernel)
theorem t_22 : (Jvm.Cond.instantiable "LevelledRing$Drawing" (1 : Nat)) ∈ TB := tb_of (List.mem_of_getElem? (i := 22) (by decide +kernel)) (by decide +kernel)
theorem t_24 : (Jvm.Cond.instanceMethod ({ cls := "LevelledRing$Drawing", name := "<init>", desc := "()V" } : Jvm.MethodName)) ∈ TB := tb_of (List.mem_of_getElem? (i := 24) (by decide +kernel)) (by decide +kernel)
theorem t_25 : (Jvm.Cond.code ({ cls := "LevelledRing$Drawing", name := "<init>", desc := "()V" } : Jvm.MethodName) prog_3_method_1_code (1 : Nat) (Option.none : Option Jvm.ClassFile.FieldType)) ∈ TB := tb_of (List.mem_of_getElem? (i := 25) (by decide +kernel)) (by decide +kernel)
theorem t_26 : (Jvm.Cond.methodLink "LevelledRing$Drawing" (1 : Nat) ({ cls := "java/lang/Object", name := "<init>", desc := "()V" } : Jvm.MethodName)) ∈ TB := tb_of (List.mem_of_getElem? (i := 26) (by decide +kernel)) (by decide +kernel)
theorem t_27 : (Jvm.Cond.fieldLink "LevelledRing$Drawing" (7 : Nat) "LevelledRing$Drawing" "z" "I") ∈ TB := tb_of (List.mem_of_getElem? (i := 27) (by decide +kernel)) (by decide +kernel)
theorem t_28 : (Jvm.Cond.lays "LevelledRing$Drawing" "LevelledRing$Drawing" "z" "I") ∈ TB := tb_of (List.mem_of_getElem? (i := 28) (by decide +kernel)) (by decide +kernel)
theorem t_29 : (Jvm.Cond.soleField "LevelledRing$Drawing" "z") ∈ TB := tb_of (List.mem_of_getElem? (i := 29) (by decide +kernel)) (by decide +kernel)
theorem t_30 : (Jvm.Cond.superclass "LevelledRing$Drawing" "java/lang/Object") ∈ TB := tb_of (List.mem_of_getElem? (i := 30) (by decide +kernel)) (by decide +kernel)
theorem t_31 : (Jvm.Cond.classLink "LevelledRing" (16 : Nat) "LevelledRing$Poly") ∈ TB := tb_of (List.mem_of_getElem? (i := 31) (by decide +kernel)) (by decide +kernel)
theorem t_32 : (Jvm.Cond.instantiable "LevelledRing$Poly" (2 : Nat)) ∈ TB := tb_of (List.mem_of_getElem? (i := 32) (by decide +kernel)) (by decide +kernel)
theorem t_33 : (Jvm.Cond.methodLink "LevelledRing" (18 : Nat) ({ cls := "LevelledRing$Poly", name := "<init>", desc := "(Z)V" } : Jvm.MethodName)) ∈ TB := tb_of (List.mem_of_getElem? (i := 33) (by decide +kernel)) (by decide +kernel)
theorem t_34 : (Jvm.Cond.instanceMethod ({ cls := "LevelledRing$Poly", name := "<init>", desc := "(Z)V" } : Jvm.MethodName)) ∈ TB := tb_of (List.mem_of_getElem? (i := 34) (by decide +kernel)) (by decide +kernel)
theorem t_35 : (Jvm.Cond.code ({ cls := "LevelledRing$Poly", name := "<init>", desc := "(Z)V" } : Jvm.MethodName) prog_7_method_1_code (2 : Nat) (Option.none : Option Jvm.ClassFile.FieldType)) ∈ TB := tb_of (List.mem_of_getElem? (i := 35) (by decide +kernel)) (by decide +kernel)
theorem t_36 : (Jvm.Cond.methodLink "LevelledRing$Poly" (3 : Nat) ({ cls := "java/lang/Object", name := "<init>", desc := "()V" } : Jvm.MethodName)) ∈ TB := tb_of (List.mem_of_getElem? (i := 36) (by decide +kernel)) (by decide +kernel)
theorem t_37 : (Jvm.Cond.fieldLink "LevelledRing$Poly" (9 : Nat) "LevelledRing$Poly" "small" "Z") ∈ TB := tb_of (List.mem_of_getElem? (i := 37) (by decide +kernel)) (by decide +kernel)
theorem t_38 : (Jvm.Cond.fieldLink "LevelledRing$Poly" (15 : Nat) "LevelledRing$Poly" "c" "[I") ∈ TB := tb_of (List.mem_of_getElem? (i := 38) (by decide +kernel)) (by decide +kernel)
theorem t_39 : (Jvm.Cond.fieldLink "LevelledRing" (75 : Nat) "LevelledRing$Poly" "c" "[I") ∈ TB := tb_of (List.mem_of_getElem? (i := 39) (by decide +kernel)) (by decide +kernel)
theorem t_40 : (Jvm.Cond.laysFinal "LevelledRing$Poly" "LevelledRing$Poly" "small" "Z") ∈ TB := tb_of (List.mem_of_getElem? (i := 40) (by decide +kernel)) (by decide +kernel)
theorem t_41 : (Jvm.Cond.soleField "LevelledRing$Poly" "small") ∈ TB := tb_of (List.mem_of_getElem? (i := 41) (by decide +kernel)) (by decide +kernel)
theorem t_42 : (Jvm.Cond.laysFinal "LevelledRing$Poly" "LevelledRing$Poly" "c" "[I") ∈ TB := tb_of (List.mem_of_getElem? (i := 42) (by decide +kernel)) (by decide +kernel)
theorem t_43 : (Jvm.Cond.soleField "LevelledRing$Poly" "c") ∈ TB := tb_of (List.mem_of_getElem? (i := 43) (by decide +kernel)) (by decide +kernel)
theorem t_44 : (Jvm.Cond.superclass "LevelledRing$Poly" "java/lang/Object") ∈ TB := tb_of (List.mem_of_getElem? (i := 44) (by decide +kernel)) (by decide +kernel)
theorem t_45 : (Jvm.Cond.arrayClass Jvm.ClassFile.FieldType.int) ∈ TB := tb_of (List.mem_of_getElem? (i := 45) (by decide +kernel)) (by decide +kernel)
theorem t_46 : (Jvm.Cond.classLink "LevelledRing" (25 : Nat) "LevelledRing$Gate") ∈ TB := tb_of (List.mem_of_getElem? (i := 46) (by decide +kernel)) (by decide +kernel)
theorem t_48 : (Jvm.Cond.classLink "LevelledRing" (38 : Nat) "LevelledRing$Value") ∈ TB := tb_of (List.mem_of_getElem? (i := 48) (by decide +kernel)) (by decide +kernel)
theorem t_49 : (Jvm.Cond.instantiable "LevelledRing$Value" (4 : Nat)) ∈ TB := tb_of (List.mem_of_getElem? (i := 49) (by decide +kernel)) (by decide +kernel)
theorem t_51 : (Jvm.Cond.instanceMethod ({ cls := "LevelledRing$Value", name := "<init>", desc := "()V" } : Jvm.MethodName)) ∈ TB := tb_of (List.mem_of_getElem? (i := 51) (by decide +kernel)) (by decide +kernel)
theorem t_52 : (Jvm.Cond.code ({ cls := "LevelledRing$Value", name := "<init>", desc := "()V" } : Jvm.MethodName) prog_8_method_1_code (1 : Nat) (Option.none : Option Jvm.ClassFile.FieldType)) ∈ TB := tb_of (List.mem_of_getElem? (i := 52) (by decide +kernel)) (by decide +kernel)
theorem t_53 : (Jvm.Cond.methodLink "LevelledRing$Value" (3 : Nat) ({ cls := "java/lang/Object", name := "<init>", desc := "()V" } : Jvm.MethodName)) ∈ TB := tb_of (List.mem_of_getElem? (i := 53) (by decide +kernel)) (by decide +kernel)
theorem t_54 : (Jvm.Cond.classLink "LevelledRing$Value" (19 : Nat) "LevelledRing$Poly") ∈ TB := tb_of (List.mem_of_getElem? (i := 54) (by decide +kernel)) (by decide +kernel)
theorem t_55 : (Jvm.Cond.methodLink "LevelledRing$Value" (21 : Nat) ({ cls := "LevelledRing$Poly", name := "<init>", desc := "(Z)V" } : Jvm.MethodName)) ∈ TB := tb_of (List.mem_of_getElem? (i := 55) (by decide +kernel)) (by decide +kernel)
theorem t_56 : (Jvm.Cond.fieldLink "LevelledRing$Value" (9 : Nat) "LevelledRing$Value" "level" "I") ∈ TB := tb_of (List.mem_of_getElem? (i := 56) (by decide +kernel)) (by decide +kernel)
theorem t_57 : (Jvm.Cond.fieldLink "LevelledRing" (142 : Nat) "LevelledRing$Value" "level" "I") ∈ TB := tb_of (List.mem_of_getElem? (i := 57) (by decide +kernel)) (by decide +kernel)
theorem t_58 : (Jvm.Cond.fieldLink "LevelledRing$Value" (15 : Nat) "LevelledRing$Value" "meter" "J") ∈ TB := tb_of (List.mem_of_getElem? (i := 58) (by decide +kernel)) (by decide +kernel)
theorem t_59 : (Jvm.Cond.fieldLink "LevelledRing" (145 : Nat) "LevelledRing$Value" "meter" "J") ∈ TB := tb_of (List.mem_of_getElem? (i := 59) (by decide +kernel)) (by decide +kernel)
theorem t_60 : (Jvm.Cond.fieldLink "LevelledRing$Value" (24 : Nat) "LevelledRing$Value" "c0" "LLevelledRing$Poly;") ∈ TB := tb_of (List.mem_of_getElem? (i := 60) (by decide +kernel)) (by decide +kernel)
theorem t_61 : (Jvm.Cond.fieldLink "LevelledRing" (167 : Nat) "LevelledRing$Value" "c0" "LLevelledRing$Poly;") ∈ TB := tb_of (List.mem_of_getElem? (i := 61) (by decide +kernel)) (by decide +kernel)
theorem t_62 : (Jvm.Cond.fieldLink "LevelledRing$Value" (28 : Nat) "LevelledRing$Value" "c1" "LLevelledRing$Poly;") ∈ TB := tb_of (List.mem_of_getElem? (i := 62) (by decide +kernel)) (by decide +kernel)
theorem t_63 : (Jvm.Cond.fieldLink "LevelledRing" (170 : Nat) "LevelledRing$Value" "c1" "LLevelledRing$Poly;") ∈ TB := tb_of (List.mem_of_getElem? (i := 63) (by decide +kernel)) (by decide +kernel)
theorem t_64 : (Jvm.Cond.lays "LevelledRing$Value" "LevelledRing$Value" "level" "I") ∈ TB := tb_of (List.mem_of_getElem? (i := 64) (by decide +kernel)) (by decide +kernel)
theorem t_65 : (Jvm.Cond.soleField "LevelledRing$Value" "level") ∈ TB := tb_of (List.mem_of_getElem? (i := 65) (by decide +kernel)) (by decide +kernel)
theorem t_66 : (Jvm.Cond.lays "LevelledRing$Value" "LevelledRing$Value" "meter" "J") ∈ TB := tb_of (List.mem_of_getElem? (i := 66) (by decide +kernel)) (by decide +kernel)
theorem t_67 : (Jvm.Cond.soleField "LevelledRing$Value" "meter") ∈ TB := tb_of (List.mem_of_getElem? (i := 67) (by decide +kernel)) (by decide +kernel)
theorem t_68 : (Jvm.Cond.laysFinal "LevelledRing$Value" "LevelledRing$Value" "c0" "LLevelledRing$Poly;") ∈ TB := tb_of (List.mem_of_getElem? (i := 68) (by decide +kernel)) (by decide +kernel)
theorem t_69 : (Jvm.Cond.soleField "LevelledRing$Value" "c0") ∈ TB := tb_of (List.mem_of_getElem? (i := 69) (by decide +kernel)) (by decide +kernel)
theorem t_70 : (Jvm.Cond.laysFinal "LevelledRing$Value" "LevelledRing$Value" "c1" "LLevelledRing$Poly;") ∈ TB := tb_of (List.mem_of_getElem? (i := 70) (by decide +kernel)) (by decide +kernel)
theorem t_71 : (Jvm.Cond.soleField "LevelledRing$Value" "c1") ∈ TB := tb_of (List.mem_of_getElem? (i := 71) (by decide +kernel)) (by decide +kernel)
theorem t_72 : (Jvm.Cond.superclass "LevelledRing$Value" "java/lang/Object") ∈ TB := tb_of (List.mem_of_getElem? (i := 72) (by decide +kernel)) (by decide +kernel)
theorem t_73 : (Jvm.Cond.methodLink "LevelledRing" (57 : Nat) ({ cls := "LevelledRing$Drawing", name := "start", desc := "(I)V" } : Jvm.MethodName)) ∈ TB := tb_of (List.mem_of_getElem? (i := 73) (by decide +kernel)) (by decide +kernel)
theorem t_74 : (Jvm.Cond.instanceMethod ({ cls := "LevelledRing$Drawing", name := "start", desc := "(I)V" } : Jvm.MethodName)) ∈ TB := tb_of (List.mem_of_getElem? (i := 74) (by decide +kernel)) (by decide +kernel)
theorem t_75 : (Jvm.Cond.selects "LevelledRing$Drawing" ({ cls := "LevelledRing$Drawing", name := "start", desc := "(I)V" } : Jvm.MethodName) ({ cls := "LevelledRing$Drawing", name := "start", desc := "(I)V" } : Jvm.MethodName)) ∈ TB := tb_of (List.mem_of_getElem? (i := 75) (by decide +kernel)) (by decide +kernel)
theorem t_76 : (Jvm.Cond.code ({ cls := "LevelledRing$Drawing", name := "start", desc := "(I)V" } : Jvm.MethodName) prog_3_method_2_code (2 : Nat) (Option.none : Option Jvm.ClassFile.FieldType)) ∈ TB := tb_of (List.mem_of_getElem? (i := 76) (by decide +kernel)) (by decide +kernel)
theorem t_77 : (Jvm.Cond.classLink "LevelledRing" (61 : Nat) "LevelledRing$Keys") ∈ TB := tb_of (List.mem_of_getElem? (i := 77) (by decide +kernel)) (by decide +kernel)
theorem t_78 : (Jvm.Cond.instantiable "LevelledRing$Keys" (3 : Nat)) ∈ TB := tb_of (List.mem_of_getElem? (i := 78) (by decide +kernel)) (by decide +kernel)
theorem t_79 : (Jvm.Cond.methodLink "LevelledRing" (63 : Nat) ({ cls := "LevelledRing$Keys", name := "<init>", desc := "(LLevelledRing$Drawing;)V" } : Jvm.MethodName)) ∈ TB := tb_of (List.mem_of_getElem? (i := 79) (by decide +kernel)) (by decide +kernel)
theorem t_80 : (Jvm.Cond.instanceMethod ({ cls := "LevelledRing$Keys", name := "<init>", desc := "(LLevelledRing$Drawing;)V" } : Jvm.MethodName)) ∈ TB := tb_of (List.mem_of_getElem? (i := 80) (by decide +kernel)) (by decide +kernel)
theorem t_81 : (Jvm.Cond.code ({ cls := "LevelledRing$Keys", name := "<init>", desc := "(LLevelledRing$Drawing;)V" } : Jvm.MethodName) prog_5_method_1_code (4 : Nat) (Option.none : Option Jvm.ClassFile.FieldType)) ∈ TB := tb_of (List.mem_of_getElem? (i := 81) (by decide +kernel)) (by decide +kernel)
theorem t_82 : (Jvm.Cond.methodLink "LevelledRing$Keys" (3 : Nat) ({ cls := "java/lang/Object", name := "<init>", desc := "()V" } : Jvm.MethodName)) ∈ TB := tb_of (List.mem_of_getElem? (i := 82) (by decide +kernel)) (by decide +kernel)
theorem t_83 : (Jvm.Cond.classLink "LevelledRing$Keys" (9 : Nat) "LevelledRing$Poly") ∈ TB := tb_of (List.mem_of_getElem? (i := 83) (by decide +kernel)) (by decide +kernel)
theorem t_84 : (Jvm.Cond.methodLink "LevelledRing$Keys" (11 : Nat) ({ cls := "LevelledRing$Poly", name := "<init>", desc := "(Z)V" } : Jvm.MethodName)) ∈ TB := tb_of (List.mem_of_getElem? (i := 84) (by decide +kernel)) (by decide +kernel)
theorem t_86 : (Jvm.Cond.methodLink "LevelledRing$Keys" (27 : Nat) ({ cls := "LevelledRing$Poly", name := "drawSmall", desc := "(LLevelledRing$Drawing;I)V" } : Jvm.MethodName)) ∈ TB := tb_of (List.mem_of_getElem? (i := 86) (by decide +kernel)) (by decide +kernel)
theorem t_87 : (Jvm.Cond.instanceMethod ({ cls := "LevelledRing$Poly", name := "drawSmall", desc := "(LLevelledRing$Drawing;I)V" } : Jvm.MethodName)) ∈ TB := tb_of (List.mem_of_getElem? (i := 87) (by decide +kernel)) (by decide +kernel)
theorem t_88 : (Jvm.Cond.selects "LevelledRing$Poly" ({ cls := "LevelledRing$Poly", name := "drawSmall", desc := "(LLevelledRing$Drawing;I)V" } : Jvm.MethodName) ({ cls := "LevelledRing$Poly", name := "drawSmall", desc := "(LLevelledRing$Drawing;I)V" } : Jvm.MethodName)) ∈ TB := tb_of (List.mem_of_getElem? (i := 88) (by decide +kernel)) (by decide +kernel)
theorem t_89 : (Jvm.Cond.code ({ cls := "LevelledRing$Poly", name := "drawSmall", desc := "(LLevelledRing$Drawing;I)V" } : Jvm.MethodName) prog_7_method_6_code (6 : Nat) (Option.none : Option Jvm.ClassFile.FieldType)) ∈ TB := tb_of (List.mem_of_getElem? (i := 89) (by decide +kernel)) (by decide +kernel)
theorem t_90 : (Jvm.Cond.methodLink "LevelledRing$Poly" (34 : Nat) ({ cls := "LevelledRing$Drawing", name := "draw", desc := "()I" } : Jvm.MethodName)) ∈ TB := tb_of (List.mem_of_getElem? (i := 90) (by decide +kernel)) (by decide +kernel)
theorem t_91 : (Jvm.Cond.instanceMethod ({ cls := "LevelledRing$Drawing", name := "draw", desc := "()I" } : Jvm.MethodName)) ∈ TB := tb_of (List.mem_of_getElem? (i := 91) (by decide +kernel)) (by decide +kernel)
theorem t_92 : (Jvm.Cond.selects "LevelledRing$Drawing" ({ cls := "LevelledRing$Drawing", name := "draw", desc := "()I" } : Jvm.MethodName) ({ cls := "LevelledRing$Drawing", name := "draw", desc := "()I" } : Jvm.MethodName)) ∈ TB := tb_of (List.mem_of_getElem? (i := 92) (by decide +kernel)) (by decide +kernel)
theorem t_93 : (Jvm.Cond.code ({ cls := "LevelledRing$Drawing", name := "draw", desc := "()I" } : Jvm.MethodName) prog_3_method_3_code (1 : Nat) (Option.some Jvm.ClassFile.FieldType.int)) ∈ TB := tb_of (List.mem_of_getElem? (i := 93) (by decide +kernel)) (by decide +kernel)
theorem t_94 : (Jvm.Cond.constant "LevelledRing$Drawing" (13 : Nat) (1664525 : Int32)) ∈ TB := tb_of (List.mem_of_getElem? (i := 94) (by decide +kernel)) (by decide +kernel)
theorem t_95 : (Jvm.Cond.constant "LevelledRing$Drawing" (14 : Nat) (1013904223 : Int32)) ∈ TB := tb_of (List.mem_of_getElem? (i := 95) (by decide +kernel)) (by decide +kernel)
theorem t_99 : (Jvm.Cond.static ({ cls := "LevelledRing", name := "modulo", desc := "(JI)I" } : Jvm.MethodName)) ∈ TB := tb_of (List.mem_of_getElem? (i := 99) (by decide +kernel)) (by decide +kernel)
theorem t_100 : (Jvm.Cond.code ({ cls := "LevelledRing", name := "modulo", desc := "(JI)I" } : Jvm.MethodName) prog_1_method_22_code (4 : Nat) (Option.some Jvm.ClassFile.FieldType.int)) ∈ TB := tb_of (List.mem_of_getElem? (i := 100) (by decide +kernel)) (by decide +kernel)
theorem t_101 : (Jvm.Cond.methodLink "LevelledRing$Keys" (31 : Nat) ({ cls := "LevelledRing$Poly", name := "addProduct", desc := "(ILLevelledRing$Poly;LLevelledRing$Poly;I)V" } : Jvm.MethodName)) ∈ TB := tb_of (List.mem_of_getElem? (i := 101) (by decide +kernel)) (by decide +kernel)
theorem t_102 : (Jvm.Cond.instanceMethod ({ cls := "LevelledRing$Poly", name := "addProduct", desc := "(ILLevelledRing$Poly;LLevelledRing$Poly;I)V" } : Jvm.MethodName)) ∈ TB := tb_of (List.mem_of_getElem? (i := 102) (by decide +kernel)) (by decide +kernel)
theorem t_103 : (Jvm.Cond.selects "LevelledRing$Poly" ({ cls := "LevelledRing$Poly", name := "addProduct", desc := "(ILLevelledRing$Poly;LLevelledRing$Poly;I)V" } : Jvm.MethodName) ({ cls := "LevelledRing$Poly", name := "addProduct", desc := "(ILLevelledRing$Poly;LLevelledRing$Poly;I)V" } : Jvm.MethodName)) ∈ TB := tb_of (List.mem_of_getElem? (i := 103) (by decide +kernel)) (by decide +kernel)
theorem t_104 : (Jvm.Cond.code ({ cls := "LevelledRing$Poly", name := "addProduct", desc := "(ILLevelledRing$Poly;LLevelledRing$Poly;I)V" } : Jvm.MethodName) prog_7_method_11_code (9 : Nat) (Option.none : Option Jvm.ClassFile.FieldType)) ∈ TB := tb_of (List.mem_of_getElem? (i := 104) (by decide +kernel)) (by decide +kernel)
theorem t_105 : (Jvm.Cond.methodLink "LevelledRing$Poly" (44 : Nat) ({ cls := "LevelledRing$Poly", name := "rowModulus", desc := "(I)I" } : Jvm.MethodName)) ∈ TB := tb_of (List.mem_of_getElem? (i := 105) (by decide +kernel)) (by decide +kernel)
theorem t_107 : (Jvm.Cond.instanceMethod ({ cls := "LevelledRing$Poly", name := "rowModulus", desc := "(I)I" } : Jvm.MethodName)) ∈ TB := tb_of (List.mem_of_getElem? (i := 107) (by decide +kernel)) (by decide +kernel)
theorem t_108 : (Jvm.Cond.code ({ cls := "LevelledRing$Poly", name := "rowModulus", desc := "(I)I" } : Jvm.MethodName) prog_7_method_2_code (2 : Nat) (Option.some Jvm.ClassFile.FieldType.int)) ∈ TB := tb_of (List.mem_of_getElem? (i := 108) (by decide +kernel)) (by decide +kernel)
theorem t_109 : (Jvm.Cond.methodLink "LevelledRing$Poly" (48 : Nat) ({ cls := "LevelledRing$Poly", name := "productCoefficient", desc := "(LLevelledRing$Poly;LLevelledRing$Poly;II)J" } : Jvm.MethodName)) ∈ TB := tb_of (List.mem_of_getElem? (i := 109) (by decide +kernel)) (by decide +kernel)
theorem t_110 : (Jvm.Cond.static ({ cls := "LevelledRing$Poly", name := "productCoefficient", desc := "(LLevelledRing$Poly;LLevelledRing$Poly;II)J" } : Jvm.MethodName)) ∈ TB := tb_of (List.mem_of_getElem? (i := 110) (by decide +kernel)) (by decide +kernel)
theorem t_111 : (Jvm.Cond.code ({ cls := "LevelledRing$Poly", name := "productCoefficient", desc := "(LLevelledRing$Poly;LLevelledRing$Poly;II)J" } : Jvm.MethodName) prog_7_method_12_code (7 : Nat) (Option.some Jvm.ClassFile.FieldType.long)) ∈ TB := tb_of (List.mem_of_getElem? (i := 111) (by decide +kernel)) (by decide +kernel)
theorem t_112 : (Jvm.Cond.methodLink "LevelledRing$Keys" (35 : Nat) ({ cls := "LevelledRing$Keys", name := "drawHiddenZero", desc := "(LLevelledRing$Drawing;LLevelledRing$Poly;LLevelledRing$Poly;)V" } : Jvm.MethodName)) ∈ TB := tb_of (List.mem_of_getElem? (i := 112) (by decide +kernel)) (by decide +kernel)
theorem t_113 : (Jvm.Cond.instanceMethod ({ cls := "LevelledRing$Keys", name := "drawHiddenZero", desc := "(LLevelledRing$Drawing;LLevelledRing$Poly;LLevelledRing$Poly;)V" } : Jvm.MethodName)) ∈ TB := tb_of (List.mem_of_getElem? (i := 113) (by decide +kernel)) (by decide +kernel)
theorem t_114 : (Jvm.Cond.selects "LevelledRing$Keys" ({ cls := "LevelledRing$Keys", name := "drawHiddenZero", desc := "(LLevelledRing$Drawing;LLevelledRing$Poly;LLevelledRing$Poly;)V" } : Jvm.MethodName) ({ cls := "LevelledRing$Keys", name := "drawHiddenZero", desc := "(LLevelledRing$Drawing;LLevelledRing$Poly;LLevelledRing$Poly;)V" } : Jvm.MethodName)) ∈ TB := tb_of (List.mem_of_getElem? (i := 114) (by decide +kernel)) (by decide +kernel)
theorem t_115 : (Jvm.Cond.code ({ cls := "LevelledRing$Keys", name := "drawHiddenZero", desc := "(LLevelledRing$Drawing;LLevelledRing$Poly;LLevelledRing$Poly;)V" } : Jvm.MethodName) prog_5_method_2_code (4 : Nat) (Option.none : Option Jvm.ClassFile.FieldType)) ∈ TB := tb_of (List.mem_of_getElem? (i := 115) (by decide +kernel)) (by decide +kernel)
theorem t_116 : (Jvm.Cond.methodLink "LevelledRing$Keys" (43 : Nat) ({ cls := "LevelledRing$Poly", name := "drawUniform", desc := "(LLevelledRing$Drawing;)V" } : Jvm.MethodName)) ∈ TB := tb_of (List.mem_of_getElem? (i := 116) (by decide +kernel)) (by decide +kernel)
theorem t_117 : (Jvm.Cond.instanceMethod ({ cls := "LevelledRing$Poly", name := "drawUniform", desc := "(LLevelledRing$Drawing;)V" } : Jvm.MethodName)) ∈ TB := tb_of (List.mem_of_getElem? (i := 117) (by decide +kernel)) (by decide +kernel)
theorem t_118 : (Jvm.Cond.selects "LevelledRing$Poly" ({ cls := "LevelledRing$Poly", name := "drawUniform", desc := "(LLevelledRing$Drawing;)V" } : Jvm.MethodName) ({ cls := "LevelledRing$Poly", name := "drawUniform", desc := "(LLevelledRing$Drawing;)V" } : Jvm.MethodName)) ∈ TB := tb_of (List.mem_of_getElem? (i := 118) (by decide +kernel)) (by decide +kernel)
theorem t_119 : (Jvm.Cond.code ({ cls := "LevelledRing$Poly", name := "drawUniform", desc := "(LLevelledRing$Drawing;)V" } : Jvm.MethodName) prog_7_method_5_code (4 : Nat) (Option.none : Option Jvm.ClassFile.FieldType)) ∈ TB := tb_of (List.mem_of_getElem? (i := 119) (by decide +kernel)) (by decide +kernel)
theorem t_120 : (Jvm.Cond.methodLink "LevelledRing$Keys" (39 : Nat) ({ cls := "LevelledRing$Poly", name := "addRow", desc := "(LLevelledRing$Poly;I)V" } : Jvm.MethodName)) ∈ TB := tb_of (List.mem_of_getElem? (i := 120) (by decide +kernel)) (by decide +kernel)
theorem t_121 : (Jvm.Cond.instanceMethod ({ cls := "LevelledRing$Poly", name := "addRow", desc := "(LLevelledRing$Poly;I)V" } : Jvm.MethodName)) ∈ TB := tb_of (List.mem_of_getElem? (i := 121) (by decide +kernel)) (by decide +kernel)
theorem t_122 : (Jvm.Cond.selects "LevelledRing$Poly" ({ cls := "LevelledRing$Poly", name := "addRow", desc := "(LLevelledRing$Poly;I)V" } : Jvm.MethodName) ({ cls := "LevelledRing$Poly", name := "addRow", desc := "(LLevelledRing$Poly;I)V" } : Jvm.MethodName)) ∈ TB := tb_of (List.mem_of_getElem? (i := 122) (by decide +kernel)) (by decide +kernel)
theorem t_123 : (Jvm.Cond.code ({ cls := "LevelledRing$Poly", name := "addRow", desc := "(LLevelledRing$Poly;I)V" } : Jvm.MethodName) prog_7_method_8_code (4 : Nat) (Option.none : Option Jvm.ClassFile.FieldType)) ∈ TB := tb_of (List.mem_of_getElem? (i := 123) (by decide +kernel)) (by decide +kernel)
theorem t_124 : (Jvm.Cond.fieldLink "LevelledRing$Keys" (14 : Nat) "LevelledRing$Keys" "secret" "LLevelledRing$Poly;") ∈ TB := tb_of (List.mem_of_getElem? (i := 124) (by decide +kernel)) (by decide +kernel)
theorem t_125 : (Jvm.Cond.fieldLink "LevelledRing" (176 : Nat) "LevelledRing$Keys" "secret" "LLevelledRing$Poly;") ∈ TB := tb_of (List.mem_of_getElem? (i := 125) (by decide +kernel)) (by decide +kernel)
theorem t_126 : (Jvm.Cond.fieldLink "LevelledRing$Keys" (20 : Nat) "LevelledRing$Keys" "a" "[LLevelledRing$Poly;") ∈ TB := tb_of (List.mem_of_getElem? (i := 126) (by decide +kernel)) (by decide +kernel)
theorem t_127 : (Jvm.Cond.fieldLink "LevelledRing" (288 : Nat) "LevelledRing$Keys" "a" "[LLevelledRing$Poly;") ∈ TB := tb_of (List.mem_of_getElem? (i := 127) (by decide +kernel)) (by decide +kernel)
theorem t_128 : (Jvm.Cond.fieldLink "LevelledRing$Keys" (24 : Nat) "LevelledRing$Keys" "b" "[LLevelledRing$Poly;") ∈ TB := tb_of (List.mem_of_getElem? (i := 128) (by decide +kernel)) (by decide +kernel)
theorem t_129 : (Jvm.Cond.fieldLink "LevelledRing" (285 : Nat) "LevelledRing$Keys" "b" "[LLevelledRing$Poly;") ∈ TB := tb_of (List.mem_of_getElem? (i := 129) (by decide +kernel)) (by decide +kernel)
theorem t_130 : (Jvm.Cond.laysFinal "LevelledRing$Keys" "LevelledRing$Keys" "secret" "LLevelledRing$Poly;") ∈ TB := tb_of (List.mem_of_getElem? (i := 130) (by decide +kernel)) (by decide +kernel)
theorem t_131 : (Jvm.Cond.soleField "LevelledRing$Keys" "secret") ∈ TB := tb_of (List.mem_of_getElem? (i := 131) (by decide +kernel)) (by decide +kernel)
theorem t_132 : (Jvm.Cond.laysFinal "LevelledRing$Keys" "LevelledRing$Keys" "a" "[LLevelledRing$Poly;") ∈ TB := tb_of (List.mem_of_getElem? (i := 132) (by decide +kernel)) (by decide +kernel)
theorem t_133 : (Jvm.Cond.soleField "LevelledRing$Keys" "a") ∈ TB := tb_of (List.mem_of_getElem? (i := 133) (by decide +kernel)) (by decide +kernel)
theorem t_134 : (Jvm.Cond.laysFinal "LevelledRing$Keys" "LevelledRing$Keys" "b" "[LLevelledRing$Poly;") ∈ TB := tb_of (List.mem_of_getElem? (i := 134) (by decide +kernel)) (by decide +kernel)
theorem t_135 : (Jvm.Cond.soleField "LevelledRing$Keys" "b") ∈ TB := tb_of (List.mem_of_getElem? (i := 135) (by decide +kernel)) (by decide +kernel)
theorem t_136 : (Jvm.Cond.superclass "LevelledRing$Keys" "java/lang/Object") ∈ TB := tb_of (List.mem_of_getElem? (i := 136) (by decide +kernel)) (by decide +kernel)
theorem t_137 : (Jvm.Cond.instantiable "LevelledRing$Gate" (6 : Nat)) ∈ TB := tb_of (List.mem_of_getElem? (i := 137) (by decide +kernel)) (by decide +kernel)
theorem t_139 : (Jvm.Cond.instanceMethod ({ cls := "LevelledRing$Gate", name := "<init>", desc := "()V" } : Jvm.MethodName)) ∈ TB := tb_of (List.mem_of_getElem? (i := 139) (by decide +kernel)) (by decide +kernel)
theorem t_140 : (Jvm.Cond.code ({ cls := "LevelledRing$Gate", name := "<init>", desc := "()V" } : Jvm.MethodName) prog_4_method_1_code (1 : Nat) (Option.none : Option Jvm.ClassFile.FieldType)) ∈ TB := tb_of (List.mem_of_getElem? (i := 140) (by decide +kernel)) (by decide +kernel)
theorem t_141 : (Jvm.Cond.methodLink "LevelledRing$Gate" (3 : Nat) ({ cls := "java/lang/Object", name := "<init>", desc := "()V" } : Jvm.MethodName)) ∈ TB := tb_of (List.mem_of_getElem? (i := 141) (by decide +kernel)) (by decide +kernel)
theorem t_142 : (Jvm.Cond.fieldLink "LevelledRing$Gate" (9 : Nat) "LevelledRing$Kind" "INPUT" "LLevelledRing$Kind;") ∈ TB := tb_of (List.mem_of_getElem? (i := 142) (by decide +kernel)) (by decide +kernel)
theorem t_144 : (Jvm.Cond.classLink "LevelledRing$Gate" (30 : Nat) "LevelledRing$Poly") ∈ TB := tb_of (List.mem_of_getElem? (i := 144) (by decide +kernel)) (by decide +kernel)
theorem t_145 : (Jvm.Cond.methodLink "LevelledRing$Gate" (32 : Nat) ({ cls := "LevelledRing$Poly", name := "<init>", desc := "(Z)V" } : Jvm.MethodName)) ∈ TB := tb_of (List.mem_of_getElem? (i := 145) (by decide +kernel)) (by decide +kernel)
theorem t_146 : (Jvm.Cond.classLink "LevelledRing$Gate" (39 : Nat) "LevelledRing$Value") ∈ TB := tb_of (List.mem_of_getElem? (i := 146) (by decide +kernel)) (by decide +kernel)
theorem t_148 : (Jvm.Cond.fieldLink "LevelledRing$Gate" (15 : Nat) "LevelledRing$Gate" "kind" "LLevelledRing$Kind;") ∈ TB := tb_of (List.mem_of_getElem? (i := 148) (by decide +kernel)) (by decide +kernel)
theorem t_149 : (Jvm.Cond.fieldLink "LevelledRing" (190 : Nat) "LevelledRing$Gate" "kind" "LLevelledRing$Kind;") ∈ TB := tb_of (List.mem_of_getElem? (i := 149) (by decide +kernel)) (by decide +kernel)
theorem t_150 : (Jvm.Cond.fieldLink "LevelledRing$Gate" (20 : Nat) "LevelledRing$Gate" "a" "I") ∈ TB := tb_of (List.mem_of_getElem? (i := 150) (by decide +kernel)) (by decide +kernel)
theorem t_151 : (Jvm.Cond.fieldLink "LevelledRing" (229 : Nat) "LevelledRing$Gate" "a" "I") ∈ TB := tb_of (List.mem_of_getElem? (i := 151) (by decide +kernel)) (by decide +kernel)
theorem t_152 : (Jvm.Cond.fieldLink "LevelledRing$Gate" (24 : Nat) "LevelledRing$Gate" "b" "I") ∈ TB := tb_of (List.mem_of_getElem? (i := 152) (by decide +kernel)) (by decide +kernel)
theorem t_153 : (Jvm.Cond.fieldLink "LevelledRing" (254 : Nat) "LevelledRing$Gate" "b" "I") ∈ TB := tb_of (List.mem_of_getElem? (i := 153) (by decide +kernel)) (by decide +kernel)
theorem t_154 : (Jvm.Cond.fieldLink "LevelledRing$Gate" (27 : Nat) "LevelledRing$Gate" "number" "I") ∈ TB := tb_of (List.mem_of_getElem? (i := 154) (by decide +kernel)) (by decide +kernel)
theorem t_155 : (Jvm.Cond.fieldLink "LevelledRing" (207 : Nat) "LevelledRing$Gate" "number" "I") ∈ TB := tb_of (List.mem_of_getElem? (i := 155) (by decide +kernel)) (by decide +kernel)
theorem t_156 : (Jvm.Cond.fieldLink "LevelledRing$Gate" (35 : Nat) "LevelledRing$Gate" "plain" "LLevelledRing$Poly;") ∈ TB := tb_of (List.mem_of_getElem? (i := 156) (by decide +kernel)) (by decide +kernel)
theorem t_157 : (Jvm.Cond.fieldLink "LevelledRing" (93 : Nat) "LevelledRing$Gate" "plain" "LLevelledRing$Poly;") ∈ TB := tb_of (List.mem_of_getElem? (i := 157) (by decide +kernel)) (by decide +kernel)
theorem t_158 : (Jvm.Cond.fieldLink "LevelledRing$Gate" (42 : Nat) "LevelledRing$Gate" "value" "LLevelledRing$Value;") ∈ TB := tb_of (List.mem_of_getElem? (i := 158) (by decide +kernel)) (by decide +kernel)
theorem t_159 : (Jvm.Cond.fieldLink "LevelledRing" (139 : Nat) "LevelledRing$Gate" "value" "LLevelledRing$Value;") ∈ TB := tb_of (List.mem_of_getElem? (i := 159) (by decide +kernel)) (by decide +kernel)
theorem t_160 : (Jvm.Cond.lays "LevelledRing$Gate" "LevelledRing$Gate" "kind" "LLevelledRing$Kind;") ∈ TB := tb_of (List.mem_of_getElem? (i := 160) (by decide +kernel)) (by decide +kernel)
theorem t_161 : (Jvm.Cond.soleField "LevelledRing$Gate" "kind") ∈ TB := tb_of (List.mem_of_getElem? (i := 161) (by decide +kernel)) (by decide +kernel)
theorem t_162 : (Jvm.Cond.lays "LevelledRing$Gate" "LevelledRing$Gate" "a" "I") ∈ TB := tb_of (List.mem_of_getElem? (i := 162) (by decide +kernel)) (by decide +kernel)
theorem t_163 : (Jvm.Cond.soleField "LevelledRing$Gate" "a") ∈ TB := tb_of (List.mem_of_getElem? (i := 163) (by decide +kernel)) (by decide +kernel)
theorem t_164 : (Jvm.Cond.lays "LevelledRing$Gate" "LevelledRing$Gate" "b" "I") ∈ TB := tb_of (List.mem_of_getElem? (i := 164) (by decide +kernel)) (by decide +kernel)
theorem t_165 : (Jvm.Cond.soleField "LevelledRing$Gate" "b") ∈ TB := tb_of (List.mem_of_getElem? (i := 165) (by decide +kernel)) (by decide +kernel)
theorem t_166 : (Jvm.Cond.lays "LevelledRing$Gate" "LevelledRing$Gate" "number" "I") ∈ TB := tb_of (List.mem_of_getElem? (i := 166) (by decide +kernel)) (by decide +kernel)
theorem t_167 : (Jvm.Cond.soleField "LevelledRing$Gate" "number") ∈ TB := tb_of (List.mem_of_getElem? (i := 167) (by decide +kernel)) (by decide +kernel)
theorem t_168 : (Jvm.Cond.laysFinal "LevelledRing$Gate" "LevelledRing$Gate" "plain" "LLevelledRing$Poly;") ∈ TB := tb_of (List.mem_of_getElem? (i := 168) (by decide +kernel)) (by decide +kernel)
theorem t_169 : (Jvm.Cond.soleField "LevelledRing$Gate" "plain") ∈ TB := tb_of (List.mem_of_getElem? (i := 169) (by decide +kernel)) (by decide +kernel)
theorem t_170 : (Jvm.Cond.laysFinal "LevelledRing$Gate" "LevelledRing$Gate" "value" "LLevelledRing$Value;") ∈ TB := tb_of (List.mem_of_getElem? (i := 170) (by decide +kernel)) (by decide +kernel)
theorem t_171 : (Jvm.Cond.soleField "LevelledRing$Gate" "value") ∈ TB := tb_of (List.mem_of_getElem? (i := 171) (by decide +kernel)) (by decide +kernel)
theorem t_172 : (Jvm.Cond.superclass "LevelledRing$Gate" "java/lang/Object") ∈ TB := tb_of (List.mem_of_getElem? (i := 172) (by decide +kernel)) (by decide +kernel)
theorem t_173 : (Jvm.Cond.fieldLink "LevelledRing" (12 : Nat) "LevelledRing" "drawing" "LLevelledRing$Drawing;") ∈ TB := tb_of (List.mem_of_getElem? (i := 173) (by decide +kernel)) (by decide +kernel)
theorem t_174 : (Jvm.Cond.fieldLink "LevelledRing" (66 : Nat) "LevelledRing" "keys" "LLevelledRing$Keys;") ∈ TB := tb_of (List.mem_of_getElem? (i := 174) (by decide +kernel)) (by decide +kernel)
theorem t_175 : (Jvm.Cond.fieldLink "LevelledRing" (21 : Nat) "LevelledRing" "message" "LLevelledRing$Poly;") ∈ TB := tb_of (List.mem_of_getElem? (i := 175) (by decide +kernel)) (by decide +kernel)
theorem t_176 : (Jvm.Cond.fieldLink "LevelledRing" (27 : Nat) "LevelledRing" "gates" "[LLevelledRing$Gate;") ∈ TB := tb_of (List.mem_of_getElem? (i := 176) (by decide +kernel)) (by decide +kernel)
theorem t_177 : (Jvm.Cond.fieldLink "LevelledRing" (31 : Nat) "LevelledRing" "gateCount" "I") ∈ TB := tb_of (List.mem_of_getElem? (i := 177) (by decide +kernel)) (by decide +kernel)
theorem t_178 : (Jvm.Cond.fieldLink "LevelledRing" (35 : Nat) "LevelledRing" "valueCount" "I") ∈ TB := tb_of (List.mem_of_getElem? (i := 178) (by decide +kernel)) (by decide +kernel)
theorem t_179 : (Jvm.Cond.fieldLink "LevelledRing" (41 : Nat) "LevelledRing" "left" "LLevelledRing$Value;") ∈ TB := tb_of (List.mem_of_getElem? (i := 179) (by decide +kernel)) (by decide +kernel)
theorem t_180 : (Jvm.Cond.fieldLink "LevelledRing" (45 : Nat) "LevelledRing" "right" "LLevelledRing$Value;") ∈ TB := tb_of (List.mem_of_getElem? (i := 180) (by decide +kernel)) (by decide +kernel)
theorem t_181 : (Jvm.Cond.fieldLink "LevelledRing" (48 : Nat) "LevelledRing" "square" "LLevelledRing$Poly;") ∈ TB := tb_of (List.mem_of_getElem? (i := 181) (by decide +kernel)) (by decide +kernel)
theorem t_182 : (Jvm.Cond.fieldLink "LevelledRing" (51 : Nat) "LevelledRing" "digit" "LLevelledRing$Poly;") ∈ TB := tb_of (List.mem_of_getElem? (i := 182) (by decide +kernel)) (by decide +kernel)
theorem t_183 : (Jvm.Cond.fieldLink "LevelledRing" (54 : Nat) "LevelledRing" "opened" "LLevelledRing$Poly;") ∈ TB := tb_of (List.mem_of_getElem? (i := 183) (by decide +kernel)) (by decide +kernel)
theorem t_184 : (Jvm.Cond.laysFinal "LevelledRing" "LevelledRing" "drawing" "LLevelledRing$Drawing;") ∈ TB := tb_of (List.mem_of_getElem? (i := 184) (by decide +kernel)) (by decide +kernel)
theorem t_185 : (Jvm.Cond.soleField "LevelledRing" "drawing") ∈ TB := tb_of (List.mem_of_getElem? (i := 185) (by decide +kernel)) (by decide +kernel)
theorem t_186 : (Jvm.Cond.laysFinal "LevelledRing" "LevelledRing" "keys" "LLevelledRing$Keys;") ∈ TB := tb_of (List.mem_of_getElem? (i := 186) (by decide +kernel)) (by decide +kernel)
theorem t_187 : (Jvm.Cond.soleField "LevelledRing" "keys") ∈ TB := tb_of (List.mem_of_getElem? (i := 187) (by decide +kernel)) (by decide +kernel)
theorem t_188 : (Jvm.Cond.laysFinal "LevelledRing" "LevelledRing" "message" "LLevelledRing$Poly;") ∈ TB := tb_of (List.mem_of_getElem? (i := 188) (by decide +kernel)) (by decide +kernel)
theorem t_189 : (Jvm.Cond.soleField "LevelledRing" "message") ∈ TB := tb_of (List.mem_of_getElem? (i := 189) (by decide +kernel)) (by decide +kernel)
theorem t_190 : (Jvm.Cond.laysFinal "LevelledRing" "LevelledRing" "gates" "[LLevelledRing$Gate;") ∈ TB := tb_of (List.mem_of_getElem? (i := 190) (by decide +kernel)) (by decide +kernel)
theorem t_191 : (Jvm.Cond.soleField "LevelledRing" "gates") ∈ TB := tb_of (List.mem_of_getElem? (i := 191) (by decide +kernel)) (by decide +kernel)
theorem t_192 : (Jvm.Cond.lays "LevelledRing" "LevelledRing" "gateCount" "I") ∈ TB := tb_of (List.mem_of_getElem? (i := 192) (by decide +kernel)) (by decide +kernel)
theorem t_193 : (Jvm.Cond.soleField "LevelledRing" "gateCount") ∈ TB := tb_of (List.mem_of_getElem? (i := 193) (by decide +kernel)) (by decide +kernel)
theorem t_194 : (Jvm.Cond.lays "LevelledRing" "LevelledRing" "valueCount" "I") ∈ TB := tb_of (List.mem_of_getElem? (i := 194) (by decide +kernel)) (by decide +kernel)
theorem t_195 : (Jvm.Cond.soleField "LevelledRing" "valueCount") ∈ TB := tb_of (List.mem_of_getElem? (i := 195) (by decide +kernel)) (by decide +kernel)
theorem t_196 : (Jvm.Cond.laysFinal "LevelledRing" "LevelledRing" "left" "LLevelledRing$Value;") ∈ TB := tb_of (List.mem_of_getElem? (i := 196) (by decide +kernel)) (by decide +kernel)
theorem t_197 : (Jvm.Cond.soleField "LevelledRing" "left") ∈ TB := tb_of (List.mem_of_getElem? (i := 197) (by decide +kernel)) (by decide +kernel)
theorem t_198 : (Jvm.Cond.laysFinal "LevelledRing" "LevelledRing" "right" "LLevelledRing$Value;") ∈ TB := tb_of (List.mem_of_getElem? (i := 198) (by decide +kernel)) (by decide +kernel)
theorem t_199 : (Jvm.Cond.soleField "LevelledRing" "right") ∈ TB := tb_of (List.mem_of_getElem? (i := 199) (by decide +kernel)) (by decide +kernel)
theorem t_200 : (Jvm.Cond.laysFinal "LevelledRing" "LevelledRing" "square" "LLevelledRing$Poly;") ∈ TB := tb_of (List.mem_of_getElem? (i := 200) (by decide +kernel)) (by decide +kernel)
theorem t_201 : (Jvm.Cond.soleField "LevelledRing" "square") ∈ TB := tb_of (List.mem_of_getElem? (i := 201) (by decide +kernel)) (by decide +kernel)
theorem t_202 : (Jvm.Cond.laysFinal "LevelledRing" "LevelledRing" "digit" "LLevelledRing$Poly;") ∈ TB := tb_of (List.mem_of_getElem? (i := 202) (by decide +kernel)) (by decide +kernel)
theorem t_203 : (Jvm.Cond.soleField "LevelledRing" "digit") ∈ TB := tb_of (List.mem_of_getElem? (i := 203) (by decide +kernel)) (by decide +kernel)
theorem t_204 : (Jvm.Cond.laysFinal "LevelledRing" "LevelledRing" "opened" "LLevelledRing$Poly;") ∈ TB := tb_of (List.mem_of_getElem? (i := 204) (by decide +kernel)) (by decide +kernel)
theorem t_205 : (Jvm.Cond.soleField "LevelledRing" "opened") ∈ TB := tb_of (List.mem_of_getElem? (i := 205) (by decide +kernel)) (by decide +kernel)
theorem t_206 : (Jvm.Cond.superclass "LevelledRing" "java/lang/Object") ∈ TB := tb_of (List.mem_of_getElem? (i := 206) (by decide +kernel)) (by decide +kernel)
theorem t_207 : (Jvm.Cond.methodLink "LevelledRingLaw" (21 : Nat) ({ cls := "LevelledRing", name := "put", desc := "(II)Z" } : Jvm.MethodName)) ∈ TB := tb_of (List.mem_of_getElem? (i := 207) (by decide +kernel)) (by decide +kernel)
theorem t_208 : (Jvm.Cond.instanceMethod ({ cls := "LevelledRing", name := "put", desc := "(II)Z" } : Jvm.MethodName)) ∈ TB := tb_of (List.mem_of_getElem? (i := 208) (by decide +kernel)) (by decide +kernel)
theorem t_209 : (Jvm.Cond.selects "LevelledRing" ({ cls := "LevelledRing", name := "put", desc := "(II)Z" } : Jvm.MethodName) ({ cls := "LevelledRing", name := "put", desc := "(II)Z" } : Jvm.MethodName)) ∈ TB := tb_of (List.mem_of_getElem? (i := 209) (by decide +kernel)) (by decide +kernel)
theorem t_210 : (Jvm.Cond.code ({ cls := "LevelledRing", name := "put", desc := "(II)Z" } : Jvm.MethodName) prog_1_method_2_code (3 : Nat) (Option.some Jvm.ClassFile.FieldType.boolean)) ∈ TB := tb_of (List.mem_of_getElem? (i := 210) (by decide +kernel)) (by decide +kernel)
theorem t_211 : (Jvm.Cond.methodLink "LevelledRing" (71 : Nat) ({ cls := "LevelledRing", name := "isCoefficient", desc := "(I)Z" } : Jvm.MethodName)) ∈ TB := tb_of (List.mem_of_getElem? (i := 211) (by decide +kernel)) (by decide +kernel)
theorem t_212 : (Jvm.Cond.static ({ cls := "LevelledRing", name := "isCoefficient", desc := "(I)Z" } : Jvm.MethodName)) ∈ TB := tb_of (List.mem_of_getElem? (i := 212) (by decide +kernel)) (by decide +kernel)
theorem t_213 : (Jvm.Cond.code ({ cls := "LevelledRing", name := "isCoefficient", desc := "(I)Z" } : Jvm.MethodName) prog_1_method_19_code (1 : Nat) (Option.some Jvm.ClassFile.FieldType.boolean)) ∈ TB := tb_of (List.mem_of_getElem? (i := 213) (by decide +kernel)) (by decide +kernel)
theorem t_214 : (Jvm.Cond.methodLink "LevelledRing" (79 : Nat) ({ cls := "LevelledRing", name := "modulo", desc := "(JI)I" } : Jvm.MethodName)) ∈ TB := tb_of (List.mem_of_getElem? (i := 214) (by decide +kernel)) (by decide +kernel)
theorem t_215 : (Jvm.Cond.methodLink "LevelledRingLaw" (26 : Nat) ({ cls := "LevelledRing", name := "input", desc := "(I)I" } : Jvm.MethodName)) ∈ TB := tb_of (List.mem_of_getElem? (i := 215) (by decide +kernel)) (by decide +kernel)
theorem t_216 : (Jvm.Cond.instanceMethod ({ cls := "LevelledRing", name := "input", desc := "(I)I" } : Jvm.MethodName)) ∈ TB := tb_of (List.mem_of_getElem? (i := 216) (by decide +kernel)) (by decide +kernel)
theorem t_217 : (Jvm.Cond.selects "LevelledRing" ({ cls := "LevelledRing", name := "input", desc := "(I)I" } : Jvm.MethodName) ({ cls := "LevelledRing", name := "input", desc := "(I)I" } : Jvm.MethodName)) ∈ TB := tb_of (List.mem_of_getElem? (i := 217) (by decide +kernel)) (by decide +kernel)
theorem t_218 : (Jvm.Cond.code ({ cls := "LevelledRing", name := "input", desc := "(I)I" } : Jvm.MethodName) prog_1_method_3_code (3 : Nat) (Option.some Jvm.ClassFile.FieldType.int)) ∈ TB := tb_of (List.mem_of_getElem? (i := 218) (by decide +kernel)) (by decide +kernel)
theorem t_219 : (Jvm.Cond.fieldLink "LevelledRing" (83 : Nat) "LevelledRing$Kind" "INPUT" "LLevelledRing$Kind;") ∈ TB := tb_of (List.mem_of_getElem? (i := 219) (by decide +kernel)) (by decide +kernel)
theorem t_220 : (Jvm.Cond.methodLink "LevelledRing" (89 : Nat) ({ cls := "LevelledRing$Gate", name := "become", desc := "(LLevelledRing$Kind;III)V" } : Jvm.MethodName)) ∈ TB := tb_of (List.mem_of_getElem? (i := 220) (by decide +kernel)) (by decide +kernel)
theorem t_221 : (Jvm.Cond.instanceMethod ({ cls := "LevelledRing$Gate", name := "become", desc := "(LLevelledRing$Kind;III)V" } : Jvm.MethodName)) ∈ TB := tb_of (List.mem_of_getElem? (i := 221) (by decide +kernel)) (by decide +kernel)
theorem t_222 : (Jvm.Cond.selects "LevelledRing$Gate" ({ cls := "LevelledRing$Gate", name := "become", desc := "(LLevelledRing$Kind;III)V" } : Jvm.MethodName) ({ cls := "LevelledRing$Gate", name := "become", desc := "(LLevelledRing$Kind;III)V" } : Jvm.MethodName)) ∈ TB := tb_of (List.mem_of_getElem? (i := 222) (by decide +kernel)) (by decide +kernel)
theorem t_223 : (Jvm.Cond.code ({ cls := "LevelledRing$Gate", name := "become", desc := "(LLevelledRing$Kind;III)V" } : Jvm.MethodName) prog_4_method_2_code (5 : Nat) (Option.none : Option Jvm.ClassFile.FieldType)) ∈ TB := tb_of (List.mem_of_getElem? (i := 223) (by decide +kernel)) (by decide +kernel)
theorem t_224 : (Jvm.Cond.methodLink "LevelledRing" (96 : Nat) ({ cls := "LevelledRing$Poly", name := "copyFrom", desc := "(LLevelledRing$Poly;)V" } : Jvm.MethodName)) ∈ TB := tb_of (List.mem_of_getElem? (i := 224) (by decide +kernel)) (by decide +kernel)
theorem t_225 : (Jvm.Cond.instanceMethod ({ cls := "LevelledRing$Poly", name := "copyFrom", desc := "(LLevelledRing$Poly;)V" } : Jvm.MethodName)) ∈ TB := tb_of (List.mem_of_getElem? (i := 225) (by decide +kernel)) (by decide +kernel)
theorem t_226 : (Jvm.Cond.selects "LevelledRing$Poly" ({ cls := "LevelledRing$Poly", name := "copyFrom", desc := "(LLevelledRing$Poly;)V" } : Jvm.MethodName) ({ cls := "LevelledRing$Poly", name := "copyFrom", desc := "(LLevelledRing$Poly;)V" } : Jvm.MethodName)) ∈ TB := tb_of (List.mem_of_getElem? (i := 226) (by decide +kernel)) (by decide +kernel)
theorem t_227 : (Jvm.Cond.code ({ cls := "LevelledRing$Poly", name := "copyFrom", desc := "(LLevelledRing$Poly;)V" } : Jvm.MethodName) prog_7_method_4_code (2 : Nat) (Option.none : Option Jvm.ClassFile.FieldType)) ∈ TB := tb_of (List.mem_of_getElem? (i := 227) (by decide +kernel)) (by decide +kernel)
theorem t_228 : (Jvm.Cond.methodLink "LevelledRing$Poly" (22 : Nat) ({ cls := "java/lang/Math", name := "min", desc := "(II)I" } : Jvm.MethodName)) ∈ TB := tb_of (List.mem_of_getElem? (i := 228) (by decide +kernel)) (by decide +kernel)
theorem t_229 : (Jvm.Cond.static ({ cls := "java/lang/Math", name := "min", desc := "(II)I" } : Jvm.MethodName)) ∈ TB := tb_of (List.mem_of_getElem? (i := 229) (by decide +kernel)) (by decide +kernel)
theorem t_230 : (Jvm.Cond.code ({ cls := "java/lang/Math", name := "min", desc := "(II)I" } : Jvm.MethodName) prog_12_method_69_code (2 : Nat) (Option.some Jvm.ClassFile.FieldType.int)) ∈ TB := tb_of (List.mem_of_getElem? (i := 230) (by decide +kernel)) (by decide +kernel)
theorem t_231 : (Jvm.Cond.methodLink "LevelledRing$Poly" (28 : Nat) ({ cls := "java/lang/System", name := "arraycopy", desc := "(Ljava/lang/Object;ILjava/lang/Object;II)V" } : Jvm.MethodName)) ∈ TB := tb_of (List.mem_of_getElem? (i := 231) (by decide +kernel)) (by decide +kernel)
theorem t_232 : (Jvm.Cond.static ({ cls := "java/lang/System", name := "arraycopy", desc := "(Ljava/lang/Object;ILjava/lang/Object;II)V" } : Jvm.MethodName)) ∈ TB := tb_of (List.mem_of_getElem? (i := 232) (by decide +kernel)) (by decide +kernel)
theorem t_233 : (Jvm.Cond.native ({ cls := "java/lang/System", name := "arraycopy", desc := "(Ljava/lang/Object;ILjava/lang/Object;II)V" } : Jvm.MethodName)) ∈ TB := tb_of (List.mem_of_getElem? (i := 233) (by decide +kernel)) (by decide +kernel)
theorem t_234 : (Jvm.Cond.methodLink "LevelledRing" (100 : Nat) ({ cls := "LevelledRing", name := "keepGate", desc := "()I" } : Jvm.MethodName)) ∈ TB := tb_of (List.mem_of_getElem? (i := 234) (by decide +kernel)) (by decide +kernel)
theorem t_236 : (Jvm.Cond.instanceMethod ({ cls := "LevelledRing", name := "keepGate", desc := "()I" } : Jvm.MethodName)) ∈ TB := tb_of (List.mem_of_getElem? (i := 236) (by decide +kernel)) (by decide +kernel)
theorem t_237 : (Jvm.Cond.code ({ cls := "LevelledRing", name := "keepGate", desc := "()I" } : Jvm.MethodName) prog_1_method_25_code (1 : Nat) (Option.some Jvm.ClassFile.FieldType.int)) ∈ TB := tb_of (List.mem_of_getElem? (i := 237) (by decide +kernel)) (by decide +kernel)
theorem t_238 : (Jvm.Cond.methodLink "LevelledRingLaw" (31 : Nat) ({ cls := "LevelledRing", name := "sum", desc := "(II)I" } : Jvm.MethodName)) ∈ TB := tb_of (List.mem_of_getElem? (i := 238) (by decide +kernel)) (by decide +kernel)
theorem t_239 : (Jvm.Cond.instanceMethod ({ cls := "LevelledRing", name := "sum", desc := "(II)I" } : Jvm.MethodName)) ∈ TB := tb_of (List.mem_of_getElem? (i := 239) (by decide +kernel)) (by decide +kernel)
theorem t_240 : (Jvm.Cond.selects "LevelledRing" ({ cls := "LevelledRing", name := "sum", desc := "(II)I" } : Jvm.MethodName) ({ cls := "LevelledRing", name := "sum", desc := "(II)I" } : Jvm.MethodName)) ∈ TB := tb_of (List.mem_of_getElem? (i := 240) (by decide +kernel)) (by decide +kernel)
theorem t_241 : (Jvm.Cond.code ({ cls := "LevelledRing", name := "sum", desc := "(II)I" } : Jvm.MethodName) prog_1_method_4_code (3 : Nat) (Option.some Jvm.ClassFile.FieldType.int)) ∈ TB := tb_of (List.mem_of_getElem? (i := 241) (by decide +kernel)) (by decide +kernel)
theorem t_242 : (Jvm.Cond.fieldLink "LevelledRing" (104 : Nat) "LevelledRing$Kind" "SUM" "LLevelledRing$Kind;") ∈ TB := tb_of (List.mem_of_getElem? (i := 242) (by decide +kernel)) (by decide +kernel)
theorem t_244 : (Jvm.Cond.methodLink "LevelledRing" (107 : Nat) ({ cls := "LevelledRing", name := "addGate", desc := "(LLevelledRing$Kind;III)I" } : Jvm.MethodName)) ∈ TB := tb_of (List.mem_of_getElem? (i := 244) (by decide +kernel)) (by decide +kernel)
theorem t_246 : (Jvm.Cond.instanceMethod ({ cls := "LevelledRing", name := "addGate", desc := "(LLevelledRing$Kind;III)I" } : Jvm.MethodName)) ∈ TB := tb_of (List.mem_of_getElem? (i := 246) (by decide +kernel)) (by decide +kernel)
theorem t_247 : (Jvm.Cond.code ({ cls := "LevelledRing", name := "addGate", desc := "(LLevelledRing$Kind;III)I" } : Jvm.MethodName) prog_1_method_24_code (6 : Nat) (Option.some Jvm.ClassFile.FieldType.int)) ∈ TB := tb_of (List.mem_of_getElem? (i := 247) (by decide +kernel)) (by decide +kernel)
theorem t_248 : (Jvm.Cond.methodLink "LevelledRing" (123 : Nat) ({ cls := "LevelledRing", name := "isGate", desc := "(I)Z" } : Jvm.MethodName)) ∈ TB := tb_of (List.mem_of_getElem? (i := 248) (by decide +kernel)) (by decide +kernel)
theorem t_250 : (Jvm.Cond.instanceMethod ({ cls := "LevelledRing", name := "isGate", desc := "(I)Z" } : Jvm.MethodName)) ∈ TB := tb_of (List.mem_of_getElem? (i := 250) (by decide +kernel)) (by decide +kernel)
theorem t_251 : (Jvm.Cond.code ({ cls := "LevelledRing", name := "isGate", desc := "(I)Z" } : Jvm.MethodName) prog_1_method_20_code (2 : Nat) (Option.some Jvm.ClassFile.FieldType.boolean)) ∈ TB := tb_of (List.mem_of_getElem? (i := 251) (by decide +kernel)) (by decide +kernel)
theorem t_252 : (Jvm.Cond.methodLink "LevelledRing" (181 : Nat) ({ cls := "LevelledRing", name := "setPlain", desc := "(LLevelledRing$Gate;LLevelledRing$Poly;LLevelledRing$Poly;)V" } : Jvm.MethodName)) ∈ TB := tb_of (List.mem_of_getElem? (i := 252) (by decide +kernel)) (by decide +kernel)
theorem t_253 : (Jvm.Cond.static ({ cls := "LevelledRing", name := "setPlain", desc := "(LLevelledRing$Gate;LLevelledRing$Poly;LLevelledRing$Poly;)V" } : Jvm.MethodName)) ∈ TB := tb_of (List.mem_of_getElem? (i := 253) (by decide +kernel)) (by decide +kernel)
theorem t_254 : (Jvm.Cond.code ({ cls := "LevelledRing", name := "setPlain", desc := "(LLevelledRing$Gate;LLevelledRing$Poly;LLevelledRing$Poly;)V" } : Jvm.MethodName) prog_1_method_26_code (3 : Nat) (Option.none : Option Jvm.ClassFile.FieldType)) ∈ TB := tb_of (List.mem_of_getElem? (i := 254) (by decide +kernel)) (by decide +kernel)
theorem t_255 : (Jvm.Cond.fieldLink "LevelledRing" (185 : Nat) "LevelledRing$1" "$SwitchMap$LevelledRing$Kind" "[I") ∈ TB := tb_of (List.mem_of_getElem? (i := 255) (by decide +kernel)) (by decide +kernel)
theorem t_257 : (Jvm.Cond.methodLink "LevelledRing" (193 : Nat) ({ cls := "LevelledRing$Kind", name := "ordinal", desc := "()I" } : Jvm.MethodName)) ∈ TB := tb_of (List.mem_of_getElem? (i := 257) (by decide +kernel)) (by decide +kernel)
theorem t_258 : (Jvm.Cond.sameMethod "LevelledRing$Kind" "java/lang/Enum" "ordinal" "()I") ∈ TB := tb_of (List.mem_of_getElem? (i := 258) (by decide +kernel)) (by decide +kernel)
theorem t_260 : (Jvm.Cond.selects "LevelledRing$Kind" ({ cls := "LevelledRing$Kind", name := "ordinal", desc := "()I" } : Jvm.MethodName) ({ cls := "java/lang/Enum", name := "ordinal", desc := "()I" } : Jvm.MethodName)) ∈ TB := tb_of (List.mem_of_getElem? (i := 260) (by decide +kernel)) (by decide +kernel)
theorem t_261 : (Jvm.Cond.instanceMethod ({ cls := "java/lang/Enum", name := "ordinal", desc := "()I" } : Jvm.MethodName)) ∈ TB := tb_of (List.mem_of_getElem? (i := 261) (by decide +kernel)) (by decide +kernel)
theorem t_262 : (Jvm.Cond.code ({ cls := "java/lang/Enum", name := "ordinal", desc := "()I" } : Jvm.MethodName) prog_11_method_2_code (1 : Nat) (Option.some Jvm.ClassFile.FieldType.int)) ∈ TB := tb_of (List.mem_of_getElem? (i := 262) (by decide +kernel)) (by decide +kernel)
theorem t_263 : (Jvm.Cond.methodLink "LevelledRing" (196 : Nat) ({ cls := "LevelledRing$Poly", name := "setSum", desc := "(LLevelledRing$Poly;ILLevelledRing$Poly;I)V" } : Jvm.MethodName)) ∈ TB := tb_of (List.mem_of_getElem? (i := 263) (by decide +kernel)) (by decide +kernel)
theorem t_264 : (Jvm.Cond.instanceMethod ({ cls := "LevelledRing$Poly", name := "setSum", desc := "(LLevelledRing$Poly;ILLevelledRing$Poly;I)V" } : Jvm.MethodName)) ∈ TB := tb_of (List.mem_of_getElem? (i := 264) (by decide +kernel)) (by decide +kernel)
theorem t_265 : (Jvm.Cond.selects "LevelledRing$Poly" ({ cls := "LevelledRing$Poly", name := "setSum", desc := "(LLevelledRing$Poly;ILLevelledRing$Poly;I)V" } : Jvm.MethodName) ({ cls := "LevelledRing$Poly", name := "setSum", desc := "(LLevelledRing$Poly;ILLevelledRing$Poly;I)V" } : Jvm.MethodName)) ∈ TB := tb_of (List.mem_of_getElem? (i := 265) (by decide +kernel)) (by decide +kernel)
theorem t_266 : (Jvm.Cond.code ({ cls := "LevelledRing$Poly", name := "setSum", desc := "(LLevelledRing$Poly;ILLevelledRing$Poly;I)V" } : Jvm.MethodName) prog_7_method_10_code (8 : Nat) (Option.none : Option Jvm.ClassFile.FieldType)) ∈ TB := tb_of (List.mem_of_getElem? (i := 266) (by decide +kernel)) (by decide +kernel)
theorem t_267 : (Jvm.Cond.methodLink "LevelledRing" (200 : Nat) ({ cls := "LevelledRing$Poly", name := "setZero", desc := "()V" } : Jvm.MethodName)) ∈ TB := tb_of (List.mem_of_getElem? (i := 267) (by decide +kernel)) (by decide +kernel)
theorem t_268 : (Jvm.Cond.instanceMethod ({ cls := "LevelledRing$Poly", name := "setZero", desc := "()V" } : Jvm.MethodName)) ∈ TB := tb_of (List.mem_of_getElem? (i := 268) (by decide +kernel)) (by decide +kernel)
theorem t_269 : (Jvm.Cond.selects "LevelledRing$Poly" ({ cls := "LevelledRing$Poly", name := "setZero", desc := "()V" } : Jvm.MethodName) ({ cls := "LevelledRing$Poly", name := "setZero", desc := "()V" } : Jvm.MethodName)) ∈ TB := tb_of (List.mem_of_getElem? (i := 269) (by decide +kernel)) (by decide +kernel)
theorem t_270 : (Jvm.Cond.code ({ cls := "LevelledRing$Poly", name := "setZero", desc := "()V" } : Jvm.MethodName) prog_7_method_3_code (2 : Nat) (Option.none : Option Jvm.ClassFile.FieldType)) ∈ TB := tb_of (List.mem_of_getElem? (i := 270) (by decide +kernel)) (by decide +kernel)
theorem t_271 : (Jvm.Cond.methodLink "LevelledRing" (203 : Nat) ({ cls := "LevelledRing$Poly", name := "addProduct", desc := "(ILLevelledRing$Poly;LLevelledRing$Poly;I)V" } : Jvm.MethodName)) ∈ TB := tb_of (List.mem_of_getElem? (i := 271) (by decide +kernel)) (by decide +kernel)
theorem t_272 : (Jvm.Cond.methodLink "LevelledRing" (210 : Nat) ({ cls := "LevelledRing$Poly", name := "setTurned", desc := "(LLevelledRing$Poly;II)V" } : Jvm.MethodName)) ∈ TB := tb_of (List.mem_of_getElem? (i := 272) (by decide +kernel)) (by decide +kernel)
theorem t_273 : (Jvm.Cond.instanceMethod ({ cls := "LevelledRing$Poly", name := "setTurned", desc := "(LLevelledRing$Poly;II)V" } : Jvm.MethodName)) ∈ TB := tb_of (List.mem_of_getElem? (i := 273) (by decide +kernel)) (by decide +kernel)
theorem t_274 : (Jvm.Cond.selects "LevelledRing$Poly" ({ cls := "LevelledRing$Poly", name := "setTurned", desc := "(LLevelledRing$Poly;II)V" } : Jvm.MethodName) ({ cls := "LevelledRing$Poly", name := "setTurned", desc := "(LLevelledRing$Poly;II)V" } : Jvm.MethodName)) ∈ TB := tb_of (List.mem_of_getElem? (i := 274) (by decide +kernel)) (by decide +kernel)
theorem t_275 : (Jvm.Cond.code ({ cls := "LevelledRing$Poly", name := "setTurned", desc := "(LLevelledRing$Poly;II)V" } : Jvm.MethodName) prog_7_method_13_code (9 : Nat) (Option.none : Option Jvm.ClassFile.FieldType)) ∈ TB := tb_of (List.mem_of_getElem? (i := 275) (by decide +kernel)) (by decide +kernel)
theorem t_276 : (Jvm.Cond.methodLink "LevelledRingLaw" (36 : Nat) ({ cls := "LevelledRing", name := "difference", desc := "(II)I" } : Jvm.MethodName)) ∈ TB := tb_of (List.mem_of_getElem? (i := 276) (by decide +kernel)) (by decide +kernel)
theorem t_277 : (Jvm.Cond.instanceMethod ({ cls := "LevelledRing", name := "difference", desc := "(II)I" } : Jvm.MethodName)) ∈ TB := tb_of (List.mem_of_getElem? (i := 277) (by decide +kernel)) (by decide +kernel)
theorem t_278 : (Jvm.Cond.selects "LevelledRing" ({ cls := "LevelledRing", name := "difference", desc := "(II)I" } : Jvm.MethodName) ({ cls := "LevelledRing", name := "difference", desc := "(II)I" } : Jvm.MethodName)) ∈ TB := tb_of (List.mem_of_getElem? (i := 278) (by decide +kernel)) (by decide +kernel)
theorem t_279 : (Jvm.Cond.code ({ cls := "LevelledRing", name := "difference", desc := "(II)I" } : Jvm.MethodName) prog_1_method_5_code (3 : Nat) (Option.some Jvm.ClassFile.FieldType.int)) ∈ TB := tb_of (List.mem_of_getElem? (i := 279) (by decide +kernel)) (by decide +kernel)
theorem t_280 : (Jvm.Cond.fieldLink "LevelledRing" (111 : Nat) "LevelledRing$Kind" "DIFFERENCE" "LLevelledRing$Kind;") ∈ TB := tb_of (List.mem_of_getElem? (i := 280) (by decide +kernel)) (by decide +kernel)
theorem t_282 : (Jvm.Cond.methodLink "LevelledRingLaw" (40 : Nat) ({ cls := "LevelledRing", name := "product", desc := "(II)I" } : Jvm.MethodName)) ∈ TB := tb_of (List.mem_of_getElem? (i := 282) (by decide +kernel)) (by decide +kernel)
theorem t_283 : (Jvm.Cond.instanceMethod ({ cls := "LevelledRing", name := "product", desc := "(II)I" } : Jvm.MethodName)) ∈ TB := tb_of (List.mem_of_getElem? (i := 283) (by decide +kernel)) (by decide +kernel)
theorem t_284 : (Jvm.Cond.selects "LevelledRing" ({ cls := "LevelledRing", name := "product", desc := "(II)I" } : Jvm.MethodName) ({ cls := "LevelledRing", name := "product", desc := "(II)I" } : Jvm.MethodName)) ∈ TB := tb_of (List.mem_of_getElem? (i := 284) (by decide +kernel)) (by decide +kernel)
theorem t_285 : (Jvm.Cond.code ({ cls := "LevelledRing", name := "product", desc := "(II)I" } : Jvm.MethodName) prog_1_method_6_code (3 : Nat) (Option.some Jvm.ClassFile.FieldType.int)) ∈ TB := tb_of (List.mem_of_getElem? (i := 285) (by decide +kernel)) (by decide +kernel)
theorem t_286 : (Jvm.Cond.fieldLink "LevelledRing" (114 : Nat) "LevelledRing$Kind" "PRODUCT" "LLevelledRing$Kind;") ∈ TB := tb_of (List.mem_of_getElem? (i := 286) (by decide +kernel)) (by decide +kernel)
theorem t_288 : (Jvm.Cond.methodLink "LevelledRingLaw" (44 : Nat) ({ cls := "LevelledRing", name := "shift", desc := "(II)I" } : Jvm.MethodName)) ∈ TB := tb_of (List.mem_of_getElem? (i := 288) (by decide +kernel)) (by decide +kernel)
theorem t_289 : (Jvm.Cond.instanceMethod ({ cls := "LevelledRing", name := "shift", desc := "(II)I" } : Jvm.MethodName)) ∈ TB := tb_of (List.mem_of_getElem? (i := 289) (by decide +kernel)) (by decide +kernel)
theorem t_290 : (Jvm.Cond.selects "LevelledRing" ({ cls := "LevelledRing", name := "shift", desc := "(II)I" } : Jvm.MethodName) ({ cls := "LevelledRing", name := "shift", desc := "(II)I" } : Jvm.MethodName)) ∈ TB := tb_of (List.mem_of_getElem? (i := 290) (by decide +kernel)) (by decide +kernel)
theorem t_291 : (Jvm.Cond.code ({ cls := "LevelledRing", name := "shift", desc := "(II)I" } : Jvm.MethodName) prog_1_method_7_code (3 : Nat) (Option.some Jvm.ClassFile.FieldType.int)) ∈ TB := tb_of (List.mem_of_getElem? (i := 291) (by decide +kernel)) (by decide +kernel)
theorem t_292 : (Jvm.Cond.fieldLink "LevelledRing" (117 : Nat) "LevelledRing$Kind" "SHIFT" "LLevelledRing$Kind;") ∈ TB := tb_of (List.mem_of_getElem? (i := 292) (by decide +kernel)) (by decide +kernel)
theorem t_294 : (Jvm.Cond.methodLink "LevelledRingLaw" (48 : Nat) ({ cls := "LevelledRing", name := "lowered", desc := "(I)I" } : Jvm.MethodName)) ∈ TB := tb_of (List.mem_of_getElem? (i := 294) (by decide +kernel)) (by decide +kernel)
theorem t_295 : (Jvm.Cond.instanceMethod ({ cls := "LevelledRing", name := "lowered", desc := "(I)I" } : Jvm.MethodName)) ∈ TB := tb_of (List.mem_of_getElem? (i := 295) (by decide +kernel)) (by decide +kernel)
theorem t_296 : (Jvm.Cond.selects "LevelledRing" ({ cls := "LevelledRing", name := "lowered", desc := "(I)I" } : Jvm.MethodName) ({ cls := "LevelledRing", name := "lowered", desc := "(I)I" } : Jvm.MethodName)) ∈ TB := tb_of (List.mem_of_getElem? (i := 296) (by decide +kernel)) (by decide +kernel)
theorem t_297 : (Jvm.Cond.code ({ cls := "LevelledRing", name := "lowered", desc := "(I)I" } : Jvm.MethodName) prog_1_method_8_code (2 : Nat) (Option.some Jvm.ClassFile.FieldType.int)) ∈ TB := tb_of (List.mem_of_getElem? (i := 297) (by decide +kernel)) (by decide +kernel)
theorem t_298 : (Jvm.Cond.fieldLink "LevelledRing" (120 : Nat) "LevelledRing$Kind" "LOWERED" "LLevelledRing$Kind;") ∈ TB := tb_of (List.mem_of_getElem? (i := 298) (by decide +kernel)) (by decide +kernel)
theorem t_300 : (Jvm.Cond.methodLink "LevelledRingLaw" (52 : Nat) ({ cls := "LevelledRing", name := "count", desc := "()I" } : Jvm.MethodName)) ∈ TB := tb_of (List.mem_of_getElem? (i := 300) (by decide +kernel)) (by decide +kernel)
theorem t_301 : (Jvm.Cond.instanceMethod ({ cls := "LevelledRing", name := "count", desc := "()I" } : Jvm.MethodName)) ∈ TB := tb_of (List.mem_of_getElem? (i := 301) (by decide +kernel)) (by decide +kernel)
theorem t_302 : (Jvm.Cond.selects "LevelledRing" ({ cls := "LevelledRing", name := "count", desc := "()I" } : Jvm.MethodName) ({ cls := "LevelledRing", name := "count", desc := "()I" } : Jvm.MethodName)) ∈ TB := tb_of (List.mem_of_getElem? (i := 302) (by decide +kernel)) (by decide +kernel)
theorem t_303 : (Jvm.Cond.code ({ cls := "LevelledRing", name := "count", desc := "()I" } : Jvm.MethodName) prog_1_method_9_code (1 : Nat) (Option.some Jvm.ClassFile.FieldType.int)) ∈ TB := tb_of (List.mem_of_getElem? (i := 303) (by decide +kernel)) (by decide +kernel)
theorem t_304 : (Jvm.Cond.methodLink "LevelledRingLaw" (57 : Nat) ({ cls := "LevelledRing", name := "cut", desc := "(I)Z" } : Jvm.MethodName)) ∈ TB := tb_of (List.mem_of_getElem? (i := 304) (by decide +kernel)) (by decide +kernel)
theorem t_305 : (Jvm.Cond.instanceMethod ({ cls := "LevelledRing", name := "cut", desc := "(I)Z" } : Jvm.MethodName)) ∈ TB := tb_of (List.mem_of_getElem? (i := 305) (by decide +kernel)) (by decide +kernel)
theorem t_306 : (Jvm.Cond.selects "LevelledRing" ({ cls := "LevelledRing", name := "cut", desc := "(I)Z" } : Jvm.MethodName) ({ cls := "LevelledRing", name := "cut", desc := "(I)Z" } : Jvm.MethodName)) ∈ TB := tb_of (List.mem_of_getElem? (i := 306) (by decide +kernel)) (by decide +kernel)
theorem t_307 : (Jvm.Cond.code ({ cls := "LevelledRing", name := "cut", desc := "(I)Z" } : Jvm.MethodName) prog_1_method_10_code (2 : Nat) (Option.some Jvm.ClassFile.FieldType.boolean)) ∈ TB := tb_of (List.mem_of_getElem? (i := 307) (by decide +kernel)) (by decide +kernel)
theorem t_308 : (Jvm.Cond.methodLink "LevelledRing" (126 : Nat) ({ cls := "java/lang/Math", name := "min", desc := "(II)I" } : Jvm.MethodName)) ∈ TB := tb_of (List.mem_of_getElem? (i := 308) (by decide +kernel)) (by decide +kernel)
theorem t_309 : (Jvm.Cond.methodLink "LevelledRingLaw" (62 : Nat) ({ cls := "LevelledRing", name := "run", desc := "()I" } : Jvm.MethodName)) ∈ TB := tb_of (List.mem_of_getElem? (i := 309) (by decide +kernel)) (by decide +kernel)
theorem t_310 : (Jvm.Cond.instanceMethod ({ cls := "LevelledRing", name := "run", desc := "()I" } : Jvm.MethodName)) ∈ TB := tb_of (List.mem_of_getElem? (i := 310) (by decide +kernel)) (by decide +kernel)
theorem t_311 : (Jvm.Cond.selects "LevelledRing" ({ cls := "LevelledRing", name := "run", desc := "()I" } : Jvm.MethodName) ({ cls := "LevelledRing", name := "run", desc := "()I" } : Jvm.MethodName)) ∈ TB := tb_of (List.mem_of_getElem? (i := 311) (by decide +kernel)) (by decide +kernel)
theorem t_312 : (Jvm.Cond.code ({ cls := "LevelledRing", name := "run", desc := "()I" } : Jvm.MethodName) prog_1_method_11_code (2 : Nat) (Option.some Jvm.ClassFile.FieldType.int)) ∈ TB := tb_of (List.mem_of_getElem? (i := 312) (by decide +kernel)) (by decide +kernel)
theorem t_313 : (Jvm.Cond.methodLink "LevelledRing" (132 : Nat) ({ cls := "LevelledRing", name := "giveValue", desc := "(LLevelledRing$Gate;)Z" } : Jvm.MethodName)) ∈ TB := tb_of (List.mem_of_getElem? (i := 313) (by decide +kernel)) (by decide +kernel)
theorem t_315 : (Jvm.Cond.instanceMethod ({ cls := "LevelledRing", name := "giveValue", desc := "(LLevelledRing$Gate;)Z" } : Jvm.MethodName)) ∈ TB := tb_of (List.mem_of_getElem? (i := 315) (by decide +kernel)) (by decide +kernel)
theorem t_316 : (Jvm.Cond.code ({ cls := "LevelledRing", name := "giveValue", desc := "(LLevelledRing$Gate;)Z" } : Jvm.MethodName) prog_1_method_27_code (2 : Nat) (Option.some Jvm.ClassFile.FieldType.boolean)) ∈ TB := tb_of (List.mem_of_getElem? (i := 316) (by decide +kernel)) (by decide +kernel)
theorem t_317 : (Jvm.Cond.methodLink "LevelledRing" (214 : Nat) ({ cls := "LevelledRing", name := "takeOperands", desc := "(LLevelledRing$Gate;)Z" } : Jvm.MethodName)) ∈ TB := tb_of (List.mem_of_getElem? (i := 317) (by decide +kernel)) (by decide +kernel)
theorem t_319 : (Jvm.Cond.instanceMethod ({ cls := "LevelledRing", name := "takeOperands", desc := "(LLevelledRing$Gate;)Z" } : Jvm.MethodName)) ∈ TB := tb_of (List.mem_of_getElem? (i := 319) (by decide +kernel)) (by decide +kernel)
theorem t_320 : (Jvm.Cond.code ({ cls := "LevelledRing", name := "takeOperands", desc := "(LLevelledRing$Gate;)Z" } : Jvm.MethodName) prog_1_method_30_code (2 : Nat) (Option.some Jvm.ClassFile.FieldType.boolean)) ∈ TB := tb_of (List.mem_of_getElem? (i := 320) (by decide +kernel)) (by decide +kernel)
theorem t_321 : (Jvm.Cond.methodLink "LevelledRing" (236 : Nat) ({ cls := "LevelledRing$Value", name := "copyFrom", desc := "(LLevelledRing$Value;)V" } : Jvm.MethodName)) ∈ TB := tb_of (List.mem_of_getElem? (i := 321) (by decide +kernel)) (by decide +kernel)
theorem t_322 : (Jvm.Cond.instanceMethod ({ cls := "LevelledRing$Value", name := "copyFrom", desc := "(LLevelledRing$Value;)V" } : Jvm.MethodName)) ∈ TB := tb_of (List.mem_of_getElem? (i := 322) (by decide +kernel)) (by decide +kernel)
theorem t_323 : (Jvm.Cond.selects "LevelledRing$Value" ({ cls := "LevelledRing$Value", name := "copyFrom", desc := "(LLevelledRing$Value;)V" } : Jvm.MethodName) ({ cls := "LevelledRing$Value", name := "copyFrom", desc := "(LLevelledRing$Value;)V" } : Jvm.MethodName)) ∈ TB := tb_of (List.mem_of_getElem? (i := 323) (by decide +kernel)) (by decide +kernel)
theorem t_324 : (Jvm.Cond.code ({ cls := "LevelledRing$Value", name := "copyFrom", desc := "(LLevelledRing$Value;)V" } : Jvm.MethodName) prog_8_method_2_code (2 : Nat) (Option.none : Option Jvm.ClassFile.FieldType)) ∈ TB := tb_of (List.mem_of_getElem? (i := 324) (by decide +kernel)) (by decide +kernel)
theorem t_325 : (Jvm.Cond.methodLink "LevelledRing$Value" (31 : Nat) ({ cls := "LevelledRing$Poly", name := "copyFrom", desc := "(LLevelledRing$Poly;)V" } : Jvm.MethodName)) ∈ TB := tb_of (List.mem_of_getElem? (i := 325) (by decide +kernel)) (by decide +kernel)
theorem t_326 : (Jvm.Cond.methodLink "LevelledRing" (257 : Nat) ({ cls := "LevelledRing$Value", name := "lowerTo", desc := "(I)Z" } : Jvm.MethodName)) ∈ TB := tb_of (List.mem_of_getElem? (i := 326) (by decide +kernel)) (by decide +kernel)
theorem t_327 : (Jvm.Cond.instanceMethod ({ cls := "LevelledRing$Value", name := "lowerTo", desc := "(I)Z" } : Jvm.MethodName)) ∈ TB := tb_of (List.mem_of_getElem? (i := 327) (by decide +kernel)) (by decide +kernel)
theorem t_328 : (Jvm.Cond.selects "LevelledRing$Value" ({ cls := "LevelledRing$Value", name := "lowerTo", desc := "(I)Z" } : Jvm.MethodName) ({ cls := "LevelledRing$Value", name := "lowerTo", desc := "(I)Z" } : Jvm.MethodName)) ∈ TB := tb_of (List.mem_of_getElem? (i := 328) (by decide +kernel)) (by decide +kernel)
theorem t_329 : (Jvm.Cond.code ({ cls := "LevelledRing$Value", name := "lowerTo", desc := "(I)Z" } : Jvm.MethodName) prog_8_method_5_code (3 : Nat) (Option.some Jvm.ClassFile.FieldType.boolean)) ∈ TB := tb_of (List.mem_of_getElem? (i := 329) (by decide +kernel)) (by decide +kernel)
theorem t_330 : (Jvm.Cond.methodLink "LevelledRing$Value" (55 : Nat) ({ cls := "LevelledRing$Value", name := "lowerOnce", desc := "()Z" } : Jvm.MethodName)) ∈ TB := tb_of (List.mem_of_getElem? (i := 330) (by decide +kernel)) (by decide +kernel)
theorem t_331 : (Jvm.Cond.instanceMethod ({ cls := "LevelledRing$Value", name := "lowerOnce", desc := "()Z" } : Jvm.MethodName)) ∈ TB := tb_of (List.mem_of_getElem? (i := 331) (by decide +kernel)) (by decide +kernel)
theorem t_332 : (Jvm.Cond.selects "LevelledRing$Value" ({ cls := "LevelledRing$Value", name := "lowerOnce", desc := "()Z" } : Jvm.MethodName) ({ cls := "LevelledRing$Value", name := "lowerOnce", desc := "()Z" } : Jvm.MethodName)) ∈ TB := tb_of (List.mem_of_getElem? (i := 332) (by decide +kernel)) (by decide +kernel)
theorem t_333 : (Jvm.Cond.code ({ cls := "LevelledRing$Value", name := "lowerOnce", desc := "()Z" } : Jvm.MethodName) prog_8_method_4_code (1 : Nat) (Option.some Jvm.ClassFile.FieldType.boolean)) ∈ TB := tb_of (List.mem_of_getElem? (i := 333) (by decide +kernel)) (by decide +kernel)
theorem t_335 : (Jvm.Cond.constantLong "LevelledRing$Value" (45 : Nat) (77 : Int64)) ∈ TB := tb_of (List.mem_of_getElem? (i := 335) (by decide +kernel)) (by decide +kernel)
theorem t_336 : (Jvm.Cond.methodLink "LevelledRing$Value" (47 : Nat) ({ cls := "LevelledRing$Poly", name := "lowerFrom", desc := "(I)V" } : Jvm.MethodName)) ∈ TB := tb_of (List.mem_of_getElem? (i := 336) (by decide +kernel)) (by decide +kernel)
theorem t_337 : (Jvm.Cond.instanceMethod ({ cls := "LevelledRing$Poly", name := "lowerFrom", desc := "(I)V" } : Jvm.MethodName)) ∈ TB := tb_of (List.mem_of_getElem? (i := 337) (by decide +kernel)) (by decide +kernel)
theorem t_338 : (Jvm.Cond.selects "LevelledRing$Poly" ({ cls := "LevelledRing$Poly", name := "lowerFrom", desc := "(I)V" } : Jvm.MethodName) ({ cls := "LevelledRing$Poly", name := "lowerFrom", desc := "(I)V" } : Jvm.MethodName)) ∈ TB := tb_of (List.mem_of_getElem? (i := 338) (by decide +kernel)) (by decide +kernel)
theorem t_339 : (Jvm.Cond.code ({ cls := "LevelledRing$Poly", name := "lowerFrom", desc := "(I)V" } : Jvm.MethodName) prog_7_method_14_code (10 : Nat) (Option.none : Option Jvm.ClassFile.FieldType)) ∈ TB := tb_of (List.mem_of_getElem? (i := 339) (by decide +kernel)) (by decide +kernel)
theorem t_341 : (Jvm.Cond.static ({ cls := "LevelledRing", name := "centred", desc := "(JJ)J" } : Jvm.MethodName)) ∈ TB := tb_of (List.mem_of_getElem? (i := 341) (by decide +kernel)) (by decide +kernel)
theorem t_342 : (Jvm.Cond.code ({ cls := "LevelledRing", name := "centred", desc := "(JJ)J" } : Jvm.MethodName) prog_1_method_23_code (4 : Nat) (Option.some Jvm.ClassFile.FieldType.long)) ∈ TB := tb_of (List.mem_of_getElem? (i := 342) (by decide +kernel)) (by decide +kernel)
theorem t_343 : (Jvm.Cond.constantLong "LevelledRing" (179 : Nat) (2 : Int64)) ∈ TB := tb_of (List.mem_of_getElem? (i := 343) (by decide +kernel)) (by decide +kernel)
theorem t_344 : (Jvm.Cond.constantLong "LevelledRing$Poly" (56 : Nat) (17 : Int64)) ∈ TB := tb_of (List.mem_of_getElem? (i := 344) (by decide +kernel)) (by decide +kernel)
theorem t_347 : (Jvm.Cond.methodLink "LevelledRing$Value" (51 : Nat) ({ cls := "LevelledRing$Value", name := "isTooGreat", desc := "()Z" } : Jvm.MethodName)) ∈ TB := tb_of (List.mem_of_getElem? (i := 347) (by decide +kernel)) (by decide +kernel)
theorem t_348 : (Jvm.Cond.instanceMethod ({ cls := "LevelledRing$Value", name := "isTooGreat", desc := "()Z" } : Jvm.MethodName)) ∈ TB := tb_of (List.mem_of_getElem? (i := 348) (by decide +kernel)) (by decide +kernel)
theorem t_349 : (Jvm.Cond.selects "LevelledRing$Value" ({ cls := "LevelledRing$Value", name := "isTooGreat", desc := "()Z" } : Jvm.MethodName) ({ cls := "LevelledRing$Value", name := "isTooGreat", desc := "()Z" } : Jvm.MethodName)) ∈ TB := tb_of (List.mem_of_getElem? (i := 349) (by decide +kernel)) (by decide +kernel)
theorem t_350 : (Jvm.Cond.code ({ cls := "LevelledRing$Value", name := "isTooGreat", desc := "()Z" } : Jvm.MethodName) prog_8_method_3_code (1 : Nat) (Option.some Jvm.ClassFile.FieldType.boolean)) ∈ TB := tb_of (List.mem_of_getElem? (i := 350) (by decide +kernel)) (by decide +kernel)
theorem t_353 : (Jvm.Cond.constantLong "LevelledRing$Value" (39 : Nat) (2 : Int64)) ∈ TB := tb_of (List.mem_of_getElem? (i := 353) (by decide +kernel)) (by decide +kernel)
theorem t_354 : (Jvm.Cond.methodLink "LevelledRing" (217 : Nat) ({ cls := "LevelledRing", name := "giveSum", desc := "(LLevelledRing$Value;I)Z" } : Jvm.MethodName)) ∈ TB := tb_of (List.mem_of_getElem? (i := 354) (by decide +kernel)) (by decide +kernel)
theorem t_356 : (Jvm.Cond.instanceMethod ({ cls := "LevelledRing", name := "giveSum", desc := "(LLevelledRing$Value;I)Z" } : Jvm.MethodName)) ∈ TB := tb_of (List.mem_of_getElem? (i := 356) (by decide +kernel)) (by decide +kernel)
theorem t_357 : (Jvm.Cond.code ({ cls := "LevelledRing", name := "giveSum", desc := "(LLevelledRing$Value;I)Z" } : Jvm.MethodName) prog_1_method_32_code (3 : Nat) (Option.some Jvm.ClassFile.FieldType.boolean)) ∈ TB := tb_of (List.mem_of_getElem? (i := 357) (by decide +kernel)) (by decide +kernel)
theorem t_358 : (Jvm.Cond.methodLink "LevelledRing" (262 : Nat) ({ cls := "LevelledRing$Value", name := "isTooGreat", desc := "()Z" } : Jvm.MethodName)) ∈ TB := tb_of (List.mem_of_getElem? (i := 358) (by decide +kernel)) (by decide +kernel)
theorem t_359 : (Jvm.Cond.methodLink "LevelledRing" (221 : Nat) ({ cls := "LevelledRing", name := "quietenOperands", desc := "()Z" } : Jvm.MethodName)) ∈ TB := tb_of (List.mem_of_getElem? (i := 359) (by decide +kernel)) (by decide +kernel)
theorem t_361 : (Jvm.Cond.instanceMethod ({ cls := "LevelledRing", name := "quietenOperands", desc := "()Z" } : Jvm.MethodName)) ∈ TB := tb_of (List.mem_of_getElem? (i := 361) (by decide +kernel)) (by decide +kernel)
theorem t_362 : (Jvm.Cond.code ({ cls := "LevelledRing", name := "quietenOperands", desc := "()Z" } : Jvm.MethodName) prog_1_method_31_code (2 : Nat) (Option.some Jvm.ClassFile.FieldType.boolean)) ∈ TB := tb_of (List.mem_of_getElem? (i := 362) (by decide +kernel)) (by decide +kernel)
theorem t_363 : (Jvm.Cond.constantLong "LevelledRing" (260 : Nat) (1000 : Int64)) ∈ TB := tb_of (List.mem_of_getElem? (i := 363) (by decide +kernel)) (by decide +kernel)
theorem t_364 : (Jvm.Cond.methodLink "LevelledRing" (238 : Nat) ({ cls := "LevelledRing$Value", name := "lowerOnce", desc := "()Z" } : Jvm.MethodName)) ∈ TB := tb_of (List.mem_of_getElem? (i := 364) (by decide +kernel)) (by decide +kernel)
theorem t_365 : (Jvm.Cond.methodLink "LevelledRing" (225 : Nat) ({ cls := "LevelledRing", name := "giveProduct", desc := "(LLevelledRing$Value;)Z" } : Jvm.MethodName)) ∈ TB := tb_of (List.mem_of_getElem? (i := 365) (by decide +kernel)) (by decide +kernel)
theorem t_367 : (Jvm.Cond.instanceMethod ({ cls := "LevelledRing", name := "giveProduct", desc := "(LLevelledRing$Value;)Z" } : Jvm.MethodName)) ∈ TB := tb_of (List.mem_of_getElem? (i := 367) (by decide +kernel)) (by decide +kernel)
theorem t_368 : (Jvm.Cond.code ({ cls := "LevelledRing", name := "giveProduct", desc := "(LLevelledRing$Value;)Z" } : Jvm.MethodName) prog_1_method_33_code (2 : Nat) (Option.some Jvm.ClassFile.FieldType.boolean)) ∈ TB := tb_of (List.mem_of_getElem? (i := 368) (by decide +kernel)) (by decide +kernel)
theorem t_369 : (Jvm.Cond.constantLong "LevelledRing" (265 : Nat) (8 : Int64)) ∈ TB := tb_of (List.mem_of_getElem? (i := 369) (by decide +kernel)) (by decide +kernel)
theorem t_370 : (Jvm.Cond.methodLink "LevelledRing" (267 : Nat) ({ cls := "LevelledRing", name := "switchingMeter", desc := "(I)J" } : Jvm.MethodName)) ∈ TB := tb_of (List.mem_of_getElem? (i := 370) (by decide +kernel)) (by decide +kernel)
theorem t_371 : (Jvm.Cond.static ({ cls := "LevelledRing", name := "switchingMeter", desc := "(I)J" } : Jvm.MethodName)) ∈ TB := tb_of (List.mem_of_getElem? (i := 371) (by decide +kernel)) (by decide +kernel)
theorem t_372 : (Jvm.Cond.code ({ cls := "LevelledRing", name := "switchingMeter", desc := "(I)J" } : Jvm.MethodName) prog_1_method_34_code (4 : Nat) (Option.some Jvm.ClassFile.FieldType.long)) ∈ TB := tb_of (List.mem_of_getElem? (i := 372) (by decide +kernel)) (by decide +kernel)
theorem t_373 : (Jvm.Cond.fieldLink "LevelledRing" (277 : Nat) "LevelledRing" "PRIMES" "[I") ∈ TB := tb_of (List.mem_of_getElem? (i := 373) (by decide +kernel)) (by decide +kernel)
theorem t_374 : (Jvm.Cond.constantLong "LevelledRing" (280 : Nat) (136 : Int64)) ∈ TB := tb_of (List.mem_of_getElem? (i := 374) (by decide +kernel)) (by decide +kernel)
theorem t_375 : (Jvm.Cond.methodLink "LevelledRing" (271 : Nat) ({ cls := "LevelledRing", name := "multiplyOperands", desc := "(LLevelledRing$Value;)V" } : Jvm.MethodName)) ∈ TB := tb_of (List.mem_of_getElem? (i := 375) (by decide +kernel)) (by decide +kernel)
theorem t_377 : (Jvm.Cond.instanceMethod ({ cls := "LevelledRing", name := "multiplyOperands", desc := "(LLevelledRing$Value;)V" } : Jvm.MethodName)) ∈ TB := tb_of (List.mem_of_getElem? (i := 377) (by decide +kernel)) (by decide +kernel)
theorem t_378 : (Jvm.Cond.code ({ cls := "LevelledRing", name := "multiplyOperands", desc := "(LLevelledRing$Value;)V" } : Jvm.MethodName) prog_1_method_35_code (3 : Nat) (Option.none : Option Jvm.ClassFile.FieldType)) ∈ TB := tb_of (List.mem_of_getElem? (i := 378) (by decide +kernel)) (by decide +kernel)
theorem t_379 : (Jvm.Cond.methodLink "LevelledRing" (274 : Nat) ({ cls := "LevelledRing", name := "switchSquare", desc := "(LLevelledRing$Value;)V" } : Jvm.MethodName)) ∈ TB := tb_of (List.mem_of_getElem? (i := 379) (by decide +kernel)) (by decide +kernel)
theorem t_381 : (Jvm.Cond.instanceMethod ({ cls := "LevelledRing", name := "switchSquare", desc := "(LLevelledRing$Value;)V" } : Jvm.MethodName)) ∈ TB := tb_of (List.mem_of_getElem? (i := 381) (by decide +kernel)) (by decide +kernel)
theorem t_382 : (Jvm.Cond.code ({ cls := "LevelledRing", name := "switchSquare", desc := "(LLevelledRing$Value;)V" } : Jvm.MethodName) prog_1_method_36_code (4 : Nat) (Option.none : Option Jvm.ClassFile.FieldType)) ∈ TB := tb_of (List.mem_of_getElem? (i := 382) (by decide +kernel)) (by decide +kernel)
theorem t_383 : (Jvm.Cond.methodLink "LevelledRing" (282 : Nat) ({ cls := "LevelledRing$Poly", name := "setFromRow", desc := "(LLevelledRing$Poly;II)V" } : Jvm.MethodName)) ∈ TB := tb_of (List.mem_of_getElem? (i := 383) (by decide +kernel)) (by decide +kernel)
theorem t_384 : (Jvm.Cond.instanceMethod ({ cls := "LevelledRing$Poly", name := "setFromRow", desc := "(LLevelledRing$Poly;II)V" } : Jvm.MethodName)) ∈ TB := tb_of (List.mem_of_getElem? (i := 384) (by decide +kernel)) (by decide +kernel)
theorem t_385 : (Jvm.Cond.selects "LevelledRing$Poly" ({ cls := "LevelledRing$Poly", name := "setFromRow", desc := "(LLevelledRing$Poly;II)V" } : Jvm.MethodName) ({ cls := "LevelledRing$Poly", name := "setFromRow", desc := "(LLevelledRing$Poly;II)V" } : Jvm.MethodName)) ∈ TB := tb_of (List.mem_of_getElem? (i := 385) (by decide +kernel)) (by decide +kernel)
theorem t_386 : (Jvm.Cond.code ({ cls := "LevelledRing$Poly", name := "setFromRow", desc := "(LLevelledRing$Poly;II)V" } : Jvm.MethodName) prog_7_method_9_code (6 : Nat) (Option.none : Option Jvm.ClassFile.FieldType)) ∈ TB := tb_of (List.mem_of_getElem? (i := 386) (by decide +kernel)) (by decide +kernel)
theorem t_387 : (Jvm.Cond.methodLink "LevelledRing" (232 : Nat) ({ cls := "LevelledRing", name := "turnValue", desc := "(LLevelledRing$Value;LLevelledRing$Value;I)V" } : Jvm.MethodName)) ∈ TB := tb_of (List.mem_of_getElem? (i := 387) (by decide +kernel)) (by decide +kernel)
theorem t_388 : (Jvm.Cond.static ({ cls := "LevelledRing", name := "turnValue", desc := "(LLevelledRing$Value;LLevelledRing$Value;I)V" } : Jvm.MethodName)) ∈ TB := tb_of (List.mem_of_getElem? (i := 388) (by decide +kernel)) (by decide +kernel)
theorem t_389 : (Jvm.Cond.code ({ cls := "LevelledRing", name := "turnValue", desc := "(LLevelledRing$Value;LLevelledRing$Value;I)V" } : Jvm.MethodName) prog_1_method_29_code (3 : Nat) (Option.none : Option Jvm.ClassFile.FieldType)) ∈ TB := tb_of (List.mem_of_getElem? (i := 389) (by decide +kernel)) (by decide +kernel)
theorem t_390 : (Jvm.Cond.methodLink "LevelledRing" (241 : Nat) ({ cls := "LevelledRing", name := "hideMessage", desc := "(LLevelledRing$Value;LLevelledRing$Poly;I)V" } : Jvm.MethodName)) ∈ TB := tb_of (List.mem_of_getElem? (i := 390) (by decide +kernel)) (by decide +kernel)
theorem t_392 : (Jvm.Cond.instanceMethod ({ cls := "LevelledRing", name := "hideMessage", desc := "(LLevelledRing$Value;LLevelledRing$Poly;I)V" } : Jvm.MethodName)) ∈ TB := tb_of (List.mem_of_getElem? (i := 392) (by decide +kernel)) (by decide +kernel)
theorem t_393 : (Jvm.Cond.code ({ cls := "LevelledRing", name := "hideMessage", desc := "(LLevelledRing$Value;LLevelledRing$Poly;I)V" } : Jvm.MethodName) prog_1_method_28_code (4 : Nat) (Option.none : Option Jvm.ClassFile.FieldType)) ∈ TB := tb_of (List.mem_of_getElem? (i := 393) (by decide +kernel)) (by decide +kernel)
theorem t_394 : (Jvm.Cond.constantLong "LevelledRing" (245 : Nat) (33 : Int64)) ∈ TB := tb_of (List.mem_of_getElem? (i := 394) (by decide +kernel)) (by decide +kernel)
theorem t_395 : (Jvm.Cond.methodLink "LevelledRing" (247 : Nat) ({ cls := "LevelledRing$Keys", name := "drawHiddenZero", desc := "(LLevelledRing$Drawing;LLevelledRing$Poly;LLevelledRing$Poly;)V" } : Jvm.MethodName)) ∈ TB := tb_of (List.mem_of_getElem? (i := 395) (by decide +kernel)) (by decide +kernel)
theorem t_396 : (Jvm.Cond.methodLink "LevelledRing" (251 : Nat) ({ cls := "LevelledRing$Poly", name := "addSmall", desc := "(LLevelledRing$Poly;)V" } : Jvm.MethodName)) ∈ TB := tb_of (List.mem_of_getElem? (i := 396) (by decide +kernel)) (by decide +kernel)
theorem t_397 : (Jvm.Cond.instanceMethod ({ cls := "LevelledRing$Poly", name := "addSmall", desc := "(LLevelledRing$Poly;)V" } : Jvm.MethodName)) ∈ TB := tb_of (List.mem_of_getElem? (i := 397) (by decide +kernel)) (by decide +kernel)
theorem t_398 : (Jvm.Cond.selects "LevelledRing$Poly" ({ cls := "LevelledRing$Poly", name := "addSmall", desc := "(LLevelledRing$Poly;)V" } : Jvm.MethodName) ({ cls := "LevelledRing$Poly", name := "addSmall", desc := "(LLevelledRing$Poly;)V" } : Jvm.MethodName)) ∈ TB := tb_of (List.mem_of_getElem? (i := 398) (by decide +kernel)) (by decide +kernel)
theorem t_399 : (Jvm.Cond.code ({ cls := "LevelledRing$Poly", name := "addSmall", desc := "(LLevelledRing$Poly;)V" } : Jvm.MethodName) prog_7_method_7_code (4 : Nat) (Option.none : Option Jvm.ClassFile.FieldType)) ∈ TB := tb_of (List.mem_of_getElem? (i := 399) (by decide +kernel)) (by decide +kernel)
theorem t_400 : (Jvm.Cond.methodLink "LevelledRingLaw" (66 : Nat) ({ cls := "LevelledRing", name := "level", desc := "(I)I" } : Jvm.MethodName)) ∈ TB := tb_of (List.mem_of_getElem? (i := 400) (by decide +kernel)) (by decide +kernel)
theorem t_401 : (Jvm.Cond.instanceMethod ({ cls := "LevelledRing", name := "level", desc := "(I)I" } : Jvm.MethodName)) ∈ TB := tb_of (List.mem_of_getElem? (i := 401) (by decide +kernel)) (by decide +kernel)
theorem t_402 : (Jvm.Cond.selects "LevelledRing" ({ cls := "LevelledRing", name := "level", desc := "(I)I" } : Jvm.MethodName) ({ cls := "LevelledRing", name := "level", desc := "(I)I" } : Jvm.MethodName)) ∈ TB := tb_of (List.mem_of_getElem? (i := 402) (by decide +kernel)) (by decide +kernel)
theorem t_403 : (Jvm.Cond.code ({ cls := "LevelledRing", name := "level", desc := "(I)I" } : Jvm.MethodName) prog_1_method_12_code (2 : Nat) (Option.some Jvm.ClassFile.FieldType.int)) ∈ TB := tb_of (List.mem_of_getElem? (i := 403) (by decide +kernel)) (by decide +kernel)
theorem t_404 : (Jvm.Cond.methodLink "LevelledRing" (136 : Nat) ({ cls := "LevelledRing", name := "hasValue", desc := "(I)Z" } : Jvm.MethodName)) ∈ TB := tb_of (List.mem_of_getElem? (i := 404) (by decide +kernel)) (by decide +kernel)
theorem t_406 : (Jvm.Cond.instanceMethod ({ cls := "LevelledRing", name := "hasValue", desc := "(I)Z" } : Jvm.MethodName)) ∈ TB := tb_of (List.mem_of_getElem? (i := 406) (by decide +kernel)) (by decide +kernel)
theorem t_407 : (Jvm.Cond.code ({ cls := "LevelledRing", name := "hasValue", desc := "(I)Z" } : Jvm.MethodName) prog_1_method_21_code (2 : Nat) (Option.some Jvm.ClassFile.FieldType.boolean)) ∈ TB := tb_of (List.mem_of_getElem? (i := 407) (by decide +kernel)) (by decide +kernel)
theorem t_408 : (Jvm.Cond.methodLink "LevelledRingLaw" (70 : Nat) ({ cls := "LevelledRing", name := "meter", desc := "(I)J" } : Jvm.MethodName)) ∈ TB := tb_of (List.mem_of_getElem? (i := 408) (by decide +kernel)) (by decide +kernel)
theorem t_409 : (Jvm.Cond.instanceMethod ({ cls := "LevelledRing", name := "meter", desc := "(I)J" } : Jvm.MethodName)) ∈ TB := tb_of (List.mem_of_getElem? (i := 409) (by decide +kernel)) (by decide +kernel)
theorem t_410 : (Jvm.Cond.selects "LevelledRing" ({ cls := "LevelledRing", name := "meter", desc := "(I)J" } : Jvm.MethodName) ({ cls := "LevelledRing", name := "meter", desc := "(I)J" } : Jvm.MethodName)) ∈ TB := tb_of (List.mem_of_getElem? (i := 410) (by decide +kernel)) (by decide +kernel)
theorem t_411 : (Jvm.Cond.code ({ cls := "LevelledRing", name := "meter", desc := "(I)J" } : Jvm.MethodName) prog_1_method_13_code (2 : Nat) (Option.some Jvm.ClassFile.FieldType.long)) ∈ TB := tb_of (List.mem_of_getElem? (i := 411) (by decide +kernel)) (by decide +kernel)
theorem t_412 : (Jvm.Cond.constantLong "LevelledRing" (149 : Nat) (-1 : Int64)) ∈ TB := tb_of (List.mem_of_getElem? (i := 412) (by decide +kernel)) (by decide +kernel)
theorem t_413 : (Jvm.Cond.methodLink "LevelledRingLaw" (75 : Nat) ({ cls := "LevelledRing", name := "noise", desc := "(I)J" } : Jvm.MethodName)) ∈ TB := tb_of (List.mem_of_getElem? (i := 413) (by decide +kernel)) (by decide +kernel)
theorem t_414 : (Jvm.Cond.instanceMethod ({ cls := "LevelledRing", name := "noise", desc := "(I)J" } : Jvm.MethodName)) ∈ TB := tb_of (List.mem_of_getElem? (i := 414) (by decide +kernel)) (by decide +kernel)
theorem t_415 : (Jvm.Cond.selects "LevelledRing" ({ cls := "LevelledRing", name := "noise", desc := "(I)J" } : Jvm.MethodName) ({ cls := "LevelledRing", name := "noise", desc := "(I)J" } : Jvm.MethodName)) ∈ TB := tb_of (List.mem_of_getElem? (i := 415) (by decide +kernel)) (by decide +kernel)
theorem t_416 : (Jvm.Cond.code ({ cls := "LevelledRing", name := "noise", desc := "(I)J" } : Jvm.MethodName) prog_1_method_14_code (6 : Nat) (Option.some Jvm.ClassFile.FieldType.long)) ∈ TB := tb_of (List.mem_of_getElem? (i := 416) (by decide +kernel)) (by decide +kernel)
theorem t_417 : (Jvm.Cond.methodLink "LevelledRing" (151 : Nat) ({ cls := "LevelledRing", name := "openValue", desc := "(LLevelledRing$Value;)V" } : Jvm.MethodName)) ∈ TB := tb_of (List.mem_of_getElem? (i := 417) (by decide +kernel)) (by decide +kernel)
theorem t_419 : (Jvm.Cond.instanceMethod ({ cls := "LevelledRing", name := "openValue", desc := "(LLevelledRing$Value;)V" } : Jvm.MethodName)) ∈ TB := tb_of (List.mem_of_getElem? (i := 419) (by decide +kernel)) (by decide +kernel)
theorem t_420 : (Jvm.Cond.code ({ cls := "LevelledRing", name := "openValue", desc := "(LLevelledRing$Value;)V" } : Jvm.MethodName) prog_1_method_37_code (2 : Nat) (Option.none : Option Jvm.ClassFile.FieldType)) ∈ TB := tb_of (List.mem_of_getElem? (i := 420) (by decide +kernel)) (by decide +kernel)
theorem t_421 : (Jvm.Cond.methodLink "LevelledRing" (155 : Nat) ({ cls := "LevelledRing$Poly", name := "centredCoefficient", desc := "(II)J" } : Jvm.MethodName)) ∈ TB := tb_of (List.mem_of_getElem? (i := 421) (by decide +kernel)) (by decide +kernel)
theorem t_422 : (Jvm.Cond.instanceMethod ({ cls := "LevelledRing$Poly", name := "centredCoefficient", desc := "(II)J" } : Jvm.MethodName)) ∈ TB := tb_of (List.mem_of_getElem? (i := 422) (by decide +kernel)) (by decide +kernel)
theorem t_423 : (Jvm.Cond.selects "LevelledRing$Poly" ({ cls := "LevelledRing$Poly", name := "centredCoefficient", desc := "(II)J" } : Jvm.MethodName) ({ cls := "LevelledRing$Poly", name := "centredCoefficient", desc := "(II)J" } : Jvm.MethodName)) ∈ TB := tb_of (List.mem_of_getElem? (i := 423) (by decide +kernel)) (by decide +kernel)
theorem t_424 : (Jvm.Cond.code ({ cls := "LevelledRing$Poly", name := "centredCoefficient", desc := "(II)J" } : Jvm.MethodName) prog_7_method_16_code (3 : Nat) (Option.some Jvm.ClassFile.FieldType.long)) ∈ TB := tb_of (List.mem_of_getElem? (i := 424) (by decide +kernel)) (by decide +kernel)
theorem t_425 : (Jvm.Cond.methodLink "LevelledRing$Poly" (68 : Nat) ({ cls := "LevelledRing$Poly", name := "wholeCoefficient", desc := "(II)J" } : Jvm.MethodName)) ∈ TB := tb_of (List.mem_of_getElem? (i := 425) (by decide +kernel)) (by decide +kernel)
theorem t_426 : (Jvm.Cond.instanceMethod ({ cls := "LevelledRing$Poly", name := "wholeCoefficient", desc := "(II)J" } : Jvm.MethodName)) ∈ TB := tb_of (List.mem_of_getElem? (i := 426) (by decide +kernel)) (by decide +kernel)
theorem t_427 : (Jvm.Cond.selects "LevelledRing$Poly" ({ cls := "LevelledRing$Poly", name := "wholeCoefficient", desc := "(II)J" } : Jvm.MethodName) ({ cls := "LevelledRing$Poly", name := "wholeCoefficient", desc := "(II)J" } : Jvm.MethodName)) ∈ TB := tb_of (List.mem_of_getElem? (i := 427) (by decide +kernel)) (by decide +kernel)
theorem t_428 : (Jvm.Cond.code ({ cls := "LevelledRing$Poly", name := "wholeCoefficient", desc := "(II)J" } : Jvm.MethodName) prog_7_method_15_code (8 : Nat) (Option.some Jvm.ClassFile.FieldType.long)) ∈ TB := tb_of (List.mem_of_getElem? (i := 428) (by decide +kernel)) (by decide +kernel)
theorem t_432 : (Jvm.Cond.methodLink "LevelledRing" (159 : Nat) ({ cls := "java/lang/Math", name := "abs", desc := "(J)J" } : Jvm.MethodName)) ∈ TB := tb_of (List.mem_of_getElem? (i := 432) (by decide +kernel)) (by decide +kernel)
theorem t_433 : (Jvm.Cond.static ({ cls := "java/lang/Math", name := "abs", desc := "(J)J" } : Jvm.MethodName)) ∈ TB := tb_of (List.mem_of_getElem? (i := 433) (by decide +kernel)) (by decide +kernel)
theorem t_434 : (Jvm.Cond.code ({ cls := "java/lang/Math", name := "abs", desc := "(J)J" } : Jvm.MethodName) prog_12_method_61_code (2 : Nat) (Option.some Jvm.ClassFile.FieldType.long)) ∈ TB := tb_of (List.mem_of_getElem? (i := 434) (by decide +kernel)) (by decide +kernel)
theorem t_435 : (Jvm.Cond.methodLink "LevelledRing" (163 : Nat) ({ cls := "java/lang/Math", name := "max", desc := "(JJ)J" } : Jvm.MethodName)) ∈ TB := tb_of (List.mem_of_getElem? (i := 435) (by decide +kernel)) (by decide +kernel)
theorem t_436 : (Jvm.Cond.static ({ cls := "java/lang/Math", name := "max", desc := "(JJ)J" } : Jvm.MethodName)) ∈ TB := tb_of (List.mem_of_getElem? (i := 436) (by decide +kernel)) (by decide +kernel)
theorem t_437 : (Jvm.Cond.code ({ cls := "java/lang/Math", name := "max", desc := "(JJ)J" } : Jvm.MethodName) prog_12_method_66_code (4 : Nat) (Option.some Jvm.ClassFile.FieldType.long)) ∈ TB := tb_of (List.mem_of_getElem? (i := 437) (by decide +kernel)) (by decide +kernel)
theorem t_438 : (Jvm.Cond.methodLink "LevelledRingLaw" (79 : Nat) ({ cls := "LevelledRing", name := "part", desc := "(III)J" } : Jvm.MethodName)) ∈ TB := tb_of (List.mem_of_getElem? (i := 438) (by decide +kernel)) (by decide +kernel)
theorem t_439 : (Jvm.Cond.instanceMethod ({ cls := "LevelledRing", name := "part", desc := "(III)J" } : Jvm.MethodName)) ∈ TB := tb_of (List.mem_of_getElem? (i := 439) (by decide +kernel)) (by decide +kernel)
theorem t_440 : (Jvm.Cond.selects "LevelledRing" ({ cls := "LevelledRing", name := "part", desc := "(III)J" } : Jvm.MethodName) ({ cls := "LevelledRing", name := "part", desc := "(III)J" } : Jvm.MethodName)) ∈ TB := tb_of (List.mem_of_getElem? (i := 440) (by decide +kernel)) (by decide +kernel)
theorem t_441 : (Jvm.Cond.code ({ cls := "LevelledRing", name := "part", desc := "(III)J" } : Jvm.MethodName) prog_1_method_15_code (6 : Nat) (Option.some Jvm.ClassFile.FieldType.long)) ∈ TB := tb_of (List.mem_of_getElem? (i := 441) (by decide +kernel)) (by decide +kernel)
theorem t_442 : (Jvm.Cond.methodLink "LevelledRing" (173 : Nat) ({ cls := "LevelledRing$Poly", name := "wholeCoefficient", desc := "(II)J" } : Jvm.MethodName)) ∈ TB := tb_of (List.mem_of_getElem? (i := 442) (by decide +kernel)) (by decide +kernel)
theorem t_443 : (Jvm.Cond.methodLink "LevelledRingLaw" (84 : Nat) ({ cls := "LevelledRing", name := "decrypted", desc := "(II)I" } : Jvm.MethodName)) ∈ TB := tb_of (List.mem_of_getElem? (i := 443) (by decide +kernel)) (by decide +kernel)
theorem t_444 : (Jvm.Cond.instanceMethod ({ cls := "LevelledRing", name := "decrypted", desc := "(II)I" } : Jvm.MethodName)) ∈ TB := tb_of (List.mem_of_getElem? (i := 444) (by decide +kernel)) (by decide +kernel)
theorem t_445 : (Jvm.Cond.selects "LevelledRing" ({ cls := "LevelledRing", name := "decrypted", desc := "(II)I" } : Jvm.MethodName) ({ cls := "LevelledRing", name := "decrypted", desc := "(II)I" } : Jvm.MethodName)) ∈ TB := tb_of (List.mem_of_getElem? (i := 445) (by decide +kernel)) (by decide +kernel)
theorem t_446 : (Jvm.Cond.code ({ cls := "LevelledRing", name := "decrypted", desc := "(II)I" } : Jvm.MethodName) prog_1_method_16_code (4 : Nat) (Option.some Jvm.ClassFile.FieldType.int)) ∈ TB := tb_of (List.mem_of_getElem? (i := 446) (by decide +kernel)) (by decide +kernel)
theorem t_447 : (Jvm.Cond.methodLink "LevelledRingLaw" (88 : Nat) ({ cls := "LevelledRing", name := "plain", desc := "(II)I" } : Jvm.MethodName)) ∈ TB := tb_of (List.mem_of_getElem? (i := 447) (by decide +kernel)) (by decide +kernel)
theorem t_448 : (Jvm.Cond.instanceMethod ({ cls := "LevelledRing", name := "plain", desc := "(II)I" } : Jvm.MethodName)) ∈ TB := tb_of (List.mem_of_getElem? (i := 448) (by decide +kernel)) (by decide +kernel)
theorem t_449 : (Jvm.Cond.selects "LevelledRing" ({ cls := "LevelledRing", name := "plain", desc := "(II)I" } : Jvm.MethodName) ({ cls := "LevelledRing", name := "plain", desc := "(II)I" } : Jvm.MethodName)) ∈ TB := tb_of (List.mem_of_getElem? (i := 449) (by decide +kernel)) (by decide +kernel)
theorem t_450 : (Jvm.Cond.code ({ cls := "LevelledRing", name := "plain", desc := "(II)I" } : Jvm.MethodName) prog_1_method_17_code (3 : Nat) (Option.some Jvm.ClassFile.FieldType.int)) ∈ TB := tb_of (List.mem_of_getElem? (i := 450) (by decide +kernel)) (by decide +kernel)
theorem t_451 : (Jvm.Cond.methodLink "LevelledRingLaw" (92 : Nat) ({ cls := "LevelledRing", name := "secret", desc := "(I)I" } : Jvm.MethodName)) ∈ TB := tb_of (List.mem_of_getElem? (i := 451) (by decide +kernel)) (by decide +kernel)
theorem t_452 : (Jvm.Cond.instanceMethod ({ cls := "LevelledRing", name := "secret", desc := "(I)I" } : Jvm.MethodName)) ∈ TB := tb_of (List.mem_of_getElem? (i := 452) (by decide +kernel)) (by decide +kernel)
theorem t_453 : (Jvm.Cond.selects "LevelledRing" ({ cls := "LevelledRing", name := "secret", desc := "(I)I" } : Jvm.MethodName) ({ cls := "LevelledRing", name := "secret", desc := "(I)I" } : Jvm.MethodName)) ∈ TB := tb_of (List.mem_of_getElem? (i := 453) (by decide +kernel)) (by decide +kernel)
theorem t_454 : (Jvm.Cond.code ({ cls := "LevelledRing", name := "secret", desc := "(I)I" } : Jvm.MethodName) prog_1_method_18_code (2 : Nat) (Option.some Jvm.ClassFile.FieldType.int)) ∈ TB := tb_of (List.mem_of_getElem? (i := 454) (by decide +kernel)) (by decide +kernel)
theorem t_455 : (Jvm.Cond.methodLink "LevelledRingLaw" (9 : Nat) ({ cls := "LevelledRingLaw", name := "cell", desc := "([II)I" } : Jvm.MethodName)) ∈ TB := tb_of (List.mem_of_getElem? (i := 455) (by decide +kernel)) (by decide +kernel)
theorem t_456 : (Jvm.Cond.static ({ cls := "LevelledRingLaw", name := "cell", desc := "([II)I" } : Jvm.MethodName)) ∈ TB := tb_of (List.mem_of_getElem? (i := 456) (by decide +kernel)) (by decide +kernel)
theorem t_457 : (Jvm.Cond.code ({ cls := "LevelledRingLaw", name := "cell", desc := "([II)I" } : Jvm.MethodName) method_2_code (2 : Nat) (Option.some Jvm.ClassFile.FieldType.int)) ∈ TB := tb_of (List.mem_of_getElem? (i := 457) (by decide +kernel)) (by decide +kernel)
theorem t_458 : (Jvm.Cond.classLink "LevelledRingLaw" (18 : Nat) "LevelledRingModel") ∈ TB := tb_of (List.mem_of_getElem? (i := 458) (by decide +kernel)) (by decide +kernel)
theorem t_459 : (Jvm.Cond.instantiable "LevelledRingModel" (19 : Nat)) ∈ TB := tb_of (List.mem_of_getElem? (i := 459) (by decide +kernel)) (by decide +kernel)
theorem t_460 : (Jvm.Cond.methodLink "LevelledRingLaw" (20 : Nat) ({ cls := "LevelledRingModel", name := "<init>", desc := "(I)V" } : Jvm.MethodName)) ∈ TB := tb_of (List.mem_of_getElem? (i := 460) (by decide +kernel)) (by decide +kernel)
theorem t_461 : (Jvm.Cond.instanceMethod ({ cls := "LevelledRingModel", name := "<init>", desc := "(I)V" } : Jvm.MethodName)) ∈ TB := tb_of (List.mem_of_getElem? (i := 461) (by decide +kernel)) (by decide +kernel)
theorem t_462 : (Jvm.Cond.code ({ cls := "LevelledRingModel", name := "<init>", desc := "(I)V" } : Jvm.MethodName) prog_10_method_1_code (10 : Nat) (Option.none : Option Jvm.ClassFile.FieldType)) ∈ TB := tb_of (List.mem_of_getElem? (i := 462) (by decide +kernel)) (by decide +kernel)
theorem t_463 : (Jvm.Cond.methodLink "LevelledRingModel" (1 : Nat) ({ cls := "java/lang/Object", name := "<init>", desc := "()V" } : Jvm.MethodName)) ∈ TB := tb_of (List.mem_of_getElem? (i := 463) (by decide +kernel)) (by decide +kernel)
theorem t_464 : (Jvm.Cond.constant "LevelledRingModel" (63 : Nat) (40000 : Int32)) ∈ TB := tb_of (List.mem_of_getElem? (i := 464) (by decide +kernel)) (by decide +kernel)
theorem t_465 : (Jvm.Cond.methodLink "LevelledRingModel" (68 : Nat) ({ cls := "LevelledRingModel", name := "drawSmall", desc := "()V" } : Jvm.MethodName)) ∈ TB := tb_of (List.mem_of_getElem? (i := 465) (by decide +kernel)) (by decide +kernel)
theorem t_467 : (Jvm.Cond.instanceMethod ({ cls := "LevelledRingModel", name := "drawSmall", desc := "()V" } : Jvm.MethodName)) ∈ TB := tb_of (List.mem_of_getElem? (i := 467) (by decide +kernel)) (by decide +kernel)
theorem t_468 : (Jvm.Cond.code ({ cls := "LevelledRingModel", name := "drawSmall", desc := "()V" } : Jvm.MethodName) prog_10_method_3_code (2 : Nat) (Option.none : Option Jvm.ClassFile.FieldType)) ∈ TB := tb_of (List.mem_of_getElem? (i := 468) (by decide +kernel)) (by decide +kernel)
theorem t_469 : (Jvm.Cond.methodLink "LevelledRingModel" (80 : Nat) ({ cls := "LevelledRingModel", name := "draw", desc := "()I" } : Jvm.MethodName)) ∈ TB := tb_of (List.mem_of_getElem? (i := 469) (by decide +kernel)) (by decide +kernel)
theorem t_471 : (Jvm.Cond.instanceMethod ({ cls := "LevelledRingModel", name := "draw", desc := "()I" } : Jvm.MethodName)) ∈ TB := tb_of (List.mem_of_getElem? (i := 471) (by decide +kernel)) (by decide +kernel)
theorem t_472 : (Jvm.Cond.code ({ cls := "LevelledRingModel", name := "draw", desc := "()I" } : Jvm.MethodName) prog_10_method_2_code (1 : Nat) (Option.some Jvm.ClassFile.FieldType.int)) ∈ TB := tb_of (List.mem_of_getElem? (i := 472) (by decide +kernel)) (by decide +kernel)
theorem t_473 : (Jvm.Cond.constant "LevelledRingModel" (78 : Nat) (1664525 : Int32)) ∈ TB := tb_of (List.mem_of_getElem? (i := 473) (by decide +kernel)) (by decide +kernel)
theorem t_474 : (Jvm.Cond.constant "LevelledRingModel" (79 : Nat) (1013904223 : Int32)) ∈ TB := tb_of (List.mem_of_getElem? (i := 474) (by decide +kernel)) (by decide +kernel)
theorem t_475 : (Jvm.Cond.methodLink "LevelledRingModel" (71 : Nat) ({ cls := "LevelledRingModel", name := "drawUniform", desc := "(I)V" } : Jvm.MethodName)) ∈ TB := tb_of (List.mem_of_getElem? (i := 475) (by decide +kernel)) (by decide +kernel)
theorem t_477 : (Jvm.Cond.instanceMethod ({ cls := "LevelledRingModel", name := "drawUniform", desc := "(I)V" } : Jvm.MethodName)) ∈ TB := tb_of (List.mem_of_getElem? (i := 477) (by decide +kernel)) (by decide +kernel)
theorem t_478 : (Jvm.Cond.code ({ cls := "LevelledRingModel", name := "drawUniform", desc := "(I)V" } : Jvm.MethodName) prog_10_method_4_code (7 : Nat) (Option.none : Option Jvm.ClassFile.FieldType)) ∈ TB := tb_of (List.mem_of_getElem? (i := 478) (by decide +kernel)) (by decide +kernel)
theorem t_479 : (Jvm.Cond.methodLink "LevelledRingModel" (84 : Nat) ({ cls := "LevelledRingModel", name := "times", desc := "(JJJ)J" } : Jvm.MethodName)) ∈ TB := tb_of (List.mem_of_getElem? (i := 479) (by decide +kernel)) (by decide +kernel)
theorem t_480 : (Jvm.Cond.static ({ cls := "LevelledRingModel", name := "times", desc := "(JJJ)J" } : Jvm.MethodName)) ∈ TB := tb_of (List.mem_of_getElem? (i := 480) (by decide +kernel)) (by decide +kernel)
theorem t_481 : (Jvm.Cond.code ({ cls := "LevelledRingModel", name := "times", desc := "(JJJ)J" } : Jvm.MethodName) prog_10_method_7_code (13 : Nat) (Option.some Jvm.ClassFile.FieldType.long)) ∈ TB := tb_of (List.mem_of_getElem? (i := 481) (by decide +kernel)) (by decide +kernel)
theorem t_482 : (Jvm.Cond.methodLink "LevelledRingModel" (75 : Nat) ({ cls := "LevelledRingModel", name := "makeB", desc := "(I)V" } : Jvm.MethodName)) ∈ TB := tb_of (List.mem_of_getElem? (i := 482) (by decide +kernel)) (by decide +kernel)
theorem t_484 : (Jvm.Cond.instanceMethod ({ cls := "LevelledRingModel", name := "makeB", desc := "(I)V" } : Jvm.MethodName)) ∈ TB := tb_of (List.mem_of_getElem? (i := 484) (by decide +kernel)) (by decide +kernel)
theorem t_485 : (Jvm.Cond.code ({ cls := "LevelledRingModel", name := "makeB", desc := "(I)V" } : Jvm.MethodName) prog_10_method_5_code (8 : Nat) (Option.none : Option Jvm.ClassFile.FieldType)) ∈ TB := tb_of (List.mem_of_getElem? (i := 485) (by decide +kernel)) (by decide +kernel)
theorem t_486 : (Jvm.Cond.methodLink "LevelledRingModel" (88 : Nat) ({ cls := "LevelledRingModel", name := "modulo", desc := "(JJ)J" } : Jvm.MethodName)) ∈ TB := tb_of (List.mem_of_getElem? (i := 486) (by decide +kernel)) (by decide +kernel)
theorem t_487 : (Jvm.Cond.static ({ cls := "LevelledRingModel", name := "modulo", desc := "(JJ)J" } : Jvm.MethodName)) ∈ TB := tb_of (List.mem_of_getElem? (i := 487) (by decide +kernel)) (by decide +kernel)
theorem t_488 : (Jvm.Cond.code ({ cls := "LevelledRingModel", name := "modulo", desc := "(JJ)J" } : Jvm.MethodName) prog_10_method_6_code (6 : Nat) (Option.some Jvm.ClassFile.FieldType.long)) ∈ TB := tb_of (List.mem_of_getElem? (i := 488) (by decide +kernel)) (by decide +kernel)
theorem t_489 : (Jvm.Cond.methodLink "LevelledRingModel" (92 : Nat) ({ cls := "LevelledRingModel", name := "withSecret", desc := "(IIJ)J" } : Jvm.MethodName)) ∈ TB := tb_of (List.mem_of_getElem? (i := 489) (by decide +kernel)) (by decide +kernel)
theorem t_491 : (Jvm.Cond.instanceMethod ({ cls := "LevelledRingModel", name := "withSecret", desc := "(IIJ)J" } : Jvm.MethodName)) ∈ TB := tb_of (List.mem_of_getElem? (i := 491) (by decide +kernel)) (by decide +kernel)
theorem t_492 : (Jvm.Cond.code ({ cls := "LevelledRingModel", name := "withSecret", desc := "(IIJ)J" } : Jvm.MethodName) prog_10_method_8_code (10 : Nat) (Option.some Jvm.ClassFile.FieldType.long)) ∈ TB := tb_of (List.mem_of_getElem? (i := 492) (by decide +kernel)) (by decide +kernel)
theorem t_493 : (Jvm.Cond.fieldLink "LevelledRingModel" (7 : Nat) "LevelledRingModel" "row" "[J") ∈ TB := tb_of (List.mem_of_getElem? (i := 493) (by decide +kernel)) (by decide +kernel)
theorem t_494 : (Jvm.Cond.fieldLink "LevelledRingModel" (13 : Nat) "LevelledRingModel" "prime" "[I") ∈ TB := tb_of (List.mem_of_getElem? (i := 494) (by decide +kernel)) (by decide +kernel)
theorem t_495 : (Jvm.Cond.fieldLink "LevelledRingModel" (17 : Nat) "LevelledRingModel" "big" "[J") ∈ TB := tb_of (List.mem_of_getElem? (i := 495) (by decide +kernel)) (by decide +kernel)
theorem t_496 : (Jvm.Cond.fieldLink "LevelledRingModel" (20 : Nat) "LevelledRingModel" "unit" "[J") ∈ TB := tb_of (List.mem_of_getElem? (i := 496) (by decide +kernel)) (by decide +kernel)
theorem t_497 : (Jvm.Cond.fieldLink "LevelledRingModel" (23 : Nat) "LevelledRingModel" "secret" "[I") ∈ TB := tb_of (List.mem_of_getElem? (i := 497) (by decide +kernel)) (by decide +kernel)
theorem t_498 : (Jvm.Cond.fieldLink "LevelledRingModel" (26 : Nat) "LevelledRingModel" "small" "[I") ∈ TB := tb_of (List.mem_of_getElem? (i := 498) (by decide +kernel)) (by decide +kernel)
theorem t_499 : (Jvm.Cond.fieldLink "LevelledRingModel" (64 : Nat) "LevelledRingModel" "z" "I") ∈ TB := tb_of (List.mem_of_getElem? (i := 499) (by decide +kernel)) (by decide +kernel)
theorem t_500 : (Jvm.Cond.fieldLink "LevelledRingModel" (29 : Nat) "LevelledRingModel" "message" "[I") ∈ TB := tb_of (List.mem_of_getElem? (i := 500) (by decide +kernel)) (by decide +kernel)
theorem t_501 : (Jvm.Cond.fieldLink "LevelledRingModel" (98 : Nat) "LevelledRingModel" "count" "I") ∈ TB := tb_of (List.mem_of_getElem? (i := 501) (by decide +kernel)) (by decide +kernel)
theorem t_502 : (Jvm.Cond.fieldLink "LevelledRingModel" (32 : Nat) "LevelledRingModel" "kind" "[I") ∈ TB := tb_of (List.mem_of_getElem? (i := 502) (by decide +kernel)) (by decide +kernel)
theorem t_503 : (Jvm.Cond.fieldLink "LevelledRingModel" (35 : Nat) "LevelledRingModel" "first" "[I") ∈ TB := tb_of (List.mem_of_getElem? (i := 503) (by decide +kernel)) (by decide +kernel)
theorem t_504 : (Jvm.Cond.fieldLink "LevelledRingModel" (38 : Nat) "LevelledRingModel" "second" "[I") ∈ TB := tb_of (List.mem_of_getElem? (i := 504) (by decide +kernel)) (by decide +kernel)
theorem t_505 : (Jvm.Cond.fieldLink "LevelledRingModel" (41 : Nat) "LevelledRingModel" "plain" "[I") ∈ TB := tb_of (List.mem_of_getElem? (i := 505) (by decide +kernel)) (by decide +kernel)
theorem t_506 : (Jvm.Cond.fieldLink "LevelledRingModel" (44 : Nat) "LevelledRingModel" "has" "[Z") ∈ TB := tb_of (List.mem_of_getElem? (i := 506) (by decide +kernel)) (by decide +kernel)
theorem t_507 : (Jvm.Cond.fieldLink "LevelledRingModel" (48 : Nat) "LevelledRingModel" "level" "[I") ∈ TB := tb_of (List.mem_of_getElem? (i := 507) (by decide +kernel)) (by decide +kernel)
theorem t_508 : (Jvm.Cond.fieldLink "LevelledRingModel" (51 : Nat) "LevelledRingModel" "meter" "[J") ∈ TB := tb_of (List.mem_of_getElem? (i := 508) (by decide +kernel)) (by decide +kernel)
theorem t_509 : (Jvm.Cond.fieldLink "LevelledRingModel" (54 : Nat) "LevelledRingModel" "workLevel" "[I") ∈ TB := tb_of (List.mem_of_getElem? (i := 509) (by decide +kernel)) (by decide +kernel)
theorem t_510 : (Jvm.Cond.fieldLink "LevelledRingModel" (57 : Nat) "LevelledRingModel" "workMeter" "[J") ∈ TB := tb_of (List.mem_of_getElem? (i := 510) (by decide +kernel)) (by decide +kernel)
theorem t_511 : (Jvm.Cond.fieldLink "LevelledRingModel" (60 : Nat) "LevelledRingModel" "v" "[J") ∈ TB := tb_of (List.mem_of_getElem? (i := 511) (by decide +kernel)) (by decide +kernel)
theorem t_512 : (Jvm.Cond.laysFinal "LevelledRingModel" "LevelledRingModel" "row" "[J") ∈ TB := tb_of (List.mem_of_getElem? (i := 512) (by decide +kernel)) (by decide +kernel)
theorem t_513 : (Jvm.Cond.soleField "LevelledRingModel" "row") ∈ TB := tb_of (List.mem_of_getElem? (i := 513) (by decide +kernel)) (by decide +kernel)
theorem t_514 : (Jvm.Cond.laysFinal "LevelledRingModel" "LevelledRingModel" "prime" "[I") ∈ TB := tb_of (List.mem_of_getElem? (i := 514) (by decide +kernel)) (by decide +kernel)
theorem t_515 : (Jvm.Cond.soleField "LevelledRingModel" "prime") ∈ TB := tb_of (List.mem_of_getElem? (i := 515) (by decide +kernel)) (by decide +kernel)
theorem t_516 : (Jvm.Cond.laysFinal "LevelledRingModel" "LevelledRingModel" "big" "[J") ∈ TB := tb_of (List.mem_of_getElem? (i := 516) (by decide +kernel)) (by decide +kernel)
theorem t_517 : (Jvm.Cond.soleField "LevelledRingModel" "big") ∈ TB := tb_of (List.mem_of_getElem? (i := 517) (by decide +kernel)) (by decide +kernel)
theorem t_518 : (Jvm.Cond.laysFinal "LevelledRingModel" "LevelledRingModel" "unit" "[J") ∈ TB := tb_of (List.mem_of_getElem? (i := 518) (by decide +kernel)) (by decide +kernel)
theorem t_519 : (Jvm.Cond.soleField "LevelledRingModel" "unit") ∈ TB := tb_of (List.mem_of_getElem? (i := 519) (by decide +kernel)) (by decide +kernel)
theorem t_520 : (Jvm.Cond.laysFinal "LevelledRingModel" "LevelledRingModel" "secret" "[I") ∈ TB := tb_of (List.mem_of_getElem? (i := 520) (by decide +kernel)) (by decide +kernel)
theorem t_521 : (Jvm.Cond.soleField "LevelledRingModel" "secret") ∈ TB := tb_of (List.mem_of_getElem? (i := 521) (by decide +kernel)) (by decide +kernel)
theorem t_522 : (Jvm.Cond.laysFinal "LevelledRingModel" "LevelledRingModel" "small" "[I") ∈ TB := tb_of (List.mem_of_getElem? (i := 522) (by decide +kernel)) (by decide +kernel)
theorem t_523 : (Jvm.Cond.soleField "LevelledRingModel" "small") ∈ TB := tb_of (List.mem_of_getElem? (i := 523) (by decide +kernel)) (by decide +kernel)
theorem t_524 : (Jvm.Cond.lays "LevelledRingModel" "LevelledRingModel" "z" "I") ∈ TB := tb_of (List.mem_of_getElem? (i := 524) (by decide +kernel)) (by decide +kernel)
theorem t_525 : (Jvm.Cond.soleField "LevelledRingModel" "z") ∈ TB := tb_of (List.mem_of_getElem? (i := 525) (by decide +kernel)) (by decide +kernel)
theorem t_526 : (Jvm.Cond.laysFinal "LevelledRingModel" "LevelledRingModel" "message" "[I") ∈ TB := tb_of (List.mem_of_getElem? (i := 526) (by decide +kernel)) (by decide +kernel)
theorem t_527 : (Jvm.Cond.soleField "LevelledRingModel" "message") ∈ TB := tb_of (List.mem_of_getElem? (i := 527) (by decide +kernel)) (by decide +kernel)
theorem t_528 : (Jvm.Cond.lays "LevelledRingModel" "LevelledRingModel" "count" "I") ∈ TB := tb_of (List.mem_of_getElem? (i := 528) (by decide +kernel)) (by decide +kernel)
theorem t_529 : (Jvm.Cond.soleField "LevelledRingModel" "count") ∈ TB := tb_of (List.mem_of_getElem? (i := 529) (by decide +kernel)) (by decide +kernel)
theorem t_530 : (Jvm.Cond.laysFinal "LevelledRingModel" "LevelledRingModel" "kind" "[I") ∈ TB := tb_of (List.mem_of_getElem? (i := 530) (by decide +kernel)) (by decide +kernel)
theorem t_531 : (Jvm.Cond.soleField "LevelledRingModel" "kind") ∈ TB := tb_of (List.mem_of_getElem? (i := 531) (by decide +kernel)) (by decide +kernel)
theorem t_532 : (Jvm.Cond.laysFinal "LevelledRingModel" "LevelledRingModel" "first" "[I") ∈ TB := tb_of (List.mem_of_getElem? (i := 532) (by decide +kernel)) (by decide +kernel)
theorem t_533 : (Jvm.Cond.soleField "LevelledRingModel" "first") ∈ TB := tb_of (List.mem_of_getElem? (i := 533) (by decide +kernel)) (by decide +kernel)
theorem t_534 : (Jvm.Cond.laysFinal "LevelledRingModel" "LevelledRingModel" "second" "[I") ∈ TB := tb_of (List.mem_of_getElem? (i := 534) (by decide +kernel)) (by decide +kernel)
theorem t_535 : (Jvm.Cond.soleField "LevelledRingModel" "second") ∈ TB := tb_of (List.mem_of_getElem? (i := 535) (by decide +kernel)) (by decide +kernel)
theorem t_536 : (Jvm.Cond.laysFinal "LevelledRingModel" "LevelledRingModel" "plain" "[I") ∈ TB := tb_of (List.mem_of_getElem? (i := 536) (by decide +kernel)) (by decide +kernel)
theorem t_537 : (Jvm.Cond.soleField "LevelledRingModel" "plain") ∈ TB := tb_of (List.mem_of_getElem? (i := 537) (by decide +kernel)) (by decide +kernel)
theorem t_538 : (Jvm.Cond.laysFinal "LevelledRingModel" "LevelledRingModel" "has" "[Z") ∈ TB := tb_of (List.mem_of_getElem? (i := 538) (by decide +kernel)) (by decide +kernel)
theorem t_539 : (Jvm.Cond.soleField "LevelledRingModel" "has") ∈ TB := tb_of (List.mem_of_getElem? (i := 539) (by decide +kernel)) (by decide +kernel)
theorem t_540 : (Jvm.Cond.laysFinal "LevelledRingModel" "LevelledRingModel" "level" "[I") ∈ TB := tb_of (List.mem_of_getElem? (i := 540) (by decide +kernel)) (by decide +kernel)
theorem t_541 : (Jvm.Cond.soleField "LevelledRingModel" "level") ∈ TB := tb_of (List.mem_of_getElem? (i := 541) (by decide +kernel)) (by decide +kernel)
theorem t_542 : (Jvm.Cond.laysFinal "LevelledRingModel" "LevelledRingModel" "meter" "[J") ∈ TB := tb_of (List.mem_of_getElem? (i := 542) (by decide +kernel)) (by decide +kernel)
theorem t_543 : (Jvm.Cond.soleField "LevelledRingModel" "meter") ∈ TB := tb_of (List.mem_of_getElem? (i := 543) (by decide +kernel)) (by decide +kernel)
theorem t_544 : (Jvm.Cond.laysFinal "LevelledRingModel" "LevelledRingModel" "workLevel" "[I") ∈ TB := tb_of (List.mem_of_getElem? (i := 544) (by decide +kernel)) (by decide +kernel)
theorem t_545 : (Jvm.Cond.soleField "LevelledRingModel" "workLevel") ∈ TB := tb_of (List.mem_of_getElem? (i := 545) (by decide +kernel)) (by decide +kernel)
theorem t_546 : (Jvm.Cond.laysFinal "LevelledRingModel" "LevelledRingModel" "workMeter" "[J") ∈ TB := tb_of (List.mem_of_getElem? (i := 546) (by decide +kernel)) (by decide +kernel)
theorem t_547 : (Jvm.Cond.soleField "LevelledRingModel" "workMeter") ∈ TB := tb_of (List.mem_of_getElem? (i := 547) (by decide +kernel)) (by decide +kernel)
theorem t_548 : (Jvm.Cond.laysFinal "LevelledRingModel" "LevelledRingModel" "v" "[J") ∈ TB := tb_of (List.mem_of_getElem? (i := 548) (by decide +kernel)) (by decide +kernel)
theorem t_549 : (Jvm.Cond.soleField "LevelledRingModel" "v") ∈ TB := tb_of (List.mem_of_getElem? (i := 549) (by decide +kernel)) (by decide +kernel)
theorem t_550 : (Jvm.Cond.superclass "LevelledRingModel" "java/lang/Object") ∈ TB := tb_of (List.mem_of_getElem? (i := 550) (by decide +kernel)) (by decide +kernel)
theorem t_551 : (Jvm.Cond.arrayClass Jvm.ClassFile.FieldType.long) ∈ TB := tb_of (List.mem_of_getElem? (i := 551) (by decide +kernel)) (by decide +kernel)
theorem t_552 : (Jvm.Cond.arrayClass Jvm.ClassFile.FieldType.boolean) ∈ TB := tb_of (List.mem_of_getElem? (i := 552) (by decide +kernel)) (by decide +kernel)
theorem t_553 : (Jvm.Cond.methodLink "LevelledRingLaw" (25 : Nat) ({ cls := "LevelledRingModel", name := "put", desc := "(II)Z" } : Jvm.MethodName)) ∈ TB := tb_of (List.mem_of_getElem? (i := 553) (by decide +kernel)) (by decide +kernel)
theorem t_554 : (Jvm.Cond.instanceMethod ({ cls := "LevelledRingModel", name := "put", desc := "(II)Z" } : Jvm.MethodName)) ∈ TB := tb_of (List.mem_of_getElem? (i := 554) (by decide +kernel)) (by decide +kernel)
theorem t_555 : (Jvm.Cond.selects "LevelledRingModel" ({ cls := "LevelledRingModel", name := "put", desc := "(II)Z" } : Jvm.MethodName) ({ cls := "LevelledRingModel", name := "put", desc := "(II)Z" } : Jvm.MethodName)) ∈ TB := tb_of (List.mem_of_getElem? (i := 555) (by decide +kernel)) (by decide +kernel)
theorem t_556 : (Jvm.Cond.code ({ cls := "LevelledRingModel", name := "put", desc := "(II)Z" } : Jvm.MethodName) prog_10_method_10_code (3 : Nat) (Option.some Jvm.ClassFile.FieldType.boolean)) ∈ TB := tb_of (List.mem_of_getElem? (i := 556) (by decide +kernel)) (by decide +kernel)
theorem t_557 : (Jvm.Cond.constantLong "LevelledRingModel" (96 : Nat) (17 : Int64)) ∈ TB := tb_of (List.mem_of_getElem? (i := 557) (by decide +kernel)) (by decide +kernel)
theorem t_558 : (Jvm.Cond.methodLink "LevelledRingLaw" (30 : Nat) ({ cls := "LevelledRingModel", name := "input", desc := "(I)I" } : Jvm.MethodName)) ∈ TB := tb_of (List.mem_of_getElem? (i := 558) (by decide +kernel)) (by decide +kernel)
theorem t_559 : (Jvm.Cond.instanceMethod ({ cls := "LevelledRingModel", name := "input", desc := "(I)I" } : Jvm.MethodName)) ∈ TB := tb_of (List.mem_of_getElem? (i := 559) (by decide +kernel)) (by decide +kernel)
theorem t_560 : (Jvm.Cond.selects "LevelledRingModel" ({ cls := "LevelledRingModel", name := "input", desc := "(I)I" } : Jvm.MethodName) ({ cls := "LevelledRingModel", name := "input", desc := "(I)I" } : Jvm.MethodName)) ∈ TB := tb_of (List.mem_of_getElem? (i := 560) (by decide +kernel)) (by decide +kernel)
theorem t_561 : (Jvm.Cond.code ({ cls := "LevelledRingModel", name := "input", desc := "(I)I" } : Jvm.MethodName) prog_10_method_15_code (2 : Nat) (Option.some Jvm.ClassFile.FieldType.int)) ∈ TB := tb_of (List.mem_of_getElem? (i := 561) (by decide +kernel)) (by decide +kernel)
theorem t_562 : (Jvm.Cond.methodLink "LevelledRingModel" (109 : Nat) ({ cls := "LevelledRingModel", name := "add", desc := "(III)I" } : Jvm.MethodName)) ∈ TB := tb_of (List.mem_of_getElem? (i := 562) (by decide +kernel)) (by decide +kernel)
theorem t_564 : (Jvm.Cond.instanceMethod ({ cls := "LevelledRingModel", name := "add", desc := "(III)I" } : Jvm.MethodName)) ∈ TB := tb_of (List.mem_of_getElem? (i := 564) (by decide +kernel)) (by decide +kernel)
theorem t_565 : (Jvm.Cond.code ({ cls := "LevelledRingModel", name := "add", desc := "(III)I" } : Jvm.MethodName) prog_10_method_12_code (5 : Nat) (Option.some Jvm.ClassFile.FieldType.int)) ∈ TB := tb_of (List.mem_of_getElem? (i := 565) (by decide +kernel)) (by decide +kernel)
theorem t_566 : (Jvm.Cond.methodLink "LevelledRingModel" (101 : Nat) ({ cls := "LevelledRingModel", name := "plainOf", desc := "(IIII)I" } : Jvm.MethodName)) ∈ TB := tb_of (List.mem_of_getElem? (i := 566) (by decide +kernel)) (by decide +kernel)
theorem t_568 : (Jvm.Cond.instanceMethod ({ cls := "LevelledRingModel", name := "plainOf", desc := "(IIII)I" } : Jvm.MethodName)) ∈ TB := tb_of (List.mem_of_getElem? (i := 568) (by decide +kernel)) (by decide +kernel)
theorem t_569 : (Jvm.Cond.code ({ cls := "LevelledRingModel", name := "plainOf", desc := "(IIII)I" } : Jvm.MethodName) prog_10_method_13_code (8 : Nat) (Option.some Jvm.ClassFile.FieldType.int)) ∈ TB := tb_of (List.mem_of_getElem? (i := 569) (by decide +kernel)) (by decide +kernel)
theorem t_570 : (Jvm.Cond.methodLink "LevelledRingModel" (105 : Nat) ({ cls := "LevelledRingModel", name := "sign", desc := "(II)I" } : Jvm.MethodName)) ∈ TB := tb_of (List.mem_of_getElem? (i := 570) (by decide +kernel)) (by decide +kernel)
theorem t_571 : (Jvm.Cond.static ({ cls := "LevelledRingModel", name := "sign", desc := "(II)I" } : Jvm.MethodName)) ∈ TB := tb_of (List.mem_of_getElem? (i := 571) (by decide +kernel)) (by decide +kernel)
theorem t_572 : (Jvm.Cond.code ({ cls := "LevelledRingModel", name := "sign", desc := "(II)I" } : Jvm.MethodName) prog_10_method_14_code (3 : Nat) (Option.some Jvm.ClassFile.FieldType.int)) ∈ TB := tb_of (List.mem_of_getElem? (i := 572) (by decide +kernel)) (by decide +kernel)
theorem t_573 : (Jvm.Cond.methodLink "LevelledRingLaw" (35 : Nat) ({ cls := "LevelledRingModel", name := "sum", desc := "(II)I" } : Jvm.MethodName)) ∈ TB := tb_of (List.mem_of_getElem? (i := 573) (by decide +kernel)) (by decide +kernel)
theorem t_574 : (Jvm.Cond.instanceMethod ({ cls := "LevelledRingModel", name := "sum", desc := "(II)I" } : Jvm.MethodName)) ∈ TB := tb_of (List.mem_of_getElem? (i := 574) (by decide +kernel)) (by decide +kernel)
theorem t_575 : (Jvm.Cond.selects "LevelledRingModel" ({ cls := "LevelledRingModel", name := "sum", desc := "(II)I" } : Jvm.MethodName) ({ cls := "LevelledRingModel", name := "sum", desc := "(II)I" } : Jvm.MethodName)) ∈ TB := tb_of (List.mem_of_getElem? (i := 575) (by decide +kernel)) (by decide +kernel)
theorem t_576 : (Jvm.Cond.code ({ cls := "LevelledRingModel", name := "sum", desc := "(II)I" } : Jvm.MethodName) prog_10_method_17_code (3 : Nat) (Option.some Jvm.ClassFile.FieldType.int)) ∈ TB := tb_of (List.mem_of_getElem? (i := 576) (by decide +kernel)) (by decide +kernel)
theorem t_577 : (Jvm.Cond.methodLink "LevelledRingModel" (117 : Nat) ({ cls := "LevelledRingModel", name := "pair", desc := "(III)I" } : Jvm.MethodName)) ∈ TB := tb_of (List.mem_of_getElem? (i := 577) (by decide +kernel)) (by decide +kernel)
theorem t_579 : (Jvm.Cond.instanceMethod ({ cls := "LevelledRingModel", name := "pair", desc := "(III)I" } : Jvm.MethodName)) ∈ TB := tb_of (List.mem_of_getElem? (i := 579) (by decide +kernel)) (by decide +kernel)
theorem t_580 : (Jvm.Cond.code ({ cls := "LevelledRingModel", name := "pair", desc := "(III)I" } : Jvm.MethodName) prog_10_method_16_code (4 : Nat) (Option.some Jvm.ClassFile.FieldType.int)) ∈ TB := tb_of (List.mem_of_getElem? (i := 580) (by decide +kernel)) (by decide +kernel)
theorem t_581 : (Jvm.Cond.methodLink "LevelledRingModel" (113 : Nat) ({ cls := "LevelledRingModel", name := "isGate", desc := "(I)Z" } : Jvm.MethodName)) ∈ TB := tb_of (List.mem_of_getElem? (i := 581) (by decide +kernel)) (by decide +kernel)
theorem t_583 : (Jvm.Cond.instanceMethod ({ cls := "LevelledRingModel", name := "isGate", desc := "(I)Z" } : Jvm.MethodName)) ∈ TB := tb_of (List.mem_of_getElem? (i := 583) (by decide +kernel)) (by decide +kernel)
theorem t_584 : (Jvm.Cond.code ({ cls := "LevelledRingModel", name := "isGate", desc := "(I)Z" } : Jvm.MethodName) prog_10_method_11_code (2 : Nat) (Option.some Jvm.ClassFile.FieldType.boolean)) ∈ TB := tb_of (List.mem_of_getElem? (i := 584) (by decide +kernel)) (by decide +kernel)
theorem t_585 : (Jvm.Cond.methodLink "LevelledRingLaw" (39 : Nat) ({ cls := "LevelledRingModel", name := "difference", desc := "(II)I" } : Jvm.MethodName)) ∈ TB := tb_of (List.mem_of_getElem? (i := 585) (by decide +kernel)) (by decide +kernel)
theorem t_586 : (Jvm.Cond.instanceMethod ({ cls := "LevelledRingModel", name := "difference", desc := "(II)I" } : Jvm.MethodName)) ∈ TB := tb_of (List.mem_of_getElem? (i := 586) (by decide +kernel)) (by decide +kernel)
theorem t_587 : (Jvm.Cond.selects "LevelledRingModel" ({ cls := "LevelledRingModel", name := "difference", desc := "(II)I" } : Jvm.MethodName) ({ cls := "LevelledRingModel", name := "difference", desc := "(II)I" } : Jvm.MethodName)) ∈ TB := tb_of (List.mem_of_getElem? (i := 587) (by decide +kernel)) (by decide +kernel)
theorem t_588 : (Jvm.Cond.code ({ cls := "LevelledRingModel", name := "difference", desc := "(II)I" } : Jvm.MethodName) prog_10_method_18_code (3 : Nat) (Option.some Jvm.ClassFile.FieldType.int)) ∈ TB := tb_of (List.mem_of_getElem? (i := 588) (by decide +kernel)) (by decide +kernel)
theorem t_589 : (Jvm.Cond.methodLink "LevelledRingLaw" (43 : Nat) ({ cls := "LevelledRingModel", name := "product", desc := "(II)I" } : Jvm.MethodName)) ∈ TB := tb_of (List.mem_of_getElem? (i := 589) (by decide +kernel)) (by decide +kernel)
theorem t_590 : (Jvm.Cond.instanceMethod ({ cls := "LevelledRingModel", name := "product", desc := "(II)I" } : Jvm.MethodName)) ∈ TB := tb_of (List.mem_of_getElem? (i := 590) (by decide +kernel)) (by decide +kernel)
theorem t_591 : (Jvm.Cond.selects "LevelledRingModel" ({ cls := "LevelledRingModel", name := "product", desc := "(II)I" } : Jvm.MethodName) ({ cls := "LevelledRingModel", name := "product", desc := "(II)I" } : Jvm.MethodName)) ∈ TB := tb_of (List.mem_of_getElem? (i := 591) (by decide +kernel)) (by decide +kernel)
theorem t_592 : (Jvm.Cond.code ({ cls := "LevelledRingModel", name := "product", desc := "(II)I" } : Jvm.MethodName) prog_10_method_19_code (3 : Nat) (Option.some Jvm.ClassFile.FieldType.int)) ∈ TB := tb_of (List.mem_of_getElem? (i := 592) (by decide +kernel)) (by decide +kernel)
theorem t_593 : (Jvm.Cond.methodLink "LevelledRingLaw" (47 : Nat) ({ cls := "LevelledRingModel", name := "shift", desc := "(II)I" } : Jvm.MethodName)) ∈ TB := tb_of (List.mem_of_getElem? (i := 593) (by decide +kernel)) (by decide +kernel)
theorem t_594 : (Jvm.Cond.instanceMethod ({ cls := "LevelledRingModel", name := "shift", desc := "(II)I" } : Jvm.MethodName)) ∈ TB := tb_of (List.mem_of_getElem? (i := 594) (by decide +kernel)) (by decide +kernel)
theorem t_595 : (Jvm.Cond.selects "LevelledRingModel" ({ cls := "LevelledRingModel", name := "shift", desc := "(II)I" } : Jvm.MethodName) ({ cls := "LevelledRingModel", name := "shift", desc := "(II)I" } : Jvm.MethodName)) ∈ TB := tb_of (List.mem_of_getElem? (i := 595) (by decide +kernel)) (by decide +kernel)
theorem t_596 : (Jvm.Cond.code ({ cls := "LevelledRingModel", name := "shift", desc := "(II)I" } : Jvm.MethodName) prog_10_method_20_code (3 : Nat) (Option.some Jvm.ClassFile.FieldType.int)) ∈ TB := tb_of (List.mem_of_getElem? (i := 596) (by decide +kernel)) (by decide +kernel)
theorem t_597 : (Jvm.Cond.methodLink "LevelledRingLaw" (51 : Nat) ({ cls := "LevelledRingModel", name := "lowered", desc := "(I)I" } : Jvm.MethodName)) ∈ TB := tb_of (List.mem_of_getElem? (i := 597) (by decide +kernel)) (by decide +kernel)
theorem t_598 : (Jvm.Cond.instanceMethod ({ cls := "LevelledRingModel", name := "lowered", desc := "(I)I" } : Jvm.MethodName)) ∈ TB := tb_of (List.mem_of_getElem? (i := 598) (by decide +kernel)) (by decide +kernel)
theorem t_599 : (Jvm.Cond.selects "LevelledRingModel" ({ cls := "LevelledRingModel", name := "lowered", desc := "(I)I" } : Jvm.MethodName) ({ cls := "LevelledRingModel", name := "lowered", desc := "(I)I" } : Jvm.MethodName)) ∈ TB := tb_of (List.mem_of_getElem? (i := 599) (by decide +kernel)) (by decide +kernel)
theorem t_600 : (Jvm.Cond.code ({ cls := "LevelledRingModel", name := "lowered", desc := "(I)I" } : Jvm.MethodName) prog_10_method_21_code (2 : Nat) (Option.some Jvm.ClassFile.FieldType.int)) ∈ TB := tb_of (List.mem_of_getElem? (i := 600) (by decide +kernel)) (by decide +kernel)
theorem t_601 : (Jvm.Cond.methodLink "LevelledRingLaw" (56 : Nat) ({ cls := "LevelledRingModel", name := "count", desc := "()I" } : Jvm.MethodName)) ∈ TB := tb_of (List.mem_of_getElem? (i := 601) (by decide +kernel)) (by decide +kernel)
theorem t_602 : (Jvm.Cond.instanceMethod ({ cls := "LevelledRingModel", name := "count", desc := "()I" } : Jvm.MethodName)) ∈ TB := tb_of (List.mem_of_getElem? (i := 602) (by decide +kernel)) (by decide +kernel)
theorem t_603 : (Jvm.Cond.selects "LevelledRingModel" ({ cls := "LevelledRingModel", name := "count", desc := "()I" } : Jvm.MethodName) ({ cls := "LevelledRingModel", name := "count", desc := "()I" } : Jvm.MethodName)) ∈ TB := tb_of (List.mem_of_getElem? (i := 603) (by decide +kernel)) (by decide +kernel)
theorem t_604 : (Jvm.Cond.code ({ cls := "LevelledRingModel", name := "count", desc := "()I" } : Jvm.MethodName) prog_10_method_22_code (1 : Nat) (Option.some Jvm.ClassFile.FieldType.int)) ∈ TB := tb_of (List.mem_of_getElem? (i := 604) (by decide +kernel)) (by decide +kernel)
theorem t_605 : (Jvm.Cond.methodLink "LevelledRingLaw" (61 : Nat) ({ cls := "LevelledRingModel", name := "cut", desc := "(I)Z" } : Jvm.MethodName)) ∈ TB := tb_of (List.mem_of_getElem? (i := 605) (by decide +kernel)) (by decide +kernel)
theorem t_606 : (Jvm.Cond.instanceMethod ({ cls := "LevelledRingModel", name := "cut", desc := "(I)Z" } : Jvm.MethodName)) ∈ TB := tb_of (List.mem_of_getElem? (i := 606) (by decide +kernel)) (by decide +kernel)
theorem t_607 : (Jvm.Cond.selects "LevelledRingModel" ({ cls := "LevelledRingModel", name := "cut", desc := "(I)Z" } : Jvm.MethodName) ({ cls := "LevelledRingModel", name := "cut", desc := "(I)Z" } : Jvm.MethodName)) ∈ TB := tb_of (List.mem_of_getElem? (i := 607) (by decide +kernel)) (by decide +kernel)
theorem t_608 : (Jvm.Cond.code ({ cls := "LevelledRingModel", name := "cut", desc := "(I)Z" } : Jvm.MethodName) prog_10_method_23_code (2 : Nat) (Option.some Jvm.ClassFile.FieldType.boolean)) ∈ TB := tb_of (List.mem_of_getElem? (i := 608) (by decide +kernel)) (by decide +kernel)
theorem t_609 : (Jvm.Cond.methodLink "LevelledRingLaw" (65 : Nat) ({ cls := "LevelledRingModel", name := "run", desc := "()I" } : Jvm.MethodName)) ∈ TB := tb_of (List.mem_of_getElem? (i := 609) (by decide +kernel)) (by decide +kernel)
theorem t_610 : (Jvm.Cond.instanceMethod ({ cls := "LevelledRingModel", name := "run", desc := "()I" } : Jvm.MethodName)) ∈ TB := tb_of (List.mem_of_getElem? (i := 610) (by decide +kernel)) (by decide +kernel)
theorem t_611 : (Jvm.Cond.selects "LevelledRingModel" ({ cls := "LevelledRingModel", name := "run", desc := "()I" } : Jvm.MethodName) ({ cls := "LevelledRingModel", name := "run", desc := "()I" } : Jvm.MethodName)) ∈ TB := tb_of (List.mem_of_getElem? (i := 611) (by decide +kernel)) (by decide +kernel)
theorem t_612 : (Jvm.Cond.code ({ cls := "LevelledRingModel", name := "run", desc := "()I" } : Jvm.MethodName) prog_10_method_33_code (2 : Nat) (Option.some Jvm.ClassFile.FieldType.int)) ∈ TB := tb_of (List.mem_of_getElem? (i := 612) (by decide +kernel)) (by decide +kernel)
theorem t_613 : (Jvm.Cond.methodLink "LevelledRingModel" (166 : Nat) ({ cls := "LevelledRingModel", name := "value", desc := "(I)Z" } : Jvm.MethodName)) ∈ TB := tb_of (List.mem_of_getElem? (i := 613) (by decide +kernel)) (by decide +kernel)
theorem t_615 : (Jvm.Cond.instanceMethod ({ cls := "LevelledRingModel", name := "value", desc := "(I)Z" } : Jvm.MethodName)) ∈ TB := tb_of (List.mem_of_getElem? (i := 615) (by decide +kernel)) (by decide +kernel)
theorem t_616 : (Jvm.Cond.code ({ cls := "LevelledRingModel", name := "value", desc := "(I)Z" } : Jvm.MethodName) prog_10_method_29_code (8 : Nat) (Option.some Jvm.ClassFile.FieldType.boolean)) ∈ TB := tb_of (List.mem_of_getElem? (i := 616) (by decide +kernel)) (by decide +kernel)
theorem t_617 : (Jvm.Cond.methodLink "LevelledRingModel" (139 : Nat) ({ cls := "LevelledRingModel", name := "encrypt", desc := "(I)Z" } : Jvm.MethodName)) ∈ TB := tb_of (List.mem_of_getElem? (i := 617) (by decide +kernel)) (by decide +kernel)
theorem t_619 : (Jvm.Cond.instanceMethod ({ cls := "LevelledRingModel", name := "encrypt", desc := "(I)Z" } : Jvm.MethodName)) ∈ TB := tb_of (List.mem_of_getElem? (i := 619) (by decide +kernel)) (by decide +kernel)
theorem t_620 : (Jvm.Cond.code ({ cls := "LevelledRingModel", name := "encrypt", desc := "(I)Z" } : Jvm.MethodName) prog_10_method_30_code (6 : Nat) (Option.some Jvm.ClassFile.FieldType.boolean)) ∈ TB := tb_of (List.mem_of_getElem? (i := 620) (by decide +kernel)) (by decide +kernel)
theorem t_621 : (Jvm.Cond.constantLong "LevelledRingModel" (153 : Nat) (33 : Int64)) ∈ TB := tb_of (List.mem_of_getElem? (i := 621) (by decide +kernel)) (by decide +kernel)
theorem t_622 : (Jvm.Cond.methodLink "LevelledRingModel" (149 : Nat) ({ cls := "LevelledRingModel", name := "keep", desc := "(IIJ)Z" } : Jvm.MethodName)) ∈ TB := tb_of (List.mem_of_getElem? (i := 622) (by decide +kernel)) (by decide +kernel)
theorem t_624 : (Jvm.Cond.instanceMethod ({ cls := "LevelledRingModel", name := "keep", desc := "(IIJ)Z" } : Jvm.MethodName)) ∈ TB := tb_of (List.mem_of_getElem? (i := 624) (by decide +kernel)) (by decide +kernel)
theorem t_625 : (Jvm.Cond.code ({ cls := "LevelledRingModel", name := "keep", desc := "(IIJ)Z" } : Jvm.MethodName) prog_10_method_28_code (5 : Nat) (Option.some Jvm.ClassFile.FieldType.boolean)) ∈ TB := tb_of (List.mem_of_getElem? (i := 625) (by decide +kernel)) (by decide +kernel)
theorem t_626 : (Jvm.Cond.methodLink "LevelledRingModel" (128 : Nat) ({ cls := "LevelledRingModel", name := "tooGreat", desc := "(JI)Z" } : Jvm.MethodName)) ∈ TB := tb_of (List.mem_of_getElem? (i := 626) (by decide +kernel)) (by decide +kernel)
theorem t_628 : (Jvm.Cond.instanceMethod ({ cls := "LevelledRingModel", name := "tooGreat", desc := "(JI)Z" } : Jvm.MethodName)) ∈ TB := tb_of (List.mem_of_getElem? (i := 628) (by decide +kernel)) (by decide +kernel)
theorem t_629 : (Jvm.Cond.code ({ cls := "LevelledRingModel", name := "tooGreat", desc := "(JI)Z" } : Jvm.MethodName) prog_10_method_24_code (4 : Nat) (Option.some Jvm.ClassFile.FieldType.boolean)) ∈ TB := tb_of (List.mem_of_getElem? (i := 629) (by decide +kernel)) (by decide +kernel)
theorem t_630 : (Jvm.Cond.constantLong "LevelledRingModel" (120 : Nat) (2 : Int64)) ∈ TB := tb_of (List.mem_of_getElem? (i := 630) (by decide +kernel)) (by decide +kernel)
theorem t_631 : (Jvm.Cond.methodLink "LevelledRingModel" (142 : Nat) ({ cls := "LevelledRingModel", name := "multiply", desc := "(I)Z" } : Jvm.MethodName)) ∈ TB := tb_of (List.mem_of_getElem? (i := 631) (by decide +kernel)) (by decide +kernel)
theorem t_633 : (Jvm.Cond.instanceMethod ({ cls := "LevelledRingModel", name := "multiply", desc := "(I)Z" } : Jvm.MethodName)) ∈ TB := tb_of (List.mem_of_getElem? (i := 633) (by decide +kernel)) (by decide +kernel)
theorem t_634 : (Jvm.Cond.code ({ cls := "LevelledRingModel", name := "multiply", desc := "(I)Z" } : Jvm.MethodName) prog_10_method_32_code (10 : Nat) (Option.some Jvm.ClassFile.FieldType.boolean)) ∈ TB := tb_of (List.mem_of_getElem? (i := 634) (by decide +kernel)) (by decide +kernel)
theorem t_635 : (Jvm.Cond.methodLink "LevelledRingModel" (155 : Nat) ({ cls := "LevelledRingModel", name := "level2", desc := "(II)Z" } : Jvm.MethodName)) ∈ TB := tb_of (List.mem_of_getElem? (i := 635) (by decide +kernel)) (by decide +kernel)
theorem t_637 : (Jvm.Cond.instanceMethod ({ cls := "LevelledRingModel", name := "level2", desc := "(II)Z" } : Jvm.MethodName)) ∈ TB := tb_of (List.mem_of_getElem? (i := 637) (by decide +kernel)) (by decide +kernel)
theorem t_638 : (Jvm.Cond.code ({ cls := "LevelledRingModel", name := "level2", desc := "(II)Z" } : Jvm.MethodName) prog_10_method_27_code (5 : Nat) (Option.some Jvm.ClassFile.FieldType.boolean)) ∈ TB := tb_of (List.mem_of_getElem? (i := 638) (by decide +kernel)) (by decide +kernel)
theorem t_639 : (Jvm.Cond.methodLink "LevelledRingModel" (132 : Nat) ({ cls := "LevelledRingModel", name := "load", desc := "(II)V" } : Jvm.MethodName)) ∈ TB := tb_of (List.mem_of_getElem? (i := 639) (by decide +kernel)) (by decide +kernel)
theorem t_641 : (Jvm.Cond.instanceMethod ({ cls := "LevelledRingModel", name := "load", desc := "(II)V" } : Jvm.MethodName)) ∈ TB := tb_of (List.mem_of_getElem? (i := 641) (by decide +kernel)) (by decide +kernel)
theorem t_642 : (Jvm.Cond.code ({ cls := "LevelledRingModel", name := "load", desc := "(II)V" } : Jvm.MethodName) prog_10_method_25_code (4 : Nat) (Option.none : Option Jvm.ClassFile.FieldType)) ∈ TB := tb_of (List.mem_of_getElem? (i := 642) (by decide +kernel)) (by decide +kernel)
theorem t_643 : (Jvm.Cond.methodLink "LevelledRingModel" (136 : Nat) ({ cls := "LevelledRingModel", name := "lower", desc := "(I)Z" } : Jvm.MethodName)) ∈ TB := tb_of (List.mem_of_getElem? (i := 643) (by decide +kernel)) (by decide +kernel)
theorem t_645 : (Jvm.Cond.instanceMethod ({ cls := "LevelledRingModel", name := "lower", desc := "(I)Z" } : Jvm.MethodName)) ∈ TB := tb_of (List.mem_of_getElem? (i := 645) (by decide +kernel)) (by decide +kernel)
theorem t_646 : (Jvm.Cond.code ({ cls := "LevelledRingModel", name := "lower", desc := "(I)Z" } : Jvm.MethodName) prog_10_method_26_code (12 : Nat) (Option.some Jvm.ClassFile.FieldType.boolean)) ∈ TB := tb_of (List.mem_of_getElem? (i := 646) (by decide +kernel)) (by decide +kernel)
theorem t_647 : (Jvm.Cond.constantLong "LevelledRingModel" (122 : Nat) (-8 : Int64)) ∈ TB := tb_of (List.mem_of_getElem? (i := 647) (by decide +kernel)) (by decide +kernel)
theorem t_648 : (Jvm.Cond.constantLong "LevelledRingModel" (124 : Nat) (8 : Int64)) ∈ TB := tb_of (List.mem_of_getElem? (i := 648) (by decide +kernel)) (by decide +kernel)
theorem t_649 : (Jvm.Cond.constantLong "LevelledRingModel" (126 : Nat) (77 : Int64)) ∈ TB := tb_of (List.mem_of_getElem? (i := 649) (by decide +kernel)) (by decide +kernel)
theorem t_650 : (Jvm.Cond.constantLong "LevelledRingModel" (158 : Nat) (1000 : Int64)) ∈ TB := tb_of (List.mem_of_getElem? (i := 650) (by decide +kernel)) (by decide +kernel)
theorem t_651 : (Jvm.Cond.methodLink "LevelledRingModel" (160 : Nat) ({ cls := "LevelledRingModel", name := "addProduct", desc := "(IIIJ)V" } : Jvm.MethodName)) ∈ TB := tb_of (List.mem_of_getElem? (i := 651) (by decide +kernel)) (by decide +kernel)
theorem t_653 : (Jvm.Cond.instanceMethod ({ cls := "LevelledRingModel", name := "addProduct", desc := "(IIIJ)V" } : Jvm.MethodName)) ∈ TB := tb_of (List.mem_of_getElem? (i := 653) (by decide +kernel)) (by decide +kernel)
theorem t_654 : (Jvm.Cond.code ({ cls := "LevelledRingModel", name := "addProduct", desc := "(IIIJ)V" } : Jvm.MethodName) prog_10_method_9_code (11 : Nat) (Option.none : Option Jvm.ClassFile.FieldType)) ∈ TB := tb_of (List.mem_of_getElem? (i := 654) (by decide +kernel)) (by decide +kernel)
theorem t_655 : (Jvm.Cond.constantLong "LevelledRingModel" (164 : Nat) (136 : Int64)) ∈ TB := tb_of (List.mem_of_getElem? (i := 655) (by decide +kernel)) (by decide +kernel)
theorem t_656 : (Jvm.Cond.methodLink "LevelledRingModel" (145 : Nat) ({ cls := "LevelledRingModel", name := "combine", desc := "(II)Z" } : Jvm.MethodName)) ∈ TB := tb_of (List.mem_of_getElem? (i := 656) (by decide +kernel)) (by decide +kernel)
theorem t_658 : (Jvm.Cond.instanceMethod ({ cls := "LevelledRingModel", name := "combine", desc := "(II)Z" } : Jvm.MethodName)) ∈ TB := tb_of (List.mem_of_getElem? (i := 658) (by decide +kernel)) (by decide +kernel)
theorem t_659 : (Jvm.Cond.code ({ cls := "LevelledRingModel", name := "combine", desc := "(II)Z" } : Jvm.MethodName) prog_10_method_31_code (5 : Nat) (Option.some Jvm.ClassFile.FieldType.boolean)) ∈ TB := tb_of (List.mem_of_getElem? (i := 659) (by decide +kernel)) (by decide +kernel)
theorem t_660 : (Jvm.Cond.methodLink "LevelledRingLaw" (69 : Nat) ({ cls := "LevelledRingModel", name := "level", desc := "(I)I" } : Jvm.MethodName)) ∈ TB := tb_of (List.mem_of_getElem? (i := 660) (by decide +kernel)) (by decide +kernel)
theorem t_661 : (Jvm.Cond.instanceMethod ({ cls := "LevelledRingModel", name := "level", desc := "(I)I" } : Jvm.MethodName)) ∈ TB := tb_of (List.mem_of_getElem? (i := 661) (by decide +kernel)) (by decide +kernel)
theorem t_662 : (Jvm.Cond.selects "LevelledRingModel" ({ cls := "LevelledRingModel", name := "level", desc := "(I)I" } : Jvm.MethodName) ({ cls := "LevelledRingModel", name := "level", desc := "(I)I" } : Jvm.MethodName)) ∈ TB := tb_of (List.mem_of_getElem? (i := 662) (by decide +kernel)) (by decide +kernel)
theorem t_663 : (Jvm.Cond.code ({ cls := "LevelledRingModel", name := "level", desc := "(I)I" } : Jvm.MethodName) prog_10_method_35_code (2 : Nat) (Option.some Jvm.ClassFile.FieldType.int)) ∈ TB := tb_of (List.mem_of_getElem? (i := 663) (by decide +kernel)) (by decide +kernel)
theorem t_664 : (Jvm.Cond.methodLink "LevelledRingModel" (169 : Nat) ({ cls := "LevelledRingModel", name := "valued", desc := "(I)Z" } : Jvm.MethodName)) ∈ TB := tb_of (List.mem_of_getElem? (i := 664) (by decide +kernel)) (by decide +kernel)
theorem t_666 : (Jvm.Cond.instanceMethod ({ cls := "LevelledRingModel", name := "valued", desc := "(I)Z" } : Jvm.MethodName)) ∈ TB := tb_of (List.mem_of_getElem? (i := 666) (by decide +kernel)) (by decide +kernel)
theorem t_667 : (Jvm.Cond.code ({ cls := "LevelledRingModel", name := "valued", desc := "(I)Z" } : Jvm.MethodName) prog_10_method_34_code (2 : Nat) (Option.some Jvm.ClassFile.FieldType.boolean)) ∈ TB := tb_of (List.mem_of_getElem? (i := 667) (by decide +kernel)) (by decide +kernel)
theorem t_668 : (Jvm.Cond.methodLink "LevelledRingLaw" (74 : Nat) ({ cls := "LevelledRingModel", name := "meter", desc := "(I)J" } : Jvm.MethodName)) ∈ TB := tb_of (List.mem_of_getElem? (i := 668) (by decide +kernel)) (by decide +kernel)
theorem t_669 : (Jvm.Cond.instanceMethod ({ cls := "LevelledRingModel", name := "meter", desc := "(I)J" } : Jvm.MethodName)) ∈ TB := tb_of (List.mem_of_getElem? (i := 669) (by decide +kernel)) (by decide +kernel)
theorem t_670 : (Jvm.Cond.selects "LevelledRingModel" ({ cls := "LevelledRingModel", name := "meter", desc := "(I)J" } : Jvm.MethodName) ({ cls := "LevelledRingModel", name := "meter", desc := "(I)J" } : Jvm.MethodName)) ∈ TB := tb_of (List.mem_of_getElem? (i := 670) (by decide +kernel)) (by decide +kernel)
theorem t_671 : (Jvm.Cond.code ({ cls := "LevelledRingModel", name := "meter", desc := "(I)J" } : Jvm.MethodName) prog_10_method_36_code (2 : Nat) (Option.some Jvm.ClassFile.FieldType.long)) ∈ TB := tb_of (List.mem_of_getElem? (i := 671) (by decide +kernel)) (by decide +kernel)
theorem t_672 : (Jvm.Cond.constantLong "LevelledRingModel" (172 : Nat) (-1 : Int64)) ∈ TB := tb_of (List.mem_of_getElem? (i := 672) (by decide +kernel)) (by decide +kernel)
theorem t_673 : (Jvm.Cond.methodLink "LevelledRingLaw" (78 : Nat) ({ cls := "LevelledRingModel", name := "noise", desc := "(I)J" } : Jvm.MethodName)) ∈ TB := tb_of (List.mem_of_getElem? (i := 673) (by decide +kernel)) (by decide +kernel)
theorem t_674 : (Jvm.Cond.instanceMethod ({ cls := "LevelledRingModel", name := "noise", desc := "(I)J" } : Jvm.MethodName)) ∈ TB := tb_of (List.mem_of_getElem? (i := 674) (by decide +kernel)) (by decide +kernel)
theorem t_675 : (Jvm.Cond.selects "LevelledRingModel" ({ cls := "LevelledRingModel", name := "noise", desc := "(I)J" } : Jvm.MethodName) ({ cls := "LevelledRingModel", name := "noise", desc := "(I)J" } : Jvm.MethodName)) ∈ TB := tb_of (List.mem_of_getElem? (i := 675) (by decide +kernel)) (by decide +kernel)
theorem t_676 : (Jvm.Cond.code ({ cls := "LevelledRingModel", name := "noise", desc := "(I)J" } : Jvm.MethodName) prog_10_method_38_code (7 : Nat) (Option.some Jvm.ClassFile.FieldType.long)) ∈ TB := tb_of (List.mem_of_getElem? (i := 676) (by decide +kernel)) (by decide +kernel)
theorem t_677 : (Jvm.Cond.methodLink "LevelledRingModel" (174 : Nat) ({ cls := "LevelledRingModel", name := "open", desc := "(I)V" } : Jvm.MethodName)) ∈ TB := tb_of (List.mem_of_getElem? (i := 677) (by decide +kernel)) (by decide +kernel)
theorem t_679 : (Jvm.Cond.instanceMethod ({ cls := "LevelledRingModel", name := "open", desc := "(I)V" } : Jvm.MethodName)) ∈ TB := tb_of (List.mem_of_getElem? (i := 679) (by decide +kernel)) (by decide +kernel)
theorem t_680 : (Jvm.Cond.code ({ cls := "LevelledRingModel", name := "open", desc := "(I)V" } : Jvm.MethodName) prog_10_method_37_code (7 : Nat) (Option.none : Option Jvm.ClassFile.FieldType)) ∈ TB := tb_of (List.mem_of_getElem? (i := 680) (by decide +kernel)) (by decide +kernel)
theorem t_681 : (Jvm.Cond.methodLink "LevelledRingLaw" (83 : Nat) ({ cls := "LevelledRingModel", name := "part", desc := "(III)J" } : Jvm.MethodName)) ∈ TB := tb_of (List.mem_of_getElem? (i := 681) (by decide +kernel)) (by decide +kernel)
theorem t_682 : (Jvm.Cond.instanceMethod ({ cls := "LevelledRingModel", name := "part", desc := "(III)J" } : Jvm.MethodName)) ∈ TB := tb_of (List.mem_of_getElem? (i := 682) (by decide +kernel)) (by decide +kernel)
theorem t_683 : (Jvm.Cond.selects "LevelledRingModel" ({ cls := "LevelledRingModel", name := "part", desc := "(III)J" } : Jvm.MethodName) ({ cls := "LevelledRingModel", name := "part", desc := "(III)J" } : Jvm.MethodName)) ∈ TB := tb_of (List.mem_of_getElem? (i := 683) (by decide +kernel)) (by decide +kernel)
theorem t_684 : (Jvm.Cond.code ({ cls := "LevelledRingModel", name := "part", desc := "(III)J" } : Jvm.MethodName) prog_10_method_39_code (4 : Nat) (Option.some Jvm.ClassFile.FieldType.long)) ∈ TB := tb_of (List.mem_of_getElem? (i := 684) (by decide +kernel)) (by decide +kernel)
theorem t_685 : (Jvm.Cond.methodLink "LevelledRingLaw" (87 : Nat) ({ cls := "LevelledRingModel", name := "decrypted", desc := "(II)I" } : Jvm.MethodName)) ∈ TB := tb_of (List.mem_of_getElem? (i := 685) (by decide +kernel)) (by decide +kernel)
theorem t_686 : (Jvm.Cond.instanceMethod ({ cls := "LevelledRingModel", name := "decrypted", desc := "(II)I" } : Jvm.MethodName)) ∈ TB := tb_of (List.mem_of_getElem? (i := 686) (by decide +kernel)) (by decide +kernel)
theorem t_687 : (Jvm.Cond.selects "LevelledRingModel" ({ cls := "LevelledRingModel", name := "decrypted", desc := "(II)I" } : Jvm.MethodName) ({ cls := "LevelledRingModel", name := "decrypted", desc := "(II)I" } : Jvm.MethodName)) ∈ TB := tb_of (List.mem_of_getElem? (i := 687) (by decide +kernel)) (by decide +kernel)
theorem t_688 : (Jvm.Cond.code ({ cls := "LevelledRingModel", name := "decrypted", desc := "(II)I" } : Jvm.MethodName) prog_10_method_40_code (3 : Nat) (Option.some Jvm.ClassFile.FieldType.int)) ∈ TB := tb_of (List.mem_of_getElem? (i := 688) (by decide +kernel)) (by decide +kernel)
theorem t_689 : (Jvm.Cond.methodLink "LevelledRingLaw" (91 : Nat) ({ cls := "LevelledRingModel", name := "plain", desc := "(II)I" } : Jvm.MethodName)) ∈ TB := tb_of (List.mem_of_getElem? (i := 689) (by decide +kernel)) (by decide +kernel)
theorem t_690 : (Jvm.Cond.instanceMethod ({ cls := "LevelledRingModel", name := "plain", desc := "(II)I" } : Jvm.MethodName)) ∈ TB := tb_of (List.mem_of_getElem? (i := 690) (by decide +kernel)) (by decide +kernel)
theorem t_691 : (Jvm.Cond.selects "LevelledRingModel" ({ cls := "LevelledRingModel", name := "plain", desc := "(II)I" } : Jvm.MethodName) ({ cls := "LevelledRingModel", name := "plain", desc := "(II)I" } : Jvm.MethodName)) ∈ TB := tb_of (List.mem_of_getElem? (i := 691) (by decide +kernel)) (by decide +kernel)
theorem t_692 : (Jvm.Cond.code ({ cls := "LevelledRingModel", name := "plain", desc := "(II)I" } : Jvm.MethodName) prog_10_method_41_code (3 : Nat) (Option.some Jvm.ClassFile.FieldType.int)) ∈ TB := tb_of (List.mem_of_getElem? (i := 692) (by decide +kernel)) (by decide +kernel)
theorem t_693 : (Jvm.Cond.methodLink "LevelledRingLaw" (95 : Nat) ({ cls := "LevelledRingModel", name := "secret", desc := "(I)I" } : Jvm.MethodName)) ∈ TB := tb_of (List.mem_of_getElem? (i := 693) (by decide +kernel)) (by decide +kernel)
theorem t_694 : (Jvm.Cond.instanceMethod ({ cls := "LevelledRingModel", name := "secret", desc := "(I)I" } : Jvm.MethodName)) ∈ TB := tb_of (List.mem_of_getElem? (i := 694) (by decide +kernel)) (by decide +kernel)
theorem t_695 : (Jvm.Cond.selects "LevelledRingModel" ({ cls := "LevelledRingModel", name := "secret", desc := "(I)I" } : Jvm.MethodName) ({ cls := "LevelledRingModel", name := "secret", desc := "(I)I" } : Jvm.MethodName)) ∈ TB := tb_of (List.mem_of_getElem? (i := 695) (by decide +kernel)) (by decide +kernel)
theorem t_696 : (Jvm.Cond.code ({ cls := "LevelledRingModel", name := "secret", desc := "(I)I" } : Jvm.MethodName) prog_10_method_42_code (2 : Nat) (Option.some Jvm.ClassFile.FieldType.int)) ∈ TB := tb_of (List.mem_of_getElem? (i := 696) (by decide +kernel)) (by decide +kernel)
theorem t_697 : (Jvm.Cond.fieldLink "java/lang/Enum" (7 : Nat) "java/lang/Enum" "ordinal" "I") ∈ TB := tb_of (List.mem_of_getElem? (i := 697) (by decide +kernel)) (by decide +kernel)
def T_D : u_T := fun k => match k with
  | _ => ("LevelledRing$Drawing", "z", "I", false)
def ty_D : Nat → FieldType := fun k => match k with
  | _ => .int
theorem nm_D : ∀ a, a < 1 → ∀ b, b < 1 → a ≠ b → (T_D a).2.1 ≠ (T_D b).2.1 := by decide +kernel
theorem tyok_D : ∀ k, k < 1 → parseFieldDescriptor (T_D k).2.2.1 = some (ty_D k) := by decide +kernel
theorem hin_D (c : Cond) : ∀ w ∈ u_ws "LevelledRing$Drawing" T_D 1, w ∈ c :: TB := by
  intro w hw
  obtain ⟨k, hk, rfl⟩ := List.mem_map.mp hw
  have hk := List.mem_range.mp hk
  rcases (show k = 0 by omega) with rfl
  · exact List.mem_cons_of_mem _ t_28
def T_G : u_T := fun k => match k with
  | 0 => ("LevelledRing$Gate", "kind", "LLevelledRing$Kind;", false)
  | 1 => ("LevelledRing$Gate", "a", "I", false)
  | 2 => ("LevelledRing$Gate", "b", "I", false)
  | 3 => ("LevelledRing$Gate", "number", "I", false)
  | 4 => ("LevelledRing$Gate", "plain", "LLevelledRing$Poly;", true)
  | _ => ("LevelledRing$Gate", "value", "LLevelledRing$Value;", true)
def ty_G : Nat → FieldType := fun k => match k with
  | 0 => (.object "LevelledRing$Kind")
  | 1 => .int
  | 2 => .int
  | 3 => .int
  | 4 => (.object "LevelledRing$Poly")
  | _ => (.object "LevelledRing$Value")
theorem nm_G : ∀ a, a < 6 → ∀ b, b < 6 → a ≠ b → (T_G a).2.1 ≠ (T_G b).2.1 := by decide +kernel
theorem tyok_G : ∀ k, k < 6 → parseFieldDescriptor (T_G k).2.2.1 = some (ty_G k) := by decide +kernel
theorem hin_G (c : Cond) : ∀ w ∈ u_ws "LevelledRing$Gate" T_G 6, w ∈ c :: TB := by
  intro w hw
  obtain ⟨k, hk, rfl⟩ := List.mem_map.mp hw
  have hk := List.mem_range.mp hk
  rcases (show k = 0 ∨ k = 1 ∨ k = 2 ∨ k = 3 ∨ k = 4 ∨ k = 5 by omega) with rfl | rfl | rfl | rfl | rfl | rfl
  · exact List.mem_cons_of_mem _ t_160
  · exact List.mem_cons_of_mem _ t_162
  · exact List.mem_cons_of_mem _ t_164
  · exact List.mem_cons_of_mem _ t_166
  · exact List.mem_cons_of_mem _ t_168
  · exact List.mem_cons_of_mem _ t_170
def T_K : u_T := fun k => match k with
  | 0 => ("LevelledRing$Keys", "secret", "LLevelledRing$Poly;", true)
  | 1 => ("LevelledRing$Keys", "a", "[LLevelledRing$Poly;", true)
  | _ => ("LevelledRing$Keys", "b", "[LLevelledRing$Poly;", true)
def ty_K : Nat → FieldType := fun k => match k with
  | 0 => (.object "LevelledRing$Poly")
  | 1 => (.array (.object "LevelledRing$Poly"))
  | _ => (.array (.object "LevelledRing$Poly"))
theorem nm_K : ∀ a, a < 3 → ∀ b, b < 3 → a ≠ b → (T_K a).2.1 ≠ (T_K b).2.1 := by decide +kernel
theorem tyok_K : ∀ k, k < 3 → parseFieldDescriptor (T_K k).2.2.1 = some (ty_K k) := by decide +kernel
theorem hin_K (c : Cond) : ∀ w ∈ u_ws "LevelledRing$Keys" T_K 3, w ∈ c :: TB := by
  intro w hw
  obtain ⟨k, hk, rfl⟩ := List.mem_map.mp hw
  have hk := List.mem_range.mp hk
  rcases (show k = 0 ∨ k = 1 ∨ k = 2 by omega) with rfl | rfl | rfl
  · exact List.mem_cons_of_mem _ t_130
  · exact List.mem_cons_of_mem _ t_132
  · exact List.mem_cons_of_mem _ t_134
def T_P : u_T := fun k => match k with
  | 0 => ("LevelledRing$Poly", "small", "Z", true)
  | _ => ("LevelledRing$Poly", "c", "[I", true)
def ty_P : Nat → FieldType := fun k => match k with
  | 0 => .boolean
  | _ => (.array .int)
theorem nm_P : ∀ a, a < 2 → ∀ b, b < 2 → a ≠ b → (T_P a).2.1 ≠ (T_P b).2.1 := by decide +kernel
theorem tyok_P : ∀ k, k < 2 → parseFieldDescriptor (T_P k).2.2.1 = some (ty_P k) := by decide +kernel
theorem hin_P (c : Cond) : ∀ w ∈ u_ws "LevelledRing$Poly" T_P 2, w ∈ c :: TB := by
  intro w hw
  obtain ⟨k, hk, rfl⟩ := List.mem_map.mp hw
  have hk := List.mem_range.mp hk
  rcases (show k = 0 ∨ k = 1 by omega) with rfl | rfl
  · exact List.mem_cons_of_mem _ t_40
  · exact List.mem_cons_of_mem _ t_42
def T_V : u_T := fun k => match k with
  | 0 => ("LevelledRing$Value", "level", "I", false)
  | 1 => ("LevelledRing$Value", "meter", "J", false)
  | 2 => ("LevelledRing$Value", "c0", "LLevelledRing$Poly;", true)
  | _ => ("LevelledRing$Value", "c1", "LLevelledRing$Poly;", true)
def ty_V : Nat → FieldType := fun k => match k with
  | 0 => .int
  | 1 => .long
  | 2 => (.object "LevelledRing$Poly")
  | _ => (.object "LevelledRing$Poly")
theorem nm_V : ∀ a, a < 4 → ∀ b, b < 4 → a ≠ b → (T_V a).2.1 ≠ (T_V b).2.1 := by decide +kernel
theorem tyok_V : ∀ k, k < 4 → parseFieldDescriptor (T_V k).2.2.1 = some (ty_V k) := by decide +kernel
theorem hin_V (c : Cond) : ∀ w ∈ u_ws "LevelledRing$Value" T_V 4, w ∈ c :: TB := by
  intro w hw
  obtain ⟨k, hk, rfl⟩ := List.mem_map.mp hw
  have hk := List.mem_range.mp hk
  rcases (show k = 0 ∨ k = 1 ∨ k = 2 ∨ k = 3 by omega) with rfl | rfl | rfl | rfl
  · exact List.mem_cons_of_mem _ t_64
  · exact List.mem_cons_of_mem _ t_66
  · exact List.mem_cons_of_mem _ t_68
  · exact List.mem_cons_of_mem _ t_70
def T_R : u_T := fun k => match k with
  | 0 => ("LevelledRing", "drawing", "LLevelledRing$Drawing;", true)
  | 1 => ("LevelledRing", "keys", "LLevelledRing$Keys;", true)
  | 2 => ("LevelledRing", "message", "LLevelledRing$Poly;", true)
  | 3 => ("LevelledRing", "gates", "[LLevelledRing$Gate;", true)
  | 4 => ("LevelledRing", "gateCount", "I", false)
  | 5 => ("LevelledRing", "valueCount", "I", false)
  | 6 => ("LevelledRing", "left", "LLevelledRing$Value;", true)
  | 7 => ("LevelledRing", "right", "LLevelledRing$Value;", true)
  | 8 => ("LevelledRing", "square", "LLevelledRing$Poly;", true)
  | 9 => ("LevelledRing", "digit", "LLevelledRing$Poly;", true)
  | _ => ("LevelledRing", "opened", "LLevelledRing$Poly;", true)
def ty_R : Nat → FieldType := fun k => match k with
  | 0 => (.object "LevelledRing$Drawing")
  | 1 => (.object "LevelledRing$Keys")
  | 2 => (.object "LevelledRing$Poly")
  | 3 => (.array (.object "LevelledRing$Gate"))
  | 4 => .int
  | 5 => .int
  | 6 => (.object "LevelledRing$Value")
  | 7 => (.object "LevelledRing$Value")
  | 8 => (.object "LevelledRing$Poly")
  | 9 => (.object "LevelledRing$Poly")
  | _ => (.object "LevelledRing$Poly")
theorem nm_R : ∀ a, a < 11 → ∀ b, b < 11 → a ≠ b → (T_R a).2.1 ≠ (T_R b).2.1 := by decide +kernel
theorem tyok_R : ∀ k, k < 11 → parseFieldDescriptor (T_R k).2.2.1 = some (ty_R k) := by decide +kernel
theorem hin_R (c : Cond) : ∀ w ∈ u_ws "LevelledRing" T_R 11, w ∈ c :: TB := by
  intro w hw
  obtain ⟨k, hk, rfl⟩ := List.mem_map.mp hw
  have hk := List.mem_range.mp hk
  rcases (show k = 0 ∨ k = 1 ∨ k = 2 ∨ k = 3 ∨ k = 4 ∨ k = 5 ∨ k = 6 ∨ k = 7 ∨ k = 8 ∨ k = 9 ∨ k = 10 by omega) with rfl | rfl | rfl | rfl | rfl | rfl | rfl | rfl | rfl | rfl | rfl
  · exact List.mem_cons_of_mem _ t_184
  · exact List.mem_cons_of_mem _ t_186
  · exact List.mem_cons_of_mem _ t_188
  · exact List.mem_cons_of_mem _ t_190
  · exact List.mem_cons_of_mem _ t_192
  · exact List.mem_cons_of_mem _ t_194
  · exact List.mem_cons_of_mem _ t_196
  · exact List.mem_cons_of_mem _ t_198
  · exact List.mem_cons_of_mem _ t_200
  · exact List.mem_cons_of_mem _ t_202
  · exact List.mem_cons_of_mem _ t_204
def T_M : u_T := fun k => match k with
  | 0 => ("LevelledRingModel", "row", "[J", true)
  | 1 => ("LevelledRingModel", "prime", "[I", true)
  | 2 => ("LevelledRingModel", "big", "[J", true)
  | 3 => ("LevelledRingModel", "unit", "[J", true)
  | 4 => ("LevelledRingModel", "secret", "[I", true)
  | 5 => ("LevelledRingModel", "small", "[I", true)
  | 6 => ("LevelledRingModel", "z", "I", false)
  | 7 => ("LevelledRingModel", "message", "[I", true)
  | 8 => ("LevelledRingModel", "count", "I", false)
  | 9 => ("LevelledRingModel", "kind", "[I", true)
  | 10 => ("LevelledRingModel", "first", "[I", true)
  | 11 => ("LevelledRingModel", "second", "[I", true)
  | 12 => ("LevelledRingModel", "plain", "[I", true)
  | 13 => ("LevelledRingModel", "has", "[Z", true)
  | 14 => ("LevelledRingModel", "level", "[I", true)
  | 15 => ("LevelledRingModel", "meter", "[J", true)
  | 16 => ("LevelledRingModel", "workLevel", "[I", true)
  | 17 => ("LevelledRingModel", "workMeter", "[J", true)
  | _ => ("LevelledRingModel", "v", "[J", true)
def ty_M : Nat → FieldType := fun k => match k with
  | 0 => (.array .long)
  | 1 => (.array .int)
  | 2 => (.array .long)
  | 3 => (.array .long)
  | 4 => (.array .int)
  | 5 => (.array .int)
  | 6 => .int
  | 7 => (.array .int)
  | 8 => .int
  | 9 => (.array .int)
  | 10 => (.array .int)
  | 11 => (.array .int)
  | 12 => (.array .int)
  | 13 => (.array .boolean)
  | 14 => (.array .int)
  | 15 => (.array .long)
  | 16 => (.array .int)
  | 17 => (.array .long)
  | _ => (.array .long)
theorem nm_M : ∀ a, a < 19 → ∀ b, b < 19 → a ≠ b → (T_M a).2.1 ≠ (T_M b).2.1 := by decide +kernel
theorem tyok_M : ∀ k, k < 19 → parseFieldDescriptor (T_M k).2.2.1 = some (ty_M k) := by decide +kernel
theorem hin_M (c : Cond) : ∀ w ∈ u_ws "LevelledRingModel" T_M 19, w ∈ c :: TB := by
  intro w hw
  obtain ⟨k, hk, rfl⟩ := List.mem_map.mp hw
  have hk := List.mem_range.mp hk
  rcases (show k = 0 ∨ k = 1 ∨ k = 2 ∨ k = 3 ∨ k = 4 ∨ k = 5 ∨ k = 6 ∨ k = 7 ∨ k = 8 ∨ k = 9 ∨ k = 10 ∨ k = 11 ∨ k = 12 ∨ k = 13 ∨ k = 14 ∨ k = 15 ∨ k = 16 ∨ k = 17 ∨ k = 18 by omega) with rfl | rfl | rfl | rfl | rfl | rfl | rfl | rfl | rfl | rfl | rfl | rfl | rfl | rfl | rfl | rfl | rfl | rfl | rfl
  · exact List.mem_cons_of_mem _ t_512
  · exact List.mem_cons_of_mem _ t_514
  · exact List.mem_cons_of_mem _ t_516
  · exact List.mem_cons_of_mem _ t_518
  · exact List.mem_cons_of_mem _ t_520
  · exact List.mem_cons_of_mem _ t_522
  · exact List.mem_cons_of_mem _ t_524
  · exact List.mem_cons_of_mem _ t_526
  · exact List.mem_cons_of_mem _ t_528
  · exact List.mem_cons_of_mem _ t_530
  · exact List.mem_cons_of_mem _ t_532
  · exact List.mem_cons_of_mem _ t_534
  · exact List.mem_cons_of_mem _ t_536
  · exact List.mem_cons_of_mem _ t_538
  · exact List.mem_cons_of_mem _ t_540
  · exact List.mem_cons_of_mem _ t_542
  · exact List.mem_cons_of_mem _ t_544
  · exact List.mem_cons_of_mem _ t_546
  · exact List.mem_cons_of_mem _ t_548
abbrev vwCl : List vw_C := [("LevelledRing$Drawing", T_D, 1), ("LevelledRing$Gate", T_G, 6), ("LevelledRing$Keys", T_K, 3), ("LevelledRing$Poly", T_P, 2), ("LevelledRing$Value", T_V, 4), ("LevelledRing", T_R, 11), ("LevelledRingModel", T_M, 19)]
abbrev c9_R_init : ByteArray := prog_1_method_1_code
abbrev y_R_init : MethodName := ⟨"LevelledRing", "<init>", "(I)V"⟩
abbrev w_R_init : List Cond := .code y_R_init c9_R_init 3 none :: TB
abbrev c9_D_init : ByteArray := prog_3_method_1_code
abbrev y_D_init : MethodName := ⟨"LevelledRing$Drawing", "<init>", "()V"⟩
abbrev w_D_init : List Cond := .code y_D_init c9_D_init 1 none :: TB
abbrev c9_P_init : ByteArray := prog_7_method_1_code
abbrev y_P_init : MethodName := ⟨"LevelledRing$Poly", "<init>", "(Z)V"⟩
abbrev w_P_init : List Cond := .code y_P_init c9_P_init 2 none :: TB
abbrev c9_V_init : ByteArray := prog_8_method_1_code
abbrev y_V_init : MethodName := ⟨"LevelledRing$Value", "<init>", "()V"⟩
abbrev w_V_init : List Cond := .code y_V_init c9_V_init 1 none :: TB
abbrev c9_D_start : ByteArray := prog_3_method_2_code
abbrev y_D_start : MethodName := ⟨"LevelledRing$Drawing", "start", "(I)V"⟩
abbrev w_D_start : List Cond := .code y_D_start c9_D_start 2 none :: TB
abbrev c9_K_init : ByteArray := prog_5_method_1_code
abbrev y_K_init : MethodName := ⟨"LevelledRing$Keys", "<init>", "(LLevelledRing$Drawing;)V"⟩
abbrev w_K_init : List Cond := .code y_K_init c9_K_init 4 none :: TB
abbrev c9_P_drawSmall : ByteArray := prog_7_method_6_code
abbrev y_P_drawSmall : MethodName := ⟨"LevelledRing$Poly", "drawSmall", "(LLevelledRing$Drawing;I)V"⟩
abbrev w_P_drawSmall : List Cond := .code y_P_drawSmall c9_P_drawSmall 6 none :: TB
abbrev c9_D_draw : ByteArray := prog_3_method_3_code
abbrev y_D_draw : MethodName := ⟨"LevelledRing$Drawing", "draw", "()I"⟩
abbrev w_D_draw : List Cond := .code y_D_draw c9_D_draw 1 (some .int) :: TB
abbrev c9_R_modulo : ByteArray := prog_1_method_22_code
abbrev y_R_modulo : MethodName := ⟨"LevelledRing", "modulo", "(JI)I"⟩
abbrev w_R_modulo : List Cond := .code y_R_modulo c9_R_modulo 4 (some .int) :: TB
abbrev c9_P_addProduct : ByteArray := prog_7_method_11_code
abbrev y_P_addProduct : MethodName := ⟨"LevelledRing$Poly", "addProduct", "(ILLevelledRing$Poly;LLevelledRing$Poly;I)V"⟩
abbrev w_P_addProduct : List Cond := .code y_P_addProduct c9_P_addProduct 9 none :: TB
abbrev c9_P_rowModulus : ByteArray := prog_7_method_2_code
abbrev y_P_rowModulus : MethodName := ⟨"LevelledRing$Poly", "rowModulus", "(I)I"⟩
abbrev w_P_rowModulus : List Cond := .code y_P_rowModulus c9_P_rowModulus 2 (some .int) :: TB
abbrev c9_P_productCoefficient : ByteArray := prog_7_method_12_code
abbrev y_P_productCoefficient : MethodName := ⟨"LevelledRing$Poly", "productCoefficient", "(LLevelledRing$Poly;LLevelledRing$Poly;II)J"⟩
abbrev w_P_productCoefficient : List Cond := .code y_P_productCoefficient c9_P_productCoefficient 7 (some .long) :: TB
abbrev c9_K_drawHiddenZero : ByteArray := prog_5_method_2_code
abbrev y_K_drawHiddenZero : MethodName := ⟨"LevelledRing$Keys", "drawHiddenZero", "(LLevelledRing$Drawing;LLevelledRing$Poly;LLevelledRing$Poly;)V"⟩
abbrev w_K_drawHiddenZero : List Cond := .code y_K_drawHiddenZero c9_K_drawHiddenZero 4 none :: TB
abbrev c9_P_drawUniform : ByteArray := prog_7_method_5_code
abbrev y_P_drawUniform : MethodName := ⟨"LevelledRing$Poly", "drawUniform", "(LLevelledRing$Drawing;)V"⟩
abbrev w_P_drawUniform : List Cond := .code y_P_drawUniform c9_P_drawUniform 4 none :: TB
abbrev c9_P_addRow : ByteArray := prog_7_method_8_code
abbrev y_P_addRow : MethodName := ⟨"LevelledRing$Poly", "addRow", "(LLevelledRing$Poly;I)V"⟩
abbrev w_P_addRow : List Cond := .code y_P_addRow c9_P_addRow 4 none :: TB
abbrev c9_G_init : ByteArray := prog_4_method_1_code
abbrev y_G_init : MethodName := ⟨"LevelledRing$Gate", "<init>", "()V"⟩
abbrev w_G_init : List Cond := .code y_G_init c9_G_init 1 none :: TB
abbrev c9_R_put : ByteArray := prog_1_method_2_code
abbrev y_R_put : MethodName := ⟨"LevelledRing", "put", "(II)Z"⟩
abbrev w_R_put : List Cond := .code y_R_put c9_R_put 3 (some .boolean) :: TB
abbrev c9_R_isCoefficient : ByteArray := prog_1_method_19_code
abbrev y_R_isCoefficient : MethodName := ⟨"LevelledRing", "isCoefficient", "(I)Z"⟩
abbrev w_R_isCoefficient : List Cond := .code y_R_isCoefficient c9_R_isCoefficient 1 (some .boolean) :: TB
abbrev c9_R_input : ByteArray := prog_1_method_3_code
abbrev y_R_input : MethodName := ⟨"LevelledRing", "input", "(I)I"⟩
abbrev w_R_input : List Cond := .code y_R_input c9_R_input 3 (some .int) :: TB
abbrev c9_G_become : ByteArray := prog_4_method_2_code
abbrev y_G_become : MethodName := ⟨"LevelledRing$Gate", "become", "(LLevelledRing$Kind;III)V"⟩
abbrev w_G_become : List Cond := .code y_G_become c9_G_become 5 none :: TB
abbrev c9_P_copyFrom : ByteArray := prog_7_method_4_code
abbrev y_P_copyFrom : MethodName := ⟨"LevelledRing$Poly", "copyFrom", "(LLevelledRing$Poly;)V"⟩
abbrev w_P_copyFrom : List Cond := .code y_P_copyFrom c9_P_copyFrom 2 none :: TB
abbrev c9_R_keepGate : ByteArray := prog_1_method_25_code
abbrev y_R_keepGate : MethodName := ⟨"LevelledRing", "keepGate", "()I"⟩
abbrev w_R_keepGate : List Cond := .code y_R_keepGate c9_R_keepGate 1 (some .int) :: TB
abbrev c9_R_sum : ByteArray := prog_1_method_4_code
abbrev y_R_sum : MethodName := ⟨"LevelledRing", "sum", "(II)I"⟩
abbrev w_R_sum : List Cond := .code y_R_sum c9_R_sum 3 (some .int) :: TB
abbrev c9_R_addGate : ByteArray := prog_1_method_24_code
abbrev y_R_addGate : MethodName := ⟨"LevelledRing", "addGate", "(LLevelledRing$Kind;III)I"⟩
abbrev w_R_addGate : List Cond := .code y_R_addGate c9_R_addGate 6 (some .int) :: TB
abbrev c9_R_isGate : ByteArray := prog_1_method_20_code
abbrev y_R_isGate : MethodName := ⟨"LevelledRing", "isGate", "(I)Z"⟩
abbrev w_R_isGate : List Cond := .code y_R_isGate c9_R_isGate 2 (some .boolean) :: TB
abbrev c9_R_setPlain : ByteArray := prog_1_method_26_code
abbrev y_R_setPlain : MethodName := ⟨"LevelledRing", "setPlain", "(LLevelledRing$Gate;LLevelledRing$Poly;LLevelledRing$Poly;)V"⟩
abbrev w_R_setPlain : List Cond := .code y_R_setPlain c9_R_setPlain 3 none :: TB
abbrev c9_P_setSum : ByteArray := prog_7_method_10_code
abbrev y_P_setSum : MethodName := ⟨"LevelledRing$Poly", "setSum", "(LLevelledRing$Poly;ILLevelledRing$Poly;I)V"⟩
abbrev w_P_setSum : List Cond := .code y_P_setSum c9_P_setSum 8 none :: TB
abbrev c9_P_setZero : ByteArray := prog_7_method_3_code
abbrev y_P_setZero : MethodName := ⟨"LevelledRing$Poly", "setZero", "()V"⟩
abbrev w_P_setZero : List Cond := .code y_P_setZero c9_P_setZero 2 none :: TB
abbrev c9_P_setTurned : ByteArray := prog_7_method_13_code
abbrev y_P_setTurned : MethodName := ⟨"LevelledRing$Poly", "setTurned", "(LLevelledRing$Poly;II)V"⟩
abbrev w_P_setTurned : List Cond := .code y_P_setTurned c9_P_setTurned 9 none :: TB
abbrev c9_R_difference : ByteArray := prog_1_method_5_code
abbrev y_R_difference : MethodName := ⟨"LevelledRing", "difference", "(II)I"⟩
abbrev w_R_difference : List Cond := .code y_R_difference c9_R_difference 3 (some .int) :: TB
abbrev c9_R_product : ByteArray := prog_1_method_6_code
abbrev y_R_product : MethodName := ⟨"LevelledRing", "product", "(II)I"⟩
abbrev w_R_product : List Cond := .code y_R_product c9_R_product 3 (some .int) :: TB
abbrev c9_R_shift : ByteArray := prog_1_method_7_code
abbrev y_R_shift : MethodName := ⟨"LevelledRing", "shift", "(II)I"⟩
abbrev w_R_shift : List Cond := .code y_R_shift c9_R_shift 3 (some .int) :: TB
abbrev c9_R_lowered : ByteArray := prog_1_method_8_code
abbrev y_R_lowered : MethodName := ⟨"LevelledRing", "lowered", "(I)I"⟩
abbrev w_R_lowered : List Cond := .code y_R_lowered c9_R_lowered 2 (some .int) :: TB
abbrev c9_R_count : ByteArray := prog_1_method_9_code
abbrev y_R_count : MethodName := ⟨"LevelledRing", "count", "()I"⟩
abbrev w_R_count : List Cond := .code y_R_count c9_R_count 1 (some .int) :: TB
abbrev c9_R_cut : ByteArray := prog_1_method_10_code
abbrev y_R_cut : MethodName := ⟨"LevelledRing", "cut", "(I)Z"⟩
abbrev w_R_cut : List Cond := .code y_R_cut c9_R_cut 2 (some .boolean) :: TB
abbrev c9_R_run : ByteArray := prog_1_method_11_code
abbrev y_R_run : MethodName := ⟨"LevelledRing", "run", "()I"⟩
abbrev w_R_run : List Cond := .code y_R_run c9_R_run 2 (some .int) :: TB
abbrev c9_R_giveValue : ByteArray := prog_1_method_27_code
abbrev y_R_giveValue : MethodName := ⟨"LevelledRing", "giveValue", "(LLevelledRing$Gate;)Z"⟩
abbrev w_R_giveValue : List Cond := .code y_R_giveValue c9_R_giveValue 2 (some .boolean) :: TB
abbrev c9_R_takeOperands : ByteArray := prog_1_method_30_code
abbrev y_R_takeOperands : MethodName := ⟨"LevelledRing", "takeOperands", "(LLevelledRing$Gate;)Z"⟩
abbrev w_R_takeOperands : List Cond := .code y_R_takeOperands c9_R_takeOperands 2 (some .boolean) :: TB
abbrev c9_V_copyFrom : ByteArray := prog_8_method_2_code
abbrev y_V_copyFrom : MethodName := ⟨"LevelledRing$Value", "copyFrom", "(LLevelledRing$Value;)V"⟩
abbrev w_V_copyFrom : List Cond := .code y_V_copyFrom c9_V_copyFrom 2 none :: TB
abbrev c9_V_lowerTo : ByteArray := prog_8_method_5_code
abbrev y_V_lowerTo : MethodName := ⟨"LevelledRing$Value", "lowerTo", "(I)Z"⟩
abbrev w_V_lowerTo : List Cond := .code y_V_lowerTo c9_V_lowerTo 3 (some .boolean) :: TB
abbrev c9_V_lowerOnce : ByteArray := prog_8_method_4_code
abbrev y_V_lowerOnce : MethodName := ⟨"LevelledRing$Value", "lowerOnce", "()Z"⟩
abbrev w_V_lowerOnce : List Cond := .code y_V_lowerOnce c9_V_lowerOnce 1 (some .boolean) :: TB
abbrev c9_P_lowerFrom : ByteArray := prog_7_method_14_code
abbrev y_P_lowerFrom : MethodName := ⟨"LevelledRing$Poly", "lowerFrom", "(I)V"⟩
abbrev w_P_lowerFrom : List Cond := .code y_P_lowerFrom c9_P_lowerFrom 10 none :: TB
abbrev c9_R_centred : ByteArray := prog_1_method_23_code
abbrev y_R_centred : MethodName := ⟨"LevelledRing", "centred", "(JJ)J"⟩
abbrev w_R_centred : List Cond := .code y_R_centred c9_R_centred 4 (some .long) :: TB
abbrev c9_V_isTooGreat : ByteArray := prog_8_method_3_code
abbrev y_V_isTooGreat : MethodName := ⟨"LevelledRing$Value", "isTooGreat", "()Z"⟩
abbrev w_V_isTooGreat : List Cond := .code y_V_isTooGreat c9_V_isTooGreat 1 (some .boolean) :: TB
abbrev c9_R_giveSum : ByteArray := prog_1_method_32_code
abbrev y_R_giveSum : MethodName := ⟨"LevelledRing", "giveSum", "(LLevelledRing$Value;I)Z"⟩
abbrev w_R_giveSum : List Cond := .code y_R_giveSum c9_R_giveSum 3 (some .boolean) :: TB
abbrev c9_R_quietenOperands : ByteArray := prog_1_method_31_code
abbrev y_R_quietenOperands : MethodName := ⟨"LevelledRing", "quietenOperands", "()Z"⟩
abbrev w_R_quietenOperands : List Cond := .code y_R_quietenOperands c9_R_quietenOperands 2 (some .boolean) :: TB
abbrev c9_R_giveProduct : ByteArray := prog_1_method_33_code
abbrev y_R_giveProduct : MethodName := ⟨"LevelledRing", "giveProduct", "(LLevelledRing$Value;)Z"⟩
abbrev w_R_giveProduct : List Cond := .code y_R_giveProduct c9_R_giveProduct 2 (some .boolean) :: TB
abbrev c9_R_switchingMeter : ByteArray := prog_1_method_34_code
abbrev y_R_switchingMeter : MethodName := ⟨"LevelledRing", "switchingMeter", "(I)J"⟩
abbrev w_R_switchingMeter : List Cond := .code y_R_switchingMeter c9_R_switchingMeter 4 (some .long) :: TB
abbrev c9_R_multiplyOperands : ByteArray := prog_1_method_35_code
abbrev y_R_multiplyOperands : MethodName := ⟨"LevelledRing", "multiplyOperands", "(LLevelledRing$Value;)V"⟩
abbrev w_R_multiplyOperands : List Cond := .code y_R_multiplyOperands c9_R_multiplyOperands 3 none :: TB
abbrev c9_R_switchSquare : ByteArray := prog_1_method_36_code
abbrev y_R_switchSquare : MethodName := ⟨"LevelledRing", "switchSquare", "(LLevelledRing$Value;)V"⟩
abbrev w_R_switchSquare : List Cond := .code y_R_switchSquare c9_R_switchSquare 4 none :: TB
abbrev c9_P_setFromRow : ByteArray := prog_7_method_9_code
abbrev y_P_setFromRow : MethodName := ⟨"LevelledRing$Poly", "setFromRow", "(LLevelledRing$Poly;II)V"⟩
abbrev w_P_setFromRow : List Cond := .code y_P_setFromRow c9_P_setFromRow 6 none :: TB
abbrev c9_R_turnValue : ByteArray := prog_1_method_29_code
abbrev y_R_turnValue : MethodName := ⟨"LevelledRing", "turnValue", "(LLevelledRing$Value;LLevelledRing$Value;I)V"⟩
abbrev w_R_turnValue : List Cond := .code y_R_turnValue c9_R_turnValue 3 none :: TB
abbrev c9_R_hideMessage : ByteArray := prog_1_method_28_code
abbrev y_R_hideMessage : MethodName := ⟨"LevelledRing", "hideMessage", "(LLevelledRing$Value;LLevelledRing$Poly;I)V"⟩
abbrev w_R_hideMessage : List Cond := .code y_R_hideMessage c9_R_hideMessage 4 none :: TB
abbrev c9_P_addSmall : ByteArray := prog_7_method_7_code
abbrev y_P_addSmall : MethodName := ⟨"LevelledRing$Poly", "addSmall", "(LLevelledRing$Poly;)V"⟩
abbrev w_P_addSmall : List Cond := .code y_P_addSmall c9_P_addSmall 4 none :: TB
abbrev c9_R_level : ByteArray := prog_1_method_12_code
abbrev y_R_level : MethodName := ⟨"LevelledRing", "level", "(I)I"⟩
abbrev w_R_level : List Cond := .code y_R_level c9_R_level 2 (some .int) :: TB
abbrev c9_R_hasValue : ByteArray := prog_1_method_21_code
abbrev y_R_hasValue : MethodName := ⟨"LevelledRing", "hasValue", "(I)Z"⟩
abbrev w_R_hasValue : List Cond := .code y_R_hasValue c9_R_hasValue 2 (some .boolean) :: TB
abbrev c9_R_meter : ByteArray := prog_1_method_13_code
abbrev y_R_meter : MethodName := ⟨"LevelledRing", "meter", "(I)J"⟩
abbrev w_R_meter : List Cond := .code y_R_meter c9_R_meter 2 (some .long) :: TB
abbrev c9_R_noise : ByteArray := prog_1_method_14_code
abbrev y_R_noise : MethodName := ⟨"LevelledRing", "noise", "(I)J"⟩
abbrev w_R_noise : List Cond := .code y_R_noise c9_R_noise 6 (some .long) :: TB
abbrev c9_R_openValue : ByteArray := prog_1_method_37_code
abbrev y_R_openValue : MethodName := ⟨"LevelledRing", "openValue", "(LLevelledRing$Value;)V"⟩
abbrev w_R_openValue : List Cond := .code y_R_openValue c9_R_openValue 2 none :: TB
abbrev c9_P_centredCoefficient : ByteArray := prog_7_method_16_code
abbrev y_P_centredCoefficient : MethodName := ⟨"LevelledRing$Poly", "centredCoefficient", "(II)J"⟩
abbrev w_P_centredCoefficient : List Cond := .code y_P_centredCoefficient c9_P_centredCoefficient 3 (some .long) :: TB
abbrev c9_P_wholeCoefficient : ByteArray := prog_7_method_15_code
abbrev y_P_wholeCoefficient : MethodName := ⟨"LevelledRing$Poly", "wholeCoefficient", "(II)J"⟩
abbrev w_P_wholeCoefficient : List Cond := .code y_P_wholeCoefficient c9_P_wholeCoefficient 8 (some .long) :: TB
abbrev c9_R_part : ByteArray := prog_1_method_15_code
abbrev y_R_part : MethodName := ⟨"LevelledRing", "part", "(III)J"⟩
abbrev w_R_part : List Cond := .code y_R_part c9_R_part 6 (some .long) :: TB
abbrev c9_R_decrypted : ByteArray := prog_1_method_16_code
abbrev y_R_decrypted : MethodName := ⟨"LevelledRing", "decrypted", "(II)I"⟩
abbrev w_R_decrypted : List Cond := .code y_R_decrypted c9_R_decrypted 4 (some .int) :: TB
abbrev c9_R_plain : ByteArray := prog_1_method_17_code
abbrev y_R_plain : MethodName := ⟨"LevelledRing", "plain", "(II)I"⟩
abbrev w_R_plain : List Cond := .code y_R_plain c9_R_plain 3 (some .int) :: TB
abbrev c9_R_secret : ByteArray := prog_1_method_18_code
abbrev y_R_secret : MethodName := ⟨"LevelledRing", "secret", "(I)I"⟩
abbrev w_R_secret : List Cond := .code y_R_secret c9_R_secret 2 (some .int) :: TB
abbrev c9_L_cell : ByteArray := method_2_code
abbrev y_L_cell : MethodName := ⟨"LevelledRingLaw", "cell", "([II)I"⟩
abbrev w_L_cell : List Cond := .code y_L_cell c9_L_cell 2 (some .int) :: TB
abbrev c9_M_init : ByteArray := prog_10_method_1_code
abbrev y_M_init : MethodName := ⟨"LevelledRingModel", "<init>", "(I)V"⟩
abbrev w_M_init : List Cond := .code y_M_init c9_M_init 10 none :: TB
abbrev c9_M_drawSmall : ByteArray := prog_10_method_3_code
abbrev y_M_drawSmall : MethodName := ⟨"LevelledRingModel", "drawSmall", "()V"⟩
abbrev w_M_drawSmall : List Cond := .code y_M_drawSmall c9_M_drawSmall 2 none :: TB
abbrev c9_M_draw : ByteArray := prog_10_method_2_code
abbrev y_M_draw : MethodName := ⟨"LevelledRingModel", "draw", "()I"⟩
abbrev w_M_draw : List Cond := .code y_M_draw c9_M_draw 1 (some .int) :: TB
abbrev c9_M_drawUniform : ByteArray := prog_10_method_4_code
abbrev y_M_drawUniform : MethodName := ⟨"LevelledRingModel", "drawUniform", "(I)V"⟩
abbrev w_M_drawUniform : List Cond := .code y_M_drawUniform c9_M_drawUniform 7 none :: TB
abbrev c9_M_times : ByteArray := prog_10_method_7_code
abbrev y_M_times : MethodName := ⟨"LevelledRingModel", "times", "(JJJ)J"⟩
abbrev w_M_times : List Cond := .code y_M_times c9_M_times 13 (some .long) :: TB
abbrev c9_M_makeB : ByteArray := prog_10_method_5_code
abbrev y_M_makeB : MethodName := ⟨"LevelledRingModel", "makeB", "(I)V"⟩
abbrev w_M_makeB : List Cond := .code y_M_makeB c9_M_makeB 8 none :: TB
abbrev c9_M_modulo : ByteArray := prog_10_method_6_code
abbrev y_M_modulo : MethodName := ⟨"LevelledRingModel", "modulo", "(JJ)J"⟩
abbrev w_M_modulo : List Cond := .code y_M_modulo c9_M_modulo 6 (some .long) :: TB
abbrev c9_M_withSecret : ByteArray := prog_10_method_8_code
abbrev y_M_withSecret : MethodName := ⟨"LevelledRingModel", "withSecret", "(IIJ)J"⟩
abbrev w_M_withSecret : List Cond := .code y_M_withSecret c9_M_withSecret 10 (some .long) :: TB
abbrev c9_M_put : ByteArray := prog_10_method_10_code
abbrev y_M_put : MethodName := ⟨"LevelledRingModel", "put", "(II)Z"⟩
abbrev w_M_put : List Cond := .code y_M_put c9_M_put 3 (some .boolean) :: TB
abbrev c9_M_input : ByteArray := prog_10_method_15_code
abbrev y_M_input : MethodName := ⟨"LevelledRingModel", "input", "(I)I"⟩
abbrev w_M_input : List Cond := .code y_M_input c9_M_input 2 (some .int) :: TB
abbrev c9_M_add : ByteArray := prog_10_method_12_code
abbrev y_M_add : MethodName := ⟨"LevelledRingModel", "add", "(III)I"⟩
abbrev w_M_add : List Cond := .code y_M_add c9_M_add 5 (some .int) :: TB
abbrev c9_M_plainOf : ByteArray := prog_10_method_13_code
abbrev y_M_plainOf : MethodName := ⟨"LevelledRingModel", "plainOf", "(IIII)I"⟩
abbrev w_M_plainOf : List Cond := .code y_M_plainOf c9_M_plainOf 8 (some .int) :: TB
abbrev c9_M_sign : ByteArray := prog_10_method_14_code
abbrev y_M_sign : MethodName := ⟨"LevelledRingModel", "sign", "(II)I"⟩
abbrev w_M_sign : List Cond := .code y_M_sign c9_M_sign 3 (some .int) :: TB
abbrev c9_M_sum : ByteArray := prog_10_method_17_code
abbrev y_M_sum : MethodName := ⟨"LevelledRingModel", "sum", "(II)I"⟩
abbrev w_M_sum : List Cond := .code y_M_sum c9_M_sum 3 (some .int) :: TB
abbrev c9_M_pair : ByteArray := prog_10_method_16_code
abbrev y_M_pair : MethodName := ⟨"LevelledRingModel", "pair", "(III)I"⟩
abbrev w_M_pair : List Cond := .code y_M_pair c9_M_pair 4 (some .int) :: TB
abbrev c9_M_isGate : ByteArray := prog_10_method_11_code
abbrev y_M_isGate : MethodName := ⟨"LevelledRingModel", "isGate", "(I)Z"⟩
abbrev w_M_isGate : List Cond := .code y_M_isGate c9_M_isGate 2 (some .boolean) :: TB
abbrev c9_M_difference : ByteArray := prog_10_method_18_code
abbrev y_M_difference : MethodName := ⟨"LevelledRingModel", "difference", "(II)I"⟩
abbrev w_M_difference : List Cond := .code y_M_difference c9_M_difference 3 (some .int) :: TB
abbrev c9_M_product : ByteArray := prog_10_method_19_code
abbrev y_M_product : MethodName := ⟨"LevelledRingModel", "product", "(II)I"⟩
abbrev w_M_product : List Cond := .code y_M_product c9_M_product 3 (some .int) :: TB
abbrev c9_M_shift : ByteArray := prog_10_method_20_code
abbrev y_M_shift : MethodName := ⟨"LevelledRingModel", "shift", "(II)I"⟩
abbrev w_M_shift : List Cond := .code y_M_shift c9_M_shift 3 (some .int) :: TB
abbrev c9_M_lowered : ByteArray := prog_10_method_21_code
abbrev y_M_lowered : MethodName := ⟨"LevelledRingModel", "lowered", "(I)I"⟩
abbrev w_M_lowered : List Cond := .code y_M_lowered c9_M_lowered 2 (some .int) :: TB
abbrev c9_M_count : ByteArray := prog_10_method_22_code
abbrev y_M_count : MethodName := ⟨"LevelledRingModel", "count", "()I"⟩
abbrev w_M_count : List Cond := .code y_M_count c9_M_count 1 (some .int) :: TB
abbrev c9_M_cut : ByteArray := prog_10_method_23_code
abbrev y_M_cut : MethodName := ⟨"LevelledRingModel", "cut", "(I)Z"⟩
abbrev w_M_cut : List Cond := .code y_M_cut c9_M_cut 2 (some .boolean) :: TB
abbrev c9_M_run : ByteArray := prog_10_method_33_code
abbrev y_M_run : MethodName := ⟨"LevelledRingModel", "run", "()I"⟩
abbrev w_M_run : List Cond := .code y_M_run c9_M_run 2 (some .int) :: TB
abbrev c9_M_value : ByteArray := prog_10_method_29_code
abbrev y_M_value : MethodName := ⟨"LevelledRingModel", "value", "(I)Z"⟩
abbrev w_M_value : List Cond := .code y_M_value c9_M_value 8 (some .boolean) :: TB
abbrev c9_M_encrypt : ByteArray := prog_10_method_30_code
abbrev y_M_encrypt : MethodName := ⟨"LevelledRingModel", "encrypt", "(I)Z"⟩
abbrev w_M_encrypt : List Cond := .code y_M_encrypt c9_M_encrypt 6 (some .boolean) :: TB
abbrev c9_M_keep : ByteArray := prog_10_method_28_code
abbrev y_M_keep : MethodName := ⟨"LevelledRingModel", "keep", "(IIJ)Z"⟩
abbrev w_M_keep : List Cond := .code y_M_keep c9_M_keep 5 (some .boolean) :: TB
abbrev c9_M_tooGreat : ByteArray := prog_10_method_24_code
abbrev y_M_tooGreat : MethodName := ⟨"LevelledRingModel", "tooGreat", "(JI)Z"⟩
abbrev w_M_tooGreat : List Cond := .code y_M_tooGreat c9_M_tooGreat 4 (some .boolean) :: TB
abbrev c9_M_multiply : ByteArray := prog_10_method_32_code
abbrev y_M_multiply : MethodName := ⟨"LevelledRingModel", "multiply", "(I)Z"⟩
abbrev w_M_multiply : List Cond := .code y_M_multiply c9_M_multiply 10 (some .boolean) :: TB
abbrev c9_M_level2 : ByteArray := prog_10_method_27_code
abbrev y_M_level2 : MethodName := ⟨"LevelledRingModel", "level2", "(II)Z"⟩
abbrev w_M_level2 : List Cond := .code y_M_level2 c9_M_level2 5 (some .boolean) :: TB
abbrev c9_M_load : ByteArray := prog_10_method_25_code
abbrev y_M_load : MethodName := ⟨"LevelledRingModel", "load", "(II)V"⟩
abbrev w_M_load : List Cond := .code y_M_load c9_M_load 4 none :: TB
abbrev c9_M_lower : ByteArray := prog_10_method_26_code
abbrev y_M_lower : MethodName := ⟨"LevelledRingModel", "lower", "(I)Z"⟩
abbrev w_M_lower : List Cond := .code y_M_lower c9_M_lower 12 (some .boolean) :: TB
abbrev c9_M_addProduct : ByteArray := prog_10_method_9_code
abbrev y_M_addProduct : MethodName := ⟨"LevelledRingModel", "addProduct", "(IIIJ)V"⟩
abbrev w_M_addProduct : List Cond := .code y_M_addProduct c9_M_addProduct 11 none :: TB
abbrev c9_M_combine : ByteArray := prog_10_method_31_code
abbrev y_M_combine : MethodName := ⟨"LevelledRingModel", "combine", "(II)Z"⟩
abbrev w_M_combine : List Cond := .code y_M_combine c9_M_combine 5 (some .boolean) :: TB
abbrev c9_M_level : ByteArray := prog_10_method_35_code
abbrev y_M_level : MethodName := ⟨"LevelledRingModel", "level", "(I)I"⟩
abbrev w_M_level : List Cond := .code y_M_level c9_M_level 2 (some .int) :: TB
abbrev c9_M_valued : ByteArray := prog_10_method_34_code
abbrev y_M_valued : MethodName := ⟨"LevelledRingModel", "valued", "(I)Z"⟩
abbrev w_M_valued : List Cond := .code y_M_valued c9_M_valued 2 (some .boolean) :: TB
abbrev c9_M_meter : ByteArray := prog_10_method_36_code
abbrev y_M_meter : MethodName := ⟨"LevelledRingModel", "meter", "(I)J"⟩
abbrev w_M_meter : List Cond := .code y_M_meter c9_M_meter 2 (some .long) :: TB
abbrev c9_M_noise : ByteArray := prog_10_method_38_code
abbrev y_M_noise : MethodName := ⟨"LevelledRingModel", "noise", "(I)J"⟩
abbrev w_M_noise : List Cond := .code y_M_noise c9_M_noise 7 (some .long) :: TB
abbrev c9_M_open : ByteArray := prog_10_method_37_code
abbrev y_M_open : MethodName := ⟨"LevelledRingModel", "open", "(I)V"⟩
abbrev w_M_open : List Cond := .code y_M_open c9_M_open 7 none :: TB
abbrev c9_M_part : ByteArray := prog_10_method_39_code
abbrev y_M_part : MethodName := ⟨"LevelledRingModel", "part", "(III)J"⟩
abbrev w_M_part : List Cond := .code y_M_part c9_M_part 4 (some .long) :: TB
abbrev c9_M_decrypted : ByteArray := prog_10_method_40_code
abbrev y_M_decrypted : MethodName := ⟨"LevelledRingModel", "decrypted", "(II)I"⟩
abbrev w_M_decrypted : List Cond := .code y_M_decrypted c9_M_decrypted 3 (some .int) :: TB
abbrev c9_M_plain : ByteArray := prog_10_method_41_code
abbrev y_M_plain : MethodName := ⟨"LevelledRingModel", "plain", "(II)I"⟩
abbrev w_M_plain : List Cond := .code y_M_plain c9_M_plain 3 (some .int) :: TB
abbrev c9_M_secret : ByteArray := prog_10_method_42_code
abbrev y_M_secret : MethodName := ⟨"LevelledRingModel", "secret", "(I)I"⟩
abbrev w_M_secret : List Cond := .code y_M_secret c9_M_secret 2 (some .int) :: TB
end
section
-- numbers: every int is iI of a whole number, every long lI of one; sums and products need no bounds
def iI (a : Int) : Int32 := Int32.ofInt a
def lI (a : Int) : Int64 := Int64.ofInt a
abbrev r32 (a : Int) : Prop := -2147483648 ≤ a ∧ a ≤ 2147483647
abbrev r64 (a : Int) : Prop := -9223372036854775808 ≤ a ∧ a ≤ 9223372036854775807
theorem iI_toInt {a : Int} (h : r32 a) : (iI a).toInt = a := by
  have h1 := h.1
  have h2 := h.2
  exact Int32.toInt_ofInt_of_le (by omega) (by omega)
theorem lI_toInt {a : Int} (h : r64 a) : (lI a).toInt = a := by
  have h1 := h.1
  have h2 := h.2
  exact Int64.toInt_ofInt_of_le (by omega) (by omega)
theorem r32_of (x : Int32) : r32 x.toInt := by
  have h1 := x.le_toInt
  have h2 := x.toInt_lt
  exact ⟨by omega, by omega⟩
theorem r64_of (x : Int64) : r64 x.toInt := by
  have h1 := x.le_toInt
  have h2 := x.toInt_lt
  exact ⟨by omega, by omega⟩
theorem iI_of (x : Int32) : ∃ a : Int, r32 a ∧ x = iI a := ⟨x.toInt, r32_of x, (Int32.ofInt_toInt x).symm⟩
theorem lI_of (x : Int64) : ∃ a : Int, r64 a ∧ x = lI a := ⟨x.toInt, r64_of x, (Int64.ofInt_toInt x).symm⟩
theorem iI_inj {a b : Int} (ha : r32 a) (hb : r32 b) : iI a = iI b ↔ a = b :=
  ⟨fun h => by rw [← iI_toInt ha, ← iI_toInt hb, h], fun h => by rw [h]⟩
theorem lI_inj {a b : Int} (ha : r64 a) (hb : r64 b) : lI a = lI b ↔ a = b :=
  ⟨fun h => by rw [← lI_toInt ha, ← lI_toInt hb, h], fun h => by rw [h]⟩
theorem iI_lt {a b : Int} (ha : r32 a) (hb : r32 b) : iI a < iI b ↔ a < b := by
  rw [Int32.lt_iff_toInt_lt, iI_toInt ha, iI_toInt hb]
theorem iI_le {a b : Int} (ha : r32 a) (hb : r32 b) : iI a ≤ iI b ↔ a ≤ b := by
  rw [Int32.le_iff_toInt_le, iI_toInt ha, iI_toInt hb]
theorem lI_lt {a b : Int} (ha : r64 a) (hb : r64 b) : lI a < lI b ↔ a < b := by
  rw [Int64.lt_iff_toInt_lt, lI_toInt ha, lI_toInt hb]
theorem lI_le {a b : Int} (ha : r64 a) (hb : r64 b) : lI a ≤ lI b ↔ a ≤ b := by
  rw [Int64.le_iff_toInt_le, lI_toInt ha, lI_toInt hb]
theorem iI_add (a b : Int) : iI a + iI b = iI (a + b) := (Int32.ofInt_add a b).symm
theorem iI_sub (a b : Int) : iI a - iI b = iI (a - b) := (Int32.ofInt_sub a b).symm
theorem iI_mul (a b : Int) : iI a * iI b = iI (a * b) := (Int32.ofInt_mul a b).symm
theorem iI_neg (a : Int) : -iI a = iI (-a) := (Int32.ofInt_neg a).symm
theorem lI_add (a b : Int) : lI a + lI b = lI (a + b) := (Int64.ofInt_add a b).symm
theorem lI_sub (a b : Int) : lI a - lI b = lI (a - b) := (Int64.ofInt_sub a b).symm
theorem lI_mul (a b : Int) : lI a * lI b = lI (a * b) := (Int64.ofInt_mul a b).symm
theorem lI_neg (a : Int) : -lI a = lI (-a) := (Int64.ofInt_neg a).symm
theorem lI_toI (a : Int) : (lI a).toInt32 = iI a := Int64.toInt32_ofInt
theorem iI_toL {a : Int} (h : r32 a) : (iI a).toInt64 = lI a := by
  have e := iI_toInt h
  unfold lI
  rw [← Int64.ofInt_int32ToInt, e]
theorem nI_iI (n : Nat) : nI n = iI n := Int32.ofInt_eq_ofNat.symm
theorem iI_clamp {n : Nat} (h : n < 2147483648) : (iI (n : Int)).toNatClampNeg = n := by
  rw [← nI_iI]
  exact nI_clamp (by omega)
theorem iI_in {n N : Nat} (h : n < N) (hN : N < 2147483648) : vp_in (iI (n : Int)) N := by
  rw [← nI_iI]
  exact vp_in_nI h (by omega)
theorem iI_ne0 {a : Int} (h : r32 a) (h0 : a ≠ 0) : ¬ iI a = 0 := fun e => h0 ((iI_inj h ⟨by decide, by decide⟩).mp (e.trans (by decide)))
theorem lI_ne0 {a : Int} (h : r64 a) (h0 : a ≠ 0) : ¬ lI a = 0 := fun e => h0 ((lI_inj h ⟨by decide, by decide⟩).mp (e.trans (by decide)))
theorem tmod_bd {a b : Int} (h : 0 < b) : -b < a.tmod b ∧ a.tmod b < b := ⟨Int.lt_tmod_of_pos a h, Int.tmod_lt_of_pos a h⟩
theorem iI_div {a b : Int} (ha : r32 a) (hb : r32 b) (h : 0 < b) : iI a / iI b = iI (a.tdiv b) := by
  have hne : iI b ≠ -1 := fun e => by
    have e2 : b = -1 := (iI_inj hb ⟨by decide, by decide⟩).mp (e.trans (by decide))
    omega
  have e1 := Int32.toInt_div_of_ne_right (iI a) (iI b) hne
  rw [iI_toInt ha, iI_toInt hb] at e1
  rw [← Int32.ofInt_toInt (iI a / iI b), e1]
  rfl
theorem lI_div {a b : Int} (ha : r64 a) (hb : r64 b) (h : 0 < b) : lI a / lI b = lI (a.tdiv b) := by
  have hne : lI b ≠ -1 := fun e => by
    have e2 : b = -1 := (lI_inj hb ⟨by decide, by decide⟩).mp (e.trans (by decide))
    omega
  have e1 := Int64.toInt_div_of_ne_right (lI a) (lI b) hne
  rw [lI_toInt ha, lI_toInt hb] at e1
  rw [← Int64.ofInt_toInt (lI a / lI b), e1]
  rfl
/-- what the machine calls the remainder -/
theorem iI_rem {a b : Int} (ha : r32 a) (hb : r32 b) (h : 0 < b) : iI a - iI a / iI b * iI b = iI (a.tmod b) := by
  rw [iI_div ha hb h, iI_mul, iI_sub, Int.tmod_def, Int.mul_comm b]
theorem lI_rem {a b : Int} (ha : r64 a) (hb : r64 b) (h : 0 < b) : lI a - lI a / lI b * lI b = lI (a.tmod b) := by
  rw [lI_div ha hb h, lI_mul, lI_sub, Int.tmod_def, Int.mul_comm b]
/-- a remainder that is mended where it is negative -/
theorem tmod_mend {a b : Int} (h : 0 < b) : (if a.tmod b < 0 then a.tmod b + b else a.tmod b) = a % b := by
  have h1 := Int.mul_tdiv_add_tmod a b
  have h2 := tmod_bd (a := a) h
  have h3 := Int.emod_nonneg a (Int.ne_of_gt h)
  have h4 := Int.emod_lt_of_pos a h
  split
  · rename_i hn
    have e : a = (a.tmod b + b) + b * (a.tdiv b - 1) := by rw [Int.mul_sub]; omega
    conv => rhs; rw [e]
    rw [Int.add_mul_emod_self_left, Int.emod_eq_of_lt (by omega) (by omega)]
  · rename_i hn
    have e : a = a.tmod b + b * a.tdiv b := by omega
    conv => rhs; rw [e]
    rw [Int.add_mul_emod_self_left, Int.emod_eq_of_lt (by omega) (by omega)]
end
section
-- the world: N cells that lie one behind another from b on; a cell's place in the layout is its number
def wl (N b : Nat) (u : Nat → va_E) : va_W := (List.range N).map (fun k => (b + k, u k))
def AA (b : Nat) : Nat → Prop := fun q => b ≤ q
theorem wl_get {N b k : Nat} {u : Nat → va_E} (h : k < N) : (wl N b u)[k]? = some (b + k, u k) := by
  unfold wl
  rw [List.getElem?_map, List.getElem?_range h]
  rfl
theorem wl_len {N b : Nat} {u : Nat → va_E} : (wl N b u).length = N := by simp [wl]
theorem wl_in {N b k : Nat} {u : Nat → va_E} {q : Nat × va_E} (h : (wl N b u)[k]? = some q) : k < N ∧ q = (b + k, u k) := by
  have hk : k < N := by
    have h1 := (List.getElem?_eq_some_iff.mp h).1
    rwa [wl_len] at h1
  rw [wl_get hk] at h
  exact ⟨hk, (Option.some.inj h).symm⟩
theorem up_s {α : Type} {f : Nat → α} {k : Nat} {v : α} : va_up f k v k = v := by simp [va_up]
theorem up_n {α : Type} {f : Nat → α} {k j : Nat} {v : α} (h : j ≠ k) : va_up f k v j = f j := by simp [va_up, h]
theorem wl_set {N b : Nat} {u : Nat → va_E} (k : Nat) (e : va_E) : (wl N b u).set k (b + k, e) = wl N b (va_up u k e) := by
  apply List.ext_getElem?
  intro j
  by_cases hj : j < N
  · by_cases hk : k = j
    · subst hk
      rw [wl_get hj, List.getElem?_set_self (by rw [wl_len]; exact hj), up_s]
    · rw [List.getElem?_set_ne hk, wl_get hj, wl_get hj, up_n (Ne.symm hk)]
  · rw [List.getElem?_eq_none (by rw [List.length_set, wl_len]; omega), List.getElem?_eq_none (by rw [wl_len]; omega)]
theorem wl_push {N b : Nat} {u : Nat → va_E} (e : va_E) : wl N b u ++ [(b + N, e)] = wl (N + 1) b (va_up u N e) := by
  unfold wl
  rw [List.range_succ, List.map_append]
  congr 1
  · apply List.map_congr_left
    intro k hk
    have h : k < N := List.mem_range.mp hk
    rw [up_n (Nat.ne_of_lt h)]
  · simp [va_up]
theorem wl_congr {N b : Nat} {u v : Nat → va_E} (h : ∀ k, k < N → u k = v k) : wl N b u = wl N b v := by
  unfold wl
  apply List.map_congr_left
  intro k hk
  rw [h k (List.mem_range.mp hk)]
theorem wl_D {N b : Nat} {u : Nat → va_E} : va_D (AA b) (wl N b u) := by
  refine ⟨fun i j p q hi hj he => ?_, fun k q hk => ?_⟩
  · obtain ⟨-, rfl⟩ := wl_in hi
    obtain ⟨-, rfl⟩ := wl_in hj
    have he : b + i = b + j := he
    omega
  · obtain ⟨-, rfl⟩ := wl_in hk
    exact Nat.le_add_right b k
/-- array contents by whole numbers -/
def zu (g : Int → Int) (a x : Int) : Int → Int := fun j => if j = a then x else g j
theorem zu_s {g : Int → Int} {a x : Int} : zu g a x a = x := by simp [zu]
theorem zu_n {g : Int → Int} {a x j : Int} (h : j ≠ a) : zu g a x j = g j := by simp [zu, h]
abbrev ir (ct : Nat → ClassId) (n : Nat) (g : Int → Int) : va_E := .inl (ct 0, n, .inl (fun j => iI (g (j : Int))))
abbrev lr (ct : Nat → ClassId) (n : Nat) (g : Int → Int) : va_E := .inl (ct 1, n, .inr (.inl (fun j => lI (g (j : Int)))))
abbrev zr (ct : Nat → ClassId) (n : Nat) (g : Int → Int) : va_E := .inl (ct 2, n, .inl (fun j => iI (g (j : Int))))
abbrev qr (ct : Nat → ClassId) (i n : Nat) (f : Nat → Option Nat) : va_E := .inl (ct i, n, .inr (.inr (.inr (.inr f))))
theorem zu_upd (g : Int → Int) {n : Nat} (h : n < 2147483648) (x : Int) : upd (fun j => iI (g (j : Int))) (iI (n : Int)).toNatClampNeg (iI x) = fun j : Nat => iI (zu g n x (j : Int)) := by
  funext j
  rw [iI_clamp h]
  unfold upd zu
  by_cases hj : j = n
  · rw [if_pos hj, if_pos (by omega)]
  · rw [if_neg hj, if_neg (by omega)]
theorem zu_updL (g : Int → Int) {n : Nat} (h : n < 2147483648) (x : Int) : vp_updL (fun j => lI (g (j : Int))) (iI (n : Int)).toNatClampNeg (lI x) = fun j : Nat => lI (zu g n x (j : Int)) := by
  funext j
  rw [iI_clamp h]
  unfold vp_updL zu
  by_cases hj : j = n
  · rw [if_pos hj, if_pos (by omega)]
  · rw [if_neg hj, if_neg (by omega)]
/-- the kinds of arrays of the world: int, long, boolean, gates, polynomials -/
abbrev cty (ct : Nat → ClassId) : List (ClassId × FieldType) := [(ct 0, .int), (ct 1, .long), (ct 2, .boolean), (ct 3, .object "LevelledRing$Gate"), (ct 4, .object "LevelledRing$Poly")]
section XW
variable {p : Program} {l : Launch} {e : Env} {R : Room} {s : State} {m : MethodId} {args : Array Value} {below : List Frame} {meth : Method} {c : Code} {H : Heap} {locs : List Loc} {cells slots : Nat} {Q : State → Prop}
variable {cc : ByteArray} {pc : Nat} {ls : Array Slot} {rest : List Value}
variable {D : va_G} {cl : List vw_C} {ct : Nat → ClassId} {b N : Nat} {u : Nat → va_E}
/-- another name of the number on top -/
theorem x_i {x y : Int32} (h : x = y) (k : W p l e R s m args below meth c H locs cells slots Q (F0 m pc ls (.int y :: rest))) : W p l e R s m args below meth c H locs cells slots Q (F0 m pc ls (.int x :: rest)) := h ▸ k
theorem x_l {x y : Int64} (h : x = y) (k : W p l e R s m args below meth c H locs cells slots Q (F0 m pc ls (.long y :: rest))) : W p l e R s m args below meth c H locs cells slots Q (F0 m pc ls (.long x :: rest)) := h ▸ k
theorem x_ie {x y : Int} (h : x = y) (k : W p l e R s m args below meth c H locs cells slots Q (F0 m pc ls (.int (iI y) :: rest))) : W p l e R s m args below meth c H locs cells slots Q (F0 m pc ls (.int (iI x) :: rest)) := h ▸ k
theorem x_le {x y : Int} (h : x = y) (k : W p l e R s m args below meth c H locs cells slots Q (F0 m pc ls (.long (lI y) :: rest))) : W p l e R s m args below meth c H locs cells slots Q (F0 m pc ls (.long (lI x) :: rest)) := h ▸ k
theorem x_iadd (hx : p.tables.exec = Jvm.exec) (hb : c.code = cc) {x y : Int} (hdg : decode cc pc = .ok (.iadd, 1)) (k : W p l e R s m args below meth c H locs cells slots Q (F0 m (pc + 1) ls (.int (iI (x + y)) :: rest))) : W p l e R s m args below meth c H locs cells slots Q (F0 m pc ls (.int (iI y) :: .int (iI x) :: rest)) :=
  lv_iadd hx hb hdg (x_i (iI_add x y) k)
theorem x_isub (hx : p.tables.exec = Jvm.exec) (hb : c.code = cc) {x y : Int} (hdg : decode cc pc = .ok (.isub, 1)) (k : W p l e R s m args below meth c H locs cells slots Q (F0 m (pc + 1) ls (.int (iI (x - y)) :: rest))) : W p l e R s m args below meth c H locs cells slots Q (F0 m pc ls (.int (iI y) :: .int (iI x) :: rest)) :=
  lv_isub hx hb hdg (x_i (iI_sub x y) k)
theorem x_imul (hx : p.tables.exec = Jvm.exec) (hb : c.code = cc) {x y : Int} (hdg : decode cc pc = .ok (.imul, 1)) (k : W p l e R s m args below meth c H locs cells slots Q (F0 m (pc + 1) ls (.int (iI (x * y)) :: rest))) : W p l e R s m args below meth c H locs cells slots Q (F0 m pc ls (.int (iI y) :: .int (iI x) :: rest)) :=
  lv_imul hx hb hdg (x_i (iI_mul x y) k)
theorem x_ineg (hx : p.tables.exec = Jvm.exec) (hb : c.code = cc) {x : Int} (hdg : decode cc pc = .ok (.ineg, 1)) (k : W p l e R s m args below meth c H locs cells slots Q (F0 m (pc + 1) ls (.int (iI (-x)) :: rest))) : W p l e R s m args below meth c H locs cells slots Q (F0 m pc ls (.int (iI x) :: rest)) :=
  lv_ineg hx hb hdg (x_i (iI_neg x) k)
theorem x_ladd (hx : p.tables.exec = Jvm.exec) (hb : c.code = cc) {x y : Int} (hdg : decode cc pc = .ok (.ladd, 1)) (k : W p l e R s m args below meth c H locs cells slots Q (F0 m (pc + 1) ls (.long (lI (x + y)) :: rest))) : W p l e R s m args below meth c H locs cells slots Q (F0 m pc ls (.long (lI y) :: .long (lI x) :: rest)) :=
  lv_ladd hx hb hdg (x_l (lI_add x y) k)
theorem x_lsub (hx : p.tables.exec = Jvm.exec) (hb : c.code = cc) {x y : Int} (hdg : decode cc pc = .ok (.lsub, 1)) (k : W p l e R s m args below meth c H locs cells slots Q (F0 m (pc + 1) ls (.long (lI (x - y)) :: rest))) : W p l e R s m args below meth c H locs cells slots Q (F0 m pc ls (.long (lI y) :: .long (lI x) :: rest)) :=
  lv_lsub hx hb hdg (x_l (lI_sub x y) k)
theorem x_lmul (hx : p.tables.exec = Jvm.exec) (hb : c.code = cc) {x y : Int} (hdg : decode cc pc = .ok (.lmul, 1)) (k : W p l e R s m args below meth c H locs cells slots Q (F0 m (pc + 1) ls (.long (lI (x * y)) :: rest))) : W p l e R s m args below meth c H locs cells slots Q (F0 m pc ls (.long (lI y) :: .long (lI x) :: rest)) :=
  lv_lmul hx hb hdg (x_l (lI_mul x y) k)
theorem x_lneg (hx : p.tables.exec = Jvm.exec) (hb : c.code = cc) {x : Int} (hdg : decode cc pc = .ok (.lneg, 1)) (k : W p l e R s m args below meth c H locs cells slots Q (F0 m (pc + 1) ls (.long (lI (-x)) :: rest))) : W p l e R s m args below meth c H locs cells slots Q (F0 m pc ls (.long (lI x) :: rest)) :=
  lv_lneg hx hb hdg (x_l (lI_neg x) k)
theorem x_i2l (hx : p.tables.exec = Jvm.exec) (hb : c.code = cc) {x : Int} (hr : r32 x) (hdg : decode cc pc = .ok (.i2l, 1)) (k : W p l e R s m args below meth c H locs cells slots Q (F0 m (pc + 1) ls (.long (lI x) :: rest))) : W p l e R s m args below meth c H locs cells slots Q (F0 m pc ls (.int (iI x) :: rest)) :=
  lv_i2l hx hb hdg (iI_toL hr) k
theorem x_l2i (hx : p.tables.exec = Jvm.exec) (hb : c.code = cc) {x : Int} (hdg : decode cc pc = .ok (.l2i, 1)) (k : W p l e R s m args below meth c H locs cells slots Q (F0 m (pc + 1) ls (.int (iI x) :: rest))) : W p l e R s m args below meth c H locs cells slots Q (F0 m pc ls (.long (lI x) :: rest)) :=
  lv_l2i hx hb hdg (lI_toI x) k
theorem x_irem (hx : p.tables.exec = Jvm.exec) (hb : c.code = cc) {x y : Int} (hr : r32 x) (hy : r32 y) (h0 : 0 < y) (hdg : decode cc pc = .ok (.irem, 1)) (k : W p l e R s m args below meth c H locs cells slots Q (F0 m (pc + 1) ls (.int (iI (x.tmod y)) :: rest))) : W p l e R s m args below meth c H locs cells slots Q (F0 m pc ls (.int (iI y) :: .int (iI x) :: rest)) :=
  lv_irem hx hb hdg (iI_ne0 hy (Int.ne_of_gt h0)) (x_i (iI_rem hr hy h0) k)
theorem x_iremP (hx : p.tables.exec = Jvm.exec) (hb : c.code = cc) {x y : Int} (hr : r32 x) (hy : r32 y) (h0 : 0 < y) (hp : 0 ≤ x) (hdg : decode cc pc = .ok (.irem, 1)) (k : W p l e R s m args below meth c H locs cells slots Q (F0 m (pc + 1) ls (.int (iI (x % y)) :: rest))) : W p l e R s m args below meth c H locs cells slots Q (F0 m pc ls (.int (iI y) :: .int (iI x) :: rest)) :=
  x_irem hx hb hr hy h0 hdg (x_ie (Int.tmod_eq_emod_of_nonneg hp) k)
theorem x_lrem (hx : p.tables.exec = Jvm.exec) (hb : c.code = cc) {x y : Int} (hr : r64 x) (hy : r64 y) (h0 : 0 < y) (hdg : decode cc pc = .ok (.lrem, 1)) (k : W p l e R s m args below meth c H locs cells slots Q (F0 m (pc + 1) ls (.long (lI (x.tmod y)) :: rest))) : W p l e R s m args below meth c H locs cells slots Q (F0 m pc ls (.long (lI y) :: .long (lI x) :: rest)) :=
  lv_lrem hx hb hdg (lI_ne0 hy (Int.ne_of_gt h0)) (x_l (lI_rem hr hy h0) k)
theorem x_lremP (hx : p.tables.exec = Jvm.exec) (hb : c.code = cc) {x y : Int} (hr : r64 x) (hy : r64 y) (h0 : 0 < y) (hp : 0 ≤ x) (hdg : decode cc pc = .ok (.lrem, 1)) (k : W p l e R s m args below meth c H locs cells slots Q (F0 m (pc + 1) ls (.long (lI (x % y)) :: rest))) : W p l e R s m args below meth c H locs cells slots Q (F0 m pc ls (.long (lI y) :: .long (lI x) :: rest)) :=
  x_lrem hx hb hr hy h0 hdg (x_le (Int.tmod_eq_emod_of_nonneg hp) k)
theorem x_ldiv (hx : p.tables.exec = Jvm.exec) (hb : c.code = cc) {x y : Int} (hr : r64 x) (hy : r64 y) (h0 : 0 < y) (hdg : decode cc pc = .ok (.ldiv, 1)) (k : W p l e R s m args below meth c H locs cells slots Q (F0 m (pc + 1) ls (.long (lI (x.tdiv y)) :: rest))) : W p l e R s m args below meth c H locs cells slots Q (F0 m pc ls (.long (lI y) :: .long (lI x) :: rest)) :=
  lv_ldiv hx hb hdg (lI_ne0 hy (Int.ne_of_gt h0)) (x_l (lI_div hr hy h0) k)
theorem x_ldivP (hx : p.tables.exec = Jvm.exec) (hb : c.code = cc) {x y : Int} (hr : r64 x) (hy : r64 y) (h0 : 0 < y) (hp : 0 ≤ x) (hdg : decode cc pc = .ok (.ldiv, 1)) (k : W p l e R s m args below meth c H locs cells slots Q (F0 m (pc + 1) ls (.long (lI (x / y)) :: rest))) : W p l e R s m args below meth c H locs cells slots Q (F0 m pc ls (.long (lI y) :: .long (lI x) :: rest)) :=
  x_ldiv hx hb hr hy h0 hdg (x_le (Int.tdiv_eq_ediv_of_nonneg hp) k)
theorem x_idivP (hx : p.tables.exec = Jvm.exec) (hb : c.code = cc) {x y : Int} (hr : r32 x) (hy : r32 y) (h0 : 0 < y) (hp : 0 ≤ x) (hdg : decode cc pc = .ok (.idiv, 1)) (k : W p l e R s m args below meth c H locs cells slots Q (F0 m (pc + 1) ls (.int (iI (x / y)) :: rest))) : W p l e R s m args below meth c H locs cells slots Q (F0 m pc ls (.int (iI y) :: .int (iI x) :: rest)) :=
  lv_idiv hx hb hdg (iI_ne0 hy (Int.ne_of_gt h0)) (x_i (iI_div hr hy h0) (x_ie (Int.tdiv_eq_ediv_of_nonneg hp) k))
-- branches
theorem x_icmp_ge (hx : p.tables.exec = Jvm.exec) (hb : c.code = cc) {x y : Int} (hr : r32 x) (hy : r32 y) {off : Int} {tgt : Nat} (hdg : decode cc pc = .ok (.if_icmp .ge off, 3)) (ht : (pc : Int) + off = (tgt : Int)) (kt : y ≤ x → W p l e R s m args below meth c H locs cells slots Q (F0 m tgt ls rest)) (kf : x < y → W p l e R s m args below meth c H locs cells slots Q (F0 m (pc + 3) ls rest)) : W p l e R s m args below meth c H locs cells slots Q (F0 m pc ls (.int (iI y) :: .int (iI x) :: rest)) :=
  lv_icmp_ge hx hb hdg ht (fun h => kt ((iI_le hy hr).mp h)) (fun h => kf (Int.not_le.mp fun g => h ((iI_le hy hr).mpr g)))
theorem x_icmp_gt (hx : p.tables.exec = Jvm.exec) (hb : c.code = cc) {x y : Int} (hr : r32 x) (hy : r32 y) {off : Int} {tgt : Nat} (hdg : decode cc pc = .ok (.if_icmp .gt off, 3)) (ht : (pc : Int) + off = (tgt : Int)) (kt : y < x → W p l e R s m args below meth c H locs cells slots Q (F0 m tgt ls rest)) (kf : x ≤ y → W p l e R s m args below meth c H locs cells slots Q (F0 m (pc + 3) ls rest)) : W p l e R s m args below meth c H locs cells slots Q (F0 m pc ls (.int (iI y) :: .int (iI x) :: rest)) :=
  lv_icmp_gt hx hb hdg ht (fun h => kt ((iI_lt hy hr).mp h)) (fun h => kf (Int.not_lt.mp fun g => h ((iI_lt hy hr).mpr g)))
theorem x_icmp_lt (hx : p.tables.exec = Jvm.exec) (hb : c.code = cc) {x y : Int} (hr : r32 x) (hy : r32 y) {off : Int} {tgt : Nat} (hdg : decode cc pc = .ok (.if_icmp .lt off, 3)) (ht : (pc : Int) + off = (tgt : Int)) (kt : x < y → W p l e R s m args below meth c H locs cells slots Q (F0 m tgt ls rest)) (kf : y ≤ x → W p l e R s m args below meth c H locs cells slots Q (F0 m (pc + 3) ls rest)) : W p l e R s m args below meth c H locs cells slots Q (F0 m pc ls (.int (iI y) :: .int (iI x) :: rest)) :=
  lv_icmp_lt hx hb hdg ht (fun h => kt ((iI_lt hr hy).mp h)) (fun h => kf (Int.not_lt.mp fun g => h ((iI_lt hr hy).mpr g)))
theorem x_icmp_le (hx : p.tables.exec = Jvm.exec) (hb : c.code = cc) {x y : Int} (hr : r32 x) (hy : r32 y) {off : Int} {tgt : Nat} (hdg : decode cc pc = .ok (.if_icmp .le off, 3)) (ht : (pc : Int) + off = (tgt : Int)) (kt : x ≤ y → W p l e R s m args below meth c H locs cells slots Q (F0 m tgt ls rest)) (kf : y < x → W p l e R s m args below meth c H locs cells slots Q (F0 m (pc + 3) ls rest)) : W p l e R s m args below meth c H locs cells slots Q (F0 m pc ls (.int (iI y) :: .int (iI x) :: rest)) :=
  lv_icmp_le hx hb hdg ht (fun h => kt ((iI_le hr hy).mp h)) (fun h => kf (Int.not_le.mp fun g => h ((iI_le hr hy).mpr g)))
theorem x_icmp_eq (hx : p.tables.exec = Jvm.exec) (hb : c.code = cc) {x y : Int} (hr : r32 x) (hy : r32 y) {off : Int} {tgt : Nat} (hdg : decode cc pc = .ok (.if_icmp .eq off, 3)) (ht : (pc : Int) + off = (tgt : Int)) (kt : x = y → W p l e R s m args below meth c H locs cells slots Q (F0 m tgt ls rest)) (kf : x ≠ y → W p l e R s m args below meth c H locs cells slots Q (F0 m (pc + 3) ls rest)) : W p l e R s m args below meth c H locs cells slots Q (F0 m pc ls (.int (iI y) :: .int (iI x) :: rest)) :=
  lv_icmp_eq hx hb hdg ht (fun h => kt ((iI_inj hr hy).mp h)) (fun h => kf fun g => h ((iI_inj hr hy).mpr g))
theorem x_icmp_ne (hx : p.tables.exec = Jvm.exec) (hb : c.code = cc) {x y : Int} (hr : r32 x) (hy : r32 y) {off : Int} {tgt : Nat} (hdg : decode cc pc = .ok (.if_icmp .ne off, 3)) (ht : (pc : Int) + off = (tgt : Int)) (kt : x ≠ y → W p l e R s m args below meth c H locs cells slots Q (F0 m tgt ls rest)) (kf : x = y → W p l e R s m args below meth c H locs cells slots Q (F0 m (pc + 3) ls rest)) : W p l e R s m args below meth c H locs cells slots Q (F0 m pc ls (.int (iI y) :: .int (iI x) :: rest)) :=
  lv_icmp_ne hx hb hdg ht (fun h => kt fun g => h ((iI_inj hr hy).mpr g)) (fun h => kf ((iI_inj hr hy).mp h))
theorem r32_0 : r32 0 := ⟨by decide, by decide⟩
theorem iI_0 : (0 : Int32) = iI 0 := by decide
theorem x_if_lt (hx : p.tables.exec = Jvm.exec) (hb : c.code = cc) {x : Int} (hr : r32 x) {off : Int} {tgt : Nat} (hdg : decode cc pc = .ok (.ifCond .lt off, 3)) (ht : (pc : Int) + off = (tgt : Int)) (kt : x < 0 → W p l e R s m args below meth c H locs cells slots Q (F0 m tgt ls rest)) (kf : 0 ≤ x → W p l e R s m args below meth c H locs cells slots Q (F0 m (pc + 3) ls rest)) : W p l e R s m args below meth c H locs cells slots Q (F0 m pc ls (.int (iI x) :: rest)) :=
  lv_if_lt hx hb hdg ht (fun h => kt ((iI_lt hr r32_0).mp (iI_0 ▸ h))) (fun h => kf (Int.not_lt.mp fun g => h (iI_0 ▸ (iI_lt hr r32_0).mpr g)))
theorem x_if_ge (hx : p.tables.exec = Jvm.exec) (hb : c.code = cc) {x : Int} (hr : r32 x) {off : Int} {tgt : Nat} (hdg : decode cc pc = .ok (.ifCond .ge off, 3)) (ht : (pc : Int) + off = (tgt : Int)) (kt : 0 ≤ x → W p l e R s m args below meth c H locs cells slots Q (F0 m tgt ls rest)) (kf : x < 0 → W p l e R s m args below meth c H locs cells slots Q (F0 m (pc + 3) ls rest)) : W p l e R s m args below meth c H locs cells slots Q (F0 m pc ls (.int (iI x) :: rest)) :=
  lv_if_ge hx hb hdg ht (fun h => kt ((iI_le r32_0 hr).mp (iI_0 ▸ h))) (fun h => kf (Int.not_le.mp fun g => h (iI_0 ▸ (iI_le r32_0 hr).mpr g)))
theorem x_if_gt (hx : p.tables.exec = Jvm.exec) (hb : c.code = cc) {x : Int} (hr : r32 x) {off : Int} {tgt : Nat} (hdg : decode cc pc = .ok (.ifCond .gt off, 3)) (ht : (pc : Int) + off = (tgt : Int)) (kt : 0 < x → W p l e R s m args below meth c H locs cells slots Q (F0 m tgt ls rest)) (kf : x ≤ 0 → W p l e R s m args below meth c H locs cells slots Q (F0 m (pc + 3) ls rest)) : W p l e R s m args below meth c H locs cells slots Q (F0 m pc ls (.int (iI x) :: rest)) :=
  lv_if_gt hx hb hdg ht (fun h => kt ((iI_lt r32_0 hr).mp (iI_0 ▸ h))) (fun h => kf (Int.not_lt.mp fun g => h (iI_0 ▸ (iI_lt r32_0 hr).mpr g)))
theorem x_if_le (hx : p.tables.exec = Jvm.exec) (hb : c.code = cc) {x : Int} (hr : r32 x) {off : Int} {tgt : Nat} (hdg : decode cc pc = .ok (.ifCond .le off, 3)) (ht : (pc : Int) + off = (tgt : Int)) (kt : x ≤ 0 → W p l e R s m args below meth c H locs cells slots Q (F0 m tgt ls rest)) (kf : 0 < x → W p l e R s m args below meth c H locs cells slots Q (F0 m (pc + 3) ls rest)) : W p l e R s m args below meth c H locs cells slots Q (F0 m pc ls (.int (iI x) :: rest)) :=
  lv_if_le hx hb hdg ht (fun h => kt ((iI_le hr r32_0).mp (iI_0 ▸ h))) (fun h => kf (Int.not_le.mp fun g => h (iI_0 ▸ (iI_le hr r32_0).mpr g)))
theorem x_if_eq (hx : p.tables.exec = Jvm.exec) (hb : c.code = cc) {x : Int} (hr : r32 x) {off : Int} {tgt : Nat} (hdg : decode cc pc = .ok (.ifCond .eq off, 3)) (ht : (pc : Int) + off = (tgt : Int)) (kt : x = 0 → W p l e R s m args below meth c H locs cells slots Q (F0 m tgt ls rest)) (kf : x ≠ 0 → W p l e R s m args below meth c H locs cells slots Q (F0 m (pc + 3) ls rest)) : W p l e R s m args below meth c H locs cells slots Q (F0 m pc ls (.int (iI x) :: rest)) :=
  lv_if_eq hx hb hdg ht (fun h => kt ((iI_inj hr r32_0).mp (h.trans iI_0))) (fun h => kf fun g => h (by rw [g]; exact iI_0.symm))
theorem x_if_ne (hx : p.tables.exec = Jvm.exec) (hb : c.code = cc) {x : Int} (hr : r32 x) {off : Int} {tgt : Nat} (hdg : decode cc pc = .ok (.ifCond .ne off, 3)) (ht : (pc : Int) + off = (tgt : Int)) (kt : x ≠ 0 → W p l e R s m args below meth c H locs cells slots Q (F0 m tgt ls rest)) (kf : x = 0 → W p l e R s m args below meth c H locs cells slots Q (F0 m (pc + 3) ls rest)) : W p l e R s m args below meth c H locs cells slots Q (F0 m pc ls (.int (iI x) :: rest)) :=
  lv_if_ne hx hb hdg ht (fun h => kt fun g => h (by rw [g]; exact iI_0.symm)) (fun h => kf ((iI_inj hr r32_0).mp (h.trans iI_0)))
/-- a comparison of longs: the number that the branch behind it asks for -/
def cmpz (x y : Int) : Int := if y < x then 1 else if x = y then 0 else -1
theorem cmpz_r (x y : Int) : r32 (cmpz x y) := by
  unfold cmpz r32
  split
  · exact ⟨by decide, by decide⟩
  · split <;> exact ⟨by decide, by decide⟩
theorem x_lcmp (hx : p.tables.exec = Jvm.exec) (hb : c.code = cc) {x y : Int} (hr : r64 x) (hy : r64 y) (hdg : decode cc pc = .ok (.lcmp, 1)) (k : W p l e R s m args below meth c H locs cells slots Q (F0 m (pc + 1) ls (.int (iI (cmpz x y)) :: rest))) : W p l e R s m args below meth c H locs cells slots Q (F0 m pc ls (.long (lI y) :: .long (lI x) :: rest)) := by
  refine W.lcmp hx hb hdg (x_i ?_ k)
  unfold lg_cmp cmpz
  by_cases h1 : y < x
  · rw [if_pos ((lI_lt hy hr).mpr h1), if_pos h1]; decide
  · rw [if_neg (fun g => h1 ((lI_lt hy hr).mp g)), if_neg h1]
    by_cases h2 : x = y
    · rw [if_pos ((lI_inj hr hy).mpr h2), if_pos h2]; decide
    · rw [if_neg (fun g => h2 ((lI_inj hr hy).mp g)), if_neg h2]; decide
theorem cmpz_le {x y : Int} : cmpz x y ≤ 0 ↔ x ≤ y := by
  unfold cmpz
  split
  · omega
  · split <;> omega
theorem cmpz_lt {x y : Int} : cmpz x y < 0 ↔ x < y := by
  unfold cmpz
  split
  · omega
  · split <;> omega
theorem cmpz_eq {x y : Int} : cmpz x y = 0 ↔ x = y := by
  unfold cmpz
  split
  · omega
  · split <;> omega
end XW
end
section
-- rows over the world wl: fields, arrays, what is made, calls
section XH
variable {p : Program} {l : Launch} {e : Env} {R : Room} {s : State} {m : MethodId} {args : Array Value} {below : List Frame} {meth : Method} {c : Code} {H : Heap} {locs : List Loc} {cells slots : Nat} {Q : State → Prop}
variable {cc : ByteArray} {pc : Nat} {ls : Array Slot} {rest : List Value}
variable {D : va_G} {cl : List vw_C} {ct : Nat → ClassId} {b N : Nat} {u : Nat → va_E}
theorem w_get (hx : p.tables.exec = Jvm.exec) (hb : c.code = cc) {own ref C : String} {T : u_T} {M ci index : Nat} {Ts : List Cond} (hts : ∀ w ∈ Ts, w.before args s = true) (hin : ∀ w ∈ u_ws C T M, w ∈ Ts) (hown : s.vm.findClass own = some m.cls) (hK : va_K D cl (cty ct) s) (hP : va_P D cl (wl N b u) H) (k : Nat) (hk : k < N) {fs : List Value} (hu : u k = .inr (ci, fs)) (hc : cl[ci]? = some (C, T, M)) (j : Nat) (hj : j < M) (hlink : (Cond.fieldLink own index ref (T j).2.1 (T j).2.2.1).before args s = true) (hsame : ∀ x, s.fieldFound? (T j).1 (T j).2.1 (T j).2.2.1 = some x → s.fieldFound? ref (T j).2.1 (T j).2.2.1 = some x) {v : Value} (hv : fs[j]? = some v) (hdg : decode cc pc = .ok (.getfield index, 3)) (kk : W p l e R s m args below meth c H locs cells slots Q (F0 m (pc + 3) ls (v :: rest))) : W p l e R s m args below meth c H locs cells slots Q (F0 m pc ls (.ref (b + k) :: rest)) :=
  va_get hx hb hts hin hown hK hP k (by rw [wl_get hk, hu]) hc j hj hlink hsame hv hdg kk
theorem w_put (hx : p.tables.exec = Jvm.exec) (hb : c.code = cc) {own ref C : String} {T : u_T} {M ci index : Nat} {Ts : List Cond} (hts : ∀ w ∈ Ts, w.before args s = true) (hin : ∀ w ∈ u_ws C T M, w ∈ Ts) (ty0 : Nat → FieldType) (hty : ∀ k, k < M → parseFieldDescriptor (T k).2.2.1 = some (ty0 k)) (hnm : ∀ a, a < M → ∀ b, b < M → a ≠ b → (T a).2.1 ≠ (T b).2.1) (hown : s.vm.findClass own = some m.cls) (hK : va_K D cl (cty ct) s) (hP : va_P D cl (wl N b u) H) (hS : va_S (AA b) s.heap H locs) (k : Nat) (hk : k < N) {fs : List Value} (hu : u k = .inr (ci, fs)) (hc : cl[ci]? = some (C, T, M)) (j : Nat) (hj : j < M) (hlink : (Cond.fieldLink own index ref (T j).2.1 (T j).2.2.1).before args s = true) (hsame : ∀ x, s.fieldFound? (T j).1 (T j).2.1 (T j).2.2.1 = some x → s.fieldFound? ref (T j).2.1 (T j).2.2.1 = some x) (hfin : (T j).2.2.2 = false) {ty : FieldType} {v : Value} (hd : parseFieldDescriptor (T j).2.2.1 = some ty) (hn : narrow ty v = v) (hfit : fits ty v = true) (hl : j < fs.length) (hdg : decode cc pc = .ok (.putfield index, 3)) (kk : ∀ (H1 : Heap) (locs1 : List Loc), va_P D cl (wl N b (va_up u k (.inr (ci, fs.set j v)))) H1 → va_S (AA b) s.heap H1 locs1 → W p l e R s m args below meth c H1 locs1 cells slots Q (F0 m (pc + 3) ls rest)) : W p l e R s m args below meth c H locs cells slots Q (F0 m pc ls (v :: .ref (b + k) :: rest)) :=
  va_put hx hb hts hin ty0 hty hnm hown hK hP wl_D hS k (by rw [wl_get hk, hu]) hc j hj hlink hsame hfin hd hn hfit hl hdg (fun H1 locs1 h1 _ h3 => kk H1 locs1 (by rw [← wl_set]; exact h1) h3)
theorem w_putF (hx : p.tables.exec = Jvm.exec) (hb : c.code = cc) {own ref C : String} {T : u_T} {M ci index : Nat} {Ts : List Cond} (hts : ∀ w ∈ Ts, w.before args s = true) (hin : ∀ w ∈ u_ws C T M, w ∈ Ts) (ty0 : Nat → FieldType) (hty : ∀ k, k < M → parseFieldDescriptor (T k).2.2.1 = some (ty0 k)) (hnm : ∀ a, a < M → ∀ b, b < M → a ≠ b → (T a).2.1 ≠ (T b).2.1) (hown : s.vm.findClass own = some m.cls) (hK : va_K D cl (cty ct) s) (hP : va_P D cl (wl N b u) H) (hS : va_S (AA b) s.heap H locs) (k : Nat) (hk : k < N) {fs : List Value} (hu : u k = .inr (ci, fs)) (hc : cl[ci]? = some (C, T, M)) (j : Nat) (hj : j < M) (hlink : (Cond.fieldLink own index ref (T j).2.1 (T j).2.2.1).before args s = true) (hsame : ∀ x, s.fieldFound? (T j).1 (T j).2.1 (T j).2.2.1 = some x → s.fieldFound? ref (T j).2.1 (T j).2.2.1 = some x) (hfin : (T j).2.2.2 = true) (hin2 : meth.name = "<init>") (hdecl : (T j).1 = own) {ty : FieldType} {v : Value} (hd : parseFieldDescriptor (T j).2.2.1 = some ty) (hn : narrow ty v = v) (hfit : fits ty v = true) (hl : j < fs.length) (hdg : decode cc pc = .ok (.putfield index, 3)) (kk : ∀ (H1 : Heap) (locs1 : List Loc), va_P D cl (wl N b (va_up u k (.inr (ci, fs.set j v)))) H1 → va_S (AA b) s.heap H1 locs1 → W p l e R s m args below meth c H1 locs1 cells slots Q (F0 m (pc + 3) ls rest)) : W p l e R s m args below meth c H locs cells slots Q (F0 m pc ls (v :: .ref (b + k) :: rest)) :=
  va_putF hx hb hts hin ty0 hty hnm hown hK hP wl_D hS k (by rw [wl_get hk, hu]) hc j hj hlink hsame hfin hin2 hdecl hd hn hfit hl hdg (fun H1 locs1 h1 _ h3 => kk H1 locs1 (by rw [← wl_set]; exact h1) h3)
theorem w_iald (hx : p.tables.exec = Jvm.exec) (hb : c.code = cc) (hK : va_K D cl (cty ct) s) (hP : va_P D cl (wl N b u) H) (k : Nat) (hk : k < N) {n : Nat} {g : Int → Int} (hu : u k = ir ct n g) {a : Int} (h0 : 0 ≤ a) (h1 : a < n) (hn : n < 2147483648) (hdg : decode cc pc = .ok (.iaload, 1)) (kk : W p l e R s m args below meth c H locs cells slots Q (F0 m (pc + 1) ls (.int (iI (g a)) :: rest))) : W p l e R s m args below meth c H locs cells slots Q (F0 m pc ls (.int (iI a) :: .ref (b + k) :: rest)) := by
  obtain ⟨j, rfl⟩ := Int.eq_ofNat_of_zero_le h0
  refine va_iald hx hb hK hP k 0 (n := n) (f := fun j => iI (g (j : Int))) (by rw [wl_get hk, hu]) rfl (iI_in (by omega) hn) hdg ?_
  rw [iI_clamp (by omega)]
  exact kk
theorem w_iast (hx : p.tables.exec = Jvm.exec) (hb : c.code = cc) (hK : va_K D cl (cty ct) s) (hP : va_P D cl (wl N b u) H) (hS : va_S (AA b) s.heap H locs) (k : Nat) (hk : k < N) {n : Nat} {g : Int → Int} (hu : u k = ir ct n g) {a x : Int} (h0 : 0 ≤ a) (h1 : a < n) (hn : n < 2147483648) (hdg : decode cc pc = .ok (.iastore, 1)) (kk : ∀ (H1 : Heap) (locs1 : List Loc), va_P D cl (wl N b (va_up u k (ir ct n (zu g a x)))) H1 → va_S (AA b) s.heap H1 locs1 → W p l e R s m args below meth c H1 locs1 cells slots Q (F0 m (pc + 1) ls rest)) : W p l e R s m args below meth c H locs cells slots Q (F0 m pc ls (.int (iI x) :: .int (iI a) :: .ref (b + k) :: rest)) := by
  obtain ⟨j, rfl⟩ := Int.eq_ofNat_of_zero_le h0
  refine va_iast hx hb hK hP wl_D hS k 0 (n := n) (f := fun j => iI (g (j : Int))) (by rw [wl_get hk, hu]) rfl (iI_in (by omega) hn) hdg (fun H1 locs1 h1 _ h3 => kk H1 locs1 ?_ h3)
  rw [zu_upd g (by omega)] at h1
  rw [← wl_set]
  exact h1
theorem w_lald (hx : p.tables.exec = Jvm.exec) (hb : c.code = cc) (hK : va_K D cl (cty ct) s) (hP : va_P D cl (wl N b u) H) (k : Nat) (hk : k < N) {n : Nat} {g : Int → Int} (hu : u k = lr ct n g) {a : Int} (h0 : 0 ≤ a) (h1 : a < n) (hn : n < 2147483648) (hdg : decode cc pc = .ok (.laload, 1)) (kk : W p l e R s m args below meth c H locs cells slots Q (F0 m (pc + 1) ls (.long (lI (g a)) :: rest))) : W p l e R s m args below meth c H locs cells slots Q (F0 m pc ls (.int (iI a) :: .ref (b + k) :: rest)) := by
  obtain ⟨j, rfl⟩ := Int.eq_ofNat_of_zero_le h0
  refine va_lald hx hb hK hP k 1 (n := n) (f := fun j => lI (g (j : Int))) (by rw [wl_get hk, hu]) rfl (iI_in (by omega) hn) hdg ?_
  rw [iI_clamp (by omega)]
  exact kk
theorem w_last (hx : p.tables.exec = Jvm.exec) (hb : c.code = cc) (hK : va_K D cl (cty ct) s) (hP : va_P D cl (wl N b u) H) (hS : va_S (AA b) s.heap H locs) (k : Nat) (hk : k < N) {n : Nat} {g : Int → Int} (hu : u k = lr ct n g) {a x : Int} (h0 : 0 ≤ a) (h1 : a < n) (hn : n < 2147483648) (hdg : decode cc pc = .ok (.lastore, 1)) (kk : ∀ (H1 : Heap) (locs1 : List Loc), va_P D cl (wl N b (va_up u k (lr ct n (zu g a x)))) H1 → va_S (AA b) s.heap H1 locs1 → W p l e R s m args below meth c H1 locs1 cells slots Q (F0 m (pc + 1) ls rest)) : W p l e R s m args below meth c H locs cells slots Q (F0 m pc ls (.long (lI x) :: .int (iI a) :: .ref (b + k) :: rest)) := by
  obtain ⟨j, rfl⟩ := Int.eq_ofNat_of_zero_le h0
  refine va_last hx hb hK hP wl_D hS k 1 (n := n) (f := fun j => lI (g (j : Int))) (by rw [wl_get hk, hu]) rfl (iI_in (by omega) hn) hdg (fun H1 locs1 h1 _ h3 => kk H1 locs1 ?_ h3)
  rw [zu_updL g (by omega)] at h1
  rw [← wl_set]
  exact h1
theorem w_zald (hx : p.tables.exec = Jvm.exec) (hb : c.code = cc) (hK : va_K D cl (cty ct) s) (hP : va_P D cl (wl N b u) H) (k : Nat) (hk : k < N) {n : Nat} {g : Int → Int} (hu : u k = zr ct n g) {a : Int} (h0 : 0 ≤ a) (h1 : a < n) (hn : n < 2147483648) (hdg : decode cc pc = .ok (.baload, 1)) (kk : W p l e R s m args below meth c H locs cells slots Q (F0 m (pc + 1) ls (.int (iI (g a)) :: rest))) : W p l e R s m args below meth c H locs cells slots Q (F0 m pc ls (.int (iI a) :: .ref (b + k) :: rest)) := by
  obtain ⟨j, rfl⟩ := Int.eq_ofNat_of_zero_le h0
  refine va_zald hx hb hK hP k 2 (n := n) (f := fun j => iI (g (j : Int))) (by rw [wl_get hk, hu]) rfl (iI_in (by omega) hn) hdg ?_
  rw [iI_clamp (by omega)]
  exact kk
theorem nar_z {x : Int} (h : x = 0 ∨ x = 1) : vp_nar .boolean (iI x) = iI x := by
  rcases h with rfl | rfl <;> rfl
theorem w_zast (hx : p.tables.exec = Jvm.exec) (hb : c.code = cc) (hK : va_K D cl (cty ct) s) (hP : va_P D cl (wl N b u) H) (hS : va_S (AA b) s.heap H locs) (k : Nat) (hk : k < N) {n : Nat} {g : Int → Int} (hu : u k = zr ct n g) {a x : Int} (h0 : 0 ≤ a) (h1 : a < n) (hn : n < 2147483648) (hz : x = 0 ∨ x = 1) (hdg : decode cc pc = .ok (.bastore, 1)) (kk : ∀ (H1 : Heap) (locs1 : List Loc), va_P D cl (wl N b (va_up u k (zr ct n (zu g a x)))) H1 → va_S (AA b) s.heap H1 locs1 → W p l e R s m args below meth c H1 locs1 cells slots Q (F0 m (pc + 1) ls rest)) : W p l e R s m args below meth c H locs cells slots Q (F0 m pc ls (.int (iI x) :: .int (iI a) :: .ref (b + k) :: rest)) := by
  obtain ⟨j, rfl⟩ := Int.eq_ofNat_of_zero_le h0
  refine va_zast hx hb hK hP wl_D hS k 2 (n := n) (f := fun j => iI (g (j : Int))) (by rw [wl_get hk, hu]) rfl (iI_in (by omega) hn) hdg (fun H1 locs1 h1 _ h3 => kk H1 locs1 ?_ h3)
  rw [nar_z hz, zu_upd g (by omega)] at h1
  rw [← wl_set]
  exact h1
theorem w_alen (hx : p.tables.exec = Jvm.exec) (hb : c.code = cc) (hK : va_K D cl (cty ct) s) (hP : va_P D cl (wl N b u) H) (k : Nat) (hk : k < N) {n : Nat} {g : Int → Int} (hu : u k = ir ct n g) (hdg : decode cc pc = .ok (.arraylength, 1)) (kk : W p l e R s m args below meth c H locs cells slots Q (F0 m (pc + 1) ls (.int (iI n) :: rest))) : W p l e R s m args below meth c H locs cells slots Q (F0 m pc ls (.ref (b + k) :: rest)) :=
  va_alen hx hb hK hP k 0 (x := (n, .inl (fun j => iI (g (j : Int))))) (by rw [wl_get hk, hu]) (ty := .int) rfl (v := iI n) (nI_iI n) hdg kk
theorem w_aald (hx : p.tables.exec = Jvm.exec) (hb : c.code = cc) (hK : va_K D cl (cty ct) s) (hP : va_P D cl (wl N b u) H) (k : Nat) (hk : k < N) (t0 : Nat) {C : String} {n : Nat} {f : Nat → Option Nat} (hu : u k = qr ct t0 n f) (ht : (cty ct)[t0]? = some (ct t0, .object C)) {a : Int} (h0 : 0 ≤ a) (h1 : a < n) (hn : n < 2147483648) {r : Nat} (hr : f a.toNat = some r) (hdg : decode cc pc = .ok (.aaload, 1)) (kk : W p l e R s m args below meth c H locs cells slots Q (F0 m (pc + 1) ls (.ref r :: rest))) : W p l e R s m args below meth c H locs cells slots Q (F0 m pc ls (.int (iI a) :: .ref (b + k) :: rest)) := by
  obtain ⟨j, rfl⟩ := Int.eq_ofNat_of_zero_le h0
  refine va_aldq hx hb hK hP k t0 (n := n) (f := f) (by rw [wl_get hk, hu]) ht (iI_in (by omega) hn) hdg ?_
  rw [iI_clamp (by omega), show f j = some r from hr]
  exact kk
theorem w_aast (hx : p.tables.exec = Jvm.exec) (hb : c.code = cc) (hK : va_K D cl (cty ct) s) (hP : va_P D cl (wl N b u) H) (hS : va_S (AA b) s.heap H locs) (k : Nat) (hk : k < N) (t0 j ci : Nat) (hj : j < N) {C : vw_C} {n : Nat} {f : Nat → Option Nat} {vs : List Value} (hu : u k = qr ct t0 n f) (ht : (cty ct)[t0]? = some (ct t0, .object C.1)) (hv : u j = .inr (ci, vs)) (hc : cl[ci]? = some C) {a : Int} (h0 : 0 ≤ a) (h1 : a < n) (hn : n < 2147483648) (hdg : decode cc pc = .ok (.aastore, 1)) (kk : ∀ (H1 : Heap) (locs1 : List Loc), va_P D cl (wl N b (va_up u k (qr ct t0 n (va_up f a.toNat (some (b + j)))))) H1 → va_S (AA b) s.heap H1 locs1 → W p l e R s m args below meth c H1 locs1 cells slots Q (F0 m (pc + 1) ls rest)) : W p l e R s m args below meth c H locs cells slots Q (F0 m pc ls (.ref (b + j) :: .int (iI a) :: .ref (b + k) :: rest)) := by
  obtain ⟨i, rfl⟩ := Int.eq_ofNat_of_zero_le h0
  refine va_astq hx hb hK hP wl_D hS k t0 j ci (n := n) (f := f) (by rw [wl_get hk, hu]) ht (by rw [wl_get hj, hv]) hc (iI_in (by omega) hn) hdg (fun H1 locs1 h1 _ h3 => kk H1 locs1 ?_ h3)
  rw [iI_clamp (by omega)] at h1
  rw [← wl_set]
  exact h1
/-- the heap is no greater than the cells that were counted -/
theorem W.size {g : JFrame} (kk : H.size ≤ s.heap.size + cells → W p l e R s m args below meth c H locs cells slots Q g) : W p l e R s m args below meth c H locs cells slots Q g := fun T hT X => kk (by rw [← hT]; exact X.heapSize) T hT X
/-- a new cell of the world lies just behind the others -/
theorem wl_next {q : Nat} {x : va_E} {H1 : Heap} (hP : va_P D cl (wl N b u ++ [(q, x)]) H1) (hD : va_D (AA b) (wl N b u ++ [(q, x)])) (hz : H1.size ≤ b + N + 1) : q = b + N := by
  have h1 : (wl N b u ++ [(q, x)])[N]? = some (q, x) := by
    rw [List.getElem?_append_right (by rw [wl_len]; exact Nat.le_refl _), wl_len]
    simp
  have h2 : q < H1.size := (hP N _ h1).lt
  have h3 : b ≤ q := hD.2 N _ h1
  by_cases h4 : q = b + N
  · exact h4
  · have h5 : q - b < N := by omega
    have h6 : (wl N b u ++ [(q, x)])[q - b]? = some (b + (q - b), u (q - b)) := by
      rw [List.getElem?_append_left (by rw [wl_len]; exact h5), wl_get h5]
    have h7 := hD.1 (q - b) N _ _ h6 h1 (by show b + (q - b) = q; omega)
    omega
theorem w_new (hx : p.tables.exec = Jvm.exec) (hb : c.code = cc) {own C : String} {T : u_T} {M ci index : Nat} {Ts : List Cond} (hts : ∀ w ∈ Ts, w.before args s = true) (hin : ∀ w ∈ u_ws C T M, w ∈ Ts) (ty : Nat → FieldType) (hty : ∀ k, k < M → parseFieldDescriptor (T k).2.2.1 = some (ty k)) (hown : s.vm.findClass own = some m.cls) (hcl : (Cond.classLink own index C).before args s = true) (hinst : (Cond.instantiable C M).before args s = true) (hini : (Cond.initialized C).before args s = true) (hK : va_K D cl (cty ct) s) (hP : va_P D cl (wl N b u) H) (hS : va_S (AA b) s.heap H locs) (hA : b ≤ s.heap.size) (hz : s.heap.size + cells = b + N) (hc : cl[ci]? = some (C, T, M)) {fs : List Value} (hfs : ∀ j, j < M → defaultValue (ty j) = vp_V fs j) (hcells : cells + 1 ≤ R.cells) (hslots : slots + M ≤ R.slots) (hdg : decode cc pc = .ok (.new index, 3)) (kk : ∀ (H1 : Heap), va_P D cl (wl (N + 1) b (va_up u N (.inr (ci, fs)))) H1 → va_S (AA b) s.heap H1 locs → W p l e R s m args below meth c H1 locs (cells + 1) (slots + M) Q (F0 m (pc + 3) ls (.ref (b + N) :: rest))) : W p l e R s m args below meth c H locs cells slots Q (F0 m pc ls rest) := by
  refine va_new hx hb hts hin ty hty hown hcl hinst hini hK hP wl_D hS (fun q h => Nat.le_trans hA h) hc hfs hcells hslots hdg (fun q H1 h1 h2 h3 => W.size fun hs => ?_)
  have hq := wl_next h1 h2 (by omega)
  subst hq
  exact kk H1 (by rw [← wl_push]; exact h1) h3
theorem ct_uniq {ty : FieldType} {i : Nat} {cA : ClassId} {T : List (ClassId × FieldType)} (hK : va_K D cl (cty ct) s) (hi : (cty ct)[i]? = some (ct i, ty)) (hK1 : va_K D cl (T ++ [(cA, ty)]) s) : cA = ct i := by
  have h1 := (hK.2 i _ hi).2
  have h2 := (hK1.2 T.length (cA, ty) (by simp)).2
  cases ty with
  | object C =>
    obtain ⟨k1, c1, -, -, -, e1⟩ := h1
    obtain ⟨k2, c2, -, -, -, e2⟩ := h2
    rw [e1] at e2
    exact (Option.some.inj e2).symm
  | _ =>
    have e1 : s.vm.findClass _ = some (ct i) := h1
    have e2 : s.vm.findClass _ = some cA := h2
    rw [e1] at e2
    exact (Option.some.inj e2).symm
theorem w_newi (hx : p.tables.exec = Jvm.exec) (hb : c.code = cc) (harr : (Cond.arrayClass .int).before args s = true) (hK : va_K D cl (cty ct) s) (hP : va_P D cl (wl N b u) H) (hS : va_S (AA b) s.heap H locs) (hA : b ≤ s.heap.size) (hz : s.heap.size + cells = b + N) {n : Nat} (hn : n < 65536) (hcells : cells + 1 ≤ R.cells) (hslots : slots + n ≤ R.slots) (hdg : decode cc pc = .ok (.newarray .int, 2)) (kk : ∀ (H1 : Heap), va_P D cl (wl (N + 1) b (va_up u N (ir ct n (fun _ => 0)))) H1 → va_S (AA b) s.heap H1 locs → W p l e R s m args below meth c H1 locs (cells + 1) (slots + n) Q (F0 m (pc + 2) ls (.ref (b + N) :: rest))) : W p l e R s m args below meth c H locs cells slots Q (F0 m pc ls (.int (iI n) :: rest)) := by
  refine va_newa (atype := .int) hx hb harr rfl hK hP wl_D hS (fun q h => Nat.le_trans hA h) (N' := n) (a0 := (n, .inl (fun _ => iI 0))) (fun cA => rfl) ?_ (iI_clamp (by omega)) ?_ hcells hslots hdg (fun q cA H1 hK1 h1 h2 h3 => W.size fun hs => ?_)
  · rw [iI_0, iI_lt ⟨by omega, by omega⟩ r32_0]; omega
  · have e4 : componentBytes (newarray.typeOf .int) = 4 := rfl
    rw [e4]; omega
  · have hc := ct_uniq (i := 0) hK rfl hK1
    subst hc
    have hq := wl_next h1 h2 (by omega)
    subst hq
    exact kk H1 (by rw [← wl_push]; exact h1) h3
theorem w_newl (hx : p.tables.exec = Jvm.exec) (hb : c.code = cc) (harr : (Cond.arrayClass .long).before args s = true) (hK : va_K D cl (cty ct) s) (hP : va_P D cl (wl N b u) H) (hS : va_S (AA b) s.heap H locs) (hA : b ≤ s.heap.size) (hz : s.heap.size + cells = b + N) {n : Nat} (hn : n < 65536) (hcells : cells + 1 ≤ R.cells) (hslots : slots + n ≤ R.slots) (hdg : decode cc pc = .ok (.newarray .long, 2)) (kk : ∀ (H1 : Heap), va_P D cl (wl (N + 1) b (va_up u N (lr ct n (fun _ => 0)))) H1 → va_S (AA b) s.heap H1 locs → W p l e R s m args below meth c H1 locs (cells + 1) (slots + n) Q (F0 m (pc + 2) ls (.ref (b + N) :: rest))) : W p l e R s m args below meth c H locs cells slots Q (F0 m pc ls (.int (iI n) :: rest)) := by
  refine va_newa (atype := .long) hx hb harr rfl hK hP wl_D hS (fun q h => Nat.le_trans hA h) (N' := n) (a0 := (n, .inr (.inl (fun _ => lI 0)))) (fun cA => rfl) ?_ (iI_clamp (by omega)) ?_ hcells hslots hdg (fun q cA H1 hK1 h1 h2 h3 => W.size fun hs => ?_)
  · rw [iI_0, iI_lt ⟨by omega, by omega⟩ r32_0]; omega
  · have e4 : componentBytes (newarray.typeOf .long) = 8 := rfl
    rw [e4]; omega
  · have hc := ct_uniq (i := 1) hK rfl hK1
    subst hc
    have hq := wl_next h1 h2 (by omega)
    subst hq
    exact kk H1 (by rw [← wl_push]; exact h1) h3
theorem w_newz (hx : p.tables.exec = Jvm.exec) (hb : c.code = cc) (harr : (Cond.arrayClass .boolean).before args s = true) (hK : va_K D cl (cty ct) s) (hP : va_P D cl (wl N b u) H) (hS : va_S (AA b) s.heap H locs) (hA : b ≤ s.heap.size) (hz : s.heap.size + cells = b + N) {n : Nat} (hn : n < 65536) (hcells : cells + 1 ≤ R.cells) (hslots : slots + n ≤ R.slots) (hdg : decode cc pc = .ok (.newarray .boolean, 2)) (kk : ∀ (H1 : Heap), va_P D cl (wl (N + 1) b (va_up u N (zr ct n (fun _ => 0)))) H1 → va_S (AA b) s.heap H1 locs → W p l e R s m args below meth c H1 locs (cells + 1) (slots + n) Q (F0 m (pc + 2) ls (.ref (b + N) :: rest))) : W p l e R s m args below meth c H locs cells slots Q (F0 m pc ls (.int (iI n) :: rest)) := by
  refine va_newa (atype := .boolean) hx hb harr rfl hK hP wl_D hS (fun q h => Nat.le_trans hA h) (N' := n) (a0 := (n, .inl (fun _ => iI 0))) (fun cA => rfl) ?_ (iI_clamp (by omega)) ?_ hcells hslots hdg (fun q cA H1 hK1 h1 h2 h3 => W.size fun hs => ?_)
  · rw [iI_0, iI_lt ⟨by omega, by omega⟩ r32_0]; omega
  · have e4 : componentBytes (newarray.typeOf .boolean) = 1 := rfl
    rw [e4]; omega
  · have hc := ct_uniq (i := 2) hK rfl hK1
    subst hc
    have hq := wl_next h1 h2 (by omega)
    subst hq
    exact kk H1 (by rw [← wl_push]; exact h1) h3
theorem w_newq (hx : p.tables.exec = Jvm.exec) (hb : c.code = cc) {own C : String} {index : Nat} (hown : s.vm.findClass own = some m.cls) (hclink : (Cond.classLink own index C).before args s = true) (hover : va_AO C s) (i : Nat) (hi : (cty ct)[i]? = some (ct i, .object C)) (hK : va_K D cl (cty ct) s) (hP : va_P D cl (wl N b u) H) (hS : va_S (AA b) s.heap H locs) (hA : b ≤ s.heap.size) (hz : s.heap.size + cells = b + N) {n : Nat} (hn : n < 65536) (hcells : cells + 1 ≤ R.cells) (hslots : slots + n ≤ R.slots) (hdg : decode cc pc = .ok (.anewarray index, 3)) (kk : ∀ (H1 : Heap), va_P D cl (wl (N + 1) b (va_up u N (qr ct i n (fun _ => none)))) H1 → va_S (AA b) s.heap H1 locs → W p l e R s m args below meth c H1 locs (cells + 1) (slots + n) Q (F0 m (pc + 3) ls (.ref (b + N) :: rest))) : W p l e R s m args below meth c H locs cells slots Q (F0 m pc ls (.int (iI n) :: rest)) := by
  refine va_newq hx hb hown hclink hover hK hP wl_D hS (fun q h => Nat.le_trans hA h) (N' := n) ?_ (iI_clamp (by omega)) (by omega) hcells hslots hdg (fun q cA H1 hK1 h1 h2 h3 => W.size fun hs => ?_)
  · rw [iI_0, iI_lt ⟨by omega, by omega⟩ r32_0]; omega
  · have hc := ct_uniq (i := i) hK hi hK1
    subst hc
    have hq := wl_next h1 h2 (by omega)
    subst hq
    exact kk H1 (by rw [← wl_push]; exact h1) h3
/-- behind a call -/
theorem w_callv {S : Type} {post : S → Prop} {N1 : Nat} {u1 : S → Nat → va_E} {st0 : List Value} {a : Array Value} {mc ms : Nat} (hr : va_Run p l e R s m args below meth c H locs cells slots mc ms (F0 m pc ls st0) rest (va_Qv post (fun z t => va_P D cl (wl N1 b (u1 z)) t.heap) (AA b) a) (AA b)) (hS : va_S (AA b) s.heap H locs) (kk : ∀ (z : S) (H1 : Heap) (locs1 : List Loc), post z → va_P D cl (wl N1 b (u1 z)) H1 → va_S (AA b) s.heap H1 locs1 → W p l e R s m args below meth c H1 locs1 (cells + mc) (slots + ms) Q (F0 m (pc + 3) ls rest)) : W p l e R s m args below meth c H locs cells slots Q (F0 m pc ls st0) :=
  va_callv hr hS (fun _ _ h => h) (fun _ h => h) (fun z t H1 locs1 ht _ hp hB _ _ hS => kk z H1 locs1 hp (by rw [← ht]; exact hB) hS)
theorem w_calli {S : Type} {post : Int32 → S → Prop} {N1 : Nat} {u1 : S → Nat → va_E} {st0 : List Value} {a : Array Value} {mc ms : Nat} (hr : va_Run p l e R s m args below meth c H locs cells slots mc ms (F0 m pc ls st0) rest (va_Qi post (fun z t => va_P D cl (wl N1 b (u1 z)) t.heap) (AA b) a) (AA b)) (hS : va_S (AA b) s.heap H locs) (kk : ∀ (r : Int32) (z : S) (H1 : Heap) (locs1 : List Loc), post r z → va_P D cl (wl N1 b (u1 z)) H1 → va_S (AA b) s.heap H1 locs1 → W p l e R s m args below meth c H1 locs1 (cells + mc) (slots + ms) Q (F0 m (pc + 3) ls (.int r :: rest))) : W p l e R s m args below meth c H locs cells slots Q (F0 m pc ls st0) :=
  va_calli hr hS (fun _ _ h => h) (fun _ h => h) (fun r z t H1 locs1 ht _ hp hB _ _ hS => kk r z H1 locs1 hp (by rw [← ht]; exact hB) hS)
theorem w_calll {S : Type} {post : Int64 → S → Prop} {N1 : Nat} {u1 : S → Nat → va_E} {st0 : List Value} {a : Array Value} {mc ms : Nat} (hr : va_Run p l e R s m args below meth c H locs cells slots mc ms (F0 m pc ls st0) rest (va_Ql post (fun z t => va_P D cl (wl N1 b (u1 z)) t.heap) (AA b) a) (AA b)) (hS : va_S (AA b) s.heap H locs) (kk : ∀ (r : Int64) (z : S) (H1 : Heap) (locs1 : List Loc), post r z → va_P D cl (wl N1 b (u1 z)) H1 → va_S (AA b) s.heap H1 locs1 → W p l e R s m args below meth c H1 locs1 (cells + mc) (slots + ms) Q (F0 m (pc + 3) ls (.long r :: rest))) : W p l e R s m args below meth c H locs cells slots Q (F0 m pc ls st0) :=
  va_calll hr hS (fun _ _ h => h) (fun _ h => h) (fun r z t H1 locs1 ht _ hp hB _ _ hS => kk r z H1 locs1 hp (by rw [← ht]; exact hB) hS)
def zcp (f g : Int → Int) (n : Nat) : Int → Int := fun j => if 0 ≤ j ∧ j < n then f j else g j
theorem zcp_in {f g : Int → Int} {n : Nat} {j : Int} (h0 : 0 ≤ j) (h1 : j < n) : zcp f g n j = f j := by
  unfold zcp
  rw [if_pos ⟨h0, h1⟩]
theorem zcp_eq (f g : Int → Int) {n : Nat} (hn : n < 65536) : va_cpy (fun j => iI (f (j : Int))) (fun j => iI (g (j : Int))) (iI 0).toNatClampNeg (iI 0).toNatClampNeg (iI (n : Int)).toNatClampNeg = fun j : Nat => iI (zcp f g n (j : Int)) := by
  have e0 : (iI 0).toNatClampNeg = 0 := iI_clamp (n := 0) (by omega)
  funext j
  rw [e0, iI_clamp (by omega)]
  unfold va_cpy zcp
  by_cases h : j < n
  · rw [if_pos ⟨by omega, by omega⟩, if_pos ⟨by omega, by omega⟩, show 0 + (j - 0) = j by omega]
  · rw [if_neg (by omega), if_neg (by omega)]
theorem w_copy (hx : p.tables.exec = Jvm.exec) (hb : c.code = cc) (hml : c.maxLocals = ls.size) {own : String} {index : Nat} (hown : s.vm.findClass own = some m.cls) (hlink : (Cond.methodLink own index arraycopyName).before args s = true) (hnat : (Cond.native arraycopyName).before args s = true) (hstat : (Cond.static arraycopyName).before args s = true) (hini : (Cond.initialized "java/lang/System").before args s = true) (hK : va_K D cl (cty ct) s) (hP : va_P D cl (wl N b u) H) (hS : va_S (AA b) s.heap H locs) (k0 k1 : Nat) (h0 : k0 < N) (h1 : k1 < N) {n : Nat} {f g : Int → Int} (e0 : u k0 = ir ct n f) (e1 : u k1 = ir ct n g) (hn : n < 65536) (hframes : 1 ≤ R.frames) (hlocals : (rest.map fun v => v.category).sum + (nativeFrameWords "java/lang/System" "arraycopy" 5 + 11) ≤ R.locals) (hdg : decode cc pc = .ok (.invokestatic index, 3)) (kk : ∀ (H1 : Heap) (locs1 : List Loc), va_P D cl (wl N b (va_up u k1 (ir ct n (zcp f g n)))) H1 → va_S (AA b) s.heap H1 locs1 → W p l e R s m args below meth c H1 locs1 cells slots Q (F0 m (pc + 3) ls rest)) : W p l e R s m args below meth c H locs cells slots Q (F0 m pc ls (.int (iI n) :: .int (iI 0) :: .ref (b + k1) :: .int (iI 0) :: .ref (b + k0) :: rest)) := by
  have z0 : ¬ iI 0 < 0 := by rw [iI_0, iI_lt r32_0 r32_0]; omega
  have zn : ¬ iI (n : Int) < 0 := by rw [iI_0, iI_lt ⟨by omega, by omega⟩ r32_0]; omega
  have c0 : (iI 0).toNatClampNeg = 0 := iI_clamp (n := 0) (by omega)
  have cn : (iI (n : Int)).toNatClampNeg = n := iI_clamp (by omega)
  refine va_copyi hx hb hml hown hlink hnat hstat hini hK hP wl_D hS k0 k1 0 0 (n0 := n) (n1 := n) (f := fun j => iI (f (j : Int))) (g := fun j => iI (g (j : Int))) (ty := .int) (by rw [wl_get h0, e0]) (by rw [wl_get h1, e1]) rfl rfl rfl z0 z0 zn (by rw [c0, cn]; omega) (by rw [c0, cn]; omega) (fun _ _ => rfl) hframes hlocals hdg (fun H1 locs1 g1 _ g3 => kk H1 locs1 ?_ g3)
  rw [zcp_eq f g hn] at g1
  rw [← wl_set]
  exact g1
theorem w_sz {g : JFrame} (hP : va_P D cl (wl N b u) H) (hN : 0 < N) (hz : s.heap.size + cells = b + N) (kk : H.size = b + N → W p l e R s m args below meth c H locs cells slots Q g) : W p l e R s m args below meth c H locs cells slots Q g := by
  refine W.size fun h => kk ?_
  have h1 : b + (N - 1) < H.size := (hP (N - 1) _ (wl_get (by omega))).lt
  omega
end XH
end
section
-- the document's numbers
def lq (k : Int) : Int := if k = 0 then 32369 else if k = 1 then 29921 else if k = 2 then 28289 else 26113
def lQ (l : Int) : Int := if l = 0 then 32369 else if l = 1 then 968512849 else if l = 2 then 27398259985361 else 715450762997731793
def mu (sm k : Int) : Int := if sm = 0 then lq k else 17
theorem c4 {k : Int} (h0 : 0 ≤ k) (h3 : k ≤ 3) : k = 0 ∨ k = 1 ∨ k = 2 ∨ k = 3 := by omega
theorem c8 {k : Int} (h0 : 0 ≤ k) (h3 : k < 8) : k = 0 ∨ k = 1 ∨ k = 2 ∨ k = 3 ∨ k = 4 ∨ k = 5 ∨ k = 6 ∨ k = 7 := by omega
theorem lq_bd (k : Int) : 26113 ≤ lq k ∧ lq k ≤ 32369 := by
  unfold lq
  split
  · omega
  · split
    · omega
    · split <;> omega
theorem mu_bd (sm k : Int) : 17 ≤ mu sm k ∧ mu sm k ≤ 32369 := by
  have := lq_bd k
  unfold mu
  split <;> omega
theorem lQ_bd (l : Int) : 32369 ≤ lQ l ∧ lQ l ≤ 715450762997731793 := by
  unfold lQ
  split
  · omega
  · split
    · omega
    · split <;> omega
theorem lq_dvd {k l : Int} (h0 : 0 ≤ k) (hk : k ≤ l) (hl : l ≤ 3) : lq k ∣ lQ l := by
  rcases c4 (k := l) (by omega) hl with rfl | rfl | rfl | rfl <;> rcases c4 (k := k) h0 (by omega) with rfl | rfl | rfl | rfl <;> first | (exfalso; omega) | decide +kernel
-- congruence
def cg (m a b : Int) : Prop := a % m = b % m
theorem cg_r {m a : Int} : cg m a a := rfl
theorem cg_s {m a b : Int} (h : cg m a b) : cg m b a := Eq.symm h
theorem cg_t {m a b c : Int} (h : cg m a b) (g : cg m b c) : cg m a c := Eq.trans h g
theorem cg_add {m a b c d : Int} (h : cg m a b) (g : cg m c d) : cg m (a + c) (b + d) := by
  unfold cg at *
  rw [Int.add_emod, h, g, ← Int.add_emod]
theorem cg_sub {m a b c d : Int} (h : cg m a b) (g : cg m c d) : cg m (a - c) (b - d) := by
  unfold cg at *
  rw [Int.sub_emod, h, g, ← Int.sub_emod]
theorem cg_mul {m a b c d : Int} (h : cg m a b) (g : cg m c d) : cg m (a * c) (b * d) := by
  unfold cg at *
  rw [Int.mul_emod, h, g, ← Int.mul_emod]
theorem cg_neg {m a b : Int} (h : cg m a b) : cg m (-a) (-b) := by
  have h1 := cg_sub (cg_r (m := m) (a := 0)) h
  rwa [Int.zero_sub, Int.zero_sub] at h1
theorem cg_mod {m a : Int} : cg m (a % m) a := Int.emod_emod_of_dvd a (Int.dvd_refl m)
theorem cg_dvd {m n a b : Int} (hd : m ∣ n) (h : cg n a b) : cg m a b := by
  unfold cg at *
  rw [← Int.emod_emod_of_dvd a hd, h, Int.emod_emod_of_dvd b hd]
-- sums, and the product of two polynomials modulo x^8 + 1
def sn (f : Int → Int) : Nat → Int
  | 0 => 0
  | n + 1 => sn f n + f n
theorem sn_step (f : Int → Int) {k : Int} (h : 0 ≤ k) : sn f (k + 1).toNat = sn f k.toNat + f k := by
  obtain ⟨n, rfl⟩ := Int.eq_ofNat_of_zero_le h
  have e : ((n : Int) + 1).toNat = n + 1 := by omega
  rw [e, Int.toNat_natCast]
  rfl
def nt (X Y : Int → Int) (i j : Int) : Int := if j ≤ i then X j * Y (i - j) else -(X j * Y (8 + i - j))
def nc (X Y : Int → Int) (i : Int) : Int := sn (nt X Y i) 8
theorem sn_cg {m : Int} {f g : Int → Int} : ∀ n : Nat, (∀ j : Int, 0 ≤ j → j < n → cg m (f j) (g j)) → cg m (sn f n) (sn g n)
  | 0, _ => rfl
  | n + 1, h => cg_add (sn_cg n fun j h0 h1 => h j h0 (by omega)) (h n (by omega) (by omega))
theorem sn_eq {f g : Int → Int} : ∀ n : Nat, (∀ j : Int, 0 ≤ j → j < n → f j = g j) → sn f n = sn g n
  | 0, _ => rfl
  | n + 1, h => by
    show sn f n + f n = sn g n + g n
    rw [sn_eq n fun j h0 h1 => h j h0 (by omega), h n (by omega) (by omega)]
theorem sn_bd {f : Int → Int} : ∀ n : Nat, (∀ j : Int, 0 ≤ j → j < n → -2000000000 ≤ f j ∧ f j ≤ 2000000000) → -(2000000000 * (n : Int)) ≤ sn f n ∧ sn f n ≤ 2000000000 * (n : Int)
  | 0, _ => by
    show -(2000000000 * ((0 : Nat) : Int)) ≤ 0 ∧ 0 ≤ 2000000000 * ((0 : Nat) : Int)
    omega
  | n + 1, h => by
    have h1 := sn_bd n fun j h0 h1 => h j h0 (by omega)
    have h2 := h n (by omega) (by omega)
    show -(2000000000 * ((n + 1 : Nat) : Int)) ≤ sn f n + f n ∧ sn f n + f n ≤ 2000000000 * ((n + 1 : Nat) : Int)
    omega
theorem nt_cg {m : Int} {X Y X1 Y1 : Int → Int} (hX : ∀ j : Int, 0 ≤ j → j < 8 → cg m (X j) (X1 j)) (hY : ∀ j : Int, 0 ≤ j → j < 8 → cg m (Y j) (Y1 j)) {i j : Int} (hi : 0 ≤ i) (hi8 : i < 8) (hj : 0 ≤ j) (hj8 : j < 8) : cg m (nt X Y i j) (nt X1 Y1 i j) := by
  unfold nt
  by_cases h : j ≤ i
  · rw [if_pos h, if_pos h]
    exact cg_mul (hX j hj hj8) (hY _ (by omega) (by omega))
  · rw [if_neg h, if_neg h]
    exact cg_neg (cg_mul (hX j hj hj8) (hY _ (by omega) (by omega)))
theorem nc_cg {m : Int} {X Y X1 Y1 : Int → Int} (hX : ∀ j : Int, 0 ≤ j → j < 8 → cg m (X j) (X1 j)) (hY : ∀ j : Int, 0 ≤ j → j < 8 → cg m (Y j) (Y1 j)) {i : Int} (hi : 0 ≤ i) (hi8 : i < 8) : cg m (nc X Y i) (nc X1 Y1 i) :=
  sn_cg 8 fun _ h0 h1 => nt_cg hX hY hi hi8 h0 h1
theorem nc_eq {X Y X1 Y1 : Int → Int} (hX : ∀ j : Int, 0 ≤ j → j < 8 → X j = X1 j) (hY : ∀ j : Int, 0 ≤ j → j < 8 → Y j = Y1 j) {i : Int} (hi : 0 ≤ i) (hi8 : i < 8) : nc X Y i = nc X1 Y1 i := by
  refine sn_eq 8 fun j h0 h1 => ?_
  unfold nt
  have h1 : j < 8 := h1
  by_cases h : j ≤ i
  · rw [if_pos h, if_pos h, hX j h0 h1, hY _ (by omega) (by omega)]
  · rw [if_neg h, if_neg h, hX j h0 h1, hY _ (by omega) (by omega)]
theorem mul_bd {x y : Int} (hx : 0 ≤ x) (hx1 : x ≤ 32369) (hy : 0 ≤ y) (hy1 : y ≤ 32369) : 0 ≤ x * y ∧ x * y ≤ 2000000000 := by
  refine ⟨Int.mul_nonneg hx hy, ?_⟩
  have h := Int.mul_le_mul hx1 hy1 hy (show (0 : Int) ≤ 32369 by decide)
  omega
theorem nt_bd {X Y : Int → Int} (hX : ∀ j : Int, 0 ≤ j → j < 8 → 0 ≤ X j ∧ X j ≤ 32369) (hY : ∀ j : Int, 0 ≤ j → j < 8 → 0 ≤ Y j ∧ Y j ≤ 32369) {i j : Int} (hi : 0 ≤ i) (hi8 : i < 8) (hj : 0 ≤ j) (hj8 : j < 8) : -2000000000 ≤ nt X Y i j ∧ nt X Y i j ≤ 2000000000 := by
  unfold nt
  by_cases h : j ≤ i
  · rw [if_pos h]
    have h1 := mul_bd (hX j hj hj8).1 (hX j hj hj8).2 (hY (i - j) (by omega) (by omega)).1 (hY (i - j) (by omega) (by omega)).2
    omega
  · rw [if_neg h]
    have h1 := mul_bd (hX j hj hj8).1 (hX j hj hj8).2 (hY (8 + i - j) (by omega) (by omega)).1 (hY (8 + i - j) (by omega) (by omega)).2
    omega
-- what stands in the rows of a polynomial: up to the row 'top' its coefficients modulo the rows' moduli
def Rep (c : Int → Int) (sm top : Int) (P : Int → Int) : Prop := ∀ k i : Int, 0 ≤ k → k ≤ top → 0 ≤ i → i < 8 → c (k * 8 + i) = P i % mu sm k
theorem Rep.bd {c P : Int → Int} {sm top k i : Int} (h : Rep c sm top P) (h0 : 0 ≤ k) (h1 : k ≤ top) (h2 : 0 ≤ i) (h3 : i < 8) : 0 ≤ c (k * 8 + i) ∧ c (k * 8 + i) < mu sm k := by
  rw [h k i h0 h1 h2 h3]
  have := (mu_bd sm k).1
  exact ⟨Int.emod_nonneg _ (by omega), Int.emod_lt_of_pos _ (by omega)⟩
theorem Rep.down {c P : Int → Int} {sm top t : Int} (h : Rep c sm top P) (ht : t ≤ top) : Rep c sm t P := fun k i h0 h1 h2 h3 => h k i h0 (by omega) h2 h3
theorem Rep.cg {c P P1 : Int → Int} {sm top : Int} (h : Rep c sm top P) (hp : ∀ k i : Int, 0 ≤ k → k ≤ top → 0 ≤ i → i < 8 → cg (mu sm k) (P i) (P1 i)) : Rep c sm top P1 := fun k i h0 h1 h2 h3 => (h k i h0 h1 h2 h3).trans (hp k i h0 h1 h2 h3)
theorem Rep.of {c d P : Int → Int} {sm top : Int} (h : Rep c sm top P) (hc : ∀ j : Int, 0 ≤ j → j < 8 * (top + 1) → d j = c j) : Rep d sm top P := fun k i h0 h1 h2 h3 => (hc _ (by omega) (by omega)).trans (h k i h0 h1 h2 h3)
/-- only the number modulo Q(top) counts -/
theorem Rep.mod {c P : Int → Int} {top : Int} (h : Rep c 0 top P) (ht : top ≤ 3) : Rep c 0 top (fun i => P i % lQ top) := h.cg fun k i h0 h1 _ _ => by
  have e : mu 0 k = lq k := by unfold mu; rw [if_pos rfl]
  rw [e]
  exact cg_s (Int.emod_emod_of_dvd (P i) (lq_dvd h0 h1 ht))
theorem Rep.unmod {c P : Int → Int} {top : Int} (h : Rep c 0 top (fun i => P i % lQ top)) (ht : top ≤ 3) : Rep c 0 top P := h.cg fun k i h0 h1 _ _ => by
  have e : mu 0 k = lq k := by unfold mu; rw [if_pos rfl]
  rw [e]
  exact Int.emod_emod_of_dvd (P i) (lq_dvd h0 h1 ht)
theorem Rep.zero {c : Int → Int} {sm top : Int} (h : ∀ j : Int, 0 ≤ j → j < 8 * (top + 1) → c j = 0) : Rep c sm top (fun _ => 0) := fun k i h0 h1 h2 h3 => by
  rw [h _ (by omega) (by omega)]
  rfl
-- centred numbers, lowering
def cen (x m : Int) : Int := if (m - 1) / 2 < x then x - m else x
def lk (d : Int) : Int := cen ((-d) % 17) 17
theorem lk_bd (d : Int) : -8 ≤ lk d ∧ lk d ≤ 8 ∧ (d + lk d) % 17 = 0 := by
  unfold lk cen
  split <;> omega
theorem lk_uniq {d k : Int} (h1 : -8 ≤ k) (h2 : k ≤ 8) (h3 : (d + k) % 17 = 0) : k = lk d := by
  have := lk_bd d
  omega
def lex (l c : Int) : Int := cen (c % lq l) (lq l) + lk (cen (c % lq l) (lq l)) * lq l
def low (l c : Int) : Int := (c - lex l c) / lq l
def pin (l k : Int) : Int := if l = 1 then 17996 else if l = 2 then (if k = 0 then 30219 else 9992) else (if k = 0 then 15486 else if k = 1 then 21380 else 13)
theorem cen_cg (x m : Int) : cg m (cen x m) x := by
  unfold cen
  split
  · exact Int.sub_emod_right x m
  · rfl
theorem cen_bd {x m : Int} (h0 : 0 ≤ x) (h1 : x < m) (hm : m ≤ 9223372036854775807) : -4611686018427387904 ≤ cen x m ∧ cen x m ≤ 4611686018427387903 := by
  unfold cen
  split <;> omega
theorem cen_bq {x m : Int} (h0 : 0 ≤ x) (h1 : x < m) (hm : m ≤ 32369) : -16185 ≤ cen x m ∧ cen x m ≤ 16185 := by
  unfold cen
  split <;> omega
theorem low_mul (l c : Int) : lq l * low l c = c - lex l c := by
  unfold low
  have hd : lq l ∣ c - lex l c := by
    apply Int.dvd_of_emod_eq_zero
    have h1 : cg (lq l) (lex l c) (c % lq l + 0) := by
      unfold lex
      exact cg_add (cen_cg _ _) (by unfold cg; simp)
    have h2 : cg (lq l) (c - lex l c) (c - (c % lq l + 0)) := cg_sub cg_r h1
    have h3 : cg (lq l) (c - (c % lq l + 0)) (c - c) := cg_sub cg_r (by rw [Int.add_zero]; exact cg_mod)
    have h4 := h2.trans h3
    rw [Int.sub_self] at h4
    exact h4.trans (Int.zero_emod _)
  exact Int.mul_ediv_cancel' hd
theorem pin_cg {l k : Int} (h0 : 0 ≤ k) (hk : k < l) (hl : l ≤ 3) : cg (lq k) (lq l * pin l k) 1 := by
  rcases c4 (k := l) (by omega) hl with rfl | rfl | rfl | rfl <;> rcases c4 (k := k) h0 (by omega) with rfl | rfl | rfl | rfl <;> first | (exfalso; omega) | (unfold cg; decide +kernel)
/-- one row of a lowered coefficient -/
theorem low_row {l k c : Int} (h0 : 0 ≤ k) (hk : k < l) (hl : l ≤ 3) : cg (lq k) ((c % lq k - lex l c) * pin l k) (low l c) := by
  have h1 : cg (lq k) ((c % lq k - lex l c) * pin l k) ((c - lex l c) * pin l k) := cg_mul (cg_sub cg_mod cg_r) cg_r
  rw [← low_mul] at h1
  have h2 : lq l * low l c * pin l k = lq l * pin l k * low l c := by
    rw [Int.mul_assoc, Int.mul_comm (low l c), ← Int.mul_assoc]
  rw [h2] at h1
  have h3 : cg (lq k) (lq l * pin l k * low l c) (1 * low l c) := cg_mul (pin_cg h0 hk hl) cg_r
  rw [Int.one_mul] at h3
  exact cg_t h1 h3
-- the number behind the rows
def gin (k : Int) : Int := if k = 1 then 13286 else if k = 2 then 14579 else 20255
/-- one step from modulo Q(k - 1) to modulo Q(k) -/
theorem garner {k V : Int} (h1 : 1 ≤ k) (h3 : k ≤ 3) : V % lQ (k - 1) + lQ (k - 1) * ((V % lq k - V % lQ (k - 1)) % lq k * gin k % lq k) = V % lQ k := by
  rcases c4 (k := k) (by omega) h3 with rfl | rfl | rfl | rfl
  · omega
  · show V % 32369 + 32369 * ((V % 29921 - V % 32369) % 29921 * 13286 % 29921) = V % 968512849
    omega
  · show V % 968512849 + 968512849 * ((V % 28289 - V % 968512849) % 28289 * 14579 % 28289) = V % 27398259985361
    omega
  · show V % 27398259985361 + 27398259985361 * ((V % 26113 - V % 27398259985361) % 26113 * 20255 % 26113) = V % 715450762997731793
    omega
-- draws
def dz (z : Int32) : Int32 := z * 1664525 + 1013904223
def dv (z : Int32) : Int := ((z.toUInt32 >>> ((8 : Int32).toUInt32 &&& Int32.toUInt32 31)).toInt32).toInt
def it : Nat → Int32 → Int32
  | 0, z => z
  | n + 1, z => dz (it n z)
theorem it_add (z : Int32) (a : Nat) : ∀ n : Nat, it n (it a z) = it (a + n) z
  | 0 => rfl
  | n + 1 => by
    show dz (it n (it a z)) = dz (it (a + n) z)
    rw [it_add z a n]
theorem dv_bd (z : Int32) : 0 ≤ dv z ∧ dv z < 16777216 := by
  have h1 := pk_ushr z 8 8 (by decide)
  have h2 : z.toBitVec.toNat < 2 ^ 32 := z.toBitVec.isLt
  generalize hw : (z.toUInt32 >>> ((8 : Int32).toUInt32 &&& Int32.toUInt32 31)).toInt32 = w at h1
  have h3 : dv z = w.toBitVec.toInt := by unfold dv; rw [hw]; rfl
  have h4 : w.toBitVec.toInt = w.toBitVec.toNat := BitVec.toInt_eq_toNat_of_lt (by omega)
  rw [h3, h4]
  omega
def sml (z : Int32) (i : Int) : Int := dv (it (i + 1).toNat z) % 3 - 1
def res (z : Int32) (i k : Int) : Int := dv (it (4 * i + k + 1).toNat z) % lq k
def un (k : Int) : Int := if k = 0 then 640809061782268224 else if k = 1 then 450011141326069060 else if k = 2 then 500580329881371041 else 554951756003487055
def uni (z : Int32) (i : Int) : Int := (un 0 * res z i 0 + un 1 * res z i 1 + un 2 * res z i 2 + un 3 * res z i 3) % lQ 3
theorem sml_bd (z : Int32) (i : Int) : -1 ≤ sml z i ∧ sml z i ≤ 1 := by
  unfold sml
  omega
theorem res_bd (z : Int32) (i k : Int) : 0 ≤ res z i k ∧ res z i k < lq k := by
  unfold res
  have := (lq_bd k).1
  exact ⟨Int.emod_nonneg _ (by omega), Int.emod_lt_of_pos _ (by omega)⟩
theorem un_cg {j k : Int} (hj : 0 ≤ j) (hj3 : j ≤ 3) (hk : 0 ≤ k) (hk3 : k ≤ 3) : cg (lq k) (un j) (if j = k then 1 else 0) := by
  rcases c4 hj hj3 with rfl | rfl | rfl | rfl <;> rcases c4 hk hk3 with rfl | rfl | rfl | rfl <;> (unfold cg; decide +kernel)
theorem uni_bd (z : Int32) (i : Int) : 0 ≤ uni z i ∧ uni z i < lQ 3 := by
  unfold uni
  have := (lQ_bd 3).1
  exact ⟨Int.emod_nonneg _ (by omega), Int.emod_lt_of_pos _ (by omega)⟩
theorem uni_res (z : Int32) (i : Int) {k : Int} (h0 : 0 ≤ k) (h3 : k ≤ 3) : uni z i % lq k = res z i k := by
  have hb := res_bd z i k
  unfold uni
  rw [Int.emod_emod_of_dvd _ (lq_dvd h0 h3 (by omega))]
  have h := cg_add (cg_add (cg_add (cg_mul (un_cg (j := 0) (by omega) (by omega) h0 h3) (cg_r (a := res z i 0))) (cg_mul (un_cg (j := 1) (by omega) (by omega) h0 h3) (cg_r (a := res z i 1)))) (cg_mul (un_cg (j := 2) (by omega) (by omega) h0 h3) (cg_r (a := res z i 2)))) (cg_mul (un_cg (j := 3) (by omega) (by omega) h0 h3) (cg_r (a := res z i 3)))
  refine Eq.trans h ?_
  rcases c4 h0 h3 with rfl | rfl | rfl | rfl
  · simp only [reduceIte, Int.one_mul, Int.zero_mul, Int.add_zero, Int.zero_add, show ¬ (1 : Int) = 0 by decide, show ¬ (2 : Int) = 0 by decide, show ¬ (3 : Int) = 0 by decide]
    exact Int.emod_eq_of_lt hb.1 hb.2
  · simp only [reduceIte, Int.one_mul, Int.zero_mul, Int.add_zero, Int.zero_add, show ¬ (0 : Int) = 1 by decide, show ¬ (2 : Int) = 1 by decide, show ¬ (3 : Int) = 1 by decide]
    exact Int.emod_eq_of_lt hb.1 hb.2
  · simp only [reduceIte, Int.one_mul, Int.zero_mul, Int.add_zero, Int.zero_add, show ¬ (0 : Int) = 2 by decide, show ¬ (1 : Int) = 2 by decide, show ¬ (3 : Int) = 2 by decide]
    exact Int.emod_eq_of_lt hb.1 hb.2
  · simp only [reduceIte, Int.one_mul, Int.zero_mul, Int.add_zero, Int.zero_add, show ¬ (0 : Int) = 3 by decide, show ¬ (1 : Int) = 3 by decide, show ¬ (2 : Int) = 3 by decide]
    exact Int.emod_eq_of_lt hb.1 hb.2
theorem uni_Rep {c : Int → Int} (z : Int32) (h : ∀ k i : Int, 0 ≤ k → k ≤ 3 → 0 ≤ i → i < 8 → c (k * 8 + i) = res z i k) : Rep c 0 3 (uni z) := fun k i h0 h1 h2 h3 => by
  rw [h k i h0 h1 h2 h3, ← uni_res z i h0 h1]
  rfl
-- shifts
def tsg (t i : Int) : Int := if ((i - t) % 8 + t) / 8 % 2 = 0 then 1 else -1
def trn (X : Int → Int) (t i : Int) : Int := tsg t i * X ((i - t) % 8)
theorem lex_bd (l c : Int) : -300000 ≤ lex l c ∧ lex l c ≤ 300000 := by
  have h := lq_bd l
  have b0 := Int.emod_nonneg c (show lq l ≠ 0 by omega)
  have b1 := Int.emod_lt_of_pos c (show 0 < lq l by omega)
  have h1 := cen_bq b0 b1 h.2
  have h2 := lk_bd (cen (c % lq l) (lq l))
  unfold lex
  generalize cen (c % lq l) (lq l) = d at h1 h2
  generalize lk d = k at h2
  generalize lq l = q at h
  have h3 : k * q ≤ 8 * 32369 := by
    rcases Int.le_total 0 k with h0 | h0
    · exact Int.mul_le_mul h2.2.1 h.2 (by omega) (by decide)
    · have := Int.mul_nonneg (show 0 ≤ -k by omega) (show 0 ≤ q by omega)
      rw [Int.neg_mul] at this
      omega
  have h4 : (-k) * q ≤ 8 * 32369 := by
    rcases Int.le_total 0 k with h0 | h0
    · have := Int.mul_nonneg (show 0 ≤ k by omega) (show 0 ≤ q by omega)
      rw [Int.neg_mul]
      omega
    · exact Int.mul_le_mul (show -k ≤ 8 by omega) h.2 (by omega) (by decide)
  rw [Int.neg_mul] at h4
  omega
theorem pin_bd (l k : Int) : 0 ≤ pin l k ∧ pin l k ≤ 32369 := by
  unfold pin
  repeat' split
  all_goals omega
theorem mul_bw {x y : Int} (h1 : -332369 ≤ x) (h2 : x ≤ 332369) (h3 : 0 ≤ y) (h4 : y ≤ 32369) : -100000000000 ≤ x * y ∧ x * y ≤ 100000000000 := by
  have h5 : x * y ≤ 332369 * 32369 := by
    rcases Int.le_total 0 x with h0 | h0
    · exact Int.mul_le_mul h2 h4 h3 (by decide)
    · have := Int.mul_nonneg (show 0 ≤ -x by omega) h3
      rw [Int.neg_mul] at this
      omega
  have h6 : (-x) * y ≤ 332369 * 32369 := by
    rcases Int.le_total 0 x with h0 | h0
    · have := Int.mul_nonneg h0 h3
      rw [Int.neg_mul]
      omega
    · exact Int.mul_le_mul (show -x ≤ 332369 by omega) h4 h3 (by decide)
  rw [Int.neg_mul] at h6
  omega
end
section
-- what holds of the launch all through: kinds, static rows, the enum's constants, words on nest mates
def sI (g : Int → Int) : Nat → Value := fun j => .int (iI (g (j : Int)))
def sL (g : Int → Int) : Nat → Value := fun j => .long (lI (g (j : Int)))
def minv (a : Int) : Int := if a = 0 then 1 else gin a
def pinv (a : Int) : Int := if a = 4 then 17996 else if a = 8 then 30219 else if a = 9 then 9992 else if a = 12 then 15486 else if a = 13 then 21380 else if a = 14 then 13 else 0
def swm (a : Int) : Int := a
theorem pinv_pin {l k : Int} (h0 : 0 ≤ k) (hk : k < l) (hl : l ≤ 3) : pinv (l * 4 + k) = pin l k := by
  rcases c4 (k := l) (by omega) hl with rfl | rfl | rfl | rfl <;> rcases c4 (k := k) h0 (by omega) with rfl | rfl | rfl | rfl <;> first | (exfalso; omega) | rfl
abbrev po (b k : Nat) (sm : Int) : va_E := .inr (3, [.int (iI sm), .ref (b + (k + 1))])
abbrev vl (b k : Nat) (lv mt : Int) : va_E := .inr (4, [.int (iI lv), .long (lI mt), .ref (b + (k + 1)), .ref (b + (k + 3))])
/-- a Value at the place k, with what stands in its rows -/
def VR (ct : Nat → ClassId) (b : Nat) (u : Nat → va_E) (k : Nat) (lv mt : Int) (g0 g1 : Int → Int) : Prop := u k = vl b k lv mt ∧ u (k + 1) = po b (k + 1) 0 ∧ u (k + 2) = ir ct 32 g0 ∧ u (k + 3) = po b (k + 3) 0 ∧ u (k + 4) = ir ct 32 g1
/-- is the meter too great for its level -/
def tg (lv mt : Int) : Int := if (lQ lv - 1) / 2 < mt then 1 else 0
theorem tg_01 (lv mt : Int) : tg lv mt = 0 ∨ tg lv mt = 1 := by
  unfold tg
  split
  · exact Or.inr rfl
  · exact Or.inl rfl
abbrev gt (b : Nat) (ke : Nat → Nat) (k kd : Nat) (a0 b0 n0 : Int) : va_E := .inr (1, [.ref (ke kd), .int (iI a0), .int (iI b0), .int (iI n0), .ref (b + (k + 1)), .ref (b + (k + 3))])
abbrev ky (b k ks ka kb : Nat) : va_E := .inr (2, [.ref (b + ks), .ref (b + ka), .ref (b + kb)])
theorem pl_ne {u : Nat → va_E} {i j : Nat} {x y : va_E} (hx : u i = x) (hy : u j = y) (h : x = y → False) : i ≠ j := fun e => h (by rw [← hx, ← hy, e])
abbrev dr (z : Int32) : va_E := .inr (0, [.int z])
theorem dv_iI (z : Int32) : (z.toUInt32 >>> ((iI 8).toUInt32 &&& Int32.toUInt32 31)).toInt32 = iI (dv z) := by
  unfold dv iI
  rw [Int32.ofInt_toInt]
  rfl
def sta (st : Nat → Nat) (b : Nat) (U : State) (H : Heap) : Prop :=
  (va_Z "LevelledRing" "PRIMES" "[I" (.ref (st 0)) (AA b) U H ∧ va_T .int (st 0) 4 (sI lq) (AA b) U H) ∧
  (va_Z "LevelledRing" "MODULI" "[J" (.ref (st 1)) (AA b) U H ∧ va_T .long (st 1) 4 (sL lQ) (AA b) U H) ∧
  (va_Z "LevelledRing" "MODULUS_INVERSES" "[I" (.ref (st 2)) (AA b) U H ∧ va_T .int (st 2) 4 (sI minv) (AA b) U H) ∧
  (va_Z "LevelledRing" "PRIME_INVERSES" "[I" (.ref (st 3)) (AA b) U H ∧ va_T .int (st 3) 16 (sI pinv) (AA b) U H) ∧
  (va_Z "LevelledRing$1" "$SwitchMap$LevelledRing$Kind" "[I" (.ref (st 4)) (AA b) U H ∧ va_T .int (st 4) 6 (sI swm) (AA b) U H)
theorem sta.moved {st : Nat → Nat} {b : Nat} {u U : State} {H : Heap} (hvm : u.vm.Alike U.vm) (h : sta st b u H) : sta st b U H :=
  ⟨⟨h.1.1.moved hvm, h.1.2.moved hvm⟩, ⟨h.2.1.1.moved hvm, h.2.1.2.moved hvm⟩, ⟨h.2.2.1.1.moved hvm, h.2.2.1.2.moved hvm⟩, ⟨h.2.2.2.1.1.moved hvm, h.2.2.2.1.2.moved hvm⟩, ⟨h.2.2.2.2.1.moved hvm, h.2.2.2.2.2.moved hvm⟩⟩
theorem sta.kept {st : Nat → Nat} {b : Nat} {U : State} {H H1 : Heap} (h : sta st b U H) (hq : ∀ a : Nat, a < H.size → ¬ AA b a → H1[a]? = H[a]?) : sta st b U H1 :=
  ⟨⟨h.1.1.kept hq, h.1.2.kept hq⟩, ⟨h.2.1.1.kept hq, h.2.1.2.kept hq⟩, ⟨h.2.2.1.1.kept hq, h.2.2.1.2.kept hq⟩, ⟨h.2.2.2.1.1.kept hq, h.2.2.2.1.2.kept hq⟩, ⟨h.2.2.2.2.1.kept hq, h.2.2.2.2.2.kept hq⟩⟩
abbrev knm : List String := ["INPUT", "SUM", "DIFFERENCE", "PRODUCT", "SHIFT", "LOWERED"]
abbrev kF : List (String × String × String × List Int32) := [("java/lang/Enum", "ordinal", "I", [0, 1, 2, 3, 4, 5])]
def nws : List Cond := [(Jvm.Cond.methodLinkNest "LevelledRing" (11 : Nat) ({ cls := "LevelledRing$Drawing", name := "<init>", desc := "()V" } : Jvm.MethodName) "LevelledRing"), (Jvm.Cond.methodLinkNest "LevelledRing" (40 : Nat) ({ cls := "LevelledRing$Value", name := "<init>", desc := "()V" } : Jvm.MethodName) "LevelledRing"), (Jvm.Cond.fieldLinkNest "LevelledRing$Poly" (19 : Nat) "LevelledRing" "PRIMES" "[I" "LevelledRing"), (Jvm.Cond.methodLinkNest "LevelledRing$Poly" (40 : Nat) ({ cls := "LevelledRing", name := "modulo", desc := "(JI)I" } : Jvm.MethodName) "LevelledRing"), (Jvm.Cond.methodLinkNest "LevelledRing" (70 : Nat) ({ cls := "LevelledRing$Gate", name := "<init>", desc := "()V" } : Jvm.MethodName) "LevelledRing"), (Jvm.Cond.methodLinkNest "LevelledRing$Gate" (41 : Nat) ({ cls := "LevelledRing$Value", name := "<init>", desc := "()V" } : Jvm.MethodName) "LevelledRing"), (Jvm.Cond.fieldLinkNest "LevelledRing$Value" (41 : Nat) "LevelledRing" "PRIMES" "[I" "LevelledRing"), (Jvm.Cond.methodLinkNest "LevelledRing$Poly" (52 : Nat) ({ cls := "LevelledRing", name := "centred", desc := "(JJ)J" } : Jvm.MethodName) "LevelledRing"), (Jvm.Cond.fieldLinkNest "LevelledRing$Poly" (58 : Nat) "LevelledRing" "PRIME_INVERSES" "[I" "LevelledRing"), (Jvm.Cond.fieldLinkNest "LevelledRing$Value" (35 : Nat) "LevelledRing" "MODULI" "[J" "LevelledRing"), (Jvm.Cond.fieldLinkNest "LevelledRing$Poly" (61 : Nat) "LevelledRing" "MODULI" "[J" "LevelledRing"), (Jvm.Cond.fieldLinkNest "LevelledRing$Poly" (65 : Nat) "LevelledRing" "MODULUS_INVERSES" "[I" "LevelledRing")]
theorem nw_0 : (Jvm.Cond.methodLinkNest "LevelledRing" (11 : Nat) ({ cls := "LevelledRing$Drawing", name := "<init>", desc := "()V" } : Jvm.MethodName) "LevelledRing") ∈ nws := List.mem_of_getElem? (i := 0) rfl
theorem nw_1 : (Jvm.Cond.methodLinkNest "LevelledRing" (40 : Nat) ({ cls := "LevelledRing$Value", name := "<init>", desc := "()V" } : Jvm.MethodName) "LevelledRing") ∈ nws := List.mem_of_getElem? (i := 1) rfl
theorem nw_2 : (Jvm.Cond.fieldLinkNest "LevelledRing$Poly" (19 : Nat) "LevelledRing" "PRIMES" "[I" "LevelledRing") ∈ nws := List.mem_of_getElem? (i := 2) rfl
theorem nw_3 : (Jvm.Cond.methodLinkNest "LevelledRing$Poly" (40 : Nat) ({ cls := "LevelledRing", name := "modulo", desc := "(JI)I" } : Jvm.MethodName) "LevelledRing") ∈ nws := List.mem_of_getElem? (i := 3) rfl
theorem nw_4 : (Jvm.Cond.methodLinkNest "LevelledRing" (70 : Nat) ({ cls := "LevelledRing$Gate", name := "<init>", desc := "()V" } : Jvm.MethodName) "LevelledRing") ∈ nws := List.mem_of_getElem? (i := 4) rfl
theorem nw_5 : (Jvm.Cond.methodLinkNest "LevelledRing$Gate" (41 : Nat) ({ cls := "LevelledRing$Value", name := "<init>", desc := "()V" } : Jvm.MethodName) "LevelledRing") ∈ nws := List.mem_of_getElem? (i := 5) rfl
theorem nw_6 : (Jvm.Cond.fieldLinkNest "LevelledRing$Value" (41 : Nat) "LevelledRing" "PRIMES" "[I" "LevelledRing") ∈ nws := List.mem_of_getElem? (i := 6) rfl
theorem nw_7 : (Jvm.Cond.methodLinkNest "LevelledRing$Poly" (52 : Nat) ({ cls := "LevelledRing", name := "centred", desc := "(JJ)J" } : Jvm.MethodName) "LevelledRing") ∈ nws := List.mem_of_getElem? (i := 7) rfl
theorem nw_8 : (Jvm.Cond.fieldLinkNest "LevelledRing$Poly" (58 : Nat) "LevelledRing" "PRIME_INVERSES" "[I" "LevelledRing") ∈ nws := List.mem_of_getElem? (i := 8) rfl
theorem nw_9 : (Jvm.Cond.fieldLinkNest "LevelledRing$Value" (35 : Nat) "LevelledRing" "MODULI" "[J" "LevelledRing") ∈ nws := List.mem_of_getElem? (i := 9) rfl
theorem nw_10 : (Jvm.Cond.fieldLinkNest "LevelledRing$Poly" (61 : Nat) "LevelledRing" "MODULI" "[J" "LevelledRing") ∈ nws := List.mem_of_getElem? (i := 10) rfl
theorem nw_11 : (Jvm.Cond.fieldLinkNest "LevelledRing$Poly" (65 : Nat) "LevelledRing" "MODULUS_INVERSES" "[I" "LevelledRing") ∈ nws := List.mem_of_getElem? (i := 11) rfl
theorem nws_warm {s U : State} (hW : s.WarmedH U.vm) (h : ∀ w ∈ nws, va_Nw w s) : ∀ w ∈ nws, va_Nw w U := by
  intro w hw
  have h1 := h w hw
  unfold nws at hw
  simp only [List.mem_cons, List.not_mem_nil, or_false] at hw
  rcases hw with rfl | rfl | rfl | rfl | rfl | rfl | rfl | rfl | rfl | rfl | rfl | rfl <;> first | exact va_Nw.warmF hW h1 | exact va_Nw.warmM hW h1
theorem nws_same {s U : State} (hv : s.vm = U.vm) (h : ∀ w ∈ nws, va_Nw w s) : ∀ w ∈ nws, va_Nw w U := by
  intro w hw
  have h1 := h w hw
  unfold nws at hw
  simp only [List.mem_cons, List.not_mem_nil, or_false] at hw
  rcases hw with rfl | rfl | rfl | rfl | rfl | rfl | rfl | rfl | rfl | rfl | rfl | rfl <;> exact va_Nw.same rfl hv h1
def ev (D : va_G) (ct : Nat → ClassId) (st ke : Nat → Nat) (b : Nat) (U : State) : Prop :=
  va_K D vwCl (cty ct) U ∧ b ≤ U.heap.size ∧ (va_AO "LevelledRing$Gate" U ∧ va_AO "LevelledRing$Poly" U) ∧ (∀ w ∈ nws, va_Nw w U) ∧ sta st b U U.heap ∧ va_En "LevelledRing$Kind" "LLevelledRing$Kind;" knm kF ke (AA b) U U.heap
section EV
variable {D : va_G} {ct : Nat → ClassId} {st ke : Nat → Nat} {b : Nat} {s U : State} {H : Heap} {locs : List Loc}
theorem ev_K (E : ev D ct st ke b s) : va_K D vwCl (cty ct) s := E.1
theorem ev_b (E : ev D ct st ke b s) : b ≤ s.heap.size := E.2.1
theorem ev_AG (E : ev D ct st ke b s) : va_AO "LevelledRing$Gate" s := E.2.2.1.1
theorem ev_AP (E : ev D ct st ke b s) : va_AO "LevelledRing$Poly" s := E.2.2.1.2
theorem ev_W (E : ev D ct st ke b s) (w : Cond) (hw : w ∈ nws) : va_Nw w s := E.2.2.2.1 w hw
theorem ev_Z0 (E : ev D ct st ke b s) : va_Z "LevelledRing" "PRIMES" "[I" (.ref (st 0)) (AA b) s s.heap := E.2.2.2.2.1.1.1
theorem ev_T0 (E : ev D ct st ke b s) : va_T .int (st 0) 4 (sI lq) (AA b) s s.heap := E.2.2.2.2.1.1.2
theorem ev_Z1 (E : ev D ct st ke b s) : va_Z "LevelledRing" "MODULI" "[J" (.ref (st 1)) (AA b) s s.heap := E.2.2.2.2.1.2.1.1
theorem ev_T1 (E : ev D ct st ke b s) : va_T .long (st 1) 4 (sL lQ) (AA b) s s.heap := E.2.2.2.2.1.2.1.2
theorem ev_Z2 (E : ev D ct st ke b s) : va_Z "LevelledRing" "MODULUS_INVERSES" "[I" (.ref (st 2)) (AA b) s s.heap := E.2.2.2.2.1.2.2.1.1
theorem ev_T2 (E : ev D ct st ke b s) : va_T .int (st 2) 4 (sI minv) (AA b) s s.heap := E.2.2.2.2.1.2.2.1.2
theorem ev_Z3 (E : ev D ct st ke b s) : va_Z "LevelledRing" "PRIME_INVERSES" "[I" (.ref (st 3)) (AA b) s s.heap := E.2.2.2.2.1.2.2.2.1.1
theorem ev_T3 (E : ev D ct st ke b s) : va_T .int (st 3) 16 (sI pinv) (AA b) s s.heap := E.2.2.2.2.1.2.2.2.1.2
theorem ev_Z4 (E : ev D ct st ke b s) : va_Z "LevelledRing$1" "$SwitchMap$LevelledRing$Kind" "[I" (.ref (st 4)) (AA b) s s.heap := E.2.2.2.2.1.2.2.2.2.1
theorem ev_T4 (E : ev D ct st ke b s) : va_T .int (st 4) 6 (sI swm) (AA b) s s.heap := E.2.2.2.2.1.2.2.2.2.2
theorem ev_E (E : ev D ct st ke b s) : va_En "LevelledRing$Kind" "LLevelledRing$Kind;" knm kF ke (AA b) s s.heap := E.2.2.2.2.2
theorem ev_move (E : ev D ct st ke b s) (hS : va_S (AA b) s.heap H locs) (hU : U.heap = H) (hW : s.WarmedH U.vm) : ev D ct st ke b U := by
  obtain ⟨h1, h2, ⟨h3, h4⟩, h5, h6, h7⟩ := E
  subst hU
  exact ⟨va_K.moved hW.alike h1, Nat.le_trans h2 hS.1, ⟨va_AO.moved hW.alike h3, va_AO.moved hW.alike h4⟩, nws_warm hW h5, (h6.kept hS.2.1).moved hW.alike, (h7.kept hS.2.1).moved hW.alike⟩
theorem ev_call {g : JFrame} {mk : MethodId} {a : Array Value} (E : ev D ct st ke b U) : ev D ct st ke b (U.calling g mk a) := by
  obtain ⟨h1, h2, ⟨h3, h4⟩, h5, h6, h7⟩ := E
  exact ⟨va_K.moved (u := U) (U := U.calling g mk a) (Vm.Alike.refl U.vm) h1, h2, ⟨va_AO.moved (u := U) (U := U.calling g mk a) (Vm.Alike.refl U.vm) h3, va_AO.moved (u := U) (U := U.calling g mk a) (Vm.Alike.refl U.vm) h4⟩, nws_same (s := U) (U := U.calling g mk a) rfl h5, sta.moved (u := U) (U := U.calling g mk a) (Vm.Alike.refl U.vm) h6, va_En.moved (u := U) (U := U.calling g mk a) (Vm.Alike.refl U.vm) h7⟩
theorem at_t {cl : List vw_C} {w : va_W} {t : State} (ht : t.heap = H) (h : va_P D cl w H) : va_P D cl w t.heap := by rw [ht]; exact h
theorem pre_S {N : Nat} {u : Nat → va_E} {As : List Value} (E : ev D ct st ke b s) (hP : va_P D vwCl (wl N b u) H) (hS : va_S (AA b) s.heap H locs) : PreS s H (va_Pc As (fun U => ev D ct st ke b U ∧ va_P D vwCl (wl N b u) U.heap)) As :=
  ⟨fun _ _ _ _ q => ⟨q.1, ev_call q.2.1, q.2.2⟩, fun _ hU hW => ⟨rfl, ev_move E hS hU hW, at_t hU hP⟩⟩
theorem pre_V {N : Nat} {u : Nat → va_E} {As : List Value} (E : ev D ct st ke b s) (hP : va_P D vwCl (wl N b u) H) (hS : va_S (AA b) s.heap H locs) (k : Nat) (hk : k < N) {ci : Nat} {fs : List Value} {q : vw_C} (hu : u k = .inr (ci, fs)) (hc : vwCl[ci]? = some q) : PreV s H q.1 (b + k) (va_Pc (.ref (b + k) :: As) (fun U => ev D ct st ke b U ∧ va_P D vwCl (wl N b u) U.heap)) As :=
  ⟨fun _ _ _ _ q => ⟨q.1, ev_call q.2.1, q.2.2⟩, va_recv (ev_K E) hP hc (by rw [wl_get hk, hu]), fun _ hU hW => ⟨rfl, ev_move E hS hU hW, at_t hU hP⟩⟩
end EV
section MET
variable {l : Launch} {y : MethodName} {ws ws' : List Cond} {rm : Room} {cc : ByteArray} {maxL mc ms : Nat} {As : List Value} {S : Type} {N1 : Nat} {u1 : S → Nat → va_E} {D : va_G} {ct : Nat → ClassId} {st ke : Nat → Nat} {b N : Nat} {u : Nat → va_E}
theorem M_v {post : S → Prop} (hy : plainName y.cls = true) (hw : ws = .code y cc maxL none :: ws') (hsz : (lg_sl As).length ≤ maxL)
    (body : ∀ (p : Program) (e : Env) (s : State) (m : MethodId) (args : Array Value) (below : List Frame) (meth : Method) (c : Code) (Q : State → Prop) (ls : Array Slot) (H : Heap) (locs : List Loc), p.tables.exec = Jvm.exec → c.code = cc → c.maxLocals = maxL → s.vm.findClass y.cls = some m.cls → (∀ w ∈ ws, w.before args s = true) → meth.name = y.name → ev D ct st ke b s → va_P D vwCl (wl N b u) H → va_S (AA b) s.heap H locs → lv_has ls maxL (lv_args 0 As) →
      (∀ (z : S) (H : Heap) (locs : List Loc) (pc : Nat) (ls : Array Slot), post z → va_P D vwCl (wl N1 b (u1 z)) H → va_S (AA b) s.heap H locs → decode cc pc = .ok (.return_, 1) → W p l e rm s m args below meth c H locs mc ms Q (F0 m pc ls [])) →
      W p l e rm s m args below meth c H locs 0 0 Q (F0 m 0 ls [])) :
    Met l y ws rm (va_Pc As (fun U => ev D ct st ke b U ∧ va_P D vwCl (wl N b u) U.heap)) (va_Qv post (fun z t => va_P D vwCl (wl N1 b (u1 z)) t.heap) (AA b)) mc ms (AA b) := by
  refine Met.ofW (cc := cc) (maxL := maxL) (ret := none) hy hw ?_
  intro p e s m args below meth c s₁ B hml hv
  obtain ⟨rfl, E, hP⟩ := hv
  have hl := lv_entry As (n := maxL) hsz
  rw [lg_entry_eq]
  exact body p e s m _ below meth c _ _ s.heap [] B.exec B.bytes hml (findClass_of_methodNamed B.named) (atoms_spec (ws := ws) B.pre) (name_of_methodNamed B.named B.method).1 E hP va_S.rf hl (fun z H locs pc ls h1 h2 h3 hd => W.vret B.exec B.bytes B.returns (fun t ht _ => ⟨⟨z, rfl, h1, at_t ht h2⟩, h3.F ht⟩) h3.2.2 hd B.notSynchronized)
theorem M_i {post : Int32 → S → Prop} (hy : plainName y.cls = true) (hw : ws = .code y cc maxL (some .int) :: ws') (hsz : (lg_sl As).length ≤ maxL)
    (body : ∀ (p : Program) (e : Env) (s : State) (m : MethodId) (args : Array Value) (below : List Frame) (meth : Method) (c : Code) (Q : State → Prop) (ls : Array Slot) (H : Heap) (locs : List Loc), p.tables.exec = Jvm.exec → c.code = cc → c.maxLocals = maxL → s.vm.findClass y.cls = some m.cls → (∀ w ∈ ws, w.before args s = true) → meth.name = y.name → ev D ct st ke b s → va_P D vwCl (wl N b u) H → va_S (AA b) s.heap H locs → lv_has ls maxL (lv_args 0 As) →
      (∀ (r : Int32) (z : S) (H : Heap) (locs : List Loc) (pc : Nat) (ls : Array Slot), post r z → va_P D vwCl (wl N1 b (u1 z)) H → va_S (AA b) s.heap H locs → decode cc pc = .ok (.ireturn, 1) → W p l e rm s m args below meth c H locs mc ms Q (F0 m pc ls [.int r])) →
      W p l e rm s m args below meth c H locs 0 0 Q (F0 m 0 ls [])) :
    Met l y ws rm (va_Pc As (fun U => ev D ct st ke b U ∧ va_P D vwCl (wl N b u) U.heap)) (va_Qi post (fun z t => va_P D vwCl (wl N1 b (u1 z)) t.heap) (AA b)) mc ms (AA b) := by
  refine Met.ofW (cc := cc) (maxL := maxL) (ret := some .int) hy hw ?_
  intro p e s m args below meth c s₁ B hml hv
  obtain ⟨rfl, E, hP⟩ := hv
  have hl := lv_entry As (n := maxL) hsz
  rw [lg_entry_eq]
  exact body p e s m _ below meth c _ _ s.heap [] B.exec B.bytes hml (findClass_of_methodNamed B.named) (atoms_spec (ws := ws) B.pre) (name_of_methodNamed B.named B.method).1 E hP va_S.rf hl (fun r z H locs pc ls h1 h2 h3 hd => W.iret B.exec B.bytes B.returns (fun t ht _ => ⟨⟨r, z, rfl, h1, at_t ht h2⟩, h3.F ht⟩) h3.2.2 hd B.notSynchronized)
/-- a boolean answer: 0 or 1 -/
theorem M_z {post : Int32 → S → Prop} (hy : plainName y.cls = true) (hw : ws = .code y cc maxL (some .boolean) :: ws') (hsz : (lg_sl As).length ≤ maxL)
    (body : ∀ (p : Program) (e : Env) (s : State) (m : MethodId) (args : Array Value) (below : List Frame) (meth : Method) (c : Code) (Q : State → Prop) (ls : Array Slot) (H : Heap) (locs : List Loc), p.tables.exec = Jvm.exec → c.code = cc → c.maxLocals = maxL → s.vm.findClass y.cls = some m.cls → (∀ w ∈ ws, w.before args s = true) → meth.name = y.name → ev D ct st ke b s → va_P D vwCl (wl N b u) H → va_S (AA b) s.heap H locs → lv_has ls maxL (lv_args 0 As) →
      (∀ (r : Int) (z : S) (H : Heap) (locs : List Loc) (pc : Nat) (ls : Array Slot), (r = 0 ∨ r = 1) → post (iI r) z → va_P D vwCl (wl N1 b (u1 z)) H → va_S (AA b) s.heap H locs → decode cc pc = .ok (.ireturn, 1) → W p l e rm s m args below meth c H locs mc ms Q (F0 m pc ls [.int (iI r)])) →
      W p l e rm s m args below meth c H locs 0 0 Q (F0 m 0 ls [])) :
    Met l y ws rm (va_Pc As (fun U => ev D ct st ke b U ∧ va_P D vwCl (wl N b u) U.heap)) (va_Qi post (fun z t => va_P D vwCl (wl N1 b (u1 z)) t.heap) (AA b)) mc ms (AA b) := by
  refine Met.ofW (cc := cc) (maxL := maxL) (ret := some .boolean) hy hw ?_
  intro p e s m args below meth c s₁ B hml hv
  obtain ⟨rfl, E, hP⟩ := hv
  have hl := lv_entry As (n := maxL) hsz
  rw [lg_entry_eq]
  exact body p e s m _ below meth c _ _ s.heap [] B.exec B.bytes hml (findClass_of_methodNamed B.named) (atoms_spec (ws := ws) B.pre) (name_of_methodNamed B.named B.method).1 E hP va_S.rf hl (fun r z H locs pc ls h0 h1 h2 h3 hd => W.zret (ty := .boolean) B.exec B.bytes B.returns (by rcases h0 with rfl | rfl <;> rfl) (fun t ht _ => ⟨⟨iI r, z, rfl, h1, at_t ht h2⟩, h3.F ht⟩) h3.2.2 hd B.notSynchronized)
theorem M_l {post : Int64 → S → Prop} (hy : plainName y.cls = true) (hw : ws = .code y cc maxL (some .long) :: ws') (hsz : (lg_sl As).length ≤ maxL)
    (body : ∀ (p : Program) (e : Env) (s : State) (m : MethodId) (args : Array Value) (below : List Frame) (meth : Method) (c : Code) (Q : State → Prop) (ls : Array Slot) (H : Heap) (locs : List Loc), p.tables.exec = Jvm.exec → c.code = cc → c.maxLocals = maxL → s.vm.findClass y.cls = some m.cls → (∀ w ∈ ws, w.before args s = true) → meth.name = y.name → ev D ct st ke b s → va_P D vwCl (wl N b u) H → va_S (AA b) s.heap H locs → lv_has ls maxL (lv_args 0 As) →
      (∀ (r : Int64) (z : S) (H : Heap) (locs : List Loc) (pc : Nat) (ls : Array Slot), post r z → va_P D vwCl (wl N1 b (u1 z)) H → va_S (AA b) s.heap H locs → decode cc pc = .ok (.lreturn, 1) → W p l e rm s m args below meth c H locs mc ms Q (F0 m pc ls [.long r])) →
      W p l e rm s m args below meth c H locs 0 0 Q (F0 m 0 ls [])) :
    Met l y ws rm (va_Pc As (fun U => ev D ct st ke b U ∧ va_P D vwCl (wl N b u) U.heap)) (va_Ql post (fun z t => va_P D vwCl (wl N1 b (u1 z)) t.heap) (AA b)) mc ms (AA b) := by
  refine Met.ofW (cc := cc) (maxL := maxL) (ret := some .long) hy hw ?_
  intro p e s m args below meth c s₁ B hml hv
  obtain ⟨rfl, E, hP⟩ := hv
  have hl := lv_entry As (n := maxL) hsz
  rw [lg_entry_eq]
  exact body p e s m _ below meth c _ _ s.heap [] B.exec B.bytes hml (findClass_of_methodNamed B.named) (atoms_spec (ws := ws) B.pre) (name_of_methodNamed B.named B.method).1 E hP va_S.rf hl (fun r z H locs pc ls h1 h2 h3 hd => W.lret B.exec B.bytes B.returns (fun t ht _ => ⟨⟨r, z, rfl, h1, at_t ht h2⟩, h3.F ht⟩) h3.2.2 hd B.notSynchronized)
end MET
section MC
variable {l : Launch} {y : MethodName} {ws ws' : List Cond} {rm : Room} {cc : ByteArray} {maxL mc ms : Nat} {As : List Value} {S : Type} {N1 : Nat} {u1 : S → Nat → va_E} {D : va_G} {ct : Nat → ClassId} {st ke : Nat → Nat} {b N : Nat} {u : Nat → va_E}
/-- a maker: the heap ends where the world ends -/
theorem M_c {post : S → Prop} (hy : plainName y.cls = true) (hw : ws = .code y cc maxL none :: ws') (hsz : (lg_sl As).length ≤ maxL)
    (body : ∀ (p : Program) (e : Env) (s : State) (m : MethodId) (args : Array Value) (below : List Frame) (meth : Method) (c : Code) (Q : State → Prop) (ls : Array Slot) (H : Heap) (locs : List Loc), p.tables.exec = Jvm.exec → c.code = cc → c.maxLocals = maxL → s.vm.findClass y.cls = some m.cls → (∀ w ∈ ws, w.before args s = true) → meth.name = y.name → ev D ct st ke b s → s.heap.size = b + N → va_P D vwCl (wl N b u) H → va_S (AA b) s.heap H locs → lv_has ls maxL (lv_args 0 As) →
      (∀ (z : S) (H : Heap) (locs : List Loc) (pc : Nat) (ls : Array Slot), post z → va_P D vwCl (wl N1 b (u1 z)) H → va_S (AA b) s.heap H locs → decode cc pc = .ok (.return_, 1) → W p l e rm s m args below meth c H locs mc ms Q (F0 m pc ls [])) →
      W p l e rm s m args below meth c H locs 0 0 Q (F0 m 0 ls [])) :
    Met l y ws rm (va_Pc As (fun U => ev D ct st ke b U ∧ U.heap.size = b + N ∧ va_P D vwCl (wl N b u) U.heap)) (va_Qv post (fun z t => va_P D vwCl (wl N1 b (u1 z)) t.heap) (AA b)) mc ms (AA b) := by
  refine Met.ofW (cc := cc) (maxL := maxL) (ret := none) hy hw ?_
  intro p e s m args below meth c s₁ B hml hv
  obtain ⟨rfl, E, hz, hP⟩ := hv
  have hl := lv_entry As (n := maxL) hsz
  rw [lg_entry_eq]
  exact body p e s m _ below meth c _ _ s.heap [] B.exec B.bytes hml (findClass_of_methodNamed B.named) (atoms_spec (ws := ws) B.pre) (name_of_methodNamed B.named B.method).1 E hz hP va_S.rf hl (fun z H locs pc ls h1 h2 h3 hd => W.vret B.exec B.bytes B.returns (fun t ht _ => ⟨⟨z, rfl, h1, at_t ht h2⟩, h3.F ht⟩) h3.2.2 hd B.notSynchronized)
theorem pre_C {s : State} {H : Heap} {locs : List Loc} (E : ev D ct st ke b s) (hP : va_P D vwCl (wl N b u) H) (hS : va_S (AA b) s.heap H locs) (hz : H.size = b + N) : PreS s H (va_Pc As (fun U => ev D ct st ke b U ∧ U.heap.size = b + N ∧ va_P D vwCl (wl N b u) U.heap)) As :=
  ⟨fun _ _ _ _ q => ⟨q.1, ev_call q.2.1, q.2.2.1, q.2.2.2⟩, fun _ hU hW => ⟨rfl, ev_move E hS hU hW, by rw [hU]; exact hz, at_t hU hP⟩⟩
end MC
section XT
variable {p : Program} {l : Launch} {e : Env} {R : Room} {s : State} {m : MethodId} {args : Array Value} {below : List Frame} {meth : Method} {c : Code} {H : Heap} {locs : List Loc} {cells slots : Nat} {Q : State → Prop}
variable {cc : ByteArray} {pc : Nat} {ls : Array Slot} {rest : List Value} {b : Nat}
theorem x_ti (hx : p.tables.exec = Jvm.exec) (hb : c.code = cc) {t n : Nat} {g : Int → Int} (hT : va_T .int t n (sI g) (AA b) s s.heap) (hS : va_S (AA b) s.heap H locs) {a : Int} (h0 : 0 ≤ a) (h1 : a < n) (hn : n < 2147483648) (hdg : decode cc pc = .ok (.iaload, 1)) (kk : W p l e R s m args below meth c H locs cells slots Q (F0 m (pc + 1) ls (.int (iI (g a)) :: rest))) : W p l e R s m args below meth c H locs cells slots Q (F0 m pc ls (.int (iI a) :: .ref t :: rest)) := by
  obtain ⟨j, rfl⟩ := Int.eq_ofNat_of_zero_le h0
  exact va_ti hx hb hT hS (iI_in (by omega) hn) (v := .int (iI (g (j : Int)))) (by rw [iI_clamp (by omega)]; rfl) hdg kk
theorem x_tl (hx : p.tables.exec = Jvm.exec) (hb : c.code = cc) {t n : Nat} {g : Int → Int} (hT : va_T .long t n (sL g) (AA b) s s.heap) (hS : va_S (AA b) s.heap H locs) {a : Int} (h0 : 0 ≤ a) (h1 : a < n) (hn : n < 2147483648) (hdg : decode cc pc = .ok (.laload, 1)) (kk : W p l e R s m args below meth c H locs cells slots Q (F0 m (pc + 1) ls (.long (lI (g a)) :: rest))) : W p l e R s m args below meth c H locs cells slots Q (F0 m pc ls (.int (iI a) :: .ref t :: rest)) := by
  obtain ⟨j, rfl⟩ := Int.eq_ofNat_of_zero_le h0
  exact va_tl hx hb hT hS (iI_in (by omega) hn) (v := .long (lI (g (j : Int)))) (by rw [iI_clamp (by omega)]; rfl) hdg kk
end XT
end
section
theorem d_D_init_0 : decode c9_D_init 0 = .ok (.aload_n 0, 1) := by decide +kernel
theorem d_D_init_1 : decode c9_D_init 1 = .ok (.invokespecial 1, 3) := by decide +kernel
theorem d_D_init_4 : decode c9_D_init 4 = .ok (.aload_n 0, 1) := by decide +kernel
theorem d_D_init_5 : decode c9_D_init 5 = .ok (.iconst 0, 1) := by decide +kernel
theorem d_D_init_6 : decode c9_D_init 6 = .ok (.putfield 7, 3) := by decide +kernel
theorem d_D_init_9 : decode c9_D_init 9 = .ok (.return_, 1) := by decide +kernel
theorem d_P_init_0 : decode c9_P_init 0 = .ok (.aload_n 0, 1) := by decide +kernel
theorem d_P_init_1 : decode c9_P_init 1 = .ok (.invokespecial 3, 3) := by decide +kernel
theorem d_P_init_4 : decode c9_P_init 4 = .ok (.aload_n 0, 1) := by decide +kernel
theorem d_P_init_5 : decode c9_P_init 5 = .ok (.iload_n 1, 1) := by decide +kernel
theorem d_P_init_6 : decode c9_P_init 6 = .ok (.putfield 9, 3) := by decide +kernel
theorem d_P_init_9 : decode c9_P_init 9 = .ok (.aload_n 0, 1) := by decide +kernel
theorem d_P_init_10 : decode c9_P_init 10 = .ok (.iload_n 1, 1) := by decide +kernel
theorem d_P_init_11 : decode c9_P_init 11 = .ok (.ifCond .eq 8, 3) := by decide +kernel
theorem d_P_init_14 : decode c9_P_init 14 = .ok (.bipush 8, 2) := by decide +kernel
theorem d_P_init_16 : decode c9_P_init 16 = .ok (.goto 5, 3) := by decide +kernel
theorem d_P_init_19 : decode c9_P_init 19 = .ok (.bipush 32, 2) := by decide +kernel
theorem d_P_init_21 : decode c9_P_init 21 = .ok (.newarray .int, 2) := by decide +kernel
theorem d_P_init_23 : decode c9_P_init 23 = .ok (.putfield 15, 3) := by decide +kernel
theorem d_P_init_26 : decode c9_P_init 26 = .ok (.return_, 1) := by decide +kernel
theorem d_V_init_0 : decode c9_V_init 0 = .ok (.aload_n 0, 1) := by decide +kernel
theorem d_V_init_1 : decode c9_V_init 1 = .ok (.invokespecial 3, 3) := by decide +kernel
theorem d_V_init_4 : decode c9_V_init 4 = .ok (.aload_n 0, 1) := by decide +kernel
theorem d_V_init_5 : decode c9_V_init 5 = .ok (.iconst 0, 1) := by decide +kernel
theorem d_V_init_6 : decode c9_V_init 6 = .ok (.putfield 9, 3) := by decide +kernel
theorem d_V_init_9 : decode c9_V_init 9 = .ok (.aload_n 0, 1) := by decide +kernel
theorem d_V_init_10 : decode c9_V_init 10 = .ok (.lconst 0, 1) := by decide +kernel
theorem d_V_init_11 : decode c9_V_init 11 = .ok (.putfield 15, 3) := by decide +kernel
theorem d_V_init_14 : decode c9_V_init 14 = .ok (.aload_n 0, 1) := by decide +kernel
theorem d_V_init_15 : decode c9_V_init 15 = .ok (.new 19, 3) := by decide +kernel
theorem d_V_init_18 : decode c9_V_init 18 = .ok (.dup, 1) := by decide +kernel
theorem d_V_init_19 : decode c9_V_init 19 = .ok (.iconst 0, 1) := by decide +kernel
theorem d_V_init_20 : decode c9_V_init 20 = .ok (.invokespecial 21, 3) := by decide +kernel
theorem d_V_init_23 : decode c9_V_init 23 = .ok (.putfield 24, 3) := by decide +kernel
theorem d_V_init_26 : decode c9_V_init 26 = .ok (.aload_n 0, 1) := by decide +kernel
theorem d_V_init_27 : decode c9_V_init 27 = .ok (.new 19, 3) := by decide +kernel
theorem d_V_init_30 : decode c9_V_init 30 = .ok (.dup, 1) := by decide +kernel
theorem d_V_init_31 : decode c9_V_init 31 = .ok (.iconst 0, 1) := by decide +kernel
theorem d_V_init_32 : decode c9_V_init 32 = .ok (.invokespecial 21, 3) := by decide +kernel
theorem d_V_init_35 : decode c9_V_init 35 = .ok (.putfield 28, 3) := by decide +kernel
theorem d_V_init_38 : decode c9_V_init 38 = .ok (.return_, 1) := by decide +kernel
theorem d_D_start_0 : decode c9_D_start 0 = .ok (.aload_n 0, 1) := by decide +kernel
theorem d_D_start_1 : decode c9_D_start 1 = .ok (.iload_n 1, 1) := by decide +kernel
theorem d_D_start_2 : decode c9_D_start 2 = .ok (.putfield 7, 3) := by decide +kernel
theorem d_D_start_5 : decode c9_D_start 5 = .ok (.return_, 1) := by decide +kernel
theorem d_K_init_0 : decode c9_K_init 0 = .ok (.aload_n 0, 1) := by decide +kernel
theorem d_K_init_1 : decode c9_K_init 1 = .ok (.invokespecial 3, 3) := by decide +kernel
theorem d_K_init_4 : decode c9_K_init 4 = .ok (.aload_n 0, 1) := by decide +kernel
theorem d_K_init_5 : decode c9_K_init 5 = .ok (.new 9, 3) := by decide +kernel
theorem d_K_init_8 : decode c9_K_init 8 = .ok (.dup, 1) := by decide +kernel
theorem d_K_init_9 : decode c9_K_init 9 = .ok (.iconst 0, 1) := by decide +kernel
theorem d_K_init_10 : decode c9_K_init 10 = .ok (.invokespecial 11, 3) := by decide +kernel
theorem d_K_init_13 : decode c9_K_init 13 = .ok (.putfield 14, 3) := by decide +kernel
theorem d_K_init_16 : decode c9_K_init 16 = .ok (.aload_n 0, 1) := by decide +kernel
theorem d_K_init_17 : decode c9_K_init 17 = .ok (.iconst 4, 1) := by decide +kernel
theorem d_K_init_18 : decode c9_K_init 18 = .ok (.anewarray 9, 3) := by decide +kernel
theorem d_K_init_21 : decode c9_K_init 21 = .ok (.putfield 20, 3) := by decide +kernel
theorem d_K_init_24 : decode c9_K_init 24 = .ok (.aload_n 0, 1) := by decide +kernel
theorem d_K_init_25 : decode c9_K_init 25 = .ok (.iconst 4, 1) := by decide +kernel
theorem d_K_init_26 : decode c9_K_init 26 = .ok (.anewarray 9, 3) := by decide +kernel
theorem d_K_init_29 : decode c9_K_init 29 = .ok (.putfield 24, 3) := by decide +kernel
theorem d_K_init_32 : decode c9_K_init 32 = .ok (.aload_n 0, 1) := by decide +kernel
theorem d_K_init_33 : decode c9_K_init 33 = .ok (.getfield 14, 3) := by decide +kernel
theorem d_K_init_36 : decode c9_K_init 36 = .ok (.aload_n 1, 1) := by decide +kernel
theorem d_K_init_37 : decode c9_K_init 37 = .ok (.iconst 1, 1) := by decide +kernel
theorem d_K_init_38 : decode c9_K_init 38 = .ok (.invokevirtual 27, 3) := by decide +kernel
theorem d_K_init_41 : decode c9_K_init 41 = .ok (.new 9, 3) := by decide +kernel
theorem d_K_init_44 : decode c9_K_init 44 = .ok (.dup, 1) := by decide +kernel
theorem d_K_init_45 : decode c9_K_init 45 = .ok (.iconst 0, 1) := by decide +kernel
theorem d_K_init_46 : decode c9_K_init 46 = .ok (.invokespecial 11, 3) := by decide +kernel
theorem d_K_init_49 : decode c9_K_init 49 = .ok (.astore_n 2, 1) := by decide +kernel
theorem d_K_init_50 : decode c9_K_init 50 = .ok (.aload_n 2, 1) := by decide +kernel
theorem d_K_init_51 : decode c9_K_init 51 = .ok (.iconst 1, 1) := by decide +kernel
theorem d_K_init_52 : decode c9_K_init 52 = .ok (.aload_n 0, 1) := by decide +kernel
theorem d_K_init_53 : decode c9_K_init 53 = .ok (.getfield 14, 3) := by decide +kernel
theorem d_K_init_56 : decode c9_K_init 56 = .ok (.aload_n 0, 1) := by decide +kernel
theorem d_K_init_57 : decode c9_K_init 57 = .ok (.getfield 14, 3) := by decide +kernel
theorem d_K_init_60 : decode c9_K_init 60 = .ok (.iconst 3, 1) := by decide +kernel
theorem d_K_init_61 : decode c9_K_init 61 = .ok (.invokevirtual 31, 3) := by decide +kernel
theorem d_K_init_64 : decode c9_K_init 64 = .ok (.iconst 0, 1) := by decide +kernel
theorem d_K_init_65 : decode c9_K_init 65 = .ok (.istore_n 3, 1) := by decide +kernel
theorem d_K_init_66 : decode c9_K_init 66 = .ok (.iload_n 3, 1) := by decide +kernel
theorem d_K_init_67 : decode c9_K_init 67 = .ok (.iconst 4, 1) := by decide +kernel
theorem d_K_init_68 : decode c9_K_init 68 = .ok (.if_icmp .ge 65, 3) := by decide +kernel
theorem d_K_init_71 : decode c9_K_init 71 = .ok (.aload_n 0, 1) := by decide +kernel
theorem d_K_init_72 : decode c9_K_init 72 = .ok (.getfield 20, 3) := by decide +kernel
theorem d_K_init_75 : decode c9_K_init 75 = .ok (.iload_n 3, 1) := by decide +kernel
theorem d_K_init_76 : decode c9_K_init 76 = .ok (.new 9, 3) := by decide +kernel
theorem d_K_init_79 : decode c9_K_init 79 = .ok (.dup, 1) := by decide +kernel
theorem d_K_init_80 : decode c9_K_init 80 = .ok (.iconst 0, 1) := by decide +kernel
theorem d_K_init_81 : decode c9_K_init 81 = .ok (.invokespecial 11, 3) := by decide +kernel
theorem d_K_init_84 : decode c9_K_init 84 = .ok (.aastore, 1) := by decide +kernel
theorem d_K_init_85 : decode c9_K_init 85 = .ok (.aload_n 0, 1) := by decide +kernel
theorem d_K_init_86 : decode c9_K_init 86 = .ok (.getfield 24, 3) := by decide +kernel
theorem d_K_init_89 : decode c9_K_init 89 = .ok (.iload_n 3, 1) := by decide +kernel
theorem d_K_init_90 : decode c9_K_init 90 = .ok (.new 9, 3) := by decide +kernel
theorem d_K_init_93 : decode c9_K_init 93 = .ok (.dup, 1) := by decide +kernel
theorem d_K_init_94 : decode c9_K_init 94 = .ok (.iconst 0, 1) := by decide +kernel
theorem d_K_init_95 : decode c9_K_init 95 = .ok (.invokespecial 11, 3) := by decide +kernel
theorem d_K_init_98 : decode c9_K_init 98 = .ok (.aastore, 1) := by decide +kernel
theorem d_K_init_99 : decode c9_K_init 99 = .ok (.aload_n 0, 1) := by decide +kernel
theorem d_K_init_100 : decode c9_K_init 100 = .ok (.aload_n 1, 1) := by decide +kernel
theorem d_K_init_101 : decode c9_K_init 101 = .ok (.aload_n 0, 1) := by decide +kernel
theorem d_K_init_102 : decode c9_K_init 102 = .ok (.getfield 24, 3) := by decide +kernel
theorem d_K_init_105 : decode c9_K_init 105 = .ok (.iload_n 3, 1) := by decide +kernel
theorem d_K_init_106 : decode c9_K_init 106 = .ok (.aaload, 1) := by decide +kernel
theorem d_K_init_107 : decode c9_K_init 107 = .ok (.aload_n 0, 1) := by decide +kernel
theorem d_K_init_108 : decode c9_K_init 108 = .ok (.getfield 20, 3) := by decide +kernel
theorem d_K_init_111 : decode c9_K_init 111 = .ok (.iload_n 3, 1) := by decide +kernel
theorem d_K_init_112 : decode c9_K_init 112 = .ok (.aaload, 1) := by decide +kernel
theorem d_K_init_113 : decode c9_K_init 113 = .ok (.invokevirtual 35, 3) := by decide +kernel
theorem d_K_init_116 : decode c9_K_init 116 = .ok (.aload_n 0, 1) := by decide +kernel
theorem d_K_init_117 : decode c9_K_init 117 = .ok (.getfield 24, 3) := by decide +kernel
theorem d_K_init_120 : decode c9_K_init 120 = .ok (.iload_n 3, 1) := by decide +kernel
theorem d_K_init_121 : decode c9_K_init 121 = .ok (.aaload, 1) := by decide +kernel
theorem d_K_init_122 : decode c9_K_init 122 = .ok (.aload_n 2, 1) := by decide +kernel
theorem d_K_init_123 : decode c9_K_init 123 = .ok (.iload_n 3, 1) := by decide +kernel
theorem d_K_init_124 : decode c9_K_init 124 = .ok (.invokevirtual 39, 3) := by decide +kernel
theorem d_K_init_127 : decode c9_K_init 127 = .ok (.iinc 3 1, 3) := by decide +kernel
theorem d_K_init_130 : decode c9_K_init 130 = .ok (.goto (-64), 3) := by decide +kernel
theorem d_K_init_133 : decode c9_K_init 133 = .ok (.return_, 1) := by decide +kernel
theorem d_P_drawSmall_0 : decode c9_P_drawSmall 0 = .ok (.iconst 0, 1) := by decide +kernel
theorem d_P_drawSmall_1 : decode c9_P_drawSmall 1 = .ok (.istore_n 3, 1) := by decide +kernel
theorem d_P_drawSmall_2 : decode c9_P_drawSmall 2 = .ok (.iload_n 3, 1) := by decide +kernel
theorem d_P_drawSmall_3 : decode c9_P_drawSmall 3 = .ok (.bipush 8, 2) := by decide +kernel
theorem d_P_drawSmall_5 : decode c9_P_drawSmall 5 = .ok (.if_icmp .ge 60, 3) := by decide +kernel
theorem d_P_drawSmall_8 : decode c9_P_drawSmall 8 = .ok (.iload_n 2, 1) := by decide +kernel
theorem d_P_drawSmall_9 : decode c9_P_drawSmall 9 = .ok (.aload_n 1, 1) := by decide +kernel
theorem d_P_drawSmall_10 : decode c9_P_drawSmall 10 = .ok (.invokevirtual 34, 3) := by decide +kernel
theorem d_P_drawSmall_13 : decode c9_P_drawSmall 13 = .ok (.iconst 3, 1) := by decide +kernel
theorem d_P_drawSmall_14 : decode c9_P_drawSmall 14 = .ok (.irem, 1) := by decide +kernel
theorem d_P_drawSmall_15 : decode c9_P_drawSmall 15 = .ok (.iconst 1, 1) := by decide +kernel
theorem d_P_drawSmall_16 : decode c9_P_drawSmall 16 = .ok (.isub, 1) := by decide +kernel
theorem d_P_drawSmall_17 : decode c9_P_drawSmall 17 = .ok (.imul, 1) := by decide +kernel
theorem d_P_drawSmall_18 : decode c9_P_drawSmall 18 = .ok (.istore 4, 2) := by decide +kernel
theorem d_P_drawSmall_20 : decode c9_P_drawSmall 20 = .ok (.iconst 0, 1) := by decide +kernel
theorem d_P_drawSmall_21 : decode c9_P_drawSmall 21 = .ok (.istore 5, 2) := by decide +kernel
theorem d_P_drawSmall_23 : decode c9_P_drawSmall 23 = .ok (.iload 5, 2) := by decide +kernel
theorem d_P_drawSmall_25 : decode c9_P_drawSmall 25 = .ok (.iconst 4, 1) := by decide +kernel
theorem d_P_drawSmall_26 : decode c9_P_drawSmall 26 = .ok (.if_icmp .ge 33, 3) := by decide +kernel
theorem d_P_drawSmall_29 : decode c9_P_drawSmall 29 = .ok (.aload_n 0, 1) := by decide +kernel
theorem d_P_drawSmall_30 : decode c9_P_drawSmall 30 = .ok (.getfield 15, 3) := by decide +kernel
theorem d_P_drawSmall_33 : decode c9_P_drawSmall 33 = .ok (.iload 5, 2) := by decide +kernel
theorem d_P_drawSmall_35 : decode c9_P_drawSmall 35 = .ok (.bipush 8, 2) := by decide +kernel
theorem d_P_drawSmall_37 : decode c9_P_drawSmall 37 = .ok (.imul, 1) := by decide +kernel
theorem d_P_drawSmall_38 : decode c9_P_drawSmall 38 = .ok (.iload_n 3, 1) := by decide +kernel
theorem d_P_drawSmall_39 : decode c9_P_drawSmall 39 = .ok (.iadd, 1) := by decide +kernel
theorem d_P_drawSmall_40 : decode c9_P_drawSmall 40 = .ok (.iload 4, 2) := by decide +kernel
theorem d_P_drawSmall_42 : decode c9_P_drawSmall 42 = .ok (.i2l, 1) := by decide +kernel
theorem d_P_drawSmall_43 : decode c9_P_drawSmall 43 = .ok (.getstatic 19, 3) := by decide +kernel
theorem d_P_drawSmall_46 : decode c9_P_drawSmall 46 = .ok (.iload 5, 2) := by decide +kernel
theorem d_P_drawSmall_48 : decode c9_P_drawSmall 48 = .ok (.iaload, 1) := by decide +kernel
theorem d_P_drawSmall_49 : decode c9_P_drawSmall 49 = .ok (.invokestatic 40, 3) := by decide +kernel
theorem d_P_drawSmall_52 : decode c9_P_drawSmall 52 = .ok (.iastore, 1) := by decide +kernel
theorem d_P_drawSmall_53 : decode c9_P_drawSmall 53 = .ok (.iinc 5 1, 3) := by decide +kernel
theorem d_P_drawSmall_56 : decode c9_P_drawSmall 56 = .ok (.goto (-33), 3) := by decide +kernel
theorem d_P_drawSmall_59 : decode c9_P_drawSmall 59 = .ok (.iinc 3 1, 3) := by decide +kernel
theorem d_P_drawSmall_62 : decode c9_P_drawSmall 62 = .ok (.goto (-60), 3) := by decide +kernel
theorem d_P_drawSmall_65 : decode c9_P_drawSmall 65 = .ok (.return_, 1) := by decide +kernel
theorem d_D_draw_0 : decode c9_D_draw 0 = .ok (.aload_n 0, 1) := by decide +kernel
theorem d_D_draw_1 : decode c9_D_draw 1 = .ok (.aload_n 0, 1) := by decide +kernel
theorem d_D_draw_2 : decode c9_D_draw 2 = .ok (.getfield 7, 3) := by decide +kernel
theorem d_D_draw_5 : decode c9_D_draw 5 = .ok (.ldc 13, 2) := by decide +kernel
theorem d_D_draw_7 : decode c9_D_draw 7 = .ok (.imul, 1) := by decide +kernel
theorem d_D_draw_8 : decode c9_D_draw 8 = .ok (.ldc 14, 2) := by decide +kernel
theorem d_D_draw_10 : decode c9_D_draw 10 = .ok (.iadd, 1) := by decide +kernel
theorem d_D_draw_11 : decode c9_D_draw 11 = .ok (.putfield 7, 3) := by decide +kernel
theorem d_D_draw_14 : decode c9_D_draw 14 = .ok (.aload_n 0, 1) := by decide +kernel
theorem d_D_draw_15 : decode c9_D_draw 15 = .ok (.getfield 7, 3) := by decide +kernel
theorem d_D_draw_18 : decode c9_D_draw 18 = .ok (.bipush 8, 2) := by decide +kernel
theorem d_D_draw_20 : decode c9_D_draw 20 = .ok (.iushr, 1) := by decide +kernel
theorem d_D_draw_21 : decode c9_D_draw 21 = .ok (.ireturn, 1) := by decide +kernel
theorem d_P_addProduct_0 : decode c9_P_addProduct 0 = .ok (.iconst 0, 1) := by decide +kernel
theorem d_P_addProduct_1 : decode c9_P_addProduct 1 = .ok (.istore 5, 2) := by decide +kernel
theorem d_P_addProduct_3 : decode c9_P_addProduct 3 = .ok (.iload 5, 2) := by decide +kernel
theorem d_P_addProduct_5 : decode c9_P_addProduct 5 = .ok (.iload 4, 2) := by decide +kernel
theorem d_P_addProduct_7 : decode c9_P_addProduct 7 = .ok (.if_icmp .gt 79, 3) := by decide +kernel
theorem d_P_addProduct_10 : decode c9_P_addProduct 10 = .ok (.aload_n 0, 1) := by decide +kernel
theorem d_P_addProduct_11 : decode c9_P_addProduct 11 = .ok (.iload 5, 2) := by decide +kernel
theorem d_P_addProduct_13 : decode c9_P_addProduct 13 = .ok (.invokevirtual 44, 3) := by decide +kernel
theorem d_P_addProduct_16 : decode c9_P_addProduct 16 = .ok (.istore 6, 2) := by decide +kernel
theorem d_P_addProduct_18 : decode c9_P_addProduct 18 = .ok (.iconst 0, 1) := by decide +kernel
theorem d_P_addProduct_19 : decode c9_P_addProduct 19 = .ok (.istore 7, 2) := by decide +kernel
theorem d_P_addProduct_21 : decode c9_P_addProduct 21 = .ok (.iload 7, 2) := by decide +kernel
theorem d_P_addProduct_23 : decode c9_P_addProduct 23 = .ok (.bipush 8, 2) := by decide +kernel
theorem d_P_addProduct_25 : decode c9_P_addProduct 25 = .ok (.if_icmp .ge 55, 3) := by decide +kernel
theorem d_P_addProduct_28 : decode c9_P_addProduct 28 = .ok (.iload 5, 2) := by decide +kernel
theorem d_P_addProduct_30 : decode c9_P_addProduct 30 = .ok (.bipush 8, 2) := by decide +kernel
theorem d_P_addProduct_32 : decode c9_P_addProduct 32 = .ok (.imul, 1) := by decide +kernel
theorem d_P_addProduct_33 : decode c9_P_addProduct 33 = .ok (.iload 7, 2) := by decide +kernel
theorem d_P_addProduct_35 : decode c9_P_addProduct 35 = .ok (.iadd, 1) := by decide +kernel
theorem d_P_addProduct_36 : decode c9_P_addProduct 36 = .ok (.istore 8, 2) := by decide +kernel
theorem d_P_addProduct_38 : decode c9_P_addProduct 38 = .ok (.aload_n 0, 1) := by decide +kernel
theorem d_P_addProduct_39 : decode c9_P_addProduct 39 = .ok (.getfield 15, 3) := by decide +kernel
theorem d_P_addProduct_42 : decode c9_P_addProduct 42 = .ok (.iload 8, 2) := by decide +kernel
theorem d_P_addProduct_44 : decode c9_P_addProduct 44 = .ok (.aload_n 0, 1) := by decide +kernel
theorem d_P_addProduct_45 : decode c9_P_addProduct 45 = .ok (.getfield 15, 3) := by decide +kernel
theorem d_P_addProduct_48 : decode c9_P_addProduct 48 = .ok (.iload 8, 2) := by decide +kernel
theorem d_P_addProduct_50 : decode c9_P_addProduct 50 = .ok (.iaload, 1) := by decide +kernel
theorem d_P_addProduct_51 : decode c9_P_addProduct 51 = .ok (.i2l, 1) := by decide +kernel
theorem d_P_addProduct_52 : decode c9_P_addProduct 52 = .ok (.iload_n 1, 1) := by decide +kernel
theorem d_P_addProduct_53 : decode c9_P_addProduct 53 = .ok (.i2l, 1) := by decide +kernel
theorem d_P_addProduct_54 : decode c9_P_addProduct 54 = .ok (.aload_n 2, 1) := by decide +kernel
theorem d_P_addProduct_55 : decode c9_P_addProduct 55 = .ok (.aload_n 3, 1) := by decide +kernel
theorem d_P_addProduct_56 : decode c9_P_addProduct 56 = .ok (.iload 5, 2) := by decide +kernel
theorem d_P_addProduct_58 : decode c9_P_addProduct 58 = .ok (.bipush 8, 2) := by decide +kernel
theorem d_P_addProduct_60 : decode c9_P_addProduct 60 = .ok (.imul, 1) := by decide +kernel
theorem d_P_addProduct_61 : decode c9_P_addProduct 61 = .ok (.iload 7, 2) := by decide +kernel
theorem d_P_addProduct_63 : decode c9_P_addProduct 63 = .ok (.invokestatic 48, 3) := by decide +kernel
theorem d_P_addProduct_66 : decode c9_P_addProduct 66 = .ok (.lmul, 1) := by decide +kernel
theorem d_P_addProduct_67 : decode c9_P_addProduct 67 = .ok (.ladd, 1) := by decide +kernel
theorem d_P_addProduct_68 : decode c9_P_addProduct 68 = .ok (.iload 6, 2) := by decide +kernel
theorem d_P_addProduct_70 : decode c9_P_addProduct 70 = .ok (.invokestatic 40, 3) := by decide +kernel
theorem d_P_addProduct_73 : decode c9_P_addProduct 73 = .ok (.iastore, 1) := by decide +kernel
theorem d_P_addProduct_74 : decode c9_P_addProduct 74 = .ok (.iinc 7 1, 3) := by decide +kernel
theorem d_P_addProduct_77 : decode c9_P_addProduct 77 = .ok (.goto (-56), 3) := by decide +kernel
theorem d_P_addProduct_80 : decode c9_P_addProduct 80 = .ok (.iinc 5 1, 3) := by decide +kernel
theorem d_P_addProduct_83 : decode c9_P_addProduct 83 = .ok (.goto (-80), 3) := by decide +kernel
theorem d_P_addProduct_86 : decode c9_P_addProduct 86 = .ok (.return_, 1) := by decide +kernel
theorem d_P_rowModulus_0 : decode c9_P_rowModulus 0 = .ok (.aload_n 0, 1) := by decide +kernel
theorem d_P_rowModulus_1 : decode c9_P_rowModulus 1 = .ok (.getfield 9, 3) := by decide +kernel
theorem d_P_rowModulus_4 : decode c9_P_rowModulus 4 = .ok (.ifCond .eq 8, 3) := by decide +kernel
theorem d_P_rowModulus_7 : decode c9_P_rowModulus 7 = .ok (.bipush 17, 2) := by decide +kernel
theorem d_P_rowModulus_9 : decode c9_P_rowModulus 9 = .ok (.goto 8, 3) := by decide +kernel
theorem d_P_rowModulus_12 : decode c9_P_rowModulus 12 = .ok (.getstatic 19, 3) := by decide +kernel
theorem d_P_rowModulus_15 : decode c9_P_rowModulus 15 = .ok (.iload_n 1, 1) := by decide +kernel
theorem d_P_rowModulus_16 : decode c9_P_rowModulus 16 = .ok (.iaload, 1) := by decide +kernel
theorem d_P_rowModulus_17 : decode c9_P_rowModulus 17 = .ok (.ireturn, 1) := by decide +kernel
theorem d_P_productCoefficient_0 : decode c9_P_productCoefficient 0 = .ok (.lconst 0, 1) := by decide +kernel
theorem d_P_productCoefficient_1 : decode c9_P_productCoefficient 1 = .ok (.lstore 4, 2) := by decide +kernel
theorem d_P_productCoefficient_3 : decode c9_P_productCoefficient 3 = .ok (.iconst 0, 1) := by decide +kernel
theorem d_P_productCoefficient_4 : decode c9_P_productCoefficient 4 = .ok (.istore 6, 2) := by decide +kernel
theorem d_P_productCoefficient_6 : decode c9_P_productCoefficient 6 = .ok (.iload 6, 2) := by decide +kernel
theorem d_P_productCoefficient_8 : decode c9_P_productCoefficient 8 = .ok (.iload_n 3, 1) := by decide +kernel
theorem d_P_productCoefficient_9 : decode c9_P_productCoefficient 9 = .ok (.if_icmp .gt 37, 3) := by decide +kernel
theorem d_P_productCoefficient_12 : decode c9_P_productCoefficient 12 = .ok (.lload 4, 2) := by decide +kernel
theorem d_P_productCoefficient_14 : decode c9_P_productCoefficient 14 = .ok (.aload_n 0, 1) := by decide +kernel
theorem d_P_productCoefficient_15 : decode c9_P_productCoefficient 15 = .ok (.getfield 15, 3) := by decide +kernel
theorem d_P_productCoefficient_18 : decode c9_P_productCoefficient 18 = .ok (.iload_n 2, 1) := by decide +kernel
theorem d_P_productCoefficient_19 : decode c9_P_productCoefficient 19 = .ok (.iload 6, 2) := by decide +kernel
theorem d_P_productCoefficient_21 : decode c9_P_productCoefficient 21 = .ok (.iadd, 1) := by decide +kernel
theorem d_P_productCoefficient_22 : decode c9_P_productCoefficient 22 = .ok (.iaload, 1) := by decide +kernel
theorem d_P_productCoefficient_23 : decode c9_P_productCoefficient 23 = .ok (.i2l, 1) := by decide +kernel
theorem d_P_productCoefficient_24 : decode c9_P_productCoefficient 24 = .ok (.aload_n 1, 1) := by decide +kernel
theorem d_P_productCoefficient_25 : decode c9_P_productCoefficient 25 = .ok (.getfield 15, 3) := by decide +kernel
theorem d_P_productCoefficient_28 : decode c9_P_productCoefficient 28 = .ok (.iload_n 2, 1) := by decide +kernel
theorem d_P_productCoefficient_29 : decode c9_P_productCoefficient 29 = .ok (.iload_n 3, 1) := by decide +kernel
theorem d_P_productCoefficient_30 : decode c9_P_productCoefficient 30 = .ok (.iadd, 1) := by decide +kernel
theorem d_P_productCoefficient_31 : decode c9_P_productCoefficient 31 = .ok (.iload 6, 2) := by decide +kernel
theorem d_P_productCoefficient_33 : decode c9_P_productCoefficient 33 = .ok (.isub, 1) := by decide +kernel
theorem d_P_productCoefficient_34 : decode c9_P_productCoefficient 34 = .ok (.iaload, 1) := by decide +kernel
theorem d_P_productCoefficient_35 : decode c9_P_productCoefficient 35 = .ok (.i2l, 1) := by decide +kernel
theorem d_P_productCoefficient_36 : decode c9_P_productCoefficient 36 = .ok (.lmul, 1) := by decide +kernel
theorem d_P_productCoefficient_37 : decode c9_P_productCoefficient 37 = .ok (.ladd, 1) := by decide +kernel
theorem d_P_productCoefficient_38 : decode c9_P_productCoefficient 38 = .ok (.lstore 4, 2) := by decide +kernel
theorem d_P_productCoefficient_40 : decode c9_P_productCoefficient 40 = .ok (.iinc 6 1, 3) := by decide +kernel
theorem d_P_productCoefficient_43 : decode c9_P_productCoefficient 43 = .ok (.goto (-37), 3) := by decide +kernel
theorem d_P_productCoefficient_46 : decode c9_P_productCoefficient 46 = .ok (.iload_n 3, 1) := by decide +kernel
theorem d_P_productCoefficient_47 : decode c9_P_productCoefficient 47 = .ok (.iconst 1, 1) := by decide +kernel
theorem d_P_productCoefficient_48 : decode c9_P_productCoefficient 48 = .ok (.iadd, 1) := by decide +kernel
theorem d_P_productCoefficient_49 : decode c9_P_productCoefficient 49 = .ok (.istore 6, 2) := by decide +kernel
theorem d_P_productCoefficient_51 : decode c9_P_productCoefficient 51 = .ok (.iload 6, 2) := by decide +kernel
theorem d_P_productCoefficient_53 : decode c9_P_productCoefficient 53 = .ok (.bipush 8, 2) := by decide +kernel
theorem d_P_productCoefficient_55 : decode c9_P_productCoefficient 55 = .ok (.if_icmp .ge 40, 3) := by decide +kernel
theorem d_P_productCoefficient_58 : decode c9_P_productCoefficient 58 = .ok (.lload 4, 2) := by decide +kernel
theorem d_P_productCoefficient_60 : decode c9_P_productCoefficient 60 = .ok (.aload_n 0, 1) := by decide +kernel
theorem d_P_productCoefficient_61 : decode c9_P_productCoefficient 61 = .ok (.getfield 15, 3) := by decide +kernel
theorem d_P_productCoefficient_64 : decode c9_P_productCoefficient 64 = .ok (.iload_n 2, 1) := by decide +kernel
theorem d_P_productCoefficient_65 : decode c9_P_productCoefficient 65 = .ok (.iload 6, 2) := by decide +kernel
theorem d_P_productCoefficient_67 : decode c9_P_productCoefficient 67 = .ok (.iadd, 1) := by decide +kernel
theorem d_P_productCoefficient_68 : decode c9_P_productCoefficient 68 = .ok (.iaload, 1) := by decide +kernel
theorem d_P_productCoefficient_69 : decode c9_P_productCoefficient 69 = .ok (.i2l, 1) := by decide +kernel
theorem d_P_productCoefficient_70 : decode c9_P_productCoefficient 70 = .ok (.aload_n 1, 1) := by decide +kernel
theorem d_P_productCoefficient_71 : decode c9_P_productCoefficient 71 = .ok (.getfield 15, 3) := by decide +kernel
theorem d_P_productCoefficient_74 : decode c9_P_productCoefficient 74 = .ok (.iload_n 2, 1) := by decide +kernel
theorem d_P_productCoefficient_75 : decode c9_P_productCoefficient 75 = .ok (.bipush 8, 2) := by decide +kernel
theorem d_P_productCoefficient_77 : decode c9_P_productCoefficient 77 = .ok (.iadd, 1) := by decide +kernel
theorem d_P_productCoefficient_78 : decode c9_P_productCoefficient 78 = .ok (.iload_n 3, 1) := by decide +kernel
theorem d_P_productCoefficient_79 : decode c9_P_productCoefficient 79 = .ok (.iadd, 1) := by decide +kernel
theorem d_P_productCoefficient_80 : decode c9_P_productCoefficient 80 = .ok (.iload 6, 2) := by decide +kernel
theorem d_P_productCoefficient_82 : decode c9_P_productCoefficient 82 = .ok (.isub, 1) := by decide +kernel
theorem d_P_productCoefficient_83 : decode c9_P_productCoefficient 83 = .ok (.iaload, 1) := by decide +kernel
theorem d_P_productCoefficient_84 : decode c9_P_productCoefficient 84 = .ok (.i2l, 1) := by decide +kernel
theorem d_P_productCoefficient_85 : decode c9_P_productCoefficient 85 = .ok (.lmul, 1) := by decide +kernel
theorem d_P_productCoefficient_86 : decode c9_P_productCoefficient 86 = .ok (.lsub, 1) := by decide +kernel
theorem d_P_productCoefficient_87 : decode c9_P_productCoefficient 87 = .ok (.lstore 4, 2) := by decide +kernel
theorem d_P_productCoefficient_89 : decode c9_P_productCoefficient 89 = .ok (.iinc 6 1, 3) := by decide +kernel
theorem d_P_productCoefficient_92 : decode c9_P_productCoefficient 92 = .ok (.goto (-41), 3) := by decide +kernel
theorem d_P_productCoefficient_95 : decode c9_P_productCoefficient 95 = .ok (.lload 4, 2) := by decide +kernel
theorem d_P_productCoefficient_97 : decode c9_P_productCoefficient 97 = .ok (.lreturn, 1) := by decide +kernel
theorem d_K_drawHiddenZero_0 : decode c9_K_drawHiddenZero 0 = .ok (.aload_n 3, 1) := by decide +kernel
theorem d_K_drawHiddenZero_1 : decode c9_K_drawHiddenZero 1 = .ok (.aload_n 1, 1) := by decide +kernel
theorem d_K_drawHiddenZero_2 : decode c9_K_drawHiddenZero 2 = .ok (.invokevirtual 43, 3) := by decide +kernel
theorem d_K_drawHiddenZero_5 : decode c9_K_drawHiddenZero 5 = .ok (.aload_n 2, 1) := by decide +kernel
theorem d_K_drawHiddenZero_6 : decode c9_K_drawHiddenZero 6 = .ok (.aload_n 1, 1) := by decide +kernel
theorem d_K_drawHiddenZero_7 : decode c9_K_drawHiddenZero 7 = .ok (.bipush 17, 2) := by decide +kernel
theorem d_K_drawHiddenZero_9 : decode c9_K_drawHiddenZero 9 = .ok (.invokevirtual 27, 3) := by decide +kernel
theorem d_K_drawHiddenZero_12 : decode c9_K_drawHiddenZero 12 = .ok (.aload_n 2, 1) := by decide +kernel
theorem d_K_drawHiddenZero_13 : decode c9_K_drawHiddenZero 13 = .ok (.iconst (-1), 1) := by decide +kernel
theorem d_K_drawHiddenZero_14 : decode c9_K_drawHiddenZero 14 = .ok (.aload_n 3, 1) := by decide +kernel
theorem d_K_drawHiddenZero_15 : decode c9_K_drawHiddenZero 15 = .ok (.aload_n 0, 1) := by decide +kernel
theorem d_K_drawHiddenZero_16 : decode c9_K_drawHiddenZero 16 = .ok (.getfield 14, 3) := by decide +kernel
theorem d_K_drawHiddenZero_19 : decode c9_K_drawHiddenZero 19 = .ok (.iconst 3, 1) := by decide +kernel
theorem d_K_drawHiddenZero_20 : decode c9_K_drawHiddenZero 20 = .ok (.invokevirtual 31, 3) := by decide +kernel
theorem d_K_drawHiddenZero_23 : decode c9_K_drawHiddenZero 23 = .ok (.return_, 1) := by decide +kernel
theorem d_P_drawUniform_0 : decode c9_P_drawUniform 0 = .ok (.iconst 0, 1) := by decide +kernel
theorem d_P_drawUniform_1 : decode c9_P_drawUniform 1 = .ok (.istore_n 2, 1) := by decide +kernel
theorem d_P_drawUniform_2 : decode c9_P_drawUniform 2 = .ok (.iload_n 2, 1) := by decide +kernel
theorem d_P_drawUniform_3 : decode c9_P_drawUniform 3 = .ok (.bipush 8, 2) := by decide +kernel
theorem d_P_drawUniform_5 : decode c9_P_drawUniform 5 = .ok (.if_icmp .ge 43, 3) := by decide +kernel
theorem d_P_drawUniform_8 : decode c9_P_drawUniform 8 = .ok (.iconst 0, 1) := by decide +kernel
theorem d_P_drawUniform_9 : decode c9_P_drawUniform 9 = .ok (.istore_n 3, 1) := by decide +kernel
theorem d_P_drawUniform_10 : decode c9_P_drawUniform 10 = .ok (.iload_n 3, 1) := by decide +kernel
theorem d_P_drawUniform_11 : decode c9_P_drawUniform 11 = .ok (.iconst 4, 1) := by decide +kernel
theorem d_P_drawUniform_12 : decode c9_P_drawUniform 12 = .ok (.if_icmp .ge 30, 3) := by decide +kernel
theorem d_P_drawUniform_15 : decode c9_P_drawUniform 15 = .ok (.aload_n 0, 1) := by decide +kernel
theorem d_P_drawUniform_16 : decode c9_P_drawUniform 16 = .ok (.getfield 15, 3) := by decide +kernel
theorem d_P_drawUniform_19 : decode c9_P_drawUniform 19 = .ok (.iload_n 3, 1) := by decide +kernel
theorem d_P_drawUniform_20 : decode c9_P_drawUniform 20 = .ok (.bipush 8, 2) := by decide +kernel
theorem d_P_drawUniform_22 : decode c9_P_drawUniform 22 = .ok (.imul, 1) := by decide +kernel
theorem d_P_drawUniform_23 : decode c9_P_drawUniform 23 = .ok (.iload_n 2, 1) := by decide +kernel
theorem d_P_drawUniform_24 : decode c9_P_drawUniform 24 = .ok (.iadd, 1) := by decide +kernel
theorem d_P_drawUniform_25 : decode c9_P_drawUniform 25 = .ok (.aload_n 1, 1) := by decide +kernel
theorem d_P_drawUniform_26 : decode c9_P_drawUniform 26 = .ok (.invokevirtual 34, 3) := by decide +kernel
theorem d_P_drawUniform_29 : decode c9_P_drawUniform 29 = .ok (.getstatic 19, 3) := by decide +kernel
theorem d_P_drawUniform_32 : decode c9_P_drawUniform 32 = .ok (.iload_n 3, 1) := by decide +kernel
theorem d_P_drawUniform_33 : decode c9_P_drawUniform 33 = .ok (.iaload, 1) := by decide +kernel
theorem d_P_drawUniform_34 : decode c9_P_drawUniform 34 = .ok (.irem, 1) := by decide +kernel
theorem d_P_drawUniform_35 : decode c9_P_drawUniform 35 = .ok (.iastore, 1) := by decide +kernel
theorem d_P_drawUniform_36 : decode c9_P_drawUniform 36 = .ok (.iinc 3 1, 3) := by decide +kernel
theorem d_P_drawUniform_39 : decode c9_P_drawUniform 39 = .ok (.goto (-29), 3) := by decide +kernel
theorem d_P_drawUniform_42 : decode c9_P_drawUniform 42 = .ok (.iinc 2 1, 3) := by decide +kernel
theorem d_P_drawUniform_45 : decode c9_P_drawUniform 45 = .ok (.goto (-43), 3) := by decide +kernel
theorem d_P_drawUniform_48 : decode c9_P_drawUniform 48 = .ok (.return_, 1) := by decide +kernel
theorem d_P_addRow_0 : decode c9_P_addRow 0 = .ok (.iload_n 2, 1) := by decide +kernel
theorem d_P_addRow_1 : decode c9_P_addRow 1 = .ok (.bipush 8, 2) := by decide +kernel
theorem d_P_addRow_3 : decode c9_P_addRow 3 = .ok (.imul, 1) := by decide +kernel
theorem d_P_addRow_4 : decode c9_P_addRow 4 = .ok (.istore_n 3, 1) := by decide +kernel
theorem d_P_addRow_5 : decode c9_P_addRow 5 = .ok (.iload_n 3, 1) := by decide +kernel
theorem d_P_addRow_6 : decode c9_P_addRow 6 = .ok (.iload_n 2, 1) := by decide +kernel
theorem d_P_addRow_7 : decode c9_P_addRow 7 = .ok (.iconst 1, 1) := by decide +kernel
theorem d_P_addRow_8 : decode c9_P_addRow 8 = .ok (.iadd, 1) := by decide +kernel
theorem d_P_addRow_9 : decode c9_P_addRow 9 = .ok (.bipush 8, 2) := by decide +kernel
theorem d_P_addRow_11 : decode c9_P_addRow 11 = .ok (.imul, 1) := by decide +kernel
theorem d_P_addRow_12 : decode c9_P_addRow 12 = .ok (.if_icmp .ge 37, 3) := by decide +kernel
theorem d_P_addRow_15 : decode c9_P_addRow 15 = .ok (.aload_n 0, 1) := by decide +kernel
theorem d_P_addRow_16 : decode c9_P_addRow 16 = .ok (.getfield 15, 3) := by decide +kernel
theorem d_P_addRow_19 : decode c9_P_addRow 19 = .ok (.iload_n 3, 1) := by decide +kernel
theorem d_P_addRow_20 : decode c9_P_addRow 20 = .ok (.aload_n 0, 1) := by decide +kernel
theorem d_P_addRow_21 : decode c9_P_addRow 21 = .ok (.getfield 15, 3) := by decide +kernel
theorem d_P_addRow_24 : decode c9_P_addRow 24 = .ok (.iload_n 3, 1) := by decide +kernel
theorem d_P_addRow_25 : decode c9_P_addRow 25 = .ok (.iaload, 1) := by decide +kernel
theorem d_P_addRow_26 : decode c9_P_addRow 26 = .ok (.aload_n 1, 1) := by decide +kernel
theorem d_P_addRow_27 : decode c9_P_addRow 27 = .ok (.getfield 15, 3) := by decide +kernel
theorem d_P_addRow_30 : decode c9_P_addRow 30 = .ok (.iload_n 3, 1) := by decide +kernel
theorem d_P_addRow_31 : decode c9_P_addRow 31 = .ok (.iaload, 1) := by decide +kernel
theorem d_P_addRow_32 : decode c9_P_addRow 32 = .ok (.iadd, 1) := by decide +kernel
theorem d_P_addRow_33 : decode c9_P_addRow 33 = .ok (.i2l, 1) := by decide +kernel
theorem d_P_addRow_34 : decode c9_P_addRow 34 = .ok (.aload_n 0, 1) := by decide +kernel
theorem d_P_addRow_35 : decode c9_P_addRow 35 = .ok (.iload_n 2, 1) := by decide +kernel
theorem d_P_addRow_36 : decode c9_P_addRow 36 = .ok (.invokevirtual 44, 3) := by decide +kernel
theorem d_P_addRow_39 : decode c9_P_addRow 39 = .ok (.invokestatic 40, 3) := by decide +kernel
theorem d_P_addRow_42 : decode c9_P_addRow 42 = .ok (.iastore, 1) := by decide +kernel
theorem d_P_addRow_43 : decode c9_P_addRow 43 = .ok (.iinc 3 1, 3) := by decide +kernel
theorem d_P_addRow_46 : decode c9_P_addRow 46 = .ok (.goto (-41), 3) := by decide +kernel
theorem d_P_addRow_49 : decode c9_P_addRow 49 = .ok (.return_, 1) := by decide +kernel
theorem d_G_init_0 : decode c9_G_init 0 = .ok (.aload_n 0, 1) := by decide +kernel
theorem d_G_init_1 : decode c9_G_init 1 = .ok (.invokespecial 3, 3) := by decide +kernel
theorem d_G_init_4 : decode c9_G_init 4 = .ok (.aload_n 0, 1) := by decide +kernel
theorem d_G_init_5 : decode c9_G_init 5 = .ok (.getstatic 9, 3) := by decide +kernel
theorem d_G_init_8 : decode c9_G_init 8 = .ok (.putfield 15, 3) := by decide +kernel
theorem d_G_init_11 : decode c9_G_init 11 = .ok (.aload_n 0, 1) := by decide +kernel
theorem d_G_init_12 : decode c9_G_init 12 = .ok (.iconst (-1), 1) := by decide +kernel
theorem d_G_init_13 : decode c9_G_init 13 = .ok (.putfield 20, 3) := by decide +kernel
theorem d_G_init_16 : decode c9_G_init 16 = .ok (.aload_n 0, 1) := by decide +kernel
theorem d_G_init_17 : decode c9_G_init 17 = .ok (.iconst (-1), 1) := by decide +kernel
theorem d_G_init_18 : decode c9_G_init 18 = .ok (.putfield 24, 3) := by decide +kernel
theorem d_G_init_21 : decode c9_G_init 21 = .ok (.aload_n 0, 1) := by decide +kernel
theorem d_G_init_22 : decode c9_G_init 22 = .ok (.iconst 0, 1) := by decide +kernel
theorem d_G_init_23 : decode c9_G_init 23 = .ok (.putfield 27, 3) := by decide +kernel
theorem d_G_init_26 : decode c9_G_init 26 = .ok (.aload_n 0, 1) := by decide +kernel
theorem d_G_init_27 : decode c9_G_init 27 = .ok (.new 30, 3) := by decide +kernel
theorem d_G_init_30 : decode c9_G_init 30 = .ok (.dup, 1) := by decide +kernel
theorem d_G_init_31 : decode c9_G_init 31 = .ok (.iconst 1, 1) := by decide +kernel
theorem d_G_init_32 : decode c9_G_init 32 = .ok (.invokespecial 32, 3) := by decide +kernel
theorem d_G_init_35 : decode c9_G_init 35 = .ok (.putfield 35, 3) := by decide +kernel
theorem d_G_init_38 : decode c9_G_init 38 = .ok (.aload_n 0, 1) := by decide +kernel
theorem d_G_init_39 : decode c9_G_init 39 = .ok (.new 39, 3) := by decide +kernel
theorem d_G_init_42 : decode c9_G_init 42 = .ok (.dup, 1) := by decide +kernel
theorem d_G_init_43 : decode c9_G_init 43 = .ok (.invokespecial 41, 3) := by decide +kernel
theorem d_G_init_46 : decode c9_G_init 46 = .ok (.putfield 42, 3) := by decide +kernel
theorem d_G_init_49 : decode c9_G_init 49 = .ok (.return_, 1) := by decide +kernel
theorem d_G_become_0 : decode c9_G_become 0 = .ok (.aload_n 0, 1) := by decide +kernel
theorem d_G_become_1 : decode c9_G_become 1 = .ok (.aload_n 1, 1) := by decide +kernel
theorem d_G_become_2 : decode c9_G_become 2 = .ok (.putfield 15, 3) := by decide +kernel
theorem d_G_become_5 : decode c9_G_become 5 = .ok (.aload_n 0, 1) := by decide +kernel
theorem d_G_become_6 : decode c9_G_become 6 = .ok (.iload_n 2, 1) := by decide +kernel
theorem d_G_become_7 : decode c9_G_become 7 = .ok (.putfield 20, 3) := by decide +kernel
theorem d_G_become_10 : decode c9_G_become 10 = .ok (.aload_n 0, 1) := by decide +kernel
theorem d_G_become_11 : decode c9_G_become 11 = .ok (.iload_n 3, 1) := by decide +kernel
theorem d_G_become_12 : decode c9_G_become 12 = .ok (.putfield 24, 3) := by decide +kernel
theorem d_G_become_15 : decode c9_G_become 15 = .ok (.aload_n 0, 1) := by decide +kernel
theorem d_G_become_16 : decode c9_G_become 16 = .ok (.iload 4, 2) := by decide +kernel
theorem d_G_become_18 : decode c9_G_become 18 = .ok (.putfield 27, 3) := by decide +kernel
theorem d_G_become_21 : decode c9_G_become 21 = .ok (.return_, 1) := by decide +kernel
theorem d_P_copyFrom_0 : decode c9_P_copyFrom 0 = .ok (.aload_n 1, 1) := by decide +kernel
theorem d_P_copyFrom_1 : decode c9_P_copyFrom 1 = .ok (.getfield 15, 3) := by decide +kernel
theorem d_P_copyFrom_4 : decode c9_P_copyFrom 4 = .ok (.iconst 0, 1) := by decide +kernel
theorem d_P_copyFrom_5 : decode c9_P_copyFrom 5 = .ok (.aload_n 0, 1) := by decide +kernel
theorem d_P_copyFrom_6 : decode c9_P_copyFrom 6 = .ok (.getfield 15, 3) := by decide +kernel
theorem d_P_copyFrom_9 : decode c9_P_copyFrom 9 = .ok (.iconst 0, 1) := by decide +kernel
theorem d_P_copyFrom_10 : decode c9_P_copyFrom 10 = .ok (.aload_n 0, 1) := by decide +kernel
theorem d_P_copyFrom_11 : decode c9_P_copyFrom 11 = .ok (.getfield 15, 3) := by decide +kernel
theorem d_P_copyFrom_14 : decode c9_P_copyFrom 14 = .ok (.arraylength, 1) := by decide +kernel
theorem d_P_copyFrom_15 : decode c9_P_copyFrom 15 = .ok (.aload_n 1, 1) := by decide +kernel
theorem d_P_copyFrom_16 : decode c9_P_copyFrom 16 = .ok (.getfield 15, 3) := by decide +kernel
theorem d_P_copyFrom_19 : decode c9_P_copyFrom 19 = .ok (.arraylength, 1) := by decide +kernel
theorem d_P_copyFrom_20 : decode c9_P_copyFrom 20 = .ok (.invokestatic 22, 3) := by decide +kernel
theorem d_P_copyFrom_23 : decode c9_P_copyFrom 23 = .ok (.invokestatic 28, 3) := by decide +kernel
theorem d_P_copyFrom_26 : decode c9_P_copyFrom 26 = .ok (.return_, 1) := by decide +kernel
theorem d_P_setSum_0 : decode c9_P_setSum 0 = .ok (.iconst 0, 1) := by decide +kernel
theorem d_P_setSum_1 : decode c9_P_setSum 1 = .ok (.istore 5, 2) := by decide +kernel
theorem d_P_setSum_3 : decode c9_P_setSum 3 = .ok (.iload 5, 2) := by decide +kernel
theorem d_P_setSum_5 : decode c9_P_setSum 5 = .ok (.iload 4, 2) := by decide +kernel
theorem d_P_setSum_7 : decode c9_P_setSum 7 = .ok (.if_icmp .gt 72, 3) := by decide +kernel
theorem d_P_setSum_10 : decode c9_P_setSum 10 = .ok (.aload_n 0, 1) := by decide +kernel
theorem d_P_setSum_11 : decode c9_P_setSum 11 = .ok (.iload 5, 2) := by decide +kernel
theorem d_P_setSum_13 : decode c9_P_setSum 13 = .ok (.invokevirtual 44, 3) := by decide +kernel
theorem d_P_setSum_16 : decode c9_P_setSum 16 = .ok (.istore 6, 2) := by decide +kernel
theorem d_P_setSum_18 : decode c9_P_setSum 18 = .ok (.iload 5, 2) := by decide +kernel
theorem d_P_setSum_20 : decode c9_P_setSum 20 = .ok (.bipush 8, 2) := by decide +kernel
theorem d_P_setSum_22 : decode c9_P_setSum 22 = .ok (.imul, 1) := by decide +kernel
theorem d_P_setSum_23 : decode c9_P_setSum 23 = .ok (.istore 7, 2) := by decide +kernel
theorem d_P_setSum_25 : decode c9_P_setSum 25 = .ok (.iload 7, 2) := by decide +kernel
theorem d_P_setSum_27 : decode c9_P_setSum 27 = .ok (.iload 5, 2) := by decide +kernel
theorem d_P_setSum_29 : decode c9_P_setSum 29 = .ok (.iconst 1, 1) := by decide +kernel
theorem d_P_setSum_30 : decode c9_P_setSum 30 = .ok (.iadd, 1) := by decide +kernel
theorem d_P_setSum_31 : decode c9_P_setSum 31 = .ok (.bipush 8, 2) := by decide +kernel
theorem d_P_setSum_33 : decode c9_P_setSum 33 = .ok (.imul, 1) := by decide +kernel
theorem d_P_setSum_34 : decode c9_P_setSum 34 = .ok (.if_icmp .ge 39, 3) := by decide +kernel
theorem d_P_setSum_37 : decode c9_P_setSum 37 = .ok (.aload_n 0, 1) := by decide +kernel
theorem d_P_setSum_38 : decode c9_P_setSum 38 = .ok (.getfield 15, 3) := by decide +kernel
theorem d_P_setSum_41 : decode c9_P_setSum 41 = .ok (.iload 7, 2) := by decide +kernel
theorem d_P_setSum_43 : decode c9_P_setSum 43 = .ok (.aload_n 1, 1) := by decide +kernel
theorem d_P_setSum_44 : decode c9_P_setSum 44 = .ok (.getfield 15, 3) := by decide +kernel
theorem d_P_setSum_47 : decode c9_P_setSum 47 = .ok (.iload 7, 2) := by decide +kernel
theorem d_P_setSum_49 : decode c9_P_setSum 49 = .ok (.iaload, 1) := by decide +kernel
theorem d_P_setSum_50 : decode c9_P_setSum 50 = .ok (.iload_n 2, 1) := by decide +kernel
theorem d_P_setSum_51 : decode c9_P_setSum 51 = .ok (.aload_n 3, 1) := by decide +kernel
theorem d_P_setSum_52 : decode c9_P_setSum 52 = .ok (.getfield 15, 3) := by decide +kernel
theorem d_P_setSum_55 : decode c9_P_setSum 55 = .ok (.iload 7, 2) := by decide +kernel
theorem d_P_setSum_57 : decode c9_P_setSum 57 = .ok (.iaload, 1) := by decide +kernel
theorem d_P_setSum_58 : decode c9_P_setSum 58 = .ok (.imul, 1) := by decide +kernel
theorem d_P_setSum_59 : decode c9_P_setSum 59 = .ok (.iadd, 1) := by decide +kernel
theorem d_P_setSum_60 : decode c9_P_setSum 60 = .ok (.i2l, 1) := by decide +kernel
theorem d_P_setSum_61 : decode c9_P_setSum 61 = .ok (.iload 6, 2) := by decide +kernel
theorem d_P_setSum_63 : decode c9_P_setSum 63 = .ok (.invokestatic 40, 3) := by decide +kernel
theorem d_P_setSum_66 : decode c9_P_setSum 66 = .ok (.iastore, 1) := by decide +kernel
theorem d_P_setSum_67 : decode c9_P_setSum 67 = .ok (.iinc 7 1, 3) := by decide +kernel
theorem d_P_setSum_70 : decode c9_P_setSum 70 = .ok (.goto (-45), 3) := by decide +kernel
theorem d_P_setSum_73 : decode c9_P_setSum 73 = .ok (.iinc 5 1, 3) := by decide +kernel
theorem d_P_setSum_76 : decode c9_P_setSum 76 = .ok (.goto (-73), 3) := by decide +kernel
theorem d_P_setSum_79 : decode c9_P_setSum 79 = .ok (.return_, 1) := by decide +kernel
theorem d_P_setZero_0 : decode c9_P_setZero 0 = .ok (.iconst 0, 1) := by decide +kernel
theorem d_P_setZero_1 : decode c9_P_setZero 1 = .ok (.istore_n 1, 1) := by decide +kernel
theorem d_P_setZero_2 : decode c9_P_setZero 2 = .ok (.iload_n 1, 1) := by decide +kernel
theorem d_P_setZero_3 : decode c9_P_setZero 3 = .ok (.aload_n 0, 1) := by decide +kernel
theorem d_P_setZero_4 : decode c9_P_setZero 4 = .ok (.getfield 15, 3) := by decide +kernel
theorem d_P_setZero_7 : decode c9_P_setZero 7 = .ok (.arraylength, 1) := by decide +kernel
theorem d_P_setZero_8 : decode c9_P_setZero 8 = .ok (.if_icmp .ge 16, 3) := by decide +kernel
theorem d_P_setZero_11 : decode c9_P_setZero 11 = .ok (.aload_n 0, 1) := by decide +kernel
theorem d_P_setZero_12 : decode c9_P_setZero 12 = .ok (.getfield 15, 3) := by decide +kernel
theorem d_P_setZero_15 : decode c9_P_setZero 15 = .ok (.iload_n 1, 1) := by decide +kernel
theorem d_P_setZero_16 : decode c9_P_setZero 16 = .ok (.iconst 0, 1) := by decide +kernel
theorem d_P_setZero_17 : decode c9_P_setZero 17 = .ok (.iastore, 1) := by decide +kernel
theorem d_P_setZero_18 : decode c9_P_setZero 18 = .ok (.iinc 1 1, 3) := by decide +kernel
theorem d_P_setZero_21 : decode c9_P_setZero 21 = .ok (.goto (-19), 3) := by decide +kernel
theorem d_P_setZero_24 : decode c9_P_setZero 24 = .ok (.return_, 1) := by decide +kernel
theorem d_P_setTurned_0 : decode c9_P_setTurned 0 = .ok (.iconst 0, 1) := by decide +kernel
theorem d_P_setTurned_1 : decode c9_P_setTurned 1 = .ok (.istore 4, 2) := by decide +kernel
theorem d_P_setTurned_3 : decode c9_P_setTurned 3 = .ok (.iload 4, 2) := by decide +kernel
theorem d_P_setTurned_5 : decode c9_P_setTurned 5 = .ok (.iload_n 3, 1) := by decide +kernel
theorem d_P_setTurned_6 : decode c9_P_setTurned 6 = .ok (.if_icmp .gt 94, 3) := by decide +kernel
theorem d_P_setTurned_9 : decode c9_P_setTurned 9 = .ok (.aload_n 0, 1) := by decide +kernel
theorem d_P_setTurned_10 : decode c9_P_setTurned 10 = .ok (.iload 4, 2) := by decide +kernel
theorem d_P_setTurned_12 : decode c9_P_setTurned 12 = .ok (.invokevirtual 44, 3) := by decide +kernel
theorem d_P_setTurned_15 : decode c9_P_setTurned 15 = .ok (.istore 5, 2) := by decide +kernel
theorem d_P_setTurned_17 : decode c9_P_setTurned 17 = .ok (.iconst 0, 1) := by decide +kernel
theorem d_P_setTurned_18 : decode c9_P_setTurned 18 = .ok (.istore 6, 2) := by decide +kernel
theorem d_P_setTurned_20 : decode c9_P_setTurned 20 = .ok (.iload 6, 2) := by decide +kernel
theorem d_P_setTurned_22 : decode c9_P_setTurned 22 = .ok (.bipush 8, 2) := by decide +kernel
theorem d_P_setTurned_24 : decode c9_P_setTurned 24 = .ok (.if_icmp .ge 70, 3) := by decide +kernel
theorem d_P_setTurned_27 : decode c9_P_setTurned 27 = .ok (.iload 6, 2) := by decide +kernel
theorem d_P_setTurned_29 : decode c9_P_setTurned 29 = .ok (.iload_n 2, 1) := by decide +kernel
theorem d_P_setTurned_30 : decode c9_P_setTurned 30 = .ok (.iadd, 1) := by decide +kernel
theorem d_P_setTurned_31 : decode c9_P_setTurned 31 = .ok (.bipush 16, 2) := by decide +kernel
theorem d_P_setTurned_33 : decode c9_P_setTurned 33 = .ok (.irem, 1) := by decide +kernel
theorem d_P_setTurned_34 : decode c9_P_setTurned 34 = .ok (.istore 7, 2) := by decide +kernel
theorem d_P_setTurned_36 : decode c9_P_setTurned 36 = .ok (.aload_n 1, 1) := by decide +kernel
theorem d_P_setTurned_37 : decode c9_P_setTurned 37 = .ok (.getfield 15, 3) := by decide +kernel
theorem d_P_setTurned_40 : decode c9_P_setTurned 40 = .ok (.iload 4, 2) := by decide +kernel
theorem d_P_setTurned_42 : decode c9_P_setTurned 42 = .ok (.bipush 8, 2) := by decide +kernel
theorem d_P_setTurned_44 : decode c9_P_setTurned 44 = .ok (.imul, 1) := by decide +kernel
theorem d_P_setTurned_45 : decode c9_P_setTurned 45 = .ok (.iload 6, 2) := by decide +kernel
theorem d_P_setTurned_47 : decode c9_P_setTurned 47 = .ok (.iadd, 1) := by decide +kernel
theorem d_P_setTurned_48 : decode c9_P_setTurned 48 = .ok (.iaload, 1) := by decide +kernel
theorem d_P_setTurned_49 : decode c9_P_setTurned 49 = .ok (.istore 8, 2) := by decide +kernel
theorem d_P_setTurned_51 : decode c9_P_setTurned 51 = .ok (.aload_n 0, 1) := by decide +kernel
theorem d_P_setTurned_52 : decode c9_P_setTurned 52 = .ok (.getfield 15, 3) := by decide +kernel
theorem d_P_setTurned_55 : decode c9_P_setTurned 55 = .ok (.iload 4, 2) := by decide +kernel
theorem d_P_setTurned_57 : decode c9_P_setTurned 57 = .ok (.bipush 8, 2) := by decide +kernel
theorem d_P_setTurned_59 : decode c9_P_setTurned 59 = .ok (.imul, 1) := by decide +kernel
theorem d_P_setTurned_60 : decode c9_P_setTurned 60 = .ok (.iload 7, 2) := by decide +kernel
theorem d_P_setTurned_62 : decode c9_P_setTurned 62 = .ok (.bipush 8, 2) := by decide +kernel
theorem d_P_setTurned_64 : decode c9_P_setTurned 64 = .ok (.irem, 1) := by decide +kernel
theorem d_P_setTurned_65 : decode c9_P_setTurned 65 = .ok (.iadd, 1) := by decide +kernel
theorem d_P_setTurned_66 : decode c9_P_setTurned 66 = .ok (.iload 7, 2) := by decide +kernel
theorem d_P_setTurned_68 : decode c9_P_setTurned 68 = .ok (.bipush 8, 2) := by decide +kernel
theorem d_P_setTurned_70 : decode c9_P_setTurned 70 = .ok (.if_icmp .ge 8, 3) := by decide +kernel
theorem d_P_setTurned_73 : decode c9_P_setTurned 73 = .ok (.iload 8, 2) := by decide +kernel
theorem d_P_setTurned_75 : decode c9_P_setTurned 75 = .ok (.goto 12, 3) := by decide +kernel
theorem d_P_setTurned_78 : decode c9_P_setTurned 78 = .ok (.iload 8, 2) := by decide +kernel
theorem d_P_setTurned_80 : decode c9_P_setTurned 80 = .ok (.ineg, 1) := by decide +kernel
theorem d_P_setTurned_81 : decode c9_P_setTurned 81 = .ok (.i2l, 1) := by decide +kernel
theorem d_P_setTurned_82 : decode c9_P_setTurned 82 = .ok (.iload 5, 2) := by decide +kernel
theorem d_P_setTurned_84 : decode c9_P_setTurned 84 = .ok (.invokestatic 40, 3) := by decide +kernel
theorem d_P_setTurned_87 : decode c9_P_setTurned 87 = .ok (.iastore, 1) := by decide +kernel
theorem d_P_setTurned_88 : decode c9_P_setTurned 88 = .ok (.iinc 6 1, 3) := by decide +kernel
theorem d_P_setTurned_91 : decode c9_P_setTurned 91 = .ok (.goto (-71), 3) := by decide +kernel
theorem d_P_setTurned_94 : decode c9_P_setTurned 94 = .ok (.iinc 4 1, 3) := by decide +kernel
theorem d_P_setTurned_97 : decode c9_P_setTurned 97 = .ok (.goto (-94), 3) := by decide +kernel
theorem d_P_setTurned_100 : decode c9_P_setTurned 100 = .ok (.return_, 1) := by decide +kernel
theorem d_V_copyFrom_0 : decode c9_V_copyFrom 0 = .ok (.aload_n 0, 1) := by decide +kernel
theorem d_V_copyFrom_1 : decode c9_V_copyFrom 1 = .ok (.aload_n 1, 1) := by decide +kernel
theorem d_V_copyFrom_2 : decode c9_V_copyFrom 2 = .ok (.getfield 9, 3) := by decide +kernel
theorem d_V_copyFrom_5 : decode c9_V_copyFrom 5 = .ok (.putfield 9, 3) := by decide +kernel
theorem d_V_copyFrom_8 : decode c9_V_copyFrom 8 = .ok (.aload_n 0, 1) := by decide +kernel
theorem d_V_copyFrom_9 : decode c9_V_copyFrom 9 = .ok (.aload_n 1, 1) := by decide +kernel
theorem d_V_copyFrom_10 : decode c9_V_copyFrom 10 = .ok (.getfield 15, 3) := by decide +kernel
theorem d_V_copyFrom_13 : decode c9_V_copyFrom 13 = .ok (.putfield 15, 3) := by decide +kernel
theorem d_V_copyFrom_16 : decode c9_V_copyFrom 16 = .ok (.aload_n 0, 1) := by decide +kernel
theorem d_V_copyFrom_17 : decode c9_V_copyFrom 17 = .ok (.getfield 24, 3) := by decide +kernel
theorem d_V_copyFrom_20 : decode c9_V_copyFrom 20 = .ok (.aload_n 1, 1) := by decide +kernel
theorem d_V_copyFrom_21 : decode c9_V_copyFrom 21 = .ok (.getfield 24, 3) := by decide +kernel
theorem d_V_copyFrom_24 : decode c9_V_copyFrom 24 = .ok (.invokevirtual 31, 3) := by decide +kernel
theorem d_V_copyFrom_27 : decode c9_V_copyFrom 27 = .ok (.aload_n 0, 1) := by decide +kernel
theorem d_V_copyFrom_28 : decode c9_V_copyFrom 28 = .ok (.getfield 28, 3) := by decide +kernel
theorem d_V_copyFrom_31 : decode c9_V_copyFrom 31 = .ok (.aload_n 1, 1) := by decide +kernel
theorem d_V_copyFrom_32 : decode c9_V_copyFrom 32 = .ok (.getfield 28, 3) := by decide +kernel
theorem d_V_copyFrom_35 : decode c9_V_copyFrom 35 = .ok (.invokevirtual 31, 3) := by decide +kernel
theorem d_V_copyFrom_38 : decode c9_V_copyFrom 38 = .ok (.return_, 1) := by decide +kernel
theorem d_V_lowerTo_0 : decode c9_V_lowerTo 0 = .ok (.aload_n 0, 1) := by decide +kernel
theorem d_V_lowerTo_1 : decode c9_V_lowerTo 1 = .ok (.getfield 9, 3) := by decide +kernel
theorem d_V_lowerTo_4 : decode c9_V_lowerTo 4 = .ok (.istore_n 2, 1) := by decide +kernel
theorem d_V_lowerTo_5 : decode c9_V_lowerTo 5 = .ok (.iload_n 2, 1) := by decide +kernel
theorem d_V_lowerTo_6 : decode c9_V_lowerTo 6 = .ok (.iload_n 1, 1) := by decide +kernel
theorem d_V_lowerTo_7 : decode c9_V_lowerTo 7 = .ok (.if_icmp .le 18, 3) := by decide +kernel
theorem d_V_lowerTo_10 : decode c9_V_lowerTo 10 = .ok (.aload_n 0, 1) := by decide +kernel
theorem d_V_lowerTo_11 : decode c9_V_lowerTo 11 = .ok (.invokevirtual 55, 3) := by decide +kernel
theorem d_V_lowerTo_14 : decode c9_V_lowerTo 14 = .ok (.ifCond .ne 5, 3) := by decide +kernel
theorem d_V_lowerTo_17 : decode c9_V_lowerTo 17 = .ok (.iconst 0, 1) := by decide +kernel
theorem d_V_lowerTo_18 : decode c9_V_lowerTo 18 = .ok (.ireturn, 1) := by decide +kernel
theorem d_V_lowerTo_19 : decode c9_V_lowerTo 19 = .ok (.iinc 2 (-1), 3) := by decide +kernel
theorem d_V_lowerTo_22 : decode c9_V_lowerTo 22 = .ok (.goto (-17), 3) := by decide +kernel
theorem d_V_lowerTo_25 : decode c9_V_lowerTo 25 = .ok (.iconst 1, 1) := by decide +kernel
theorem d_V_lowerTo_26 : decode c9_V_lowerTo 26 = .ok (.ireturn, 1) := by decide +kernel
theorem d_V_lowerOnce_0 : decode c9_V_lowerOnce 0 = .ok (.aload_n 0, 1) := by decide +kernel
theorem d_V_lowerOnce_1 : decode c9_V_lowerOnce 1 = .ok (.getfield 9, 3) := by decide +kernel
theorem d_V_lowerOnce_4 : decode c9_V_lowerOnce 4 = .ok (.ifCond .gt 5, 3) := by decide +kernel
theorem d_V_lowerOnce_7 : decode c9_V_lowerOnce 7 = .ok (.iconst 0, 1) := by decide +kernel
theorem d_V_lowerOnce_8 : decode c9_V_lowerOnce 8 = .ok (.ireturn, 1) := by decide +kernel
theorem d_V_lowerOnce_9 : decode c9_V_lowerOnce 9 = .ok (.aload_n 0, 1) := by decide +kernel
theorem d_V_lowerOnce_10 : decode c9_V_lowerOnce 10 = .ok (.aload_n 0, 1) := by decide +kernel
theorem d_V_lowerOnce_11 : decode c9_V_lowerOnce 11 = .ok (.getfield 15, 3) := by decide +kernel
theorem d_V_lowerOnce_14 : decode c9_V_lowerOnce 14 = .ok (.getstatic 41, 3) := by decide +kernel
theorem d_V_lowerOnce_17 : decode c9_V_lowerOnce 17 = .ok (.aload_n 0, 1) := by decide +kernel
theorem d_V_lowerOnce_18 : decode c9_V_lowerOnce 18 = .ok (.getfield 9, 3) := by decide +kernel
theorem d_V_lowerOnce_21 : decode c9_V_lowerOnce 21 = .ok (.iaload, 1) := by decide +kernel
theorem d_V_lowerOnce_22 : decode c9_V_lowerOnce 22 = .ok (.i2l, 1) := by decide +kernel
theorem d_V_lowerOnce_23 : decode c9_V_lowerOnce 23 = .ok (.ldiv, 1) := by decide +kernel
theorem d_V_lowerOnce_24 : decode c9_V_lowerOnce 24 = .ok (.ldc2_w 45, 3) := by decide +kernel
theorem d_V_lowerOnce_27 : decode c9_V_lowerOnce 27 = .ok (.ladd, 1) := by decide +kernel
theorem d_V_lowerOnce_28 : decode c9_V_lowerOnce 28 = .ok (.putfield 15, 3) := by decide +kernel
theorem d_V_lowerOnce_31 : decode c9_V_lowerOnce 31 = .ok (.aload_n 0, 1) := by decide +kernel
theorem d_V_lowerOnce_32 : decode c9_V_lowerOnce 32 = .ok (.getfield 24, 3) := by decide +kernel
theorem d_V_lowerOnce_35 : decode c9_V_lowerOnce 35 = .ok (.aload_n 0, 1) := by decide +kernel
theorem d_V_lowerOnce_36 : decode c9_V_lowerOnce 36 = .ok (.getfield 9, 3) := by decide +kernel
theorem d_V_lowerOnce_39 : decode c9_V_lowerOnce 39 = .ok (.invokevirtual 47, 3) := by decide +kernel
theorem d_V_lowerOnce_42 : decode c9_V_lowerOnce 42 = .ok (.aload_n 0, 1) := by decide +kernel
theorem d_V_lowerOnce_43 : decode c9_V_lowerOnce 43 = .ok (.getfield 28, 3) := by decide +kernel
theorem d_V_lowerOnce_46 : decode c9_V_lowerOnce 46 = .ok (.aload_n 0, 1) := by decide +kernel
theorem d_V_lowerOnce_47 : decode c9_V_lowerOnce 47 = .ok (.getfield 9, 3) := by decide +kernel
theorem d_V_lowerOnce_50 : decode c9_V_lowerOnce 50 = .ok (.invokevirtual 47, 3) := by decide +kernel
theorem d_V_lowerOnce_53 : decode c9_V_lowerOnce 53 = .ok (.aload_n 0, 1) := by decide +kernel
theorem d_V_lowerOnce_54 : decode c9_V_lowerOnce 54 = .ok (.dup, 1) := by decide +kernel
theorem d_V_lowerOnce_55 : decode c9_V_lowerOnce 55 = .ok (.getfield 9, 3) := by decide +kernel
theorem d_V_lowerOnce_58 : decode c9_V_lowerOnce 58 = .ok (.iconst 1, 1) := by decide +kernel
theorem d_V_lowerOnce_59 : decode c9_V_lowerOnce 59 = .ok (.isub, 1) := by decide +kernel
theorem d_V_lowerOnce_60 : decode c9_V_lowerOnce 60 = .ok (.putfield 9, 3) := by decide +kernel
theorem d_V_lowerOnce_63 : decode c9_V_lowerOnce 63 = .ok (.aload_n 0, 1) := by decide +kernel
theorem d_V_lowerOnce_64 : decode c9_V_lowerOnce 64 = .ok (.invokevirtual 51, 3) := by decide +kernel
theorem d_V_lowerOnce_67 : decode c9_V_lowerOnce 67 = .ok (.ifCond .ne 7, 3) := by decide +kernel
theorem d_V_lowerOnce_70 : decode c9_V_lowerOnce 70 = .ok (.iconst 1, 1) := by decide +kernel
theorem d_V_lowerOnce_71 : decode c9_V_lowerOnce 71 = .ok (.goto 4, 3) := by decide +kernel
theorem d_V_lowerOnce_74 : decode c9_V_lowerOnce 74 = .ok (.iconst 0, 1) := by decide +kernel
theorem d_V_lowerOnce_75 : decode c9_V_lowerOnce 75 = .ok (.ireturn, 1) := by decide +kernel
theorem d_P_lowerFrom_0 : decode c9_P_lowerFrom 0 = .ok (.getstatic 19, 3) := by decide +kernel
theorem d_P_lowerFrom_3 : decode c9_P_lowerFrom 3 = .ok (.iload_n 1, 1) := by decide +kernel
theorem d_P_lowerFrom_4 : decode c9_P_lowerFrom 4 = .ok (.iaload, 1) := by decide +kernel
theorem d_P_lowerFrom_5 : decode c9_P_lowerFrom 5 = .ok (.istore_n 2, 1) := by decide +kernel
theorem d_P_lowerFrom_6 : decode c9_P_lowerFrom 6 = .ok (.iconst 0, 1) := by decide +kernel
theorem d_P_lowerFrom_7 : decode c9_P_lowerFrom 7 = .ok (.istore_n 3, 1) := by decide +kernel
theorem d_P_lowerFrom_8 : decode c9_P_lowerFrom 8 = .ok (.iload_n 3, 1) := by decide +kernel
theorem d_P_lowerFrom_9 : decode c9_P_lowerFrom 9 = .ok (.bipush 8, 2) := by decide +kernel
theorem d_P_lowerFrom_11 : decode c9_P_lowerFrom 11 = .ok (.if_icmp .ge 123, 3) := by decide +kernel
theorem d_P_lowerFrom_14 : decode c9_P_lowerFrom 14 = .ok (.aload_n 0, 1) := by decide +kernel
theorem d_P_lowerFrom_15 : decode c9_P_lowerFrom 15 = .ok (.getfield 15, 3) := by decide +kernel
theorem d_P_lowerFrom_18 : decode c9_P_lowerFrom 18 = .ok (.iload_n 1, 1) := by decide +kernel
theorem d_P_lowerFrom_19 : decode c9_P_lowerFrom 19 = .ok (.bipush 8, 2) := by decide +kernel
theorem d_P_lowerFrom_21 : decode c9_P_lowerFrom 21 = .ok (.imul, 1) := by decide +kernel
theorem d_P_lowerFrom_22 : decode c9_P_lowerFrom 22 = .ok (.iload_n 3, 1) := by decide +kernel
theorem d_P_lowerFrom_23 : decode c9_P_lowerFrom 23 = .ok (.iadd, 1) := by decide +kernel
theorem d_P_lowerFrom_24 : decode c9_P_lowerFrom 24 = .ok (.iaload, 1) := by decide +kernel
theorem d_P_lowerFrom_25 : decode c9_P_lowerFrom 25 = .ok (.i2l, 1) := by decide +kernel
theorem d_P_lowerFrom_26 : decode c9_P_lowerFrom 26 = .ok (.iload_n 2, 1) := by decide +kernel
theorem d_P_lowerFrom_27 : decode c9_P_lowerFrom 27 = .ok (.i2l, 1) := by decide +kernel
theorem d_P_lowerFrom_28 : decode c9_P_lowerFrom 28 = .ok (.invokestatic 52, 3) := by decide +kernel
theorem d_P_lowerFrom_31 : decode c9_P_lowerFrom 31 = .ok (.l2i, 1) := by decide +kernel
theorem d_P_lowerFrom_32 : decode c9_P_lowerFrom 32 = .ok (.istore 4, 2) := by decide +kernel
theorem d_P_lowerFrom_34 : decode c9_P_lowerFrom 34 = .ok (.iload 4, 2) := by decide +kernel
theorem d_P_lowerFrom_36 : decode c9_P_lowerFrom 36 = .ok (.ineg, 1) := by decide +kernel
theorem d_P_lowerFrom_37 : decode c9_P_lowerFrom 37 = .ok (.i2l, 1) := by decide +kernel
theorem d_P_lowerFrom_38 : decode c9_P_lowerFrom 38 = .ok (.bipush 17, 2) := by decide +kernel
theorem d_P_lowerFrom_40 : decode c9_P_lowerFrom 40 = .ok (.invokestatic 40, 3) := by decide +kernel
theorem d_P_lowerFrom_43 : decode c9_P_lowerFrom 43 = .ok (.i2l, 1) := by decide +kernel
theorem d_P_lowerFrom_44 : decode c9_P_lowerFrom 44 = .ok (.ldc2_w 56, 3) := by decide +kernel
theorem d_P_lowerFrom_47 : decode c9_P_lowerFrom 47 = .ok (.invokestatic 52, 3) := by decide +kernel
theorem d_P_lowerFrom_50 : decode c9_P_lowerFrom 50 = .ok (.l2i, 1) := by decide +kernel
theorem d_P_lowerFrom_51 : decode c9_P_lowerFrom 51 = .ok (.istore 5, 2) := by decide +kernel
theorem d_P_lowerFrom_53 : decode c9_P_lowerFrom 53 = .ok (.iload 4, 2) := by decide +kernel
theorem d_P_lowerFrom_55 : decode c9_P_lowerFrom 55 = .ok (.i2l, 1) := by decide +kernel
theorem d_P_lowerFrom_56 : decode c9_P_lowerFrom 56 = .ok (.iload 5, 2) := by decide +kernel
theorem d_P_lowerFrom_58 : decode c9_P_lowerFrom 58 = .ok (.i2l, 1) := by decide +kernel
theorem d_P_lowerFrom_59 : decode c9_P_lowerFrom 59 = .ok (.iload_n 2, 1) := by decide +kernel
theorem d_P_lowerFrom_60 : decode c9_P_lowerFrom 60 = .ok (.i2l, 1) := by decide +kernel
theorem d_P_lowerFrom_61 : decode c9_P_lowerFrom 61 = .ok (.lmul, 1) := by decide +kernel
theorem d_P_lowerFrom_62 : decode c9_P_lowerFrom 62 = .ok (.ladd, 1) := by decide +kernel
theorem d_P_lowerFrom_63 : decode c9_P_lowerFrom 63 = .ok (.lstore 6, 2) := by decide +kernel
theorem d_P_lowerFrom_65 : decode c9_P_lowerFrom 65 = .ok (.iconst 0, 1) := by decide +kernel
theorem d_P_lowerFrom_66 : decode c9_P_lowerFrom 66 = .ok (.istore 8, 2) := by decide +kernel
theorem d_P_lowerFrom_68 : decode c9_P_lowerFrom 68 = .ok (.iload 8, 2) := by decide +kernel
theorem d_P_lowerFrom_70 : decode c9_P_lowerFrom 70 = .ok (.iload_n 1, 1) := by decide +kernel
theorem d_P_lowerFrom_71 : decode c9_P_lowerFrom 71 = .ok (.if_icmp .ge 57, 3) := by decide +kernel
theorem d_P_lowerFrom_74 : decode c9_P_lowerFrom 74 = .ok (.iload 8, 2) := by decide +kernel
theorem d_P_lowerFrom_76 : decode c9_P_lowerFrom 76 = .ok (.bipush 8, 2) := by decide +kernel
theorem d_P_lowerFrom_78 : decode c9_P_lowerFrom 78 = .ok (.imul, 1) := by decide +kernel
theorem d_P_lowerFrom_79 : decode c9_P_lowerFrom 79 = .ok (.iload_n 3, 1) := by decide +kernel
theorem d_P_lowerFrom_80 : decode c9_P_lowerFrom 80 = .ok (.iadd, 1) := by decide +kernel
theorem d_P_lowerFrom_81 : decode c9_P_lowerFrom 81 = .ok (.istore 9, 2) := by decide +kernel
theorem d_P_lowerFrom_83 : decode c9_P_lowerFrom 83 = .ok (.aload_n 0, 1) := by decide +kernel
theorem d_P_lowerFrom_84 : decode c9_P_lowerFrom 84 = .ok (.getfield 15, 3) := by decide +kernel
theorem d_P_lowerFrom_87 : decode c9_P_lowerFrom 87 = .ok (.iload 9, 2) := by decide +kernel
theorem d_P_lowerFrom_89 : decode c9_P_lowerFrom 89 = .ok (.aload_n 0, 1) := by decide +kernel
theorem d_P_lowerFrom_90 : decode c9_P_lowerFrom 90 = .ok (.getfield 15, 3) := by decide +kernel
theorem d_P_lowerFrom_93 : decode c9_P_lowerFrom 93 = .ok (.iload 9, 2) := by decide +kernel
theorem d_P_lowerFrom_95 : decode c9_P_lowerFrom 95 = .ok (.iaload, 1) := by decide +kernel
theorem d_P_lowerFrom_96 : decode c9_P_lowerFrom 96 = .ok (.i2l, 1) := by decide +kernel
theorem d_P_lowerFrom_97 : decode c9_P_lowerFrom 97 = .ok (.lload 6, 2) := by decide +kernel
theorem d_P_lowerFrom_99 : decode c9_P_lowerFrom 99 = .ok (.lsub, 1) := by decide +kernel
theorem d_P_lowerFrom_100 : decode c9_P_lowerFrom 100 = .ok (.getstatic 58, 3) := by decide +kernel
theorem d_P_lowerFrom_103 : decode c9_P_lowerFrom 103 = .ok (.iload_n 1, 1) := by decide +kernel
theorem d_P_lowerFrom_104 : decode c9_P_lowerFrom 104 = .ok (.iconst 4, 1) := by decide +kernel
theorem d_P_lowerFrom_105 : decode c9_P_lowerFrom 105 = .ok (.imul, 1) := by decide +kernel
theorem d_P_lowerFrom_106 : decode c9_P_lowerFrom 106 = .ok (.iload 8, 2) := by decide +kernel
theorem d_P_lowerFrom_108 : decode c9_P_lowerFrom 108 = .ok (.iadd, 1) := by decide +kernel
theorem d_P_lowerFrom_109 : decode c9_P_lowerFrom 109 = .ok (.iaload, 1) := by decide +kernel
theorem d_P_lowerFrom_110 : decode c9_P_lowerFrom 110 = .ok (.i2l, 1) := by decide +kernel
theorem d_P_lowerFrom_111 : decode c9_P_lowerFrom 111 = .ok (.lmul, 1) := by decide +kernel
theorem d_P_lowerFrom_112 : decode c9_P_lowerFrom 112 = .ok (.getstatic 19, 3) := by decide +kernel
theorem d_P_lowerFrom_115 : decode c9_P_lowerFrom 115 = .ok (.iload 8, 2) := by decide +kernel
theorem d_P_lowerFrom_117 : decode c9_P_lowerFrom 117 = .ok (.iaload, 1) := by decide +kernel
theorem d_P_lowerFrom_118 : decode c9_P_lowerFrom 118 = .ok (.invokestatic 40, 3) := by decide +kernel
theorem d_P_lowerFrom_121 : decode c9_P_lowerFrom 121 = .ok (.iastore, 1) := by decide +kernel
theorem d_P_lowerFrom_122 : decode c9_P_lowerFrom 122 = .ok (.iinc 8 1, 3) := by decide +kernel
theorem d_P_lowerFrom_125 : decode c9_P_lowerFrom 125 = .ok (.goto (-57), 3) := by decide +kernel
theorem d_P_lowerFrom_128 : decode c9_P_lowerFrom 128 = .ok (.iinc 3 1, 3) := by decide +kernel
theorem d_P_lowerFrom_131 : decode c9_P_lowerFrom 131 = .ok (.goto (-123), 3) := by decide +kernel
theorem d_P_lowerFrom_134 : decode c9_P_lowerFrom 134 = .ok (.return_, 1) := by decide +kernel
theorem d_V_isTooGreat_0 : decode c9_V_isTooGreat 0 = .ok (.aload_n 0, 1) := by decide +kernel
theorem d_V_isTooGreat_1 : decode c9_V_isTooGreat 1 = .ok (.getfield 15, 3) := by decide +kernel
theorem d_V_isTooGreat_4 : decode c9_V_isTooGreat 4 = .ok (.getstatic 35, 3) := by decide +kernel
theorem d_V_isTooGreat_7 : decode c9_V_isTooGreat 7 = .ok (.aload_n 0, 1) := by decide +kernel
theorem d_V_isTooGreat_8 : decode c9_V_isTooGreat 8 = .ok (.getfield 9, 3) := by decide +kernel
theorem d_V_isTooGreat_11 : decode c9_V_isTooGreat 11 = .ok (.laload, 1) := by decide +kernel
theorem d_V_isTooGreat_12 : decode c9_V_isTooGreat 12 = .ok (.lconst 1, 1) := by decide +kernel
theorem d_V_isTooGreat_13 : decode c9_V_isTooGreat 13 = .ok (.lsub, 1) := by decide +kernel
theorem d_V_isTooGreat_14 : decode c9_V_isTooGreat 14 = .ok (.ldc2_w 39, 3) := by decide +kernel
theorem d_V_isTooGreat_17 : decode c9_V_isTooGreat 17 = .ok (.ldiv, 1) := by decide +kernel
theorem d_V_isTooGreat_18 : decode c9_V_isTooGreat 18 = .ok (.lcmp, 1) := by decide +kernel
theorem d_V_isTooGreat_19 : decode c9_V_isTooGreat 19 = .ok (.ifCond .le 7, 3) := by decide +kernel
theorem d_V_isTooGreat_22 : decode c9_V_isTooGreat 22 = .ok (.iconst 1, 1) := by decide +kernel
theorem d_V_isTooGreat_23 : decode c9_V_isTooGreat 23 = .ok (.goto 4, 3) := by decide +kernel
theorem d_V_isTooGreat_26 : decode c9_V_isTooGreat 26 = .ok (.iconst 0, 1) := by decide +kernel
theorem d_V_isTooGreat_27 : decode c9_V_isTooGreat 27 = .ok (.ireturn, 1) := by decide +kernel
theorem d_P_setFromRow_0 : decode c9_P_setFromRow 0 = .ok (.iconst 0, 1) := by decide +kernel
theorem d_P_setFromRow_1 : decode c9_P_setFromRow 1 = .ok (.istore 4, 2) := by decide +kernel
theorem d_P_setFromRow_3 : decode c9_P_setFromRow 3 = .ok (.iload 4, 2) := by decide +kernel
theorem d_P_setFromRow_5 : decode c9_P_setFromRow 5 = .ok (.iload_n 3, 1) := by decide +kernel
theorem d_P_setFromRow_6 : decode c9_P_setFromRow 6 = .ok (.if_icmp .gt 57, 3) := by decide +kernel
theorem d_P_setFromRow_9 : decode c9_P_setFromRow 9 = .ok (.iconst 0, 1) := by decide +kernel
theorem d_P_setFromRow_10 : decode c9_P_setFromRow 10 = .ok (.istore 5, 2) := by decide +kernel
theorem d_P_setFromRow_12 : decode c9_P_setFromRow 12 = .ok (.iload 5, 2) := by decide +kernel
theorem d_P_setFromRow_14 : decode c9_P_setFromRow 14 = .ok (.bipush 8, 2) := by decide +kernel
theorem d_P_setFromRow_16 : decode c9_P_setFromRow 16 = .ok (.if_icmp .ge 41, 3) := by decide +kernel
theorem d_P_setFromRow_19 : decode c9_P_setFromRow 19 = .ok (.aload_n 0, 1) := by decide +kernel
theorem d_P_setFromRow_20 : decode c9_P_setFromRow 20 = .ok (.getfield 15, 3) := by decide +kernel
theorem d_P_setFromRow_23 : decode c9_P_setFromRow 23 = .ok (.iload 4, 2) := by decide +kernel
theorem d_P_setFromRow_25 : decode c9_P_setFromRow 25 = .ok (.bipush 8, 2) := by decide +kernel
theorem d_P_setFromRow_27 : decode c9_P_setFromRow 27 = .ok (.imul, 1) := by decide +kernel
theorem d_P_setFromRow_28 : decode c9_P_setFromRow 28 = .ok (.iload 5, 2) := by decide +kernel
theorem d_P_setFromRow_30 : decode c9_P_setFromRow 30 = .ok (.iadd, 1) := by decide +kernel
theorem d_P_setFromRow_31 : decode c9_P_setFromRow 31 = .ok (.aload_n 1, 1) := by decide +kernel
theorem d_P_setFromRow_32 : decode c9_P_setFromRow 32 = .ok (.getfield 15, 3) := by decide +kernel
theorem d_P_setFromRow_35 : decode c9_P_setFromRow 35 = .ok (.iload_n 2, 1) := by decide +kernel
theorem d_P_setFromRow_36 : decode c9_P_setFromRow 36 = .ok (.bipush 8, 2) := by decide +kernel
theorem d_P_setFromRow_38 : decode c9_P_setFromRow 38 = .ok (.imul, 1) := by decide +kernel
theorem d_P_setFromRow_39 : decode c9_P_setFromRow 39 = .ok (.iload 5, 2) := by decide +kernel
theorem d_P_setFromRow_41 : decode c9_P_setFromRow 41 = .ok (.iadd, 1) := by decide +kernel
theorem d_P_setFromRow_42 : decode c9_P_setFromRow 42 = .ok (.iaload, 1) := by decide +kernel
theorem d_P_setFromRow_43 : decode c9_P_setFromRow 43 = .ok (.aload_n 0, 1) := by decide +kernel
theorem d_P_setFromRow_44 : decode c9_P_setFromRow 44 = .ok (.iload 4, 2) := by decide +kernel
theorem d_P_setFromRow_46 : decode c9_P_setFromRow 46 = .ok (.invokevirtual 44, 3) := by decide +kernel
theorem d_P_setFromRow_49 : decode c9_P_setFromRow 49 = .ok (.irem, 1) := by decide +kernel
theorem d_P_setFromRow_50 : decode c9_P_setFromRow 50 = .ok (.iastore, 1) := by decide +kernel
theorem d_P_setFromRow_51 : decode c9_P_setFromRow 51 = .ok (.iinc 5 1, 3) := by decide +kernel
theorem d_P_setFromRow_54 : decode c9_P_setFromRow 54 = .ok (.goto (-42), 3) := by decide +kernel
theorem d_P_setFromRow_57 : decode c9_P_setFromRow 57 = .ok (.iinc 4 1, 3) := by decide +kernel
theorem d_P_setFromRow_60 : decode c9_P_setFromRow 60 = .ok (.goto (-57), 3) := by decide +kernel
theorem d_P_setFromRow_63 : decode c9_P_setFromRow 63 = .ok (.return_, 1) := by decide +kernel
theorem d_P_addSmall_0 : decode c9_P_addSmall 0 = .ok (.iconst 0, 1) := by decide +kernel
theorem d_P_addSmall_1 : decode c9_P_addSmall 1 = .ok (.istore_n 2, 1) := by decide +kernel
theorem d_P_addSmall_2 : decode c9_P_addSmall 2 = .ok (.iload_n 2, 1) := by decide +kernel
theorem d_P_addSmall_3 : decode c9_P_addSmall 3 = .ok (.iconst 4, 1) := by decide +kernel
theorem d_P_addSmall_4 : decode c9_P_addSmall 4 = .ok (.if_icmp .ge 61, 3) := by decide +kernel
theorem d_P_addSmall_7 : decode c9_P_addSmall 7 = .ok (.iconst 0, 1) := by decide +kernel
theorem d_P_addSmall_8 : decode c9_P_addSmall 8 = .ok (.istore_n 3, 1) := by decide +kernel
theorem d_P_addSmall_9 : decode c9_P_addSmall 9 = .ok (.iload_n 3, 1) := by decide +kernel
theorem d_P_addSmall_10 : decode c9_P_addSmall 10 = .ok (.bipush 8, 2) := by decide +kernel
theorem d_P_addSmall_12 : decode c9_P_addSmall 12 = .ok (.if_icmp .ge 47, 3) := by decide +kernel
theorem d_P_addSmall_15 : decode c9_P_addSmall 15 = .ok (.aload_n 0, 1) := by decide +kernel
theorem d_P_addSmall_16 : decode c9_P_addSmall 16 = .ok (.getfield 15, 3) := by decide +kernel
theorem d_P_addSmall_19 : decode c9_P_addSmall 19 = .ok (.iload_n 2, 1) := by decide +kernel
theorem d_P_addSmall_20 : decode c9_P_addSmall 20 = .ok (.bipush 8, 2) := by decide +kernel
theorem d_P_addSmall_22 : decode c9_P_addSmall 22 = .ok (.imul, 1) := by decide +kernel
theorem d_P_addSmall_23 : decode c9_P_addSmall 23 = .ok (.iload_n 3, 1) := by decide +kernel
theorem d_P_addSmall_24 : decode c9_P_addSmall 24 = .ok (.iadd, 1) := by decide +kernel
theorem d_P_addSmall_25 : decode c9_P_addSmall 25 = .ok (.aload_n 0, 1) := by decide +kernel
theorem d_P_addSmall_26 : decode c9_P_addSmall 26 = .ok (.getfield 15, 3) := by decide +kernel
theorem d_P_addSmall_29 : decode c9_P_addSmall 29 = .ok (.iload_n 2, 1) := by decide +kernel
theorem d_P_addSmall_30 : decode c9_P_addSmall 30 = .ok (.bipush 8, 2) := by decide +kernel
theorem d_P_addSmall_32 : decode c9_P_addSmall 32 = .ok (.imul, 1) := by decide +kernel
theorem d_P_addSmall_33 : decode c9_P_addSmall 33 = .ok (.iload_n 3, 1) := by decide +kernel
theorem d_P_addSmall_34 : decode c9_P_addSmall 34 = .ok (.iadd, 1) := by decide +kernel
theorem d_P_addSmall_35 : decode c9_P_addSmall 35 = .ok (.iaload, 1) := by decide +kernel
theorem d_P_addSmall_36 : decode c9_P_addSmall 36 = .ok (.aload_n 1, 1) := by decide +kernel
theorem d_P_addSmall_37 : decode c9_P_addSmall 37 = .ok (.getfield 15, 3) := by decide +kernel
theorem d_P_addSmall_40 : decode c9_P_addSmall 40 = .ok (.iload_n 3, 1) := by decide +kernel
theorem d_P_addSmall_41 : decode c9_P_addSmall 41 = .ok (.iaload, 1) := by decide +kernel
theorem d_P_addSmall_42 : decode c9_P_addSmall 42 = .ok (.iadd, 1) := by decide +kernel
theorem d_P_addSmall_43 : decode c9_P_addSmall 43 = .ok (.i2l, 1) := by decide +kernel
theorem d_P_addSmall_44 : decode c9_P_addSmall 44 = .ok (.getstatic 19, 3) := by decide +kernel
theorem d_P_addSmall_47 : decode c9_P_addSmall 47 = .ok (.iload_n 2, 1) := by decide +kernel
theorem d_P_addSmall_48 : decode c9_P_addSmall 48 = .ok (.iaload, 1) := by decide +kernel
theorem d_P_addSmall_49 : decode c9_P_addSmall 49 = .ok (.invokestatic 40, 3) := by decide +kernel
theorem d_P_addSmall_52 : decode c9_P_addSmall 52 = .ok (.iastore, 1) := by decide +kernel
theorem d_P_addSmall_53 : decode c9_P_addSmall 53 = .ok (.iinc 3 1, 3) := by decide +kernel
theorem d_P_addSmall_56 : decode c9_P_addSmall 56 = .ok (.goto (-47), 3) := by decide +kernel
theorem d_P_addSmall_59 : decode c9_P_addSmall 59 = .ok (.iinc 2 1, 3) := by decide +kernel
theorem d_P_addSmall_62 : decode c9_P_addSmall 62 = .ok (.goto (-60), 3) := by decide +kernel
theorem d_P_addSmall_65 : decode c9_P_addSmall 65 = .ok (.return_, 1) := by decide +kernel
theorem d_P_centredCoefficient_0 : decode c9_P_centredCoefficient 0 = .ok (.aload_n 0, 1) := by decide +kernel
theorem d_P_centredCoefficient_1 : decode c9_P_centredCoefficient 1 = .ok (.iload_n 1, 1) := by decide +kernel
theorem d_P_centredCoefficient_2 : decode c9_P_centredCoefficient 2 = .ok (.iload_n 2, 1) := by decide +kernel
theorem d_P_centredCoefficient_3 : decode c9_P_centredCoefficient 3 = .ok (.invokevirtual 68, 3) := by decide +kernel
theorem d_P_centredCoefficient_6 : decode c9_P_centredCoefficient 6 = .ok (.getstatic 61, 3) := by decide +kernel
theorem d_P_centredCoefficient_9 : decode c9_P_centredCoefficient 9 = .ok (.iload_n 2, 1) := by decide +kernel
theorem d_P_centredCoefficient_10 : decode c9_P_centredCoefficient 10 = .ok (.laload, 1) := by decide +kernel
theorem d_P_centredCoefficient_11 : decode c9_P_centredCoefficient 11 = .ok (.invokestatic 52, 3) := by decide +kernel
theorem d_P_centredCoefficient_14 : decode c9_P_centredCoefficient 14 = .ok (.lreturn, 1) := by decide +kernel
theorem d_P_wholeCoefficient_0 : decode c9_P_wholeCoefficient 0 = .ok (.aload_n 0, 1) := by decide +kernel
theorem d_P_wholeCoefficient_1 : decode c9_P_wholeCoefficient 1 = .ok (.getfield 15, 3) := by decide +kernel
theorem d_P_wholeCoefficient_4 : decode c9_P_wholeCoefficient 4 = .ok (.iload_n 1, 1) := by decide +kernel
theorem d_P_wholeCoefficient_5 : decode c9_P_wholeCoefficient 5 = .ok (.iaload, 1) := by decide +kernel
theorem d_P_wholeCoefficient_6 : decode c9_P_wholeCoefficient 6 = .ok (.i2l, 1) := by decide +kernel
theorem d_P_wholeCoefficient_7 : decode c9_P_wholeCoefficient 7 = .ok (.lstore_n 3, 1) := by decide +kernel
theorem d_P_wholeCoefficient_8 : decode c9_P_wholeCoefficient 8 = .ok (.iconst 1, 1) := by decide +kernel
theorem d_P_wholeCoefficient_9 : decode c9_P_wholeCoefficient 9 = .ok (.istore 5, 2) := by decide +kernel
theorem d_P_wholeCoefficient_11 : decode c9_P_wholeCoefficient 11 = .ok (.iload 5, 2) := by decide +kernel
theorem d_P_wholeCoefficient_13 : decode c9_P_wholeCoefficient 13 = .ok (.iload_n 2, 1) := by decide +kernel
theorem d_P_wholeCoefficient_14 : decode c9_P_wholeCoefficient 14 = .ok (.if_icmp .gt 66, 3) := by decide +kernel
theorem d_P_wholeCoefficient_17 : decode c9_P_wholeCoefficient 17 = .ok (.aload_n 0, 1) := by decide +kernel
theorem d_P_wholeCoefficient_18 : decode c9_P_wholeCoefficient 18 = .ok (.getfield 15, 3) := by decide +kernel
theorem d_P_wholeCoefficient_21 : decode c9_P_wholeCoefficient 21 = .ok (.iload 5, 2) := by decide +kernel
theorem d_P_wholeCoefficient_23 : decode c9_P_wholeCoefficient 23 = .ok (.bipush 8, 2) := by decide +kernel
theorem d_P_wholeCoefficient_25 : decode c9_P_wholeCoefficient 25 = .ok (.imul, 1) := by decide +kernel
theorem d_P_wholeCoefficient_26 : decode c9_P_wholeCoefficient 26 = .ok (.iload_n 1, 1) := by decide +kernel
theorem d_P_wholeCoefficient_27 : decode c9_P_wholeCoefficient 27 = .ok (.iadd, 1) := by decide +kernel
theorem d_P_wholeCoefficient_28 : decode c9_P_wholeCoefficient 28 = .ok (.iaload, 1) := by decide +kernel
theorem d_P_wholeCoefficient_29 : decode c9_P_wholeCoefficient 29 = .ok (.i2l, 1) := by decide +kernel
theorem d_P_wholeCoefficient_30 : decode c9_P_wholeCoefficient 30 = .ok (.lload_n 3, 1) := by decide +kernel
theorem d_P_wholeCoefficient_31 : decode c9_P_wholeCoefficient 31 = .ok (.lsub, 1) := by decide +kernel
theorem d_P_wholeCoefficient_32 : decode c9_P_wholeCoefficient 32 = .ok (.getstatic 19, 3) := by decide +kernel
theorem d_P_wholeCoefficient_35 : decode c9_P_wholeCoefficient 35 = .ok (.iload 5, 2) := by decide +kernel
theorem d_P_wholeCoefficient_37 : decode c9_P_wholeCoefficient 37 = .ok (.iaload, 1) := by decide +kernel
theorem d_P_wholeCoefficient_38 : decode c9_P_wholeCoefficient 38 = .ok (.invokestatic 40, 3) := by decide +kernel
theorem d_P_wholeCoefficient_41 : decode c9_P_wholeCoefficient 41 = .ok (.i2l, 1) := by decide +kernel
theorem d_P_wholeCoefficient_42 : decode c9_P_wholeCoefficient 42 = .ok (.lstore 6, 2) := by decide +kernel
theorem d_P_wholeCoefficient_44 : decode c9_P_wholeCoefficient 44 = .ok (.lload_n 3, 1) := by decide +kernel
theorem d_P_wholeCoefficient_45 : decode c9_P_wholeCoefficient 45 = .ok (.getstatic 61, 3) := by decide +kernel
theorem d_P_wholeCoefficient_48 : decode c9_P_wholeCoefficient 48 = .ok (.iload 5, 2) := by decide +kernel
theorem d_P_wholeCoefficient_50 : decode c9_P_wholeCoefficient 50 = .ok (.iconst 1, 1) := by decide +kernel
theorem d_P_wholeCoefficient_51 : decode c9_P_wholeCoefficient 51 = .ok (.isub, 1) := by decide +kernel
theorem d_P_wholeCoefficient_52 : decode c9_P_wholeCoefficient 52 = .ok (.laload, 1) := by decide +kernel
theorem d_P_wholeCoefficient_53 : decode c9_P_wholeCoefficient 53 = .ok (.lload 6, 2) := by decide +kernel
theorem d_P_wholeCoefficient_55 : decode c9_P_wholeCoefficient 55 = .ok (.getstatic 65, 3) := by decide +kernel
theorem d_P_wholeCoefficient_58 : decode c9_P_wholeCoefficient 58 = .ok (.iload 5, 2) := by decide +kernel
theorem d_P_wholeCoefficient_60 : decode c9_P_wholeCoefficient 60 = .ok (.iaload, 1) := by decide +kernel
theorem d_P_wholeCoefficient_61 : decode c9_P_wholeCoefficient 61 = .ok (.i2l, 1) := by decide +kernel
theorem d_P_wholeCoefficient_62 : decode c9_P_wholeCoefficient 62 = .ok (.lmul, 1) := by decide +kernel
theorem d_P_wholeCoefficient_63 : decode c9_P_wholeCoefficient 63 = .ok (.getstatic 19, 3) := by decide +kernel
theorem d_P_wholeCoefficient_66 : decode c9_P_wholeCoefficient 66 = .ok (.iload 5, 2) := by decide +kernel
theorem d_P_wholeCoefficient_68 : decode c9_P_wholeCoefficient 68 = .ok (.iaload, 1) := by decide +kernel
theorem d_P_wholeCoefficient_69 : decode c9_P_wholeCoefficient 69 = .ok (.i2l, 1) := by decide +kernel
theorem d_P_wholeCoefficient_70 : decode c9_P_wholeCoefficient 70 = .ok (.lrem, 1) := by decide +kernel
theorem d_P_wholeCoefficient_71 : decode c9_P_wholeCoefficient 71 = .ok (.lmul, 1) := by decide +kernel
theorem d_P_wholeCoefficient_72 : decode c9_P_wholeCoefficient 72 = .ok (.ladd, 1) := by decide +kernel
theorem d_P_wholeCoefficient_73 : decode c9_P_wholeCoefficient 73 = .ok (.lstore_n 3, 1) := by decide +kernel
theorem d_P_wholeCoefficient_74 : decode c9_P_wholeCoefficient 74 = .ok (.iinc 5 1, 3) := by decide +kernel
theorem d_P_wholeCoefficient_77 : decode c9_P_wholeCoefficient 77 = .ok (.goto (-66), 3) := by decide +kernel
theorem d_P_wholeCoefficient_80 : decode c9_P_wholeCoefficient 80 = .ok (.lload_n 3, 1) := by decide +kernel
theorem d_P_wholeCoefficient_81 : decode c9_P_wholeCoefficient 81 = .ok (.lreturn, 1) := by decide +kernel
theorem d_R_modulo_0 : decode c9_R_modulo 0 = .ok (.lload_n 0, 1) := by decide +kernel
theorem d_R_modulo_1 : decode c9_R_modulo 1 = .ok (.iload_n 2, 1) := by decide +kernel
theorem d_R_modulo_2 : decode c9_R_modulo 2 = .ok (.i2l, 1) := by decide +kernel
theorem d_R_modulo_3 : decode c9_R_modulo 3 = .ok (.lrem, 1) := by decide +kernel
theorem d_R_modulo_4 : decode c9_R_modulo 4 = .ok (.l2i, 1) := by decide +kernel
theorem d_R_modulo_5 : decode c9_R_modulo 5 = .ok (.istore_n 3, 1) := by decide +kernel
theorem d_R_modulo_6 : decode c9_R_modulo 6 = .ok (.iload_n 3, 1) := by decide +kernel
theorem d_R_modulo_7 : decode c9_R_modulo 7 = .ok (.ifCond .ge 9, 3) := by decide +kernel
theorem d_R_modulo_10 : decode c9_R_modulo 10 = .ok (.iload_n 3, 1) := by decide +kernel
theorem d_R_modulo_11 : decode c9_R_modulo 11 = .ok (.iload_n 2, 1) := by decide +kernel
theorem d_R_modulo_12 : decode c9_R_modulo 12 = .ok (.iadd, 1) := by decide +kernel
theorem d_R_modulo_13 : decode c9_R_modulo 13 = .ok (.goto 4, 3) := by decide +kernel
theorem d_R_modulo_16 : decode c9_R_modulo 16 = .ok (.iload_n 3, 1) := by decide +kernel
theorem d_R_modulo_17 : decode c9_R_modulo 17 = .ok (.ireturn, 1) := by decide +kernel
theorem d_R_centred_0 : decode c9_R_centred 0 = .ok (.lload_n 0, 1) := by decide +kernel
theorem d_R_centred_1 : decode c9_R_centred 1 = .ok (.lload_n 2, 1) := by decide +kernel
theorem d_R_centred_2 : decode c9_R_centred 2 = .ok (.lconst 1, 1) := by decide +kernel
theorem d_R_centred_3 : decode c9_R_centred 3 = .ok (.lsub, 1) := by decide +kernel
theorem d_R_centred_4 : decode c9_R_centred 4 = .ok (.ldc2_w 179, 3) := by decide +kernel
theorem d_R_centred_7 : decode c9_R_centred 7 = .ok (.ldiv, 1) := by decide +kernel
theorem d_R_centred_8 : decode c9_R_centred 8 = .ok (.lcmp, 1) := by decide +kernel
theorem d_R_centred_9 : decode c9_R_centred 9 = .ok (.ifCond .le 9, 3) := by decide +kernel
theorem d_R_centred_12 : decode c9_R_centred 12 = .ok (.lload_n 0, 1) := by decide +kernel
theorem d_R_centred_13 : decode c9_R_centred 13 = .ok (.lload_n 2, 1) := by decide +kernel
theorem d_R_centred_14 : decode c9_R_centred 14 = .ok (.lsub, 1) := by decide +kernel
theorem d_R_centred_15 : decode c9_R_centred 15 = .ok (.goto 4, 3) := by decide +kernel
theorem d_R_centred_18 : decode c9_R_centred 18 = .ok (.lload_n 0, 1) := by decide +kernel
theorem d_R_centred_19 : decode c9_R_centred 19 = .ok (.lreturn, 1) := by decide +kernel
end
section
abbrev rm_c_modulo : Room := { frames := 0, cells := 0, slots := 0, locals := 0 }
set_option maxHeartbeats 4000000 in
set_option maxRecDepth 100000 in
/-- modulo(x, q): the remainder from 0 on -/
theorem c_modulo (l : Launch) (D : va_G) (ct : Nat → ClassId) (st ke : Nat → Nat) (b N : Nat) (u : Nat → va_E) (x q : Int) (hx0 : r64 x) (hq : 0 < q) (hq1 : q ≤ 2147483647) : Met l y_R_modulo (w_R_modulo) rm_c_modulo (va_Pc [.long (lI (x)), .int (iI (q))] (fun U => ev D ct st ke b U ∧ va_P D vwCl (wl N b u) U.heap)) (va_Qi (fun (r : Int32) (z : Nat → va_E) => r = iI (x % q) ∧ u = z) (fun (z : Nat → va_E) t => va_P D vwCl (wl (N) b (z)) t.heap) (AA b)) 0 0 (AA b) := by
  refine M_i (cc := c9_R_modulo) (maxL := 4) (by decide) rfl (Nat.le_of_ble_eq_true rfl) ?_
  intro p e s m args below meth c Q ls H locs hx hb hml hown hts hnm E hP hS hl ret
  have hl : lv_has ls 4 [(0, .long (lI (x))), (2, .int (iI (q)))] := hl
  have hK := ev_K E
  have hbd := tmod_bd (a := x) hq
  refine lv_lload_n hx hb d_R_modulo_0 rfl (lv_at hl 0 rfl) ?_
  refine lv_iload_n hx hb d_R_modulo_1 rfl (lv_at hl 1 rfl) ?_
  refine x_i2l hx hb ⟨by omega, by omega⟩ d_R_modulo_2 ?_
  refine x_lrem hx hb hx0 ⟨by omega, by omega⟩ (by omega) d_R_modulo_3 ?_
  refine x_l2i hx hb d_R_modulo_4 ?_
  refine lv_istore_n (lv' := [(3, .int (iI ((x).tmod (q)))), (0, .long (lI (x))), (2, .int (iI (q)))]) hx hb d_R_modulo_5 rfl hl (by decide) rfl (fun ls hl => ?_)
  refine lv_iload_n hx hb d_R_modulo_6 rfl (lv_at hl 0 rfl) ?_
  refine x_if_ge (tgt := 16) hx hb ⟨by omega, by omega⟩ d_R_modulo_7 (by decide) (fun hc => ?_) (fun hc => ?_)
  · refine lv_iload_n hx hb d_R_modulo_16 rfl (lv_at hl 0 rfl) ?_
    refine x_ie (y := x % q) (by rw [← tmod_mend hq, if_neg (by omega)]) ?_
    exact ret _ u H locs 17 ls ⟨rfl, rfl⟩ hP hS d_R_modulo_17
  · refine lv_iload_n hx hb d_R_modulo_10 rfl (lv_at hl 0 rfl) ?_
    refine lv_iload_n hx hb d_R_modulo_11 rfl (lv_at hl 2 rfl) ?_
    refine x_iadd hx hb d_R_modulo_12 ?_
    refine lv_goto (tgt := 17) hx hb d_R_modulo_13 (by decide) ?_
    refine x_ie (y := x % q) (by rw [← tmod_mend hq, if_pos (by omega)]) ?_
    exact ret _ u H locs 17 ls ⟨rfl, rfl⟩ hP hS d_R_modulo_17
abbrev rm_c_centred : Room := { frames := 0, cells := 0, slots := 0, locals := 0 }
set_option maxHeartbeats 4000000 in
set_option maxRecDepth 100000 in
/-- centred(x, q) -/
theorem c_centred (l : Launch) (D : va_G) (ct : Nat → ClassId) (st ke : Nat → Nat) (b N : Nat) (u : Nat → va_E) (x q : Int) (hx0 : 0 ≤ x) (hx1 : x ≤ 9223372036854775807) (hq : 0 < q) (hq1 : q ≤ 9223372036854775807) : Met l y_R_centred (w_R_centred) rm_c_centred (va_Pc [.long (lI (x)), .long (lI (q))] (fun U => ev D ct st ke b U ∧ va_P D vwCl (wl N b u) U.heap)) (va_Ql (fun (r : Int64) (z : Nat → va_E) => r = lI (cen x q) ∧ u = z) (fun (z : Nat → va_E) t => va_P D vwCl (wl (N) b (z)) t.heap) (AA b)) 0 0 (AA b) := by
  refine M_l (cc := c9_R_centred) (maxL := 4) (by decide) rfl (Nat.le_of_ble_eq_true rfl) ?_
  intro p e s m args below meth c Q ls H locs hx hb hml hown hts hnm E hP hS hl ret
  have hl : lv_has ls 4 [(0, .long (lI (x))), (2, .long (lI (q)))] := hl
  have hK := ev_K E
  have kk0 := hts (.constantLong "LevelledRing" 179 2) (List.mem_cons_of_mem _ t_343)
  refine lv_lload_n hx hb d_R_centred_0 rfl (lv_at hl 0 rfl) ?_
  refine lv_lload_n hx hb d_R_centred_1 rfl (lv_at hl 1 rfl) ?_
  refine lv_lconst (v := lI 1) hx hb d_R_centred_2 rfl ?_
  refine x_lsub hx hb d_R_centred_3 ?_
  refine lv_ldc2 hx hb hown kk0 d_R_centred_4 ?_
  refine x_l (y := lI (2)) (by decide +kernel) ?_
  refine x_ldivP hx hb ⟨by omega, by omega⟩ ⟨by omega, by omega⟩ (by omega) (by omega) d_R_centred_7 ?_
  refine x_lcmp hx hb ⟨by omega, by omega⟩ ⟨by omega, by omega⟩ d_R_centred_8 ?_
  refine x_if_le (tgt := 18) hx hb (cmpz_r _ _) d_R_centred_9 (by decide) (fun hc => ?_) (fun hc => ?_)
  · have hc := cmpz_le.mp hc
    refine lv_lload_n hx hb d_R_centred_18 rfl (lv_at hl 0 rfl) ?_
    refine x_le (y := cen x q) (by unfold cen; rw [if_neg (by omega)]) ?_
    exact ret _ u H locs 19 ls ⟨rfl, rfl⟩ hP hS d_R_centred_19
  · have hc : ¬ x ≤ (q - 1) / 2 := fun h => by have := cmpz_le.mpr h; omega
    refine lv_lload_n hx hb d_R_centred_12 rfl (lv_at hl 0 rfl) ?_
    refine lv_lload_n hx hb d_R_centred_13 rfl (lv_at hl 1 rfl) ?_
    refine x_lsub hx hb d_R_centred_14 ?_
    refine lv_goto (tgt := 19) hx hb d_R_centred_15 (by decide) ?_
    refine x_le (y := cen x q) (by unfold cen; rw [if_pos (by omega)]) ?_
    exact ret _ u H locs 19 ls ⟨rfl, rfl⟩ hP hS d_R_centred_19
abbrev rm_c_start : Room := { frames := 0, cells := 0, slots := 0, locals := 0 }
set_option maxHeartbeats 4000000 in
set_option maxRecDepth 100000 in
/-- start(x) -/
theorem c_start (l : Launch) (D : va_G) (ct : Nat → ClassId) (st ke : Nat → Nat) (b N : Nat) (u : Nat → va_E) (kd : Nat) (z x : Int32) (hkd : kd < N) (f0 : u kd = dr z) : Met l y_D_start (w_D_start) rm_c_start (va_Pc [.ref (b + kd), .int x] (fun U => ev D ct st ke b U ∧ va_P D vwCl (wl N b u) U.heap)) (va_Qv (fun (w : Nat → va_E) => w kd = dr x ∧ ∀ j : Nat, j ≠ kd → w j = u j) (fun (z : Nat → va_E) t => va_P D vwCl (wl (N) b (z)) t.heap) (AA b)) 0 0 (AA b) := by
  refine M_v (cc := c9_D_start) (maxL := 2) (by decide) rfl (Nat.le_of_ble_eq_true rfl) ?_
  intro p e s m args below meth c Q ls H locs hx hb hml hown hts hnm E hP hS hl ret
  have hl : lv_has ls 2 [(0, .ref (b + kd)), (1, .int x)] := hl
  have hK := ev_K E
  have kk0 := hts (.fieldLink "LevelledRing$Drawing" 7 "LevelledRing$Drawing" "z" "I") (List.mem_cons_of_mem _ t_27)
  have hinD : ∀ w ∈ u_ws "LevelledRing$Drawing" T_D 1, w ∈ (w_D_start) := hin_D _
  have fr0 : ∀ j : Nat, (j ≠ kd) → u j = u j := fun _ _ => rfl
  refine lv_aload_n hx hb d_D_start_0 rfl (lv_at hl 0 rfl) ?_
  refine lv_iload_n hx hb d_D_start_1 rfl (lv_at hl 1 rfl) ?_
  refine w_put (C := "LevelledRing$Drawing") (T := T_D) (M := 1) (ty := .int) (v := .int x) hx hb hts hinD ty_D tyok_D nm_D hown hK hP hS (kd) (by omega) f0 rfl 0 (by decide) kk0 (fun _ h => h) rfl (by decide +kernel) rfl rfl (Nat.le_of_ble_eq_true rfl) d_D_start_2 (fun H locs hP hS => ?_)
  obtain ⟨u1, hu2, hP⟩ : ∃ zz : Nat → va_E, zz = va_up u kd (.inr (0, [.int x])) ∧ va_P D vwCl (wl N b zz) H := ⟨_, rfl, hP⟩
  have ff3 : u1 kd = .inr (0, [.int x]) := (congrFun hu2 _).trans up_s
  have fr4 : ∀ j : Nat, (j ≠ kd) → u1 j = u j := fun j h0 => (congrFun hu2 j).trans ((up_n (by omega)).trans (fr0 j h0))
  exact ret u1 H locs 5 ls ⟨ff3, fr4⟩ hP hS d_D_start_5
abbrev rm_c_draw : Room := { frames := 0, cells := 0, slots := 0, locals := 0 }
set_option maxHeartbeats 4000000 in
set_option maxRecDepth 100000 in
/-- draw() -/
theorem c_draw (l : Launch) (D : va_G) (ct : Nat → ClassId) (st ke : Nat → Nat) (b N : Nat) (u : Nat → va_E) (kd : Nat) (z : Int32) (hkd : kd < N) (f0 : u kd = dr z) : Met l y_D_draw (w_D_draw) rm_c_draw (va_Pc [.ref (b + kd)] (fun U => ev D ct st ke b U ∧ va_P D vwCl (wl N b u) U.heap)) (va_Qi (fun (r : Int32) (w : Nat → va_E) => r = iI (dv (dz z)) ∧ w kd = dr (dz z) ∧ ∀ j : Nat, j ≠ kd → w j = u j) (fun (z : Nat → va_E) t => va_P D vwCl (wl (N) b (z)) t.heap) (AA b)) 0 0 (AA b) := by
  refine M_i (cc := c9_D_draw) (maxL := 1) (by decide) rfl (Nat.le_of_ble_eq_true rfl) ?_
  intro p e s m args below meth c Q ls H locs hx hb hml hown hts hnm E hP hS hl ret
  have hl : lv_has ls 1 [(0, .ref (b + kd))] := hl
  have hK := ev_K E
  have kk0 := hts (.fieldLink "LevelledRing$Drawing" 7 "LevelledRing$Drawing" "z" "I") (List.mem_cons_of_mem _ t_27)
  have hinD : ∀ w ∈ u_ws "LevelledRing$Drawing" T_D 1, w ∈ (w_D_draw) := hin_D _
  have kk2 := hts (.constant "LevelledRing$Drawing" 13 1664525) (List.mem_cons_of_mem _ t_94)
  have kk3 := hts (.constant "LevelledRing$Drawing" 14 1013904223) (List.mem_cons_of_mem _ t_95)
  have fr0 : ∀ j : Nat, (j ≠ kd) → u j = u j := fun _ _ => rfl
  refine lv_aload_n hx hb d_D_draw_0 rfl (lv_at hl 0 rfl) ?_
  refine lv_aload_n hx hb d_D_draw_1 rfl (lv_at hl 0 rfl) ?_
  refine w_get (C := "LevelledRing$Drawing") (T := T_D) (M := 1) hx hb hts hinD hown hK hP (kd) (by omega) f0 rfl 0 (by decide) kk0 (fun _ h => h) rfl d_D_draw_2 ?_
  refine lv_ldc hx hb hown kk2 d_D_draw_5 ?_
  refine lv_imul hx hb d_D_draw_7 ?_
  refine lv_ldc hx hb hown kk3 d_D_draw_8 ?_
  refine lv_iadd hx hb d_D_draw_10 ?_
  refine x_i (y := dz z) rfl ?_
  refine w_put (C := "LevelledRing$Drawing") (T := T_D) (M := 1) (ty := .int) (v := .int (dz z)) hx hb hts hinD ty_D tyok_D nm_D hown hK hP hS (kd) (by omega) f0 rfl 0 (by decide) kk0 (fun _ h => h) rfl (by decide +kernel) rfl rfl (Nat.le_of_ble_eq_true rfl) d_D_draw_11 (fun H locs hP hS => ?_)
  obtain ⟨u1, hu2, hP⟩ : ∃ zz : Nat → va_E, zz = va_up u kd (.inr (0, [.int (dz z)])) ∧ va_P D vwCl (wl N b zz) H := ⟨_, rfl, hP⟩
  have ff3 : u1 kd = .inr (0, [.int (dz z)]) := (congrFun hu2 _).trans up_s
  have fr4 : ∀ j : Nat, (j ≠ kd) → u1 j = u j := fun j h0 => (congrFun hu2 j).trans ((up_n (by omega)).trans (fr0 j h0))
  refine lv_aload_n hx hb d_D_draw_14 rfl (lv_at hl 0 rfl) ?_
  refine w_get (C := "LevelledRing$Drawing") (T := T_D) (M := 1) hx hb hts hinD hown hK hP (kd) (by omega) ff3 rfl 0 (by decide) kk0 (fun _ h => h) rfl d_D_draw_15 ?_
  refine lv_bipush (v := iI (8)) hx hb d_D_draw_18 (by decide +kernel) ?_
  refine lv_iushr (v := iI (dv (dz z))) hx hb d_D_draw_20 (dv_iI (dz z)) ?_
  exact ret _ u1 H locs 21 ls ⟨rfl, ff3, fr4⟩ hP hS d_D_draw_21
abbrev rm_c_rowModulus : Room := { frames := 0, cells := 0, slots := 0, locals := 0 }
set_option maxHeartbeats 4000000 in
set_option maxRecDepth 100000 in
/-- rowModulus(row) -/
theorem c_rowModulus (l : Launch) (D : va_G) (ct : Nat → ClassId) (st ke : Nat → Nat) (b N : Nat) (u : Nat → va_E) (k : Nat) (sm row : Int) (hk : k + 1 < N) (f0 : u k = po b k sm) (hsm : sm = 0 ∨ sm = 1) (h0 : 0 ≤ row) (h3 : row ≤ 3) : Met l y_P_rowModulus (w_P_rowModulus) rm_c_rowModulus (va_Pc [.ref (b + k), .int (iI (row))] (fun U => ev D ct st ke b U ∧ va_P D vwCl (wl N b u) U.heap)) (va_Qi (fun (r : Int32) (z : Nat → va_E) => r = iI (mu sm row) ∧ u = z) (fun (z : Nat → va_E) t => va_P D vwCl (wl (N) b (z)) t.heap) (AA b)) 0 0 (AA b) := by
  refine M_i (cc := c9_P_rowModulus) (maxL := 2) (by decide) rfl (Nat.le_of_ble_eq_true rfl) ?_
  intro p e s m args below meth c Q ls H locs hx hb hml hown hts hnm E hP hS hl ret
  have hl : lv_has ls 2 [(0, .ref (b + k)), (1, .int (iI (row)))] := hl
  have hK := ev_K E
  have kk0 := hts (.fieldLink "LevelledRing$Poly" 9 "LevelledRing$Poly" "small" "Z") (List.mem_cons_of_mem _ t_37)
  have hinP : ∀ w ∈ u_ws "LevelledRing$Poly" T_P 2, w ∈ (w_P_rowModulus) := hin_P _
  have kk2 : ((.fieldLinkNest "LevelledRing$Poly" 19 "LevelledRing" "PRIMES" "[I" "LevelledRing") : Cond).before args s = true := va_Nw.use rfl (ev_W E _ nw_2)
  have fr0 : ∀ j : Nat, u j = u j := fun _  => rfl
  refine lv_aload_n hx hb d_P_rowModulus_0 rfl (lv_at hl 0 rfl) ?_
  refine w_get (C := "LevelledRing$Poly") (T := T_P) (M := 2) hx hb hts hinP hown hK hP (k) (by omega) f0 rfl 0 (by decide) kk0 (fun _ h => h) rfl d_P_rowModulus_1 ?_
  refine x_if_eq (tgt := 12) hx hb ⟨by omega, by omega⟩ d_P_rowModulus_4 (by decide) (fun hc => ?_) (fun hc => ?_)
  · refine va_getsN hx hb (ev_Z0 E) hS hown kk2 (fun _ h => h) d_P_rowModulus_12 ?_
    refine lv_iload_n hx hb d_P_rowModulus_15 rfl (lv_at hl 1 rfl) ?_
    refine x_ti hx hb (ev_T0 E) hS (by omega) (by omega) (by decide) d_P_rowModulus_16 ?_
    refine x_ie (y := mu sm row) (by unfold mu; rw [if_pos hc]) ?_
    exact ret _ u H locs 17 ls ⟨rfl, rfl⟩ hP hS d_P_rowModulus_17
  · refine lv_bipush (v := iI (17)) hx hb d_P_rowModulus_7 (by decide +kernel) ?_
    refine lv_goto (tgt := 17) hx hb d_P_rowModulus_9 (by decide) ?_
    refine x_ie (y := mu sm row) (by unfold mu; rw [if_neg hc]) ?_
    exact ret _ u H locs 17 ls ⟨rfl, rfl⟩ hP hS d_P_rowModulus_17
abbrev rm_c_setZero : Room := { frames := 0, cells := 0, slots := 0, locals := 0 }
set_option maxHeartbeats 4000000 in
set_option maxRecDepth 100000 in
/-- setZero() -/
theorem c_setZero (l : Launch) (D : va_G) (ct : Nat → ClassId) (st ke : Nat → Nat) (b N : Nat) (u : Nat → va_E) (k : Nat) (sm : Int) (n : Nat) (g : Int → Int) (hk : k + 1 < N) (hn : n < 65536) (f0 : u k = po b k sm) (f1 : u (k + 1) = ir ct n g) : Met l y_P_setZero (w_P_setZero) rm_c_setZero (va_Pc [.ref (b + k)] (fun U => ev D ct st ke b U ∧ va_P D vwCl (wl N b u) U.heap)) (va_Qv (fun z : Nat → va_E => ∃ g2 : Int → Int, z (k + 1) = ir ct n g2 ∧ (∀ j : Int, 0 ≤ j → j < n → g2 j = 0) ∧ ∀ j : Nat, j ≠ k + 1 → z j = u j) (fun (z : Nat → va_E) t => va_P D vwCl (wl (N) b (z)) t.heap) (AA b)) 0 0 (AA b) := by
  refine M_v (cc := c9_P_setZero) (maxL := 2) (by decide) rfl (Nat.le_of_ble_eq_true rfl) ?_
  intro p e s m args below meth c Q ls H locs hx hb hml hown hts hnm E hP hS hl ret
  have hl : lv_has ls 2 [(0, .ref (b + k))] := hl
  have hK := ev_K E
  have kk0 := hts (.fieldLink "LevelledRing$Poly" 15 "LevelledRing$Poly" "c" "[I") (List.mem_cons_of_mem _ t_38)
  have hinP : ∀ w ∈ u_ws "LevelledRing$Poly" T_P 2, w ∈ (w_P_setZero) := hin_P _
  have fr0 : ∀ j : Nat, (j ≠ k + 1) → u j = u j := fun _ _ => rfl
  refine lv_iconst (v := iI (0)) hx hb d_P_setZero_0 rfl ?_
  refine lv_istore_n (lv' := [(1, .int (iI (0))), (0, .ref (b + k))]) hx hb d_P_setZero_1 rfl hl (by decide) rfl (fun ls hl => ?_)
  have lp : ∀ (d : Nat) (i : Int) (g2 : Int → Int) (w1 : Nat → va_E) (H : Heap) (locs : List Loc) (ls : Array Slot), (0 ≤ i) → (i ≤ n) → ((n : Int) - i < d) → (∀ j : Int, 0 ≤ j → j < i → g2 j = 0) → w1 (k + 1) = ir ct n (g2) → (∀ j : Nat, (j ≠ k + 1) → w1 j = u j) → va_P D vwCl (wl N b w1) H → va_S (AA b) s.heap H locs → lv_has ls 2 [(1, .int (iI (i))), (0, .ref (b + k))] → W p l e rm_c_setZero s m args below meth c H locs 0 0 Q (F0 m 2 ls []) := by
    intro d
    induction d with
    | zero => intro i g2 w1 H locs ls h0 h1 hd hg fg2 fr3 hP hS hl; exfalso; omega
    | succ d ihlp =>
      intro i g2 w1 H locs ls h0 h1 hd hg fg2 fr3 hP hS hl
      have ff4 : w1 k = .inr (3, [.int (iI (sm)), .ref (b + (k + 1))]) := (fr3 k (by omega)).trans f0
      refine lv_iload_n hx hb d_P_setZero_2 rfl (lv_at hl 0 rfl) ?_
      refine lv_aload_n hx hb d_P_setZero_3 rfl (lv_at hl 1 rfl) ?_
      refine w_get (C := "LevelledRing$Poly") (T := T_P) (M := 2) hx hb hts hinP hown hK hP (k) (by omega) ff4 rfl 1 (by decide) kk0 (fun _ h => h) rfl d_P_setZero_4 ?_
      refine w_alen hx hb hK hP (k + 1) (by omega) fg2 d_P_setZero_7 ?_
      refine x_icmp_ge (tgt := 24) hx hb ⟨by omega, by omega⟩ ⟨by omega, by omega⟩ d_P_setZero_8 (by decide) (fun hc => ?_) (fun hc => ?_)
      · exact ret w1 H locs 24 ls ⟨g2, fg2, fun j h2 h3 => hg j h2 (by omega), fr3⟩ hP hS d_P_setZero_24
      · refine lv_aload_n hx hb d_P_setZero_11 rfl (lv_at hl 1 rfl) ?_
        refine w_get (C := "LevelledRing$Poly") (T := T_P) (M := 2) hx hb hts hinP hown hK hP (k) (by omega) ff4 rfl 1 (by decide) kk0 (fun _ h => h) rfl d_P_setZero_12 ?_
        refine lv_iload_n hx hb d_P_setZero_15 rfl (lv_at hl 0 rfl) ?_
        refine lv_iconst (v := iI (0)) hx hb d_P_setZero_16 rfl ?_
        refine w_iast hx hb hK hP hS (k + 1) (by omega) fg2 (by omega) (by omega) (by omega) d_P_setZero_17 (fun H locs hP hS => ?_)
        obtain ⟨u5, hu6, hP⟩ : ∃ zz : Nat → va_E, zz = va_up w1 (k + 1) (ir ct n (zu g2 (i) (0))) ∧ va_P D vwCl (wl N b zz) H := ⟨_, rfl, hP⟩
        have ff7 : u5 k = .inr (3, [.int (iI (sm)), .ref (b + (k + 1))]) := (congrFun hu6 _).trans ((up_n (by omega)).trans ff4)
        have ff8 : u5 (k + 1) = ir ct n (zu g2 (i) (0)) := (congrFun hu6 _).trans up_s
        have fr9 : ∀ j : Nat, (j ≠ k + 1) → u5 j = u j := fun j h0 => (congrFun hu6 j).trans ((up_n (by omega)).trans (fr3 j h0))
        refine lv_iinc (k := 0) (v := iI (i + 1)) (lv' := [(1, .int (iI (i + 1))), (0, .ref (b + k))]) hx hb d_P_setZero_18 hl rfl (iI_add _ _) (by decide) rfl (fun ls hl => ?_)
        refine lv_goto (tgt := 2) hx hb d_P_setZero_21 (by decide) ?_
        exact ihlp (i + 1) _ u5 H locs ls (by omega) (by omega) (by omega) (fun j h2 h3 => by by_cases h4 : j = i; (rw [h4, zu_s]); (rw [zu_n h4]; exact hg j h2 (by omega))) ff8 fr9 hP hS hl
  exact lp (n + 1) 0 g u H locs ls (by omega) (by omega) (by omega) (fun j h2 h3 => by omega) f1 fr0 hP hS hl
end
section
abbrev rm_c_setSum : Room := { frames := 1, cells := 0, slots := 0, locals := 23 }
set_option maxHeartbeats 4000000 in
set_option maxRecDepth 100000 in
/-- setSum(x, sg, y, top) -/
theorem c_setSum (l : Launch) (D : va_G) (ct : Nat → ClassId) (st ke : Nat → Nat) (b N : Nat) (u : Nat → va_E) (k : Nat) (sm : Int) (n : Nat) (g : Int → Int) (hk : k + 1 < N) (hn : n < 65536) (f0 : u k = po b k sm) (f1 : u (k + 1) = ir ct n g) (top : Int) (ht0 : 0 ≤ top) (ht3 : top ≤ 3) (hn8 : 8 * (top + 1) ≤ n) (hsm : sm = 0 ∨ sm = 1) (kx nx : Nat) (gx : Int → Int) (hkx : kx + 1 < N) (hnx : nx < 65536) (hnx8 : 8 * (top + 1) ≤ nx) (hnex : kx + 1 ≠ k + 1) (fx0 : u kx = po b kx sm) (fx1 : u (kx + 1) = ir ct nx gx) (ky ny : Nat) (gy : Int → Int) (hky : ky + 1 < N) (hny : ny < 65536) (hny8 : 8 * (top + 1) ≤ ny) (hney : ky + 1 ≠ k + 1) (fy0 : u ky = po b ky sm) (fy1 : u (ky + 1) = ir ct ny gy) (sg : Int) (hsg : sg = 1 ∨ sg = -1) (X Y : Int → Int) (hX : Rep gx sm top X) (hY : Rep gy sm top Y) : Met l y_P_setSum (w_P_setSum) rm_c_setSum (va_Pc [.ref (b + k), .ref (b + kx), .int (iI (sg)), .ref (b + ky), .int (iI (top))] (fun U => ev D ct st ke b U ∧ va_P D vwCl (wl N b u) U.heap)) (va_Qv (fun z : Nat → va_E => ∃ g2 : Int → Int, z (k + 1) = ir ct n g2 ∧ (Rep g2 sm top (fun i => X i + sg * Y i)) ∧ ∀ j : Nat, j ≠ k + 1 → z j = u j) (fun (z : Nat → va_E) t => va_P D vwCl (wl (N) b (z)) t.heap) (AA b)) 0 0 (AA b) := by
  refine M_v (cc := c9_P_setSum) (maxL := 8) (by decide) rfl (Nat.le_of_ble_eq_true rfl) ?_
  intro p e s m args below meth c Q ls H locs hx hb hml hown hts hnm E hP hS hl ret
  have hl : lv_has ls 8 [(0, .ref (b + k)), (1, .ref (b + kx)), (2, .int (iI (sg))), (3, .ref (b + ky)), (4, .int (iI (top)))] := hl
  have hK := ev_K E
  have kk0 := hts (.fieldLink "LevelledRing$Poly" 15 "LevelledRing$Poly" "c" "[I") (List.mem_cons_of_mem _ t_38)
  have hinP : ∀ w ∈ u_ws "LevelledRing$Poly" T_P 2, w ∈ (w_P_setSum) := hin_P _
  have kk2 := hts (.initialized "LevelledRing") (List.mem_cons_of_mem _ t_1)
  have kk3 := hts (.static y_R_modulo) (List.mem_cons_of_mem _ t_99)
  have kn4 : va_Nw (.methodLinkNest "LevelledRing$Poly" 40 y_R_modulo "LevelledRing") s := ev_W E _ nw_3
  have fr0 : ∀ j : Nat, (j ≠ k + 1) → u j = u j := fun _ _ => rfl
  have hplx : kx ≠ k + 1 := fun h => by rw [h, f1] at fx0; exact absurd fx0 (by intro h; cases h)
  have hply : ky ≠ k + 1 := fun h => by rw [h, f1] at fy0; exact absurd fy0 (by intro h; cases h)
  refine lv_iconst (v := iI (0)) hx hb d_P_setSum_0 rfl ?_
  refine lv_istore (lv' := [(5, .int (iI (0))), (0, .ref (b + k)), (1, .ref (b + kx)), (2, .int (iI (sg))), (3, .ref (b + ky)), (4, .int (iI (top)))]) hx hb d_P_setSum_1 hl (by decide) rfl (fun ls hl => ?_)
  have lo : ∀ (d : Nat) (a : Int) (g2 : Int → Int) (w1 : Nat → va_E) (H : Heap) (locs : List Loc) (ls : Array Slot), (0 ≤ a) → (a ≤ top + 1) → (top + 1 - a < d) → (∀ r q : Int, 0 ≤ r → 0 ≤ q → q < 8 → r * 8 + q < a * 8 → g2 (r * 8 + q) = (X q + sg * Y q) % mu sm r) → w1 (k + 1) = ir ct n (g2) → (∀ j : Nat, (j ≠ k + 1) → w1 j = u j) → va_P D vwCl (wl N b w1) H → va_S (AA b) s.heap H locs → lv_has ls 8 [(5, .int (iI (a))), (0, .ref (b + k)), (1, .ref (b + kx)), (2, .int (iI (sg))), (3, .ref (b + ky)), (4, .int (iI (top)))] → W p l e rm_c_setSum s m args below meth c H locs 0 0 Q (F0 m 3 ls []) := by
    intro d
    induction d with
    | zero => intro a g2 w1 H locs ls h0 h1 hd hg fg2 fr3 hP hS hl; exfalso; omega
    | succ d ihlo =>
      intro a g2 w1 H locs ls h0 h1 hd hg fg2 fr3 hP hS hl
      have ff4 : w1 k = .inr (3, [.int (iI (sm)), .ref (b + (k + 1))]) := (fr3 k (by omega)).trans f0
      have ff5 : w1 kx = .inr (3, [.int (iI (sm)), .ref (b + (kx + 1))]) := (fr3 kx (by omega)).trans fx0
      have ff6 : w1 (kx + 1) = ir ct nx (gx) := (fr3 (kx + 1) (by omega)).trans fx1
      have ff7 : w1 ky = .inr (3, [.int (iI (sm)), .ref (b + (ky + 1))]) := (fr3 ky (by omega)).trans fy0
      have ff8 : w1 (ky + 1) = ir ct ny (gy) := (fr3 (ky + 1) (by omega)).trans fy1
      refine lv_iload hx hb d_P_setSum_3 (lv_at hl 0 rfl) ?_
      refine lv_iload hx hb d_P_setSum_5 (lv_at hl 5 rfl) ?_
      refine x_icmp_gt (tgt := 79) hx hb ⟨by omega, by omega⟩ ⟨by omega, by omega⟩ d_P_setSum_7 (by decide) (fun hc => ?_) (fun hc => ?_)
      · exact ret w1 H locs 79 ls ⟨g2, fg2, fun r i h2 h3 h4 h5 => hg r i h2 h4 h5 (by omega), fr3⟩ hP hS d_P_setSum_79
      · have hmu := mu_bd sm a
        refine lv_aload_n hx hb d_P_setSum_10 rfl (lv_at hl 1 rfl) ?_
        refine lv_iload hx hb d_P_setSum_11 (lv_at hl 0 rfl) ?_
        refine w_calli (va_runV (As := [.int (iI (a))]) (rest := []) ⟨hx, hb, hml, hown, hts⟩ (c_rowModulus l D ct st ke b N w1 k sm (a) (by omega) ff4 hsm (by omega) (by omega)) (cwV 1 hts (gV t_105 t_107 (tb_sel ((y_P_rowModulus), 2) (List.mem_of_getElem? (i := 0) (by decide +kernel))) t_3 t_108) rfl rfl rfl (by decide +kernel) ⟨Nat.le_of_ble_eq_true rfl, Nat.le_of_ble_eq_true rfl⟩) (pre_V E hP hS (k) (by omega) ff4 rfl) rfl rfl hl.1 rfl (lv_room (Nat.le_of_ble_eq_true rfl)) d_P_setSum_13 ⟨(Nat.le_of_ble_eq_true rfl), (Nat.le_of_ble_eq_true rfl)⟩) hS (fun r10 z9 H locs hz hP hS => ?_)
        obtain ⟨rfl, rfl⟩ := hz
        refine lv_istore (lv' := [(6, .int (iI (mu sm (a)))), (5, .int (iI (a))), (0, .ref (b + k)), (1, .ref (b + kx)), (2, .int (iI (sg))), (3, .ref (b + ky)), (4, .int (iI (top)))]) hx hb d_P_setSum_16 hl (by decide) rfl (fun ls hl => ?_)
        refine lv_iload hx hb d_P_setSum_18 (lv_at hl 1 rfl) ?_
        refine lv_bipush (v := iI (8)) hx hb d_P_setSum_20 (by decide +kernel) ?_
        refine x_imul hx hb d_P_setSum_22 ?_
        refine lv_istore (lv' := [(7, .int (iI (a * 8))), (6, .int (iI (mu sm (a)))), (5, .int (iI (a))), (0, .ref (b + k)), (1, .ref (b + kx)), (2, .int (iI (sg))), (3, .ref (b + ky)), (4, .int (iI (top)))]) hx hb d_P_setSum_23 hl (by decide) rfl (fun ls hl => ?_)
        have li : ∀ (d2 : Nat) (t : Int) (g2 : Int → Int) (w11 : Nat → va_E) (H : Heap) (locs : List Loc) (ls : Array Slot), (a * 8 ≤ t) → (t ≤ a * 8 + 8) → (a * 8 + 8 - t < d2) → (∀ r q : Int, 0 ≤ r → 0 ≤ q → q < 8 → r * 8 + q < t → g2 (r * 8 + q) = (X q + sg * Y q) % mu sm r) → w11 (k + 1) = ir ct n (g2) → (∀ j : Nat, (j ≠ k + 1) → w11 j = u j) → va_P D vwCl (wl N b w11) H → va_S (AA b) s.heap H locs → lv_has ls 8 [(7, .int (iI (t))), (6, .int (iI (mu sm (a)))), (5, .int (iI (a))), (0, .ref (b + k)), (1, .ref (b + kx)), (2, .int (iI (sg))), (3, .ref (b + ky)), (4, .int (iI (top)))] → W p l e rm_c_setSum s m args below meth c H locs 0 0 Q (F0 m 25 ls []) := by
          intro d2
          induction d2 with
          | zero => intro t g2 w11 H locs ls hta htb hd2 hg fg12 fr13 hP hS hl; exfalso; omega
          | succ d2 ihli =>
            intro t g2 w11 H locs ls hta htb hd2 hg fg12 fr13 hP hS hl
            have ff14 : w11 k = .inr (3, [.int (iI (sm)), .ref (b + (k + 1))]) := (fr13 k (by omega)).trans f0
            have ff15 : w11 kx = .inr (3, [.int (iI (sm)), .ref (b + (kx + 1))]) := (fr13 kx (by omega)).trans fx0
            have ff16 : w11 (kx + 1) = ir ct nx (gx) := (fr13 (kx + 1) (by omega)).trans fx1
            have ff17 : w11 ky = .inr (3, [.int (iI (sm)), .ref (b + (ky + 1))]) := (fr13 ky (by omega)).trans fy0
            have ff18 : w11 (ky + 1) = ir ct ny (gy) := (fr13 (ky + 1) (by omega)).trans fy1
            refine lv_iload hx hb d_P_setSum_25 (lv_at hl 0 rfl) ?_
            refine lv_iload hx hb d_P_setSum_27 (lv_at hl 2 rfl) ?_
            refine lv_iconst (v := iI (1)) hx hb d_P_setSum_29 rfl ?_
            refine x_iadd hx hb d_P_setSum_30 ?_
            refine lv_bipush (v := iI (8)) hx hb d_P_setSum_31 (by decide +kernel) ?_
            refine x_imul hx hb d_P_setSum_33 ?_
            refine x_icmp_ge (tgt := 73) hx hb ⟨by omega, by omega⟩ ⟨by omega, by omega⟩ d_P_setSum_34 (by decide) (fun hc => ?_) (fun hc => ?_)
            · refine lv_iinc (k := 2) (v := iI (a + 1)) (lv' := [(5, .int (iI (a + 1))), (7, .int (iI (t))), (6, .int (iI (mu sm (a)))), (0, .ref (b + k)), (1, .ref (b + kx)), (2, .int (iI (sg))), (3, .ref (b + ky)), (4, .int (iI (top)))]) hx hb d_P_setSum_73 hl rfl (iI_add _ _) (by decide) rfl (fun ls hl => ?_)
              refine lv_goto (tgt := 3) hx hb d_P_setSum_76 (by decide) ?_
              have hl : lv_has ls 8 [(5, .int (iI (a + 1))), (0, .ref (b + k)), (1, .ref (b + kx)), (2, .int (iI (sg))), (3, .ref (b + ky)), (4, .int (iI (top)))] := lv_sub hl [0, 3, 4, 5, 6, 7] rfl
              exact ihlo (a + 1) g2 w11 H locs ls (by omega) (by omega) (by omega) (fun r i h2 h3 h4 h5 => hg r i h2 h3 h4 (by omega)) fg12 fr13 hP hS hl
            · obtain ⟨i, hi⟩ : ∃ i : Int, t = a * 8 + i := ⟨t - a * 8, by omega⟩
              subst hi
              have ex := hX a i h0 (by omega) (by omega) (by omega)
              have ey := hY a i h0 (by omega) (by omega) (by omega)
              have bx := hX.bd (k := a) (i := i) h0 (by omega) (by omega) (by omega)
              have by_ := hY.bd (k := a) (i := i) h0 (by omega) (by omega) (by omega)
              have hsy : -32369 ≤ sg * gy (a * 8 + i) ∧ sg * gy (a * 8 + i) ≤ 32369 := by rcases hsg with rfl | rfl <;> omega
              refine lv_aload_n hx hb d_P_setSum_37 rfl (lv_at hl 3 rfl) ?_
              refine w_get (C := "LevelledRing$Poly") (T := T_P) (M := 2) hx hb hts hinP hown hK hP (k) (by omega) ff14 rfl 1 (by decide) kk0 (fun _ h => h) rfl d_P_setSum_38 ?_
              refine lv_iload hx hb d_P_setSum_41 (lv_at hl 0 rfl) ?_
              refine lv_aload_n hx hb d_P_setSum_43 rfl (lv_at hl 4 rfl) ?_
              refine w_get (C := "LevelledRing$Poly") (T := T_P) (M := 2) hx hb hts hinP hown hK hP (kx) (by omega) ff15 rfl 1 (by decide) kk0 (fun _ h => h) rfl d_P_setSum_44 ?_
              refine lv_iload hx hb d_P_setSum_47 (lv_at hl 0 rfl) ?_
              refine w_iald hx hb hK hP (kx + 1) (by omega) ff16 (by omega) (by omega) (by omega) d_P_setSum_49 ?_
              refine lv_iload_n hx hb d_P_setSum_50 rfl (lv_at hl 5 rfl) ?_
              refine lv_aload_n hx hb d_P_setSum_51 rfl (lv_at hl 6 rfl) ?_
              refine w_get (C := "LevelledRing$Poly") (T := T_P) (M := 2) hx hb hts hinP hown hK hP (ky) (by omega) ff17 rfl 1 (by decide) kk0 (fun _ h => h) rfl d_P_setSum_52 ?_
              refine lv_iload hx hb d_P_setSum_55 (lv_at hl 0 rfl) ?_
              refine w_iald hx hb hK hP (ky + 1) (by omega) ff18 (by omega) (by omega) (by omega) d_P_setSum_57 ?_
              refine x_imul hx hb d_P_setSum_58 ?_
              refine x_iadd hx hb d_P_setSum_59 ?_
              refine x_i2l hx hb ⟨by omega, by omega⟩ d_P_setSum_60 ?_
              refine lv_iload hx hb d_P_setSum_61 (lv_at hl 1 rfl) ?_
              refine w_calli (va_runSN (As := [.long (lI ((gx (a * 8 + i)) + ((sg) * (gy (a * 8 + i))))), .int (iI (mu sm (a)))]) (rest := [.int (iI (a * 8 + i)), .ref (b + (k + 1))]) ⟨hx, hb, hml, hown, hts⟩ (c_modulo l D ct st ke b N w11 ((gx (a * 8 + i)) + ((sg) * (gy (a * 8 + i)))) (mu sm (a)) ⟨by omega, by omega⟩ (by omega) (by omega)) ⟨va_cnB 2 hts (gC t_100) rfl rfl rfl kn4 kk2 (by decide +kernel) ⟨Nat.le_of_ble_eq_true rfl, Nat.le_of_ble_eq_true rfl⟩, kk3, trivial⟩ (pre_S E hP hS) rfl rfl hl.1 rfl (lv_room (Nat.le_of_ble_eq_true rfl)) d_P_setSum_63 ⟨(Nat.le_of_ble_eq_true rfl), (Nat.le_of_ble_eq_true rfl)⟩) hS (fun r20 z19 H locs hz hP hS => ?_)
              obtain ⟨rfl, rfl⟩ := hz
              refine w_iast hx hb hK hP hS (k + 1) (by omega) fg12 (by omega) (by omega) (by omega) d_P_setSum_66 (fun H locs hP hS => ?_)
              obtain ⟨u21, hu22, hP⟩ : ∃ zz : Nat → va_E, zz = va_up w11 (k + 1) (ir ct n (zu g2 (a * 8 + i) (((gx (a * 8 + i)) + ((sg) * (gy (a * 8 + i)))) % (mu sm (a))))) ∧ va_P D vwCl (wl N b zz) H := ⟨_, rfl, hP⟩
              have ff23 : u21 k = .inr (3, [.int (iI (sm)), .ref (b + (k + 1))]) := (congrFun hu22 _).trans ((up_n (by omega)).trans ff14)
              have ff24 : u21 kx = .inr (3, [.int (iI (sm)), .ref (b + (kx + 1))]) := (congrFun hu22 _).trans ((up_n (by omega)).trans ff15)
              have ff25 : u21 (kx + 1) = ir ct nx (gx) := (congrFun hu22 _).trans ((up_n (by omega)).trans ff16)
              have ff26 : u21 ky = .inr (3, [.int (iI (sm)), .ref (b + (ky + 1))]) := (congrFun hu22 _).trans ((up_n (by omega)).trans ff17)
              have ff27 : u21 (ky + 1) = ir ct ny (gy) := (congrFun hu22 _).trans ((up_n (by omega)).trans ff18)
              have ff28 : u21 (k + 1) = ir ct n (zu g2 (a * 8 + i) (((gx (a * 8 + i)) + ((sg) * (gy (a * 8 + i)))) % (mu sm (a)))) := (congrFun hu22 _).trans up_s
              have fr29 : ∀ j : Nat, (j ≠ k + 1) → u21 j = u j := fun j h0 => (congrFun hu22 j).trans ((up_n (by omega)).trans (fr13 j h0))
              refine lv_iinc (k := 0) (v := iI (a * 8 + i + 1)) (lv' := [(7, .int (iI (a * 8 + i + 1))), (6, .int (iI (mu sm (a)))), (5, .int (iI (a))), (0, .ref (b + k)), (1, .ref (b + kx)), (2, .int (iI (sg))), (3, .ref (b + ky)), (4, .int (iI (top)))]) hx hb d_P_setSum_67 hl rfl (iI_add _ _) (by decide) rfl (fun ls hl => ?_)
              refine lv_goto (tgt := 25) hx hb d_P_setSum_70 (by decide) ?_
              refine ihli (a * 8 + i + 1) _ u21 H locs ls (by omega) (by omega) (by omega) (fun r i2 h2 h3 h4 h5 => ?_) ff28 fr29 hP hS hl
              by_cases h6 : r * 8 + i2 = a * 8 + i
              · obtain ⟨rfl, rfl⟩ : r = a ∧ i2 = i := by omega
                rw [zu_s, ex, ey]
                exact cg_add cg_mod (cg_mul cg_r cg_mod)
              · rw [zu_n h6]
                exact hg r i2 h2 h3 h4 (by omega)
        exact li 9 (a * 8) g2 w1 H locs ls (by omega) (by omega) (by omega) hg fg2 fr3 hP hS hl
  exact lo (top + 2).toNat 0 g u H locs ls (by omega) (by omega) (by omega) (fun r i h2 h3 h4 h5 => by omega) f1 fr0 hP hS hl
abbrev rm_c_setFromRow : Room := { frames := 1, cells := 0, slots := 0, locals := 21 }
set_option maxHeartbeats 4000000 in
set_option maxRecDepth 100000 in
/-- setFromRow(x, row, top) -/
theorem c_setFromRow (l : Launch) (D : va_G) (ct : Nat → ClassId) (st ke : Nat → Nat) (b N : Nat) (u : Nat → va_E) (k : Nat) (sm : Int) (n : Nat) (g : Int → Int) (hk : k + 1 < N) (hn : n < 65536) (f0 : u k = po b k sm) (f1 : u (k + 1) = ir ct n g) (top : Int) (ht0 : 0 ≤ top) (ht3 : top ≤ 3) (hn8 : 8 * (top + 1) ≤ n) (hsm : sm = 0 ∨ sm = 1) (kx nx : Nat) (gx : Int → Int) (hkx : kx + 1 < N) (hnx : nx < 65536) (hnx8 : 8 * (top + 1) ≤ nx) (hnex : kx + 1 ≠ k + 1) (fx0 : u kx = po b kx sm) (fx1 : u (kx + 1) = ir ct nx gx) (row : Int) (hr0 : 0 ≤ row) (hr1 : row ≤ top) (X : Int → Int) (hX : Rep gx sm top X) : Met l y_P_setFromRow (w_P_setFromRow) rm_c_setFromRow (va_Pc [.ref (b + k), .ref (b + kx), .int (iI (row)), .int (iI (top))] (fun U => ev D ct st ke b U ∧ va_P D vwCl (wl N b u) U.heap)) (va_Qv (fun z : Nat → va_E => ∃ g2 : Int → Int, z (k + 1) = ir ct n g2 ∧ (Rep g2 sm top (fun i => X i % mu sm row)) ∧ ∀ j : Nat, j ≠ k + 1 → z j = u j) (fun (z : Nat → va_E) t => va_P D vwCl (wl (N) b (z)) t.heap) (AA b)) 0 0 (AA b) := by
  refine M_v (cc := c9_P_setFromRow) (maxL := 6) (by decide) rfl (Nat.le_of_ble_eq_true rfl) ?_
  intro p e s m args below meth c Q ls H locs hx hb hml hown hts hnm E hP hS hl ret
  have hl : lv_has ls 6 [(0, .ref (b + k)), (1, .ref (b + kx)), (2, .int (iI (row))), (3, .int (iI (top)))] := hl
  have hK := ev_K E
  have kk0 := hts (.fieldLink "LevelledRing$Poly" 15 "LevelledRing$Poly" "c" "[I") (List.mem_cons_of_mem _ t_38)
  have hinP : ∀ w ∈ u_ws "LevelledRing$Poly" T_P 2, w ∈ (w_P_setFromRow) := hin_P _
  have fr0 : ∀ j : Nat, (j ≠ k + 1) → u j = u j := fun _ _ => rfl
  have hplx : kx ≠ k + 1 := fun h => by rw [h, f1] at fx0; exact absurd fx0 (by intro h; cases h)
  refine lv_iconst (v := iI (0)) hx hb d_P_setFromRow_0 rfl ?_
  refine lv_istore (lv' := [(4, .int (iI (0))), (0, .ref (b + k)), (1, .ref (b + kx)), (2, .int (iI (row))), (3, .int (iI (top)))]) hx hb d_P_setFromRow_1 hl (by decide) rfl (fun ls hl => ?_)
  have lo : ∀ (d : Nat) (a : Int) (g2 : Int → Int) (w1 : Nat → va_E) (H : Heap) (locs : List Loc) (ls : Array Slot), (0 ≤ a) → (a ≤ top + 1) → (top + 1 - a < d) → (∀ r q : Int, 0 ≤ r → 0 ≤ q → q < 8 → r * 8 + q < a * 8 → g2 (r * 8 + q) = (X q % mu sm row) % mu sm r) → w1 (k + 1) = ir ct n (g2) → (∀ j : Nat, (j ≠ k + 1) → w1 j = u j) → va_P D vwCl (wl N b w1) H → va_S (AA b) s.heap H locs → lv_has ls 6 [(4, .int (iI (a))), (0, .ref (b + k)), (1, .ref (b + kx)), (2, .int (iI (row))), (3, .int (iI (top)))] → W p l e rm_c_setFromRow s m args below meth c H locs 0 0 Q (F0 m 3 ls []) := by
    intro d
    induction d with
    | zero => intro a g2 w1 H locs ls h0 h1 hd hg fg2 fr3 hP hS hl; exfalso; omega
    | succ d ihlo =>
      intro a g2 w1 H locs ls h0 h1 hd hg fg2 fr3 hP hS hl
      have ff4 : w1 k = .inr (3, [.int (iI (sm)), .ref (b + (k + 1))]) := (fr3 k (by omega)).trans f0
      have ff5 : w1 kx = .inr (3, [.int (iI (sm)), .ref (b + (kx + 1))]) := (fr3 kx (by omega)).trans fx0
      have ff6 : w1 (kx + 1) = ir ct nx (gx) := (fr3 (kx + 1) (by omega)).trans fx1
      refine lv_iload hx hb d_P_setFromRow_3 (lv_at hl 0 rfl) ?_
      refine lv_iload_n hx hb d_P_setFromRow_5 rfl (lv_at hl 4 rfl) ?_
      refine x_icmp_gt (tgt := 63) hx hb ⟨by omega, by omega⟩ ⟨by omega, by omega⟩ d_P_setFromRow_6 (by decide) (fun hc => ?_) (fun hc => ?_)
      · exact ret w1 H locs 63 ls ⟨g2, fg2, fun r i h2 h3 h4 h5 => hg r i h2 h4 h5 (by omega), fr3⟩ hP hS d_P_setFromRow_63
      · have hmu := mu_bd sm a
        have hmr := mu_bd sm row
        refine lv_iconst (v := iI (0)) hx hb d_P_setFromRow_9 rfl ?_
        refine lv_istore (lv' := [(5, .int (iI (0))), (4, .int (iI (a))), (0, .ref (b + k)), (1, .ref (b + kx)), (2, .int (iI (row))), (3, .int (iI (top)))]) hx hb d_P_setFromRow_10 hl (by decide) rfl (fun ls hl => ?_)
        have li : ∀ (d2 : Nat) (i : Int) (g2 : Int → Int) (w7 : Nat → va_E) (H : Heap) (locs : List Loc) (ls : Array Slot), (0 ≤ i) → (i ≤ 8) → (8 - i < d2) → (∀ r q : Int, 0 ≤ r → 0 ≤ q → q < 8 → r * 8 + q < a * 8 + i → g2 (r * 8 + q) = (X q % mu sm row) % mu sm r) → w7 (k + 1) = ir ct n (g2) → (∀ j : Nat, (j ≠ k + 1) → w7 j = u j) → va_P D vwCl (wl N b w7) H → va_S (AA b) s.heap H locs → lv_has ls 6 [(5, .int (iI (i))), (4, .int (iI (a))), (0, .ref (b + k)), (1, .ref (b + kx)), (2, .int (iI (row))), (3, .int (iI (top)))] → W p l e rm_c_setFromRow s m args below meth c H locs 0 0 Q (F0 m 12 ls []) := by
          intro d2
          induction d2 with
          | zero => intro i g2 w7 H locs ls hi0 hi8 hd2 hg fg8 fr9 hP hS hl; exfalso; omega
          | succ d2 ihli =>
            intro i g2 w7 H locs ls hi0 hi8 hd2 hg fg8 fr9 hP hS hl
            have ff10 : w7 k = .inr (3, [.int (iI (sm)), .ref (b + (k + 1))]) := (fr9 k (by omega)).trans f0
            have ff11 : w7 kx = .inr (3, [.int (iI (sm)), .ref (b + (kx + 1))]) := (fr9 kx (by omega)).trans fx0
            have ff12 : w7 (kx + 1) = ir ct nx (gx) := (fr9 (kx + 1) (by omega)).trans fx1
            refine lv_iload hx hb d_P_setFromRow_12 (lv_at hl 0 rfl) ?_
            refine lv_bipush (v := iI (8)) hx hb d_P_setFromRow_14 (by decide +kernel) ?_
            refine x_icmp_ge (tgt := 57) hx hb ⟨by omega, by omega⟩ ⟨by omega, by omega⟩ d_P_setFromRow_16 (by decide) (fun hc => ?_) (fun hc => ?_)
            · refine lv_iinc (k := 1) (v := iI (a + 1)) (lv' := [(4, .int (iI (a + 1))), (5, .int (iI (i))), (0, .ref (b + k)), (1, .ref (b + kx)), (2, .int (iI (row))), (3, .int (iI (top)))]) hx hb d_P_setFromRow_57 hl rfl (iI_add _ _) (by decide) rfl (fun ls hl => ?_)
              refine lv_goto (tgt := 3) hx hb d_P_setFromRow_60 (by decide) ?_
              have hl : lv_has ls 6 [(4, .int (iI (a + 1))), (0, .ref (b + k)), (1, .ref (b + kx)), (2, .int (iI (row))), (3, .int (iI (top)))] := lv_sub hl [0, 2, 3, 4, 5] rfl
              exact ihlo (a + 1) g2 w7 H locs ls (by omega) (by omega) (by omega) (fun r i h2 h3 h4 h5 => hg r i h2 h3 h4 (by omega)) fg8 fr9 hP hS hl
            · have ex := hX row i hr0 (by omega) (by omega) (by omega)
              have bx := hX.bd (k := row) (i := i) hr0 (by omega) (by omega) (by omega)
              refine lv_aload_n hx hb d_P_setFromRow_19 rfl (lv_at hl 2 rfl) ?_
              refine w_get (C := "LevelledRing$Poly") (T := T_P) (M := 2) hx hb hts hinP hown hK hP (k) (by omega) ff10 rfl 1 (by decide) kk0 (fun _ h => h) rfl d_P_setFromRow_20 ?_
              refine lv_iload hx hb d_P_setFromRow_23 (lv_at hl 1 rfl) ?_
              refine lv_bipush (v := iI (8)) hx hb d_P_setFromRow_25 (by decide +kernel) ?_
              refine x_imul hx hb d_P_setFromRow_27 ?_
              refine lv_iload hx hb d_P_setFromRow_28 (lv_at hl 0 rfl) ?_
              refine x_iadd hx hb d_P_setFromRow_30 ?_
              refine lv_aload_n hx hb d_P_setFromRow_31 rfl (lv_at hl 3 rfl) ?_
              refine w_get (C := "LevelledRing$Poly") (T := T_P) (M := 2) hx hb hts hinP hown hK hP (kx) (by omega) ff11 rfl 1 (by decide) kk0 (fun _ h => h) rfl d_P_setFromRow_32 ?_
              refine lv_iload_n hx hb d_P_setFromRow_35 rfl (lv_at hl 4 rfl) ?_
              refine lv_bipush (v := iI (8)) hx hb d_P_setFromRow_36 (by decide +kernel) ?_
              refine x_imul hx hb d_P_setFromRow_38 ?_
              refine lv_iload hx hb d_P_setFromRow_39 (lv_at hl 0 rfl) ?_
              refine x_iadd hx hb d_P_setFromRow_41 ?_
              refine w_iald hx hb hK hP (kx + 1) (by omega) ff12 (by omega) (by omega) (by omega) d_P_setFromRow_42 ?_
              refine lv_aload_n hx hb d_P_setFromRow_43 rfl (lv_at hl 2 rfl) ?_
              refine lv_iload hx hb d_P_setFromRow_44 (lv_at hl 1 rfl) ?_
              refine w_calli (va_runV (As := [.int (iI (a))]) (rest := [.int (iI (gx ((row * 8) + (i)))), .int (iI ((a * 8) + (i))), .ref (b + (k + 1))]) ⟨hx, hb, hml, hown, hts⟩ (c_rowModulus l D ct st ke b N w7 k sm (a) (by omega) ff10 hsm (by omega) (by omega)) (cwV 1 hts (gV t_105 t_107 (tb_sel ((y_P_rowModulus), 2) (List.mem_of_getElem? (i := 0) (by decide +kernel))) t_3 t_108) rfl rfl rfl (by decide +kernel) ⟨Nat.le_of_ble_eq_true rfl, Nat.le_of_ble_eq_true rfl⟩) (pre_V E hP hS (k) (by omega) ff10 rfl) rfl rfl hl.1 rfl (lv_room (Nat.le_of_ble_eq_true rfl)) d_P_setFromRow_46 ⟨(Nat.le_of_ble_eq_true rfl), (Nat.le_of_ble_eq_true rfl)⟩) hS (fun r14 z13 H locs hz hP hS => ?_)
              obtain ⟨rfl, rfl⟩ := hz
              refine x_iremP hx hb ⟨by omega, by omega⟩ ⟨by omega, by omega⟩ (by omega) (by omega) d_P_setFromRow_49 ?_
              refine w_iast hx hb hK hP hS (k + 1) (by omega) fg8 (by omega) (by omega) (by omega) d_P_setFromRow_50 (fun H locs hP hS => ?_)
              obtain ⟨u15, hu16, hP⟩ : ∃ zz : Nat → va_E, zz = va_up w7 (k + 1) (ir ct n (zu g2 ((a * 8) + (i)) ((gx ((row * 8) + (i))) % (mu sm (a))))) ∧ va_P D vwCl (wl N b zz) H := ⟨_, rfl, hP⟩
              have ff17 : u15 k = .inr (3, [.int (iI (sm)), .ref (b + (k + 1))]) := (congrFun hu16 _).trans ((up_n (by omega)).trans ff10)
              have ff18 : u15 kx = .inr (3, [.int (iI (sm)), .ref (b + (kx + 1))]) := (congrFun hu16 _).trans ((up_n (by omega)).trans ff11)
              have ff19 : u15 (kx + 1) = ir ct nx (gx) := (congrFun hu16 _).trans ((up_n (by omega)).trans ff12)
              have ff20 : u15 (k + 1) = ir ct n (zu g2 ((a * 8) + (i)) ((gx ((row * 8) + (i))) % (mu sm (a)))) := (congrFun hu16 _).trans up_s
              have fr21 : ∀ j : Nat, (j ≠ k + 1) → u15 j = u j := fun j h0 => (congrFun hu16 j).trans ((up_n (by omega)).trans (fr9 j h0))
              refine lv_iinc (k := 0) (v := iI (i + 1)) (lv' := [(5, .int (iI (i + 1))), (4, .int (iI (a))), (0, .ref (b + k)), (1, .ref (b + kx)), (2, .int (iI (row))), (3, .int (iI (top)))]) hx hb d_P_setFromRow_51 hl rfl (iI_add _ _) (by decide) rfl (fun ls hl => ?_)
              refine lv_goto (tgt := 12) hx hb d_P_setFromRow_54 (by decide) ?_
              refine ihli (i + 1) _ u15 H locs ls (by omega) (by omega) (by omega) (fun r i2 h2 h3 h4 h5 => ?_) ff20 fr21 hP hS hl
              by_cases h6 : r * 8 + i2 = a * 8 + i
              · obtain ⟨rfl, rfl⟩ : r = a ∧ i2 = i := by omega
                rw [zu_s, ex]
              · rw [zu_n h6]
                exact hg r i2 h2 h3 h4 (by omega)
        exact li 9 0 g2 w1 H locs ls (by omega) (by omega) (by omega) (fun r i h2 h3 h4 h5 => hg r i h2 h3 h4 (by omega)) fg2 fr3 hP hS hl
  exact lo (top + 2).toNat 0 g u H locs ls (by omega) (by omega) (by omega) (fun r i h2 h3 h4 h5 => by omega) f1 fr0 hP hS hl
abbrev rm_c_pc : Room := { frames := 0, cells := 0, slots := 0, locals := 0 }
set_option maxHeartbeats 4000000 in
set_option maxRecDepth 100000 in
/-- productCoefficient(x, y, a * 8, i) -/
theorem c_pc (l : Launch) (D : va_G) (ct : Nat → ClassId) (st ke : Nat → Nat) (b N : Nat) (u : Nat → va_E) (sm : Int) (kx nx : Nat) (gx : Int → Int) (hkx : kx + 1 < N) (hnx : nx < 65536) (fx0 : u kx = po b kx sm) (fx1 : u (kx + 1) = ir ct nx gx) (ky ny : Nat) (gy : Int → Int) (hky : ky + 1 < N) (hny : ny < 65536) (fy0 : u ky = po b ky sm) (fy1 : u (ky + 1) = ir ct ny gy) (a i : Int) (ha : 0 ≤ a) (hax : a * 8 + 8 ≤ nx) (hay : a * 8 + 8 ≤ ny) (hi0 : 0 ≤ i) (hi8 : i < 8) (hX : ∀ j : Int, 0 ≤ j → j < 8 → 0 ≤ gx (a * 8 + j) ∧ gx (a * 8 + j) ≤ 32369) (hY : ∀ j : Int, 0 ≤ j → j < 8 → 0 ≤ gy (a * 8 + j) ∧ gy (a * 8 + j) ≤ 32369) : Met l y_P_productCoefficient (w_P_productCoefficient) rm_c_pc (va_Pc [.ref (b + kx), .ref (b + ky), .int (iI (a * 8)), .int (iI (i))] (fun U => ev D ct st ke b U ∧ va_P D vwCl (wl N b u) U.heap)) (va_Ql (fun (r : Int64) (z : Nat → va_E) => r = lI (nc (fun j => gx (a * 8 + j)) (fun j => gy (a * 8 + j)) i) ∧ u = z) (fun (z : Nat → va_E) t => va_P D vwCl (wl (N) b (z)) t.heap) (AA b)) 0 0 (AA b) := by
  refine M_l (cc := c9_P_productCoefficient) (maxL := 7) (by decide) rfl (Nat.le_of_ble_eq_true rfl) ?_
  intro p e s m args below meth c Q ls H locs hx hb hml hown hts hnm E hP hS hl ret
  have hl : lv_has ls 7 [(0, .ref (b + kx)), (1, .ref (b + ky)), (2, .int (iI (a * 8))), (3, .int (iI (i)))] := hl
  have hK := ev_K E
  have kk0 := hts (.fieldLink "LevelledRing$Poly" 15 "LevelledRing$Poly" "c" "[I") (List.mem_cons_of_mem _ t_38)
  have hinP : ∀ w ∈ u_ws "LevelledRing$Poly" T_P 2, w ∈ (w_P_productCoefficient) := hin_P _
  have fr0 : ∀ j : Nat, u j = u j := fun _  => rfl
  refine lv_lconst (v := lI 0) hx hb d_P_productCoefficient_0 rfl ?_
  refine lv_lstore (lv' := [(4, .long (lI (0))), (0, .ref (b + kx)), (1, .ref (b + ky)), (2, .int (iI (a * 8))), (3, .int (iI (i)))]) hx hb d_P_productCoefficient_1 hl (by decide) rfl (fun ls hl => ?_)
  refine lv_iconst (v := iI (0)) hx hb d_P_productCoefficient_3 rfl ?_
  refine lv_istore (lv' := [(6, .int (iI (0))), (4, .long (lI (0))), (0, .ref (b + kx)), (1, .ref (b + ky)), (2, .int (iI (a * 8))), (3, .int (iI (i)))]) hx hb d_P_productCoefficient_4 hl (by decide) rfl (fun ls hl => ?_)
  have l2 : ∀ (d2 : Nat) (j : Int) (H : Heap) (locs : List Loc) (ls : Array Slot), (i + 1 ≤ j) → (j ≤ 8) → (8 - j < d2) → va_P D vwCl (wl N b u) H → va_S (AA b) s.heap H locs → lv_has ls 7 [(6, .int (iI (j))), (4, .long (lI (sn (nt (fun j => gx (a * 8 + j)) (fun j => gy (a * 8 + j)) i) (j).toNat))), (0, .ref (b + kx)), (1, .ref (b + ky)), (2, .int (iI (a * 8))), (3, .int (iI (i)))] → W p l e rm_c_pc s m args below meth c H locs 0 0 Q (F0 m 51 ls []) := by
    intro d2
    induction d2 with
    | zero => intro j H locs ls h0 h1 hd hP hS hl; exfalso; omega
    | succ d2 ihl2 =>
      intro j H locs ls h0 h1 hd hP hS hl
      refine lv_iload hx hb d_P_productCoefficient_51 (lv_at hl 0 rfl) ?_
      refine lv_bipush (v := iI (8)) hx hb d_P_productCoefficient_53 (by decide +kernel) ?_
      refine x_icmp_ge (tgt := 95) hx hb ⟨by omega, by omega⟩ ⟨by omega, by omega⟩ d_P_productCoefficient_55 (by decide) (fun hc => ?_) (fun hc => ?_)
      · obtain rfl : j = 8 := by omega
        refine lv_lload hx hb d_P_productCoefficient_95 (lv_at hl 1 rfl) ?_
        exact ret _ u H locs 97 ls ⟨rfl, rfl⟩ hP hS d_P_productCoefficient_97
      · have bx := hX j (by omega) (by omega)
        have by_ := hY (8 + i - j) (by omega) (by omega)
        rw [show a * 8 + (8 + i - j) = a * 8 + 8 + i - j by omega] at by_
        refine lv_lload hx hb d_P_productCoefficient_58 (lv_at hl 1 rfl) ?_
        refine lv_aload_n hx hb d_P_productCoefficient_60 rfl (lv_at hl 2 rfl) ?_
        refine w_get (C := "LevelledRing$Poly") (T := T_P) (M := 2) hx hb hts hinP hown hK hP (kx) (by omega) fx0 rfl 1 (by decide) kk0 (fun _ h => h) rfl d_P_productCoefficient_61 ?_
        refine lv_iload_n hx hb d_P_productCoefficient_64 rfl (lv_at hl 4 rfl) ?_
        refine lv_iload hx hb d_P_productCoefficient_65 (lv_at hl 0 rfl) ?_
        refine x_iadd hx hb d_P_productCoefficient_67 ?_
        refine w_iald hx hb hK hP (kx + 1) (by omega) fx1 (by omega) (by omega) (by omega) d_P_productCoefficient_68 ?_
        refine x_i2l hx hb ⟨by omega, by omega⟩ d_P_productCoefficient_69 ?_
        refine lv_aload_n hx hb d_P_productCoefficient_70 rfl (lv_at hl 3 rfl) ?_
        refine w_get (C := "LevelledRing$Poly") (T := T_P) (M := 2) hx hb hts hinP hown hK hP (ky) (by omega) fy0 rfl 1 (by decide) kk0 (fun _ h => h) rfl d_P_productCoefficient_71 ?_
        refine lv_iload_n hx hb d_P_productCoefficient_74 rfl (lv_at hl 4 rfl) ?_
        refine lv_bipush (v := iI (8)) hx hb d_P_productCoefficient_75 (by decide +kernel) ?_
        refine x_iadd hx hb d_P_productCoefficient_77 ?_
        refine lv_iload_n hx hb d_P_productCoefficient_78 rfl (lv_at hl 5 rfl) ?_
        refine x_iadd hx hb d_P_productCoefficient_79 ?_
        refine lv_iload hx hb d_P_productCoefficient_80 (lv_at hl 0 rfl) ?_
        refine x_isub hx hb d_P_productCoefficient_82 ?_
        refine w_iald hx hb hK hP (ky + 1) (by omega) fy1 (by omega) (by omega) (by omega) d_P_productCoefficient_83 ?_
        refine x_i2l hx hb ⟨by omega, by omega⟩ d_P_productCoefficient_84 ?_
        refine x_lmul hx hb d_P_productCoefficient_85 ?_
        refine x_lsub hx hb d_P_productCoefficient_86 ?_
        refine x_le (y := sn (nt (fun j => gx (a * 8 + j)) (fun j => gy (a * 8 + j)) i) (j + 1).toNat) (by rw [sn_step _ (by omega)]; unfold nt; rw [if_neg (by omega), show a * 8 + 8 + i - j = a * 8 + (8 + i - j) by omega, Int.sub_eq_add_neg]) ?_
        refine lv_lstore (lv' := [(4, .long (lI (sn (nt (fun j => gx (a * 8 + j)) (fun j => gy (a * 8 + j)) i) (j + 1).toNat))), (6, .int (iI (j))), (0, .ref (b + kx)), (1, .ref (b + ky)), (2, .int (iI (a * 8))), (3, .int (iI (i)))]) hx hb d_P_productCoefficient_87 hl (by decide) rfl (fun ls hl => ?_)
        refine lv_iinc (k := 1) (v := iI (j + 1)) (lv' := [(6, .int (iI (j + 1))), (4, .long (lI (sn (nt (fun j => gx (a * 8 + j)) (fun j => gy (a * 8 + j)) i) (j + 1).toNat))), (0, .ref (b + kx)), (1, .ref (b + ky)), (2, .int (iI (a * 8))), (3, .int (iI (i)))]) hx hb d_P_productCoefficient_89 hl rfl (iI_add _ _) (by decide) rfl (fun ls hl => ?_)
        refine lv_goto (tgt := 51) hx hb d_P_productCoefficient_92 (by decide) ?_
        have hl : lv_has ls 7 [(6, .int (iI (j + 1))), (4, .long (lI (sn (nt (fun j => gx (a * 8 + j)) (fun j => gy (a * 8 + j)) i) (j + 1).toNat))), (0, .ref (b + kx)), (1, .ref (b + ky)), (2, .int (iI (a * 8))), (3, .int (iI (i)))] := lv_sub hl [0, 1, 2, 3, 4, 5] rfl
        exact ihl2 (j + 1) H locs ls (by omega) (by omega) (by omega) hP hS hl
  have l1 : ∀ (d : Nat) (j : Int) (H : Heap) (locs : List Loc) (ls : Array Slot), (0 ≤ j) → (j ≤ i + 1) → (i + 1 - j < d) → va_P D vwCl (wl N b u) H → va_S (AA b) s.heap H locs → lv_has ls 7 [(6, .int (iI (j))), (4, .long (lI (sn (nt (fun j => gx (a * 8 + j)) (fun j => gy (a * 8 + j)) i) (j).toNat))), (0, .ref (b + kx)), (1, .ref (b + ky)), (2, .int (iI (a * 8))), (3, .int (iI (i)))] → W p l e rm_c_pc s m args below meth c H locs 0 0 Q (F0 m 6 ls []) := by
    intro d
    induction d with
    | zero => intro j H locs ls h0 h1 hd hP hS hl; exfalso; omega
    | succ d ihl1 =>
      intro j H locs ls h0 h1 hd hP hS hl
      refine lv_iload hx hb d_P_productCoefficient_6 (lv_at hl 0 rfl) ?_
      refine lv_iload_n hx hb d_P_productCoefficient_8 rfl (lv_at hl 5 rfl) ?_
      refine x_icmp_gt (tgt := 46) hx hb ⟨by omega, by omega⟩ ⟨by omega, by omega⟩ d_P_productCoefficient_9 (by decide) (fun hc => ?_) (fun hc => ?_)
      · obtain rfl : j = i + 1 := by omega
        refine lv_iload_n hx hb d_P_productCoefficient_46 rfl (lv_at hl 5 rfl) ?_
        refine lv_iconst (v := iI (1)) hx hb d_P_productCoefficient_47 rfl ?_
        refine x_iadd hx hb d_P_productCoefficient_48 ?_
        refine lv_istore (lv' := [(6, .int (iI (i + 1))), (4, .long (lI (sn (nt (fun j => gx (a * 8 + j)) (fun j => gy (a * 8 + j)) i) (i + 1).toNat))), (0, .ref (b + kx)), (1, .ref (b + ky)), (2, .int (iI (a * 8))), (3, .int (iI (i)))]) hx hb d_P_productCoefficient_49 hl (by decide) rfl (fun ls hl => ?_)
        have hl : lv_has ls 7 [(6, .int (iI (i + 1))), (4, .long (lI (sn (nt (fun j => gx (a * 8 + j)) (fun j => gy (a * 8 + j)) i) (i + 1).toNat))), (0, .ref (b + kx)), (1, .ref (b + ky)), (2, .int (iI (a * 8))), (3, .int (iI (i)))] := lv_sub hl [0, 1, 2, 3, 4, 5] rfl
        exact l2 9 (i + 1) H locs ls (by omega) (by omega) (by omega) hP hS hl
      · have bx := hX j (by omega) (by omega)
        have by_ := hY (i - j) (by omega) (by omega)
        rw [show a * 8 + (i - j) = a * 8 + i - j by omega] at by_
        refine lv_lload hx hb d_P_productCoefficient_12 (lv_at hl 1 rfl) ?_
        refine lv_aload_n hx hb d_P_productCoefficient_14 rfl (lv_at hl 2 rfl) ?_
        refine w_get (C := "LevelledRing$Poly") (T := T_P) (M := 2) hx hb hts hinP hown hK hP (kx) (by omega) fx0 rfl 1 (by decide) kk0 (fun _ h => h) rfl d_P_productCoefficient_15 ?_
        refine lv_iload_n hx hb d_P_productCoefficient_18 rfl (lv_at hl 4 rfl) ?_
        refine lv_iload hx hb d_P_productCoefficient_19 (lv_at hl 0 rfl) ?_
        refine x_iadd hx hb d_P_productCoefficient_21 ?_
        refine w_iald hx hb hK hP (kx + 1) (by omega) fx1 (by omega) (by omega) (by omega) d_P_productCoefficient_22 ?_
        refine x_i2l hx hb ⟨by omega, by omega⟩ d_P_productCoefficient_23 ?_
        refine lv_aload_n hx hb d_P_productCoefficient_24 rfl (lv_at hl 3 rfl) ?_
        refine w_get (C := "LevelledRing$Poly") (T := T_P) (M := 2) hx hb hts hinP hown hK hP (ky) (by omega) fy0 rfl 1 (by decide) kk0 (fun _ h => h) rfl d_P_productCoefficient_25 ?_
        refine lv_iload_n hx hb d_P_productCoefficient_28 rfl (lv_at hl 4 rfl) ?_
        refine lv_iload_n hx hb d_P_productCoefficient_29 rfl (lv_at hl 5 rfl) ?_
        refine x_iadd hx hb d_P_productCoefficient_30 ?_
        refine lv_iload hx hb d_P_productCoefficient_31 (lv_at hl 0 rfl) ?_
        refine x_isub hx hb d_P_productCoefficient_33 ?_
        refine w_iald hx hb hK hP (ky + 1) (by omega) fy1 (by omega) (by omega) (by omega) d_P_productCoefficient_34 ?_
        refine x_i2l hx hb ⟨by omega, by omega⟩ d_P_productCoefficient_35 ?_
        refine x_lmul hx hb d_P_productCoefficient_36 ?_
        refine x_ladd hx hb d_P_productCoefficient_37 ?_
        refine x_le (y := sn (nt (fun j => gx (a * 8 + j)) (fun j => gy (a * 8 + j)) i) (j + 1).toNat) (by rw [sn_step _ (by omega)]; unfold nt; rw [if_pos (by omega), show a * 8 + i - j = a * 8 + (i - j) by omega]) ?_
        refine lv_lstore (lv' := [(4, .long (lI (sn (nt (fun j => gx (a * 8 + j)) (fun j => gy (a * 8 + j)) i) (j + 1).toNat))), (6, .int (iI (j))), (0, .ref (b + kx)), (1, .ref (b + ky)), (2, .int (iI (a * 8))), (3, .int (iI (i)))]) hx hb d_P_productCoefficient_38 hl (by decide) rfl (fun ls hl => ?_)
        refine lv_iinc (k := 1) (v := iI (j + 1)) (lv' := [(6, .int (iI (j + 1))), (4, .long (lI (sn (nt (fun j => gx (a * 8 + j)) (fun j => gy (a * 8 + j)) i) (j + 1).toNat))), (0, .ref (b + kx)), (1, .ref (b + ky)), (2, .int (iI (a * 8))), (3, .int (iI (i)))]) hx hb d_P_productCoefficient_40 hl rfl (iI_add _ _) (by decide) rfl (fun ls hl => ?_)
        refine lv_goto (tgt := 6) hx hb d_P_productCoefficient_43 (by decide) ?_
        have hl : lv_has ls 7 [(6, .int (iI (j + 1))), (4, .long (lI (sn (nt (fun j => gx (a * 8 + j)) (fun j => gy (a * 8 + j)) i) (j + 1).toNat))), (0, .ref (b + kx)), (1, .ref (b + ky)), (2, .int (iI (a * 8))), (3, .int (iI (i)))] := lv_sub hl [0, 1, 2, 3, 4, 5] rfl
        exact ihl1 (j + 1) H locs ls (by omega) (by omega) (by omega) hP hS hl
  exact l1 10 0 H locs ls (by omega) (by omega) (by omega) hP hS hl
abbrev rm_c_copyFrom : Room := { frames := 1, cells := 0, slots := 0, locals := 40 }
set_option maxHeartbeats 4000000 in
set_option maxRecDepth 100000 in
/-- copyFrom(x) -/
theorem c_copyFrom (l : Launch) (D : va_G) (ct : Nat → ClassId) (st ke : Nat → Nat) (b N : Nat) (u : Nat → va_E) (k : Nat) (sm : Int) (n : Nat) (g : Int → Int) (hk : k + 1 < N) (hn : n < 65536) (f0 : u k = po b k sm) (f1 : u (k + 1) = ir ct n g) (kx : Nat) (gx : Int → Int) (hkx : kx + 1 < N) (fx0 : u kx = po b kx sm) (fx1 : u (kx + 1) = ir ct n gx) : Met l y_P_copyFrom (w_P_copyFrom) rm_c_copyFrom (va_Pc [.ref (b + k), .ref (b + kx)] (fun U => ev D ct st ke b U ∧ va_P D vwCl (wl N b u) U.heap)) (va_Qv (fun z : Nat → va_E => ∃ g2 : Int → Int, z (k + 1) = ir ct n g2 ∧ (∀ j : Int, 0 ≤ j → j < n → g2 j = gx j) ∧ ∀ j : Nat, j ≠ k + 1 → z j = u j) (fun (z : Nat → va_E) t => va_P D vwCl (wl (N) b (z)) t.heap) (AA b)) 0 0 (AA b) := by
  refine M_v (cc := c9_P_copyFrom) (maxL := 2) (by decide) rfl (Nat.le_of_ble_eq_true rfl) ?_
  intro p e s m args below meth c Q ls H locs hx hb hml hown hts hnm E hP hS hl ret
  have hl : lv_has ls 2 [(0, .ref (b + k)), (1, .ref (b + kx))] := hl
  have hK := ev_K E
  have kk0 := hts (.fieldLink "LevelledRing$Poly" 15 "LevelledRing$Poly" "c" "[I") (List.mem_cons_of_mem _ t_38)
  have hinP : ∀ w ∈ u_ws "LevelledRing$Poly" T_P 2, w ∈ (w_P_copyFrom) := hin_P _
  have kk2 := hts (.methodLink "LevelledRing$Poly" 22 Lib.Math.min.name) (List.mem_cons_of_mem _ t_228)
  have kk3 := hts (.static Lib.Math.min.name) (List.mem_cons_of_mem _ t_229)
  have kk4 := hts (.initialized "java/lang/Math") (List.mem_cons_of_mem _ t_10)
  have kk5 := hts (.code Lib.Math.min.name Lib.Math.min.code 2 (some .int)) (List.mem_cons_of_mem _ t_230)
  have kk6 := hts (.methodLink "LevelledRing$Poly" 28 arraycopyName) (List.mem_cons_of_mem _ t_231)
  have kk7 := hts (.native arraycopyName) (List.mem_cons_of_mem _ t_233)
  have kk8 := hts (.static arraycopyName) (List.mem_cons_of_mem _ t_232)
  have kk9 := hts (.initialized "java/lang/System") (List.mem_cons_of_mem _ t_11)
  have fr0 : ∀ j : Nat, (j ≠ k + 1) → u j = u j := fun _ _ => rfl
  refine lv_aload_n hx hb d_P_copyFrom_0 rfl (lv_at hl 1 rfl) ?_
  refine w_get (C := "LevelledRing$Poly") (T := T_P) (M := 2) hx hb hts hinP hown hK hP (kx) (by omega) fx0 rfl 1 (by decide) kk0 (fun _ h => h) rfl d_P_copyFrom_1 ?_
  refine lv_iconst (v := iI (0)) hx hb d_P_copyFrom_4 rfl ?_
  refine lv_aload_n hx hb d_P_copyFrom_5 rfl (lv_at hl 0 rfl) ?_
  refine w_get (C := "LevelledRing$Poly") (T := T_P) (M := 2) hx hb hts hinP hown hK hP (k) (by omega) f0 rfl 1 (by decide) kk0 (fun _ h => h) rfl d_P_copyFrom_6 ?_
  refine lv_iconst (v := iI (0)) hx hb d_P_copyFrom_9 rfl ?_
  refine lv_aload_n hx hb d_P_copyFrom_10 rfl (lv_at hl 0 rfl) ?_
  refine w_get (C := "LevelledRing$Poly") (T := T_P) (M := 2) hx hb hts hinP hown hK hP (k) (by omega) f0 rfl 1 (by decide) kk0 (fun _ h => h) rfl d_P_copyFrom_11 ?_
  refine w_alen hx hb hK hP (k + 1) (by omega) f1 d_P_copyFrom_14 ?_
  refine lv_aload_n hx hb d_P_copyFrom_15 rfl (lv_at hl 1 rfl) ?_
  refine w_get (C := "LevelledRing$Poly") (T := T_P) (M := 2) hx hb hts hinP hown hK hP (kx) (by omega) fx0 rfl 1 (by decide) kk0 (fun _ h => h) rfl d_P_copyFrom_16 ?_
  refine w_alen hx hb hK hP (kx + 1) (by omega) fx1 d_P_copyFrom_19 ?_
  refine va_mmin hx hb (hml.trans hl.1.symm) hown kk2 kk3 kk4 kk5 (Nat.le_of_ble_eq_true rfl) (Nat.le_of_ble_eq_true rfl) (Nat.zero_le _) (Nat.zero_le _) d_P_copyFrom_20 ?_
  refine x_i (y := iI n) (by split <;> rfl) ?_
  refine w_copy hx hb (hml.trans hl.1.symm) hown kk6 kk7 kk8 kk9 hK hP hS (kx + 1) (k + 1) (by omega) (by omega) fx1 f1 hn (Nat.le_of_ble_eq_true rfl) (Nat.le_of_ble_eq_true rfl) d_P_copyFrom_23 (fun H locs hP hS => ?_)
  exact ret _ H locs 26 ls ⟨zcp gx g n, up_s, fun j h0 h1 => zcp_in h0 h1, fun j h => up_n h⟩ hP hS d_P_copyFrom_26
end
section
abbrev rm_c_addProduct : Room := { frames := 1, cells := 0, slots := 0, locals := 26 }
set_option maxHeartbeats 4000000 in
set_option maxRecDepth 100000 in
/-- addProduct(sg, x, y, top) -/
theorem c_addProduct (l : Launch) (D : va_G) (ct : Nat → ClassId) (st ke : Nat → Nat) (b N : Nat) (u : Nat → va_E) (k : Nat) (sm : Int) (n : Nat) (g : Int → Int) (hk : k + 1 < N) (hn : n < 65536) (f0 : u k = po b k sm) (f1 : u (k + 1) = ir ct n g) (top : Int) (ht0 : 0 ≤ top) (ht3 : top ≤ 3) (hn8 : 8 * (top + 1) ≤ n) (hsm : sm = 0 ∨ sm = 1) (kx nx : Nat) (gx : Int → Int) (hkx : kx + 1 < N) (hnx : nx < 65536) (hnx8 : 8 * (top + 1) ≤ nx) (hnex : kx + 1 ≠ k + 1) (fx0 : u kx = po b kx sm) (fx1 : u (kx + 1) = ir ct nx gx) (ky ny : Nat) (gy : Int → Int) (hky : ky + 1 < N) (hny : ny < 65536) (hny8 : 8 * (top + 1) ≤ ny) (hney : ky + 1 ≠ k + 1) (fy0 : u ky = po b ky sm) (fy1 : u (ky + 1) = ir ct ny gy) (sg : Int) (hsg : sg = 1 ∨ sg = -1) (C X Y : Int → Int) (hC : Rep g sm top C) (hX : Rep gx sm top X) (hY : Rep gy sm top Y) : Met l y_P_addProduct (w_P_addProduct) rm_c_addProduct (va_Pc [.ref (b + k), .int (iI (sg)), .ref (b + kx), .ref (b + ky), .int (iI (top))] (fun U => ev D ct st ke b U ∧ va_P D vwCl (wl N b u) U.heap)) (va_Qv (fun z : Nat → va_E => ∃ g2 : Int → Int, z (k + 1) = ir ct n g2 ∧ (Rep g2 sm top (fun i => C i + sg * nc X Y i)) ∧ ∀ j : Nat, j ≠ k + 1 → z j = u j) (fun (z : Nat → va_E) t => va_P D vwCl (wl (N) b (z)) t.heap) (AA b)) 0 0 (AA b) := by
  refine M_v (cc := c9_P_addProduct) (maxL := 9) (by decide) rfl (Nat.le_of_ble_eq_true rfl) ?_
  intro p e s m args below meth c Q ls H locs hx hb hml hown hts hnm E hP hS hl ret
  have hl : lv_has ls 9 [(0, .ref (b + k)), (1, .int (iI (sg))), (2, .ref (b + kx)), (3, .ref (b + ky)), (4, .int (iI (top)))] := hl
  have hK := ev_K E
  have kk0 := hts (.fieldLink "LevelledRing$Poly" 15 "LevelledRing$Poly" "c" "[I") (List.mem_cons_of_mem _ t_38)
  have hinP : ∀ w ∈ u_ws "LevelledRing$Poly" T_P 2, w ∈ (w_P_addProduct) := hin_P _
  have kk2 := hts (.initialized "LevelledRing") (List.mem_cons_of_mem _ t_1)
  have kk3 := hts (.static y_R_modulo) (List.mem_cons_of_mem _ t_99)
  have kn4 : va_Nw (.methodLinkNest "LevelledRing$Poly" 40 y_R_modulo "LevelledRing") s := ev_W E _ nw_3
  have fr0 : ∀ j : Nat, (j ≠ k + 1) → u j = u j := fun _ _ => rfl
  have hplx : kx ≠ k + 1 := fun h => by rw [h, f1] at fx0; exact absurd fx0 (by intro h; cases h)
  have hply : ky ≠ k + 1 := fun h => by rw [h, f1] at fy0; exact absurd fy0 (by intro h; cases h)
  refine lv_iconst (v := iI (0)) hx hb d_P_addProduct_0 rfl ?_
  refine lv_istore (lv' := [(5, .int (iI (0))), (0, .ref (b + k)), (1, .int (iI (sg))), (2, .ref (b + kx)), (3, .ref (b + ky)), (4, .int (iI (top)))]) hx hb d_P_addProduct_1 hl (by decide) rfl (fun ls hl => ?_)
  have lo : ∀ (d : Nat) (a : Int) (g2 : Int → Int) (w1 : Nat → va_E) (H : Heap) (locs : List Loc) (ls : Array Slot), (0 ≤ a) → (a ≤ top + 1) → (top + 1 - a < d) → (∀ r q : Int, 0 ≤ r → 0 ≤ q → q < 8 → r * 8 + q < a * 8 → g2 (r * 8 + q) = (C q + sg * nc X Y q) % mu sm r) → (∀ j : Int, a * 8 ≤ j → g2 j = g j) → w1 (k + 1) = ir ct n (g2) → (∀ j : Nat, (j ≠ k + 1) → w1 j = u j) → va_P D vwCl (wl N b w1) H → va_S (AA b) s.heap H locs → lv_has ls 9 [(5, .int (iI (a))), (0, .ref (b + k)), (1, .int (iI (sg))), (2, .ref (b + kx)), (3, .ref (b + ky)), (4, .int (iI (top)))] → W p l e rm_c_addProduct s m args below meth c H locs 0 0 Q (F0 m 3 ls []) := by
    intro d
    induction d with
    | zero => intro a g2 w1 H locs ls h0 h1 hd hg hu0 fg2 fr3 hP hS hl; exfalso; omega
    | succ d ihlo =>
      intro a g2 w1 H locs ls h0 h1 hd hg hu0 fg2 fr3 hP hS hl
      have ff4 : w1 k = .inr (3, [.int (iI (sm)), .ref (b + (k + 1))]) := (fr3 k (by omega)).trans f0
      have ff5 : w1 kx = .inr (3, [.int (iI (sm)), .ref (b + (kx + 1))]) := (fr3 kx (by omega)).trans fx0
      have ff6 : w1 (kx + 1) = ir ct nx (gx) := (fr3 (kx + 1) (by omega)).trans fx1
      have ff7 : w1 ky = .inr (3, [.int (iI (sm)), .ref (b + (ky + 1))]) := (fr3 ky (by omega)).trans fy0
      have ff8 : w1 (ky + 1) = ir ct ny (gy) := (fr3 (ky + 1) (by omega)).trans fy1
      refine lv_iload hx hb d_P_addProduct_3 (lv_at hl 0 rfl) ?_
      refine lv_iload hx hb d_P_addProduct_5 (lv_at hl 5 rfl) ?_
      refine x_icmp_gt (tgt := 86) hx hb ⟨by omega, by omega⟩ ⟨by omega, by omega⟩ d_P_addProduct_7 (by decide) (fun hc => ?_) (fun hc => ?_)
      · exact ret w1 H locs 86 ls ⟨g2, fg2, fun r i h2 h3 h4 h5 => hg r i h2 h4 h5 (by omega), fr3⟩ hP hS d_P_addProduct_86
      · have hmu := mu_bd sm a
        refine lv_aload_n hx hb d_P_addProduct_10 rfl (lv_at hl 1 rfl) ?_
        refine lv_iload hx hb d_P_addProduct_11 (lv_at hl 0 rfl) ?_
        refine w_calli (va_runV (As := [.int (iI (a))]) (rest := []) ⟨hx, hb, hml, hown, hts⟩ (c_rowModulus l D ct st ke b N w1 k sm (a) (by omega) ff4 hsm (by omega) (by omega)) (cwV 1 hts (gV t_105 t_107 (tb_sel ((y_P_rowModulus), 2) (List.mem_of_getElem? (i := 0) (by decide +kernel))) t_3 t_108) rfl rfl rfl (by decide +kernel) ⟨Nat.le_of_ble_eq_true rfl, Nat.le_of_ble_eq_true rfl⟩) (pre_V E hP hS (k) (by omega) ff4 rfl) rfl rfl hl.1 rfl (lv_room (Nat.le_of_ble_eq_true rfl)) d_P_addProduct_13 ⟨(Nat.le_of_ble_eq_true rfl), (Nat.le_of_ble_eq_true rfl)⟩) hS (fun r10 z9 H locs hz hP hS => ?_)
        obtain ⟨rfl, rfl⟩ := hz
        refine lv_istore (lv' := [(6, .int (iI (mu sm (a)))), (5, .int (iI (a))), (0, .ref (b + k)), (1, .int (iI (sg))), (2, .ref (b + kx)), (3, .ref (b + ky)), (4, .int (iI (top)))]) hx hb d_P_addProduct_16 hl (by decide) rfl (fun ls hl => ?_)
        refine lv_iconst (v := iI (0)) hx hb d_P_addProduct_18 rfl ?_
        refine lv_istore (lv' := [(7, .int (iI (0))), (6, .int (iI (mu sm (a)))), (5, .int (iI (a))), (0, .ref (b + k)), (1, .int (iI (sg))), (2, .ref (b + kx)), (3, .ref (b + ky)), (4, .int (iI (top)))]) hx hb d_P_addProduct_19 hl (by decide) rfl (fun ls hl => ?_)
        have li : ∀ (d2 : Nat) (i : Int) (g2 : Int → Int) (w11 : Nat → va_E) (H : Heap) (locs : List Loc) (ls : Array Slot), (0 ≤ i) → (i ≤ 8) → (8 - i < d2) → (∀ r q : Int, 0 ≤ r → 0 ≤ q → q < 8 → r * 8 + q < a * 8 + i → g2 (r * 8 + q) = (C q + sg * nc X Y q) % mu sm r) → (∀ j : Int, a * 8 + i ≤ j → g2 j = g j) → w11 (k + 1) = ir ct n (g2) → (∀ j : Nat, (j ≠ k + 1) → w11 j = u j) → va_P D vwCl (wl N b w11) H → va_S (AA b) s.heap H locs → lv_has ls 9 [(7, .int (iI (i))), (6, .int (iI (mu sm (a)))), (5, .int (iI (a))), (0, .ref (b + k)), (1, .int (iI (sg))), (2, .ref (b + kx)), (3, .ref (b + ky)), (4, .int (iI (top)))] → W p l e rm_c_addProduct s m args below meth c H locs 0 0 Q (F0 m 21 ls []) := by
          intro d2
          induction d2 with
          | zero => intro i g2 w11 H locs ls hi0 hi8 hd2 hg hu0 fg12 fr13 hP hS hl; exfalso; omega
          | succ d2 ihli =>
            intro i g2 w11 H locs ls hi0 hi8 hd2 hg hu0 fg12 fr13 hP hS hl
            have ff14 : w11 k = .inr (3, [.int (iI (sm)), .ref (b + (k + 1))]) := (fr13 k (by omega)).trans f0
            have ff15 : w11 kx = .inr (3, [.int (iI (sm)), .ref (b + (kx + 1))]) := (fr13 kx (by omega)).trans fx0
            have ff16 : w11 (kx + 1) = ir ct nx (gx) := (fr13 (kx + 1) (by omega)).trans fx1
            have ff17 : w11 ky = .inr (3, [.int (iI (sm)), .ref (b + (ky + 1))]) := (fr13 ky (by omega)).trans fy0
            have ff18 : w11 (ky + 1) = ir ct ny (gy) := (fr13 (ky + 1) (by omega)).trans fy1
            refine lv_iload hx hb d_P_addProduct_21 (lv_at hl 0 rfl) ?_
            refine lv_bipush (v := iI (8)) hx hb d_P_addProduct_23 (by decide +kernel) ?_
            refine x_icmp_ge (tgt := 80) hx hb ⟨by omega, by omega⟩ ⟨by omega, by omega⟩ d_P_addProduct_25 (by decide) (fun hc => ?_) (fun hc => ?_)
            · refine lv_iinc (k := 2) (v := iI (a + 1)) (lv' := [(5, .int (iI (a + 1))), (7, .int (iI (i))), (6, .int (iI (mu sm (a)))), (0, .ref (b + k)), (1, .int (iI (sg))), (2, .ref (b + kx)), (3, .ref (b + ky)), (4, .int (iI (top)))]) hx hb d_P_addProduct_80 hl rfl (iI_add _ _) (by decide) rfl (fun ls hl => ?_)
              refine lv_goto (tgt := 3) hx hb d_P_addProduct_83 (by decide) ?_
              have hl : lv_has ls 9 [(5, .int (iI (a + 1))), (0, .ref (b + k)), (1, .int (iI (sg))), (2, .ref (b + kx)), (3, .ref (b + ky)), (4, .int (iI (top)))] := lv_sub hl [0, 3, 4, 5, 6, 7] rfl
              exact ihlo (a + 1) g2 w11 H locs ls (by omega) (by omega) (by omega) (fun r i h2 h3 h4 h5 => hg r i h2 h3 h4 (by omega)) (fun j h2 => hu0 j (by omega)) fg12 fr13 hP hS hl
            · have ec := (hu0 (a * 8 + i) (by omega)).trans (hC a i h0 (by omega) (by omega) (by omega))
              have bc := hC.bd (k := a) (i := i) h0 (by omega) (by omega) (by omega)
              rw [← hu0 (a * 8 + i) (by omega)] at bc
              have bX : ∀ j : Int, 0 ≤ j → j < 8 → 0 ≤ gx (a * 8 + j) ∧ gx (a * 8 + j) ≤ 32369 := fun j h2 h3 => by have := hX.bd (k := a) (i := j) h0 (by omega) h2 h3; omega
              have bY : ∀ j : Int, 0 ≤ j → j < 8 → 0 ≤ gy (a * 8 + j) ∧ gy (a * 8 + j) ≤ 32369 := fun j h2 h3 => by have := hY.bd (k := a) (i := j) h0 (by omega) h2 h3; omega
              have bn : -16000000000 ≤ nc (fun j => gx (a * 8 + j)) (fun j => gy (a * 8 + j)) i ∧ nc (fun j => gx (a * 8 + j)) (fun j => gy (a * 8 + j)) i ≤ 16000000000 := by have h := sn_bd (f := nt (fun j => gx (a * 8 + j)) (fun j => gy (a * 8 + j)) i) 8 (fun j h2 h3 => nt_bd bX bY hi0 (by omega) h2 h3); exact ⟨by have := h.1; unfold nc; omega, by have := h.2; unfold nc; omega⟩
              have hsn : -16000000000 ≤ sg * nc (fun j => gx (a * 8 + j)) (fun j => gy (a * 8 + j)) i ∧ sg * nc (fun j => gx (a * 8 + j)) (fun j => gy (a * 8 + j)) i ≤ 16000000000 := by rcases hsg with rfl | rfl <;> omega
              refine lv_iload hx hb d_P_addProduct_28 (lv_at hl 2 rfl) ?_
              refine lv_bipush (v := iI (8)) hx hb d_P_addProduct_30 (by decide +kernel) ?_
              refine x_imul hx hb d_P_addProduct_32 ?_
              refine lv_iload hx hb d_P_addProduct_33 (lv_at hl 0 rfl) ?_
              refine x_iadd hx hb d_P_addProduct_35 ?_
              refine lv_istore (lv' := [(8, .int (iI ((a * 8) + (i)))), (7, .int (iI (i))), (6, .int (iI (mu sm (a)))), (5, .int (iI (a))), (0, .ref (b + k)), (1, .int (iI (sg))), (2, .ref (b + kx)), (3, .ref (b + ky)), (4, .int (iI (top)))]) hx hb d_P_addProduct_36 hl (by decide) rfl (fun ls hl => ?_)
              refine lv_aload_n hx hb d_P_addProduct_38 rfl (lv_at hl 4 rfl) ?_
              refine w_get (C := "LevelledRing$Poly") (T := T_P) (M := 2) hx hb hts hinP hown hK hP (k) (by omega) ff14 rfl 1 (by decide) kk0 (fun _ h => h) rfl d_P_addProduct_39 ?_
              refine lv_iload hx hb d_P_addProduct_42 (lv_at hl 0 rfl) ?_
              refine lv_aload_n hx hb d_P_addProduct_44 rfl (lv_at hl 4 rfl) ?_
              refine w_get (C := "LevelledRing$Poly") (T := T_P) (M := 2) hx hb hts hinP hown hK hP (k) (by omega) ff14 rfl 1 (by decide) kk0 (fun _ h => h) rfl d_P_addProduct_45 ?_
              refine lv_iload hx hb d_P_addProduct_48 (lv_at hl 0 rfl) ?_
              refine w_iald hx hb hK hP (k + 1) (by omega) fg12 (by omega) (by omega) (by omega) d_P_addProduct_50 ?_
              refine x_i2l hx hb ⟨by omega, by omega⟩ d_P_addProduct_51 ?_
              refine lv_iload_n hx hb d_P_addProduct_52 rfl (lv_at hl 5 rfl) ?_
              refine x_i2l hx hb ⟨by omega, by omega⟩ d_P_addProduct_53 ?_
              refine lv_aload_n hx hb d_P_addProduct_54 rfl (lv_at hl 6 rfl) ?_
              refine lv_aload_n hx hb d_P_addProduct_55 rfl (lv_at hl 7 rfl) ?_
              refine lv_iload hx hb d_P_addProduct_56 (lv_at hl 3 rfl) ?_
              refine lv_bipush (v := iI (8)) hx hb d_P_addProduct_58 (by decide +kernel) ?_
              refine x_imul hx hb d_P_addProduct_60 ?_
              refine lv_iload hx hb d_P_addProduct_61 (lv_at hl 1 rfl) ?_
              refine w_calll (va_runS (As := [.ref (b + kx), .ref (b + ky), .int (iI (a * 8)), .int (iI (i))]) (rest := [.long (lI (sg)), .long (lI (g2 ((a * 8) + (i)))), .int (iI ((a * 8) + (i))), .ref (b + (k + 1))]) ⟨hx, hb, hml, hown, hts⟩ (c_pc l D ct st ke b N w11 sm kx nx gx hkx hnx ff15 ff16 ky ny gy hky hny ff17 ff18 a i h0 (by omega) (by omega) hi0 (by omega) bX bY) (cwS 4 hts (gS t_109 t_110 t_3 t_111) rfl rfl rfl (by decide +kernel) ⟨Nat.le_of_ble_eq_true rfl, Nat.le_of_ble_eq_true rfl⟩) (pre_S E hP hS) rfl rfl hl.1 rfl (lv_room (Nat.le_of_ble_eq_true rfl)) d_P_addProduct_63 ⟨(Nat.le_of_ble_eq_true rfl), (Nat.le_of_ble_eq_true rfl)⟩) hS (fun r20 z19 H locs hz hP hS => ?_)
              obtain ⟨rfl, rfl⟩ := hz
              refine x_lmul hx hb d_P_addProduct_66 ?_
              refine x_ladd hx hb d_P_addProduct_67 ?_
              refine lv_iload hx hb d_P_addProduct_68 (lv_at hl 2 rfl) ?_
              refine w_calli (va_runSN (As := [.long (lI ((g2 ((a * 8) + (i))) + ((sg) * (nc (fun j => gx (a * 8 + j)) (fun j => gy (a * 8 + j)) i)))), .int (iI (mu sm (a)))]) (rest := [.int (iI ((a * 8) + (i))), .ref (b + (k + 1))]) ⟨hx, hb, hml, hown, hts⟩ (c_modulo l D ct st ke b N w11 ((g2 ((a * 8) + (i))) + ((sg) * (nc (fun j => gx (a * 8 + j)) (fun j => gy (a * 8 + j)) i))) (mu sm (a)) ⟨by omega, by omega⟩ (by omega) (by omega)) ⟨va_cnB 2 hts (gC t_100) rfl rfl rfl kn4 kk2 (by decide +kernel) ⟨Nat.le_of_ble_eq_true rfl, Nat.le_of_ble_eq_true rfl⟩, kk3, trivial⟩ (pre_S E hP hS) rfl rfl hl.1 rfl (lv_room (Nat.le_of_ble_eq_true rfl)) d_P_addProduct_70 ⟨(Nat.le_of_ble_eq_true rfl), (Nat.le_of_ble_eq_true rfl)⟩) hS (fun r22 z21 H locs hz hP hS => ?_)
              obtain ⟨rfl, rfl⟩ := hz
              refine w_iast hx hb hK hP hS (k + 1) (by omega) fg12 (by omega) (by omega) (by omega) d_P_addProduct_73 (fun H locs hP hS => ?_)
              obtain ⟨u23, hu24, hP⟩ : ∃ zz : Nat → va_E, zz = va_up w11 (k + 1) (ir ct n (zu g2 ((a * 8) + (i)) (((g2 ((a * 8) + (i))) + ((sg) * (nc (fun j => gx (a * 8 + j)) (fun j => gy (a * 8 + j)) i))) % (mu sm (a))))) ∧ va_P D vwCl (wl N b zz) H := ⟨_, rfl, hP⟩
              have ff25 : u23 k = .inr (3, [.int (iI (sm)), .ref (b + (k + 1))]) := (congrFun hu24 _).trans ((up_n (by omega)).trans ff14)
              have ff26 : u23 kx = .inr (3, [.int (iI (sm)), .ref (b + (kx + 1))]) := (congrFun hu24 _).trans ((up_n (by omega)).trans ff15)
              have ff27 : u23 (kx + 1) = ir ct nx (gx) := (congrFun hu24 _).trans ((up_n (by omega)).trans ff16)
              have ff28 : u23 ky = .inr (3, [.int (iI (sm)), .ref (b + (ky + 1))]) := (congrFun hu24 _).trans ((up_n (by omega)).trans ff17)
              have ff29 : u23 (ky + 1) = ir ct ny (gy) := (congrFun hu24 _).trans ((up_n (by omega)).trans ff18)
              have ff30 : u23 (k + 1) = ir ct n (zu g2 ((a * 8) + (i)) (((g2 ((a * 8) + (i))) + ((sg) * (nc (fun j => gx (a * 8 + j)) (fun j => gy (a * 8 + j)) i))) % (mu sm (a)))) := (congrFun hu24 _).trans up_s
              have fr31 : ∀ j : Nat, (j ≠ k + 1) → u23 j = u j := fun j h0 => (congrFun hu24 j).trans ((up_n (by omega)).trans (fr13 j h0))
              refine lv_iinc (k := 1) (v := iI (i + 1)) (lv' := [(7, .int (iI (i + 1))), (8, .int (iI ((a * 8) + (i)))), (6, .int (iI (mu sm (a)))), (5, .int (iI (a))), (0, .ref (b + k)), (1, .int (iI (sg))), (2, .ref (b + kx)), (3, .ref (b + ky)), (4, .int (iI (top)))]) hx hb d_P_addProduct_74 hl rfl (iI_add _ _) (by decide) rfl (fun ls hl => ?_)
              refine lv_goto (tgt := 21) hx hb d_P_addProduct_77 (by decide) ?_
              have hl : lv_has ls 9 [(7, .int (iI (i + 1))), (6, .int (iI (mu sm (a)))), (5, .int (iI (a))), (0, .ref (b + k)), (1, .int (iI (sg))), (2, .ref (b + kx)), (3, .ref (b + ky)), (4, .int (iI (top)))] := lv_sub hl [0, 2, 3, 4, 5, 6, 7, 8] rfl
              refine ihli (i + 1) _ u23 H locs ls (by omega) (by omega) (by omega) (fun r i2 h2 h3 h4 h5 => ?_) (fun j h2 => by rw [zu_n (by omega)]; exact hu0 j (by omega)) ff30 fr31 hP hS hl
              by_cases h6 : r * 8 + i2 = a * 8 + i
              · obtain ⟨rfl, rfl⟩ : r = a ∧ i2 = i := by omega
                rw [zu_s, ec]
                exact cg_add cg_mod (cg_mul cg_r (nc_cg (fun j h7 h8 => by rw [show gx (r * 8 + j) = X j % mu sm r from hX r j h2 (by omega) h7 h8]; exact cg_mod) (fun j h7 h8 => by rw [show gy (r * 8 + j) = Y j % mu sm r from hY r j h2 (by omega) h7 h8]; exact cg_mod) h3 h4))
              · rw [zu_n h6]
                exact hg r i2 h2 h3 h4 (by omega)
        exact li 9 0 g2 w1 H locs ls (by omega) (by omega) (by omega) (fun r i h2 h3 h4 h5 => hg r i h2 h3 h4 (by omega)) (fun j h2 => hu0 j (by omega)) fg2 fr3 hP hS hl
  exact lo (top + 2).toNat 0 g u H locs ls (by omega) (by omega) (by omega) (fun r i h2 h3 h4 h5 => by omega) (fun _ _ => rfl) f1 fr0 hP hS hl
abbrev rm_c_addSmall : Room := { frames := 1, cells := 0, slots := 0, locals := 23 }
set_option maxHeartbeats 4000000 in
set_option maxRecDepth 100000 in
/-- addSmall(x) -/
theorem c_addSmall (l : Launch) (D : va_G) (ct : Nat → ClassId) (st ke : Nat → Nat) (b N : Nat) (u : Nat → va_E) (k : Nat) (sm : Int) (g : Int → Int) (hk : k + 1 < N) (f0 : u k = po b k sm) (f1 : u (k + 1) = ir ct 32 g) (kx nx : Nat) (smx : Int) (gx : Int → Int) (hkx : kx + 1 < N) (hnx : nx < 65536) (hnx8 : 8 ≤ nx) (hnex : kx + 1 ≠ k + 1) (fx0 : u kx = po b kx smx) (fx1 : u (kx + 1) = ir ct nx gx) (hX : ∀ i : Int, 0 ≤ i → i < 8 → 0 ≤ gx i ∧ gx i ≤ 32369) (C : Int → Int) (hC : Rep g 0 3 C) : Met l y_P_addSmall (w_P_addSmall) rm_c_addSmall (va_Pc [.ref (b + k), .ref (b + kx)] (fun U => ev D ct st ke b U ∧ va_P D vwCl (wl N b u) U.heap)) (va_Qv (fun z : Nat → va_E => ∃ g2 : Int → Int, z (k + 1) = ir ct 32 g2 ∧ (Rep g2 0 3 (fun i => C i + gx i)) ∧ ∀ j : Nat, j ≠ k + 1 → z j = u j) (fun (z : Nat → va_E) t => va_P D vwCl (wl (N) b (z)) t.heap) (AA b)) 0 0 (AA b) := by
  refine M_v (cc := c9_P_addSmall) (maxL := 4) (by decide) rfl (Nat.le_of_ble_eq_true rfl) ?_
  intro p e s m args below meth c Q ls H locs hx hb hml hown hts hnm E hP hS hl ret
  have hl : lv_has ls 4 [(0, .ref (b + k)), (1, .ref (b + kx))] := hl
  have hK := ev_K E
  have kk0 := hts (.fieldLink "LevelledRing$Poly" 15 "LevelledRing$Poly" "c" "[I") (List.mem_cons_of_mem _ t_38)
  have hinP : ∀ w ∈ u_ws "LevelledRing$Poly" T_P 2, w ∈ (w_P_addSmall) := hin_P _
  have kk2 : ((.fieldLinkNest "LevelledRing$Poly" 19 "LevelledRing" "PRIMES" "[I" "LevelledRing") : Cond).before args s = true := va_Nw.use rfl (ev_W E _ nw_2)
  have kk3 := hts (.initialized "LevelledRing") (List.mem_cons_of_mem _ t_1)
  have kk4 := hts (.static y_R_modulo) (List.mem_cons_of_mem _ t_99)
  have kn5 : va_Nw (.methodLinkNest "LevelledRing$Poly" 40 y_R_modulo "LevelledRing") s := ev_W E _ nw_3
  have fr0 : ∀ j : Nat, (j ≠ k + 1) → u j = u j := fun _ _ => rfl
  have hplx : kx ≠ k + 1 := fun h => by rw [h, f1] at fx0; exact absurd fx0 (by intro h; cases h)
  refine lv_iconst (v := iI (0)) hx hb d_P_addSmall_0 rfl ?_
  refine lv_istore_n (lv' := [(2, .int (iI (0))), (0, .ref (b + k)), (1, .ref (b + kx))]) hx hb d_P_addSmall_1 rfl hl (by decide) rfl (fun ls hl => ?_)
  have lo : ∀ (d : Nat) (a : Int) (g2 : Int → Int) (w1 : Nat → va_E) (H : Heap) (locs : List Loc) (ls : Array Slot), (0 ≤ a) → (a ≤ 4) → (4 - a < d) → (∀ r q : Int, 0 ≤ r → 0 ≤ q → q < 8 → r * 8 + q < a * 8 → g2 (r * 8 + q) = (C q + gx q) % mu 0 r) → (∀ j : Int, a * 8 ≤ j → g2 j = g j) → w1 (k + 1) = ir ct 32 (g2) → (∀ j : Nat, (j ≠ k + 1) → w1 j = u j) → va_P D vwCl (wl N b w1) H → va_S (AA b) s.heap H locs → lv_has ls 4 [(2, .int (iI (a))), (0, .ref (b + k)), (1, .ref (b + kx))] → W p l e rm_c_addSmall s m args below meth c H locs 0 0 Q (F0 m 2 ls []) := by
    intro d
    induction d with
    | zero => intro a g2 w1 H locs ls h0 h1 hd hg hu0 fg2 fr3 hP hS hl; exfalso; omega
    | succ d ihlo =>
      intro a g2 w1 H locs ls h0 h1 hd hg hu0 fg2 fr3 hP hS hl
      have ff4 : w1 k = .inr (3, [.int (iI (sm)), .ref (b + (k + 1))]) := (fr3 k (by omega)).trans f0
      have ff5 : w1 kx = .inr (3, [.int (iI (smx)), .ref (b + (kx + 1))]) := (fr3 kx (by omega)).trans fx0
      have ff6 : w1 (kx + 1) = ir ct nx (gx) := (fr3 (kx + 1) (by omega)).trans fx1
      refine lv_iload_n hx hb d_P_addSmall_2 rfl (lv_at hl 0 rfl) ?_
      refine lv_iconst (v := iI (4)) hx hb d_P_addSmall_3 rfl ?_
      refine x_icmp_ge (tgt := 65) hx hb ⟨by omega, by omega⟩ ⟨by omega, by omega⟩ d_P_addSmall_4 (by decide) (fun hc => ?_) (fun hc => ?_)
      · exact ret w1 H locs 65 ls ⟨g2, fg2, fun r i h2 h3 h4 h5 => hg r i h2 h4 h5 (by omega), fr3⟩ hP hS d_P_addSmall_65
      · have hmu := lq_bd a
        refine lv_iconst (v := iI (0)) hx hb d_P_addSmall_7 rfl ?_
        refine lv_istore_n (lv' := [(3, .int (iI (0))), (2, .int (iI (a))), (0, .ref (b + k)), (1, .ref (b + kx))]) hx hb d_P_addSmall_8 rfl hl (by decide) rfl (fun ls hl => ?_)
        have li : ∀ (d2 : Nat) (i : Int) (g2 : Int → Int) (w7 : Nat → va_E) (H : Heap) (locs : List Loc) (ls : Array Slot), (0 ≤ i) → (i ≤ 8) → (8 - i < d2) → (∀ r q : Int, 0 ≤ r → 0 ≤ q → q < 8 → r * 8 + q < a * 8 + i → g2 (r * 8 + q) = (C q + gx q) % mu 0 r) → (∀ j : Int, a * 8 + i ≤ j → g2 j = g j) → w7 (k + 1) = ir ct 32 (g2) → (∀ j : Nat, (j ≠ k + 1) → w7 j = u j) → va_P D vwCl (wl N b w7) H → va_S (AA b) s.heap H locs → lv_has ls 4 [(3, .int (iI (i))), (2, .int (iI (a))), (0, .ref (b + k)), (1, .ref (b + kx))] → W p l e rm_c_addSmall s m args below meth c H locs 0 0 Q (F0 m 9 ls []) := by
          intro d2
          induction d2 with
          | zero => intro i g2 w7 H locs ls hi0 hi8 hd2 hg hu0 fg8 fr9 hP hS hl; exfalso; omega
          | succ d2 ihli =>
            intro i g2 w7 H locs ls hi0 hi8 hd2 hg hu0 fg8 fr9 hP hS hl
            have ff10 : w7 k = .inr (3, [.int (iI (sm)), .ref (b + (k + 1))]) := (fr9 k (by omega)).trans f0
            have ff11 : w7 kx = .inr (3, [.int (iI (smx)), .ref (b + (kx + 1))]) := (fr9 kx (by omega)).trans fx0
            have ff12 : w7 (kx + 1) = ir ct nx (gx) := (fr9 (kx + 1) (by omega)).trans fx1
            refine lv_iload_n hx hb d_P_addSmall_9 rfl (lv_at hl 0 rfl) ?_
            refine lv_bipush (v := iI (8)) hx hb d_P_addSmall_10 (by decide +kernel) ?_
            refine x_icmp_ge (tgt := 59) hx hb ⟨by omega, by omega⟩ ⟨by omega, by omega⟩ d_P_addSmall_12 (by decide) (fun hc => ?_) (fun hc => ?_)
            · refine lv_iinc (k := 1) (v := iI (a + 1)) (lv' := [(2, .int (iI (a + 1))), (3, .int (iI (i))), (0, .ref (b + k)), (1, .ref (b + kx))]) hx hb d_P_addSmall_59 hl rfl (iI_add _ _) (by decide) rfl (fun ls hl => ?_)
              refine lv_goto (tgt := 2) hx hb d_P_addSmall_62 (by decide) ?_
              have hl : lv_has ls 4 [(2, .int (iI (a + 1))), (0, .ref (b + k)), (1, .ref (b + kx))] := lv_sub hl [0, 2, 3] rfl
              exact ihlo (a + 1) g2 w7 H locs ls (by omega) (by omega) (by omega) (fun r i h2 h3 h4 h5 => hg r i h2 h3 h4 (by omega)) (fun j h2 => hu0 j (by omega)) fg8 fr9 hP hS hl
            · have ec := (hu0 (a * 8 + i) (by omega)).trans (hC a i h0 (by omega) (by omega) (by omega))
              have bc := hC.bd (k := a) (i := i) h0 (by omega) (by omega) (by omega)
              have hmu2 := mu_bd 0 a
              rw [← hu0 (a * 8 + i) (by omega)] at bc
              have bx := hX i hi0 (by omega)
              refine lv_aload_n hx hb d_P_addSmall_15 rfl (lv_at hl 2 rfl) ?_
              refine w_get (C := "LevelledRing$Poly") (T := T_P) (M := 2) hx hb hts hinP hown hK hP (k) (by omega) ff10 rfl 1 (by decide) kk0 (fun _ h => h) rfl d_P_addSmall_16 ?_
              refine lv_iload_n hx hb d_P_addSmall_19 rfl (lv_at hl 1 rfl) ?_
              refine lv_bipush (v := iI (8)) hx hb d_P_addSmall_20 (by decide +kernel) ?_
              refine x_imul hx hb d_P_addSmall_22 ?_
              refine lv_iload_n hx hb d_P_addSmall_23 rfl (lv_at hl 0 rfl) ?_
              refine x_iadd hx hb d_P_addSmall_24 ?_
              refine lv_aload_n hx hb d_P_addSmall_25 rfl (lv_at hl 2 rfl) ?_
              refine w_get (C := "LevelledRing$Poly") (T := T_P) (M := 2) hx hb hts hinP hown hK hP (k) (by omega) ff10 rfl 1 (by decide) kk0 (fun _ h => h) rfl d_P_addSmall_26 ?_
              refine lv_iload_n hx hb d_P_addSmall_29 rfl (lv_at hl 1 rfl) ?_
              refine lv_bipush (v := iI (8)) hx hb d_P_addSmall_30 (by decide +kernel) ?_
              refine x_imul hx hb d_P_addSmall_32 ?_
              refine lv_iload_n hx hb d_P_addSmall_33 rfl (lv_at hl 0 rfl) ?_
              refine x_iadd hx hb d_P_addSmall_34 ?_
              refine w_iald hx hb hK hP (k + 1) (by omega) fg8 (by omega) (by omega) (by omega) d_P_addSmall_35 ?_
              refine lv_aload_n hx hb d_P_addSmall_36 rfl (lv_at hl 3 rfl) ?_
              refine w_get (C := "LevelledRing$Poly") (T := T_P) (M := 2) hx hb hts hinP hown hK hP (kx) (by omega) ff11 rfl 1 (by decide) kk0 (fun _ h => h) rfl d_P_addSmall_37 ?_
              refine lv_iload_n hx hb d_P_addSmall_40 rfl (lv_at hl 0 rfl) ?_
              refine w_iald hx hb hK hP (kx + 1) (by omega) ff12 (by omega) (by omega) (by omega) d_P_addSmall_41 ?_
              refine x_iadd hx hb d_P_addSmall_42 ?_
              refine x_i2l hx hb ⟨by omega, by omega⟩ d_P_addSmall_43 ?_
              refine va_getsN hx hb (ev_Z0 E) hS hown kk2 (fun _ h => h) d_P_addSmall_44 ?_
              refine lv_iload_n hx hb d_P_addSmall_47 rfl (lv_at hl 1 rfl) ?_
              refine x_ti hx hb (ev_T0 E) hS (by omega) (by omega) (by decide) d_P_addSmall_48 ?_
              refine w_calli (va_runSN (As := [.long (lI ((g2 ((a * 8) + (i))) + (gx (i)))), .int (iI (lq (a)))]) (rest := [.int (iI ((a * 8) + (i))), .ref (b + (k + 1))]) ⟨hx, hb, hml, hown, hts⟩ (c_modulo l D ct st ke b N w7 ((g2 ((a * 8) + (i))) + (gx (i))) (lq (a)) ⟨by omega, by omega⟩ (by omega) (by omega)) ⟨va_cnB 2 hts (gC t_100) rfl rfl rfl kn5 kk3 (by decide +kernel) ⟨Nat.le_of_ble_eq_true rfl, Nat.le_of_ble_eq_true rfl⟩, kk4, trivial⟩ (pre_S E hP hS) rfl rfl hl.1 rfl (lv_room (Nat.le_of_ble_eq_true rfl)) d_P_addSmall_49 ⟨(Nat.le_of_ble_eq_true rfl), (Nat.le_of_ble_eq_true rfl)⟩) hS (fun r14 z13 H locs hz hP hS => ?_)
              obtain ⟨rfl, rfl⟩ := hz
              refine w_iast hx hb hK hP hS (k + 1) (by omega) fg8 (by omega) (by omega) (by omega) d_P_addSmall_52 (fun H locs hP hS => ?_)
              obtain ⟨u15, hu16, hP⟩ : ∃ zz : Nat → va_E, zz = va_up w7 (k + 1) (ir ct 32 (zu g2 ((a * 8) + (i)) (((g2 ((a * 8) + (i))) + (gx (i))) % (lq (a))))) ∧ va_P D vwCl (wl N b zz) H := ⟨_, rfl, hP⟩
              have ff17 : u15 k = .inr (3, [.int (iI (sm)), .ref (b + (k + 1))]) := (congrFun hu16 _).trans ((up_n (by omega)).trans ff10)
              have ff18 : u15 kx = .inr (3, [.int (iI (smx)), .ref (b + (kx + 1))]) := (congrFun hu16 _).trans ((up_n (by omega)).trans ff11)
              have ff19 : u15 (kx + 1) = ir ct nx (gx) := (congrFun hu16 _).trans ((up_n (by omega)).trans ff12)
              have ff20 : u15 (k + 1) = ir ct 32 (zu g2 ((a * 8) + (i)) (((g2 ((a * 8) + (i))) + (gx (i))) % (lq (a)))) := (congrFun hu16 _).trans up_s
              have fr21 : ∀ j : Nat, (j ≠ k + 1) → u15 j = u j := fun j h0 => (congrFun hu16 j).trans ((up_n (by omega)).trans (fr9 j h0))
              refine lv_iinc (k := 0) (v := iI (i + 1)) (lv' := [(3, .int (iI (i + 1))), (2, .int (iI (a))), (0, .ref (b + k)), (1, .ref (b + kx))]) hx hb d_P_addSmall_53 hl rfl (iI_add _ _) (by decide) rfl (fun ls hl => ?_)
              refine lv_goto (tgt := 9) hx hb d_P_addSmall_56 (by decide) ?_
              refine ihli (i + 1) _ u15 H locs ls (by omega) (by omega) (by omega) (fun r i2 h2 h3 h4 h5 => ?_) (fun j h2 => by rw [zu_n (by omega)]; exact hu0 j (by omega)) ff20 fr21 hP hS hl
              by_cases h6 : r * 8 + i2 = a * 8 + i
              · obtain ⟨rfl, rfl⟩ : r = a ∧ i2 = i := by omega
                rw [zu_s, ec]
                exact cg_add cg_mod cg_r
              · rw [zu_n h6]
                exact hg r i2 h2 h3 h4 (by omega)
        exact li 9 0 g2 w1 H locs ls (by omega) (by omega) (by omega) (fun r i h2 h3 h4 h5 => hg r i h2 h3 h4 (by omega)) (fun j h2 => hu0 j (by omega)) fg2 fr3 hP hS hl
  exact lo 5 0 g u H locs ls (by omega) (by omega) (by omega) (fun r i h2 h3 h4 h5 => by omega) (fun _ _ => rfl) f1 fr0 hP hS hl
abbrev rm_c_addRow : Room := { frames := 1, cells := 0, slots := 0, locals := 23 }
set_option maxHeartbeats 4000000 in
set_option maxRecDepth 100000 in
/-- addRow(x, row) -/
theorem c_addRow (l : Launch) (D : va_G) (ct : Nat → ClassId) (st ke : Nat → Nat) (b N : Nat) (u : Nat → va_E) (k : Nat) (g : Int → Int) (hk : k + 1 < N) (f0 : u k = po b k 0) (f1 : u (k + 1) = ir ct 32 g) (kx : Nat) (gx : Int → Int) (hkx : kx + 1 < N) (hnex : kx + 1 ≠ k + 1) (fx0 : u kx = po b kx 0) (fx1 : u (kx + 1) = ir ct 32 gx) (row : Int) (hr0 : 0 ≤ row) (hr3 : row ≤ 3) (C X : Int → Int) (hC : Rep g 0 3 C) (hX : Rep gx 0 3 X) : Met l y_P_addRow (w_P_addRow) rm_c_addRow (va_Pc [.ref (b + k), .ref (b + kx), .int (iI (row))] (fun U => ev D ct st ke b U ∧ va_P D vwCl (wl N b u) U.heap)) (va_Qv (fun z : Nat → va_E => ∃ g2 : Int → Int, z (k + 1) = ir ct 32 g2 ∧ (Rep g2 0 3 (fun i => C i + un row * X i)) ∧ ∀ j : Nat, j ≠ k + 1 → z j = u j) (fun (z : Nat → va_E) t => va_P D vwCl (wl (N) b (z)) t.heap) (AA b)) 0 0 (AA b) := by
  refine M_v (cc := c9_P_addRow) (maxL := 4) (by decide) rfl (Nat.le_of_ble_eq_true rfl) ?_
  intro p e s m args below meth c Q ls H locs hx hb hml hown hts hnm E hP hS hl ret
  have hl : lv_has ls 4 [(0, .ref (b + k)), (1, .ref (b + kx)), (2, .int (iI (row)))] := hl
  have hK := ev_K E
  have kk0 := hts (.fieldLink "LevelledRing$Poly" 15 "LevelledRing$Poly" "c" "[I") (List.mem_cons_of_mem _ t_38)
  have hinP : ∀ w ∈ u_ws "LevelledRing$Poly" T_P 2, w ∈ (w_P_addRow) := hin_P _
  have kk2 := hts (.initialized "LevelledRing") (List.mem_cons_of_mem _ t_1)
  have kk3 := hts (.static y_R_modulo) (List.mem_cons_of_mem _ t_99)
  have kn4 : va_Nw (.methodLinkNest "LevelledRing$Poly" 40 y_R_modulo "LevelledRing") s := ev_W E _ nw_3
  have fr0 : ∀ j : Nat, (j ≠ k + 1) → u j = u j := fun _ _ => rfl
  have hplx : kx ≠ k + 1 := fun h => by rw [h, f1] at fx0; exact absurd fx0 (by intro h; cases h)
  have hsm : (0 : Int) = 0 ∨ (0 : Int) = 1 := Or.inl rfl
  have hmu := mu_bd 0 row
  refine lv_iload_n hx hb d_P_addRow_0 rfl (lv_at hl 2 rfl) ?_
  refine lv_bipush (v := iI (8)) hx hb d_P_addRow_1 (by decide +kernel) ?_
  refine x_imul hx hb d_P_addRow_3 ?_
  refine lv_istore_n (lv' := [(3, .int (iI (row * 8))), (0, .ref (b + k)), (1, .ref (b + kx)), (2, .int (iI (row)))]) hx hb d_P_addRow_4 rfl hl (by decide) rfl (fun ls hl => ?_)
  have lo : ∀ (d : Nat) (i : Int) (g2 : Int → Int) (w1 : Nat → va_E) (H : Heap) (locs : List Loc) (ls : Array Slot), (0 ≤ i) → (i ≤ 8) → (8 - i < d) → (∀ i2 : Int, 0 ≤ i2 → i2 < i → g2 (row * 8 + i2) = (C i2 + X i2) % mu 0 row) → (∀ j : Int, (j < row * 8 ∨ row * 8 + i ≤ j) → g2 j = g j) → w1 (k + 1) = ir ct 32 (g2) → (∀ j : Nat, (j ≠ k + 1) → w1 j = u j) → va_P D vwCl (wl N b w1) H → va_S (AA b) s.heap H locs → lv_has ls 4 [(3, .int (iI (row * 8 + i))), (0, .ref (b + k)), (1, .ref (b + kx)), (2, .int (iI (row)))] → W p l e rm_c_addRow s m args below meth c H locs 0 0 Q (F0 m 5 ls []) := by
    intro d
    induction d with
    | zero => intro i g2 w1 H locs ls hi0 hi8 hd hg hu0 fg2 fr3 hP hS hl; exfalso; omega
    | succ d ihlo =>
      intro i g2 w1 H locs ls hi0 hi8 hd hg hu0 fg2 fr3 hP hS hl
      have ff4 : w1 k = .inr (3, [.int (iI (0)), .ref (b + (k + 1))]) := (fr3 k (by omega)).trans f0
      have ff5 : w1 kx = .inr (3, [.int (iI (0)), .ref (b + (kx + 1))]) := (fr3 kx (by omega)).trans fx0
      have ff6 : w1 (kx + 1) = ir ct 32 (gx) := (fr3 (kx + 1) (by omega)).trans fx1
      refine lv_iload_n hx hb d_P_addRow_5 rfl (lv_at hl 0 rfl) ?_
      refine lv_iload_n hx hb d_P_addRow_6 rfl (lv_at hl 3 rfl) ?_
      refine lv_iconst (v := iI (1)) hx hb d_P_addRow_7 rfl ?_
      refine x_iadd hx hb d_P_addRow_8 ?_
      refine lv_bipush (v := iI (8)) hx hb d_P_addRow_9 (by decide +kernel) ?_
      refine x_imul hx hb d_P_addRow_11 ?_
      refine x_icmp_ge (tgt := 49) hx hb ⟨by omega, by omega⟩ ⟨by omega, by omega⟩ d_P_addRow_12 (by decide) (fun hc => ?_) (fun hc => ?_)
      · refine ret w1 H locs 49 ls ⟨g2, fg2, fun r i2 h2 h3 h4 h5 => ?_, fr3⟩ hP hS d_P_addRow_49
        have eu := un_cg (j := row) (k := r) hr0 hr3 h2 h3
        have em : mu 0 r = lq r := by unfold mu; rw [if_pos rfl]
        by_cases h6 : row = r
        · subst h6
          rw [hg i2 h4 (by omega), em]
          rw [if_pos rfl] at eu
          have h7 := cg_add (cg_r (m := lq row) (a := C i2)) (cg_mul (cg_s eu) (cg_r (a := X i2)))
          rwa [Int.one_mul] at h7
        · rw [hu0 (r * 8 + i2) (by omega), hC r i2 h2 h3 h4 h5, em]
          rw [if_neg h6] at eu
          have h7 := cg_add (cg_r (m := lq r) (a := C i2)) (cg_mul (cg_s eu) (cg_r (a := X i2)))
          rwa [Int.zero_mul, Int.add_zero] at h7
      · have ec := (hu0 (row * 8 + i) (by omega)).trans (hC row i hr0 (by omega) (by omega) (by omega))
        have bc := hC.bd (k := row) (i := i) hr0 (by omega) (by omega) (by omega)
        rw [← hu0 (row * 8 + i) (by omega)] at bc
        have ex := hX row i hr0 (by omega) (by omega) (by omega)
        have bx := hX.bd (k := row) (i := i) hr0 (by omega) (by omega) (by omega)
        refine lv_aload_n hx hb d_P_addRow_15 rfl (lv_at hl 1 rfl) ?_
        refine w_get (C := "LevelledRing$Poly") (T := T_P) (M := 2) hx hb hts hinP hown hK hP (k) (by omega) ff4 rfl 1 (by decide) kk0 (fun _ h => h) rfl d_P_addRow_16 ?_
        refine lv_iload_n hx hb d_P_addRow_19 rfl (lv_at hl 0 rfl) ?_
        refine lv_aload_n hx hb d_P_addRow_20 rfl (lv_at hl 1 rfl) ?_
        refine w_get (C := "LevelledRing$Poly") (T := T_P) (M := 2) hx hb hts hinP hown hK hP (k) (by omega) ff4 rfl 1 (by decide) kk0 (fun _ h => h) rfl d_P_addRow_21 ?_
        refine lv_iload_n hx hb d_P_addRow_24 rfl (lv_at hl 0 rfl) ?_
        refine w_iald hx hb hK hP (k + 1) (by omega) fg2 (by omega) (by omega) (by omega) d_P_addRow_25 ?_
        refine lv_aload_n hx hb d_P_addRow_26 rfl (lv_at hl 2 rfl) ?_
        refine w_get (C := "LevelledRing$Poly") (T := T_P) (M := 2) hx hb hts hinP hown hK hP (kx) (by omega) ff5 rfl 1 (by decide) kk0 (fun _ h => h) rfl d_P_addRow_27 ?_
        refine lv_iload_n hx hb d_P_addRow_30 rfl (lv_at hl 0 rfl) ?_
        refine w_iald hx hb hK hP (kx + 1) (by omega) ff6 (by omega) (by omega) (by omega) d_P_addRow_31 ?_
        refine x_iadd hx hb d_P_addRow_32 ?_
        refine x_i2l hx hb ⟨by omega, by omega⟩ d_P_addRow_33 ?_
        refine lv_aload_n hx hb d_P_addRow_34 rfl (lv_at hl 1 rfl) ?_
        refine lv_iload_n hx hb d_P_addRow_35 rfl (lv_at hl 3 rfl) ?_
        refine w_calli (va_runV (As := [.int (iI (row))]) (rest := [.long (lI ((g2 (row * 8 + i)) + (gx (row * 8 + i)))), .int (iI (row * 8 + i)), .ref (b + (k + 1))]) ⟨hx, hb, hml, hown, hts⟩ (c_rowModulus l D ct st ke b N w1 k 0 (row) (by omega) ff4 hsm (by omega) (by omega)) (cwV 1 hts (gV t_105 t_107 (tb_sel ((y_P_rowModulus), 2) (List.mem_of_getElem? (i := 0) (by decide +kernel))) t_3 t_108) rfl rfl rfl (by decide +kernel) ⟨Nat.le_of_ble_eq_true rfl, Nat.le_of_ble_eq_true rfl⟩) (pre_V E hP hS (k) (by omega) ff4 rfl) rfl rfl hl.1 rfl (lv_room (Nat.le_of_ble_eq_true rfl)) d_P_addRow_36 ⟨(Nat.le_of_ble_eq_true rfl), (Nat.le_of_ble_eq_true rfl)⟩) hS (fun r8 z7 H locs hz hP hS => ?_)
        obtain ⟨rfl, rfl⟩ := hz
        refine w_calli (va_runSN (As := [.long (lI ((g2 (row * 8 + i)) + (gx (row * 8 + i)))), .int (iI (mu 0 (row)))]) (rest := [.int (iI (row * 8 + i)), .ref (b + (k + 1))]) ⟨hx, hb, hml, hown, hts⟩ (c_modulo l D ct st ke b N w1 ((g2 (row * 8 + i)) + (gx (row * 8 + i))) (mu 0 (row)) ⟨by omega, by omega⟩ (by omega) (by omega)) ⟨va_cnB 2 hts (gC t_100) rfl rfl rfl kn4 kk2 (by decide +kernel) ⟨Nat.le_of_ble_eq_true rfl, Nat.le_of_ble_eq_true rfl⟩, kk3, trivial⟩ (pre_S E hP hS) rfl rfl hl.1 rfl (lv_room (Nat.le_of_ble_eq_true rfl)) d_P_addRow_39 ⟨(Nat.le_of_ble_eq_true rfl), (Nat.le_of_ble_eq_true rfl)⟩) hS (fun r10 z9 H locs hz hP hS => ?_)
        obtain ⟨rfl, rfl⟩ := hz
        refine w_iast hx hb hK hP hS (k + 1) (by omega) fg2 (by omega) (by omega) (by omega) d_P_addRow_42 (fun H locs hP hS => ?_)
        obtain ⟨u11, hu12, hP⟩ : ∃ zz : Nat → va_E, zz = va_up w1 (k + 1) (ir ct 32 (zu g2 (row * 8 + i) (((g2 (row * 8 + i)) + (gx (row * 8 + i))) % (mu 0 (row))))) ∧ va_P D vwCl (wl N b zz) H := ⟨_, rfl, hP⟩
        have ff13 : u11 k = .inr (3, [.int (iI (0)), .ref (b + (k + 1))]) := (congrFun hu12 _).trans ((up_n (by omega)).trans ff4)
        have ff14 : u11 kx = .inr (3, [.int (iI (0)), .ref (b + (kx + 1))]) := (congrFun hu12 _).trans ((up_n (by omega)).trans ff5)
        have ff15 : u11 (kx + 1) = ir ct 32 (gx) := (congrFun hu12 _).trans ((up_n (by omega)).trans ff6)
        have ff16 : u11 (k + 1) = ir ct 32 (zu g2 (row * 8 + i) (((g2 (row * 8 + i)) + (gx (row * 8 + i))) % (mu 0 (row)))) := (congrFun hu12 _).trans up_s
        have fr17 : ∀ j : Nat, (j ≠ k + 1) → u11 j = u j := fun j h0 => (congrFun hu12 j).trans ((up_n (by omega)).trans (fr3 j h0))
        refine lv_iinc (k := 0) (v := iI (row * 8 + i + 1)) (lv' := [(3, .int (iI (row * 8 + i + 1))), (0, .ref (b + k)), (1, .ref (b + kx)), (2, .int (iI (row)))]) hx hb d_P_addRow_43 hl rfl (iI_add _ _) (by decide) rfl (fun ls hl => ?_)
        have hl : lv_has ls 4 [(3, .int (iI (row * 8 + (i + 1)))), (0, .ref (b + k)), (1, .ref (b + kx)), (2, .int (iI (row)))] := by rw [show row * 8 + (i + 1) = row * 8 + i + 1 from by omega]; exact hl
        refine lv_goto (tgt := 5) hx hb d_P_addRow_46 (by decide) ?_
        refine ihlo (i + 1) _ u11 H locs ls (by omega) (by omega) (by omega) (fun i2 h2 h3 => ?_) (fun j h2 => by rw [zu_n (by omega)]; exact hu0 j (by omega)) ff16 fr17 hP hS hl
        by_cases h6 : i2 = i
        · rw [h6, zu_s, ec, ex]
          exact cg_add cg_mod cg_mod
        · rw [zu_n (by omega)]
          exact hg i2 h2 (by omega)
  have hl : lv_has ls 4 [(3, .int (iI (row * 8 + 0))), (0, .ref (b + k)), (1, .ref (b + kx)), (2, .int (iI (row)))] := by rw [Int.add_zero]; exact hl
  exact lo 9 0 g u H locs ls (by omega) (by omega) (by omega) (fun i2 h2 h3 => by omega) (fun _ _ => rfl) f1 fr0 hP hS hl
abbrev rm_c_whole : Room := { frames := 1, cells := 0, slots := 0, locals := 23 }
set_option maxHeartbeats 4000000 in
set_option maxRecDepth 100000 in
/-- wholeCoefficient(i, top) -/
theorem c_whole (l : Launch) (D : va_G) (ct : Nat → ClassId) (st ke : Nat → Nat) (b N : Nat) (u : Nat → va_E) (k n : Nat) (g : Int → Int) (hk : k + 1 < N) (hn : n < 65536) (f0 : u k = po b k 0) (f1 : u (k + 1) = ir ct n g) (i top : Int) (hi0 : 0 ≤ i) (hi8 : i < 8) (ht0 : 0 ≤ top) (ht3 : top ≤ 3) (hn8 : 8 * (top + 1) ≤ n) (C : Int → Int) (hC : Rep g 0 top C) : Met l y_P_wholeCoefficient (w_P_wholeCoefficient) rm_c_whole (va_Pc [.ref (b + k), .int (iI (i)), .int (iI (top))] (fun U => ev D ct st ke b U ∧ va_P D vwCl (wl N b u) U.heap)) (va_Ql (fun (r : Int64) (z : Nat → va_E) => r = lI (C i % lQ top) ∧ u = z) (fun (z : Nat → va_E) t => va_P D vwCl (wl (N) b (z)) t.heap) (AA b)) 0 0 (AA b) := by
  refine M_l (cc := c9_P_wholeCoefficient) (maxL := 8) (by decide) rfl (Nat.le_of_ble_eq_true rfl) ?_
  intro p e s m args below meth c Q ls H locs hx hb hml hown hts hnm E hP hS hl ret
  have hl : lv_has ls 8 [(0, .ref (b + k)), (1, .int (iI (i))), (2, .int (iI (top)))] := hl
  have hK := ev_K E
  have kk0 := hts (.fieldLink "LevelledRing$Poly" 15 "LevelledRing$Poly" "c" "[I") (List.mem_cons_of_mem _ t_38)
  have hinP : ∀ w ∈ u_ws "LevelledRing$Poly" T_P 2, w ∈ (w_P_wholeCoefficient) := hin_P _
  have kk2 : ((.fieldLinkNest "LevelledRing$Poly" 19 "LevelledRing" "PRIMES" "[I" "LevelledRing") : Cond).before args s = true := va_Nw.use rfl (ev_W E _ nw_2)
  have kk3 := hts (.initialized "LevelledRing") (List.mem_cons_of_mem _ t_1)
  have kk4 := hts (.static y_R_modulo) (List.mem_cons_of_mem _ t_99)
  have kn5 : va_Nw (.methodLinkNest "LevelledRing$Poly" 40 y_R_modulo "LevelledRing") s := ev_W E _ nw_3
  have kk6 : ((.fieldLinkNest "LevelledRing$Poly" 61 "LevelledRing" "MODULI" "[J" "LevelledRing") : Cond).before args s = true := va_Nw.use rfl (ev_W E _ nw_10)
  have kk7 : ((.fieldLinkNest "LevelledRing$Poly" 65 "LevelledRing" "MODULUS_INVERSES" "[I" "LevelledRing") : Cond).before args s = true := va_Nw.use rfl (ev_W E _ nw_11)
  have fr0 : ∀ j : Nat, u j = u j := fun _  => rfl
  have e0 := hC 0 i (by omega) ht0 hi0 hi8
  have b0 := hC.bd (k := 0) (i := i) (by omega) ht0 hi0 hi8
  have hmu0 := mu_bd 0 0
  rw [show (0 : Int) * 8 + i = i by omega] at e0 b0
  refine lv_aload_n hx hb d_P_wholeCoefficient_0 rfl (lv_at hl 0 rfl) ?_
  refine w_get (C := "LevelledRing$Poly") (T := T_P) (M := 2) hx hb hts hinP hown hK hP (k) (by omega) f0 rfl 1 (by decide) kk0 (fun _ h => h) rfl d_P_wholeCoefficient_1 ?_
  refine lv_iload_n hx hb d_P_wholeCoefficient_4 rfl (lv_at hl 1 rfl) ?_
  refine w_iald hx hb hK hP (k + 1) (by omega) f1 (by omega) (by omega) (by omega) d_P_wholeCoefficient_5 ?_
  refine x_i2l hx hb ⟨by omega, by omega⟩ d_P_wholeCoefficient_6 ?_
  refine x_le (y := C i % lQ (1 - 1)) (by rw [e0]; rfl) ?_
  refine lv_lstore_n (lv' := [(3, .long (lI (C i % lQ (1 - 1)))), (0, .ref (b + k)), (1, .int (iI (i))), (2, .int (iI (top)))]) hx hb d_P_wholeCoefficient_7 rfl hl (by decide) rfl (fun ls hl => ?_)
  refine lv_iconst (v := iI (1)) hx hb d_P_wholeCoefficient_8 rfl ?_
  refine lv_istore (lv' := [(5, .int (iI (1))), (3, .long (lI (C i % lQ (1 - 1)))), (0, .ref (b + k)), (1, .int (iI (i))), (2, .int (iI (top)))]) hx hb d_P_wholeCoefficient_9 hl (by decide) rfl (fun ls hl => ?_)
  have lo : ∀ (d : Nat) (a : Int) (H : Heap) (locs : List Loc) (ls : Array Slot), (1 ≤ a) → (a ≤ top + 1) → (top + 1 - a < d) → va_P D vwCl (wl N b u) H → va_S (AA b) s.heap H locs → lv_has ls 8 [(5, .int (iI (a))), (3, .long (lI (C i % lQ (a - 1)))), (0, .ref (b + k)), (1, .int (iI (i))), (2, .int (iI (top)))] → W p l e rm_c_whole s m args below meth c H locs 0 0 Q (F0 m 11 ls []) := by
    intro d
    induction d with
    | zero => intro a H locs ls h0 h1 hd hP hS hl; exfalso; omega
    | succ d ihlo =>
      intro a H locs ls h0 h1 hd hP hS hl
      refine lv_iload hx hb d_P_wholeCoefficient_11 (lv_at hl 0 rfl) ?_
      refine lv_iload_n hx hb d_P_wholeCoefficient_13 rfl (lv_at hl 4 rfl) ?_
      refine x_icmp_gt (tgt := 80) hx hb ⟨by omega, by omega⟩ ⟨by omega, by omega⟩ d_P_wholeCoefficient_14 (by decide) (fun hc => ?_) (fun hc => ?_)
      · obtain rfl : a = top + 1 := by omega
        refine lv_lload_n hx hb d_P_wholeCoefficient_80 rfl (lv_at hl 1 rfl) ?_
        refine x_le (y := C i % lQ top) (by rw [show top + 1 - 1 = top by omega]) ?_
        exact ret _ u H locs 81 ls ⟨rfl, rfl⟩ hP hS d_P_wholeCoefficient_81
      · have ea := hC a i (by omega) (by omega) hi0 hi8
        have ba := hC.bd (k := a) (i := i) (by omega) (by omega) hi0 hi8
        have hmu := mu_bd 0 a
        have hlq := lq_bd a
        have hlQ := lQ_bd (a - 1)
        have bw0 := Int.emod_nonneg (C i) (show lQ (a - 1) ≠ 0 by omega)
        have bw1 := Int.emod_lt_of_pos (C i) (show 0 < lQ (a - 1) by omega)
        refine lv_aload_n hx hb d_P_wholeCoefficient_17 rfl (lv_at hl 2 rfl) ?_
        refine w_get (C := "LevelledRing$Poly") (T := T_P) (M := 2) hx hb hts hinP hown hK hP (k) (by omega) f0 rfl 1 (by decide) kk0 (fun _ h => h) rfl d_P_wholeCoefficient_18 ?_
        refine lv_iload hx hb d_P_wholeCoefficient_21 (lv_at hl 0 rfl) ?_
        refine lv_bipush (v := iI (8)) hx hb d_P_wholeCoefficient_23 (by decide +kernel) ?_
        refine x_imul hx hb d_P_wholeCoefficient_25 ?_
        refine lv_iload_n hx hb d_P_wholeCoefficient_26 rfl (lv_at hl 3 rfl) ?_
        refine x_iadd hx hb d_P_wholeCoefficient_27 ?_
        refine w_iald hx hb hK hP (k + 1) (by omega) f1 (by omega) (by omega) (by omega) d_P_wholeCoefficient_28 ?_
        refine x_i2l hx hb ⟨by omega, by omega⟩ d_P_wholeCoefficient_29 ?_
        refine lv_lload_n hx hb d_P_wholeCoefficient_30 rfl (lv_at hl 1 rfl) ?_
        refine x_lsub hx hb d_P_wholeCoefficient_31 ?_
        refine va_getsN hx hb (ev_Z0 E) hS hown kk2 (fun _ h => h) d_P_wholeCoefficient_32 ?_
        refine lv_iload hx hb d_P_wholeCoefficient_35 (lv_at hl 0 rfl) ?_
        refine x_ti hx hb (ev_T0 E) hS (by omega) (by omega) (by decide) d_P_wholeCoefficient_37 ?_
        refine w_calli (va_runSN (As := [.long (lI ((g ((a * 8) + (i))) - (C i % lQ (a - 1)))), .int (iI (lq (a)))]) (rest := []) ⟨hx, hb, hml, hown, hts⟩ (c_modulo l D ct st ke b N u ((g ((a * 8) + (i))) - (C i % lQ (a - 1))) (lq (a)) ⟨by omega, by omega⟩ (by omega) (by omega)) ⟨va_cnB 2 hts (gC t_100) rfl rfl rfl kn5 kk3 (by decide +kernel) ⟨Nat.le_of_ble_eq_true rfl, Nat.le_of_ble_eq_true rfl⟩, kk4, trivial⟩ (pre_S E hP hS) rfl rfl hl.1 rfl (lv_room (Nat.le_of_ble_eq_true rfl)) d_P_wholeCoefficient_38 ⟨(Nat.le_of_ble_eq_true rfl), (Nat.le_of_ble_eq_true rfl)⟩) hS (fun r2 z1 H locs hz hP hS => ?_)
        obtain ⟨rfl, rfl⟩ := hz
        have bl0 := Int.emod_nonneg (((g ((a * 8) + (i))) - (C i % lQ (a - 1)))) (show lq a ≠ 0 by omega)
        have bl1 := Int.emod_lt_of_pos (((g ((a * 8) + (i))) - (C i % lQ (a - 1)))) (show 0 < lq a by omega)
        have hmv : 0 ≤ minv a ∧ minv a ≤ 20255 := by unfold minv gin; repeat' split; all_goals omega
        have emv : minv a = gin a := by unfold minv; rw [if_neg (by omega)]
        refine x_i2l hx hb ⟨by omega, by omega⟩ d_P_wholeCoefficient_41 ?_
        refine lv_lstore (lv' := [(6, .long (lI (((g ((a * 8) + (i))) - (C i % lQ (a - 1))) % (lq (a))))), (5, .int (iI (a))), (3, .long (lI (C i % lQ (a - 1)))), (0, .ref (b + k)), (1, .int (iI (i))), (2, .int (iI (top)))]) hx hb d_P_wholeCoefficient_42 hl (by decide) rfl (fun ls hl => ?_)
        refine lv_lload_n hx hb d_P_wholeCoefficient_44 rfl (lv_at hl 2 rfl) ?_
        refine va_getsN hx hb (ev_Z1 E) hS hown kk6 (fun _ h => h) d_P_wholeCoefficient_45 ?_
        refine lv_iload hx hb d_P_wholeCoefficient_48 (lv_at hl 1 rfl) ?_
        refine lv_iconst (v := iI (1)) hx hb d_P_wholeCoefficient_50 rfl ?_
        refine x_isub hx hb d_P_wholeCoefficient_51 ?_
        refine x_tl hx hb (ev_T1 E) hS (by omega) (by omega) (by decide) d_P_wholeCoefficient_52 ?_
        refine lv_lload hx hb d_P_wholeCoefficient_53 (lv_at hl 0 rfl) ?_
        refine va_getsN hx hb (ev_Z2 E) hS hown kk7 (fun _ h => h) d_P_wholeCoefficient_55 ?_
        refine lv_iload hx hb d_P_wholeCoefficient_58 (lv_at hl 1 rfl) ?_
        refine x_ti hx hb (ev_T2 E) hS (by omega) (by omega) (by decide) d_P_wholeCoefficient_60 ?_
        refine x_i2l hx hb ⟨by omega, by omega⟩ d_P_wholeCoefficient_61 ?_
        refine x_lmul hx hb d_P_wholeCoefficient_62 ?_
        refine va_getsN hx hb (ev_Z0 E) hS hown kk2 (fun _ h => h) d_P_wholeCoefficient_63 ?_
        refine lv_iload hx hb d_P_wholeCoefficient_66 (lv_at hl 1 rfl) ?_
        refine x_ti hx hb (ev_T0 E) hS (by omega) (by omega) (by decide) d_P_wholeCoefficient_68 ?_
        refine x_i2l hx hb ⟨by omega, by omega⟩ d_P_wholeCoefficient_69 ?_
        have bp := mul_bd (x := ((g ((a * 8) + (i))) - (C i % lQ (a - 1))) % (lq (a))) (y := minv (a)) bl0 (by omega) hmv.1 (by omega)
        refine x_lremP hx hb ⟨by omega, by omega⟩ ⟨by omega, by omega⟩ (by omega) (by omega) d_P_wholeCoefficient_70 ?_
        refine x_lmul hx hb d_P_wholeCoefficient_71 ?_
        refine x_ladd hx hb d_P_wholeCoefficient_72 ?_
        refine x_le (y := C i % lQ (a + 1 - 1)) (by rw [ea, emv, show a + 1 - 1 = a by omega]; exact garner (V := C i) h0 (by omega)) ?_
        refine lv_lstore_n (lv' := [(3, .long (lI (C i % lQ (a + 1 - 1)))), (6, .long (lI (((g ((a * 8) + (i))) - (C i % lQ (a - 1))) % (lq (a))))), (5, .int (iI (a))), (0, .ref (b + k)), (1, .int (iI (i))), (2, .int (iI (top)))]) hx hb d_P_wholeCoefficient_73 rfl hl (by decide) rfl (fun ls hl => ?_)
        refine lv_iinc (k := 2) (v := iI (a + 1)) (lv' := [(5, .int (iI (a + 1))), (3, .long (lI (C i % lQ (a + 1 - 1)))), (6, .long (lI (((g ((a * 8) + (i))) - (C i % lQ (a - 1))) % (lq (a))))), (0, .ref (b + k)), (1, .int (iI (i))), (2, .int (iI (top)))]) hx hb d_P_wholeCoefficient_74 hl rfl (iI_add _ _) (by decide) rfl (fun ls hl => ?_)
        refine lv_goto (tgt := 11) hx hb d_P_wholeCoefficient_77 (by decide) ?_
        have hl : lv_has ls 8 [(5, .int (iI (a + 1))), (3, .long (lI (C i % lQ (a + 1 - 1)))), (0, .ref (b + k)), (1, .int (iI (i))), (2, .int (iI (top)))] := lv_sub hl [0, 1, 3, 4, 5] rfl
        exact ihlo (a + 1) H locs ls (by omega) (by omega) (by omega) hP hS hl
  exact lo (top + 2).toNat 1 H locs ls (by omega) (by omega) (by omega) hP hS hl
abbrev rm_c_centredC : Room := { frames := 2, cells := 0, slots := 0, locals := 50 }
set_option maxHeartbeats 4000000 in
set_option maxRecDepth 100000 in
/-- centredCoefficient(i, top) -/
theorem c_centredC (l : Launch) (D : va_G) (ct : Nat → ClassId) (st ke : Nat → Nat) (b N : Nat) (u : Nat → va_E) (k n : Nat) (g : Int → Int) (hk : k + 1 < N) (hn : n < 65536) (f0 : u k = po b k 0) (f1 : u (k + 1) = ir ct n g) (i top : Int) (hi0 : 0 ≤ i) (hi8 : i < 8) (ht0 : 0 ≤ top) (ht3 : top ≤ 3) (hn8 : 8 * (top + 1) ≤ n) (C : Int → Int) (hC : Rep g 0 top C) : Met l y_P_centredCoefficient (w_P_centredCoefficient) rm_c_centredC (va_Pc [.ref (b + k), .int (iI (i)), .int (iI (top))] (fun U => ev D ct st ke b U ∧ va_P D vwCl (wl N b u) U.heap)) (va_Ql (fun (r : Int64) (z : Nat → va_E) => r = lI (cen (C i % lQ top) (lQ top)) ∧ u = z) (fun (z : Nat → va_E) t => va_P D vwCl (wl (N) b (z)) t.heap) (AA b)) 0 0 (AA b) := by
  refine M_l (cc := c9_P_centredCoefficient) (maxL := 3) (by decide) rfl (Nat.le_of_ble_eq_true rfl) ?_
  intro p e s m args below meth c Q ls H locs hx hb hml hown hts hnm E hP hS hl ret
  have hl : lv_has ls 3 [(0, .ref (b + k)), (1, .int (iI (i))), (2, .int (iI (top)))] := hl
  have hK := ev_K E
  have kk0 : ((.fieldLinkNest "LevelledRing$Poly" 61 "LevelledRing" "MODULI" "[J" "LevelledRing") : Cond).before args s = true := va_Nw.use rfl (ev_W E _ nw_10)
  have kk1 := hts (.initialized "LevelledRing") (List.mem_cons_of_mem _ t_1)
  have kk2 := hts (.static y_R_centred) (List.mem_cons_of_mem _ t_341)
  have kn3 : va_Nw (.methodLinkNest "LevelledRing$Poly" 52 y_R_centred "LevelledRing") s := ev_W E _ nw_7
  have fr0 : ∀ j : Nat, u j = u j := fun _  => rfl
  have hlQ := lQ_bd top
  have bw0 := Int.emod_nonneg (C i) (show lQ top ≠ 0 by omega)
  have bw1 := Int.emod_lt_of_pos (C i) (show 0 < lQ top by omega)
  refine lv_aload_n hx hb d_P_centredCoefficient_0 rfl (lv_at hl 0 rfl) ?_
  refine lv_iload_n hx hb d_P_centredCoefficient_1 rfl (lv_at hl 1 rfl) ?_
  refine lv_iload_n hx hb d_P_centredCoefficient_2 rfl (lv_at hl 2 rfl) ?_
  refine w_calll (va_runV (As := [.int (iI (i)), .int (iI (top))]) (rest := []) ⟨hx, hb, hml, hown, hts⟩ (c_whole l D ct st ke b N u k n g hk hn f0 f1 i top hi0 hi8 ht0 ht3 hn8 C hC) (cwV 2 hts (gV t_425 t_426 t_427 t_3 t_428) rfl rfl rfl (by decide +kernel) ⟨Nat.le_of_ble_eq_true rfl, Nat.le_of_ble_eq_true rfl⟩) (pre_V E hP hS (k) (by omega) f0 rfl) rfl rfl hl.1 rfl (lv_room (Nat.le_of_ble_eq_true rfl)) d_P_centredCoefficient_3 ⟨(Nat.le_of_ble_eq_true rfl), (Nat.le_of_ble_eq_true rfl)⟩) hS (fun r2 z1 H locs hz hP hS => ?_)
  obtain ⟨rfl, rfl⟩ := hz
  refine va_getsN hx hb (ev_Z1 E) hS hown kk0 (fun _ h => h) d_P_centredCoefficient_6 ?_
  refine lv_iload_n hx hb d_P_centredCoefficient_9 rfl (lv_at hl 2 rfl) ?_
  refine x_tl hx hb (ev_T1 E) hS (by omega) (by omega) (by decide) d_P_centredCoefficient_10 ?_
  refine w_calll (va_runSN (As := [.long (lI (C i % lQ top)), .long (lI (lQ (top)))]) (rest := []) ⟨hx, hb, hml, hown, hts⟩ (c_centred l D ct st ke b N u (C i % lQ top) (lQ (top)) (by omega) (by omega) (by omega) (by omega)) ⟨va_cnB 2 hts (gC t_342) rfl rfl rfl kn3 kk1 (by decide +kernel) ⟨Nat.le_of_ble_eq_true rfl, Nat.le_of_ble_eq_true rfl⟩, kk2, trivial⟩ (pre_S E hP hS) rfl rfl hl.1 rfl (lv_room (Nat.le_of_ble_eq_true rfl)) d_P_centredCoefficient_11 ⟨(Nat.le_of_ble_eq_true rfl), (Nat.le_of_ble_eq_true rfl)⟩) hS (fun r4 z3 H locs hz hP hS => ?_)
  obtain ⟨rfl, rfl⟩ := hz
  exact ret _ u H locs 14 ls ⟨rfl, rfl⟩ hP hS d_P_centredCoefficient_14
end
section
abbrev rm_c_drawUniform : Room := { frames := 1, cells := 0, slots := 0, locals := 20 }
set_option maxHeartbeats 4000000 in
set_option maxRecDepth 100000 in
/-- drawUniform(drawing) -/
theorem c_drawUniform (l : Launch) (D : va_G) (ct : Nat → ClassId) (st ke : Nat → Nat) (b N : Nat) (u : Nat → va_E) (k : Nat) (sm : Int) (g : Int → Int) (hk : k + 1 < N) (f0 : u k = po b k sm) (f1 : u (k + 1) = ir ct 32 g) (kd : Nat) (z0 : Int32) (hkd : kd < N) (fd : u kd = dr z0) : Met l y_P_drawUniform (w_P_drawUniform) rm_c_drawUniform (va_Pc [.ref (b + k), .ref (b + kd)] (fun U => ev D ct st ke b U ∧ va_P D vwCl (wl N b u) U.heap)) (va_Qv (fun z : Nat → va_E => ∃ g2 : Int → Int, z (k + 1) = ir ct 32 g2 ∧ z kd = dr (it 32 z0) ∧ (Rep g2 0 3 (uni z0)) ∧ ∀ j : Nat, j ≠ k + 1 → j ≠ kd → z j = u j) (fun (z : Nat → va_E) t => va_P D vwCl (wl (N) b (z)) t.heap) (AA b)) 0 0 (AA b) := by
  refine M_v (cc := c9_P_drawUniform) (maxL := 4) (by decide) rfl (Nat.le_of_ble_eq_true rfl) ?_
  intro p e s m args below meth c Q ls H locs hx hb hml hown hts hnm E hP hS hl ret
  have hl : lv_has ls 4 [(0, .ref (b + k)), (1, .ref (b + kd))] := hl
  have hK := ev_K E
  have kk0 := hts (.fieldLink "LevelledRing$Poly" 15 "LevelledRing$Poly" "c" "[I") (List.mem_cons_of_mem _ t_38)
  have hinP : ∀ w ∈ u_ws "LevelledRing$Poly" T_P 2, w ∈ (w_P_drawUniform) := hin_P _
  have kk2 : ((.fieldLinkNest "LevelledRing$Poly" 19 "LevelledRing" "PRIMES" "[I" "LevelledRing") : Cond).before args s = true := va_Nw.use rfl (ev_W E _ nw_2)
  have fr0 : ∀ j : Nat, (j ≠ k + 1) → (j ≠ kd) → u j = u j := fun _ _ _ => rfl
  have hd1 : kd ≠ k + 1 := fun h => by rw [h, f1] at fd; exact absurd fd (by intro h; cases h)
  have hd2 : kd ≠ k := fun h => by rw [h, f0] at fd; exact absurd fd (by intro h; cases h)
  refine lv_iconst (v := iI (0)) hx hb d_P_drawUniform_0 rfl ?_
  refine lv_istore_n (lv' := [(2, .int (iI (0))), (0, .ref (b + k)), (1, .ref (b + kd))]) hx hb d_P_drawUniform_1 rfl hl (by decide) rfl (fun ls hl => ?_)
  have lo : ∀ (d : Nat) (i : Int) (g2 : Int → Int) (w1 : Nat → va_E) (H : Heap) (locs : List Loc) (ls : Array Slot), (0 ≤ i) → (i ≤ 8) → (8 - i < d) → (∀ a c : Int, 0 ≤ a → a ≤ 3 → 0 ≤ c → c < i → g2 (a * 8 + c) = res z0 c a) → w1 (k + 1) = ir ct 32 (g2) → w1 kd = .inr (0, [.int (it (4 * i).toNat z0)]) → (∀ j : Nat, (j ≠ k + 1) → (j ≠ kd) → w1 j = u j) → va_P D vwCl (wl N b w1) H → va_S (AA b) s.heap H locs → lv_has ls 4 [(2, .int (iI (i))), (0, .ref (b + k)), (1, .ref (b + kd))] → W p l e rm_c_drawUniform s m args below meth c H locs 0 0 Q (F0 m 2 ls []) := by
    intro d
    induction d with
    | zero => intro i g2 w1 H locs ls h0 h1 hd hg fg2 fg3 fr4 hP hS hl; exfalso; omega
    | succ d ihlo =>
      intro i g2 w1 H locs ls h0 h1 hd hg fg2 fg3 fr4 hP hS hl
      have ff5 : w1 k = .inr (3, [.int (iI (sm)), .ref (b + (k + 1))]) := (fr4 k (by omega) (by omega)).trans f0
      refine lv_iload_n hx hb d_P_drawUniform_2 rfl (lv_at hl 0 rfl) ?_
      refine lv_bipush (v := iI (8)) hx hb d_P_drawUniform_3 (by decide +kernel) ?_
      refine x_icmp_ge (tgt := 48) hx hb ⟨by omega, by omega⟩ ⟨by omega, by omega⟩ d_P_drawUniform_5 (by decide) (fun hc => ?_) (fun hc => ?_)
      · obtain rfl : i = 8 := by omega
        exact ret w1 H locs 48 ls ⟨g2, fg2, fg3, uni_Rep z0 (fun a c h2 h3 h4 h5 => hg a c h2 h3 h4 h5), fr4⟩ hP hS d_P_drawUniform_48
      · refine lv_iconst (v := iI (0)) hx hb d_P_drawUniform_8 rfl ?_
        refine lv_istore_n (lv' := [(3, .int (iI (0))), (2, .int (iI (i))), (0, .ref (b + k)), (1, .ref (b + kd))]) hx hb d_P_drawUniform_9 rfl hl (by decide) rfl (fun ls hl => ?_)
        have li : ∀ (d2 : Nat) (a : Int) (g2 : Int → Int) (w6 : Nat → va_E) (H : Heap) (locs : List Loc) (ls : Array Slot), (0 ≤ a) → (a ≤ 4) → (4 - a < d2) → (∀ r c : Int, 0 ≤ r → r ≤ 3 → 0 ≤ c → (c < i ∨ (c = i ∧ r < a)) → g2 (r * 8 + c) = res z0 c r) → w6 (k + 1) = ir ct 32 (g2) → w6 kd = .inr (0, [.int (it (4 * i + a).toNat z0)]) → (∀ j : Nat, (j ≠ k + 1) → (j ≠ kd) → w6 j = u j) → va_P D vwCl (wl N b w6) H → va_S (AA b) s.heap H locs → lv_has ls 4 [(3, .int (iI (a))), (2, .int (iI (i))), (0, .ref (b + k)), (1, .ref (b + kd))] → W p l e rm_c_drawUniform s m args below meth c H locs 0 0 Q (F0 m 10 ls []) := by
          intro d2
          induction d2 with
          | zero => intro a g2 w6 H locs ls ha0 ha4 hd2 hg fg7 fg8 fr9 hP hS hl; exfalso; omega
          | succ d2 ihli =>
            intro a g2 w6 H locs ls ha0 ha4 hd2 hg fg7 fg8 fr9 hP hS hl
            have ff10 : w6 k = .inr (3, [.int (iI (sm)), .ref (b + (k + 1))]) := (fr9 k (by omega) (by omega)).trans f0
            refine lv_iload_n hx hb d_P_drawUniform_10 rfl (lv_at hl 0 rfl) ?_
            refine lv_iconst (v := iI (4)) hx hb d_P_drawUniform_11 rfl ?_
            refine x_icmp_ge (tgt := 42) hx hb ⟨by omega, by omega⟩ ⟨by omega, by omega⟩ d_P_drawUniform_12 (by decide) (fun hc => ?_) (fun hc => ?_)
            · obtain rfl : a = 4 := by omega
              refine lv_iinc (k := 1) (v := iI (i + 1)) (lv' := [(2, .int (iI (i + 1))), (3, .int (iI (4))), (0, .ref (b + k)), (1, .ref (b + kd))]) hx hb d_P_drawUniform_42 hl rfl (iI_add _ _) (by decide) rfl (fun ls hl => ?_)
              refine lv_goto (tgt := 2) hx hb d_P_drawUniform_45 (by decide) ?_
              have hl : lv_has ls 4 [(2, .int (iI (i + 1))), (0, .ref (b + k)), (1, .ref (b + kd))] := lv_sub hl [0, 2, 3] rfl
              exact ihlo (i + 1) g2 w6 H locs ls (by omega) (by omega) (by omega) (fun r c h2 h3 h4 h5 => hg r c h2 h3 h4 (by omega)) fg7 (by rw [show 4 * (i + 1) = 4 * i + 4 by omega]; exact fg8) fr9 hP hS hl
            · have hlq := lq_bd a
              have es : it (4 * i + a + 1).toNat z0 = dz (it (4 * i + a).toNat z0) := by rw [show (4 * i + a + 1).toNat = (4 * i + a).toNat + 1 by omega]; rfl
              have bdv := dv_bd (dz (it (4 * i + a).toNat z0))
              refine lv_aload_n hx hb d_P_drawUniform_15 rfl (lv_at hl 2 rfl) ?_
              refine w_get (C := "LevelledRing$Poly") (T := T_P) (M := 2) hx hb hts hinP hown hK hP (k) (by omega) ff10 rfl 1 (by decide) kk0 (fun _ h => h) rfl d_P_drawUniform_16 ?_
              refine lv_iload_n hx hb d_P_drawUniform_19 rfl (lv_at hl 0 rfl) ?_
              refine lv_bipush (v := iI (8)) hx hb d_P_drawUniform_20 (by decide +kernel) ?_
              refine x_imul hx hb d_P_drawUniform_22 ?_
              refine lv_iload_n hx hb d_P_drawUniform_23 rfl (lv_at hl 1 rfl) ?_
              refine x_iadd hx hb d_P_drawUniform_24 ?_
              refine lv_aload_n hx hb d_P_drawUniform_25 rfl (lv_at hl 3 rfl) ?_
              refine w_calli (va_runV (As := []) (rest := [.int (iI ((a * 8) + (i))), .ref (b + (k + 1))]) ⟨hx, hb, hml, hown, hts⟩ (c_draw l D ct st ke b N w6 kd (it (4 * i + a).toNat z0) hkd fg8) (cwV 0 hts (gV t_90 t_91 t_92 t_2 t_93) rfl rfl rfl (by decide +kernel) ⟨Nat.le_of_ble_eq_true rfl, Nat.le_of_ble_eq_true rfl⟩) (pre_V E hP hS (kd) (by omega) fg8 rfl) rfl rfl hl.1 rfl (lv_room (Nat.le_of_ble_eq_true rfl)) d_P_drawUniform_26 ⟨(Nat.le_of_ble_eq_true rfl), (Nat.le_of_ble_eq_true rfl)⟩) hS (fun r12 z11 H locs hz hP hS => ?_)
              obtain ⟨rfl, hzd, hzf⟩ := hz
              have ff13 : z11 k = .inr (3, [.int (iI (sm)), .ref (b + (k + 1))]) := (hzf k (by omega)).trans ff10
              have ff14 : z11 (k + 1) = ir ct 32 (g2) := (hzf (k + 1) (by omega)).trans fg7
              have fr15 : ∀ j : Nat, (j ≠ k + 1) → (j ≠ kd) → z11 j = u j := fun j h0 h1 => (hzf j (by omega)).trans (fr9 j h0 h1)
              refine va_getsN hx hb (ev_Z0 E) hS hown kk2 (fun _ h => h) d_P_drawUniform_29 ?_
              refine lv_iload_n hx hb d_P_drawUniform_32 rfl (lv_at hl 0 rfl) ?_
              refine x_ti hx hb (ev_T0 E) hS (by omega) (by omega) (by decide) d_P_drawUniform_33 ?_
              refine x_iremP hx hb ⟨by omega, by omega⟩ ⟨by omega, by omega⟩ (by omega) (by omega) d_P_drawUniform_34 ?_
              refine w_iast hx hb hK hP hS (k + 1) (by omega) ff14 (by omega) (by omega) (by omega) d_P_drawUniform_35 (fun H locs hP hS => ?_)
              obtain ⟨u16, hu17, hP⟩ : ∃ zz : Nat → va_E, zz = va_up z11 (k + 1) (ir ct 32 (zu g2 ((a * 8) + (i)) ((dv (dz (it (4 * i + a).toNat z0))) % (lq (a))))) ∧ va_P D vwCl (wl N b zz) H := ⟨_, rfl, hP⟩
              have ff18 : u16 k = .inr (3, [.int (iI (sm)), .ref (b + (k + 1))]) := (congrFun hu17 _).trans ((up_n (by omega)).trans ff13)
              have ff19 : u16 (k + 1) = ir ct 32 (zu g2 ((a * 8) + (i)) ((dv (dz (it (4 * i + a).toNat z0))) % (lq (a)))) := (congrFun hu17 _).trans up_s
              have ff20 : u16 kd = .inr (0, [.int (dz (it (4 * i + a).toNat z0))]) := (congrFun hu17 _).trans ((up_n (by omega)).trans hzd)
              have fr21 : ∀ j : Nat, (j ≠ k + 1) → (j ≠ kd) → u16 j = u j := fun j h0 h1 => (congrFun hu17 j).trans ((up_n (by omega)).trans (fr15 j h0 h1))
              refine lv_iinc (k := 0) (v := iI (a + 1)) (lv' := [(3, .int (iI (a + 1))), (2, .int (iI (i))), (0, .ref (b + k)), (1, .ref (b + kd))]) hx hb d_P_drawUniform_36 hl rfl (iI_add _ _) (by decide) rfl (fun ls hl => ?_)
              refine lv_goto (tgt := 10) hx hb d_P_drawUniform_39 (by decide) ?_
              refine ihli (a + 1) _ u16 H locs ls (by omega) (by omega) (by omega) (fun r c h2 h3 h4 h5 => ?_) ff19 (by rw [show 4 * i + (a + 1) = 4 * i + a + 1 by omega, es]; exact ff20) fr21 hP hS hl
              by_cases h6 : r * 8 + c = a * 8 + i
              · obtain ⟨rfl, rfl⟩ : r = a ∧ c = i := by omega
                rw [zu_s, ← es]
                rfl
              · rw [zu_n h6]
                exact hg r c h2 h3 h4 (by omega)
        exact li 5 0 g2 w1 H locs ls (by omega) (by omega) (by omega) (fun r c h2 h3 h4 h5 => hg r c h2 h3 h4 (by omega)) fg2 (by rw [Int.add_zero]; exact fg3) fr4 hP hS hl
  exact lo 9 0 g u H locs ls (by omega) (by omega) (by omega) (fun r c h2 h3 h4 h5 => by omega) f1 fd fr0 hP hS hl
abbrev rm_c_drawSmall : Room := { frames := 1, cells := 0, slots := 0, locals := 23 }
set_option maxHeartbeats 4000000 in
set_option maxRecDepth 100000 in
/-- drawSmall(drawing, fac) -/
theorem c_drawSmall (l : Launch) (D : va_G) (ct : Nat → ClassId) (st ke : Nat → Nat) (b N : Nat) (u : Nat → va_E) (k : Nat) (sm : Int) (g : Int → Int) (hk : k + 1 < N) (f0 : u k = po b k sm) (f1 : u (k + 1) = ir ct 32 g) (kd : Nat) (z0 : Int32) (hkd : kd < N) (fd : u kd = dr z0) (fac : Int) (hfac : fac = 1 ∨ fac = 17) : Met l y_P_drawSmall (w_P_drawSmall) rm_c_drawSmall (va_Pc [.ref (b + k), .ref (b + kd), .int (iI (fac))] (fun U => ev D ct st ke b U ∧ va_P D vwCl (wl N b u) U.heap)) (va_Qv (fun z : Nat → va_E => ∃ g2 : Int → Int, z (k + 1) = ir ct 32 g2 ∧ z kd = dr (it 8 z0) ∧ (Rep g2 0 3 (fun i => fac * sml z0 i)) ∧ ∀ j : Nat, j ≠ k + 1 → j ≠ kd → z j = u j) (fun (z : Nat → va_E) t => va_P D vwCl (wl (N) b (z)) t.heap) (AA b)) 0 0 (AA b) := by
  refine M_v (cc := c9_P_drawSmall) (maxL := 6) (by decide) rfl (Nat.le_of_ble_eq_true rfl) ?_
  intro p e s m args below meth c Q ls H locs hx hb hml hown hts hnm E hP hS hl ret
  have hl : lv_has ls 6 [(0, .ref (b + k)), (1, .ref (b + kd)), (2, .int (iI (fac)))] := hl
  have hK := ev_K E
  have kk0 := hts (.fieldLink "LevelledRing$Poly" 15 "LevelledRing$Poly" "c" "[I") (List.mem_cons_of_mem _ t_38)
  have hinP : ∀ w ∈ u_ws "LevelledRing$Poly" T_P 2, w ∈ (w_P_drawSmall) := hin_P _
  have kk2 : ((.fieldLinkNest "LevelledRing$Poly" 19 "LevelledRing" "PRIMES" "[I" "LevelledRing") : Cond).before args s = true := va_Nw.use rfl (ev_W E _ nw_2)
  have kk3 := hts (.initialized "LevelledRing") (List.mem_cons_of_mem _ t_1)
  have kk4 := hts (.static y_R_modulo) (List.mem_cons_of_mem _ t_99)
  have kn5 : va_Nw (.methodLinkNest "LevelledRing$Poly" 40 y_R_modulo "LevelledRing") s := ev_W E _ nw_3
  have fr0 : ∀ j : Nat, (j ≠ k + 1) → (j ≠ kd) → u j = u j := fun _ _ _ => rfl
  have hd1 : kd ≠ k + 1 := fun h => by rw [h, f1] at fd; exact absurd fd (by intro h; cases h)
  have hd2 : kd ≠ k := fun h => by rw [h, f0] at fd; exact absurd fd (by intro h; cases h)
  refine lv_iconst (v := iI (0)) hx hb d_P_drawSmall_0 rfl ?_
  refine lv_istore_n (lv' := [(3, .int (iI (0))), (0, .ref (b + k)), (1, .ref (b + kd)), (2, .int (iI (fac)))]) hx hb d_P_drawSmall_1 rfl hl (by decide) rfl (fun ls hl => ?_)
  have lo : ∀ (d : Nat) (i : Int) (g2 : Int → Int) (w1 : Nat → va_E) (H : Heap) (locs : List Loc) (ls : Array Slot), (0 ≤ i) → (i ≤ 8) → (8 - i < d) → (∀ a c : Int, 0 ≤ a → a ≤ 3 → 0 ≤ c → c < i → g2 (a * 8 + c) = (fac * sml z0 c) % mu 0 a) → w1 (k + 1) = ir ct 32 (g2) → w1 kd = .inr (0, [.int (it (i).toNat z0)]) → (∀ j : Nat, (j ≠ k + 1) → (j ≠ kd) → w1 j = u j) → va_P D vwCl (wl N b w1) H → va_S (AA b) s.heap H locs → lv_has ls 6 [(3, .int (iI (i))), (0, .ref (b + k)), (1, .ref (b + kd)), (2, .int (iI (fac)))] → W p l e rm_c_drawSmall s m args below meth c H locs 0 0 Q (F0 m 2 ls []) := by
    intro d
    induction d with
    | zero => intro i g2 w1 H locs ls h0 h1 hd hg fg2 fg3 fr4 hP hS hl; exfalso; omega
    | succ d ihlo =>
      intro i g2 w1 H locs ls h0 h1 hd hg fg2 fg3 fr4 hP hS hl
      have ff5 : w1 k = .inr (3, [.int (iI (sm)), .ref (b + (k + 1))]) := (fr4 k (by omega) (by omega)).trans f0
      refine lv_iload_n hx hb d_P_drawSmall_2 rfl (lv_at hl 0 rfl) ?_
      refine lv_bipush (v := iI (8)) hx hb d_P_drawSmall_3 (by decide +kernel) ?_
      refine x_icmp_ge (tgt := 65) hx hb ⟨by omega, by omega⟩ ⟨by omega, by omega⟩ d_P_drawSmall_5 (by decide) (fun hc => ?_) (fun hc => ?_)
      · obtain rfl : i = 8 := by omega
        exact ret w1 H locs 65 ls ⟨g2, fg2, fg3, fun a c h2 h3 h4 h5 => hg a c h2 h3 h4 h5, fr4⟩ hP hS d_P_drawSmall_65
      · have es : it (i + 1).toNat z0 = dz (it i.toNat z0) := by rw [show (i + 1).toNat = i.toNat + 1 by omega]; rfl
        have bdv := dv_bd (dz (it i.toNat z0))
        have bs := sml_bd z0 i
        refine lv_iload_n hx hb d_P_drawSmall_8 rfl (lv_at hl 3 rfl) ?_
        refine lv_aload_n hx hb d_P_drawSmall_9 rfl (lv_at hl 2 rfl) ?_
        refine w_calli (va_runV (As := []) (rest := [.int (iI (fac))]) ⟨hx, hb, hml, hown, hts⟩ (c_draw l D ct st ke b N w1 kd (it i.toNat z0) hkd fg3) (cwV 0 hts (gV t_90 t_91 t_92 t_2 t_93) rfl rfl rfl (by decide +kernel) ⟨Nat.le_of_ble_eq_true rfl, Nat.le_of_ble_eq_true rfl⟩) (pre_V E hP hS (kd) (by omega) fg3 rfl) rfl rfl hl.1 rfl (lv_room (Nat.le_of_ble_eq_true rfl)) d_P_drawSmall_10 ⟨(Nat.le_of_ble_eq_true rfl), (Nat.le_of_ble_eq_true rfl)⟩) hS (fun r7 z6 H locs hz hP hS => ?_)
        obtain ⟨rfl, hzd, hzf⟩ := hz
        have ff8 : z6 k = .inr (3, [.int (iI (sm)), .ref (b + (k + 1))]) := (hzf k (by omega)).trans ff5
        have ff9 : z6 (k + 1) = ir ct 32 (g2) := (hzf (k + 1) (by omega)).trans fg2
        have fr10 : ∀ j : Nat, (j ≠ k + 1) → (j ≠ kd) → z6 j = u j := fun j h0 h1 => (hzf j (by omega)).trans (fr4 j h0 h1)
        refine lv_iconst (v := iI (3)) hx hb d_P_drawSmall_13 rfl ?_
        refine x_iremP hx hb ⟨by omega, by omega⟩ ⟨by omega, by omega⟩ (by omega) (by omega) d_P_drawSmall_14 ?_
        refine lv_iconst (v := iI (1)) hx hb d_P_drawSmall_15 rfl ?_
        refine x_isub hx hb d_P_drawSmall_16 ?_
        refine x_ie (y := sml z0 i) (by unfold sml; rw [es]) ?_
        have bf : -17 ≤ fac * sml z0 i ∧ fac * sml z0 i ≤ 17 := by rcases hfac with rfl | rfl <;> omega
        refine x_imul hx hb d_P_drawSmall_17 ?_
        refine lv_istore (lv' := [(4, .int (iI ((fac) * (sml z0 i)))), (3, .int (iI (i))), (0, .ref (b + k)), (1, .ref (b + kd)), (2, .int (iI (fac)))]) hx hb d_P_drawSmall_18 hl (by decide) rfl (fun ls hl => ?_)
        refine lv_iconst (v := iI (0)) hx hb d_P_drawSmall_20 rfl ?_
        refine lv_istore (lv' := [(5, .int (iI (0))), (4, .int (iI ((fac) * (sml z0 i)))), (3, .int (iI (i))), (0, .ref (b + k)), (1, .ref (b + kd)), (2, .int (iI (fac)))]) hx hb d_P_drawSmall_21 hl (by decide) rfl (fun ls hl => ?_)
        have li : ∀ (d2 : Nat) (a : Int) (g2 : Int → Int) (w11 : Nat → va_E) (H : Heap) (locs : List Loc) (ls : Array Slot), (0 ≤ a) → (a ≤ 4) → (4 - a < d2) → (∀ r c : Int, 0 ≤ r → r ≤ 3 → 0 ≤ c → (c < i ∨ (c = i ∧ r < a)) → g2 (r * 8 + c) = (fac * sml z0 c) % mu 0 r) → w11 (k + 1) = ir ct 32 (g2) → w11 kd = .inr (0, [.int (dz (it i.toNat z0))]) → (∀ j : Nat, (j ≠ k + 1) → (j ≠ kd) → w11 j = u j) → va_P D vwCl (wl N b w11) H → va_S (AA b) s.heap H locs → lv_has ls 6 [(5, .int (iI (a))), (4, .int (iI (fac * (sml z0 i)))), (3, .int (iI (i))), (0, .ref (b + k)), (1, .ref (b + kd)), (2, .int (iI (fac)))] → W p l e rm_c_drawSmall s m args below meth c H locs 0 0 Q (F0 m 23 ls []) := by
          intro d2
          induction d2 with
          | zero => intro a g2 w11 H locs ls ha0 ha4 hd2 hg fg12 fg13 fr14 hP hS hl; exfalso; omega
          | succ d2 ihli =>
            intro a g2 w11 H locs ls ha0 ha4 hd2 hg fg12 fg13 fr14 hP hS hl
            have ff15 : w11 k = .inr (3, [.int (iI (sm)), .ref (b + (k + 1))]) := (fr14 k (by omega) (by omega)).trans f0
            refine lv_iload hx hb d_P_drawSmall_23 (lv_at hl 0 rfl) ?_
            refine lv_iconst (v := iI (4)) hx hb d_P_drawSmall_25 rfl ?_
            refine x_icmp_ge (tgt := 59) hx hb ⟨by omega, by omega⟩ ⟨by omega, by omega⟩ d_P_drawSmall_26 (by decide) (fun hc => ?_) (fun hc => ?_)
            · obtain rfl : a = 4 := by omega
              refine lv_iinc (k := 2) (v := iI (i + 1)) (lv' := [(3, .int (iI (i + 1))), (5, .int (iI (4))), (4, .int (iI (fac * (sml z0 i)))), (0, .ref (b + k)), (1, .ref (b + kd)), (2, .int (iI (fac)))]) hx hb d_P_drawSmall_59 hl rfl (iI_add _ _) (by decide) rfl (fun ls hl => ?_)
              refine lv_goto (tgt := 2) hx hb d_P_drawSmall_62 (by decide) ?_
              have hl : lv_has ls 6 [(3, .int (iI (i + 1))), (0, .ref (b + k)), (1, .ref (b + kd)), (2, .int (iI (fac)))] := lv_sub hl [0, 3, 4, 5] rfl
              exact ihlo (i + 1) g2 w11 H locs ls (by omega) (by omega) (by omega) (fun r c h2 h3 h4 h5 => hg r c h2 h3 h4 (by omega)) fg12 (by rw [es]; exact fg13) fr14 hP hS hl
            · have hlq := lq_bd a
              refine lv_aload_n hx hb d_P_drawSmall_29 rfl (lv_at hl 3 rfl) ?_
              refine w_get (C := "LevelledRing$Poly") (T := T_P) (M := 2) hx hb hts hinP hown hK hP (k) (by omega) ff15 rfl 1 (by decide) kk0 (fun _ h => h) rfl d_P_drawSmall_30 ?_
              refine lv_iload hx hb d_P_drawSmall_33 (lv_at hl 0 rfl) ?_
              refine lv_bipush (v := iI (8)) hx hb d_P_drawSmall_35 (by decide +kernel) ?_
              refine x_imul hx hb d_P_drawSmall_37 ?_
              refine lv_iload_n hx hb d_P_drawSmall_38 rfl (lv_at hl 2 rfl) ?_
              refine x_iadd hx hb d_P_drawSmall_39 ?_
              refine lv_iload hx hb d_P_drawSmall_40 (lv_at hl 1 rfl) ?_
              refine x_i2l hx hb ⟨by omega, by omega⟩ d_P_drawSmall_42 ?_
              refine va_getsN hx hb (ev_Z0 E) hS hown kk2 (fun _ h => h) d_P_drawSmall_43 ?_
              refine lv_iload hx hb d_P_drawSmall_46 (lv_at hl 0 rfl) ?_
              refine x_ti hx hb (ev_T0 E) hS (by omega) (by omega) (by decide) d_P_drawSmall_48 ?_
              refine w_calli (va_runSN (As := [.long (lI (fac * (sml z0 i))), .int (iI (lq (a)))]) (rest := [.int (iI ((a * 8) + (i))), .ref (b + (k + 1))]) ⟨hx, hb, hml, hown, hts⟩ (c_modulo l D ct st ke b N w11 (fac * (sml z0 i)) (lq (a)) ⟨by omega, by omega⟩ (by omega) (by omega)) ⟨va_cnB 2 hts (gC t_100) rfl rfl rfl kn5 kk3 (by decide +kernel) ⟨Nat.le_of_ble_eq_true rfl, Nat.le_of_ble_eq_true rfl⟩, kk4, trivial⟩ (pre_S E hP hS) rfl rfl hl.1 rfl (lv_room (Nat.le_of_ble_eq_true rfl)) d_P_drawSmall_49 ⟨(Nat.le_of_ble_eq_true rfl), (Nat.le_of_ble_eq_true rfl)⟩) hS (fun r17 z16 H locs hz hP hS => ?_)
              obtain ⟨rfl, rfl⟩ := hz
              refine w_iast hx hb hK hP hS (k + 1) (by omega) fg12 (by omega) (by omega) (by omega) d_P_drawSmall_52 (fun H locs hP hS => ?_)
              obtain ⟨u18, hu19, hP⟩ : ∃ zz : Nat → va_E, zz = va_up w11 (k + 1) (ir ct 32 (zu g2 ((a * 8) + (i)) ((fac * (sml z0 i)) % (lq (a))))) ∧ va_P D vwCl (wl N b zz) H := ⟨_, rfl, hP⟩
              have ff20 : u18 k = .inr (3, [.int (iI (sm)), .ref (b + (k + 1))]) := (congrFun hu19 _).trans ((up_n (by omega)).trans ff15)
              have ff21 : u18 (k + 1) = ir ct 32 (zu g2 ((a * 8) + (i)) ((fac * (sml z0 i)) % (lq (a)))) := (congrFun hu19 _).trans up_s
              have ff22 : u18 kd = .inr (0, [.int (dz (it i.toNat z0))]) := (congrFun hu19 _).trans ((up_n (by omega)).trans fg13)
              have fr23 : ∀ j : Nat, (j ≠ k + 1) → (j ≠ kd) → u18 j = u j := fun j h0 h1 => (congrFun hu19 j).trans ((up_n (by omega)).trans (fr14 j h0 h1))
              refine lv_iinc (k := 0) (v := iI (a + 1)) (lv' := [(5, .int (iI (a + 1))), (4, .int (iI (fac * (sml z0 i)))), (3, .int (iI (i))), (0, .ref (b + k)), (1, .ref (b + kd)), (2, .int (iI (fac)))]) hx hb d_P_drawSmall_53 hl rfl (iI_add _ _) (by decide) rfl (fun ls hl => ?_)
              refine lv_goto (tgt := 23) hx hb d_P_drawSmall_56 (by decide) ?_
              refine ihli (a + 1) _ u18 H locs ls (by omega) (by omega) (by omega) (fun r c h2 h3 h4 h5 => ?_) ff21 ff22 fr23 hP hS hl
              by_cases h6 : r * 8 + c = a * 8 + i
              · obtain ⟨rfl, rfl⟩ : r = a ∧ c = i := by omega
                rw [zu_s]
                rfl
              · rw [zu_n h6]
                exact hg r c h2 h3 h4 (by omega)
        exact li 5 0 g2 z6 H locs ls (by omega) (by omega) (by omega) (fun r c h2 h3 h4 h5 => hg r c h2 h3 h4 (by omega)) ff9 hzd fr10 hP hS hl
  exact lo 9 0 g u H locs ls (by omega) (by omega) (by omega) (fun r c h2 h3 h4 h5 => by omega) f1 fd fr0 hP hS hl
abbrev rm_c_setTurned : Room := { frames := 1, cells := 0, slots := 0, locals := 23 }
set_option maxHeartbeats 4000000 in
set_option maxRecDepth 100000 in
/-- setTurned(x, tt, top) -/
theorem c_setTurned (l : Launch) (D : va_G) (ct : Nat → ClassId) (st ke : Nat → Nat) (b N : Nat) (u : Nat → va_E) (k : Nat) (sm : Int) (n : Nat) (g : Int → Int) (hk : k + 1 < N) (hn : n < 65536) (f0 : u k = po b k sm) (f1 : u (k + 1) = ir ct n g) (top : Int) (ht0 : 0 ≤ top) (ht3 : top ≤ 3) (hn8 : 8 * (top + 1) ≤ n) (hsm : sm = 0 ∨ sm = 1) (kx nx : Nat) (gx : Int → Int) (hkx : kx + 1 < N) (hnx : nx < 65536) (hnx8 : 8 * (top + 1) ≤ nx) (hnex : kx + 1 ≠ k + 1) (fx0 : u kx = po b kx sm) (fx1 : u (kx + 1) = ir ct nx gx) (tt : Int) (htt0 : 0 ≤ tt) (htt : tt < 16) (X : Int → Int) (hX : Rep gx sm top X) : Met l y_P_setTurned (w_P_setTurned) rm_c_setTurned (va_Pc [.ref (b + k), .ref (b + kx), .int (iI (tt)), .int (iI (top))] (fun U => ev D ct st ke b U ∧ va_P D vwCl (wl N b u) U.heap)) (va_Qv (fun z : Nat → va_E => ∃ g2 : Int → Int, z (k + 1) = ir ct n g2 ∧ (Rep g2 sm top (trn X tt)) ∧ ∀ j : Nat, j ≠ k + 1 → z j = u j) (fun (z : Nat → va_E) t => va_P D vwCl (wl (N) b (z)) t.heap) (AA b)) 0 0 (AA b) := by
  refine M_v (cc := c9_P_setTurned) (maxL := 9) (by decide) rfl (Nat.le_of_ble_eq_true rfl) ?_
  intro p e s m args below meth c Q ls H locs hx hb hml hown hts hnm E hP hS hl ret
  have hl : lv_has ls 9 [(0, .ref (b + k)), (1, .ref (b + kx)), (2, .int (iI (tt))), (3, .int (iI (top)))] := hl
  have hK := ev_K E
  have kk0 := hts (.fieldLink "LevelledRing$Poly" 15 "LevelledRing$Poly" "c" "[I") (List.mem_cons_of_mem _ t_38)
  have hinP : ∀ w ∈ u_ws "LevelledRing$Poly" T_P 2, w ∈ (w_P_setTurned) := hin_P _
  have kk2 := hts (.initialized "LevelledRing") (List.mem_cons_of_mem _ t_1)
  have kk3 := hts (.static y_R_modulo) (List.mem_cons_of_mem _ t_99)
  have kn4 : va_Nw (.methodLinkNest "LevelledRing$Poly" 40 y_R_modulo "LevelledRing") s := ev_W E _ nw_3
  have fr0 : ∀ j : Nat, (j ≠ k + 1) → u j = u j := fun _ _ => rfl
  have hplx : kx ≠ k + 1 := fun h => by rw [h, f1] at fx0; exact absurd fx0 (by intro h; cases h)
  refine lv_iconst (v := iI (0)) hx hb d_P_setTurned_0 rfl ?_
  refine lv_istore (lv' := [(4, .int (iI (0))), (0, .ref (b + k)), (1, .ref (b + kx)), (2, .int (iI (tt))), (3, .int (iI (top)))]) hx hb d_P_setTurned_1 hl (by decide) rfl (fun ls hl => ?_)
  have lo : ∀ (d : Nat) (a : Int) (g2 : Int → Int) (w1 : Nat → va_E) (H : Heap) (locs : List Loc) (ls : Array Slot), (0 ≤ a) → (a ≤ top + 1) → (top + 1 - a < d) → (∀ r q : Int, 0 ≤ r → 0 ≤ q → q < 8 → r * 8 + q < a * 8 → g2 (r * 8 + (q + tt) % 16 % 8) = (if (q + tt) % 16 < 8 then X q else -X q) % mu sm r) → w1 (k + 1) = ir ct n (g2) → (∀ j : Nat, (j ≠ k + 1) → w1 j = u j) → va_P D vwCl (wl N b w1) H → va_S (AA b) s.heap H locs → lv_has ls 9 [(4, .int (iI (a))), (0, .ref (b + k)), (1, .ref (b + kx)), (2, .int (iI (tt))), (3, .int (iI (top)))] → W p l e rm_c_setTurned s m args below meth c H locs 0 0 Q (F0 m 3 ls []) := by
    intro d
    induction d with
    | zero => intro a g2 w1 H locs ls h0 h1 hd hg fg2 fr3 hP hS hl; exfalso; omega
    | succ d ihlo =>
      intro a g2 w1 H locs ls h0 h1 hd hg fg2 fr3 hP hS hl
      have ff4 : w1 k = .inr (3, [.int (iI (sm)), .ref (b + (k + 1))]) := (fr3 k (by omega)).trans f0
      have ff5 : w1 kx = .inr (3, [.int (iI (sm)), .ref (b + (kx + 1))]) := (fr3 kx (by omega)).trans fx0
      have ff6 : w1 (kx + 1) = ir ct nx (gx) := (fr3 (kx + 1) (by omega)).trans fx1
      refine lv_iload hx hb d_P_setTurned_3 (lv_at hl 0 rfl) ?_
      refine lv_iload_n hx hb d_P_setTurned_5 rfl (lv_at hl 4 rfl) ?_
      refine x_icmp_gt (tgt := 100) hx hb ⟨by omega, by omega⟩ ⟨by omega, by omega⟩ d_P_setTurned_6 (by decide) (fun hc => ?_) (fun hc => ?_)
      · refine ret w1 H locs 100 ls ⟨g2, fg2, fun r i h2 h3 h4 h5 => ?_, fr3⟩ hP hS d_P_setTurned_100
        have h6 := hg r ((i - tt) % 8) h2 (by omega) (by omega) (by omega)
        rw [show ((i - tt) % 8 + tt) % 16 % 8 = i by omega] at h6
        rw [h6]
        unfold trn tsg
        by_cases h7 : ((i - tt) % 8 + tt) % 16 < 8
        · rw [if_pos h7, if_pos (by omega), Int.one_mul]
        · rw [if_neg h7, if_neg (by omega), Int.neg_one_mul]
      · have hmu := mu_bd sm a
        refine lv_aload_n hx hb d_P_setTurned_9 rfl (lv_at hl 1 rfl) ?_
        refine lv_iload hx hb d_P_setTurned_10 (lv_at hl 0 rfl) ?_
        refine w_calli (va_runV (As := [.int (iI (a))]) (rest := []) ⟨hx, hb, hml, hown, hts⟩ (c_rowModulus l D ct st ke b N w1 k sm (a) (by omega) ff4 hsm (by omega) (by omega)) (cwV 1 hts (gV t_105 t_107 (tb_sel ((y_P_rowModulus), 2) (List.mem_of_getElem? (i := 0) (by decide +kernel))) t_3 t_108) rfl rfl rfl (by decide +kernel) ⟨Nat.le_of_ble_eq_true rfl, Nat.le_of_ble_eq_true rfl⟩) (pre_V E hP hS (k) (by omega) ff4 rfl) rfl rfl hl.1 rfl (lv_room (Nat.le_of_ble_eq_true rfl)) d_P_setTurned_12 ⟨(Nat.le_of_ble_eq_true rfl), (Nat.le_of_ble_eq_true rfl)⟩) hS (fun r8 z7 H locs hz hP hS => ?_)
        obtain ⟨rfl, rfl⟩ := hz
        refine lv_istore (lv' := [(5, .int (iI (mu sm (a)))), (4, .int (iI (a))), (0, .ref (b + k)), (1, .ref (b + kx)), (2, .int (iI (tt))), (3, .int (iI (top)))]) hx hb d_P_setTurned_15 hl (by decide) rfl (fun ls hl => ?_)
        refine lv_iconst (v := iI (0)) hx hb d_P_setTurned_17 rfl ?_
        refine lv_istore (lv' := [(6, .int (iI (0))), (5, .int (iI (mu sm (a)))), (4, .int (iI (a))), (0, .ref (b + k)), (1, .ref (b + kx)), (2, .int (iI (tt))), (3, .int (iI (top)))]) hx hb d_P_setTurned_18 hl (by decide) rfl (fun ls hl => ?_)
        have li : ∀ (d2 : Nat) (i : Int) (g2 : Int → Int) (w9 : Nat → va_E) (H : Heap) (locs : List Loc) (ls : Array Slot), (0 ≤ i) → (i ≤ 8) → (8 - i < d2) → (∀ r q : Int, 0 ≤ r → 0 ≤ q → q < 8 → r * 8 + q < a * 8 + i → g2 (r * 8 + (q + tt) % 16 % 8) = (if (q + tt) % 16 < 8 then X q else -X q) % mu sm r) → w9 (k + 1) = ir ct n (g2) → (∀ j : Nat, (j ≠ k + 1) → w9 j = u j) → va_P D vwCl (wl N b w9) H → va_S (AA b) s.heap H locs → lv_has ls 9 [(6, .int (iI (i))), (5, .int (iI (mu sm (a)))), (4, .int (iI (a))), (0, .ref (b + k)), (1, .ref (b + kx)), (2, .int (iI (tt))), (3, .int (iI (top)))] → W p l e rm_c_setTurned s m args below meth c H locs 0 0 Q (F0 m 20 ls []) := by
          intro d2
          induction d2 with
          | zero => intro i g2 w9 H locs ls hi0 hi8 hd2 hg fg10 fr11 hP hS hl; exfalso; omega
          | succ d2 ihli =>
            intro i g2 w9 H locs ls hi0 hi8 hd2 hg fg10 fr11 hP hS hl
            have ff12 : w9 k = .inr (3, [.int (iI (sm)), .ref (b + (k + 1))]) := (fr11 k (by omega)).trans f0
            have ff13 : w9 kx = .inr (3, [.int (iI (sm)), .ref (b + (kx + 1))]) := (fr11 kx (by omega)).trans fx0
            have ff14 : w9 (kx + 1) = ir ct nx (gx) := (fr11 (kx + 1) (by omega)).trans fx1
            refine lv_iload hx hb d_P_setTurned_20 (lv_at hl 0 rfl) ?_
            refine lv_bipush (v := iI (8)) hx hb d_P_setTurned_22 (by decide +kernel) ?_
            refine x_icmp_ge (tgt := 94) hx hb ⟨by omega, by omega⟩ ⟨by omega, by omega⟩ d_P_setTurned_24 (by decide) (fun hc => ?_) (fun hc => ?_)
            · refine lv_iinc (k := 2) (v := iI (a + 1)) (lv' := [(4, .int (iI (a + 1))), (6, .int (iI (i))), (5, .int (iI (mu sm (a)))), (0, .ref (b + k)), (1, .ref (b + kx)), (2, .int (iI (tt))), (3, .int (iI (top)))]) hx hb d_P_setTurned_94 hl rfl (iI_add _ _) (by decide) rfl (fun ls hl => ?_)
              refine lv_goto (tgt := 3) hx hb d_P_setTurned_97 (by decide) ?_
              have hl : lv_has ls 9 [(4, .int (iI (a + 1))), (0, .ref (b + k)), (1, .ref (b + kx)), (2, .int (iI (tt))), (3, .int (iI (top)))] := lv_sub hl [0, 3, 4, 5, 6] rfl
              exact ihlo (a + 1) g2 w9 H locs ls (by omega) (by omega) (by omega) (fun r i h2 h3 h4 h5 => hg r i h2 h3 h4 (by omega)) fg10 fr11 hP hS hl
            · have ex := hX a i h0 (by omega) (by omega) (by omega)
              have bx := hX.bd (k := a) (i := i) h0 (by omega) (by omega) (by omega)
              refine lv_iload hx hb d_P_setTurned_27 (lv_at hl 0 rfl) ?_
              refine lv_iload_n hx hb d_P_setTurned_29 rfl (lv_at hl 5 rfl) ?_
              refine x_iadd hx hb d_P_setTurned_30 ?_
              refine lv_bipush (v := iI (16)) hx hb d_P_setTurned_31 (by decide +kernel) ?_
              refine x_iremP hx hb ⟨by omega, by omega⟩ ⟨by omega, by omega⟩ (by omega) (by omega) d_P_setTurned_33 ?_
              refine lv_istore (lv' := [(7, .int (iI ((i + tt) % (16)))), (6, .int (iI (i))), (5, .int (iI (mu sm (a)))), (4, .int (iI (a))), (0, .ref (b + k)), (1, .ref (b + kx)), (2, .int (iI (tt))), (3, .int (iI (top)))]) hx hb d_P_setTurned_34 hl (by decide) rfl (fun ls hl => ?_)
              refine lv_aload_n hx hb d_P_setTurned_36 rfl (lv_at hl 5 rfl) ?_
              refine w_get (C := "LevelledRing$Poly") (T := T_P) (M := 2) hx hb hts hinP hown hK hP (kx) (by omega) ff13 rfl 1 (by decide) kk0 (fun _ h => h) rfl d_P_setTurned_37 ?_
              refine lv_iload hx hb d_P_setTurned_40 (lv_at hl 3 rfl) ?_
              refine lv_bipush (v := iI (8)) hx hb d_P_setTurned_42 (by decide +kernel) ?_
              refine x_imul hx hb d_P_setTurned_44 ?_
              refine lv_iload hx hb d_P_setTurned_45 (lv_at hl 1 rfl) ?_
              refine x_iadd hx hb d_P_setTurned_47 ?_
              refine w_iald hx hb hK hP (kx + 1) (by omega) ff14 (by omega) (by omega) (by omega) d_P_setTurned_48 ?_
              refine lv_istore (lv' := [(8, .int (iI (gx ((a * 8) + (i))))), (7, .int (iI ((i + tt) % (16)))), (6, .int (iI (i))), (5, .int (iI (mu sm (a)))), (4, .int (iI (a))), (0, .ref (b + k)), (1, .ref (b + kx)), (2, .int (iI (tt))), (3, .int (iI (top)))]) hx hb d_P_setTurned_49 hl (by decide) rfl (fun ls hl => ?_)
              refine lv_aload_n hx hb d_P_setTurned_51 rfl (lv_at hl 5 rfl) ?_
              refine w_get (C := "LevelledRing$Poly") (T := T_P) (M := 2) hx hb hts hinP hown hK hP (k) (by omega) ff12 rfl 1 (by decide) kk0 (fun _ h => h) rfl d_P_setTurned_52 ?_
              refine lv_iload hx hb d_P_setTurned_55 (lv_at hl 4 rfl) ?_
              refine lv_bipush (v := iI (8)) hx hb d_P_setTurned_57 (by decide +kernel) ?_
              refine x_imul hx hb d_P_setTurned_59 ?_
              refine lv_iload hx hb d_P_setTurned_60 (lv_at hl 1 rfl) ?_
              refine lv_bipush (v := iI (8)) hx hb d_P_setTurned_62 (by decide +kernel) ?_
              refine x_iremP hx hb ⟨by omega, by omega⟩ ⟨by omega, by omega⟩ (by omega) (by omega) d_P_setTurned_64 ?_
              refine x_iadd hx hb d_P_setTurned_65 ?_
              refine lv_iload hx hb d_P_setTurned_66 (lv_at hl 1 rfl) ?_
              refine lv_bipush (v := iI (8)) hx hb d_P_setTurned_68 (by decide +kernel) ?_
              refine x_icmp_ge (tgt := 78) hx hb ⟨by omega, by omega⟩ ⟨by omega, by omega⟩ d_P_setTurned_70 (by decide) (fun hc => ?_) (fun hc => ?_)
              · refine lv_iload hx hb d_P_setTurned_78 (lv_at hl 0 rfl) ?_
                refine x_ineg hx hb d_P_setTurned_80 ?_
                refine x_i2l hx hb ⟨by omega, by omega⟩ d_P_setTurned_81 ?_
                refine lv_iload hx hb d_P_setTurned_82 (lv_at hl 3 rfl) ?_
                refine w_calli (va_runSN (As := [.long (lI (-(gx ((a * 8) + (i))))), .int (iI (mu sm (a)))]) (rest := [.int (iI ((a * 8) + (((i + tt) % (16)) % (8)))), .ref (b + (k + 1))]) ⟨hx, hb, hml, hown, hts⟩ (c_modulo l D ct st ke b N w9 (-(gx ((a * 8) + (i)))) (mu sm (a)) ⟨by omega, by omega⟩ (by omega) (by omega)) ⟨va_cnB 2 hts (gC t_100) rfl rfl rfl kn4 kk2 (by decide +kernel) ⟨Nat.le_of_ble_eq_true rfl, Nat.le_of_ble_eq_true rfl⟩, kk3, trivial⟩ (pre_S E hP hS) rfl rfl hl.1 rfl (lv_room (Nat.le_of_ble_eq_true rfl)) d_P_setTurned_84 ⟨(Nat.le_of_ble_eq_true rfl), (Nat.le_of_ble_eq_true rfl)⟩) hS (fun r16 z15 H locs hz hP hS => ?_)
                obtain ⟨rfl, rfl⟩ := hz
                refine w_iast hx hb hK hP hS (k + 1) (by omega) fg10 (by omega) (by omega) (by omega) d_P_setTurned_87 (fun H locs hP hS => ?_)
                obtain ⟨u17, hu18, hP⟩ : ∃ zz : Nat → va_E, zz = va_up w9 (k + 1) (ir ct n (zu g2 ((a * 8) + (((i + tt) % (16)) % (8))) ((-(gx ((a * 8) + (i)))) % (mu sm (a))))) ∧ va_P D vwCl (wl N b zz) H := ⟨_, rfl, hP⟩
                have ff19 : u17 k = .inr (3, [.int (iI (sm)), .ref (b + (k + 1))]) := (congrFun hu18 _).trans ((up_n (by omega)).trans ff12)
                have ff20 : u17 kx = .inr (3, [.int (iI (sm)), .ref (b + (kx + 1))]) := (congrFun hu18 _).trans ((up_n (by omega)).trans ff13)
                have ff21 : u17 (kx + 1) = ir ct nx (gx) := (congrFun hu18 _).trans ((up_n (by omega)).trans ff14)
                have ff22 : u17 (k + 1) = ir ct n (zu g2 ((a * 8) + (((i + tt) % (16)) % (8))) ((-(gx ((a * 8) + (i)))) % (mu sm (a)))) := (congrFun hu18 _).trans up_s
                have fr23 : ∀ j : Nat, (j ≠ k + 1) → u17 j = u j := fun j h0 => (congrFun hu18 j).trans ((up_n (by omega)).trans (fr11 j h0))
                refine lv_iinc (k := 2) (v := iI (i + 1)) (lv' := [(6, .int (iI (i + 1))), (8, .int (iI (gx ((a * 8) + (i))))), (7, .int (iI ((i + tt) % (16)))), (5, .int (iI (mu sm (a)))), (4, .int (iI (a))), (0, .ref (b + k)), (1, .ref (b + kx)), (2, .int (iI (tt))), (3, .int (iI (top)))]) hx hb d_P_setTurned_88 hl rfl (iI_add _ _) (by decide) rfl (fun ls hl => ?_)
                refine lv_goto (tgt := 20) hx hb d_P_setTurned_91 (by decide) ?_
                have hl : lv_has ls 9 [(6, .int (iI (i + 1))), (5, .int (iI (mu sm (a)))), (4, .int (iI (a))), (0, .ref (b + k)), (1, .ref (b + kx)), (2, .int (iI (tt))), (3, .int (iI (top)))] := lv_sub hl [0, 3, 4, 5, 6, 7, 8] rfl
                refine ihli (i + 1) _ u17 H locs ls (by omega) (by omega) (by omega) (fun r i2 h2 h3 h4 h5 => ?_) ff22 fr23 hP hS hl
                by_cases h6 : r * 8 + (i2 + tt) % 16 % 8 = a * 8 + (i + tt) % 16 % 8
                · obtain ⟨rfl, rfl⟩ : r = a ∧ i2 = i := by omega
                  rw [zu_s, ex, if_neg (by omega)]
                  exact cg_neg cg_mod
                · rw [zu_n h6]
                  exact hg r i2 h2 h3 h4 (by omega)
              · refine lv_iload hx hb d_P_setTurned_73 (lv_at hl 0 rfl) ?_
                refine lv_goto (tgt := 87) hx hb d_P_setTurned_75 (by decide) ?_
                refine w_iast hx hb hK hP hS (k + 1) (by omega) fg10 (by omega) (by omega) (by omega) d_P_setTurned_87 (fun H locs hP hS => ?_)
                obtain ⟨u24, hu25, hP⟩ : ∃ zz : Nat → va_E, zz = va_up w9 (k + 1) (ir ct n (zu g2 ((a * 8) + (((i + tt) % (16)) % (8))) (gx ((a * 8) + (i))))) ∧ va_P D vwCl (wl N b zz) H := ⟨_, rfl, hP⟩
                have ff26 : u24 k = .inr (3, [.int (iI (sm)), .ref (b + (k + 1))]) := (congrFun hu25 _).trans ((up_n (by omega)).trans ff12)
                have ff27 : u24 kx = .inr (3, [.int (iI (sm)), .ref (b + (kx + 1))]) := (congrFun hu25 _).trans ((up_n (by omega)).trans ff13)
                have ff28 : u24 (kx + 1) = ir ct nx (gx) := (congrFun hu25 _).trans ((up_n (by omega)).trans ff14)
                have ff29 : u24 (k + 1) = ir ct n (zu g2 ((a * 8) + (((i + tt) % (16)) % (8))) (gx ((a * 8) + (i)))) := (congrFun hu25 _).trans up_s
                have fr30 : ∀ j : Nat, (j ≠ k + 1) → u24 j = u j := fun j h0 => (congrFun hu25 j).trans ((up_n (by omega)).trans (fr11 j h0))
                refine lv_iinc (k := 2) (v := iI (i + 1)) (lv' := [(6, .int (iI (i + 1))), (8, .int (iI (gx ((a * 8) + (i))))), (7, .int (iI ((i + tt) % (16)))), (5, .int (iI (mu sm (a)))), (4, .int (iI (a))), (0, .ref (b + k)), (1, .ref (b + kx)), (2, .int (iI (tt))), (3, .int (iI (top)))]) hx hb d_P_setTurned_88 hl rfl (iI_add _ _) (by decide) rfl (fun ls hl => ?_)
                refine lv_goto (tgt := 20) hx hb d_P_setTurned_91 (by decide) ?_
                have hl : lv_has ls 9 [(6, .int (iI (i + 1))), (5, .int (iI (mu sm (a)))), (4, .int (iI (a))), (0, .ref (b + k)), (1, .ref (b + kx)), (2, .int (iI (tt))), (3, .int (iI (top)))] := lv_sub hl [0, 3, 4, 5, 6, 7, 8] rfl
                refine ihli (i + 1) _ u24 H locs ls (by omega) (by omega) (by omega) (fun r i2 h2 h3 h4 h5 => ?_) ff29 fr30 hP hS hl
                by_cases h6 : r * 8 + (i2 + tt) % 16 % 8 = a * 8 + (i + tt) % 16 % 8
                · obtain ⟨rfl, rfl⟩ : r = a ∧ i2 = i := by omega
                  rw [zu_s, ex, if_pos hc]
                · rw [zu_n h6]
                  exact hg r i2 h2 h3 h4 (by omega)
        exact li 9 0 g2 w1 H locs ls (by omega) (by omega) (by omega) (fun r i h2 h3 h4 h5 => hg r i h2 h3 h4 (by omega)) fg2 fr3 hP hS hl
  exact lo (top + 2).toNat 0 g u H locs ls (by omega) (by omega) (by omega) (fun r i h2 h3 h4 h5 => by omega) f1 fr0 hP hS hl
abbrev rm_c_lowerFrom : Room := { frames := 1, cells := 0, slots := 0, locals := 23 }
set_option maxHeartbeats 4000000 in
set_option maxRecDepth 100000 in
/-- lowerFrom(top) -/
theorem c_lowerFrom (l : Launch) (D : va_G) (ct : Nat → ClassId) (st ke : Nat → Nat) (b N : Nat) (u : Nat → va_E) (k : Nat) (g : Int → Int) (hk : k + 1 < N) (f0 : u k = po b k 0) (f1 : u (k + 1) = ir ct 32 g) (top : Int) (ht0 : 1 ≤ top) (ht3 : top ≤ 3) (C : Int → Int) (hC : Rep g 0 top C) : Met l y_P_lowerFrom (w_P_lowerFrom) rm_c_lowerFrom (va_Pc [.ref (b + k), .int (iI (top))] (fun U => ev D ct st ke b U ∧ va_P D vwCl (wl N b u) U.heap)) (va_Qv (fun z : Nat → va_E => ∃ g2 : Int → Int, z (k + 1) = ir ct 32 g2 ∧ (Rep g2 0 (top - 1) (fun i => low top (C i))) ∧ ∀ j : Nat, j ≠ k + 1 → z j = u j) (fun (z : Nat → va_E) t => va_P D vwCl (wl (N) b (z)) t.heap) (AA b)) 0 0 (AA b) := by
  refine M_v (cc := c9_P_lowerFrom) (maxL := 10) (by decide) rfl (Nat.le_of_ble_eq_true rfl) ?_
  intro p e s m args below meth c Q ls H locs hx hb hml hown hts hnm E hP hS hl ret
  have hl : lv_has ls 10 [(0, .ref (b + k)), (1, .int (iI (top)))] := hl
  have hK := ev_K E
  have kk0 : ((.fieldLinkNest "LevelledRing$Poly" 19 "LevelledRing" "PRIMES" "[I" "LevelledRing") : Cond).before args s = true := va_Nw.use rfl (ev_W E _ nw_2)
  have kk1 := hts (.fieldLink "LevelledRing$Poly" 15 "LevelledRing$Poly" "c" "[I") (List.mem_cons_of_mem _ t_38)
  have hinP : ∀ w ∈ u_ws "LevelledRing$Poly" T_P 2, w ∈ (w_P_lowerFrom) := hin_P _
  have kk3 := hts (.initialized "LevelledRing") (List.mem_cons_of_mem _ t_1)
  have kk4 := hts (.static y_R_centred) (List.mem_cons_of_mem _ t_341)
  have kn5 : va_Nw (.methodLinkNest "LevelledRing$Poly" 52 y_R_centred "LevelledRing") s := ev_W E _ nw_7
  have kk6 := hts (.static y_R_modulo) (List.mem_cons_of_mem _ t_99)
  have kn7 : va_Nw (.methodLinkNest "LevelledRing$Poly" 40 y_R_modulo "LevelledRing") s := ev_W E _ nw_3
  have kk8 := hts (.constantLong "LevelledRing$Poly" 56 17) (List.mem_cons_of_mem _ t_344)
  have kk9 : ((.fieldLinkNest "LevelledRing$Poly" 58 "LevelledRing" "PRIME_INVERSES" "[I" "LevelledRing") : Cond).before args s = true := va_Nw.use rfl (ev_W E _ nw_8)
  have fr0 : ∀ j : Nat, (j ≠ k + 1) → u j = u j := fun _ _ => rfl
  have hlt := lq_bd top
  refine va_getsN hx hb (ev_Z0 E) hS hown kk0 (fun _ h => h) d_P_lowerFrom_0 ?_
  refine lv_iload_n hx hb d_P_lowerFrom_3 rfl (lv_at hl 1 rfl) ?_
  refine x_ti hx hb (ev_T0 E) hS (by omega) (by omega) (by decide) d_P_lowerFrom_4 ?_
  refine lv_istore_n (lv' := [(2, .int (iI (lq (top)))), (0, .ref (b + k)), (1, .int (iI (top)))]) hx hb d_P_lowerFrom_5 rfl hl (by decide) rfl (fun ls hl => ?_)
  refine lv_iconst (v := iI (0)) hx hb d_P_lowerFrom_6 rfl ?_
  refine lv_istore_n (lv' := [(3, .int (iI (0))), (2, .int (iI (lq (top)))), (0, .ref (b + k)), (1, .int (iI (top)))]) hx hb d_P_lowerFrom_7 rfl hl (by decide) rfl (fun ls hl => ?_)
  have lo : ∀ (d : Nat) (i : Int) (g2 : Int → Int) (w1 : Nat → va_E) (H : Heap) (locs : List Loc) (ls : Array Slot), (0 ≤ i) → (i ≤ 8) → (8 - i < d) → (∀ r c : Int, 0 ≤ r → r < top → 0 ≤ c → c < i → g2 (r * 8 + c) = low top (C c) % lq r) → (∀ r c : Int, 0 ≤ r → r ≤ top → 0 ≤ c → c < 8 → (i ≤ c ∨ r = top) → g2 (r * 8 + c) = C c % lq r) → w1 (k + 1) = ir ct 32 (g2) → (∀ j : Nat, (j ≠ k + 1) → w1 j = u j) → va_P D vwCl (wl N b w1) H → va_S (AA b) s.heap H locs → lv_has ls 10 [(3, .int (iI (i))), (2, .int (iI (lq (top)))), (0, .ref (b + k)), (1, .int (iI (top)))] → W p l e rm_c_lowerFrom s m args below meth c H locs 0 0 Q (F0 m 8 ls []) := by
    intro d
    induction d with
    | zero => intro i g2 w1 H locs ls h0 h1 hd hg hu0 fg2 fr3 hP hS hl; exfalso; omega
    | succ d ihlo =>
      intro i g2 w1 H locs ls h0 h1 hd hg hu0 fg2 fr3 hP hS hl
      have ff4 : w1 k = .inr (3, [.int (iI (0)), .ref (b + (k + 1))]) := (fr3 k (by omega)).trans f0
      refine lv_iload_n hx hb d_P_lowerFrom_8 rfl (lv_at hl 0 rfl) ?_
      refine lv_bipush (v := iI (8)) hx hb d_P_lowerFrom_9 (by decide +kernel) ?_
      refine x_icmp_ge (tgt := 134) hx hb ⟨by omega, by omega⟩ ⟨by omega, by omega⟩ d_P_lowerFrom_11 (by decide) (fun hc => ?_) (fun hc => ?_)
      · exact ret w1 H locs 134 ls ⟨g2, fg2, fun r c h2 h3 h4 h5 => hg r c h2 (by omega) h4 (by omega), fr3⟩ hP hS d_P_lowerFrom_134
      · have ed := hu0 top i (by omega) (by omega) h0 (by omega) (Or.inr rfl)
        have bd0 := Int.emod_nonneg (C i) (show lq top ≠ 0 by omega)
        have bd1 := Int.emod_lt_of_pos (C i) (show 0 < lq top by omega)
        refine lv_aload_n hx hb d_P_lowerFrom_14 rfl (lv_at hl 2 rfl) ?_
        refine w_get (C := "LevelledRing$Poly") (T := T_P) (M := 2) hx hb hts hinP hown hK hP (k) (by omega) ff4 rfl 1 (by decide) kk1 (fun _ h => h) rfl d_P_lowerFrom_15 ?_
        refine lv_iload_n hx hb d_P_lowerFrom_18 rfl (lv_at hl 3 rfl) ?_
        refine lv_bipush (v := iI (8)) hx hb d_P_lowerFrom_19 (by decide +kernel) ?_
        refine x_imul hx hb d_P_lowerFrom_21 ?_
        refine lv_iload_n hx hb d_P_lowerFrom_22 rfl (lv_at hl 0 rfl) ?_
        refine x_iadd hx hb d_P_lowerFrom_23 ?_
        refine w_iald hx hb hK hP (k + 1) (by omega) fg2 (by omega) (by omega) (by omega) d_P_lowerFrom_24 ?_
        refine x_ie (y := C i % lq top) (ed) ?_
        refine x_i2l hx hb ⟨by omega, by omega⟩ d_P_lowerFrom_25 ?_
        refine lv_iload_n hx hb d_P_lowerFrom_26 rfl (lv_at hl 1 rfl) ?_
        refine x_i2l hx hb ⟨by omega, by omega⟩ d_P_lowerFrom_27 ?_
        refine w_calll (va_runSN (As := [.long (lI (C i % lq top)), .long (lI (lq (top)))]) (rest := []) ⟨hx, hb, hml, hown, hts⟩ (c_centred l D ct st ke b N w1 (C i % lq top) (lq (top)) (by omega) (by omega) (by omega) (by omega)) ⟨va_cnB 2 hts (gC t_342) rfl rfl rfl kn5 kk3 (by decide +kernel) ⟨Nat.le_of_ble_eq_true rfl, Nat.le_of_ble_eq_true rfl⟩, kk4, trivial⟩ (pre_S E hP hS) rfl rfl hl.1 rfl (lv_room (Nat.le_of_ble_eq_true rfl)) d_P_lowerFrom_28 ⟨(Nat.le_of_ble_eq_true rfl), (Nat.le_of_ble_eq_true rfl)⟩) hS (fun r6 z5 H locs hz hP hS => ?_)
        obtain ⟨rfl, rfl⟩ := hz
        have bdc := cen_bq (x := C i % lq top) (m := lq (top)) bd0 bd1 (by omega)
        refine x_l2i hx hb d_P_lowerFrom_31 ?_
        refine lv_istore (lv' := [(4, .int (iI (cen (C i % lq top) (lq (top))))), (3, .int (iI (i))), (2, .int (iI (lq (top)))), (0, .ref (b + k)), (1, .int (iI (top)))]) hx hb d_P_lowerFrom_32 hl (by decide) rfl (fun ls hl => ?_)
        refine lv_iload hx hb d_P_lowerFrom_34 (lv_at hl 0 rfl) ?_
        refine x_ineg hx hb d_P_lowerFrom_36 ?_
        refine x_i2l hx hb ⟨by omega, by omega⟩ d_P_lowerFrom_37 ?_
        refine lv_bipush (v := iI (17)) hx hb d_P_lowerFrom_38 (by decide +kernel) ?_
        refine w_calli (va_runSN (As := [.long (lI (-(cen (C i % lq top) (lq (top))))), .int (iI (17))]) (rest := []) ⟨hx, hb, hml, hown, hts⟩ (c_modulo l D ct st ke b N w1 (-(cen (C i % lq top) (lq (top)))) (17) ⟨by omega, by omega⟩ (by decide) (by decide)) ⟨va_cnB 2 hts (gC t_100) rfl rfl rfl kn7 kk3 (by decide +kernel) ⟨Nat.le_of_ble_eq_true rfl, Nat.le_of_ble_eq_true rfl⟩, kk6, trivial⟩ (pre_S E hP hS) rfl rfl hl.1 rfl (lv_room (Nat.le_of_ble_eq_true rfl)) d_P_lowerFrom_40 ⟨(Nat.le_of_ble_eq_true rfl), (Nat.le_of_ble_eq_true rfl)⟩) hS (fun r8 z7 H locs hz hP hS => ?_)
        obtain ⟨rfl, rfl⟩ := hz
        have bk0 := Int.emod_nonneg (-(cen (C i % lq top) (lq (top)))) (show (17 : Int) ≠ 0 by decide)
        have bk1 := Int.emod_lt_of_pos (-(cen (C i % lq top) (lq (top)))) (show (0 : Int) < 17 by decide)
        refine x_i2l hx hb ⟨by omega, by omega⟩ d_P_lowerFrom_43 ?_
        refine lv_ldc2 hx hb hown kk8 d_P_lowerFrom_44 ?_
        refine x_l (y := lI (17)) (by decide +kernel) ?_
        refine w_calll (va_runSN (As := [.long (lI ((-(cen (C i % lq top) (lq (top)))) % (17))), .long (lI (17))]) (rest := []) ⟨hx, hb, hml, hown, hts⟩ (c_centred l D ct st ke b N w1 ((-(cen (C i % lq top) (lq (top)))) % (17)) (17) (by omega) (by omega) (by decide) (by decide)) ⟨va_cnB 2 hts (gC t_342) rfl rfl rfl kn5 kk3 (by decide +kernel) ⟨Nat.le_of_ble_eq_true rfl, Nat.le_of_ble_eq_true rfl⟩, kk4, trivial⟩ (pre_S E hP hS) rfl rfl hl.1 rfl (lv_room (Nat.le_of_ble_eq_true rfl)) d_P_lowerFrom_47 ⟨(Nat.le_of_ble_eq_true rfl), (Nat.le_of_ble_eq_true rfl)⟩) hS (fun r10 z9 H locs hz hP hS => ?_)
        obtain ⟨rfl, rfl⟩ := hz
        refine x_le (y := lk (cen (C i % lq top) (lq (top)))) (rfl) ?_
        have bkk := lk_bd (cen (C i % lq top) (lq (top)))
        refine x_l2i hx hb d_P_lowerFrom_50 ?_
        refine lv_istore (lv' := [(5, .int (iI (lk (cen (C i % lq top) (lq (top)))))), (4, .int (iI (cen (C i % lq top) (lq (top))))), (3, .int (iI (i))), (2, .int (iI (lq (top)))), (0, .ref (b + k)), (1, .int (iI (top)))]) hx hb d_P_lowerFrom_51 hl (by decide) rfl (fun ls hl => ?_)
        refine lv_iload hx hb d_P_lowerFrom_53 (lv_at hl 1 rfl) ?_
        refine x_i2l hx hb ⟨by omega, by omega⟩ d_P_lowerFrom_55 ?_
        refine lv_iload hx hb d_P_lowerFrom_56 (lv_at hl 0 rfl) ?_
        refine x_i2l hx hb ⟨by omega, by omega⟩ d_P_lowerFrom_58 ?_
        refine lv_iload_n hx hb d_P_lowerFrom_59 rfl (lv_at hl 3 rfl) ?_
        refine x_i2l hx hb ⟨by omega, by omega⟩ d_P_lowerFrom_60 ?_
        refine x_lmul hx hb d_P_lowerFrom_61 ?_
        refine x_ladd hx hb d_P_lowerFrom_62 ?_
        refine x_le (y := lex top (C i)) (rfl) ?_
        have ble : -300000 ≤ lex top (C i) ∧ lex top (C i) ≤ 300000 := lex_bd top (C i)
        refine lv_lstore (lv' := [(6, .long (lI (lex top (C i)))), (5, .int (iI (lk (cen (C i % lq top) (lq (top)))))), (4, .int (iI (cen (C i % lq top) (lq (top))))), (3, .int (iI (i))), (2, .int (iI (lq (top)))), (0, .ref (b + k)), (1, .int (iI (top)))]) hx hb d_P_lowerFrom_63 hl (by decide) rfl (fun ls hl => ?_)
        refine lv_iconst (v := iI (0)) hx hb d_P_lowerFrom_65 rfl ?_
        refine lv_istore (lv' := [(8, .int (iI (0))), (6, .long (lI (lex top (C i)))), (5, .int (iI (lk (cen (C i % lq top) (lq (top)))))), (4, .int (iI (cen (C i % lq top) (lq (top))))), (3, .int (iI (i))), (2, .int (iI (lq (top)))), (0, .ref (b + k)), (1, .int (iI (top)))]) hx hb d_P_lowerFrom_66 hl (by decide) rfl (fun ls hl => ?_)
        have li : ∀ (d2 : Nat) (a : Int) (g2 : Int → Int) (w11 : Nat → va_E) (H : Heap) (locs : List Loc) (ls : Array Slot), (0 ≤ a) → (a ≤ top) → (top - a < d2) → (∀ r c : Int, 0 ≤ r → r < top → 0 ≤ c → (c < i ∨ (c = i ∧ r < a)) → g2 (r * 8 + c) = low top (C c) % lq r) → (∀ r c : Int, 0 ≤ r → r ≤ top → 0 ≤ c → c < 8 → (i < c ∨ (c = i ∧ a ≤ r) ∨ r = top) → g2 (r * 8 + c) = C c % lq r) → w11 (k + 1) = ir ct 32 (g2) → (∀ j : Nat, (j ≠ k + 1) → w11 j = u j) → va_P D vwCl (wl N b w11) H → va_S (AA b) s.heap H locs → lv_has ls 10 [(8, .int (iI (a))), (6, .long (lI (lex top (C i)))), (5, .int (iI (lk (cen (C i % lq top) (lq (top)))))), (4, .int (iI (cen (C i % lq top) (lq (top))))), (3, .int (iI (i))), (2, .int (iI (lq (top)))), (0, .ref (b + k)), (1, .int (iI (top)))] → W p l e rm_c_lowerFrom s m args below meth c H locs 0 0 Q (F0 m 68 ls []) := by
          intro d2
          induction d2 with
          | zero => intro a g2 w11 H locs ls ha0 hat hd2 hg hu0 fg12 fr13 hP hS hl; exfalso; omega
          | succ d2 ihli =>
            intro a g2 w11 H locs ls ha0 hat hd2 hg hu0 fg12 fr13 hP hS hl
            have ff14 : w11 k = .inr (3, [.int (iI (0)), .ref (b + (k + 1))]) := (fr13 k (by omega)).trans f0
            refine lv_iload hx hb d_P_lowerFrom_68 (lv_at hl 0 rfl) ?_
            refine lv_iload_n hx hb d_P_lowerFrom_70 rfl (lv_at hl 7 rfl) ?_
            refine x_icmp_ge (tgt := 128) hx hb ⟨by omega, by omega⟩ ⟨by omega, by omega⟩ d_P_lowerFrom_71 (by decide) (fun hc => ?_) (fun hc => ?_)
            · refine lv_iinc (k := 4) (v := iI (i + 1)) (lv' := [(3, .int (iI (i + 1))), (8, .int (iI (a))), (6, .long (lI (lex top (C i)))), (5, .int (iI (lk (cen (C i % lq top) (lq (top)))))), (4, .int (iI (cen (C i % lq top) (lq (top))))), (2, .int (iI (lq (top)))), (0, .ref (b + k)), (1, .int (iI (top)))]) hx hb d_P_lowerFrom_128 hl rfl (iI_add _ _) (by decide) rfl (fun ls hl => ?_)
              refine lv_goto (tgt := 8) hx hb d_P_lowerFrom_131 (by decide) ?_
              have hl : lv_has ls 10 [(3, .int (iI (i + 1))), (2, .int (iI (lq (top)))), (0, .ref (b + k)), (1, .int (iI (top)))] := lv_sub hl [0, 5, 6, 7] rfl
              exact ihlo (i + 1) g2 w11 H locs ls (by omega) (by omega) (by omega) (fun r c h2 h3 h4 h5 => hg r c h2 h3 h4 (by omega)) (fun r c h2 h3 h4 h5 h6 => hu0 r c h2 h3 h4 h5 (by omega)) fg12 fr13 hP hS hl
            · have ea := hu0 a i ha0 (by omega) h0 (by omega) (by omega)
              have hla := lq_bd a
              have ba0 := Int.emod_nonneg (C i) (show lq a ≠ 0 by omega)
              have ba1 := Int.emod_lt_of_pos (C i) (show 0 < lq a by omega)
              have epv := pinv_pin (l := top) (k := a) ha0 (by omega) ht3
              have bpv : 0 ≤ pin top a ∧ pin top a ≤ 32369 := pin_bd top a
              refine lv_iload hx hb d_P_lowerFrom_74 (lv_at hl 0 rfl) ?_
              refine lv_bipush (v := iI (8)) hx hb d_P_lowerFrom_76 (by decide +kernel) ?_
              refine x_imul hx hb d_P_lowerFrom_78 ?_
              refine lv_iload_n hx hb d_P_lowerFrom_79 rfl (lv_at hl 4 rfl) ?_
              refine x_iadd hx hb d_P_lowerFrom_80 ?_
              refine lv_istore (lv' := [(9, .int (iI ((a * 8) + (i)))), (8, .int (iI (a))), (6, .long (lI (lex top (C i)))), (5, .int (iI (lk (cen (C i % lq top) (lq (top)))))), (4, .int (iI (cen (C i % lq top) (lq (top))))), (3, .int (iI (i))), (2, .int (iI (lq (top)))), (0, .ref (b + k)), (1, .int (iI (top)))]) hx hb d_P_lowerFrom_81 hl (by decide) rfl (fun ls hl => ?_)
              refine lv_aload_n hx hb d_P_lowerFrom_83 rfl (lv_at hl 7 rfl) ?_
              refine w_get (C := "LevelledRing$Poly") (T := T_P) (M := 2) hx hb hts hinP hown hK hP (k) (by omega) ff14 rfl 1 (by decide) kk1 (fun _ h => h) rfl d_P_lowerFrom_84 ?_
              refine lv_iload hx hb d_P_lowerFrom_87 (lv_at hl 0 rfl) ?_
              refine lv_aload_n hx hb d_P_lowerFrom_89 rfl (lv_at hl 7 rfl) ?_
              refine w_get (C := "LevelledRing$Poly") (T := T_P) (M := 2) hx hb hts hinP hown hK hP (k) (by omega) ff14 rfl 1 (by decide) kk1 (fun _ h => h) rfl d_P_lowerFrom_90 ?_
              refine lv_iload hx hb d_P_lowerFrom_93 (lv_at hl 0 rfl) ?_
              refine w_iald hx hb hK hP (k + 1) (by omega) fg12 (by omega) (by omega) (by omega) d_P_lowerFrom_95 ?_
              refine x_ie (y := C i % lq a) (ea) ?_
              refine x_i2l hx hb ⟨by omega, by omega⟩ d_P_lowerFrom_96 ?_
              refine lv_lload hx hb d_P_lowerFrom_97 (lv_at hl 2 rfl) ?_
              refine x_lsub hx hb d_P_lowerFrom_99 ?_
              refine va_getsN hx hb (ev_Z3 E) hS hown kk9 (fun _ h => h) d_P_lowerFrom_100 ?_
              refine lv_iload_n hx hb d_P_lowerFrom_103 rfl (lv_at hl 8 rfl) ?_
              refine lv_iconst (v := iI (4)) hx hb d_P_lowerFrom_104 rfl ?_
              refine x_imul hx hb d_P_lowerFrom_105 ?_
              refine lv_iload hx hb d_P_lowerFrom_106 (lv_at hl 1 rfl) ?_
              refine x_iadd hx hb d_P_lowerFrom_108 ?_
              refine x_ti hx hb (ev_T3 E) hS (by omega) (by omega) (by decide) d_P_lowerFrom_109 ?_
              refine x_ie (y := pin top a) (epv) ?_
              refine x_i2l hx hb ⟨by omega, by omega⟩ d_P_lowerFrom_110 ?_
              refine x_lmul hx hb d_P_lowerFrom_111 ?_
              refine va_getsN hx hb (ev_Z0 E) hS hown kk0 (fun _ h => h) d_P_lowerFrom_112 ?_
              refine lv_iload hx hb d_P_lowerFrom_115 (lv_at hl 1 rfl) ?_
              refine x_ti hx hb (ev_T0 E) hS (by omega) (by omega) (by decide) d_P_lowerFrom_117 ?_
              have bmm : -100000000000 ≤ (C i % lq a - lex top (C i)) * pin top a ∧ (C i % lq a - lex top (C i)) * pin top a ≤ 100000000000 := mul_bw (by omega) (by omega) bpv.1 bpv.2
              refine w_calli (va_runSN (As := [.long (lI (((C i % lq a) - (lex top (C i))) * (pin top a))), .int (iI (lq (a)))]) (rest := [.int (iI ((a * 8) + (i))), .ref (b + (k + 1))]) ⟨hx, hb, hml, hown, hts⟩ (c_modulo l D ct st ke b N w11 (((C i % lq a) - (lex top (C i))) * (pin top a)) (lq (a)) ⟨by omega, by omega⟩ (by omega) (by omega)) ⟨va_cnB 2 hts (gC t_100) rfl rfl rfl kn7 kk3 (by decide +kernel) ⟨Nat.le_of_ble_eq_true rfl, Nat.le_of_ble_eq_true rfl⟩, kk6, trivial⟩ (pre_S E hP hS) rfl rfl hl.1 rfl (lv_room (Nat.le_of_ble_eq_true rfl)) d_P_lowerFrom_118 ⟨(Nat.le_of_ble_eq_true rfl), (Nat.le_of_ble_eq_true rfl)⟩) hS (fun r16 z15 H locs hz hP hS => ?_)
              obtain ⟨rfl, rfl⟩ := hz
              refine w_iast hx hb hK hP hS (k + 1) (by omega) fg12 (by omega) (by omega) (by omega) d_P_lowerFrom_121 (fun H locs hP hS => ?_)
              obtain ⟨u17, hu18, hP⟩ : ∃ zz : Nat → va_E, zz = va_up w11 (k + 1) (ir ct 32 (zu g2 ((a * 8) + (i)) ((((C i % lq a) - (lex top (C i))) * (pin top a)) % (lq (a))))) ∧ va_P D vwCl (wl N b zz) H := ⟨_, rfl, hP⟩
              have ff19 : u17 k = .inr (3, [.int (iI (0)), .ref (b + (k + 1))]) := (congrFun hu18 _).trans ((up_n (by omega)).trans ff14)
              have ff20 : u17 (k + 1) = ir ct 32 (zu g2 ((a * 8) + (i)) ((((C i % lq a) - (lex top (C i))) * (pin top a)) % (lq (a)))) := (congrFun hu18 _).trans up_s
              have fr21 : ∀ j : Nat, (j ≠ k + 1) → u17 j = u j := fun j h0 => (congrFun hu18 j).trans ((up_n (by omega)).trans (fr13 j h0))
              refine lv_iinc (k := 1) (v := iI (a + 1)) (lv' := [(8, .int (iI (a + 1))), (9, .int (iI ((a * 8) + (i)))), (6, .long (lI (lex top (C i)))), (5, .int (iI (lk (cen (C i % lq top) (lq (top)))))), (4, .int (iI (cen (C i % lq top) (lq (top))))), (3, .int (iI (i))), (2, .int (iI (lq (top)))), (0, .ref (b + k)), (1, .int (iI (top)))]) hx hb d_P_lowerFrom_122 hl rfl (iI_add _ _) (by decide) rfl (fun ls hl => ?_)
              refine lv_goto (tgt := 68) hx hb d_P_lowerFrom_125 (by decide) ?_
              have hl : lv_has ls 10 [(8, .int (iI (a + 1))), (6, .long (lI (lex top (C i)))), (5, .int (iI (lk (cen (C i % lq top) (lq (top)))))), (4, .int (iI (cen (C i % lq top) (lq (top))))), (3, .int (iI (i))), (2, .int (iI (lq (top)))), (0, .ref (b + k)), (1, .int (iI (top)))] := lv_sub hl [0, 2, 3, 4, 5, 6, 7, 8] rfl
              refine ihli (a + 1) _ u17 H locs ls (by omega) (by omega) (by omega) (fun r c h2 h3 h4 h5 => ?_) (fun r c h2 h3 h4 h5 h6 => by rw [zu_n (by omega)]; exact hu0 r c h2 h3 h4 h5 (by omega)) ff20 fr21 hP hS hl
              by_cases h6 : r * 8 + c = a * 8 + i
              · obtain ⟨rfl, rfl⟩ : r = a ∧ c = i := by omega
                rw [zu_s]
                exact low_row h2 h3 ht3
              · rw [zu_n h6]
                exact hg r c h2 h3 h4 (by omega)
        exact li (top + 1).toNat 0 g2 w1 H locs ls (by omega) (by omega) (by omega) (fun r c h2 h3 h4 h5 => hg r c h2 h3 h4 (by omega)) (fun r c h2 h3 h4 h5 h6 => hu0 r c h2 h3 h4 h5 (by omega)) fg2 fr3 hP hS hl
  exact lo 9 0 g u H locs ls (by omega) (by omega) (by omega) (fun r c h2 h3 h4 h5 => by omega) (fun r c h2 h3 h4 h5 h6 => hC r c h2 h3 h4 h5) f1 fr0 hP hS hl
abbrev rm_c_P_init : Room := { frames := 1, cells := 1, slots := 32, locals := 12 }
set_option maxHeartbeats 4000000 in
set_option maxRecDepth 100000 in
/-- Poly(sm) -/
theorem c_P_init (l : Launch) (D : va_G) (ct : Nat → ClassId) (st ke : Nat → Nat) (b : Nat) (u : Nat → va_E) (k n : Nat) (sm : Int) (hn : (sm = 1 ∧ n = 8) ∨ (sm = 0 ∧ n = 32)) (f0 : u k = .inr (3, [.int (iI (0)), .null])) : Met l y_P_init (w_P_init) rm_c_P_init (va_Pc [.ref (b + k), .int (iI (sm))] (fun U => ev D ct st ke b U ∧ U.heap.size = b + (k + 1) ∧ va_P D vwCl (wl (k + 1) b u) U.heap)) (va_Qv (fun z : Nat → va_E => z k = po b k sm ∧ z (k + 1) = ir ct n (fun _ => 0) ∧ ∀ j : Nat, j ≠ k → j ≠ k + 1 → z j = u j) (fun (z : Nat → va_E) t => va_P D vwCl (wl (k + 1 + 1) b (z)) t.heap) (AA b)) 1 32 (AA b) := by
  refine M_c (cc := c9_P_init) (maxL := 2) (by decide) rfl (Nat.le_of_ble_eq_true rfl) ?_
  intro p e s m args below meth c Q ls H locs hx hb hml hown hts hnm E hsz hP hS hl ret
  have hl : lv_has ls 2 [(0, .ref (b + k)), (1, .int (iI (sm)))] := hl
  have hK := ev_K E
  have kk0 := hts (.methodLink "LevelledRing$Poly" 3 objectInit) (List.mem_cons_of_mem _ t_36)
  have kk1 := hts (.instanceMethod objectInit) (List.mem_cons_of_mem _ t_19)
  have kk2 := hts (.code objectInit ⟨#[0xb1]⟩ 1 none) (List.mem_cons_of_mem _ t_20)
  have kk3 := hts (.fieldLink "LevelledRing$Poly" 9 "LevelledRing$Poly" "small" "Z") (List.mem_cons_of_mem _ t_37)
  have hinP : ∀ w ∈ u_ws "LevelledRing$Poly" T_P 2, w ∈ (w_P_init) := hin_P _
  have kk5 := hts (.arrayClass .int) (List.mem_cons_of_mem _ t_45)
  have kk6 := hts (.fieldLink "LevelledRing$Poly" 15 "LevelledRing$Poly" "c" "[I") (List.mem_cons_of_mem _ t_38)
  have fr0 : ∀ j : Nat, (j ≠ k) → (j ≠ k + 1) → u j = u j := fun _ _ _ => rfl
  have hsm : sm = 0 ∨ sm = 1 := by omega
  refine lv_aload_n hx hb d_P_init_0 rfl (lv_at hl 0 rfl) ?_
  refine W.objInit hx hb hown kk0 kk1 kk2 rfl (by rw [hml]; exact hl.1) rfl d_P_init_1 (Nat.le_of_ble_eq_true rfl) (Nat.le_of_ble_eq_true rfl) ?_
  refine W.eq (g2 := F0 m 4 ls []) rfl ?_
  refine lv_aload_n hx hb d_P_init_4 rfl (lv_at hl 0 rfl) ?_
  refine lv_iload_n hx hb d_P_init_5 rfl (lv_at hl 1 rfl) ?_
  refine w_putF (C := "LevelledRing$Poly") (T := T_P) (M := 2) (ty := .boolean) (v := .int (iI (sm))) hx hb hts hinP ty_P tyok_P nm_P hown hK hP hS (k) (by omega) f0 rfl 0 (by decide) kk3 (fun _ h => h) rfl hnm rfl (by decide +kernel) (by rcases hsm with rfl | rfl <;> rfl) (by rcases hsm with rfl | rfl <;> rfl) (Nat.le_of_ble_eq_true rfl) d_P_init_6 (fun H locs hP hS => ?_)
  obtain ⟨u1, hu2, hP⟩ : ∃ zz : Nat → va_E, zz = va_up u k (.inr (3, [.int (iI (sm)), .null])) ∧ va_P D vwCl (wl (k + 1) b zz) H := ⟨_, rfl, hP⟩
  have ff3 : u1 k = .inr (3, [.int (iI (sm)), .null]) := (congrFun hu2 _).trans up_s
  have fr4 : ∀ j : Nat, (j ≠ k) → (j ≠ k + 1) → u1 j = u j := fun j h0 h1 => (congrFun hu2 j).trans ((up_n (by omega)).trans (fr0 j h0 h1))
  refine lv_aload_n hx hb d_P_init_9 rfl (lv_at hl 0 rfl) ?_
  refine lv_iload_n hx hb d_P_init_10 rfl (lv_at hl 1 rfl) ?_
  refine x_if_eq (tgt := 19) hx hb ⟨by omega, by omega⟩ d_P_init_11 (by decide) (fun hc => ?_) (fun hc => ?_)
  · obtain rfl : n = 32 := by omega
    refine lv_bipush (v := iI (32)) hx hb d_P_init_19 (by decide +kernel) ?_
    refine w_newi (n := 32) hx hb kk5 hK hP hS (ev_b E) (by omega) (by decide) (Nat.le_of_ble_eq_true rfl) (Nat.le_of_ble_eq_true rfl) d_P_init_21 (fun H hP hS => ?_)
    obtain ⟨u5, hu6, hP⟩ : ∃ zz : Nat → va_E, zz = va_up u1 (k + 1) (ir ct 32 (fun _ => 0)) ∧ va_P D vwCl (wl (k + 2) b zz) H := ⟨_, rfl, hP⟩
    have ff7 : u5 k = .inr (3, [.int (iI (sm)), .null]) := (congrFun hu6 _).trans ((up_n (by omega)).trans ff3)
    have ff8 : u5 (k + 1) = ir ct 32 (fun _ => 0) := (congrFun hu6 _).trans up_s
    have fr9 : ∀ j : Nat, (j ≠ k) → (j ≠ k + 1) → u5 j = u j := fun j h0 h1 => (congrFun hu6 j).trans ((up_n (by omega)).trans (fr4 j h0 h1))
    refine w_putF (C := "LevelledRing$Poly") (T := T_P) (M := 2) (ty := (.array .int)) (v := .ref (b + (k + 1))) hx hb hts hinP ty_P tyok_P nm_P hown hK hP hS (k) (by omega) ff7 rfl 1 (by decide) kk6 (fun _ h => h) rfl hnm rfl (by decide +kernel) rfl rfl (Nat.le_of_ble_eq_true rfl) d_P_init_23 (fun H locs hP hS => ?_)
    obtain ⟨u10, hu11, hP⟩ : ∃ zz : Nat → va_E, zz = va_up u5 k (.inr (3, [.int (iI (sm)), .ref (b + (k + 1))])) ∧ va_P D vwCl (wl (k + 2) b zz) H := ⟨_, rfl, hP⟩
    have ff12 : u10 k = .inr (3, [.int (iI (sm)), .ref (b + (k + 1))]) := (congrFun hu11 _).trans up_s
    have ff13 : u10 (k + 1) = ir ct 32 (fun _ => 0) := (congrFun hu11 _).trans ((up_n (by omega)).trans ff8)
    have fr14 : ∀ j : Nat, (j ≠ k) → (j ≠ k + 1) → u10 j = u j := fun j h0 h1 => (congrFun hu11 j).trans ((up_n (by omega)).trans (fr9 j h0 h1))
    refine W.widen (k := 1) (n := 32) (by decide) (by decide) ?_
    exact ret u10 H locs 26 ls ⟨ff12, ff13, fr14⟩ hP hS d_P_init_26
  · obtain rfl : n = 8 := by omega
    refine lv_bipush (v := iI (8)) hx hb d_P_init_14 (by decide +kernel) ?_
    refine lv_goto (tgt := 21) hx hb d_P_init_16 (by decide) ?_
    refine w_newi (n := 8) hx hb kk5 hK hP hS (ev_b E) (by omega) (by decide) (Nat.le_of_ble_eq_true rfl) (Nat.le_of_ble_eq_true rfl) d_P_init_21 (fun H hP hS => ?_)
    obtain ⟨u15, hu16, hP⟩ : ∃ zz : Nat → va_E, zz = va_up u1 (k + 1) (ir ct 8 (fun _ => 0)) ∧ va_P D vwCl (wl (k + 2) b zz) H := ⟨_, rfl, hP⟩
    have ff17 : u15 k = .inr (3, [.int (iI (sm)), .null]) := (congrFun hu16 _).trans ((up_n (by omega)).trans ff3)
    have ff18 : u15 (k + 1) = ir ct 8 (fun _ => 0) := (congrFun hu16 _).trans up_s
    have fr19 : ∀ j : Nat, (j ≠ k) → (j ≠ k + 1) → u15 j = u j := fun j h0 h1 => (congrFun hu16 j).trans ((up_n (by omega)).trans (fr4 j h0 h1))
    refine w_putF (C := "LevelledRing$Poly") (T := T_P) (M := 2) (ty := (.array .int)) (v := .ref (b + (k + 1))) hx hb hts hinP ty_P tyok_P nm_P hown hK hP hS (k) (by omega) ff17 rfl 1 (by decide) kk6 (fun _ h => h) rfl hnm rfl (by decide +kernel) rfl rfl (Nat.le_of_ble_eq_true rfl) d_P_init_23 (fun H locs hP hS => ?_)
    obtain ⟨u20, hu21, hP⟩ : ∃ zz : Nat → va_E, zz = va_up u15 k (.inr (3, [.int (iI (sm)), .ref (b + (k + 1))])) ∧ va_P D vwCl (wl (k + 2) b zz) H := ⟨_, rfl, hP⟩
    have ff22 : u20 k = .inr (3, [.int (iI (sm)), .ref (b + (k + 1))]) := (congrFun hu21 _).trans up_s
    have ff23 : u20 (k + 1) = ir ct 8 (fun _ => 0) := (congrFun hu21 _).trans ((up_n (by omega)).trans ff18)
    have fr24 : ∀ j : Nat, (j ≠ k) → (j ≠ k + 1) → u20 j = u j := fun j h0 h1 => (congrFun hu21 j).trans ((up_n (by omega)).trans (fr19 j h0 h1))
    refine W.widen (k := 1) (n := 32) (by decide) (by decide) ?_
    exact ret u20 H locs 26 ls ⟨ff22, ff23, fr24⟩ hP hS d_P_init_26
abbrev rm_c_D_init : Room := { frames := 1, cells := 0, slots := 0, locals := 12 }
set_option maxHeartbeats 4000000 in
set_option maxRecDepth 100000 in
/-- Drawing() -/
theorem c_D_init (l : Launch) (D : va_G) (ct : Nat → ClassId) (st ke : Nat → Nat) (b N : Nat) (u : Nat → va_E) (k : Nat) (hk : k < N) (z0 : Int32) (f0 : u k = dr z0) : Met l y_D_init (w_D_init) rm_c_D_init (va_Pc [.ref (b + k)] (fun U => ev D ct st ke b U ∧ va_P D vwCl (wl N b u) U.heap)) (va_Qv (fun z : Nat → va_E => z k = dr 0 ∧ ∀ j : Nat, j ≠ k → z j = u j) (fun (z : Nat → va_E) t => va_P D vwCl (wl (N) b (z)) t.heap) (AA b)) 0 0 (AA b) := by
  refine M_v (cc := c9_D_init) (maxL := 1) (by decide) rfl (Nat.le_of_ble_eq_true rfl) ?_
  intro p e s m args below meth c Q ls H locs hx hb hml hown hts hnm E hP hS hl ret
  have hl : lv_has ls 1 [(0, .ref (b + k))] := hl
  have hK := ev_K E
  have kk0 := hts (.methodLink "LevelledRing$Drawing" 1 objectInit) (List.mem_cons_of_mem _ t_26)
  have kk1 := hts (.instanceMethod objectInit) (List.mem_cons_of_mem _ t_19)
  have kk2 := hts (.code objectInit ⟨#[0xb1]⟩ 1 none) (List.mem_cons_of_mem _ t_20)
  have kk3 := hts (.fieldLink "LevelledRing$Drawing" 7 "LevelledRing$Drawing" "z" "I") (List.mem_cons_of_mem _ t_27)
  have hinD : ∀ w ∈ u_ws "LevelledRing$Drawing" T_D 1, w ∈ (w_D_init) := hin_D _
  have fr0 : ∀ j : Nat, (j ≠ k) → u j = u j := fun _ _ => rfl
  refine lv_aload_n hx hb d_D_init_0 rfl (lv_at hl 0 rfl) ?_
  refine W.objInit hx hb hown kk0 kk1 kk2 rfl (by rw [hml]; exact hl.1) rfl d_D_init_1 (Nat.le_of_ble_eq_true rfl) (Nat.le_of_ble_eq_true rfl) ?_
  refine W.eq (g2 := F0 m 4 ls []) rfl ?_
  refine lv_aload_n hx hb d_D_init_4 rfl (lv_at hl 0 rfl) ?_
  refine lv_iconst (v := iI (0)) hx hb d_D_init_5 rfl ?_
  refine x_i (y := 0) (by decide) ?_
  refine w_put (C := "LevelledRing$Drawing") (T := T_D) (M := 1) (ty := .int) (v := .int 0) hx hb hts hinD ty_D tyok_D nm_D hown hK hP hS (k) (by omega) f0 rfl 0 (by decide) kk3 (fun _ h => h) rfl (by decide +kernel) rfl rfl (Nat.le_of_ble_eq_true rfl) d_D_init_6 (fun H locs hP hS => ?_)
  obtain ⟨u1, hu2, hP⟩ : ∃ zz : Nat → va_E, zz = va_up u k (.inr (0, [.int 0])) ∧ va_P D vwCl (wl N b zz) H := ⟨_, rfl, hP⟩
  have ff3 : u1 k = .inr (0, [.int 0]) := (congrFun hu2 _).trans up_s
  have fr4 : ∀ j : Nat, (j ≠ k) → u1 j = u j := fun j h0 => (congrFun hu2 j).trans ((up_n (by omega)).trans (fr0 j h0))
  exact ret u1 H locs 9 ls ⟨ff3, fr4⟩ hP hS d_D_init_9
end
section
abbrev rm_c_V_init : Room := { frames := 2, cells := 4, slots := 68, locals := 33 }
set_option maxHeartbeats 4000000 in
set_option maxRecDepth 100000 in
/-- Value() -/
theorem c_V_init (l : Launch) (D : va_G) (ct : Nat → ClassId) (st ke : Nat → Nat) (b : Nat) (u : Nat → va_E) (k : Nat) (f0 : u k = .inr (4, [.int (iI (0)), .long (lI (0)), .null, .null])) : Met l y_V_init (w_V_init) rm_c_V_init (va_Pc [.ref (b + k)] (fun U => ev D ct st ke b U ∧ U.heap.size = b + (k + 1) ∧ va_P D vwCl (wl (k + 1) b u) U.heap)) (va_Qv (fun z : Nat → va_E => VR ct b z k 0 0 (fun _ => 0) (fun _ => 0) ∧ ∀ j : Nat, (j < k ∨ k + 5 ≤ j) → z j = u j) (fun (z : Nat → va_E) t => va_P D vwCl (wl (k + 5) b (z)) t.heap) (AA b)) 4 68 (AA b) := by
  refine M_c (cc := c9_V_init) (maxL := 1) (by decide) rfl (Nat.le_of_ble_eq_true rfl) ?_
  intro p e s m args below meth c Q ls H locs hx hb hml hown hts hnm E hsz hP hS hl ret
  have hl : lv_has ls 1 [(0, .ref (b + k))] := hl
  have hK := ev_K E
  have kk0 := hts (.methodLink "LevelledRing$Value" 3 objectInit) (List.mem_cons_of_mem _ t_53)
  have kk1 := hts (.instanceMethod objectInit) (List.mem_cons_of_mem _ t_19)
  have kk2 := hts (.code objectInit ⟨#[0xb1]⟩ 1 none) (List.mem_cons_of_mem _ t_20)
  have kk3 := hts (.fieldLink "LevelledRing$Value" 9 "LevelledRing$Value" "level" "I") (List.mem_cons_of_mem _ t_56)
  have hinV : ∀ w ∈ u_ws "LevelledRing$Value" T_V 4, w ∈ (w_V_init) := hin_V _
  have kk5 := hts (.fieldLink "LevelledRing$Value" 15 "LevelledRing$Value" "meter" "J") (List.mem_cons_of_mem _ t_58)
  have kk6 := hts (.classLink "LevelledRing$Value" 19 "LevelledRing$Poly") (List.mem_cons_of_mem _ t_54)
  have kk7 := hts (.instantiable "LevelledRing$Poly" 2) (List.mem_cons_of_mem _ t_32)
  have kk8 := hts (.initialized "LevelledRing$Poly") (List.mem_cons_of_mem _ t_3)
  have hinP : ∀ w ∈ u_ws "LevelledRing$Poly" T_P 2, w ∈ (w_V_init) := hin_P _
  have kk10 := hts (.instanceMethod y_P_init) (List.mem_cons_of_mem _ t_34)
  have kk11 := hts (.methodLink "LevelledRing$Value" 21 y_P_init) (List.mem_cons_of_mem _ t_55)
  have kk12 := hts (.fieldLink "LevelledRing$Value" 24 "LevelledRing$Value" "c0" "LLevelledRing$Poly;") (List.mem_cons_of_mem _ t_60)
  have kk13 := hts (.fieldLink "LevelledRing$Value" 28 "LevelledRing$Value" "c1" "LLevelledRing$Poly;") (List.mem_cons_of_mem _ t_62)
  have fr0 : ∀ j : Nat, (j < k ∨ k + 5 ≤ j) → u j = u j := fun _ _ => rfl
  refine lv_aload_n hx hb d_V_init_0 rfl (lv_at hl 0 rfl) ?_
  refine W.objInit hx hb hown kk0 kk1 kk2 rfl (by rw [hml]; exact hl.1) rfl d_V_init_1 (Nat.le_of_ble_eq_true rfl) (Nat.le_of_ble_eq_true rfl) ?_
  refine W.eq (g2 := F0 m 4 ls []) rfl ?_
  refine lv_aload_n hx hb d_V_init_4 rfl (lv_at hl 0 rfl) ?_
  refine lv_iconst (v := iI (0)) hx hb d_V_init_5 rfl ?_
  refine w_put (C := "LevelledRing$Value") (T := T_V) (M := 4) (ty := .int) (v := .int (iI (0))) hx hb hts hinV ty_V tyok_V nm_V hown hK hP hS (k) (by omega) f0 rfl 0 (by decide) kk3 (fun _ h => h) rfl (by decide +kernel) rfl rfl (Nat.le_of_ble_eq_true rfl) d_V_init_6 (fun H locs hP hS => ?_)
  obtain ⟨u1, hu2, hP⟩ : ∃ zz : Nat → va_E, zz = va_up u k (.inr (4, [.int (iI (0)), .long (lI (0)), .null, .null])) ∧ va_P D vwCl (wl (k + 1) b zz) H := ⟨_, rfl, hP⟩
  have ff3 : u1 k = .inr (4, [.int (iI (0)), .long (lI (0)), .null, .null]) := (congrFun hu2 _).trans up_s
  have fr4 : ∀ j : Nat, (j < k ∨ k + 5 ≤ j) → u1 j = u j := fun j h0 => (congrFun hu2 j).trans ((up_n (by omega)).trans (fr0 j h0))
  refine lv_aload_n hx hb d_V_init_9 rfl (lv_at hl 0 rfl) ?_
  refine lv_lconst (v := lI 0) hx hb d_V_init_10 rfl ?_
  refine w_put (C := "LevelledRing$Value") (T := T_V) (M := 4) (ty := .long) (v := .long (lI (0))) hx hb hts hinV ty_V tyok_V nm_V hown hK hP hS (k) (by omega) ff3 rfl 1 (by decide) kk5 (fun _ h => h) rfl (by decide +kernel) rfl rfl (Nat.le_of_ble_eq_true rfl) d_V_init_11 (fun H locs hP hS => ?_)
  obtain ⟨u5, hu6, hP⟩ : ∃ zz : Nat → va_E, zz = va_up u1 k (.inr (4, [.int (iI (0)), .long (lI (0)), .null, .null])) ∧ va_P D vwCl (wl (k + 1) b zz) H := ⟨_, rfl, hP⟩
  have ff7 : u5 k = .inr (4, [.int (iI (0)), .long (lI (0)), .null, .null]) := (congrFun hu6 _).trans up_s
  have fr8 : ∀ j : Nat, (j < k ∨ k + 5 ≤ j) → u5 j = u j := fun j h0 => (congrFun hu6 j).trans ((up_n (by omega)).trans (fr4 j h0))
  refine lv_aload_n hx hb d_V_init_14 rfl (lv_at hl 0 rfl) ?_
  refine w_new (C := "LevelledRing$Poly") (T := T_P) (M := 2) (ci := 3) (fs := [.int (iI (0)), .null]) hx hb hts hinP ty_P tyok_P hown kk6 kk7 kk8 hK hP hS (ev_b E) (by omega) rfl (fun j hj => by rcases (show j = 0 ∨ j = 1 by omega) with rfl | rfl <;> rfl) (Nat.le_of_ble_eq_true rfl) (Nat.le_of_ble_eq_true rfl) d_V_init_15 (fun H hP hS => ?_)
  obtain ⟨u9, hu10, hP⟩ : ∃ zz : Nat → va_E, zz = va_up u5 (k + 1) (.inr (3, [.int (iI (0)), .null])) ∧ va_P D vwCl (wl (k + 2) b zz) H := ⟨_, rfl, hP⟩
  have ff11 : u9 k = .inr (4, [.int (iI (0)), .long (lI (0)), .null, .null]) := (congrFun hu10 _).trans ((up_n (by omega)).trans ff7)
  have ff12 : u9 (k + 1) = .inr (3, [.int (iI (0)), .null]) := (congrFun hu10 _).trans up_s
  have fr13 : ∀ j : Nat, (j < k ∨ k + 5 ≤ j) → u9 j = u j := fun j h0 => (congrFun hu10 j).trans ((up_n (by omega)).trans (fr8 j h0))
  refine lv_dup hx hb d_V_init_18 rfl ?_
  refine lv_iconst (v := iI (0)) hx hb d_V_init_19 rfl ?_
  refine w_sz hP (by omega) (by omega) (fun hHs => ?_)
  refine w_callv (va_runI (As := [.int (iI (0))]) (rest := [.ref (b + (k + 1)), .ref (b + k)]) ⟨hx, hb, hml, hown, hts⟩ (c_P_init l D ct st ke b u9 (k + 1) 32 0 (Or.inr ⟨rfl, rfl⟩) ff12) (cwI 1 hts (gC t_35) rfl rfl rfl kk8 kk11 kk10 rfl (by decide +kernel) ⟨Nat.le_of_ble_eq_true rfl, Nat.le_of_ble_eq_true rfl⟩) (pre_C E hP hS hHs) rfl rfl hl.1 rfl (lv_room (Nat.le_of_ble_eq_true rfl)) d_V_init_20 ⟨(Nat.le_of_ble_eq_true rfl), (Nat.le_of_ble_eq_true rfl)⟩) hS (fun z14 H locs hz hP hS => ?_)
  obtain ⟨hz0, hz1, hzf⟩ := hz
  have hq16 := hz0
  have hq17 := hz1
  have ff18 : z14 k = .inr (4, [.int (iI (0)), .long (lI (0)), .null, .null]) := (hzf k (by omega) (by omega)).trans ff11
  have fr19 : ∀ j : Nat, (j < k ∨ k + 5 ≤ j) → z14 j = u j := fun j h0 => (hzf j (by omega) (by omega)).trans (fr13 j h0)
  refine w_putF (C := "LevelledRing$Value") (T := T_V) (M := 4) (ty := (.object "LevelledRing$Poly")) (v := .ref (b + (k + 1))) hx hb hts hinV ty_V tyok_V nm_V hown hK hP hS (k) (by omega) ff18 rfl 2 (by decide) kk12 (fun _ h => h) rfl hnm rfl (by decide +kernel) rfl rfl (Nat.le_of_ble_eq_true rfl) d_V_init_23 (fun H locs hP hS => ?_)
  obtain ⟨u20, hu21, hP⟩ : ∃ zz : Nat → va_E, zz = va_up z14 k (.inr (4, [.int (iI (0)), .long (lI (0)), .ref (b + (k + 1)), .null])) ∧ va_P D vwCl (wl (k + 3) b zz) H := ⟨_, rfl, hP⟩
  have ff22 : u20 k = .inr (4, [.int (iI (0)), .long (lI (0)), .ref (b + (k + 1)), .null]) := (congrFun hu21 _).trans up_s
  have ff23 : u20 (k + 1) = .inr (3, [.int (iI (0)), .ref (b + (k + 2))]) := (congrFun hu21 _).trans ((up_n (by omega)).trans hq16)
  have ff24 : u20 (k + 2) = ir ct 32 (fun _ => 0) := (congrFun hu21 _).trans ((up_n (by omega)).trans hq17)
  have fr25 : ∀ j : Nat, (j < k ∨ k + 5 ≤ j) → u20 j = u j := fun j h0 => (congrFun hu21 j).trans ((up_n (by omega)).trans (fr19 j h0))
  refine lv_aload_n hx hb d_V_init_26 rfl (lv_at hl 0 rfl) ?_
  refine w_new (C := "LevelledRing$Poly") (T := T_P) (M := 2) (ci := 3) (fs := [.int (iI (0)), .null]) hx hb hts hinP ty_P tyok_P hown kk6 kk7 kk8 hK hP hS (ev_b E) (by omega) rfl (fun j hj => by rcases (show j = 0 ∨ j = 1 by omega) with rfl | rfl <;> rfl) (Nat.le_of_ble_eq_true rfl) (Nat.le_of_ble_eq_true rfl) d_V_init_27 (fun H hP hS => ?_)
  obtain ⟨u26, hu27, hP⟩ : ∃ zz : Nat → va_E, zz = va_up u20 (k + 3) (.inr (3, [.int (iI (0)), .null])) ∧ va_P D vwCl (wl (k + 4) b zz) H := ⟨_, rfl, hP⟩
  have ff28 : u26 k = .inr (4, [.int (iI (0)), .long (lI (0)), .ref (b + (k + 1)), .null]) := (congrFun hu27 _).trans ((up_n (by omega)).trans ff22)
  have ff29 : u26 (k + 1) = .inr (3, [.int (iI (0)), .ref (b + (k + 2))]) := (congrFun hu27 _).trans ((up_n (by omega)).trans ff23)
  have ff30 : u26 (k + 2) = ir ct 32 (fun _ => 0) := (congrFun hu27 _).trans ((up_n (by omega)).trans ff24)
  have ff31 : u26 (k + 3) = .inr (3, [.int (iI (0)), .null]) := (congrFun hu27 _).trans up_s
  have fr32 : ∀ j : Nat, (j < k ∨ k + 5 ≤ j) → u26 j = u j := fun j h0 => (congrFun hu27 j).trans ((up_n (by omega)).trans (fr25 j h0))
  refine lv_dup hx hb d_V_init_30 rfl ?_
  refine lv_iconst (v := iI (0)) hx hb d_V_init_31 rfl ?_
  refine w_sz hP (by omega) (by omega) (fun hHs => ?_)
  refine w_callv (va_runI (As := [.int (iI (0))]) (rest := [.ref (b + (k + 3)), .ref (b + k)]) ⟨hx, hb, hml, hown, hts⟩ (c_P_init l D ct st ke b u26 (k + 3) 32 0 (Or.inr ⟨rfl, rfl⟩) ff31) (cwI 1 hts (gC t_35) rfl rfl rfl kk8 kk11 kk10 rfl (by decide +kernel) ⟨Nat.le_of_ble_eq_true rfl, Nat.le_of_ble_eq_true rfl⟩) (pre_C E hP hS hHs) rfl rfl hl.1 rfl (lv_room (Nat.le_of_ble_eq_true rfl)) d_V_init_32 ⟨(Nat.le_of_ble_eq_true rfl), (Nat.le_of_ble_eq_true rfl)⟩) hS (fun z33 H locs hz hP hS => ?_)
  obtain ⟨hz0, hz1, hzf⟩ := hz
  have hq35 := hz0
  have hq36 := hz1
  have ff37 : z33 k = .inr (4, [.int (iI (0)), .long (lI (0)), .ref (b + (k + 1)), .null]) := (hzf k (by omega) (by omega)).trans ff28
  have ff38 : z33 (k + 1) = .inr (3, [.int (iI (0)), .ref (b + (k + 2))]) := (hzf (k + 1) (by omega) (by omega)).trans ff29
  have ff39 : z33 (k + 2) = ir ct 32 (fun _ => 0) := (hzf (k + 2) (by omega) (by omega)).trans ff30
  have fr40 : ∀ j : Nat, (j < k ∨ k + 5 ≤ j) → z33 j = u j := fun j h0 => (hzf j (by omega) (by omega)).trans (fr32 j h0)
  refine w_putF (C := "LevelledRing$Value") (T := T_V) (M := 4) (ty := (.object "LevelledRing$Poly")) (v := .ref (b + (k + 3))) hx hb hts hinV ty_V tyok_V nm_V hown hK hP hS (k) (by omega) ff37 rfl 3 (by decide) kk13 (fun _ h => h) rfl hnm rfl (by decide +kernel) rfl rfl (Nat.le_of_ble_eq_true rfl) d_V_init_35 (fun H locs hP hS => ?_)
  obtain ⟨u41, hu42, hP⟩ : ∃ zz : Nat → va_E, zz = va_up z33 k (.inr (4, [.int (iI (0)), .long (lI (0)), .ref (b + (k + 1)), .ref (b + (k + 3))])) ∧ va_P D vwCl (wl (k + 5) b zz) H := ⟨_, rfl, hP⟩
  have ff43 : u41 k = .inr (4, [.int (iI (0)), .long (lI (0)), .ref (b + (k + 1)), .ref (b + (k + 3))]) := (congrFun hu42 _).trans up_s
  have ff44 : u41 (k + 1) = .inr (3, [.int (iI (0)), .ref (b + (k + 2))]) := (congrFun hu42 _).trans ((up_n (by omega)).trans ff38)
  have ff45 : u41 (k + 2) = ir ct 32 (fun _ => 0) := (congrFun hu42 _).trans ((up_n (by omega)).trans ff39)
  have ff46 : u41 (k + 3) = .inr (3, [.int (iI (0)), .ref (b + (k + 4))]) := (congrFun hu42 _).trans ((up_n (by omega)).trans hq35)
  have ff47 : u41 (k + 4) = ir ct 32 (fun _ => 0) := (congrFun hu42 _).trans ((up_n (by omega)).trans hq36)
  have fr48 : ∀ j : Nat, (j < k ∨ k + 5 ≤ j) → u41 j = u j := fun j h0 => (congrFun hu42 j).trans ((up_n (by omega)).trans (fr40 j h0))
  refine W.widen (k := 4) (n := 68) (by decide) (by decide) ?_
  exact ret u41 H locs 38 ls ⟨⟨ff43, ff44, ff45, ff46, ff47⟩, fr48⟩ hP hS d_V_init_38
abbrev rm_c_V_copyFrom : Room := { frames := 2, cells := 0, slots := 0, locals := 61 }
set_option maxHeartbeats 4000000 in
set_option maxRecDepth 100000 in
/-- Value.copyFrom(x) -/
theorem c_V_copyFrom (l : Launch) (D : va_G) (ct : Nat → ClassId) (st ke : Nat → Nat) (b N : Nat) (u : Nat → va_E) (k : Nat) (lv mt : Int) (g0 g1 : Int → Int) (hk : k + 4 < N) (hV : VR ct b u k lv mt g0 g1) (kx : Nat) (lvx mtx : Int) (x0 x1 : Int → Int) (hkx : kx + 4 < N) (hVx : VR ct b u kx lvx mtx x0 x1) (hdis : k + 5 ≤ kx ∨ kx + 5 ≤ k) : Met l y_V_copyFrom (w_V_copyFrom) rm_c_V_copyFrom (va_Pc [.ref (b + k), .ref (b + kx)] (fun U => ev D ct st ke b U ∧ va_P D vwCl (wl N b u) U.heap)) (va_Qv (fun z : Nat → va_E => ∃ y0 y1 : Int → Int, VR ct b z k lvx mtx y0 y1 ∧ (∀ j : Int, 0 ≤ j → j < 32 → y0 j = x0 j) ∧ (∀ j : Int, 0 ≤ j → j < 32 → y1 j = x1 j) ∧ ∀ j : Nat, (j < k ∨ k + 5 ≤ j) → z j = u j) (fun (z : Nat → va_E) t => va_P D vwCl (wl (N) b (z)) t.heap) (AA b)) 0 0 (AA b) := by
  refine M_v (cc := c9_V_copyFrom) (maxL := 2) (by decide) rfl (Nat.le_of_ble_eq_true rfl) ?_
  intro p e s m args below meth c Q ls H locs hx hb hml hown hts hnm E hP hS hl ret
  have hl : lv_has ls 2 [(0, .ref (b + k)), (1, .ref (b + kx))] := hl
  have hK := ev_K E
  have kk0 := hts (.fieldLink "LevelledRing$Value" 9 "LevelledRing$Value" "level" "I") (List.mem_cons_of_mem _ t_56)
  have hinV : ∀ w ∈ u_ws "LevelledRing$Value" T_V 4, w ∈ (w_V_copyFrom) := hin_V _
  have kk2 := hts (.fieldLink "LevelledRing$Value" 15 "LevelledRing$Value" "meter" "J") (List.mem_cons_of_mem _ t_58)
  have kk3 := hts (.fieldLink "LevelledRing$Value" 24 "LevelledRing$Value" "c0" "LLevelledRing$Poly;") (List.mem_cons_of_mem _ t_60)
  have kk4 := hts (.fieldLink "LevelledRing$Value" 28 "LevelledRing$Value" "c1" "LLevelledRing$Poly;") (List.mem_cons_of_mem _ t_62)
  have fr0 : ∀ j : Nat, (j < k ∨ k + 5 ≤ j) → u j = u j := fun _ _ => rfl
  refine lv_aload_n hx hb d_V_copyFrom_0 rfl (lv_at hl 0 rfl) ?_
  refine lv_aload_n hx hb d_V_copyFrom_1 rfl (lv_at hl 1 rfl) ?_
  refine w_get (C := "LevelledRing$Value") (T := T_V) (M := 4) hx hb hts hinV hown hK hP (kx) (by omega) hVx.1 rfl 0 (by decide) kk0 (fun _ h => h) rfl d_V_copyFrom_2 ?_
  refine w_put (C := "LevelledRing$Value") (T := T_V) (M := 4) (ty := .int) (v := .int (iI (lvx))) hx hb hts hinV ty_V tyok_V nm_V hown hK hP hS (k) (by omega) hV.1 rfl 0 (by decide) kk0 (fun _ h => h) rfl (by decide +kernel) rfl rfl (Nat.le_of_ble_eq_true rfl) d_V_copyFrom_5 (fun H locs hP hS => ?_)
  obtain ⟨u1, hu2, hP⟩ : ∃ zz : Nat → va_E, zz = va_up u k (.inr (4, [.int (iI (lvx)), .long (lI (mt)), .ref (b + (k + 1)), .ref (b + (k + 3))])) ∧ va_P D vwCl (wl N b zz) H := ⟨_, rfl, hP⟩
  have ff3 : u1 k = .inr (4, [.int (iI (lvx)), .long (lI (mt)), .ref (b + (k + 1)), .ref (b + (k + 3))]) := (congrFun hu2 _).trans up_s
  have ff4 : u1 (k + 1) = .inr (3, [.int (iI (0)), .ref (b + (k + 2))]) := (congrFun hu2 _).trans ((up_n (by omega)).trans hV.2.1)
  have ff5 : u1 (k + 2) = ir ct 32 (g0) := (congrFun hu2 _).trans ((up_n (by omega)).trans hV.2.2.1)
  have ff6 : u1 (k + 3) = .inr (3, [.int (iI (0)), .ref (b + (k + 4))]) := (congrFun hu2 _).trans ((up_n (by omega)).trans hV.2.2.2.1)
  have ff7 : u1 (k + 4) = ir ct 32 (g1) := (congrFun hu2 _).trans ((up_n (by omega)).trans hV.2.2.2.2)
  have ff8 : u1 kx = .inr (4, [.int (iI (lvx)), .long (lI (mtx)), .ref (b + (kx + 1)), .ref (b + (kx + 3))]) := (congrFun hu2 _).trans ((up_n (by omega)).trans hVx.1)
  have ff9 : u1 (kx + 1) = .inr (3, [.int (iI (0)), .ref (b + (kx + 2))]) := (congrFun hu2 _).trans ((up_n (by omega)).trans hVx.2.1)
  have ff10 : u1 (kx + 2) = ir ct 32 (x0) := (congrFun hu2 _).trans ((up_n (by omega)).trans hVx.2.2.1)
  have ff11 : u1 (kx + 3) = .inr (3, [.int (iI (0)), .ref (b + (kx + 4))]) := (congrFun hu2 _).trans ((up_n (by omega)).trans hVx.2.2.2.1)
  have ff12 : u1 (kx + 4) = ir ct 32 (x1) := (congrFun hu2 _).trans ((up_n (by omega)).trans hVx.2.2.2.2)
  have fr13 : ∀ j : Nat, (j < k ∨ k + 5 ≤ j) → u1 j = u j := fun j h0 => (congrFun hu2 j).trans ((up_n (by omega)).trans (fr0 j h0))
  refine lv_aload_n hx hb d_V_copyFrom_8 rfl (lv_at hl 0 rfl) ?_
  refine lv_aload_n hx hb d_V_copyFrom_9 rfl (lv_at hl 1 rfl) ?_
  refine w_get (C := "LevelledRing$Value") (T := T_V) (M := 4) hx hb hts hinV hown hK hP (kx) (by omega) ff8 rfl 1 (by decide) kk2 (fun _ h => h) rfl d_V_copyFrom_10 ?_
  refine w_put (C := "LevelledRing$Value") (T := T_V) (M := 4) (ty := .long) (v := .long (lI (mtx))) hx hb hts hinV ty_V tyok_V nm_V hown hK hP hS (k) (by omega) ff3 rfl 1 (by decide) kk2 (fun _ h => h) rfl (by decide +kernel) rfl rfl (Nat.le_of_ble_eq_true rfl) d_V_copyFrom_13 (fun H locs hP hS => ?_)
  obtain ⟨u14, hu15, hP⟩ : ∃ zz : Nat → va_E, zz = va_up u1 k (.inr (4, [.int (iI (lvx)), .long (lI (mtx)), .ref (b + (k + 1)), .ref (b + (k + 3))])) ∧ va_P D vwCl (wl N b zz) H := ⟨_, rfl, hP⟩
  have ff16 : u14 k = .inr (4, [.int (iI (lvx)), .long (lI (mtx)), .ref (b + (k + 1)), .ref (b + (k + 3))]) := (congrFun hu15 _).trans up_s
  have ff17 : u14 (k + 1) = .inr (3, [.int (iI (0)), .ref (b + (k + 2))]) := (congrFun hu15 _).trans ((up_n (by omega)).trans ff4)
  have ff18 : u14 (k + 2) = ir ct 32 (g0) := (congrFun hu15 _).trans ((up_n (by omega)).trans ff5)
  have ff19 : u14 (k + 3) = .inr (3, [.int (iI (0)), .ref (b + (k + 4))]) := (congrFun hu15 _).trans ((up_n (by omega)).trans ff6)
  have ff20 : u14 (k + 4) = ir ct 32 (g1) := (congrFun hu15 _).trans ((up_n (by omega)).trans ff7)
  have ff21 : u14 kx = .inr (4, [.int (iI (lvx)), .long (lI (mtx)), .ref (b + (kx + 1)), .ref (b + (kx + 3))]) := (congrFun hu15 _).trans ((up_n (by omega)).trans ff8)
  have ff22 : u14 (kx + 1) = .inr (3, [.int (iI (0)), .ref (b + (kx + 2))]) := (congrFun hu15 _).trans ((up_n (by omega)).trans ff9)
  have ff23 : u14 (kx + 2) = ir ct 32 (x0) := (congrFun hu15 _).trans ((up_n (by omega)).trans ff10)
  have ff24 : u14 (kx + 3) = .inr (3, [.int (iI (0)), .ref (b + (kx + 4))]) := (congrFun hu15 _).trans ((up_n (by omega)).trans ff11)
  have ff25 : u14 (kx + 4) = ir ct 32 (x1) := (congrFun hu15 _).trans ((up_n (by omega)).trans ff12)
  have fr26 : ∀ j : Nat, (j < k ∨ k + 5 ≤ j) → u14 j = u j := fun j h0 => (congrFun hu15 j).trans ((up_n (by omega)).trans (fr13 j h0))
  refine lv_aload_n hx hb d_V_copyFrom_16 rfl (lv_at hl 0 rfl) ?_
  refine w_get (C := "LevelledRing$Value") (T := T_V) (M := 4) hx hb hts hinV hown hK hP (k) (by omega) ff16 rfl 2 (by decide) kk3 (fun _ h => h) rfl d_V_copyFrom_17 ?_
  refine lv_aload_n hx hb d_V_copyFrom_20 rfl (lv_at hl 1 rfl) ?_
  refine w_get (C := "LevelledRing$Value") (T := T_V) (M := 4) hx hb hts hinV hown hK hP (kx) (by omega) ff21 rfl 2 (by decide) kk3 (fun _ h => h) rfl d_V_copyFrom_21 ?_
  refine w_callv (va_runV (As := [.ref (b + (kx + 1))]) (rest := []) ⟨hx, hb, hml, hown, hts⟩ (c_copyFrom l D ct st ke b N u14 (k + 1) 0 32 g0 (by omega) (by decide) ff17 ff18 (kx + 1) x0 (by omega) ff22 ff23) (cwV 1 hts (gV t_325 t_225 t_226 t_3 t_227) rfl rfl rfl (by decide +kernel) ⟨Nat.le_of_ble_eq_true rfl, Nat.le_of_ble_eq_true rfl⟩) (pre_V E hP hS (k + 1) (by omega) ff17 rfl) rfl rfl hl.1 rfl (lv_room (Nat.le_of_ble_eq_true rfl)) d_V_copyFrom_24 ⟨(Nat.le_of_ble_eq_true rfl), (Nat.le_of_ble_eq_true rfl)⟩) hS (fun z27 H locs hz hP hS => ?_)
  obtain ⟨y0, hzy0, ey0, hzfy0⟩ := hz
  have ff29 : z27 k = .inr (4, [.int (iI (lvx)), .long (lI (mtx)), .ref (b + (k + 1)), .ref (b + (k + 3))]) := (hzfy0 k (by omega)).trans ff16
  have ff30 : z27 (k + 1) = .inr (3, [.int (iI (0)), .ref (b + (k + 2))]) := (hzfy0 (k + 1) (by omega)).trans ff17
  have ff31 : z27 (k + 3) = .inr (3, [.int (iI (0)), .ref (b + (k + 4))]) := (hzfy0 (k + 3) (by omega)).trans ff19
  have ff32 : z27 (k + 4) = ir ct 32 (g1) := (hzfy0 (k + 4) (by omega)).trans ff20
  have ff33 : z27 kx = .inr (4, [.int (iI (lvx)), .long (lI (mtx)), .ref (b + (kx + 1)), .ref (b + (kx + 3))]) := (hzfy0 kx (by omega)).trans ff21
  have ff34 : z27 (kx + 1) = .inr (3, [.int (iI (0)), .ref (b + (kx + 2))]) := (hzfy0 (kx + 1) (by omega)).trans ff22
  have ff35 : z27 (kx + 2) = ir ct 32 (x0) := (hzfy0 (kx + 2) (by omega)).trans ff23
  have ff36 : z27 (kx + 3) = .inr (3, [.int (iI (0)), .ref (b + (kx + 4))]) := (hzfy0 (kx + 3) (by omega)).trans ff24
  have ff37 : z27 (kx + 4) = ir ct 32 (x1) := (hzfy0 (kx + 4) (by omega)).trans ff25
  have fr38 : ∀ j : Nat, (j < k ∨ k + 5 ≤ j) → z27 j = u j := fun j h0 => (hzfy0 j (by omega)).trans (fr26 j h0)
  refine lv_aload_n hx hb d_V_copyFrom_27 rfl (lv_at hl 0 rfl) ?_
  refine w_get (C := "LevelledRing$Value") (T := T_V) (M := 4) hx hb hts hinV hown hK hP (k) (by omega) ff29 rfl 3 (by decide) kk4 (fun _ h => h) rfl d_V_copyFrom_28 ?_
  refine lv_aload_n hx hb d_V_copyFrom_31 rfl (lv_at hl 1 rfl) ?_
  refine w_get (C := "LevelledRing$Value") (T := T_V) (M := 4) hx hb hts hinV hown hK hP (kx) (by omega) ff33 rfl 3 (by decide) kk4 (fun _ h => h) rfl d_V_copyFrom_32 ?_
  refine w_callv (va_runV (As := [.ref (b + (kx + 3))]) (rest := []) ⟨hx, hb, hml, hown, hts⟩ (c_copyFrom l D ct st ke b N z27 (k + 3) 0 32 g1 (by omega) (by decide) ff31 ff32 (kx + 3) x1 (by omega) ff36 ff37) (cwV 1 hts (gV t_325 t_225 t_226 t_3 t_227) rfl rfl rfl (by decide +kernel) ⟨Nat.le_of_ble_eq_true rfl, Nat.le_of_ble_eq_true rfl⟩) (pre_V E hP hS (k + 3) (by omega) ff31 rfl) rfl rfl hl.1 rfl (lv_room (Nat.le_of_ble_eq_true rfl)) d_V_copyFrom_35 ⟨(Nat.le_of_ble_eq_true rfl), (Nat.le_of_ble_eq_true rfl)⟩) hS (fun z39 H locs hz hP hS => ?_)
  obtain ⟨y1, hzy1, ey1, hzfy1⟩ := hz
  have ff41 : z39 k = .inr (4, [.int (iI (lvx)), .long (lI (mtx)), .ref (b + (k + 1)), .ref (b + (k + 3))]) := (hzfy1 k (by omega)).trans ff29
  have ff42 : z39 (k + 1) = .inr (3, [.int (iI (0)), .ref (b + (k + 2))]) := (hzfy1 (k + 1) (by omega)).trans ff30
  have ff43 : z39 (k + 3) = .inr (3, [.int (iI (0)), .ref (b + (k + 4))]) := (hzfy1 (k + 3) (by omega)).trans ff31
  have ff44 : z39 kx = .inr (4, [.int (iI (lvx)), .long (lI (mtx)), .ref (b + (kx + 1)), .ref (b + (kx + 3))]) := (hzfy1 kx (by omega)).trans ff33
  have ff45 : z39 (kx + 1) = .inr (3, [.int (iI (0)), .ref (b + (kx + 2))]) := (hzfy1 (kx + 1) (by omega)).trans ff34
  have ff46 : z39 (kx + 2) = ir ct 32 (x0) := (hzfy1 (kx + 2) (by omega)).trans ff35
  have ff47 : z39 (kx + 3) = .inr (3, [.int (iI (0)), .ref (b + (kx + 4))]) := (hzfy1 (kx + 3) (by omega)).trans ff36
  have ff48 : z39 (kx + 4) = ir ct 32 (x1) := (hzfy1 (kx + 4) (by omega)).trans ff37
  have ff49 : z39 (k + 2) = ir ct 32 (y0) := (hzfy1 (k + 2) (by omega)).trans hzy0
  have fr50 : ∀ j : Nat, (j < k ∨ k + 5 ≤ j) → z39 j = u j := fun j h0 => (hzfy1 j (by omega)).trans (fr38 j h0)
  exact ret z39 H locs 38 ls ⟨y0, y1, ⟨ff41, ff42, ff49, ff43, hzy1⟩, ey0, ey1, fr50⟩ hP hS d_V_copyFrom_38
abbrev rm_c_tooGreat : Room := { frames := 0, cells := 0, slots := 0, locals := 0 }
set_option maxHeartbeats 4000000 in
set_option maxRecDepth 100000 in
/-- isTooGreat() -/
theorem c_tooGreat (l : Launch) (D : va_G) (ct : Nat → ClassId) (st ke : Nat → Nat) (b N : Nat) (u : Nat → va_E) (k : Nat) (lv mt : Int) (hk : k < N) (f0 : u k = vl b k lv mt) (hl0 : 0 ≤ lv) (hl3 : lv ≤ 3) (hmt : r64 mt) : Met l y_V_isTooGreat (w_V_isTooGreat) rm_c_tooGreat (va_Pc [.ref (b + k)] (fun U => ev D ct st ke b U ∧ va_P D vwCl (wl N b u) U.heap)) (va_Qi (fun (r : Int32) (z : Nat → va_E) => r = iI (tg lv mt) ∧ u = z) (fun (z : Nat → va_E) t => va_P D vwCl (wl (N) b (z)) t.heap) (AA b)) 0 0 (AA b) := by
  refine M_z (cc := c9_V_isTooGreat) (maxL := 1) (by decide) rfl (Nat.le_of_ble_eq_true rfl) ?_
  intro p e s m args below meth c Q ls H locs hx hb hml hown hts hnm E hP hS hl ret
  have hl : lv_has ls 1 [(0, .ref (b + k))] := hl
  have hK := ev_K E
  have kk0 := hts (.fieldLink "LevelledRing$Value" 15 "LevelledRing$Value" "meter" "J") (List.mem_cons_of_mem _ t_58)
  have hinV : ∀ w ∈ u_ws "LevelledRing$Value" T_V 4, w ∈ (w_V_isTooGreat) := hin_V _
  have kk2 : ((.fieldLinkNest "LevelledRing$Value" 35 "LevelledRing" "MODULI" "[J" "LevelledRing") : Cond).before args s = true := va_Nw.use rfl (ev_W E _ nw_9)
  have kk3 := hts (.fieldLink "LevelledRing$Value" 9 "LevelledRing$Value" "level" "I") (List.mem_cons_of_mem _ t_56)
  have kk4 := hts (.constantLong "LevelledRing$Value" 39 2) (List.mem_cons_of_mem _ t_353)
  have fr0 : ∀ j : Nat, u j = u j := fun _  => rfl
  have hlQ := lQ_bd lv
  refine lv_aload_n hx hb d_V_isTooGreat_0 rfl (lv_at hl 0 rfl) ?_
  refine w_get (C := "LevelledRing$Value") (T := T_V) (M := 4) hx hb hts hinV hown hK hP (k) (by omega) f0 rfl 1 (by decide) kk0 (fun _ h => h) rfl d_V_isTooGreat_1 ?_
  refine va_getsN hx hb (ev_Z1 E) hS hown kk2 (fun _ h => h) d_V_isTooGreat_4 ?_
  refine lv_aload_n hx hb d_V_isTooGreat_7 rfl (lv_at hl 0 rfl) ?_
  refine w_get (C := "LevelledRing$Value") (T := T_V) (M := 4) hx hb hts hinV hown hK hP (k) (by omega) f0 rfl 0 (by decide) kk3 (fun _ h => h) rfl d_V_isTooGreat_8 ?_
  refine x_tl hx hb (ev_T1 E) hS (by omega) (by omega) (by decide) d_V_isTooGreat_11 ?_
  refine lv_lconst (v := lI 1) hx hb d_V_isTooGreat_12 rfl ?_
  refine x_lsub hx hb d_V_isTooGreat_13 ?_
  refine lv_ldc2 hx hb hown kk4 d_V_isTooGreat_14 ?_
  refine x_l (y := lI (2)) (by decide +kernel) ?_
  refine x_ldivP hx hb ⟨by omega, by omega⟩ ⟨by omega, by omega⟩ (by omega) (by omega) d_V_isTooGreat_17 ?_
  refine x_lcmp hx hb hmt ⟨by omega, by omega⟩ d_V_isTooGreat_18 ?_
  refine x_if_le (tgt := 26) hx hb (cmpz_r _ _) d_V_isTooGreat_19 (by decide) (fun hc => ?_) (fun hc => ?_)
  · have hc := cmpz_le.mp hc
    refine lv_iconst (v := iI (0)) hx hb d_V_isTooGreat_26 rfl ?_
    refine x_ie (y := tg lv mt) (by unfold tg; rw [if_neg (by omega)]) ?_
    exact ret _ u H locs 27 ls (tg_01 _ _) ⟨rfl, rfl⟩ hP hS d_V_isTooGreat_27
  · have hc : ¬ mt ≤ (lQ lv - 1) / 2 := fun h => by have := cmpz_le.mpr h; omega
    refine lv_iconst (v := iI (1)) hx hb d_V_isTooGreat_22 rfl ?_
    refine lv_goto (tgt := 27) hx hb d_V_isTooGreat_23 (by decide) ?_
    refine x_ie (y := tg lv mt) (by unfold tg; rw [if_pos (by omega)]) ?_
    exact ret _ u H locs 27 ls (tg_01 _ _) ⟨rfl, rfl⟩ hP hS d_V_isTooGreat_27
abbrev rm_c_lowerOnce : Room := { frames := 2, cells := 0, slots := 0, locals := 52 }
set_option maxHeartbeats 4000000 in
set_option maxRecDepth 100000 in
/-- lowerOnce() -/
theorem c_lowerOnce (l : Launch) (D : va_G) (ct : Nat → ClassId) (st ke : Nat → Nat) (b N : Nat) (u : Nat → va_E) (k : Nat) (lv mt : Int) (g0 g1 : Int → Int) (hk : k + 4 < N) (hV : VR ct b u k lv mt g0 g1) (hl0 : 0 ≤ lv) (hl3 : lv ≤ 3) (hm0 : 0 ≤ mt) (hm1 : mt ≤ 4000000000000000000) (P0 P1 : Int → Int) (hP0 : Rep g0 0 lv P0) (hP1 : Rep g1 0 lv P1) : Met l y_V_lowerOnce (w_V_lowerOnce) rm_c_lowerOnce (va_Pc [.ref (b + k)] (fun U => ev D ct st ke b U ∧ va_P D vwCl (wl N b u) U.heap)) (va_Qi (fun (r : Int32) (z : Nat → va_E) => (lv = 0 ∧ r = iI 0 ∧ u = z) ∨ (0 < lv ∧ r = iI (1 - tg (lv - 1) (mt / lq lv + 77)) ∧ ∃ y0 y1 : Int → Int, VR ct b z k (lv - 1) (mt / lq lv + 77) y0 y1 ∧ Rep y0 0 (lv - 1) (fun i => low lv (P0 i)) ∧ Rep y1 0 (lv - 1) (fun i => low lv (P1 i)) ∧ ∀ j : Nat, (j < k ∨ k + 5 ≤ j) → z j = u j)) (fun (z : Nat → va_E) t => va_P D vwCl (wl (N) b (z)) t.heap) (AA b)) 0 0 (AA b) := by
  refine M_z (cc := c9_V_lowerOnce) (maxL := 1) (by decide) rfl (Nat.le_of_ble_eq_true rfl) ?_
  intro p e s m args below meth c Q ls H locs hx hb hml hown hts hnm E hP hS hl ret
  have hl : lv_has ls 1 [(0, .ref (b + k))] := hl
  have hK := ev_K E
  have kk0 := hts (.fieldLink "LevelledRing$Value" 9 "LevelledRing$Value" "level" "I") (List.mem_cons_of_mem _ t_56)
  have hinV : ∀ w ∈ u_ws "LevelledRing$Value" T_V 4, w ∈ (w_V_lowerOnce) := hin_V _
  have kk2 := hts (.fieldLink "LevelledRing$Value" 15 "LevelledRing$Value" "meter" "J") (List.mem_cons_of_mem _ t_58)
  have kk3 : ((.fieldLinkNest "LevelledRing$Value" 41 "LevelledRing" "PRIMES" "[I" "LevelledRing") : Cond).before args s = true := va_Nw.use rfl (ev_W E _ nw_6)
  have kk4 := hts (.constantLong "LevelledRing$Value" 45 77) (List.mem_cons_of_mem _ t_335)
  have kk5 := hts (.fieldLink "LevelledRing$Value" 24 "LevelledRing$Value" "c0" "LLevelledRing$Poly;") (List.mem_cons_of_mem _ t_60)
  have kk6 := hts (.fieldLink "LevelledRing$Value" 28 "LevelledRing$Value" "c1" "LLevelledRing$Poly;") (List.mem_cons_of_mem _ t_62)
  have fr0 : ∀ j : Nat, (j < k ∨ k + 5 ≤ j) → u j = u j := fun _ _ => rfl
  refine lv_aload_n hx hb d_V_lowerOnce_0 rfl (lv_at hl 0 rfl) ?_
  refine w_get (C := "LevelledRing$Value") (T := T_V) (M := 4) hx hb hts hinV hown hK hP (k) (by omega) hV.1 rfl 0 (by decide) kk0 (fun _ h => h) rfl d_V_lowerOnce_1 ?_
  refine x_if_gt (tgt := 9) hx hb ⟨by omega, by omega⟩ d_V_lowerOnce_4 (by decide) (fun hc => ?_) (fun hc => ?_)
  · have hlq := lq_bd lv
    have hdv0 : 0 ≤ mt / lq lv := Int.ediv_nonneg hm0 (by omega)
    have hdv1 : mt / lq lv ≤ mt := Int.ediv_le_self _ hm0
    refine lv_aload_n hx hb d_V_lowerOnce_9 rfl (lv_at hl 0 rfl) ?_
    refine lv_aload_n hx hb d_V_lowerOnce_10 rfl (lv_at hl 0 rfl) ?_
    refine w_get (C := "LevelledRing$Value") (T := T_V) (M := 4) hx hb hts hinV hown hK hP (k) (by omega) hV.1 rfl 1 (by decide) kk2 (fun _ h => h) rfl d_V_lowerOnce_11 ?_
    refine va_getsN hx hb (ev_Z0 E) hS hown kk3 (fun _ h => h) d_V_lowerOnce_14 ?_
    refine lv_aload_n hx hb d_V_lowerOnce_17 rfl (lv_at hl 0 rfl) ?_
    refine w_get (C := "LevelledRing$Value") (T := T_V) (M := 4) hx hb hts hinV hown hK hP (k) (by omega) hV.1 rfl 0 (by decide) kk0 (fun _ h => h) rfl d_V_lowerOnce_18 ?_
    refine x_ti hx hb (ev_T0 E) hS (by omega) (by omega) (by decide) d_V_lowerOnce_21 ?_
    refine x_i2l hx hb ⟨by omega, by omega⟩ d_V_lowerOnce_22 ?_
    refine x_ldivP hx hb ⟨by omega, by omega⟩ ⟨by omega, by omega⟩ (by omega) (by omega) d_V_lowerOnce_23 ?_
    refine lv_ldc2 hx hb hown kk4 d_V_lowerOnce_24 ?_
    refine x_l (y := lI (77)) (by decide +kernel) ?_
    refine x_ladd hx hb d_V_lowerOnce_27 ?_
    refine w_put (C := "LevelledRing$Value") (T := T_V) (M := 4) (ty := .long) (v := .long (lI (((mt) / (lq (lv))) + (77)))) hx hb hts hinV ty_V tyok_V nm_V hown hK hP hS (k) (by omega) hV.1 rfl 1 (by decide) kk2 (fun _ h => h) rfl (by decide +kernel) rfl rfl (Nat.le_of_ble_eq_true rfl) d_V_lowerOnce_28 (fun H locs hP hS => ?_)
    obtain ⟨u1, hu2, hP⟩ : ∃ zz : Nat → va_E, zz = va_up u k (.inr (4, [.int (iI (lv)), .long (lI (((mt) / (lq (lv))) + (77))), .ref (b + (k + 1)), .ref (b + (k + 3))])) ∧ va_P D vwCl (wl N b zz) H := ⟨_, rfl, hP⟩
    have ff3 : u1 k = .inr (4, [.int (iI (lv)), .long (lI (((mt) / (lq (lv))) + (77))), .ref (b + (k + 1)), .ref (b + (k + 3))]) := (congrFun hu2 _).trans up_s
    have ff4 : u1 (k + 1) = .inr (3, [.int (iI (0)), .ref (b + (k + 2))]) := (congrFun hu2 _).trans ((up_n (by omega)).trans hV.2.1)
    have ff5 : u1 (k + 2) = ir ct 32 (g0) := (congrFun hu2 _).trans ((up_n (by omega)).trans hV.2.2.1)
    have ff6 : u1 (k + 3) = .inr (3, [.int (iI (0)), .ref (b + (k + 4))]) := (congrFun hu2 _).trans ((up_n (by omega)).trans hV.2.2.2.1)
    have ff7 : u1 (k + 4) = ir ct 32 (g1) := (congrFun hu2 _).trans ((up_n (by omega)).trans hV.2.2.2.2)
    have fr8 : ∀ j : Nat, (j < k ∨ k + 5 ≤ j) → u1 j = u j := fun j h0 => (congrFun hu2 j).trans ((up_n (by omega)).trans (fr0 j h0))
    refine lv_aload_n hx hb d_V_lowerOnce_31 rfl (lv_at hl 0 rfl) ?_
    refine w_get (C := "LevelledRing$Value") (T := T_V) (M := 4) hx hb hts hinV hown hK hP (k) (by omega) ff3 rfl 2 (by decide) kk5 (fun _ h => h) rfl d_V_lowerOnce_32 ?_
    refine lv_aload_n hx hb d_V_lowerOnce_35 rfl (lv_at hl 0 rfl) ?_
    refine w_get (C := "LevelledRing$Value") (T := T_V) (M := 4) hx hb hts hinV hown hK hP (k) (by omega) ff3 rfl 0 (by decide) kk0 (fun _ h => h) rfl d_V_lowerOnce_36 ?_
    refine w_callv (va_runV (As := [.int (iI (lv))]) (rest := []) ⟨hx, hb, hml, hown, hts⟩ (c_lowerFrom l D ct st ke b N u1 (k + 1) g0 (by omega) ff4 ff5 lv (by omega) hl3 P0 hP0) (cwV 1 hts (gV t_336 t_337 t_338 t_3 t_339) rfl rfl rfl (by decide +kernel) ⟨Nat.le_of_ble_eq_true rfl, Nat.le_of_ble_eq_true rfl⟩) (pre_V E hP hS (k + 1) (by omega) ff4 rfl) rfl rfl hl.1 rfl (lv_room (Nat.le_of_ble_eq_true rfl)) d_V_lowerOnce_39 ⟨(Nat.le_of_ble_eq_true rfl), (Nat.le_of_ble_eq_true rfl)⟩) hS (fun z9 H locs hz hP hS => ?_)
    obtain ⟨y0, hzy0, ey0, hzfy0⟩ := hz
    have ff11 : z9 k = .inr (4, [.int (iI (lv)), .long (lI (((mt) / (lq (lv))) + (77))), .ref (b + (k + 1)), .ref (b + (k + 3))]) := (hzfy0 k (by omega)).trans ff3
    have ff12 : z9 (k + 1) = .inr (3, [.int (iI (0)), .ref (b + (k + 2))]) := (hzfy0 (k + 1) (by omega)).trans ff4
    have ff13 : z9 (k + 3) = .inr (3, [.int (iI (0)), .ref (b + (k + 4))]) := (hzfy0 (k + 3) (by omega)).trans ff6
    have ff14 : z9 (k + 4) = ir ct 32 (g1) := (hzfy0 (k + 4) (by omega)).trans ff7
    have fr15 : ∀ j : Nat, (j < k ∨ k + 5 ≤ j) → z9 j = u j := fun j h0 => (hzfy0 j (by omega)).trans (fr8 j h0)
    refine lv_aload_n hx hb d_V_lowerOnce_42 rfl (lv_at hl 0 rfl) ?_
    refine w_get (C := "LevelledRing$Value") (T := T_V) (M := 4) hx hb hts hinV hown hK hP (k) (by omega) ff11 rfl 3 (by decide) kk6 (fun _ h => h) rfl d_V_lowerOnce_43 ?_
    refine lv_aload_n hx hb d_V_lowerOnce_46 rfl (lv_at hl 0 rfl) ?_
    refine w_get (C := "LevelledRing$Value") (T := T_V) (M := 4) hx hb hts hinV hown hK hP (k) (by omega) ff11 rfl 0 (by decide) kk0 (fun _ h => h) rfl d_V_lowerOnce_47 ?_
    refine w_callv (va_runV (As := [.int (iI (lv))]) (rest := []) ⟨hx, hb, hml, hown, hts⟩ (c_lowerFrom l D ct st ke b N z9 (k + 3) g1 (by omega) ff13 ff14 lv (by omega) hl3 P1 hP1) (cwV 1 hts (gV t_336 t_337 t_338 t_3 t_339) rfl rfl rfl (by decide +kernel) ⟨Nat.le_of_ble_eq_true rfl, Nat.le_of_ble_eq_true rfl⟩) (pre_V E hP hS (k + 3) (by omega) ff13 rfl) rfl rfl hl.1 rfl (lv_room (Nat.le_of_ble_eq_true rfl)) d_V_lowerOnce_50 ⟨(Nat.le_of_ble_eq_true rfl), (Nat.le_of_ble_eq_true rfl)⟩) hS (fun z16 H locs hz hP hS => ?_)
    obtain ⟨y1, hzy1, ey1, hzfy1⟩ := hz
    have ff18 : z16 k = .inr (4, [.int (iI (lv)), .long (lI (((mt) / (lq (lv))) + (77))), .ref (b + (k + 1)), .ref (b + (k + 3))]) := (hzfy1 k (by omega)).trans ff11
    have ff19 : z16 (k + 1) = .inr (3, [.int (iI (0)), .ref (b + (k + 2))]) := (hzfy1 (k + 1) (by omega)).trans ff12
    have ff20 : z16 (k + 3) = .inr (3, [.int (iI (0)), .ref (b + (k + 4))]) := (hzfy1 (k + 3) (by omega)).trans ff13
    have ff21 : z16 (k + 2) = ir ct 32 (y0) := (hzfy1 (k + 2) (by omega)).trans hzy0
    have fr22 : ∀ j : Nat, (j < k ∨ k + 5 ≤ j) → z16 j = u j := fun j h0 => (hzfy1 j (by omega)).trans (fr15 j h0)
    refine lv_aload_n hx hb d_V_lowerOnce_53 rfl (lv_at hl 0 rfl) ?_
    refine lv_dup hx hb d_V_lowerOnce_54 rfl ?_
    refine w_get (C := "LevelledRing$Value") (T := T_V) (M := 4) hx hb hts hinV hown hK hP (k) (by omega) ff18 rfl 0 (by decide) kk0 (fun _ h => h) rfl d_V_lowerOnce_55 ?_
    refine lv_iconst (v := iI (1)) hx hb d_V_lowerOnce_58 rfl ?_
    refine x_isub hx hb d_V_lowerOnce_59 ?_
    refine w_put (C := "LevelledRing$Value") (T := T_V) (M := 4) (ty := .int) (v := .int (iI (lv - 1))) hx hb hts hinV ty_V tyok_V nm_V hown hK hP hS (k) (by omega) ff18 rfl 0 (by decide) kk0 (fun _ h => h) rfl (by decide +kernel) rfl rfl (Nat.le_of_ble_eq_true rfl) d_V_lowerOnce_60 (fun H locs hP hS => ?_)
    obtain ⟨u23, hu24, hP⟩ : ∃ zz : Nat → va_E, zz = va_up z16 k (.inr (4, [.int (iI (lv - 1)), .long (lI (((mt) / (lq (lv))) + (77))), .ref (b + (k + 1)), .ref (b + (k + 3))])) ∧ va_P D vwCl (wl N b zz) H := ⟨_, rfl, hP⟩
    have ff25 : u23 k = .inr (4, [.int (iI (lv - 1)), .long (lI (((mt) / (lq (lv))) + (77))), .ref (b + (k + 1)), .ref (b + (k + 3))]) := (congrFun hu24 _).trans up_s
    have ff26 : u23 (k + 1) = .inr (3, [.int (iI (0)), .ref (b + (k + 2))]) := (congrFun hu24 _).trans ((up_n (by omega)).trans ff19)
    have ff27 : u23 (k + 3) = .inr (3, [.int (iI (0)), .ref (b + (k + 4))]) := (congrFun hu24 _).trans ((up_n (by omega)).trans ff20)
    have ff28 : u23 (k + 2) = ir ct 32 (y0) := (congrFun hu24 _).trans ((up_n (by omega)).trans ff21)
    have ff29 : u23 (k + 4) = ir ct 32 (y1) := (congrFun hu24 _).trans ((up_n (by omega)).trans hzy1)
    have fr30 : ∀ j : Nat, (j < k ∨ k + 5 ≤ j) → u23 j = u j := fun j h0 => (congrFun hu24 j).trans ((up_n (by omega)).trans (fr22 j h0))
    refine lv_aload_n hx hb d_V_lowerOnce_63 rfl (lv_at hl 0 rfl) ?_
    refine w_calli (va_runV (As := []) (rest := []) ⟨hx, hb, hml, hown, hts⟩ (c_tooGreat l D ct st ke b N u23 k (lv - 1) (((mt) / (lq (lv))) + (77)) (by omega) ff25 (by omega) (by omega) ⟨by omega, by omega⟩) (cwV 0 hts (gV t_347 t_348 t_349 t_4 t_350) rfl rfl rfl (by decide +kernel) ⟨Nat.le_of_ble_eq_true rfl, Nat.le_of_ble_eq_true rfl⟩) (pre_V E hP hS (k) (by omega) ff25 rfl) rfl rfl hl.1 rfl (lv_room (Nat.le_of_ble_eq_true rfl)) d_V_lowerOnce_64 ⟨(Nat.le_of_ble_eq_true rfl), (Nat.le_of_ble_eq_true rfl)⟩) hS (fun r32 z31 H locs hz hP hS => ?_)
    obtain ⟨rfl, rfl⟩ := hz
    have htg := tg_01 (lv - 1) (((mt) / (lq (lv))) + (77))
    refine x_if_ne (tgt := 74) hx hb ⟨by omega, by omega⟩ d_V_lowerOnce_67 (by decide) (fun hc => ?_) (fun hc => ?_)
    · have hc : tg (lv - 1) (mt / lq lv + 77) ≠ 0 := hc
      have htg : tg (lv - 1) (mt / lq lv + 77) = 0 ∨ tg (lv - 1) (mt / lq lv + 77) = 1 := htg
      refine lv_iconst (v := iI (0)) hx hb d_V_lowerOnce_74 rfl ?_
      exact ret 0 u23 H locs 75 ls (by omega) (Or.inr ⟨by omega, by rw [show (1 : Int) - tg (lv - 1) (mt / lq lv + 77) = 0 from by omega], y0, y1, ⟨ff25, ff26, ff28, ff27, ff29⟩, ey0, ey1, fr30⟩) hP hS d_V_lowerOnce_75
    · have hc : tg (lv - 1) (mt / lq lv + 77) = 0 := hc
      refine lv_iconst (v := iI (1)) hx hb d_V_lowerOnce_70 rfl ?_
      refine lv_goto (tgt := 75) hx hb d_V_lowerOnce_71 (by decide) ?_
      exact ret 1 u23 H locs 75 ls (by omega) (Or.inr ⟨by omega, by rw [show (1 : Int) - tg (lv - 1) (mt / lq lv + 77) = 1 from by omega], y0, y1, ⟨ff25, ff26, ff28, ff27, ff29⟩, ey0, ey1, fr30⟩) hP hS d_V_lowerOnce_75
  · refine lv_iconst (v := iI (0)) hx hb d_V_lowerOnce_7 rfl ?_
    exact ret 0 u H locs 8 ls (Or.inl rfl) (Or.inl ⟨by omega, rfl, rfl⟩) hP hS d_V_lowerOnce_8
end
section
-- values, gates, keys: the document's words
abbrev Val : Type := Int × Int × (Int → Int) × (Int → Int)
/-- one level lower -/
def lw1 (v : Val) : Val := (v.1 - 1, v.2.1 / lq v.1 + 77, fun i => low v.1 (v.2.2.1 i) % lQ (v.1 - 1), fun i => low v.1 (v.2.2.2 i) % lQ (v.1 - 1))
def low1 (v : Val) : Option Val := if v.1 ≤ 0 then none else if tg (lw1 v).1 (lw1 v).2.1 = 1 then none else some (lw1 v)
theorem low1_0 {v : Val} (h : v.1 ≤ 0) : low1 v = none := by
  unfold low1
  rw [if_pos h]
theorem low1_s {v : Val} (h0 : 0 < v.1) (h : tg (v.1 - 1) (v.2.1 / lq v.1 + 77) = 0) : low1 v = some (lw1 v) := by
  have h1 : ¬ tg (lw1 v).1 (lw1 v).2.1 = 1 := fun g => by
    have g1 : tg (v.1 - 1) (v.2.1 / lq v.1 + 77) = 1 := g
    omega
  unfold low1
  rw [if_neg (by omega), if_neg h1]
theorem low1_n {v : Val} (h0 : 0 < v.1) (h : tg (v.1 - 1) (v.2.1 / lq v.1 + 77) = 1) : low1 v = none := by
  have h1 : tg (lw1 v).1 (lw1 v).2.1 = 1 := h
  unfold low1
  rw [if_neg (by omega), if_pos h1]
def lowT : Nat → Val → Option Val
  | 0, v => some v
  | n + 1, v => (low1 v).bind (lowT n)
/-- a value that a gate can have -/
def okV (v : Val) : Prop := 0 ≤ v.1 ∧ v.1 ≤ 3 ∧ 0 ≤ v.2.1 ∧ v.2.1 ≤ (lQ v.1 - 1) / 2
theorem okV.bd {v : Val} (h : okV v) : v.2.1 ≤ 400000000000000000 := by
  have h1 := lQ_bd v.1
  have h2 := h.2.2.2
  omega
theorem tg_le {lv mt : Int} : tg lv mt = 0 ↔ mt ≤ (lQ lv - 1) / 2 := by
  unfold tg
  split <;> omega
theorem low1_ok {v w : Val} (hv : okV v) (h : low1 v = some w) : okV w ∧ w.1 = v.1 - 1 ∧ 0 < v.1 := by
  unfold low1 at h
  by_cases h0 : v.1 ≤ 0
  · rw [if_pos h0] at h; cases h
  · rw [if_neg h0] at h
    by_cases h1 : tg (lw1 v).1 (lw1 v).2.1 = 1
    · rw [if_pos h1] at h; cases h
    · rw [if_neg h1] at h
      have e := Option.some.inj h
      subst e
      have h2 := tg_01 (lw1 v).1 (lw1 v).2.1
      have h3 := tg_le.mp (show tg (lw1 v).1 (lw1 v).2.1 = 0 by omega)
      have h4 := lq_bd v.1
      have h5 : 0 ≤ v.2.1 / lq v.1 := Int.ediv_nonneg hv.2.2.1 (by omega)
      have h6 := hv.2.1
      refine ⟨⟨?_, ?_, ?_, h3⟩, rfl, by omega⟩
      · show 0 ≤ v.1 - 1; omega
      · show v.1 - 1 ≤ 3; omega
      · show 0 ≤ v.2.1 / lq v.1 + 77; omega
theorem lowT_ok : ∀ (n : Nat) {v w : Val}, okV v → lowT n v = some w → okV w ∧ w.1 = v.1 - n
  | 0, v, w, hv, h => by
    have e := Option.some.inj h
    subst e
    exact ⟨hv, by omega⟩
  | n + 1, v, w, hv, h => by
    have h1 : (low1 v).bind (lowT n) = some w := h
    cases h2 : low1 v with
    | none => rw [h2] at h1; cases h1
    | some x =>
      rw [h2] at h1
      obtain ⟨a1, a2, a3⟩ := low1_ok hv h2
      obtain ⟨b1, b2⟩ := lowT_ok n a1 h1
      exact ⟨b1, by omega⟩
section VV
variable {ct : Nat → ClassId} {b : Nat} {u z : Nat → va_E} {k : Nat}
/-- the Value at the place k is v -/
def VV (ct : Nat → ClassId) (b : Nat) (u : Nat → va_E) (k : Nat) (v : Val) : Prop := ∃ g0 g1 : Int → Int, VR ct b u k v.1 v.2.1 g0 g1 ∧ Rep g0 0 v.1 v.2.2.1 ∧ Rep g1 0 v.1 v.2.2.2
/-- the Value at the place k, whatever it is -/
def VS (ct : Nat → ClassId) (b : Nat) (u : Nat → va_E) (k : Nat) : Prop := ∃ (lv mt : Int) (g0 g1 : Int → Int), VR ct b u k lv mt g0 g1
/-- the big Poly at the place k, whatever it is -/
def PS (ct : Nat → ClassId) (b : Nat) (u : Nat → va_E) (k : Nat) : Prop := u k = po b k 0 ∧ ∃ g : Int → Int, u (k + 1) = ir ct 32 g
/-- the big Poly at the place k is P modulo Q(top) -/
def PV (ct : Nat → ClassId) (b : Nat) (u : Nat → va_E) (k : Nat) (top : Int) (P : Int → Int) : Prop := u k = po b k 0 ∧ ∃ g : Int → Int, u (k + 1) = ir ct 32 g ∧ Rep g 0 top P
/-- the small Poly at the place k has the coefficients X -/
def SV (ct : Nat → ClassId) (b : Nat) (u : Nat → va_E) (k : Nat) (X : Int → Int) : Prop := u k = po b k 1 ∧ ∃ g : Int → Int, u (k + 1) = ir ct 8 g ∧ ∀ i : Int, 0 ≤ i → i < 8 → g i = X i
theorem VV.VS {v : Val} (h : VV ct b u k v) : VS ct b u k := by
  obtain ⟨g0, g1, h1, -, -⟩ := h
  exact ⟨_, _, g0, g1, h1⟩
theorem PV.PS {top : Int} {P : Int → Int} (h : PV ct b u k top P) : PS ct b u k := by
  obtain ⟨h0, g, h1, -⟩ := h
  exact ⟨h0, g, h1⟩
theorem VR.of {lv mt : Int} {g0 g1 : Int → Int} (h : VR ct b u k lv mt g0 g1) (hz : ∀ j, k ≤ j → j < k + 5 → z j = u j) : VR ct b z k lv mt g0 g1 :=
  ⟨(hz k (by omega) (by omega)).trans h.1, (hz (k + 1) (by omega) (by omega)).trans h.2.1, (hz (k + 2) (by omega) (by omega)).trans h.2.2.1, (hz (k + 3) (by omega) (by omega)).trans h.2.2.2.1, (hz (k + 4) (by omega) (by omega)).trans h.2.2.2.2⟩
theorem VV.of {v : Val} (h : VV ct b u k v) (hz : ∀ j, k ≤ j → j < k + 5 → z j = u j) : VV ct b z k v := by
  obtain ⟨g0, g1, h1, h2, h3⟩ := h
  exact ⟨g0, g1, h1.of hz, h2, h3⟩
theorem VS.of (h : VS ct b u k) (hz : ∀ j, k ≤ j → j < k + 5 → z j = u j) : VS ct b z k := by
  obtain ⟨lv, mt, g0, g1, h1⟩ := h
  exact ⟨lv, mt, g0, g1, h1.of hz⟩
theorem PS.of (h : PS ct b u k) (hz : ∀ j, k ≤ j → j < k + 2 → z j = u j) : PS ct b z k := by
  obtain ⟨h0, g, h1⟩ := h
  exact ⟨(hz k (by omega) (by omega)).trans h0, g, (hz (k + 1) (by omega) (by omega)).trans h1⟩
theorem PV.of {top : Int} {P : Int → Int} (h : PV ct b u k top P) (hz : ∀ j, k ≤ j → j < k + 2 → z j = u j) : PV ct b z k top P := by
  obtain ⟨h0, g, h1, h2⟩ := h
  exact ⟨(hz k (by omega) (by omega)).trans h0, g, (hz (k + 1) (by omega) (by omega)).trans h1, h2⟩
theorem SV.of {X : Int → Int} (h : SV ct b u k X) (hz : ∀ j, k ≤ j → j < k + 2 → z j = u j) : SV ct b z k X := by
  obtain ⟨h0, g, h1, h2⟩ := h
  exact ⟨(hz k (by omega) (by omega)).trans h0, g, (hz (k + 1) (by omega) (by omega)).trans h1, h2⟩
end VV
abbrev Ky : Type := (Int → Int) × (Int → Int → Int) × (Int → Int → Int)
/-- the keys that are drawn from z0 on -/
def kyO (z0 : Int32) : Ky := (sml z0, fun j => uni (it (8 + 40 * j.toNat) z0), fun j i => (17 * sml (it 32 (it (8 + 40 * j.toNat) z0)) i + (-1) * nc (uni (it (8 + 40 * j.toNat) z0)) (sml z0) i + un j * nc (sml z0) (sml z0) i) % lQ 3)
/-- the Keys at the place 21 -/
def KS (ct : Nat → ClassId) (b : Nat) (u : Nat → va_E) (K : Ky) : Prop := u 21 = ky b 21 22 24 25 ∧ PV ct b u 22 3 K.1 ∧ (∃ f : Nat → Option Nat, u 24 = qr ct 4 4 f ∧ ∀ i : Nat, i < 4 → f i = some (b + (28 + 4 * i))) ∧ (∃ f : Nat → Option Nat, u 25 = qr ct 4 4 f ∧ ∀ i : Nat, i < 4 → f i = some (b + (30 + 4 * i))) ∧ ∀ i : Nat, i < 4 → PV ct b u (28 + 4 * i) 3 (K.2.1 i) ∧ PV ct b u (30 + 4 * i) 3 (K.2.2 i)
theorem KS.of {ct : Nat → ClassId} {b : Nat} {u z : Nat → va_E} {K : Ky} (h : KS ct b u K) (hz : ∀ j, 21 ≤ j → j < 44 → z j = u j) : KS ct b z K := by
  obtain ⟨h1, h2, ⟨fa, h3, h4⟩, ⟨fb, h5, h6⟩, h7⟩ := h
  exact ⟨(hz 21 (by omega) (by omega)).trans h1, h2.of fun j a c => hz j (by omega) (by omega), ⟨fa, (hz 24 (by omega) (by omega)).trans h3, h4⟩, ⟨fb, (hz 25 (by omega) (by omega)).trans h5, h6⟩, fun i hi => ⟨(h7 i hi).1.of fun j a c => hz j (by omega) (by omega), (h7 i hi).2.of fun j a c => hz j (by omega) (by omega)⟩⟩
-- operands of one level, quietened
abbrev V2 : Type := Val × Val
def opn (x y : Val) : Option V2 := (lowT (x.1 - y.1).toNat x).bind fun x1 => (lowT (y.1 - x1.1).toNat y).bind fun y1 => some (x1, y1)
def qt : Nat → V2 → Option V2
  | 0, p => some p
  | n + 1, p => if 0 < p.1.1 ∧ (1000 < p.1.2.1 ∨ 1000 < p.2.2.1) then (low1 p.1).bind fun x => (low1 p.2).bind fun y => qt n (x, y) else some p
/-- the sum, or the difference -/
def sumV (sg : Int) (p : V2) : Option Val := if tg p.1.1 (p.1.2.1 + p.2.2.1) = 1 then none else some (p.1.1, p.1.2.1 + p.2.2.1, fun i => (p.1.2.2.1 i + sg * p.2.2.2.1 i) % lQ p.1.1, fun i => (p.1.2.2.2 i + sg * p.2.2.2.2 i) % lQ p.1.1)
/-- the greatest digits' sum -/
def gdg (l : Int) : Int := sn (fun k => lq k - 1) (l + 1).toNat
def pmt (p : V2) : Int := 8 * p.1.2.1 * p.2.2.1 + 136 * gdg p.1.1
/-- the digits' part of a product: the square X, the keys B, up to level l -/
def sws (X : Int → Int) (B : Int → Int → Int) (i : Int) (n : Nat) : Int := sn (fun j => nc (fun i => X i % lq j) (B j) i) n
def prV (K : Ky) (p : V2) : Option Val := if tg p.1.1 (pmt p) = 1 then none else some (p.1.1, pmt p,
  fun i => (nc p.1.2.2.1 p.2.2.2.1 i + sws (nc p.1.2.2.2 p.2.2.2.2) K.2.2 i (p.1.1 + 1).toNat) % lQ p.1.1,
  fun i => (nc p.1.2.2.1 p.2.2.2.2 i + nc p.1.2.2.2 p.2.2.2.1 i + sws (nc p.1.2.2.2 p.2.2.2.2) K.2.1 i (p.1.1 + 1).toNat) % lQ p.1.1)
def trV (t : Int) (v : Val) : Val := (v.1, v.2.1, fun i => trn v.2.2.1 t i % lQ v.1, fun i => trn v.2.2.2 t i % lQ v.1)
def inV (S : Int → Int) (z : Int32) (X : Int → Int) : Val := (3, 33, fun i => (17 * sml (it 32 z) i - nc (uni z) S i + X i) % lQ 3, uni z)
-- gates: kind, operands, number, plain
abbrev Gt : Type := Nat × Int × Int × Int × (Int → Int)
/-- a gate's value, of the values before it -/
def gv (K : Ky) (V : Int → Val) (G : Gt) : Option Val :=
  if G.1 = 0 then some (inV K.1 (iI G.2.2.2.1) G.2.2.2.2)
  else if G.1 = 1 then (opn (V G.2.1) (V G.2.2.1)).bind (sumV 1)
  else if G.1 = 2 then (opn (V G.2.1) (V G.2.2.1)).bind (sumV (-1))
  else if G.1 = 3 then (opn (V G.2.1) (V G.2.2.1)).bind fun p => (qt 4 p).bind (prV K)
  else if G.1 = 4 then some (trV G.2.2.2.1 (V G.2.1))
  else low1 (V G.2.1)
/-- a new gate's plain -/
def gpl (kd : Nat) (X Y : Int → Int) (t : Int) : Int → Int := fun i =>
  if kd = 1 then (X i + Y i) % 17 else if kd = 2 then (X i - Y i) % 17 else if kd = 3 then nc X Y i % 17 else if kd = 4 then trn X t i % 17 else X i
end
section
abbrev rm_c_lowerTo : Room := { frames := 3, cells := 0, slots := 0, locals := 72 }
set_option maxHeartbeats 4000000 in
set_option maxRecDepth 100000 in
/-- lowerTo(t) -/
theorem c_lowerTo (l : Launch) (D : va_G) (ct : Nat → ClassId) (st ke : Nat → Nat) (b N : Nat) (u : Nat → va_E) (k : Nat) (hk : k + 4 < N) (v : Val) (hv : okV v) (hV : VV ct b u k v) (t : Int) (ht0 : 0 ≤ t) (ht3 : t ≤ 3) : Met l y_V_lowerTo (w_V_lowerTo) rm_c_lowerTo (va_Pc [.ref (b + k), .int (iI (t))] (fun U => ev D ct st ke b U ∧ va_P D vwCl (wl N b u) U.heap)) (va_Qi (fun (r : Int32) (z : Nat → va_E) => ((∃ w, lowT (v.1 - t).toNat v = some w ∧ r = iI 1 ∧ VV ct b z k w) ∨ (lowT (v.1 - t).toNat v = none ∧ r = iI 0 ∧ VS ct b z k)) ∧ ∀ j : Nat, (j < k ∨ k + 5 ≤ j) → z j = u j) (fun (z : Nat → va_E) t => va_P D vwCl (wl (N) b (z)) t.heap) (AA b)) 0 0 (AA b) := by
  refine M_z (cc := c9_V_lowerTo) (maxL := 3) (by decide) rfl (Nat.le_of_ble_eq_true rfl) ?_
  intro p e s m args below meth c Q ls H locs hx hb hml hown hts hnm E hP hS hl ret
  have hl : lv_has ls 3 [(0, .ref (b + k)), (1, .int (iI (t)))] := hl
  have hK := ev_K E
  have kk0 := hts (.fieldLink "LevelledRing$Value" 9 "LevelledRing$Value" "level" "I") (List.mem_cons_of_mem _ t_56)
  have hinV : ∀ w ∈ u_ws "LevelledRing$Value" T_V 4, w ∈ (w_V_lowerTo) := hin_V _
  have fr0 : ∀ j : Nat, (j < k ∨ k + 5 ≤ j) → u j = u j := fun _ _ => rfl
  have hV9 := hV
  obtain ⟨g0, g1, hVR, hR0, hR1⟩ := hV
  refine lv_aload_n hx hb d_V_lowerTo_0 rfl (lv_at hl 0 rfl) ?_
  refine w_get (C := "LevelledRing$Value") (T := T_V) (M := 4) hx hb hts hinV hown hK hP (k) (by omega) hVR.1 rfl 0 (by decide) kk0 (fun _ h => h) rfl d_V_lowerTo_1 ?_
  refine lv_istore_n (lv' := [(2, .int (iI (v.1))), (0, .ref (b + k)), (1, .int (iI (t)))]) hx hb d_V_lowerTo_4 rfl hl (by decide) rfl (fun ls hl => ?_)
  have lo : ∀ (d : Nat) (x : Val) (w1 : Nat → va_E) (H : Heap) (locs : List Loc) (ls : Array Slot), (0 ≤ x.1) → (x.1 + 1 < d) → (okV x) → (lowT (x.1 - t).toNat x = lowT (v.1 - t).toNat v) → (VV ct b w1 k x) → (∀ j : Nat, (j < k ∨ k + 5 ≤ j) → w1 j = u j) → va_P D vwCl (wl N b w1) H → va_S (AA b) s.heap H locs → lv_has ls 3 [(2, .int (iI (x.1))), (0, .ref (b + k)), (1, .int (iI (t)))] → W p l e rm_c_lowerTo s m args below meth c H locs 0 0 Q (F0 m 5 ls []) := by
    intro d
    induction d with
    | zero => intro x w1 H locs ls h0 hd hok hT hx9 fr2 hP hS hl; exfalso; omega
    | succ d ihlo =>
      intro x w1 H locs ls h0 hd hok hT hx9 fr2 hP hS hl
      have hx3 := hok.2.1
      have hm0 := hok.2.2.1
      have hm1 := hok.bd
      refine lv_iload_n hx hb d_V_lowerTo_5 rfl (lv_at hl 0 rfl) ?_
      refine lv_iload_n hx hb d_V_lowerTo_6 rfl (lv_at hl 2 rfl) ?_
      refine x_icmp_le (tgt := 25) hx hb ⟨by omega, by omega⟩ ⟨by omega, by omega⟩ d_V_lowerTo_7 (by decide) (fun hc => ?_) (fun hc => ?_)
      · refine lv_iconst (v := iI (1)) hx hb d_V_lowerTo_25 rfl ?_
        exact ret 1 w1 H locs 26 ls (Or.inr rfl) ⟨Or.inl ⟨x, by rw [← hT, show (x.1 - t).toNat = 0 by omega]; rfl, rfl, hx9⟩, fr2⟩ hP hS d_V_lowerTo_26
      · obtain ⟨g0, g1, hVR, hR0, hR1⟩ := hx9
        refine lv_aload_n hx hb d_V_lowerTo_10 rfl (lv_at hl 1 rfl) ?_
        refine w_calli (va_runV (As := []) (rest := []) ⟨hx, hb, hml, hown, hts⟩ (c_lowerOnce l D ct st ke b N w1 k x.1 x.2.1 g0 g1 hk hVR h0 hx3 hm0 (by omega) x.2.2.1 x.2.2.2 hR0 hR1) (cwV 0 hts (gV t_330 t_331 t_332 t_4 t_333) rfl rfl rfl (by decide +kernel) ⟨Nat.le_of_ble_eq_true rfl, Nat.le_of_ble_eq_true rfl⟩) (pre_V E hP hS (k) (by omega) hVR.1 rfl) rfl rfl hl.1 rfl (lv_room (Nat.le_of_ble_eq_true rfl)) d_V_lowerTo_11 ⟨(Nat.le_of_ble_eq_true rfl), (Nat.le_of_ble_eq_true rfl)⟩) hS (fun r4 z3 H locs hz hP hS => ?_)
        rcases hz with ⟨hq, -, -⟩ | ⟨-, hq, y0, y1, hVR1, e0, e1, hzf⟩
        · exfalso; omega
        subst hq
        have fr5 : ∀ j : Nat, (j < k ∨ k + 5 ≤ j) → z3 j = u j := fun j h0 => (hzf j (by omega)).trans (fr2 j h0)
        have hVL : VV ct b z3 k (lw1 x) := ⟨y0, y1, hVR1, e0.mod (by omega), e1.mod (by omega)⟩
        have htg := tg_01 (x.1 - 1) (x.2.1 / lq x.1 + 77)
        have hn : (x.1 - t).toNat = (x.1 - 1 - t).toNat + 1 := by omega
        have hT2 : lowT (x.1 - t).toNat x = (low1 x).bind (lowT (x.1 - 1 - t).toNat) := by rw [hn]; rfl
        refine x_if_ne (tgt := 19) hx hb ⟨by omega, by omega⟩ d_V_lowerTo_14 (by decide) (fun hc => ?_) (fun hc => ?_)
        · have hl1 : low1 x = some (lw1 x) := low1_s (by omega) (by omega)
          refine lv_iinc (k := 0) (v := iI (x.1 + (-1))) (lv' := [(2, .int (iI (x.1 + (-1)))), (0, .ref (b + k)), (1, .int (iI (t)))]) hx hb d_V_lowerTo_19 hl rfl (iI_add _ _) (by decide) rfl (fun ls hl => ?_)
          have hl : lv_has ls 3 [(2, .int (iI ((lw1 x).1))), (0, .ref (b + k)), (1, .int (iI (t)))] := by rw [show (lw1 x).1 = x.1 + (-1) from by show x.1 - 1 = _; omega]; exact hl
          refine lv_goto (tgt := 5) hx hb d_V_lowerTo_22 (by decide) ?_
          exact ihlo (lw1 x) z3 H locs ls (by show 0 ≤ x.1 - 1; omega) (by show x.1 - 1 + 1 < _; omega) (low1_ok hok hl1).1 (by rw [← hT, hT2, hl1]; rfl) hVL fr5 hP hS hl
        · have hl1 : low1 x = none := low1_n (by omega) (by omega)
          refine lv_iconst (v := iI (0)) hx hb d_V_lowerTo_17 rfl ?_
          exact ret 0 z3 H locs 18 ls (Or.inl rfl) ⟨Or.inr ⟨by rw [← hT, hT2, hl1]; rfl, rfl, hVL.VS⟩, fr5⟩ hP hS d_V_lowerTo_18
  exact lo (v.1 + 2).toNat v u H locs ls hv.1 (by have := hv.1; omega) hv rfl hV9 fr0 hP hS hl
abbrev rm_c_become : Room := { frames := 0, cells := 0, slots := 0, locals := 0 }
set_option maxHeartbeats 4000000 in
set_option maxRecDepth 100000 in
/-- become(..) -/
theorem c_become (l : Launch) (D : va_G) (ct : Nat → ClassId) (st ke : Nat → Nat) (b N : Nat) (u : Nat → va_E) (k : Nat) (hk : k < N) (k0 : Nat) (a0 b0 n0 : Int) (f0 : u k = gt b ke k k0 a0 b0 n0) (k1 : Nat) (a1 b1 n1 : Int) : Met l y_G_become (w_G_become) rm_c_become (va_Pc [.ref (b + k), .ref (ke k1), .int (iI (a1)), .int (iI (b1)), .int (iI (n1))] (fun U => ev D ct st ke b U ∧ va_P D vwCl (wl N b u) U.heap)) (va_Qv (fun z : Nat → va_E => z k = gt b ke k k1 a1 b1 n1 ∧ ∀ j : Nat, j ≠ k → z j = u j) (fun (z : Nat → va_E) t => va_P D vwCl (wl (N) b (z)) t.heap) (AA b)) 0 0 (AA b) := by
  refine M_v (cc := c9_G_become) (maxL := 5) (by decide) rfl (Nat.le_of_ble_eq_true rfl) ?_
  intro p e s m args below meth c Q ls H locs hx hb hml hown hts hnm E hP hS hl ret
  have hl : lv_has ls 5 [(0, .ref (b + k)), (1, .ref (ke k1)), (2, .int (iI (a1))), (3, .int (iI (b1))), (4, .int (iI (n1)))] := hl
  have hK := ev_K E
  have kk0 := hts (.fieldLink "LevelledRing$Gate" 15 "LevelledRing$Gate" "kind" "LLevelledRing$Kind;") (List.mem_cons_of_mem _ t_148)
  have hinG : ∀ w ∈ u_ws "LevelledRing$Gate" T_G 6, w ∈ (w_G_become) := hin_G _
  have kk2 := hts (.fieldLink "LevelledRing$Gate" 20 "LevelledRing$Gate" "a" "I") (List.mem_cons_of_mem _ t_150)
  have kk3 := hts (.fieldLink "LevelledRing$Gate" 24 "LevelledRing$Gate" "b" "I") (List.mem_cons_of_mem _ t_152)
  have kk4 := hts (.fieldLink "LevelledRing$Gate" 27 "LevelledRing$Gate" "number" "I") (List.mem_cons_of_mem _ t_154)
  have fr0 : ∀ j : Nat, (j ≠ k) → u j = u j := fun _ _ => rfl
  refine lv_aload_n hx hb d_G_become_0 rfl (lv_at hl 0 rfl) ?_
  refine lv_aload_n hx hb d_G_become_1 rfl (lv_at hl 1 rfl) ?_
  refine w_put (C := "LevelledRing$Gate") (T := T_G) (M := 6) (ty := (.object "LevelledRing$Kind")) (v := .ref (ke k1)) hx hb hts hinG ty_G tyok_G nm_G hown hK hP hS (k) (by omega) f0 rfl 0 (by decide) kk0 (fun _ h => h) rfl (by decide +kernel) rfl rfl (Nat.le_of_ble_eq_true rfl) d_G_become_2 (fun H locs hP hS => ?_)
  obtain ⟨u1, hu2, hP⟩ : ∃ zz : Nat → va_E, zz = va_up u k (.inr (1, [.ref (ke k1), .int (iI (a0)), .int (iI (b0)), .int (iI (n0)), .ref (b + (k + 1)), .ref (b + (k + 3))])) ∧ va_P D vwCl (wl N b zz) H := ⟨_, rfl, hP⟩
  have ff3 : u1 k = .inr (1, [.ref (ke k1), .int (iI (a0)), .int (iI (b0)), .int (iI (n0)), .ref (b + (k + 1)), .ref (b + (k + 3))]) := (congrFun hu2 _).trans up_s
  have fr4 : ∀ j : Nat, (j ≠ k) → u1 j = u j := fun j h0 => (congrFun hu2 j).trans ((up_n (by omega)).trans (fr0 j h0))
  refine lv_aload_n hx hb d_G_become_5 rfl (lv_at hl 0 rfl) ?_
  refine lv_iload_n hx hb d_G_become_6 rfl (lv_at hl 2 rfl) ?_
  refine w_put (C := "LevelledRing$Gate") (T := T_G) (M := 6) (ty := .int) (v := .int (iI (a1))) hx hb hts hinG ty_G tyok_G nm_G hown hK hP hS (k) (by omega) ff3 rfl 1 (by decide) kk2 (fun _ h => h) rfl (by decide +kernel) rfl rfl (Nat.le_of_ble_eq_true rfl) d_G_become_7 (fun H locs hP hS => ?_)
  obtain ⟨u5, hu6, hP⟩ : ∃ zz : Nat → va_E, zz = va_up u1 k (.inr (1, [.ref (ke k1), .int (iI (a1)), .int (iI (b0)), .int (iI (n0)), .ref (b + (k + 1)), .ref (b + (k + 3))])) ∧ va_P D vwCl (wl N b zz) H := ⟨_, rfl, hP⟩
  have ff7 : u5 k = .inr (1, [.ref (ke k1), .int (iI (a1)), .int (iI (b0)), .int (iI (n0)), .ref (b + (k + 1)), .ref (b + (k + 3))]) := (congrFun hu6 _).trans up_s
  have fr8 : ∀ j : Nat, (j ≠ k) → u5 j = u j := fun j h0 => (congrFun hu6 j).trans ((up_n (by omega)).trans (fr4 j h0))
  refine lv_aload_n hx hb d_G_become_10 rfl (lv_at hl 0 rfl) ?_
  refine lv_iload_n hx hb d_G_become_11 rfl (lv_at hl 3 rfl) ?_
  refine w_put (C := "LevelledRing$Gate") (T := T_G) (M := 6) (ty := .int) (v := .int (iI (b1))) hx hb hts hinG ty_G tyok_G nm_G hown hK hP hS (k) (by omega) ff7 rfl 2 (by decide) kk3 (fun _ h => h) rfl (by decide +kernel) rfl rfl (Nat.le_of_ble_eq_true rfl) d_G_become_12 (fun H locs hP hS => ?_)
  obtain ⟨u9, hu10, hP⟩ : ∃ zz : Nat → va_E, zz = va_up u5 k (.inr (1, [.ref (ke k1), .int (iI (a1)), .int (iI (b1)), .int (iI (n0)), .ref (b + (k + 1)), .ref (b + (k + 3))])) ∧ va_P D vwCl (wl N b zz) H := ⟨_, rfl, hP⟩
  have ff11 : u9 k = .inr (1, [.ref (ke k1), .int (iI (a1)), .int (iI (b1)), .int (iI (n0)), .ref (b + (k + 1)), .ref (b + (k + 3))]) := (congrFun hu10 _).trans up_s
  have fr12 : ∀ j : Nat, (j ≠ k) → u9 j = u j := fun j h0 => (congrFun hu10 j).trans ((up_n (by omega)).trans (fr8 j h0))
  refine lv_aload_n hx hb d_G_become_15 rfl (lv_at hl 0 rfl) ?_
  refine lv_iload hx hb d_G_become_16 (lv_at hl 4 rfl) ?_
  refine w_put (C := "LevelledRing$Gate") (T := T_G) (M := 6) (ty := .int) (v := .int (iI (n1))) hx hb hts hinG ty_G tyok_G nm_G hown hK hP hS (k) (by omega) ff11 rfl 3 (by decide) kk4 (fun _ h => h) rfl (by decide +kernel) rfl rfl (Nat.le_of_ble_eq_true rfl) d_G_become_18 (fun H locs hP hS => ?_)
  obtain ⟨u13, hu14, hP⟩ : ∃ zz : Nat → va_E, zz = va_up u9 k (.inr (1, [.ref (ke k1), .int (iI (a1)), .int (iI (b1)), .int (iI (n1)), .ref (b + (k + 1)), .ref (b + (k + 3))])) ∧ va_P D vwCl (wl N b zz) H := ⟨_, rfl, hP⟩
  have ff15 : u13 k = .inr (1, [.ref (ke k1), .int (iI (a1)), .int (iI (b1)), .int (iI (n1)), .ref (b + (k + 1)), .ref (b + (k + 3))]) := (congrFun hu14 _).trans up_s
  have fr16 : ∀ j : Nat, (j ≠ k) → u13 j = u j := fun j h0 => (congrFun hu14 j).trans ((up_n (by omega)).trans (fr12 j h0))
  exact ret u13 H locs 21 ls ⟨ff15, fr16⟩ hP hS d_G_become_21
abbrev rm_c_G_init : Room := { frames := 3, cells := 7, slots := 120, locals := 53 }
set_option maxHeartbeats 4000000 in
set_option maxRecDepth 100000 in
/-- Gate() -/
theorem c_G_init (l : Launch) (D : va_G) (ct : Nat → ClassId) (st ke : Nat → Nat) (b : Nat) (u : Nat → va_E) (k : Nat) (f0 : u k = .inr (1, [.null, .int (iI (0)), .int (iI (0)), .int (iI (0)), .null, .null])) : Met l y_G_init (w_G_init) rm_c_G_init (va_Pc [.ref (b + k)] (fun U => ev D ct st ke b U ∧ U.heap.size = b + (k + 1) ∧ va_P D vwCl (wl (k + 1) b u) U.heap)) (va_Qv (fun z : Nat → va_E => z k = gt b ke k 0 (-1) (-1) 0 ∧ z (k + 1) = po b (k + 1) 1 ∧ z (k + 2) = ir ct 8 (fun _ => 0) ∧ VR ct b z (k + 3) 0 0 (fun _ => 0) (fun _ => 0) ∧ ∀ j : Nat, (j < k ∨ k + 8 ≤ j) → z j = u j) (fun (z : Nat → va_E) t => va_P D vwCl (wl (k + 8) b (z)) t.heap) (AA b)) 7 120 (AA b) := by
  refine M_c (cc := c9_G_init) (maxL := 1) (by decide) rfl (Nat.le_of_ble_eq_true rfl) ?_
  intro p e s m args below meth c Q ls H locs hx hb hml hown hts hnm E hsz hP hS hl ret
  have hl : lv_has ls 1 [(0, .ref (b + k))] := hl
  have hK := ev_K E
  have kk0 := hts (.methodLink "LevelledRing$Gate" 3 objectInit) (List.mem_cons_of_mem _ t_141)
  have kk1 := hts (.instanceMethod objectInit) (List.mem_cons_of_mem _ t_19)
  have kk2 := hts (.code objectInit ⟨#[0xb1]⟩ 1 none) (List.mem_cons_of_mem _ t_20)
  have kk3 := hts (.fieldLink "LevelledRing$Gate" 9 "LevelledRing$Kind" "INPUT" "LLevelledRing$Kind;") (List.mem_cons_of_mem _ t_142)
  have kk4 := hts (.fieldLink "LevelledRing$Gate" 15 "LevelledRing$Gate" "kind" "LLevelledRing$Kind;") (List.mem_cons_of_mem _ t_148)
  have hinG : ∀ w ∈ u_ws "LevelledRing$Gate" T_G 6, w ∈ (w_G_init) := hin_G _
  have kk6 := hts (.fieldLink "LevelledRing$Gate" 20 "LevelledRing$Gate" "a" "I") (List.mem_cons_of_mem _ t_150)
  have kk7 := hts (.fieldLink "LevelledRing$Gate" 24 "LevelledRing$Gate" "b" "I") (List.mem_cons_of_mem _ t_152)
  have kk8 := hts (.fieldLink "LevelledRing$Gate" 27 "LevelledRing$Gate" "number" "I") (List.mem_cons_of_mem _ t_154)
  have kk9 := hts (.classLink "LevelledRing$Gate" 30 "LevelledRing$Poly") (List.mem_cons_of_mem _ t_144)
  have kk10 := hts (.instantiable "LevelledRing$Poly" 2) (List.mem_cons_of_mem _ t_32)
  have kk11 := hts (.initialized "LevelledRing$Poly") (List.mem_cons_of_mem _ t_3)
  have hinP : ∀ w ∈ u_ws "LevelledRing$Poly" T_P 2, w ∈ (w_G_init) := hin_P _
  have kk13 := hts (.instanceMethod y_P_init) (List.mem_cons_of_mem _ t_34)
  have kk14 := hts (.methodLink "LevelledRing$Gate" 32 y_P_init) (List.mem_cons_of_mem _ t_145)
  have kk15 := hts (.fieldLink "LevelledRing$Gate" 35 "LevelledRing$Gate" "plain" "LLevelledRing$Poly;") (List.mem_cons_of_mem _ t_156)
  have kk16 := hts (.classLink "LevelledRing$Gate" 39 "LevelledRing$Value") (List.mem_cons_of_mem _ t_146)
  have kk17 := hts (.instantiable "LevelledRing$Value" 4) (List.mem_cons_of_mem _ t_49)
  have kk18 := hts (.initialized "LevelledRing$Value") (List.mem_cons_of_mem _ t_4)
  have hinV : ∀ w ∈ u_ws "LevelledRing$Value" T_V 4, w ∈ (w_G_init) := hin_V _
  have kk20 := hts (.instanceMethod y_V_init) (List.mem_cons_of_mem _ t_51)
  have kn21 : va_Nw (.methodLinkNest "LevelledRing$Gate" 41 y_V_init "LevelledRing") s := ev_W E _ nw_5
  have kk22 := hts (.fieldLink "LevelledRing$Gate" 42 "LevelledRing$Gate" "value" "LLevelledRing$Value;") (List.mem_cons_of_mem _ t_158)
  have fr0 : ∀ j : Nat, (j < k ∨ k + 8 ≤ j) → u j = u j := fun _ _ => rfl
  refine lv_aload_n hx hb d_G_init_0 rfl (lv_at hl 0 rfl) ?_
  refine W.objInit hx hb hown kk0 kk1 kk2 rfl (by rw [hml]; exact hl.1) rfl d_G_init_1 (Nat.le_of_ble_eq_true rfl) (Nat.le_of_ble_eq_true rfl) ?_
  refine W.eq (g2 := F0 m 4 ls []) rfl ?_
  refine lv_aload_n hx hb d_G_init_4 rfl (lv_at hl 0 rfl) ?_
  refine va_gets hx hb ((ev_E E).1 0 (by decide)).1 hS hown kk3 (fun _ h => h) d_G_init_5 ?_
  refine w_put (C := "LevelledRing$Gate") (T := T_G) (M := 6) (ty := (.object "LevelledRing$Kind")) (v := .ref (ke 0)) hx hb hts hinG ty_G tyok_G nm_G hown hK hP hS (k) (by omega) f0 rfl 0 (by decide) kk4 (fun _ h => h) rfl (by decide +kernel) rfl rfl (Nat.le_of_ble_eq_true rfl) d_G_init_8 (fun H locs hP hS => ?_)
  obtain ⟨u1, hu2, hP⟩ : ∃ zz : Nat → va_E, zz = va_up u k (.inr (1, [.ref (ke 0), .int (iI (0)), .int (iI (0)), .int (iI (0)), .null, .null])) ∧ va_P D vwCl (wl (k + 1) b zz) H := ⟨_, rfl, hP⟩
  have ff3 : u1 k = .inr (1, [.ref (ke 0), .int (iI (0)), .int (iI (0)), .int (iI (0)), .null, .null]) := (congrFun hu2 _).trans up_s
  have fr4 : ∀ j : Nat, (j < k ∨ k + 8 ≤ j) → u1 j = u j := fun j h0 => (congrFun hu2 j).trans ((up_n (by omega)).trans (fr0 j h0))
  refine lv_aload_n hx hb d_G_init_11 rfl (lv_at hl 0 rfl) ?_
  refine lv_iconst (v := iI (-1)) hx hb d_G_init_12 rfl ?_
  refine w_put (C := "LevelledRing$Gate") (T := T_G) (M := 6) (ty := .int) (v := .int (iI (-1))) hx hb hts hinG ty_G tyok_G nm_G hown hK hP hS (k) (by omega) ff3 rfl 1 (by decide) kk6 (fun _ h => h) rfl (by decide +kernel) rfl rfl (Nat.le_of_ble_eq_true rfl) d_G_init_13 (fun H locs hP hS => ?_)
  obtain ⟨u5, hu6, hP⟩ : ∃ zz : Nat → va_E, zz = va_up u1 k (.inr (1, [.ref (ke 0), .int (iI (-1)), .int (iI (0)), .int (iI (0)), .null, .null])) ∧ va_P D vwCl (wl (k + 1) b zz) H := ⟨_, rfl, hP⟩
  have ff7 : u5 k = .inr (1, [.ref (ke 0), .int (iI (-1)), .int (iI (0)), .int (iI (0)), .null, .null]) := (congrFun hu6 _).trans up_s
  have fr8 : ∀ j : Nat, (j < k ∨ k + 8 ≤ j) → u5 j = u j := fun j h0 => (congrFun hu6 j).trans ((up_n (by omega)).trans (fr4 j h0))
  refine lv_aload_n hx hb d_G_init_16 rfl (lv_at hl 0 rfl) ?_
  refine lv_iconst (v := iI (-1)) hx hb d_G_init_17 rfl ?_
  refine w_put (C := "LevelledRing$Gate") (T := T_G) (M := 6) (ty := .int) (v := .int (iI (-1))) hx hb hts hinG ty_G tyok_G nm_G hown hK hP hS (k) (by omega) ff7 rfl 2 (by decide) kk7 (fun _ h => h) rfl (by decide +kernel) rfl rfl (Nat.le_of_ble_eq_true rfl) d_G_init_18 (fun H locs hP hS => ?_)
  obtain ⟨u9, hu10, hP⟩ : ∃ zz : Nat → va_E, zz = va_up u5 k (.inr (1, [.ref (ke 0), .int (iI (-1)), .int (iI (-1)), .int (iI (0)), .null, .null])) ∧ va_P D vwCl (wl (k + 1) b zz) H := ⟨_, rfl, hP⟩
  have ff11 : u9 k = .inr (1, [.ref (ke 0), .int (iI (-1)), .int (iI (-1)), .int (iI (0)), .null, .null]) := (congrFun hu10 _).trans up_s
  have fr12 : ∀ j : Nat, (j < k ∨ k + 8 ≤ j) → u9 j = u j := fun j h0 => (congrFun hu10 j).trans ((up_n (by omega)).trans (fr8 j h0))
  refine lv_aload_n hx hb d_G_init_21 rfl (lv_at hl 0 rfl) ?_
  refine lv_iconst (v := iI (0)) hx hb d_G_init_22 rfl ?_
  refine w_put (C := "LevelledRing$Gate") (T := T_G) (M := 6) (ty := .int) (v := .int (iI (0))) hx hb hts hinG ty_G tyok_G nm_G hown hK hP hS (k) (by omega) ff11 rfl 3 (by decide) kk8 (fun _ h => h) rfl (by decide +kernel) rfl rfl (Nat.le_of_ble_eq_true rfl) d_G_init_23 (fun H locs hP hS => ?_)
  obtain ⟨u13, hu14, hP⟩ : ∃ zz : Nat → va_E, zz = va_up u9 k (.inr (1, [.ref (ke 0), .int (iI (-1)), .int (iI (-1)), .int (iI (0)), .null, .null])) ∧ va_P D vwCl (wl (k + 1) b zz) H := ⟨_, rfl, hP⟩
  have ff15 : u13 k = .inr (1, [.ref (ke 0), .int (iI (-1)), .int (iI (-1)), .int (iI (0)), .null, .null]) := (congrFun hu14 _).trans up_s
  have fr16 : ∀ j : Nat, (j < k ∨ k + 8 ≤ j) → u13 j = u j := fun j h0 => (congrFun hu14 j).trans ((up_n (by omega)).trans (fr12 j h0))
  refine lv_aload_n hx hb d_G_init_26 rfl (lv_at hl 0 rfl) ?_
  refine w_new (C := "LevelledRing$Poly") (T := T_P) (M := 2) (ci := 3) (fs := [.int (iI (0)), .null]) hx hb hts hinP ty_P tyok_P hown kk9 kk10 kk11 hK hP hS (ev_b E) (by omega) rfl (fun j hj => by rcases (show j = 0 ∨ j = 1 by omega) with rfl | rfl <;> rfl) (Nat.le_of_ble_eq_true rfl) (Nat.le_of_ble_eq_true rfl) d_G_init_27 (fun H hP hS => ?_)
  obtain ⟨u17, hu18, hP⟩ : ∃ zz : Nat → va_E, zz = va_up u13 (k + 1) (.inr (3, [.int (iI (0)), .null])) ∧ va_P D vwCl (wl (k + 2) b zz) H := ⟨_, rfl, hP⟩
  have ff19 : u17 k = .inr (1, [.ref (ke 0), .int (iI (-1)), .int (iI (-1)), .int (iI (0)), .null, .null]) := (congrFun hu18 _).trans ((up_n (by omega)).trans ff15)
  have ff20 : u17 (k + 1) = .inr (3, [.int (iI (0)), .null]) := (congrFun hu18 _).trans up_s
  have fr21 : ∀ j : Nat, (j < k ∨ k + 8 ≤ j) → u17 j = u j := fun j h0 => (congrFun hu18 j).trans ((up_n (by omega)).trans (fr16 j h0))
  refine lv_dup hx hb d_G_init_30 rfl ?_
  refine lv_iconst (v := iI (1)) hx hb d_G_init_31 rfl ?_
  refine w_sz hP (by omega) (by omega) (fun hHs => ?_)
  refine w_callv (va_runI (As := [.int (iI (1))]) (rest := [.ref (b + (k + 1)), .ref (b + k)]) ⟨hx, hb, hml, hown, hts⟩ (c_P_init l D ct st ke b u17 (k + 1) 8 1 (Or.inl ⟨rfl, rfl⟩) ff20) (cwI 1 hts (gC t_35) rfl rfl rfl kk11 kk14 kk13 rfl (by decide +kernel) ⟨Nat.le_of_ble_eq_true rfl, Nat.le_of_ble_eq_true rfl⟩) (pre_C E hP hS hHs) rfl rfl hl.1 rfl (lv_room (Nat.le_of_ble_eq_true rfl)) d_G_init_32 ⟨(Nat.le_of_ble_eq_true rfl), (Nat.le_of_ble_eq_true rfl)⟩) hS (fun z22 H locs hz hP hS => ?_)
  obtain ⟨hq0, hq1, hzf⟩ := hz
  have ff24 : z22 k = .inr (1, [.ref (ke 0), .int (iI (-1)), .int (iI (-1)), .int (iI (0)), .null, .null]) := (hzf k (by omega) (by omega)).trans ff19
  have fr25 : ∀ j : Nat, (j < k ∨ k + 8 ≤ j) → z22 j = u j := fun j h0 => (hzf j (by omega) (by omega)).trans (fr21 j h0)
  refine w_putF (C := "LevelledRing$Gate") (T := T_G) (M := 6) (ty := (.object "LevelledRing$Poly")) (v := .ref (b + (k + 1))) hx hb hts hinG ty_G tyok_G nm_G hown hK hP hS (k) (by omega) ff24 rfl 4 (by decide) kk15 (fun _ h => h) rfl hnm rfl (by decide +kernel) rfl rfl (Nat.le_of_ble_eq_true rfl) d_G_init_35 (fun H locs hP hS => ?_)
  obtain ⟨u26, hu27, hP⟩ : ∃ zz : Nat → va_E, zz = va_up z22 k (.inr (1, [.ref (ke 0), .int (iI (-1)), .int (iI (-1)), .int (iI (0)), .ref (b + (k + 1)), .null])) ∧ va_P D vwCl (wl (k + 3) b zz) H := ⟨_, rfl, hP⟩
  have ff28 : u26 k = .inr (1, [.ref (ke 0), .int (iI (-1)), .int (iI (-1)), .int (iI (0)), .ref (b + (k + 1)), .null]) := (congrFun hu27 _).trans up_s
  have ff29 : u26 (k + 1) = .inr (3, [.int (iI (1)), .ref (b + (k + 2))]) := (congrFun hu27 _).trans ((up_n (by omega)).trans hq0)
  have ff30 : u26 (k + 2) = ir ct 8 (fun _ => 0) := (congrFun hu27 _).trans ((up_n (by omega)).trans hq1)
  have fr31 : ∀ j : Nat, (j < k ∨ k + 8 ≤ j) → u26 j = u j := fun j h0 => (congrFun hu27 j).trans ((up_n (by omega)).trans (fr25 j h0))
  refine lv_aload_n hx hb d_G_init_38 rfl (lv_at hl 0 rfl) ?_
  refine w_new (C := "LevelledRing$Value") (T := T_V) (M := 4) (ci := 4) (fs := [.int (iI (0)), .long (lI (0)), .null, .null]) hx hb hts hinV ty_V tyok_V hown kk16 kk17 kk18 hK hP hS (ev_b E) (by omega) rfl (fun j hj => by rcases (show j = 0 ∨ j = 1 ∨ j = 2 ∨ j = 3 by omega) with rfl | rfl | rfl | rfl <;> rfl) (Nat.le_of_ble_eq_true rfl) (Nat.le_of_ble_eq_true rfl) d_G_init_39 (fun H hP hS => ?_)
  obtain ⟨u32, hu33, hP⟩ : ∃ zz : Nat → va_E, zz = va_up u26 (k + 3) (.inr (4, [.int (iI (0)), .long (lI (0)), .null, .null])) ∧ va_P D vwCl (wl (k + 4) b zz) H := ⟨_, rfl, hP⟩
  have ff34 : u32 k = .inr (1, [.ref (ke 0), .int (iI (-1)), .int (iI (-1)), .int (iI (0)), .ref (b + (k + 1)), .null]) := (congrFun hu33 _).trans ((up_n (by omega)).trans ff28)
  have ff35 : u32 (k + 1) = .inr (3, [.int (iI (1)), .ref (b + (k + 2))]) := (congrFun hu33 _).trans ((up_n (by omega)).trans ff29)
  have ff36 : u32 (k + 2) = ir ct 8 (fun _ => 0) := (congrFun hu33 _).trans ((up_n (by omega)).trans ff30)
  have ff37 : u32 (k + 3) = .inr (4, [.int (iI (0)), .long (lI (0)), .null, .null]) := (congrFun hu33 _).trans up_s
  have fr38 : ∀ j : Nat, (j < k ∨ k + 8 ≤ j) → u32 j = u j := fun j h0 => (congrFun hu33 j).trans ((up_n (by omega)).trans (fr31 j h0))
  refine lv_dup hx hb d_G_init_42 rfl ?_
  refine w_sz hP (by omega) (by omega) (fun hHs => ?_)
  refine w_callv (va_runIN (As := []) (rest := [.ref (b + (k + 3)), .ref (b + k)]) ⟨hx, hb, hml, hown, hts⟩ (c_V_init l D ct st ke b u32 (k + 3) ff37) ⟨va_cnB 0 hts (gC t_52) rfl rfl rfl kn21 kk18 (by decide +kernel) ⟨Nat.le_of_ble_eq_true rfl, Nat.le_of_ble_eq_true rfl⟩, rfl, kk20⟩ (pre_C E hP hS hHs) rfl rfl hl.1 rfl (lv_room (Nat.le_of_ble_eq_true rfl)) d_G_init_43 ⟨(Nat.le_of_ble_eq_true rfl), (Nat.le_of_ble_eq_true rfl)⟩) hS (fun z39 H locs hz hP hS => ?_)
  obtain ⟨hq2, hzf2⟩ := hz
  have ff41 : z39 k = .inr (1, [.ref (ke 0), .int (iI (-1)), .int (iI (-1)), .int (iI (0)), .ref (b + (k + 1)), .null]) := (hzf2 k (by omega)).trans ff34
  have ff42 : z39 (k + 1) = .inr (3, [.int (iI (1)), .ref (b + (k + 2))]) := (hzf2 (k + 1) (by omega)).trans ff35
  have ff43 : z39 (k + 2) = ir ct 8 (fun _ => 0) := (hzf2 (k + 2) (by omega)).trans ff36
  have fr44 : ∀ j : Nat, (j < k ∨ k + 8 ≤ j) → z39 j = u j := fun j h0 => (hzf2 j (by omega)).trans (fr38 j h0)
  refine w_putF (C := "LevelledRing$Gate") (T := T_G) (M := 6) (ty := (.object "LevelledRing$Value")) (v := .ref (b + (k + 3))) hx hb hts hinG ty_G tyok_G nm_G hown hK hP hS (k) (by omega) ff41 rfl 5 (by decide) kk22 (fun _ h => h) rfl hnm rfl (by decide +kernel) rfl rfl (Nat.le_of_ble_eq_true rfl) d_G_init_46 (fun H locs hP hS => ?_)
  obtain ⟨u45, hu46, hP⟩ : ∃ zz : Nat → va_E, zz = va_up z39 k (.inr (1, [.ref (ke 0), .int (iI (-1)), .int (iI (-1)), .int (iI (0)), .ref (b + (k + 1)), .ref (b + (k + 3))])) ∧ va_P D vwCl (wl (k + 8) b zz) H := ⟨_, rfl, hP⟩
  have ff47 : u45 k = .inr (1, [.ref (ke 0), .int (iI (-1)), .int (iI (-1)), .int (iI (0)), .ref (b + (k + 1)), .ref (b + (k + 3))]) := (congrFun hu46 _).trans up_s
  have ff48 : u45 (k + 1) = .inr (3, [.int (iI (1)), .ref (b + (k + 2))]) := (congrFun hu46 _).trans ((up_n (by omega)).trans ff42)
  have ff49 : u45 (k + 2) = ir ct 8 (fun _ => 0) := (congrFun hu46 _).trans ((up_n (by omega)).trans ff43)
  have ff50 : u45 (k + 3) = .inr (4, [.int (iI (0)), .long (lI (0)), .ref (b + (k + 4)), .ref (b + (k + 6))]) := (congrFun hu46 _).trans ((up_n (by omega)).trans hq2.1)
  have ff51 : u45 (k + 4) = .inr (3, [.int (iI (0)), .ref (b + (k + 5))]) := (congrFun hu46 _).trans ((up_n (by omega)).trans hq2.2.1)
  have ff52 : u45 (k + 5) = ir ct 32 (fun _ => 0) := (congrFun hu46 _).trans ((up_n (by omega)).trans hq2.2.2.1)
  have ff53 : u45 (k + 6) = .inr (3, [.int (iI (0)), .ref (b + (k + 7))]) := (congrFun hu46 _).trans ((up_n (by omega)).trans hq2.2.2.2.1)
  have ff54 : u45 (k + 7) = ir ct 32 (fun _ => 0) := (congrFun hu46 _).trans ((up_n (by omega)).trans hq2.2.2.2.2)
  have fr55 : ∀ j : Nat, (j < k ∨ k + 8 ≤ j) → u45 j = u j := fun j h0 => (congrFun hu46 j).trans ((up_n (by omega)).trans (fr44 j h0))
  refine W.widen (k := 7) (n := 120) (by decide) (by decide) ?_
  exact ret u45 H locs 49 ls ⟨ff47, ff48, ff49, ⟨ff50, ff51, ff52, ff53, ff54⟩, fr55⟩ hP hS d_G_init_49
abbrev rm_c_dhz : Room := { frames := 2, cells := 0, slots := 0, locals := 54 }
set_option maxHeartbeats 4000000 in
set_option maxRecDepth 100000 in
/-- drawHiddenZero(drawing, c0, c1) -/
theorem c_dhz (l : Launch) (D : va_G) (ct : Nat → ClassId) (st ke : Nat → Nat) (b N : Nat) (u : Nat → va_E) (k ka kb ks : Nat) (hk : k < N) (f0 : u k = ky b k ks ka kb) (hks : ks + 1 < N) (gs : Int → Int) (fs0 : u ks = po b ks 0) (fs1 : u (ks + 1) = ir ct 32 gs) (S : Int → Int) (hSr : Rep gs 0 3 S) (kd : Nat) (hkd : kd < N) (z0 : Int32) (fd : u kd = dr z0) (k0 : Nat) (hk0 : k0 + 1 < N) (g0 : Int → Int) (f00 : u k0 = po b k0 0) (f01 : u (k0 + 1) = ir ct 32 g0) (k1 : Nat) (hk1 : k1 + 1 < N) (g1 : Int → Int) (f10 : u k1 = po b k1 0) (f11 : u (k1 + 1) = ir ct 32 g1) (hn1 : k0 + 1 ≠ k1 + 1) (hn2 : ks + 1 ≠ k0 + 1) (hn3 : ks + 1 ≠ k1 + 1) : Met l y_K_drawHiddenZero (w_K_drawHiddenZero) rm_c_dhz (va_Pc [.ref (b + k), .ref (b + kd), .ref (b + k0), .ref (b + k1)] (fun U => ev D ct st ke b U ∧ va_P D vwCl (wl N b u) U.heap)) (va_Qv (fun z : Nat → va_E => ∃ y0 y1 : Int → Int, z (k0 + 1) = ir ct 32 y0 ∧ z (k1 + 1) = ir ct 32 y1 ∧ z kd = dr (it 40 z0) ∧ Rep y0 0 3 (fun i => 17 * sml (it 32 z0) i + (-1) * nc (uni z0) S i) ∧ Rep y1 0 3 (uni z0) ∧ ∀ j : Nat, j ≠ k0 + 1 → j ≠ k1 + 1 → j ≠ kd → z j = u j) (fun (z : Nat → va_E) t => va_P D vwCl (wl (N) b (z)) t.heap) (AA b)) 0 0 (AA b) := by
  refine M_v (cc := c9_K_drawHiddenZero) (maxL := 4) (by decide) rfl (Nat.le_of_ble_eq_true rfl) ?_
  intro p e s m args below meth c Q ls H locs hx hb hml hown hts hnm E hP hS hl ret
  have hl : lv_has ls 4 [(0, .ref (b + k)), (1, .ref (b + kd)), (2, .ref (b + k0)), (3, .ref (b + k1))] := hl
  have hK := ev_K E
  have kk0 := hts (.fieldLink "LevelledRing$Keys" 14 "LevelledRing$Keys" "secret" "LLevelledRing$Poly;") (List.mem_cons_of_mem _ t_124)
  have hinK : ∀ w ∈ u_ws "LevelledRing$Keys" T_K 3, w ∈ (w_K_drawHiddenZero) := hin_K _
  have fr0 : ∀ j : Nat, (j ≠ k0 + 1) → (j ≠ k1 + 1) → (j ≠ kd) → u j = u j := fun _ _ _ _ => rfl
  have : k ≠ k0 + 1 := pl_ne f0 f01 (by intro h; cases h)
  have : k ≠ k1 + 1 := pl_ne f0 f11 (by intro h; cases h)
  have : ks ≠ k0 + 1 := pl_ne fs0 f01 (by intro h; cases h)
  have : ks ≠ k1 + 1 := pl_ne fs0 f11 (by intro h; cases h)
  have : k0 ≠ k0 + 1 := pl_ne f00 f01 (by intro h; cases h)
  have : k0 ≠ k1 + 1 := pl_ne f00 f11 (by intro h; cases h)
  have : k1 ≠ k0 + 1 := pl_ne f10 f01 (by intro h; cases h)
  have : k1 ≠ k1 + 1 := pl_ne f10 f11 (by intro h; cases h)
  have : kd ≠ k0 + 1 := pl_ne fd f01 (by intro h; cases h)
  have : kd ≠ k1 + 1 := pl_ne fd f11 (by intro h; cases h)
  have : k ≠ kd := pl_ne f0 fd (by intro h; cases h)
  have : ks ≠ kd := pl_ne fs0 fd (by intro h; cases h)
  have : k0 ≠ kd := pl_ne f00 fd (by intro h; cases h)
  have : k1 ≠ kd := pl_ne f10 fd (by intro h; cases h)
  have : ks + 1 ≠ kd := pl_ne fs1 fd (by intro h; cases h)
  have : k0 + 1 ≠ kd := pl_ne f01 fd (by intro h; cases h)
  have : k1 + 1 ≠ kd := pl_ne f11 fd (by intro h; cases h)
  refine lv_aload_n hx hb d_K_drawHiddenZero_0 rfl (lv_at hl 3 rfl) ?_
  refine lv_aload_n hx hb d_K_drawHiddenZero_1 rfl (lv_at hl 1 rfl) ?_
  refine w_callv (va_runV (As := [.ref (b + kd)]) (rest := []) ⟨hx, hb, hml, hown, hts⟩ (c_drawUniform l D ct st ke b N u k1 0 g1 hk1 f10 f11 kd z0 hkd fd) (cwV 1 hts (gV t_116 t_117 t_118 t_3 t_119) rfl rfl rfl (by decide +kernel) ⟨Nat.le_of_ble_eq_true rfl, Nat.le_of_ble_eq_true rfl⟩) (pre_V E hP hS (k1) (by omega) f10 rfl) rfl rfl hl.1 rfl (lv_room (Nat.le_of_ble_eq_true rfl)) d_K_drawHiddenZero_2 ⟨(Nat.le_of_ble_eq_true rfl), (Nat.le_of_ble_eq_true rfl)⟩) hS (fun z1 H locs hz hP hS => ?_)
  obtain ⟨y1, a1, a2, a3, a4⟩ := hz
  have ff3 : z1 k = .inr (2, [.ref (b + ks), .ref (b + ka), .ref (b + kb)]) := (a4 k (by omega) (by omega)).trans f0
  have ff4 : z1 ks = .inr (3, [.int (iI (0)), .ref (b + (ks + 1))]) := (a4 ks (by omega) (by omega)).trans fs0
  have ff5 : z1 (ks + 1) = ir ct 32 (gs) := (a4 (ks + 1) (by omega) (by omega)).trans fs1
  have ff6 : z1 k0 = .inr (3, [.int (iI (0)), .ref (b + (k0 + 1))]) := (a4 k0 (by omega) (by omega)).trans f00
  have ff7 : z1 (k0 + 1) = ir ct 32 (g0) := (a4 (k0 + 1) (by omega) (by omega)).trans f01
  have ff8 : z1 k1 = .inr (3, [.int (iI (0)), .ref (b + (k1 + 1))]) := (a4 k1 (by omega) (by omega)).trans f10
  have fr9 : ∀ j : Nat, (j ≠ k0 + 1) → (j ≠ k1 + 1) → (j ≠ kd) → z1 j = u j := fun j h0 h1 h2 => (a4 j (by omega) (by omega)).trans (fr0 j h0 h1 h2)
  refine lv_aload_n hx hb d_K_drawHiddenZero_5 rfl (lv_at hl 2 rfl) ?_
  refine lv_aload_n hx hb d_K_drawHiddenZero_6 rfl (lv_at hl 1 rfl) ?_
  refine lv_bipush (v := iI (17)) hx hb d_K_drawHiddenZero_7 (by decide +kernel) ?_
  refine w_callv (va_runV (As := [.ref (b + kd), .int (iI (17))]) (rest := []) ⟨hx, hb, hml, hown, hts⟩ (c_drawSmall l D ct st ke b N z1 k0 0 g0 hk0 ff6 ff7 kd (it 32 z0) hkd a2 17 (Or.inr rfl)) (cwV 2 hts (gV t_86 t_87 t_88 t_3 t_89) rfl rfl rfl (by decide +kernel) ⟨Nat.le_of_ble_eq_true rfl, Nat.le_of_ble_eq_true rfl⟩) (pre_V E hP hS (k0) (by omega) ff6 rfl) rfl rfl hl.1 rfl (lv_room (Nat.le_of_ble_eq_true rfl)) d_K_drawHiddenZero_9 ⟨(Nat.le_of_ble_eq_true rfl), (Nat.le_of_ble_eq_true rfl)⟩) hS (fun z10 H locs hz hP hS => ?_)
  obtain ⟨y0, b1, b2, b3, b4⟩ := hz
  have ff12 : z10 k = .inr (2, [.ref (b + ks), .ref (b + ka), .ref (b + kb)]) := (b4 k (by omega) (by omega)).trans ff3
  have ff13 : z10 ks = .inr (3, [.int (iI (0)), .ref (b + (ks + 1))]) := (b4 ks (by omega) (by omega)).trans ff4
  have ff14 : z10 (ks + 1) = ir ct 32 (gs) := (b4 (ks + 1) (by omega) (by omega)).trans ff5
  have ff15 : z10 k0 = .inr (3, [.int (iI (0)), .ref (b + (k0 + 1))]) := (b4 k0 (by omega) (by omega)).trans ff6
  have ff16 : z10 k1 = .inr (3, [.int (iI (0)), .ref (b + (k1 + 1))]) := (b4 k1 (by omega) (by omega)).trans ff8
  have ff17 : z10 (k1 + 1) = ir ct 32 (y1) := (b4 (k1 + 1) (by omega) (by omega)).trans a1
  have fr18 : ∀ j : Nat, (j ≠ k0 + 1) → (j ≠ k1 + 1) → (j ≠ kd) → z10 j = u j := fun j h0 h1 h2 => (b4 j (by omega) (by omega)).trans (fr9 j h0 h1 h2)
  refine lv_aload_n hx hb d_K_drawHiddenZero_12 rfl (lv_at hl 2 rfl) ?_
  refine lv_iconst (v := iI (-1)) hx hb d_K_drawHiddenZero_13 rfl ?_
  refine lv_aload_n hx hb d_K_drawHiddenZero_14 rfl (lv_at hl 3 rfl) ?_
  refine lv_aload_n hx hb d_K_drawHiddenZero_15 rfl (lv_at hl 0 rfl) ?_
  refine w_get (C := "LevelledRing$Keys") (T := T_K) (M := 3) hx hb hts hinK hown hK hP (k) (by omega) ff12 rfl 0 (by decide) kk0 (fun _ h => h) rfl d_K_drawHiddenZero_16 ?_
  refine lv_iconst (v := iI (3)) hx hb d_K_drawHiddenZero_19 rfl ?_
  refine w_callv (va_runV (As := [.int (iI (-1)), .ref (b + k1), .ref (b + ks), .int (iI (3))]) (rest := []) ⟨hx, hb, hml, hown, hts⟩ (c_addProduct l D ct st ke b N z10 k0 0 32 y0 hk0 (by decide) ff15 b1 3 (by decide) (by decide) (by decide) (Or.inl rfl) k1 32 y1 hk1 (by decide) (by decide) (by omega) ff16 ff17 ks 32 gs hks (by decide) (by decide) (by omega) ff13 ff14 (-1) (Or.inr rfl) (fun i => 17 * sml (it 32 z0) i) (uni z0) S b3 a3 hSr) (cwV 4 hts (gV t_101 t_102 t_103 t_3 t_104) rfl rfl rfl (by decide +kernel) ⟨Nat.le_of_ble_eq_true rfl, Nat.le_of_ble_eq_true rfl⟩) (pre_V E hP hS (k0) (by omega) ff15 rfl) rfl rfl hl.1 rfl (lv_room (Nat.le_of_ble_eq_true rfl)) d_K_drawHiddenZero_20 ⟨(Nat.le_of_ble_eq_true rfl), (Nat.le_of_ble_eq_true rfl)⟩) hS (fun z19 H locs hz hP hS => ?_)
  obtain ⟨y2, c1, c2, c3⟩ := hz
  have ff21 : z19 k = .inr (2, [.ref (b + ks), .ref (b + ka), .ref (b + kb)]) := (c3 k (by omega)).trans ff12
  have ff22 : z19 ks = .inr (3, [.int (iI (0)), .ref (b + (ks + 1))]) := (c3 ks (by omega)).trans ff13
  have ff23 : z19 (ks + 1) = ir ct 32 (gs) := (c3 (ks + 1) (by omega)).trans ff14
  have ff24 : z19 k0 = .inr (3, [.int (iI (0)), .ref (b + (k0 + 1))]) := (c3 k0 (by omega)).trans ff15
  have ff25 : z19 k1 = .inr (3, [.int (iI (0)), .ref (b + (k1 + 1))]) := (c3 k1 (by omega)).trans ff16
  have ff26 : z19 (k1 + 1) = ir ct 32 (y1) := (c3 (k1 + 1) (by omega)).trans ff17
  have ff27 : z19 kd = .inr (0, [.int (it 8 (it 32 z0))]) := (c3 kd (by omega)).trans b2
  have fr28 : ∀ j : Nat, (j ≠ k0 + 1) → (j ≠ k1 + 1) → (j ≠ kd) → z19 j = u j := fun j h0 h1 h2 => (c3 j (by omega)).trans (fr18 j h0 h1 h2)
  exact ret z19 H locs 23 ls ⟨y2, y1, c1, ff26, (it_add z0 32 8) ▸ ff27, c2, a3, fr28⟩ hP hS d_K_drawHiddenZero_23
end
section
abbrev rm_c_K_init : Room := { frames := 3, cells := 22, slots := 348, locals := 77 }
set_option maxHeartbeats 4000000 in
set_option maxRecDepth 100000 in
/-- Keys(drawing) -/
theorem c_K_init (l : Launch) (D : va_G) (ct : Nat → ClassId) (st ke : Nat → Nat) (b : Nat) (u : Nat → va_E) (z0 : Int32) (f0 : u 21 = .inr (2, [.null, .null, .null])) (fd : u 1 = dr z0) : Met l y_K_init (w_K_init) rm_c_K_init (va_Pc [.ref (b + 21), .ref (b + 1)] (fun U => ev D ct st ke b U ∧ U.heap.size = b + 22 ∧ va_P D vwCl (wl 22 b u) U.heap)) (va_Qv (fun z : Nat → va_E => KS ct b z (kyO z0) ∧ (∃ z1, z 1 = dr z1) ∧ ∀ j : Nat, j ≠ 1 → j < 21 → z j = u j) (fun (z : Nat → va_E) t => va_P D vwCl (wl (44) b (z)) t.heap) (AA b)) 22 348 (AA b) := by
  refine M_c (cc := c9_K_init) (maxL := 4) (by decide) rfl (Nat.le_of_ble_eq_true rfl) ?_
  intro p e s m args below meth c Q ls H locs hx hb hml hown hts hnm E hsz hP hS hl ret
  have hl : lv_has ls 4 [(0, .ref (b + 21)), (1, .ref (b + 1))] := hl
  have hK := ev_K E
  have kk0 := hts (.methodLink "LevelledRing$Keys" 3 objectInit) (List.mem_cons_of_mem _ t_82)
  have kk1 := hts (.instanceMethod objectInit) (List.mem_cons_of_mem _ t_19)
  have kk2 := hts (.code objectInit ⟨#[0xb1]⟩ 1 none) (List.mem_cons_of_mem _ t_20)
  have kk3 := hts (.classLink "LevelledRing$Keys" 9 "LevelledRing$Poly") (List.mem_cons_of_mem _ t_83)
  have kk4 := hts (.instantiable "LevelledRing$Poly" 2) (List.mem_cons_of_mem _ t_32)
  have kk5 := hts (.initialized "LevelledRing$Poly") (List.mem_cons_of_mem _ t_3)
  have hinP : ∀ w ∈ u_ws "LevelledRing$Poly" T_P 2, w ∈ (w_K_init) := hin_P _
  have kk7 := hts (.instanceMethod y_P_init) (List.mem_cons_of_mem _ t_34)
  have kk8 := hts (.methodLink "LevelledRing$Keys" 11 y_P_init) (List.mem_cons_of_mem _ t_84)
  have kk9 := hts (.fieldLink "LevelledRing$Keys" 14 "LevelledRing$Keys" "secret" "LLevelledRing$Poly;") (List.mem_cons_of_mem _ t_124)
  have hinK : ∀ w ∈ u_ws "LevelledRing$Keys" T_K 3, w ∈ (w_K_init) := hin_K _
  have kk11 := hts (.fieldLink "LevelledRing$Keys" 20 "LevelledRing$Keys" "a" "[LLevelledRing$Poly;") (List.mem_cons_of_mem _ t_126)
  have kk12 := hts (.fieldLink "LevelledRing$Keys" 24 "LevelledRing$Keys" "b" "[LLevelledRing$Poly;") (List.mem_cons_of_mem _ t_128)
  have fr0 : ∀ j : Nat, (j ≠ 1) → (j < 21) → u j = u j := fun _ _ _ => rfl
  refine lv_aload_n hx hb d_K_init_0 rfl (lv_at hl 0 rfl) ?_
  refine W.objInit hx hb hown kk0 kk1 kk2 rfl (by rw [hml]; exact hl.1) rfl d_K_init_1 (Nat.le_of_ble_eq_true rfl) (Nat.le_of_ble_eq_true rfl) ?_
  refine W.eq (g2 := F0 m 4 ls []) rfl ?_
  refine lv_aload_n hx hb d_K_init_4 rfl (lv_at hl 0 rfl) ?_
  refine w_new (C := "LevelledRing$Poly") (T := T_P) (M := 2) (ci := 3) (fs := [.int (iI (0)), .null]) hx hb hts hinP ty_P tyok_P hown kk3 kk4 kk5 hK hP hS (ev_b E) (by omega) rfl (fun j hj => by rcases (show j = 0 ∨ j = 1 by omega) with rfl | rfl <;> rfl) (Nat.le_of_ble_eq_true rfl) (Nat.le_of_ble_eq_true rfl) d_K_init_5 (fun H hP hS => ?_)
  obtain ⟨u1, hu2, hP⟩ : ∃ zz : Nat → va_E, zz = va_up u 22 (.inr (3, [.int (iI (0)), .null])) ∧ va_P D vwCl (wl 23 b zz) H := ⟨_, rfl, hP⟩
  have ff3 : u1 21 = .inr (2, [.null, .null, .null]) := (congrFun hu2 _).trans ((up_n (by omega)).trans f0)
  have ff4 : u1 1 = .inr (0, [.int (z0)]) := (congrFun hu2 _).trans ((up_n (by omega)).trans fd)
  have ff5 : u1 22 = .inr (3, [.int (iI (0)), .null]) := (congrFun hu2 _).trans up_s
  have fr6 : ∀ j : Nat, (j ≠ 1) → (j < 21) → u1 j = u j := fun j h0 h1 => (congrFun hu2 j).trans ((up_n (by omega)).trans (fr0 j h0 h1))
  refine lv_dup hx hb d_K_init_8 rfl ?_
  refine lv_iconst (v := iI (0)) hx hb d_K_init_9 rfl ?_
  refine w_sz hP (by omega) (by omega) (fun hHs => ?_)
  refine w_callv (va_runI (As := [.int (iI (0))]) (rest := [.ref (b + 22), .ref (b + 21)]) ⟨hx, hb, hml, hown, hts⟩ (c_P_init l D ct st ke b u1 (22) 32 0 (Or.inr ⟨rfl, rfl⟩) ff5) (cwI 1 hts (gC t_35) rfl rfl rfl kk5 kk8 kk7 rfl (by decide +kernel) ⟨Nat.le_of_ble_eq_true rfl, Nat.le_of_ble_eq_true rfl⟩) (pre_C E hP hS hHs) rfl rfl hl.1 rfl (lv_room (Nat.le_of_ble_eq_true rfl)) d_K_init_10 ⟨(Nat.le_of_ble_eq_true rfl), (Nat.le_of_ble_eq_true rfl)⟩) hS (fun z7 H locs hz hP hS => ?_)
  obtain ⟨hq9, hq10, hzf11⟩ := hz
  have ff12 : z7 21 = .inr (2, [.null, .null, .null]) := (hzf11 21 (by omega) (by omega)).trans ff3
  have ff13 : z7 1 = .inr (0, [.int (z0)]) := (hzf11 1 (by omega) (by omega)).trans ff4
  have fr14 : ∀ j : Nat, (j ≠ 1) → (j < 21) → z7 j = u j := fun j h0 h1 => (hzf11 j (by omega) (by omega)).trans (fr6 j h0 h1)
  refine w_putF (C := "LevelledRing$Keys") (T := T_K) (M := 3) (ty := (.object "LevelledRing$Poly")) (v := .ref (b + 22)) hx hb hts hinK ty_K tyok_K nm_K hown hK hP hS (21) (by omega) ff12 rfl 0 (by decide) kk9 (fun _ h => h) rfl hnm rfl (by decide +kernel) rfl rfl (Nat.le_of_ble_eq_true rfl) d_K_init_13 (fun H locs hP hS => ?_)
  obtain ⟨u15, hu16, hP⟩ : ∃ zz : Nat → va_E, zz = va_up z7 21 (.inr (2, [.ref (b + 22), .null, .null])) ∧ va_P D vwCl (wl 24 b zz) H := ⟨_, rfl, hP⟩
  have ff17 : u15 21 = .inr (2, [.ref (b + 22), .null, .null]) := (congrFun hu16 _).trans up_s
  have ff18 : u15 1 = .inr (0, [.int (z0)]) := (congrFun hu16 _).trans ((up_n (by omega)).trans ff13)
  have ff19 : u15 22 = .inr (3, [.int (iI (0)), .ref (b + 23)]) := (congrFun hu16 _).trans ((up_n (by omega)).trans hq9)
  have ff20 : u15 23 = ir ct 32 (fun _ => 0) := (congrFun hu16 _).trans ((up_n (by omega)).trans hq10)
  have fr21 : ∀ j : Nat, (j ≠ 1) → (j < 21) → u15 j = u j := fun j h0 h1 => (congrFun hu16 j).trans ((up_n (by omega)).trans (fr14 j h0 h1))
  refine lv_aload_n hx hb d_K_init_16 rfl (lv_at hl 0 rfl) ?_
  refine lv_iconst (v := iI (4)) hx hb d_K_init_17 rfl ?_
  refine w_newq (n := 4) hx hb hown kk3 (ev_AP E) 4 rfl hK hP hS (ev_b E) (by omega) (by decide) (Nat.le_of_ble_eq_true rfl) (Nat.le_of_ble_eq_true rfl) d_K_init_18 (fun H hP hS => ?_)
  obtain ⟨u22, hu23, hP⟩ : ∃ zz : Nat → va_E, zz = va_up u15 24 (qr ct 4 4 (fun _ => none)) ∧ va_P D vwCl (wl 25 b zz) H := ⟨_, rfl, hP⟩
  have ff24 : u22 21 = .inr (2, [.ref (b + 22), .null, .null]) := (congrFun hu23 _).trans ((up_n (by omega)).trans ff17)
  have ff25 : u22 1 = .inr (0, [.int (z0)]) := (congrFun hu23 _).trans ((up_n (by omega)).trans ff18)
  have ff26 : u22 22 = .inr (3, [.int (iI (0)), .ref (b + 23)]) := (congrFun hu23 _).trans ((up_n (by omega)).trans ff19)
  have ff27 : u22 23 = ir ct 32 (fun _ => 0) := (congrFun hu23 _).trans ((up_n (by omega)).trans ff20)
  have ff28 : u22 24 = qr ct 4 4 (fun _ => none) := (congrFun hu23 _).trans up_s
  have fr29 : ∀ j : Nat, (j ≠ 1) → (j < 21) → u22 j = u j := fun j h0 h1 => (congrFun hu23 j).trans ((up_n (by omega)).trans (fr21 j h0 h1))
  refine w_putF (C := "LevelledRing$Keys") (T := T_K) (M := 3) (ty := (.array (.object "LevelledRing$Poly"))) (v := .ref (b + 24)) hx hb hts hinK ty_K tyok_K nm_K hown hK hP hS (21) (by omega) ff24 rfl 1 (by decide) kk11 (fun _ h => h) rfl hnm rfl (by decide +kernel) rfl rfl (Nat.le_of_ble_eq_true rfl) d_K_init_21 (fun H locs hP hS => ?_)
  obtain ⟨u30, hu31, hP⟩ : ∃ zz : Nat → va_E, zz = va_up u22 21 (.inr (2, [.ref (b + 22), .ref (b + 24), .null])) ∧ va_P D vwCl (wl 25 b zz) H := ⟨_, rfl, hP⟩
  have ff32 : u30 21 = .inr (2, [.ref (b + 22), .ref (b + 24), .null]) := (congrFun hu31 _).trans up_s
  have ff33 : u30 1 = .inr (0, [.int (z0)]) := (congrFun hu31 _).trans ((up_n (by omega)).trans ff25)
  have ff34 : u30 22 = .inr (3, [.int (iI (0)), .ref (b + 23)]) := (congrFun hu31 _).trans ((up_n (by omega)).trans ff26)
  have ff35 : u30 23 = ir ct 32 (fun _ => 0) := (congrFun hu31 _).trans ((up_n (by omega)).trans ff27)
  have ff36 : u30 24 = qr ct 4 4 (fun _ => none) := (congrFun hu31 _).trans ((up_n (by omega)).trans ff28)
  have fr37 : ∀ j : Nat, (j ≠ 1) → (j < 21) → u30 j = u j := fun j h0 h1 => (congrFun hu31 j).trans ((up_n (by omega)).trans (fr29 j h0 h1))
  refine lv_aload_n hx hb d_K_init_24 rfl (lv_at hl 0 rfl) ?_
  refine lv_iconst (v := iI (4)) hx hb d_K_init_25 rfl ?_
  refine w_newq (n := 4) hx hb hown kk3 (ev_AP E) 4 rfl hK hP hS (ev_b E) (by omega) (by decide) (Nat.le_of_ble_eq_true rfl) (Nat.le_of_ble_eq_true rfl) d_K_init_26 (fun H hP hS => ?_)
  obtain ⟨u38, hu39, hP⟩ : ∃ zz : Nat → va_E, zz = va_up u30 25 (qr ct 4 4 (fun _ => none)) ∧ va_P D vwCl (wl 26 b zz) H := ⟨_, rfl, hP⟩
  have ff40 : u38 21 = .inr (2, [.ref (b + 22), .ref (b + 24), .null]) := (congrFun hu39 _).trans ((up_n (by omega)).trans ff32)
  have ff41 : u38 1 = .inr (0, [.int (z0)]) := (congrFun hu39 _).trans ((up_n (by omega)).trans ff33)
  have ff42 : u38 22 = .inr (3, [.int (iI (0)), .ref (b + 23)]) := (congrFun hu39 _).trans ((up_n (by omega)).trans ff34)
  have ff43 : u38 23 = ir ct 32 (fun _ => 0) := (congrFun hu39 _).trans ((up_n (by omega)).trans ff35)
  have ff44 : u38 24 = qr ct 4 4 (fun _ => none) := (congrFun hu39 _).trans ((up_n (by omega)).trans ff36)
  have ff45 : u38 25 = qr ct 4 4 (fun _ => none) := (congrFun hu39 _).trans up_s
  have fr46 : ∀ j : Nat, (j ≠ 1) → (j < 21) → u38 j = u j := fun j h0 h1 => (congrFun hu39 j).trans ((up_n (by omega)).trans (fr37 j h0 h1))
  refine w_putF (C := "LevelledRing$Keys") (T := T_K) (M := 3) (ty := (.array (.object "LevelledRing$Poly"))) (v := .ref (b + 25)) hx hb hts hinK ty_K tyok_K nm_K hown hK hP hS (21) (by omega) ff40 rfl 2 (by decide) kk12 (fun _ h => h) rfl hnm rfl (by decide +kernel) rfl rfl (Nat.le_of_ble_eq_true rfl) d_K_init_29 (fun H locs hP hS => ?_)
  obtain ⟨u47, hu48, hP⟩ : ∃ zz : Nat → va_E, zz = va_up u38 21 (.inr (2, [.ref (b + 22), .ref (b + 24), .ref (b + 25)])) ∧ va_P D vwCl (wl 26 b zz) H := ⟨_, rfl, hP⟩
  have ff49 : u47 21 = .inr (2, [.ref (b + 22), .ref (b + 24), .ref (b + 25)]) := (congrFun hu48 _).trans up_s
  have ff50 : u47 1 = .inr (0, [.int (z0)]) := (congrFun hu48 _).trans ((up_n (by omega)).trans ff41)
  have ff51 : u47 22 = .inr (3, [.int (iI (0)), .ref (b + 23)]) := (congrFun hu48 _).trans ((up_n (by omega)).trans ff42)
  have ff52 : u47 23 = ir ct 32 (fun _ => 0) := (congrFun hu48 _).trans ((up_n (by omega)).trans ff43)
  have ff53 : u47 24 = qr ct 4 4 (fun _ => none) := (congrFun hu48 _).trans ((up_n (by omega)).trans ff44)
  have ff54 : u47 25 = qr ct 4 4 (fun _ => none) := (congrFun hu48 _).trans ((up_n (by omega)).trans ff45)
  have fr55 : ∀ j : Nat, (j ≠ 1) → (j < 21) → u47 j = u j := fun j h0 h1 => (congrFun hu48 j).trans ((up_n (by omega)).trans (fr46 j h0 h1))
  refine lv_aload_n hx hb d_K_init_32 rfl (lv_at hl 0 rfl) ?_
  refine w_get (C := "LevelledRing$Keys") (T := T_K) (M := 3) hx hb hts hinK hown hK hP (21) (by omega) ff49 rfl 0 (by decide) kk9 (fun _ h => h) rfl d_K_init_33 ?_
  refine lv_aload_n hx hb d_K_init_36 rfl (lv_at hl 1 rfl) ?_
  refine lv_iconst (v := iI (1)) hx hb d_K_init_37 rfl ?_
  refine w_callv (va_runV (As := [.ref (b + 1), .int (iI (1))]) (rest := []) ⟨hx, hb, hml, hown, hts⟩ (c_drawSmall l D ct st ke b 26 u47 22 0 (fun _ => 0) (by decide) ff51 ff52 1 z0 (by decide) ff50 1 (Or.inl rfl)) (cwV 2 hts (gV t_86 t_87 t_88 t_3 t_89) rfl rfl rfl (by decide +kernel) ⟨Nat.le_of_ble_eq_true rfl, Nat.le_of_ble_eq_true rfl⟩) (pre_V E hP hS (22) (by omega) ff51 rfl) rfl rfl hl.1 rfl (lv_room (Nat.le_of_ble_eq_true rfl)) d_K_init_38 ⟨(Nat.le_of_ble_eq_true rfl), (Nat.le_of_ble_eq_true rfl)⟩) hS (fun z56 H locs hz hP hS => ?_)
  obtain ⟨gs, a1, a2, a3, a4⟩ := hz
  have ff58 : z56 21 = .inr (2, [.ref (b + 22), .ref (b + 24), .ref (b + 25)]) := (a4 21 (by omega) (by omega)).trans ff49
  have ff59 : z56 22 = .inr (3, [.int (iI (0)), .ref (b + 23)]) := (a4 22 (by omega) (by omega)).trans ff51
  have ff60 : z56 24 = qr ct 4 4 (fun _ => none) := (a4 24 (by omega) (by omega)).trans ff53
  have ff61 : z56 25 = qr ct 4 4 (fun _ => none) := (a4 25 (by omega) (by omega)).trans ff54
  have fr62 : ∀ j : Nat, (j ≠ 1) → (j < 21) → z56 j = u j := fun j h0 h1 => (a4 j (by omega) (by omega)).trans (fr55 j h0 h1)
  have hS3 : Rep gs 0 3 (sml z0) := a3.cg fun k i _ _ _ _ => by rw [Int.one_mul]; exact cg_r
  refine w_new (C := "LevelledRing$Poly") (T := T_P) (M := 2) (ci := 3) (fs := [.int (iI (0)), .null]) hx hb hts hinP ty_P tyok_P hown kk3 kk4 kk5 hK hP hS (ev_b E) (by omega) rfl (fun j hj => by rcases (show j = 0 ∨ j = 1 by omega) with rfl | rfl <;> rfl) (Nat.le_of_ble_eq_true rfl) (Nat.le_of_ble_eq_true rfl) d_K_init_41 (fun H hP hS => ?_)
  obtain ⟨u63, hu64, hP⟩ : ∃ zz : Nat → va_E, zz = va_up z56 26 (.inr (3, [.int (iI (0)), .null])) ∧ va_P D vwCl (wl 27 b zz) H := ⟨_, rfl, hP⟩
  have ff65 : u63 21 = .inr (2, [.ref (b + 22), .ref (b + 24), .ref (b + 25)]) := (congrFun hu64 _).trans ((up_n (by omega)).trans ff58)
  have ff66 : u63 22 = .inr (3, [.int (iI (0)), .ref (b + 23)]) := (congrFun hu64 _).trans ((up_n (by omega)).trans ff59)
  have ff67 : u63 24 = qr ct 4 4 (fun _ => none) := (congrFun hu64 _).trans ((up_n (by omega)).trans ff60)
  have ff68 : u63 25 = qr ct 4 4 (fun _ => none) := (congrFun hu64 _).trans ((up_n (by omega)).trans ff61)
  have ff69 : u63 23 = ir ct 32 (gs) := (congrFun hu64 _).trans ((up_n (by omega)).trans a1)
  have ff70 : u63 1 = .inr (0, [.int (it 8 z0)]) := (congrFun hu64 _).trans ((up_n (by omega)).trans a2)
  have ff71 : u63 26 = .inr (3, [.int (iI (0)), .null]) := (congrFun hu64 _).trans up_s
  have fr72 : ∀ j : Nat, (j ≠ 1) → (j < 21) → u63 j = u j := fun j h0 h1 => (congrFun hu64 j).trans ((up_n (by omega)).trans (fr62 j h0 h1))
  refine lv_dup hx hb d_K_init_44 rfl ?_
  refine lv_iconst (v := iI (0)) hx hb d_K_init_45 rfl ?_
  refine w_sz hP (by omega) (by omega) (fun hHs => ?_)
  refine w_callv (va_runI (As := [.int (iI (0))]) (rest := [.ref (b + 26)]) ⟨hx, hb, hml, hown, hts⟩ (c_P_init l D ct st ke b u63 (26) 32 0 (Or.inr ⟨rfl, rfl⟩) ff71) (cwI 1 hts (gC t_35) rfl rfl rfl kk5 kk8 kk7 rfl (by decide +kernel) ⟨Nat.le_of_ble_eq_true rfl, Nat.le_of_ble_eq_true rfl⟩) (pre_C E hP hS hHs) rfl rfl hl.1 rfl (lv_room (Nat.le_of_ble_eq_true rfl)) d_K_init_46 ⟨(Nat.le_of_ble_eq_true rfl), (Nat.le_of_ble_eq_true rfl)⟩) hS (fun z73 H locs hz hP hS => ?_)
  obtain ⟨hq75, hq76, hzf77⟩ := hz
  have ff78 : z73 21 = .inr (2, [.ref (b + 22), .ref (b + 24), .ref (b + 25)]) := (hzf77 21 (by omega) (by omega)).trans ff65
  have ff79 : z73 22 = .inr (3, [.int (iI (0)), .ref (b + 23)]) := (hzf77 22 (by omega) (by omega)).trans ff66
  have ff80 : z73 24 = qr ct 4 4 (fun _ => none) := (hzf77 24 (by omega) (by omega)).trans ff67
  have ff81 : z73 25 = qr ct 4 4 (fun _ => none) := (hzf77 25 (by omega) (by omega)).trans ff68
  have ff82 : z73 23 = ir ct 32 (gs) := (hzf77 23 (by omega) (by omega)).trans ff69
  have ff83 : z73 1 = .inr (0, [.int (it 8 z0)]) := (hzf77 1 (by omega) (by omega)).trans ff70
  have fr84 : ∀ j : Nat, (j ≠ 1) → (j < 21) → z73 j = u j := fun j h0 h1 => (hzf77 j (by omega) (by omega)).trans (fr72 j h0 h1)
  refine lv_astore_n (lv' := [(2, .ref (b + 26)), (0, .ref (b + 21)), (1, .ref (b + 1))]) hx hb d_K_init_49 rfl hl (by decide) rfl (fun ls hl => ?_)
  refine lv_aload_n hx hb d_K_init_50 rfl (lv_at hl 0 rfl) ?_
  refine lv_iconst (v := iI (1)) hx hb d_K_init_51 rfl ?_
  refine lv_aload_n hx hb d_K_init_52 rfl (lv_at hl 1 rfl) ?_
  refine w_get (C := "LevelledRing$Keys") (T := T_K) (M := 3) hx hb hts hinK hown hK hP (21) (by omega) ff78 rfl 0 (by decide) kk9 (fun _ h => h) rfl d_K_init_53 ?_
  refine lv_aload_n hx hb d_K_init_56 rfl (lv_at hl 1 rfl) ?_
  refine w_get (C := "LevelledRing$Keys") (T := T_K) (M := 3) hx hb hts hinK hown hK hP (21) (by omega) ff78 rfl 0 (by decide) kk9 (fun _ h => h) rfl d_K_init_57 ?_
  refine lv_iconst (v := iI (3)) hx hb d_K_init_60 rfl ?_
  refine w_callv (va_runV (As := [.int (iI (1)), .ref (b + 22), .ref (b + 22), .int (iI (3))]) (rest := []) ⟨hx, hb, hml, hown, hts⟩ (c_addProduct l D ct st ke b 28 z73 26 0 32 (fun _ => 0) (by decide) (by decide) hq75 hq76 3 (by decide) (by decide) (by decide) (Or.inl rfl) 22 32 gs (by decide) (by decide) (by decide) (by decide) ff79 ff82 22 32 gs (by decide) (by decide) (by decide) (by decide) ff79 ff82 1 (Or.inl rfl) (fun _ => 0) (sml z0) (sml z0) (Rep.zero fun _ _ _ => rfl) hS3 hS3) (cwV 4 hts (gV t_101 t_102 t_103 t_3 t_104) rfl rfl rfl (by decide +kernel) ⟨Nat.le_of_ble_eq_true rfl, Nat.le_of_ble_eq_true rfl⟩) (pre_V E hP hS (26) (by omega) hq75 rfl) rfl rfl hl.1 rfl (lv_room (Nat.le_of_ble_eq_true rfl)) d_K_init_61 ⟨(Nat.le_of_ble_eq_true rfl), (Nat.le_of_ble_eq_true rfl)⟩) hS (fun z85 H locs hz hP hS => ?_)
  obtain ⟨gq, b1, b2, b3⟩ := hz
  have ff87 : z85 21 = .inr (2, [.ref (b + 22), .ref (b + 24), .ref (b + 25)]) := (b3 21 (by omega)).trans ff78
  have ff88 : z85 22 = .inr (3, [.int (iI (0)), .ref (b + 23)]) := (b3 22 (by omega)).trans ff79
  have ff89 : z85 24 = qr ct 4 4 (fun _ => none) := (b3 24 (by omega)).trans ff80
  have ff90 : z85 25 = qr ct 4 4 (fun _ => none) := (b3 25 (by omega)).trans ff81
  have ff91 : z85 23 = ir ct 32 (gs) := (b3 23 (by omega)).trans ff82
  have ff92 : z85 1 = .inr (0, [.int (it 8 z0)]) := (b3 1 (by omega)).trans ff83
  have ff93 : z85 26 = .inr (3, [.int (iI (0)), .ref (b + 27)]) := (b3 26 (by omega)).trans hq75
  have fr94 : ∀ j : Nat, (j ≠ 1) → (j < 21) → z85 j = u j := fun j h0 h1 => (b3 j (by omega)).trans (fr84 j h0 h1)
  have hQ3 : Rep gq 0 3 (nc (sml z0) (sml z0)) := b2.cg fun k i _ _ _ _ => by rw [Int.one_mul, Int.zero_add]; exact cg_r
  refine lv_iconst (v := iI (0)) hx hb d_K_init_64 rfl ?_
  refine lv_istore_n (lv' := [(3, .int (iI (0))), (2, .ref (b + 26)), (0, .ref (b + 21)), (1, .ref (b + 1))]) hx hb d_K_init_65 rfl hl (by decide) rfl (fun ls hl => ?_)
  have fr95 : ∀ j : Nat, (j ≠ 1) → (j ≠ 24) → (j ≠ 25) → (j < 28) → z85 j = z85 j := fun _ _ _ _ _ => rfl
  have lo : ∀ (d : Nat) (jn : Nat) (fa : Nat → Option Nat) (fb : Nat → Option Nat) (w96 : Nat → va_E) (H : Heap) (locs : List Loc) (ls : Array Slot), (jn ≤ 4) → (4 - jn < d) → (∀ i : Nat, i < jn → fa i = some (b + (28 + 4 * i))) → (∀ i : Nat, i < jn → fb i = some (b + (30 + 4 * i))) → (∀ i : Nat, i < jn → PV ct b w96 (28 + 4 * i) 3 ((kyO z0).2.1 i) ∧ PV ct b w96 (30 + 4 * i) 3 ((kyO z0).2.2 i)) → w96 1 = .inr (0, [.int (it (8 + 40 * jn) z0)]) → w96 24 = qr ct 4 4 (fa) → w96 25 = qr ct 4 4 (fb) → (∀ j : Nat, (j ≠ 1) → (j ≠ 24) → (j ≠ 25) → (j < 28) → w96 j = z85 j) → va_P D vwCl (wl (28 + 4 * jn) b w96) H → va_S (AA b) s.heap H locs → lv_has ls 4 [(3, .int (iI ((jn : Int)))), (2, .ref (b + 26)), (0, .ref (b + 21)), (1, .ref (b + 1))] → W p l e rm_c_K_init s m args below meth c H locs (6 + 4 * jn) (76 + 68 * jn) Q (F0 m 66 ls []) := by
    intro d
    induction d with
    | zero => intro jn fa fb w96 H locs ls hj hd hfa hfb hA fg97 fg98 fg99 fr100 hP hS hl; exfalso; omega
    | succ d ihlo =>
      intro jn fa fb w96 H locs ls hj hd hfa hfb hA fg97 fg98 fg99 fr100 hP hS hl
      have ff101 : w96 21 = .inr (2, [.ref (b + 22), .ref (b + 24), .ref (b + 25)]) := (fr100 21 (by omega) (by omega) (by omega) (by omega)).trans ff87
      have ff102 : w96 22 = .inr (3, [.int (iI (0)), .ref (b + 23)]) := (fr100 22 (by omega) (by omega) (by omega) (by omega)).trans ff88
      have ff103 : w96 23 = ir ct 32 (gs) := (fr100 23 (by omega) (by omega) (by omega) (by omega)).trans ff91
      have ff104 : w96 26 = .inr (3, [.int (iI (0)), .ref (b + 27)]) := (fr100 26 (by omega) (by omega) (by omega) (by omega)).trans ff93
      have ff105 : w96 27 = ir ct 32 (gq) := (fr100 27 (by omega) (by omega) (by omega) (by omega)).trans b1
      refine lv_iload_n hx hb d_K_init_66 rfl (lv_at hl 0 rfl) ?_
      refine lv_iconst (v := iI (4)) hx hb d_K_init_67 rfl ?_
      refine x_icmp_ge (tgt := 133) hx hb ⟨by omega, by omega⟩ ⟨by omega, by omega⟩ d_K_init_68 (by decide) (fun hc => ?_) (fun hc => ?_)
      · obtain rfl : jn = 4 := by omega
        refine W.widen (k := 22) (n := 348) (by decide) (by decide) ?_
        exact ret w96 H locs 133 ls ⟨⟨ff101, ⟨ff102, gs, ff103, hS3⟩, ⟨fa, fg98, hfa⟩, ⟨fb, fg99, hfb⟩, hA⟩, ⟨_, fg97⟩, fun j h1 h2 => (fr100 j (by omega) (by omega) (by omega) (by omega)).trans (fr94 j (by omega) (by omega))⟩ hP hS d_K_init_133
      · have xf106 : ∀ j : Nat, (28 ≤ j) → (j < 28 + 4 * jn) → w96 j = w96 j := fun _ _ _ => rfl
        refine lv_aload_n hx hb d_K_init_71 rfl (lv_at hl 2 rfl) ?_
        refine w_get (C := "LevelledRing$Keys") (T := T_K) (M := 3) hx hb hts hinK hown hK hP (21) (by omega) ff101 rfl 1 (by decide) kk11 (fun _ h => h) rfl d_K_init_72 ?_
        refine lv_iload_n hx hb d_K_init_75 rfl (lv_at hl 0 rfl) ?_
        refine w_new (C := "LevelledRing$Poly") (T := T_P) (M := 2) (ci := 3) (fs := [.int (iI (0)), .null]) hx hb hts hinP ty_P tyok_P hown kk3 kk4 kk5 hK hP hS (ev_b E) (by omega) rfl (fun j hj => by rcases (show j = 0 ∨ j = 1 by omega) with rfl | rfl <;> rfl) (by show _ ≤ (22 : Nat); omega) (by show _ ≤ (348 : Nat); omega) d_K_init_76 (fun H hP hS => ?_)
        obtain ⟨u107, hu108, hP⟩ : ∃ zz : Nat → va_E, zz = va_up w96 (28 + 4 * jn) (.inr (3, [.int (iI (0)), .null])) ∧ va_P D vwCl (wl (28 + 4 * jn + 1) b zz) H := ⟨_, rfl, hP⟩
        have ff109 : u107 21 = .inr (2, [.ref (b + 22), .ref (b + 24), .ref (b + 25)]) := (congrFun hu108 _).trans ((up_n (by omega)).trans ff101)
        have ff110 : u107 22 = .inr (3, [.int (iI (0)), .ref (b + 23)]) := (congrFun hu108 _).trans ((up_n (by omega)).trans ff102)
        have ff111 : u107 23 = ir ct 32 (gs) := (congrFun hu108 _).trans ((up_n (by omega)).trans ff103)
        have ff112 : u107 26 = .inr (3, [.int (iI (0)), .ref (b + 27)]) := (congrFun hu108 _).trans ((up_n (by omega)).trans ff104)
        have ff113 : u107 27 = ir ct 32 (gq) := (congrFun hu108 _).trans ((up_n (by omega)).trans ff105)
        have ff114 : u107 1 = .inr (0, [.int (it (8 + 40 * jn) z0)]) := (congrFun hu108 _).trans ((up_n (by omega)).trans fg97)
        have ff115 : u107 24 = qr ct 4 4 (fa) := (congrFun hu108 _).trans ((up_n (by omega)).trans fg98)
        have ff116 : u107 25 = qr ct 4 4 (fb) := (congrFun hu108 _).trans ((up_n (by omega)).trans fg99)
        have ff117 : u107 (28 + 4 * jn) = .inr (3, [.int (iI (0)), .null]) := (congrFun hu108 _).trans up_s
        have fr118 : ∀ j : Nat, (j ≠ 1) → (j ≠ 24) → (j ≠ 25) → (j < 28) → u107 j = z85 j := fun j h0 h1 h2 h3 => (congrFun hu108 j).trans ((up_n (by omega)).trans (fr100 j h0 h1 h2 h3))
        have xf119 : ∀ j : Nat, (28 ≤ j) → (j < 28 + 4 * jn) → u107 j = w96 j := fun j h0 h1 => (congrFun hu108 j).trans ((up_n (by omega)).trans (xf106 j h0 h1))
        refine lv_dup hx hb d_K_init_79 rfl ?_
        refine lv_iconst (v := iI (0)) hx hb d_K_init_80 rfl ?_
        refine w_sz hP (by omega) (by omega) (fun hHs => ?_)
        refine w_callv (va_runI (As := [.int (iI (0))]) (rest := [.ref (b + (28 + 4 * jn)), .int (iI ((jn : Int))), .ref (b + 24)]) ⟨hx, hb, hml, hown, hts⟩ (c_P_init l D ct st ke b u107 (28 + 4 * jn) 32 0 (Or.inr ⟨rfl, rfl⟩) ff117) (cwI 1 hts (gC t_35) rfl rfl rfl kk5 kk8 kk7 rfl (by decide +kernel) ⟨Nat.le_of_ble_eq_true rfl, Nat.le_of_ble_eq_true rfl⟩) (pre_C E hP hS hHs) rfl rfl hl.1 rfl (lv_room (Nat.le_of_ble_eq_true rfl)) d_K_init_81 ⟨(by show _ ≤ (22 : Nat); omega), (by show _ ≤ (348 : Nat); omega)⟩) hS (fun z120 H locs hz hP hS => ?_)
        obtain ⟨hq122, hq123, hzf124⟩ := hz
        have ff125 : z120 21 = .inr (2, [.ref (b + 22), .ref (b + 24), .ref (b + 25)]) := (hzf124 21 (by omega) (by omega)).trans ff109
        have ff126 : z120 22 = .inr (3, [.int (iI (0)), .ref (b + 23)]) := (hzf124 22 (by omega) (by omega)).trans ff110
        have ff127 : z120 23 = ir ct 32 (gs) := (hzf124 23 (by omega) (by omega)).trans ff111
        have ff128 : z120 26 = .inr (3, [.int (iI (0)), .ref (b + 27)]) := (hzf124 26 (by omega) (by omega)).trans ff112
        have ff129 : z120 27 = ir ct 32 (gq) := (hzf124 27 (by omega) (by omega)).trans ff113
        have ff130 : z120 1 = .inr (0, [.int (it (8 + 40 * jn) z0)]) := (hzf124 1 (by omega) (by omega)).trans ff114
        have ff131 : z120 24 = qr ct 4 4 (fa) := (hzf124 24 (by omega) (by omega)).trans ff115
        have ff132 : z120 25 = qr ct 4 4 (fb) := (hzf124 25 (by omega) (by omega)).trans ff116
        have fr133 : ∀ j : Nat, (j ≠ 1) → (j ≠ 24) → (j ≠ 25) → (j < 28) → z120 j = z85 j := fun j h0 h1 h2 h3 => (hzf124 j (by omega) (by omega)).trans (fr118 j h0 h1 h2 h3)
        have xf134 : ∀ j : Nat, (28 ≤ j) → (j < 28 + 4 * jn) → z120 j = w96 j := fun j h0 h1 => (hzf124 j (by omega) (by omega)).trans (xf119 j h0 h1)
        refine w_aast (C := ("LevelledRing$Poly", T_P, 2)) hx hb hK hP hS (24) (by omega) 4 (28 + 4 * jn) 3 (by omega) ff131 rfl hq122 rfl (by omega) (by omega) (by decide) d_K_init_84 (fun H locs hP hS => ?_)
        obtain ⟨u135, hu136, hP⟩ : ∃ zz : Nat → va_E, zz = va_up z120 24 (qr ct 4 4 (va_up (fa) ((jn : Int)).toNat (some (b + (28 + 4 * jn))))) ∧ va_P D vwCl (wl (28 + 4 * jn + 2) b zz) H := ⟨_, rfl, hP⟩
        have ff137 : u135 21 = .inr (2, [.ref (b + 22), .ref (b + 24), .ref (b + 25)]) := (congrFun hu136 _).trans ((up_n (by omega)).trans ff125)
        have ff138 : u135 22 = .inr (3, [.int (iI (0)), .ref (b + 23)]) := (congrFun hu136 _).trans ((up_n (by omega)).trans ff126)
        have ff139 : u135 23 = ir ct 32 (gs) := (congrFun hu136 _).trans ((up_n (by omega)).trans ff127)
        have ff140 : u135 26 = .inr (3, [.int (iI (0)), .ref (b + 27)]) := (congrFun hu136 _).trans ((up_n (by omega)).trans ff128)
        have ff141 : u135 27 = ir ct 32 (gq) := (congrFun hu136 _).trans ((up_n (by omega)).trans ff129)
        have ff142 : u135 1 = .inr (0, [.int (it (8 + 40 * jn) z0)]) := (congrFun hu136 _).trans ((up_n (by omega)).trans ff130)
        have ff143 : u135 24 = qr ct 4 4 (va_up (fa) ((jn : Int)).toNat (some (b + (28 + 4 * jn)))) := (congrFun hu136 _).trans up_s
        have ff144 : u135 25 = qr ct 4 4 (fb) := (congrFun hu136 _).trans ((up_n (by omega)).trans ff132)
        have ff145 : u135 (28 + 4 * jn) = .inr (3, [.int (iI (0)), .ref (b + (28 + 4 * jn + 1))]) := (congrFun hu136 _).trans ((up_n (by omega)).trans hq122)
        have ff146 : u135 (28 + 4 * jn + 1) = ir ct 32 (fun _ => 0) := (congrFun hu136 _).trans ((up_n (by omega)).trans hq123)
        have fr147 : ∀ j : Nat, (j ≠ 1) → (j ≠ 24) → (j ≠ 25) → (j < 28) → u135 j = z85 j := fun j h0 h1 h2 h3 => (congrFun hu136 j).trans ((up_n (by omega)).trans (fr133 j h0 h1 h2 h3))
        have xf148 : ∀ j : Nat, (28 ≤ j) → (j < 28 + 4 * jn) → u135 j = w96 j := fun j h0 h1 => (congrFun hu136 j).trans ((up_n (by omega)).trans (xf134 j h0 h1))
        refine lv_aload_n hx hb d_K_init_85 rfl (lv_at hl 2 rfl) ?_
        refine w_get (C := "LevelledRing$Keys") (T := T_K) (M := 3) hx hb hts hinK hown hK hP (21) (by omega) ff137 rfl 2 (by decide) kk12 (fun _ h => h) rfl d_K_init_86 ?_
        refine lv_iload_n hx hb d_K_init_89 rfl (lv_at hl 0 rfl) ?_
        refine w_new (C := "LevelledRing$Poly") (T := T_P) (M := 2) (ci := 3) (fs := [.int (iI (0)), .null]) hx hb hts hinP ty_P tyok_P hown kk3 kk4 kk5 hK hP hS (ev_b E) (by omega) rfl (fun j hj => by rcases (show j = 0 ∨ j = 1 by omega) with rfl | rfl <;> rfl) (by show _ ≤ (22 : Nat); omega) (by show _ ≤ (348 : Nat); omega) d_K_init_90 (fun H hP hS => ?_)
        obtain ⟨u149, hu150, hP⟩ : ∃ zz : Nat → va_E, zz = va_up u135 (28 + 4 * jn + 2) (.inr (3, [.int (iI (0)), .null])) ∧ va_P D vwCl (wl (28 + 4 * jn + 3) b zz) H := ⟨_, rfl, hP⟩
        have ff151 : u149 21 = .inr (2, [.ref (b + 22), .ref (b + 24), .ref (b + 25)]) := (congrFun hu150 _).trans ((up_n (by omega)).trans ff137)
        have ff152 : u149 22 = .inr (3, [.int (iI (0)), .ref (b + 23)]) := (congrFun hu150 _).trans ((up_n (by omega)).trans ff138)
        have ff153 : u149 23 = ir ct 32 (gs) := (congrFun hu150 _).trans ((up_n (by omega)).trans ff139)
        have ff154 : u149 26 = .inr (3, [.int (iI (0)), .ref (b + 27)]) := (congrFun hu150 _).trans ((up_n (by omega)).trans ff140)
        have ff155 : u149 27 = ir ct 32 (gq) := (congrFun hu150 _).trans ((up_n (by omega)).trans ff141)
        have ff156 : u149 1 = .inr (0, [.int (it (8 + 40 * jn) z0)]) := (congrFun hu150 _).trans ((up_n (by omega)).trans ff142)
        have ff157 : u149 24 = qr ct 4 4 (va_up (fa) ((jn : Int)).toNat (some (b + (28 + 4 * jn)))) := (congrFun hu150 _).trans ((up_n (by omega)).trans ff143)
        have ff158 : u149 25 = qr ct 4 4 (fb) := (congrFun hu150 _).trans ((up_n (by omega)).trans ff144)
        have ff159 : u149 (28 + 4 * jn) = .inr (3, [.int (iI (0)), .ref (b + (28 + 4 * jn + 1))]) := (congrFun hu150 _).trans ((up_n (by omega)).trans ff145)
        have ff160 : u149 (28 + 4 * jn + 1) = ir ct 32 (fun _ => 0) := (congrFun hu150 _).trans ((up_n (by omega)).trans ff146)
        have ff161 : u149 (28 + 4 * jn + 2) = .inr (3, [.int (iI (0)), .null]) := (congrFun hu150 _).trans up_s
        have fr162 : ∀ j : Nat, (j ≠ 1) → (j ≠ 24) → (j ≠ 25) → (j < 28) → u149 j = z85 j := fun j h0 h1 h2 h3 => (congrFun hu150 j).trans ((up_n (by omega)).trans (fr147 j h0 h1 h2 h3))
        have xf163 : ∀ j : Nat, (28 ≤ j) → (j < 28 + 4 * jn) → u149 j = w96 j := fun j h0 h1 => (congrFun hu150 j).trans ((up_n (by omega)).trans (xf148 j h0 h1))
        refine lv_dup hx hb d_K_init_93 rfl ?_
        refine lv_iconst (v := iI (0)) hx hb d_K_init_94 rfl ?_
        refine w_sz hP (by omega) (by omega) (fun hHs => ?_)
        refine w_callv (va_runI (As := [.int (iI (0))]) (rest := [.ref (b + (28 + 4 * jn + 2)), .int (iI ((jn : Int))), .ref (b + 25)]) ⟨hx, hb, hml, hown, hts⟩ (c_P_init l D ct st ke b u149 (28 + 4 * jn + 2) 32 0 (Or.inr ⟨rfl, rfl⟩) ff161) (cwI 1 hts (gC t_35) rfl rfl rfl kk5 kk8 kk7 rfl (by decide +kernel) ⟨Nat.le_of_ble_eq_true rfl, Nat.le_of_ble_eq_true rfl⟩) (pre_C E hP hS hHs) rfl rfl hl.1 rfl (lv_room (Nat.le_of_ble_eq_true rfl)) d_K_init_95 ⟨(by show _ ≤ (22 : Nat); omega), (by show _ ≤ (348 : Nat); omega)⟩) hS (fun z164 H locs hz hP hS => ?_)
        obtain ⟨hq166, hq167, hzf168⟩ := hz
        have ff169 : z164 21 = .inr (2, [.ref (b + 22), .ref (b + 24), .ref (b + 25)]) := (hzf168 21 (by omega) (by omega)).trans ff151
        have ff170 : z164 22 = .inr (3, [.int (iI (0)), .ref (b + 23)]) := (hzf168 22 (by omega) (by omega)).trans ff152
        have ff171 : z164 23 = ir ct 32 (gs) := (hzf168 23 (by omega) (by omega)).trans ff153
        have ff172 : z164 26 = .inr (3, [.int (iI (0)), .ref (b + 27)]) := (hzf168 26 (by omega) (by omega)).trans ff154
        have ff173 : z164 27 = ir ct 32 (gq) := (hzf168 27 (by omega) (by omega)).trans ff155
        have ff174 : z164 1 = .inr (0, [.int (it (8 + 40 * jn) z0)]) := (hzf168 1 (by omega) (by omega)).trans ff156
        have ff175 : z164 24 = qr ct 4 4 (va_up (fa) ((jn : Int)).toNat (some (b + (28 + 4 * jn)))) := (hzf168 24 (by omega) (by omega)).trans ff157
        have ff176 : z164 25 = qr ct 4 4 (fb) := (hzf168 25 (by omega) (by omega)).trans ff158
        have ff177 : z164 (28 + 4 * jn) = .inr (3, [.int (iI (0)), .ref (b + (28 + 4 * jn + 1))]) := (hzf168 (28 + 4 * jn) (by omega) (by omega)).trans ff159
        have ff178 : z164 (28 + 4 * jn + 1) = ir ct 32 (fun _ => 0) := (hzf168 (28 + 4 * jn + 1) (by omega) (by omega)).trans ff160
        have fr179 : ∀ j : Nat, (j ≠ 1) → (j ≠ 24) → (j ≠ 25) → (j < 28) → z164 j = z85 j := fun j h0 h1 h2 h3 => (hzf168 j (by omega) (by omega)).trans (fr162 j h0 h1 h2 h3)
        have xf180 : ∀ j : Nat, (28 ≤ j) → (j < 28 + 4 * jn) → z164 j = w96 j := fun j h0 h1 => (hzf168 j (by omega) (by omega)).trans (xf163 j h0 h1)
        refine w_aast (C := ("LevelledRing$Poly", T_P, 2)) hx hb hK hP hS (25) (by omega) 4 (28 + 4 * jn + 2) 3 (by omega) ff176 rfl hq166 rfl (by omega) (by omega) (by decide) d_K_init_98 (fun H locs hP hS => ?_)
        obtain ⟨u181, hu182, hP⟩ : ∃ zz : Nat → va_E, zz = va_up z164 25 (qr ct 4 4 (va_up (fb) ((jn : Int)).toNat (some (b + (28 + 4 * jn + 2))))) ∧ va_P D vwCl (wl (28 + 4 * jn + 4) b zz) H := ⟨_, rfl, hP⟩
        have ff183 : u181 21 = .inr (2, [.ref (b + 22), .ref (b + 24), .ref (b + 25)]) := (congrFun hu182 _).trans ((up_n (by omega)).trans ff169)
        have ff184 : u181 22 = .inr (3, [.int (iI (0)), .ref (b + 23)]) := (congrFun hu182 _).trans ((up_n (by omega)).trans ff170)
        have ff185 : u181 23 = ir ct 32 (gs) := (congrFun hu182 _).trans ((up_n (by omega)).trans ff171)
        have ff186 : u181 26 = .inr (3, [.int (iI (0)), .ref (b + 27)]) := (congrFun hu182 _).trans ((up_n (by omega)).trans ff172)
        have ff187 : u181 27 = ir ct 32 (gq) := (congrFun hu182 _).trans ((up_n (by omega)).trans ff173)
        have ff188 : u181 1 = .inr (0, [.int (it (8 + 40 * jn) z0)]) := (congrFun hu182 _).trans ((up_n (by omega)).trans ff174)
        have ff189 : u181 24 = qr ct 4 4 (va_up (fa) ((jn : Int)).toNat (some (b + (28 + 4 * jn)))) := (congrFun hu182 _).trans ((up_n (by omega)).trans ff175)
        have ff190 : u181 25 = qr ct 4 4 (va_up (fb) ((jn : Int)).toNat (some (b + (28 + 4 * jn + 2)))) := (congrFun hu182 _).trans up_s
        have ff191 : u181 (28 + 4 * jn) = .inr (3, [.int (iI (0)), .ref (b + (28 + 4 * jn + 1))]) := (congrFun hu182 _).trans ((up_n (by omega)).trans ff177)
        have ff192 : u181 (28 + 4 * jn + 1) = ir ct 32 (fun _ => 0) := (congrFun hu182 _).trans ((up_n (by omega)).trans ff178)
        have ff193 : u181 (28 + 4 * jn + 2) = .inr (3, [.int (iI (0)), .ref (b + (28 + 4 * jn + 3))]) := (congrFun hu182 _).trans ((up_n (by omega)).trans hq166)
        have ff194 : u181 (28 + 4 * jn + 3) = ir ct 32 (fun _ => 0) := (congrFun hu182 _).trans ((up_n (by omega)).trans hq167)
        have fr195 : ∀ j : Nat, (j ≠ 1) → (j ≠ 24) → (j ≠ 25) → (j < 28) → u181 j = z85 j := fun j h0 h1 h2 h3 => (congrFun hu182 j).trans ((up_n (by omega)).trans (fr179 j h0 h1 h2 h3))
        have xf196 : ∀ j : Nat, (28 ≤ j) → (j < 28 + 4 * jn) → u181 j = w96 j := fun j h0 h1 => (congrFun hu182 j).trans ((up_n (by omega)).trans (xf180 j h0 h1))
        refine lv_aload_n hx hb d_K_init_99 rfl (lv_at hl 2 rfl) ?_
        refine lv_aload_n hx hb d_K_init_100 rfl (lv_at hl 3 rfl) ?_
        refine lv_aload_n hx hb d_K_init_101 rfl (lv_at hl 2 rfl) ?_
        refine w_get (C := "LevelledRing$Keys") (T := T_K) (M := 3) hx hb hts hinK hown hK hP (21) (by omega) ff183 rfl 2 (by decide) kk12 (fun _ h => h) rfl d_K_init_102 ?_
        refine lv_iload_n hx hb d_K_init_105 rfl (lv_at hl 0 rfl) ?_
        refine w_aald (r := b + (28 + 4 * jn + 2)) hx hb hK hP (25) (by omega) 4 ff190 rfl (by omega) (by omega) (by decide) up_s d_K_init_106 ?_
        refine lv_aload_n hx hb d_K_init_107 rfl (lv_at hl 2 rfl) ?_
        refine w_get (C := "LevelledRing$Keys") (T := T_K) (M := 3) hx hb hts hinK hown hK hP (21) (by omega) ff183 rfl 1 (by decide) kk11 (fun _ h => h) rfl d_K_init_108 ?_
        refine lv_iload_n hx hb d_K_init_111 rfl (lv_at hl 0 rfl) ?_
        refine w_aald (r := b + (28 + 4 * jn)) hx hb hK hP (24) (by omega) 4 ff189 rfl (by omega) (by omega) (by decide) up_s d_K_init_112 ?_
        refine w_callv (va_runV (As := [.ref (b + 1), .ref (b + (28 + 4 * jn + 2)), .ref (b + (28 + 4 * jn))]) (rest := []) ⟨hx, hb, hml, hown, hts⟩ (c_dhz l D ct st ke b (28 + 4 * jn + 4) u181 21 24 25 22 (by omega) ff183 (by omega) gs ff184 ff185 (sml z0) hS3 1 (by omega) (it (8 + 40 * jn) z0) ff188 (28 + 4 * jn + 2) (by omega) (fun _ => 0) ff193 ff194 (28 + 4 * jn) (by omega) (fun _ => 0) ff191 ff192 (by omega) (by omega) (by omega)) (cwV 3 hts (gV t_112 t_113 t_114 t_5 t_115) rfl rfl rfl (by decide +kernel) ⟨Nat.le_of_ble_eq_true rfl, Nat.le_of_ble_eq_true rfl⟩) (pre_V E hP hS (21) (by omega) ff183 rfl) rfl rfl hl.1 rfl (lv_room (Nat.le_of_ble_eq_true rfl)) d_K_init_113 ⟨(by show _ ≤ (22 : Nat); omega), (by show _ ≤ (348 : Nat); omega)⟩) hS (fun z197 H locs hz hP hS => ?_)
        obtain ⟨y0, y1, c1, c2, c3, c4, c5, c6⟩ := hz
        have ff199 : z197 21 = .inr (2, [.ref (b + 22), .ref (b + 24), .ref (b + 25)]) := (c6 21 (by omega) (by omega) (by omega)).trans ff183
        have ff200 : z197 22 = .inr (3, [.int (iI (0)), .ref (b + 23)]) := (c6 22 (by omega) (by omega) (by omega)).trans ff184
        have ff201 : z197 23 = ir ct 32 (gs) := (c6 23 (by omega) (by omega) (by omega)).trans ff185
        have ff202 : z197 26 = .inr (3, [.int (iI (0)), .ref (b + 27)]) := (c6 26 (by omega) (by omega) (by omega)).trans ff186
        have ff203 : z197 27 = ir ct 32 (gq) := (c6 27 (by omega) (by omega) (by omega)).trans ff187
        have ff204 : z197 24 = qr ct 4 4 (va_up (fa) ((jn : Int)).toNat (some (b + (28 + 4 * jn)))) := (c6 24 (by omega) (by omega) (by omega)).trans ff189
        have ff205 : z197 25 = qr ct 4 4 (va_up (fb) ((jn : Int)).toNat (some (b + (28 + 4 * jn + 2)))) := (c6 25 (by omega) (by omega) (by omega)).trans ff190
        have ff206 : z197 (28 + 4 * jn) = .inr (3, [.int (iI (0)), .ref (b + (28 + 4 * jn + 1))]) := (c6 (28 + 4 * jn) (by omega) (by omega) (by omega)).trans ff191
        have ff207 : z197 (28 + 4 * jn + 2) = .inr (3, [.int (iI (0)), .ref (b + (28 + 4 * jn + 3))]) := (c6 (28 + 4 * jn + 2) (by omega) (by omega) (by omega)).trans ff193
        have fr208 : ∀ j : Nat, (j ≠ 1) → (j ≠ 24) → (j ≠ 25) → (j < 28) → z197 j = z85 j := fun j h0 h1 h2 h3 => (c6 j (by omega) (by omega) (by omega)).trans (fr195 j h0 h1 h2 h3)
        have xf209 : ∀ j : Nat, (28 ≤ j) → (j < 28 + 4 * jn) → z197 j = w96 j := fun j h0 h1 => (c6 j (by omega) (by omega) (by omega)).trans (xf196 j h0 h1)
        refine lv_aload_n hx hb d_K_init_116 rfl (lv_at hl 2 rfl) ?_
        refine w_get (C := "LevelledRing$Keys") (T := T_K) (M := 3) hx hb hts hinK hown hK hP (21) (by omega) ff199 rfl 2 (by decide) kk12 (fun _ h => h) rfl d_K_init_117 ?_
        refine lv_iload_n hx hb d_K_init_120 rfl (lv_at hl 0 rfl) ?_
        refine w_aald (r := b + (28 + 4 * jn + 2)) hx hb hK hP (25) (by omega) 4 ff205 rfl (by omega) (by omega) (by decide) up_s d_K_init_121 ?_
        refine lv_aload_n hx hb d_K_init_122 rfl (lv_at hl 1 rfl) ?_
        refine lv_iload_n hx hb d_K_init_123 rfl (lv_at hl 0 rfl) ?_
        refine w_callv (va_runV (As := [.ref (b + 26), .int (iI ((jn : Int)))]) (rest := []) ⟨hx, hb, hml, hown, hts⟩ (c_addRow l D ct st ke b (28 + 4 * jn + 4) z197 (28 + 4 * jn + 2) y0 (by omega) ff207 c1 26 gq (by omega) (by omega) ff202 ff203 (jn : Int) (by omega) (by omega) _ _ c4 hQ3) (cwV 2 hts (gV t_120 t_121 t_122 t_3 t_123) rfl rfl rfl (by decide +kernel) ⟨Nat.le_of_ble_eq_true rfl, Nat.le_of_ble_eq_true rfl⟩) (pre_V E hP hS (28 + 4 * jn + 2) (by omega) ff207 rfl) rfl rfl hl.1 rfl (lv_room (Nat.le_of_ble_eq_true rfl)) d_K_init_124 ⟨(by show _ ≤ (22 : Nat); omega), (by show _ ≤ (348 : Nat); omega)⟩) hS (fun z210 H locs hz hP hS => ?_)
        obtain ⟨y2, e1, e2, e3⟩ := hz
        have ff212 : z210 21 = .inr (2, [.ref (b + 22), .ref (b + 24), .ref (b + 25)]) := (e3 21 (by omega)).trans ff199
        have ff213 : z210 22 = .inr (3, [.int (iI (0)), .ref (b + 23)]) := (e3 22 (by omega)).trans ff200
        have ff214 : z210 23 = ir ct 32 (gs) := (e3 23 (by omega)).trans ff201
        have ff215 : z210 26 = .inr (3, [.int (iI (0)), .ref (b + 27)]) := (e3 26 (by omega)).trans ff202
        have ff216 : z210 27 = ir ct 32 (gq) := (e3 27 (by omega)).trans ff203
        have ff217 : z210 24 = qr ct 4 4 (va_up (fa) ((jn : Int)).toNat (some (b + (28 + 4 * jn)))) := (e3 24 (by omega)).trans ff204
        have ff218 : z210 25 = qr ct 4 4 (va_up (fb) ((jn : Int)).toNat (some (b + (28 + 4 * jn + 2)))) := (e3 25 (by omega)).trans ff205
        have ff219 : z210 (28 + 4 * jn) = .inr (3, [.int (iI (0)), .ref (b + (28 + 4 * jn + 1))]) := (e3 (28 + 4 * jn) (by omega)).trans ff206
        have ff220 : z210 (28 + 4 * jn + 2) = .inr (3, [.int (iI (0)), .ref (b + (28 + 4 * jn + 3))]) := (e3 (28 + 4 * jn + 2) (by omega)).trans ff207
        have ff221 : z210 (28 + 4 * jn + 1) = ir ct 32 (y1) := (e3 (28 + 4 * jn + 1) (by omega)).trans c2
        have ff222 : z210 1 = .inr (0, [.int (it 40 (it (8 + 40 * jn) z0))]) := (e3 1 (by omega)).trans c3
        have fr223 : ∀ j : Nat, (j ≠ 1) → (j ≠ 24) → (j ≠ 25) → (j < 28) → z210 j = z85 j := fun j h0 h1 h2 h3 => (e3 j (by omega)).trans (fr208 j h0 h1 h2 h3)
        have xf224 : ∀ j : Nat, (28 ≤ j) → (j < 28 + 4 * jn) → z210 j = w96 j := fun j h0 h1 => (e3 j (by omega)).trans (xf209 j h0 h1)
        refine lv_iinc (k := 0) (v := iI ((jn : Int) + 1)) (lv' := [(3, .int (iI ((jn : Int) + 1))), (2, .ref (b + 26)), (0, .ref (b + 21)), (1, .ref (b + 1))]) hx hb d_K_init_127 hl rfl (iI_add _ _) (by decide) rfl (fun ls hl => ?_)
        have hl : lv_has ls 4 [(3, .int (iI (((jn + 1 : Nat) : Int)))), (2, .ref (b + 26)), (0, .ref (b + 21)), (1, .ref (b + 1))] := by rw [show ((jn + 1 : Nat) : Int) = (jn : Int) + 1 from by omega]; exact hl
        have hl : lv_has ls 4 [(3, .int (iI (((jn + 1 : Nat) : Int)))), (2, .ref (b + 26)), (0, .ref (b + 21)), (1, .ref (b + 1))] := lv_sub hl [0, 1, 2, 3] rfl
        refine lv_goto (tgt := 66) hx hb d_K_init_130 (by decide) ?_
        refine W.widen (k := 6 + 4 * (jn + 1)) (n := 76 + 68 * (jn + 1)) (by omega) (by omega) ?_
        have hkeep := xf224
        refine ihlo (jn + 1) _ _ z210 H locs ls (by omega) (by omega) (fun i hi => ?_) (fun i hi => ?_) (fun i hi => ?_) (by rw [show 8 + 40 * (jn + 1) = (8 + 40 * jn) + 40 by omega, ← it_add]; exact ff222) ff217 ff218 fr223 hP hS hl
        · by_cases h : i = jn
          · subst h; exact up_s
          · exact (up_n (by omega)).trans (hfa i (by omega))
        · by_cases h : i = jn
          · subst h; rw [show 30 + 4 * i = 28 + 4 * i + 2 by omega]; exact up_s
          · exact (up_n (by omega)).trans (hfb i (by omega))
        · by_cases h : i = jn
          · subst h
            refine ⟨⟨ff219, y1, ff221, c5⟩, ?_⟩
            rw [show 30 + 4 * i = 28 + 4 * i + 2 by omega]
            exact ⟨ff220, y2, e1, e2.mod (by omega)⟩
          · have h1 := hA i (by omega)
            exact ⟨h1.1.of fun q h2 h3 => hkeep q (by omega) (by omega), h1.2.of fun q h2 h3 => hkeep q (by omega) (by omega)⟩
  exact lo 5 0 _ _ z85 H locs ls (by omega) (by omega) (fun i hi => by omega) (fun i hi => by omega) (fun i hi => by omega) ff92 ff89 ff90 fr95 hP hS hl
end
section
-- the state of the system: the object at the place 0, its gates from the place 44 on, eight cells each
abbrev ob (b : Nat) (n v : Int) : va_E := .inr (5, [.ref (b + 1), .ref (b + 21), .ref (b + 2), .ref (b + 4), .int (iI n), .int (iI v), .ref (b + 5), .ref (b + 10), .ref (b + 15), .ref (b + 17), .ref (b + 19)])
/-- the Gate at the place q is G -/
def GA (ct : Nat → ClassId) (b : Nat) (ke : Nat → Nat) (u : Nat → va_E) (q : Nat) (G : Gt) : Prop := u q = gt b ke q G.1 G.2.1 G.2.2.1 G.2.2.2.1 ∧ SV ct b u (q + 1) G.2.2.2.2
theorem GA.of {ct : Nat → ClassId} {b : Nat} {ke : Nat → Nat} {u z : Nat → va_E} {q : Nat} {G : Gt} (h : GA ct b ke u q G) (hz : ∀ j, q ≤ j → j < q + 3 → z j = u j) : GA ct b ke z q G :=
  ⟨(hz q (by omega) (by omega)).trans h.1, h.2.of fun j a c => hz j (by omega) (by omega)⟩
/-- gates: whatever they are; those below n; the values of those below v -/
def GC (ct : Nat → ClassId) (b : Nat) (ke : Nat → Nat) (u : Nat → va_E) (n v : Nat) (G : Int → Gt) (V : Int → Val) : Prop :=
  (∀ i : Nat, i < 24 → (∃ G1 : Gt, GA ct b ke u (44 + 8 * i) G1) ∧ VS ct b u (47 + 8 * i)) ∧ (∀ i : Nat, i < n → GA ct b ke u (44 + 8 * i) (G i)) ∧ ∀ i : Nat, i < v → VV ct b u (47 + 8 * i) (V i)
/-- the scratch: drawing, left, right, square, digit, opened -/
def SC (ct : Nat → ClassId) (b : Nat) (u : Nat → va_E) : Prop := (∃ z, u 1 = dr z) ∧ VS ct b u 5 ∧ VS ct b u 10 ∧ PS ct b u 15 ∧ PS ct b u 17 ∧ PS ct b u 19
theorem SC.of {ct : Nat → ClassId} {b : Nat} {u z : Nat → va_E} (h : SC ct b u) (hz : ∀ j, 1 ≤ j → j < 21 → j ≠ 2 → j ≠ 3 → j ≠ 4 → z j = u j) : SC ct b z := by
  obtain ⟨⟨x, h1⟩, h2, h3, h4, h5, h6⟩ := h
  exact ⟨⟨x, (hz 1 (by omega) (by omega) (by omega) (by omega) (by omega)).trans h1⟩, h2.of fun j a c => hz j (by omega) (by omega) (by omega) (by omega) (by omega), h3.of fun j a c => hz j (by omega) (by omega) (by omega) (by omega) (by omega), h4.of fun j a c => hz j (by omega) (by omega) (by omega) (by omega) (by omega), h5.of fun j a c => hz j (by omega) (by omega) (by omega) (by omega) (by omega), h6.of fun j a c => hz j (by omega) (by omega) (by omega) (by omega) (by omega)⟩
def GR (ct : Nat → ClassId) (b : Nat) (u : Nat → va_E) : Prop := ∃ f : Nat → Option Nat, u 4 = qr ct 3 24 f ∧ ∀ i : Nat, i < 24 → f i = some (b + (44 + 8 * i))
def CS (ct : Nat → ClassId) (b : Nat) (ke : Nat → Nat) (u : Nat → va_E) (K : Ky) (n v : Nat) (msg : Int → Int) (G : Int → Gt) (V : Int → Val) : Prop :=
  u 0 = ob b n v ∧ SC ct b u ∧ SV ct b u 2 msg ∧ GR ct b u ∧ KS ct b u K ∧ GC ct b ke u n v G V
theorem GC.of {ct : Nat → ClassId} {b : Nat} {ke : Nat → Nat} {u z : Nat → va_E} {n v : Nat} {G : Int → Gt} {V : Int → Val} (h : GC ct b ke u n v G V) (hn : n ≤ 24) (hv : v ≤ 24) (hz : ∀ j, 44 ≤ j → j < 236 → z j = u j) : GC ct b ke z n v G V := by
  obtain ⟨h1, h2, h3⟩ := h
  refine ⟨fun i hi => ?_, fun i hi => (h2 i hi).of fun j a c => hz j (by omega) (by omega), fun i hi => (h3 i hi).of fun j a c => hz j (by omega) (by omega)⟩
  obtain ⟨⟨G1, h4⟩, h5⟩ := h1 i hi
  exact ⟨⟨G1, h4.of fun j a c => hz j (by omega) (by omega)⟩, h5.of fun j a c => hz j (by omega) (by omega)⟩
-- what holds of the numbers
def p17 (X : Int → Int) : Prop := ∀ i : Int, 0 ≤ i → i < 8 → 0 ≤ X i ∧ X i < 17
def okG (G : Gt) (i : Int) : Prop := G.1 < 6 ∧ p17 G.2.2.2.2 ∧ (1 ≤ G.1 → 0 ≤ G.2.1 ∧ G.2.1 < i) ∧ (1 ≤ G.1 → 0 ≤ G.2.2.1 ∧ G.2.2.1 < i) ∧ (G.1 = 4 → 0 ≤ G.2.2.2.1 ∧ G.2.2.2.1 < 16)
/-- a polynomial modulo Q(l), reduced -/
def rd (l : Int) (P : Int → Int) : Prop := ∀ i : Int, 0 ≤ i → i < 8 → 0 ≤ P i ∧ P i < lQ l
def okW (v : Val) : Prop := okV v ∧ rd v.1 v.2.2.1 ∧ rd v.1 v.2.2.2
def PI (n v : Nat) (msg : Int → Int) (G : Int → Gt) (V : Int → Val) : Prop := n ≤ 24 ∧ v ≤ n ∧ p17 msg ∧ (∀ i : Nat, i < n → okG (G i) i) ∧ ∀ i : Nat, i < v → okW (V i)
def inb (x n : Int) : Int := if 0 ≤ x ∧ x < n then 1 else 0
theorem inb_01 (x n : Int) : inb x n = 0 ∨ inb x n = 1 := by
  unfold inb
  split
  · exact Or.inr rfl
  · exact Or.inl rfl
theorem inb_n {x n : Int} (h : inb x n ≠ 0) : 0 ≤ x ∧ x < n := by
  unfold inb at h
  split at h
  · assumption
  · exact absurd rfl h
theorem inb_y {x n : Int} (h0 : 0 ≤ x) (h1 : x < n) : inb x n = 1 := by
  unfold inb
  rw [if_pos ⟨h0, h1⟩]
theorem inb_z {x n : Int} (h : inb x n = 0) : ¬ (0 ≤ x ∧ x < n) := fun g => by
  rw [inb_y g.1 g.2] at h
  cases h
theorem inb_o {x n : Int} (h : ¬ (0 ≤ x ∧ x < n)) : inb x n = 0 := by
  unfold inb
  rw [if_neg h]
def putm (msg : Int → Int) (x y : Int) : Int → Int := if 0 ≤ x ∧ x < 8 then zu msg x (y % 17) else msg
theorem CS.of {ct : Nat → ClassId} {b : Nat} {ke : Nat → Nat} {u z : Nat → va_E} {K : Ky} {n v : Nat} {msg : Int → Int} {G : Int → Gt} {V : Int → Val} (h : CS ct b ke u K n v msg G V) (hn : n ≤ 24) (hv : v ≤ n) (hz : ∀ j, j < 236 → z j = u j) : CS ct b ke z K n v msg G V := by
  obtain ⟨h1, h2, h3, ⟨f, h4, h5⟩, h6, h7⟩ := h
  exact ⟨(hz 0 (by omega)).trans h1, h2.of fun j a c _ _ _ => hz j (by omega), h3.of fun j a c => hz j (by omega), ⟨f, (hz 4 (by omega)).trans h4, h5⟩, h6.of fun j a c => hz j (by omega), h7.of hn (by omega) fun j a c => hz j (by omega)⟩
end
section
theorem d_R_init_0 : decode c9_R_init 0 = .ok (.aload_n 0, 1) := by decide +kernel
theorem d_R_init_1 : decode c9_R_init 1 = .ok (.invokespecial 3, 3) := by decide +kernel
theorem d_R_init_4 : decode c9_R_init 4 = .ok (.aload_n 0, 1) := by decide +kernel
theorem d_R_init_5 : decode c9_R_init 5 = .ok (.new 9, 3) := by decide +kernel
theorem d_R_init_8 : decode c9_R_init 8 = .ok (.dup, 1) := by decide +kernel
theorem d_R_init_9 : decode c9_R_init 9 = .ok (.invokespecial 11, 3) := by decide +kernel
theorem d_R_init_12 : decode c9_R_init 12 = .ok (.putfield 12, 3) := by decide +kernel
theorem d_R_init_15 : decode c9_R_init 15 = .ok (.aload_n 0, 1) := by decide +kernel
theorem d_R_init_16 : decode c9_R_init 16 = .ok (.new 16, 3) := by decide +kernel
theorem d_R_init_19 : decode c9_R_init 19 = .ok (.dup, 1) := by decide +kernel
theorem d_R_init_20 : decode c9_R_init 20 = .ok (.iconst 1, 1) := by decide +kernel
theorem d_R_init_21 : decode c9_R_init 21 = .ok (.invokespecial 18, 3) := by decide +kernel
theorem d_R_init_24 : decode c9_R_init 24 = .ok (.putfield 21, 3) := by decide +kernel
theorem d_R_init_27 : decode c9_R_init 27 = .ok (.aload_n 0, 1) := by decide +kernel
theorem d_R_init_28 : decode c9_R_init 28 = .ok (.bipush 24, 2) := by decide +kernel
theorem d_R_init_30 : decode c9_R_init 30 = .ok (.anewarray 25, 3) := by decide +kernel
theorem d_R_init_33 : decode c9_R_init 33 = .ok (.putfield 27, 3) := by decide +kernel
theorem d_R_init_36 : decode c9_R_init 36 = .ok (.aload_n 0, 1) := by decide +kernel
theorem d_R_init_37 : decode c9_R_init 37 = .ok (.iconst 0, 1) := by decide +kernel
theorem d_R_init_38 : decode c9_R_init 38 = .ok (.putfield 31, 3) := by decide +kernel
theorem d_R_init_41 : decode c9_R_init 41 = .ok (.aload_n 0, 1) := by decide +kernel
theorem d_R_init_42 : decode c9_R_init 42 = .ok (.iconst 0, 1) := by decide +kernel
theorem d_R_init_43 : decode c9_R_init 43 = .ok (.putfield 35, 3) := by decide +kernel
theorem d_R_init_46 : decode c9_R_init 46 = .ok (.aload_n 0, 1) := by decide +kernel
theorem d_R_init_47 : decode c9_R_init 47 = .ok (.new 38, 3) := by decide +kernel
theorem d_R_init_50 : decode c9_R_init 50 = .ok (.dup, 1) := by decide +kernel
theorem d_R_init_51 : decode c9_R_init 51 = .ok (.invokespecial 40, 3) := by decide +kernel
theorem d_R_init_54 : decode c9_R_init 54 = .ok (.putfield 41, 3) := by decide +kernel
theorem d_R_init_57 : decode c9_R_init 57 = .ok (.aload_n 0, 1) := by decide +kernel
theorem d_R_init_58 : decode c9_R_init 58 = .ok (.new 38, 3) := by decide +kernel
theorem d_R_init_61 : decode c9_R_init 61 = .ok (.dup, 1) := by decide +kernel
theorem d_R_init_62 : decode c9_R_init 62 = .ok (.invokespecial 40, 3) := by decide +kernel
theorem d_R_init_65 : decode c9_R_init 65 = .ok (.putfield 45, 3) := by decide +kernel
theorem d_R_init_68 : decode c9_R_init 68 = .ok (.aload_n 0, 1) := by decide +kernel
theorem d_R_init_69 : decode c9_R_init 69 = .ok (.new 16, 3) := by decide +kernel
theorem d_R_init_72 : decode c9_R_init 72 = .ok (.dup, 1) := by decide +kernel
theorem d_R_init_73 : decode c9_R_init 73 = .ok (.iconst 0, 1) := by decide +kernel
theorem d_R_init_74 : decode c9_R_init 74 = .ok (.invokespecial 18, 3) := by decide +kernel
theorem d_R_init_77 : decode c9_R_init 77 = .ok (.putfield 48, 3) := by decide +kernel
theorem d_R_init_80 : decode c9_R_init 80 = .ok (.aload_n 0, 1) := by decide +kernel
theorem d_R_init_81 : decode c9_R_init 81 = .ok (.new 16, 3) := by decide +kernel
theorem d_R_init_84 : decode c9_R_init 84 = .ok (.dup, 1) := by decide +kernel
theorem d_R_init_85 : decode c9_R_init 85 = .ok (.iconst 0, 1) := by decide +kernel
theorem d_R_init_86 : decode c9_R_init 86 = .ok (.invokespecial 18, 3) := by decide +kernel
theorem d_R_init_89 : decode c9_R_init 89 = .ok (.putfield 51, 3) := by decide +kernel
theorem d_R_init_92 : decode c9_R_init 92 = .ok (.aload_n 0, 1) := by decide +kernel
theorem d_R_init_93 : decode c9_R_init 93 = .ok (.new 16, 3) := by decide +kernel
theorem d_R_init_96 : decode c9_R_init 96 = .ok (.dup, 1) := by decide +kernel
theorem d_R_init_97 : decode c9_R_init 97 = .ok (.iconst 0, 1) := by decide +kernel
theorem d_R_init_98 : decode c9_R_init 98 = .ok (.invokespecial 18, 3) := by decide +kernel
theorem d_R_init_101 : decode c9_R_init 101 = .ok (.putfield 54, 3) := by decide +kernel
theorem d_R_init_104 : decode c9_R_init 104 = .ok (.aload_n 0, 1) := by decide +kernel
theorem d_R_init_105 : decode c9_R_init 105 = .ok (.getfield 12, 3) := by decide +kernel
theorem d_R_init_108 : decode c9_R_init 108 = .ok (.iload_n 1, 1) := by decide +kernel
theorem d_R_init_109 : decode c9_R_init 109 = .ok (.invokevirtual 57, 3) := by decide +kernel
theorem d_R_init_112 : decode c9_R_init 112 = .ok (.aload_n 0, 1) := by decide +kernel
theorem d_R_init_113 : decode c9_R_init 113 = .ok (.new 61, 3) := by decide +kernel
theorem d_R_init_116 : decode c9_R_init 116 = .ok (.dup, 1) := by decide +kernel
theorem d_R_init_117 : decode c9_R_init 117 = .ok (.aload_n 0, 1) := by decide +kernel
theorem d_R_init_118 : decode c9_R_init 118 = .ok (.getfield 12, 3) := by decide +kernel
theorem d_R_init_121 : decode c9_R_init 121 = .ok (.invokespecial 63, 3) := by decide +kernel
theorem d_R_init_124 : decode c9_R_init 124 = .ok (.putfield 66, 3) := by decide +kernel
theorem d_R_init_127 : decode c9_R_init 127 = .ok (.iconst 0, 1) := by decide +kernel
theorem d_R_init_128 : decode c9_R_init 128 = .ok (.istore_n 2, 1) := by decide +kernel
theorem d_R_init_129 : decode c9_R_init 129 = .ok (.iload_n 2, 1) := by decide +kernel
theorem d_R_init_130 : decode c9_R_init 130 = .ok (.bipush 24, 2) := by decide +kernel
theorem d_R_init_132 : decode c9_R_init 132 = .ok (.if_icmp .ge 22, 3) := by decide +kernel
theorem d_R_init_135 : decode c9_R_init 135 = .ok (.aload_n 0, 1) := by decide +kernel
theorem d_R_init_136 : decode c9_R_init 136 = .ok (.getfield 27, 3) := by decide +kernel
theorem d_R_init_139 : decode c9_R_init 139 = .ok (.iload_n 2, 1) := by decide +kernel
theorem d_R_init_140 : decode c9_R_init 140 = .ok (.new 25, 3) := by decide +kernel
theorem d_R_init_143 : decode c9_R_init 143 = .ok (.dup, 1) := by decide +kernel
theorem d_R_init_144 : decode c9_R_init 144 = .ok (.invokespecial 70, 3) := by decide +kernel
theorem d_R_init_147 : decode c9_R_init 147 = .ok (.aastore, 1) := by decide +kernel
theorem d_R_init_148 : decode c9_R_init 148 = .ok (.iinc 2 1, 3) := by decide +kernel
theorem d_R_init_151 : decode c9_R_init 151 = .ok (.goto (-22), 3) := by decide +kernel
theorem d_R_init_154 : decode c9_R_init 154 = .ok (.return_, 1) := by decide +kernel
theorem d_R_put_0 : decode c9_R_put 0 = .ok (.iload_n 1, 1) := by decide +kernel
theorem d_R_put_1 : decode c9_R_put 1 = .ok (.invokestatic 71, 3) := by decide +kernel
theorem d_R_put_4 : decode c9_R_put 4 = .ok (.ifCond .ne 5, 3) := by decide +kernel
theorem d_R_put_7 : decode c9_R_put 7 = .ok (.iconst 0, 1) := by decide +kernel
theorem d_R_put_8 : decode c9_R_put 8 = .ok (.ireturn, 1) := by decide +kernel
theorem d_R_put_9 : decode c9_R_put 9 = .ok (.aload_n 0, 1) := by decide +kernel
theorem d_R_put_10 : decode c9_R_put 10 = .ok (.getfield 21, 3) := by decide +kernel
theorem d_R_put_13 : decode c9_R_put 13 = .ok (.getfield 75, 3) := by decide +kernel
theorem d_R_put_16 : decode c9_R_put 16 = .ok (.iload_n 1, 1) := by decide +kernel
theorem d_R_put_17 : decode c9_R_put 17 = .ok (.iload_n 2, 1) := by decide +kernel
theorem d_R_put_18 : decode c9_R_put 18 = .ok (.i2l, 1) := by decide +kernel
theorem d_R_put_19 : decode c9_R_put 19 = .ok (.bipush 17, 2) := by decide +kernel
theorem d_R_put_21 : decode c9_R_put 21 = .ok (.invokestatic 79, 3) := by decide +kernel
theorem d_R_put_24 : decode c9_R_put 24 = .ok (.iastore, 1) := by decide +kernel
theorem d_R_put_25 : decode c9_R_put 25 = .ok (.iconst 1, 1) := by decide +kernel
theorem d_R_put_26 : decode c9_R_put 26 = .ok (.ireturn, 1) := by decide +kernel
theorem d_R_isCoefficient_0 : decode c9_R_isCoefficient 0 = .ok (.iload_n 0, 1) := by decide +kernel
theorem d_R_isCoefficient_1 : decode c9_R_isCoefficient 1 = .ok (.ifCond .lt 13, 3) := by decide +kernel
theorem d_R_isCoefficient_4 : decode c9_R_isCoefficient 4 = .ok (.iload_n 0, 1) := by decide +kernel
theorem d_R_isCoefficient_5 : decode c9_R_isCoefficient 5 = .ok (.bipush 8, 2) := by decide +kernel
theorem d_R_isCoefficient_7 : decode c9_R_isCoefficient 7 = .ok (.if_icmp .ge 7, 3) := by decide +kernel
theorem d_R_isCoefficient_10 : decode c9_R_isCoefficient 10 = .ok (.iconst 1, 1) := by decide +kernel
theorem d_R_isCoefficient_11 : decode c9_R_isCoefficient 11 = .ok (.goto 4, 3) := by decide +kernel
theorem d_R_isCoefficient_14 : decode c9_R_isCoefficient 14 = .ok (.iconst 0, 1) := by decide +kernel
theorem d_R_isCoefficient_15 : decode c9_R_isCoefficient 15 = .ok (.ireturn, 1) := by decide +kernel
theorem d_R_input_0 : decode c9_R_input 0 = .ok (.aload_n 0, 1) := by decide +kernel
theorem d_R_input_1 : decode c9_R_input 1 = .ok (.getfield 31, 3) := by decide +kernel
theorem d_R_input_4 : decode c9_R_input 4 = .ok (.bipush 24, 2) := by decide +kernel
theorem d_R_input_6 : decode c9_R_input 6 = .ok (.if_icmp .lt 5, 3) := by decide +kernel
theorem d_R_input_9 : decode c9_R_input 9 = .ok (.iconst (-1), 1) := by decide +kernel
theorem d_R_input_10 : decode c9_R_input 10 = .ok (.ireturn, 1) := by decide +kernel
theorem d_R_input_11 : decode c9_R_input 11 = .ok (.aload_n 0, 1) := by decide +kernel
theorem d_R_input_12 : decode c9_R_input 12 = .ok (.getfield 27, 3) := by decide +kernel
theorem d_R_input_15 : decode c9_R_input 15 = .ok (.aload_n 0, 1) := by decide +kernel
theorem d_R_input_16 : decode c9_R_input 16 = .ok (.getfield 31, 3) := by decide +kernel
theorem d_R_input_19 : decode c9_R_input 19 = .ok (.aaload, 1) := by decide +kernel
theorem d_R_input_20 : decode c9_R_input 20 = .ok (.astore_n 2, 1) := by decide +kernel
theorem d_R_input_21 : decode c9_R_input 21 = .ok (.aload_n 2, 1) := by decide +kernel
theorem d_R_input_22 : decode c9_R_input 22 = .ok (.getstatic 83, 3) := by decide +kernel
theorem d_R_input_25 : decode c9_R_input 25 = .ok (.iconst (-1), 1) := by decide +kernel
theorem d_R_input_26 : decode c9_R_input 26 = .ok (.iconst (-1), 1) := by decide +kernel
theorem d_R_input_27 : decode c9_R_input 27 = .ok (.iload_n 1, 1) := by decide +kernel
theorem d_R_input_28 : decode c9_R_input 28 = .ok (.invokevirtual 89, 3) := by decide +kernel
theorem d_R_input_31 : decode c9_R_input 31 = .ok (.aload_n 2, 1) := by decide +kernel
theorem d_R_input_32 : decode c9_R_input 32 = .ok (.getfield 93, 3) := by decide +kernel
theorem d_R_input_35 : decode c9_R_input 35 = .ok (.aload_n 0, 1) := by decide +kernel
theorem d_R_input_36 : decode c9_R_input 36 = .ok (.getfield 21, 3) := by decide +kernel
theorem d_R_input_39 : decode c9_R_input 39 = .ok (.invokevirtual 96, 3) := by decide +kernel
theorem d_R_input_42 : decode c9_R_input 42 = .ok (.aload_n 0, 1) := by decide +kernel
theorem d_R_input_43 : decode c9_R_input 43 = .ok (.invokevirtual 100, 3) := by decide +kernel
theorem d_R_input_46 : decode c9_R_input 46 = .ok (.ireturn, 1) := by decide +kernel
theorem d_R_keepGate_0 : decode c9_R_keepGate 0 = .ok (.aload_n 0, 1) := by decide +kernel
theorem d_R_keepGate_1 : decode c9_R_keepGate 1 = .ok (.dup, 1) := by decide +kernel
theorem d_R_keepGate_2 : decode c9_R_keepGate 2 = .ok (.getfield 31, 3) := by decide +kernel
theorem d_R_keepGate_5 : decode c9_R_keepGate 5 = .ok (.iconst 1, 1) := by decide +kernel
theorem d_R_keepGate_6 : decode c9_R_keepGate 6 = .ok (.iadd, 1) := by decide +kernel
theorem d_R_keepGate_7 : decode c9_R_keepGate 7 = .ok (.putfield 31, 3) := by decide +kernel
theorem d_R_keepGate_10 : decode c9_R_keepGate 10 = .ok (.aload_n 0, 1) := by decide +kernel
theorem d_R_keepGate_11 : decode c9_R_keepGate 11 = .ok (.getfield 31, 3) := by decide +kernel
theorem d_R_keepGate_14 : decode c9_R_keepGate 14 = .ok (.iconst 1, 1) := by decide +kernel
theorem d_R_keepGate_15 : decode c9_R_keepGate 15 = .ok (.isub, 1) := by decide +kernel
theorem d_R_keepGate_16 : decode c9_R_keepGate 16 = .ok (.ireturn, 1) := by decide +kernel
theorem d_R_sum_0 : decode c9_R_sum 0 = .ok (.aload_n 0, 1) := by decide +kernel
theorem d_R_sum_1 : decode c9_R_sum 1 = .ok (.getstatic 104, 3) := by decide +kernel
theorem d_R_sum_4 : decode c9_R_sum 4 = .ok (.iload_n 1, 1) := by decide +kernel
theorem d_R_sum_5 : decode c9_R_sum 5 = .ok (.iload_n 2, 1) := by decide +kernel
theorem d_R_sum_6 : decode c9_R_sum 6 = .ok (.iconst 0, 1) := by decide +kernel
theorem d_R_sum_7 : decode c9_R_sum 7 = .ok (.invokevirtual 107, 3) := by decide +kernel
theorem d_R_sum_10 : decode c9_R_sum 10 = .ok (.ireturn, 1) := by decide +kernel
theorem d_R_addGate_0 : decode c9_R_addGate 0 = .ok (.aload_n 0, 1) := by decide +kernel
theorem d_R_addGate_1 : decode c9_R_addGate 1 = .ok (.iload_n 2, 1) := by decide +kernel
theorem d_R_addGate_2 : decode c9_R_addGate 2 = .ok (.invokevirtual 123, 3) := by decide +kernel
theorem d_R_addGate_5 : decode c9_R_addGate 5 = .ok (.ifCond .eq 20, 3) := by decide +kernel
theorem d_R_addGate_8 : decode c9_R_addGate 8 = .ok (.aload_n 0, 1) := by decide +kernel
theorem d_R_addGate_9 : decode c9_R_addGate 9 = .ok (.iload_n 3, 1) := by decide +kernel
theorem d_R_addGate_10 : decode c9_R_addGate 10 = .ok (.invokevirtual 123, 3) := by decide +kernel
theorem d_R_addGate_13 : decode c9_R_addGate 13 = .ok (.ifCond .eq 12, 3) := by decide +kernel
theorem d_R_addGate_16 : decode c9_R_addGate 16 = .ok (.aload_n 0, 1) := by decide +kernel
theorem d_R_addGate_17 : decode c9_R_addGate 17 = .ok (.getfield 31, 3) := by decide +kernel
theorem d_R_addGate_20 : decode c9_R_addGate 20 = .ok (.bipush 24, 2) := by decide +kernel
theorem d_R_addGate_22 : decode c9_R_addGate 22 = .ok (.if_icmp .lt 5, 3) := by decide +kernel
theorem d_R_addGate_25 : decode c9_R_addGate 25 = .ok (.iconst (-1), 1) := by decide +kernel
theorem d_R_addGate_26 : decode c9_R_addGate 26 = .ok (.ireturn, 1) := by decide +kernel
theorem d_R_addGate_27 : decode c9_R_addGate 27 = .ok (.aload_n 0, 1) := by decide +kernel
theorem d_R_addGate_28 : decode c9_R_addGate 28 = .ok (.getfield 27, 3) := by decide +kernel
theorem d_R_addGate_31 : decode c9_R_addGate 31 = .ok (.aload_n 0, 1) := by decide +kernel
theorem d_R_addGate_32 : decode c9_R_addGate 32 = .ok (.getfield 31, 3) := by decide +kernel
theorem d_R_addGate_35 : decode c9_R_addGate 35 = .ok (.aaload, 1) := by decide +kernel
theorem d_R_addGate_36 : decode c9_R_addGate 36 = .ok (.astore 5, 2) := by decide +kernel
theorem d_R_addGate_38 : decode c9_R_addGate 38 = .ok (.aload 5, 2) := by decide +kernel
theorem d_R_addGate_40 : decode c9_R_addGate 40 = .ok (.aload_n 1, 1) := by decide +kernel
theorem d_R_addGate_41 : decode c9_R_addGate 41 = .ok (.iload_n 2, 1) := by decide +kernel
theorem d_R_addGate_42 : decode c9_R_addGate 42 = .ok (.iload_n 3, 1) := by decide +kernel
theorem d_R_addGate_43 : decode c9_R_addGate 43 = .ok (.iload 4, 2) := by decide +kernel
theorem d_R_addGate_45 : decode c9_R_addGate 45 = .ok (.invokevirtual 89, 3) := by decide +kernel
theorem d_R_addGate_48 : decode c9_R_addGate 48 = .ok (.aload 5, 2) := by decide +kernel
theorem d_R_addGate_50 : decode c9_R_addGate 50 = .ok (.aload_n 0, 1) := by decide +kernel
theorem d_R_addGate_51 : decode c9_R_addGate 51 = .ok (.getfield 27, 3) := by decide +kernel
theorem d_R_addGate_54 : decode c9_R_addGate 54 = .ok (.iload_n 2, 1) := by decide +kernel
theorem d_R_addGate_55 : decode c9_R_addGate 55 = .ok (.aaload, 1) := by decide +kernel
theorem d_R_addGate_56 : decode c9_R_addGate 56 = .ok (.getfield 93, 3) := by decide +kernel
theorem d_R_addGate_59 : decode c9_R_addGate 59 = .ok (.aload_n 0, 1) := by decide +kernel
theorem d_R_addGate_60 : decode c9_R_addGate 60 = .ok (.getfield 27, 3) := by decide +kernel
theorem d_R_addGate_63 : decode c9_R_addGate 63 = .ok (.iload_n 3, 1) := by decide +kernel
theorem d_R_addGate_64 : decode c9_R_addGate 64 = .ok (.aaload, 1) := by decide +kernel
theorem d_R_addGate_65 : decode c9_R_addGate 65 = .ok (.getfield 93, 3) := by decide +kernel
theorem d_R_addGate_68 : decode c9_R_addGate 68 = .ok (.invokestatic 181, 3) := by decide +kernel
theorem d_R_addGate_71 : decode c9_R_addGate 71 = .ok (.aload_n 0, 1) := by decide +kernel
theorem d_R_addGate_72 : decode c9_R_addGate 72 = .ok (.invokevirtual 100, 3) := by decide +kernel
theorem d_R_addGate_75 : decode c9_R_addGate 75 = .ok (.ireturn, 1) := by decide +kernel
theorem d_R_isGate_0 : decode c9_R_isGate 0 = .ok (.iload_n 1, 1) := by decide +kernel
theorem d_R_isGate_1 : decode c9_R_isGate 1 = .ok (.ifCond .lt 15, 3) := by decide +kernel
theorem d_R_isGate_4 : decode c9_R_isGate 4 = .ok (.iload_n 1, 1) := by decide +kernel
theorem d_R_isGate_5 : decode c9_R_isGate 5 = .ok (.aload_n 0, 1) := by decide +kernel
theorem d_R_isGate_6 : decode c9_R_isGate 6 = .ok (.getfield 31, 3) := by decide +kernel
theorem d_R_isGate_9 : decode c9_R_isGate 9 = .ok (.if_icmp .ge 7, 3) := by decide +kernel
theorem d_R_isGate_12 : decode c9_R_isGate 12 = .ok (.iconst 1, 1) := by decide +kernel
theorem d_R_isGate_13 : decode c9_R_isGate 13 = .ok (.goto 4, 3) := by decide +kernel
theorem d_R_isGate_16 : decode c9_R_isGate 16 = .ok (.iconst 0, 1) := by decide +kernel
theorem d_R_isGate_17 : decode c9_R_isGate 17 = .ok (.ireturn, 1) := by decide +kernel
theorem d_R_setPlain_0 : decode c9_R_setPlain 0 = .ok (.getstatic 185, 3) := by decide +kernel
theorem d_R_setPlain_3 : decode c9_R_setPlain 3 = .ok (.aload_n 0, 1) := by decide +kernel
theorem d_R_setPlain_4 : decode c9_R_setPlain 4 = .ok (.getfield 190, 3) := by decide +kernel
theorem d_R_setPlain_7 : decode c9_R_setPlain 7 = .ok (.invokevirtual 193, 3) := by decide +kernel
theorem d_R_setPlain_10 : decode c9_R_setPlain 10 = .ok (.iaload, 1) := by decide +kernel
theorem d_R_setPlain_11 : decode c9_R_setPlain 11 = .ok (.tableswitch 94 1 4 #[29, 43, 57, 78], 29) := by decide +kernel
theorem d_R_setPlain_40 : decode c9_R_setPlain 40 = .ok (.aload_n 0, 1) := by decide +kernel
theorem d_R_setPlain_41 : decode c9_R_setPlain 41 = .ok (.getfield 93, 3) := by decide +kernel
theorem d_R_setPlain_44 : decode c9_R_setPlain 44 = .ok (.aload_n 1, 1) := by decide +kernel
theorem d_R_setPlain_45 : decode c9_R_setPlain 45 = .ok (.iconst 1, 1) := by decide +kernel
theorem d_R_setPlain_46 : decode c9_R_setPlain 46 = .ok (.aload_n 2, 1) := by decide +kernel
theorem d_R_setPlain_47 : decode c9_R_setPlain 47 = .ok (.iconst 0, 1) := by decide +kernel
theorem d_R_setPlain_48 : decode c9_R_setPlain 48 = .ok (.invokevirtual 196, 3) := by decide +kernel
theorem d_R_setPlain_51 : decode c9_R_setPlain 51 = .ok (.goto 62, 3) := by decide +kernel
theorem d_R_setPlain_54 : decode c9_R_setPlain 54 = .ok (.aload_n 0, 1) := by decide +kernel
theorem d_R_setPlain_55 : decode c9_R_setPlain 55 = .ok (.getfield 93, 3) := by decide +kernel
theorem d_R_setPlain_58 : decode c9_R_setPlain 58 = .ok (.aload_n 1, 1) := by decide +kernel
theorem d_R_setPlain_59 : decode c9_R_setPlain 59 = .ok (.iconst (-1), 1) := by decide +kernel
theorem d_R_setPlain_60 : decode c9_R_setPlain 60 = .ok (.aload_n 2, 1) := by decide +kernel
theorem d_R_setPlain_61 : decode c9_R_setPlain 61 = .ok (.iconst 0, 1) := by decide +kernel
theorem d_R_setPlain_62 : decode c9_R_setPlain 62 = .ok (.invokevirtual 196, 3) := by decide +kernel
theorem d_R_setPlain_65 : decode c9_R_setPlain 65 = .ok (.goto 48, 3) := by decide +kernel
theorem d_R_setPlain_68 : decode c9_R_setPlain 68 = .ok (.aload_n 0, 1) := by decide +kernel
theorem d_R_setPlain_69 : decode c9_R_setPlain 69 = .ok (.getfield 93, 3) := by decide +kernel
theorem d_R_setPlain_72 : decode c9_R_setPlain 72 = .ok (.invokevirtual 200, 3) := by decide +kernel
theorem d_R_setPlain_75 : decode c9_R_setPlain 75 = .ok (.aload_n 0, 1) := by decide +kernel
theorem d_R_setPlain_76 : decode c9_R_setPlain 76 = .ok (.getfield 93, 3) := by decide +kernel
theorem d_R_setPlain_79 : decode c9_R_setPlain 79 = .ok (.iconst 1, 1) := by decide +kernel
theorem d_R_setPlain_80 : decode c9_R_setPlain 80 = .ok (.aload_n 1, 1) := by decide +kernel
theorem d_R_setPlain_81 : decode c9_R_setPlain 81 = .ok (.aload_n 2, 1) := by decide +kernel
theorem d_R_setPlain_82 : decode c9_R_setPlain 82 = .ok (.iconst 0, 1) := by decide +kernel
theorem d_R_setPlain_83 : decode c9_R_setPlain 83 = .ok (.invokevirtual 203, 3) := by decide +kernel
theorem d_R_setPlain_86 : decode c9_R_setPlain 86 = .ok (.goto 27, 3) := by decide +kernel
theorem d_R_setPlain_89 : decode c9_R_setPlain 89 = .ok (.aload_n 0, 1) := by decide +kernel
theorem d_R_setPlain_90 : decode c9_R_setPlain 90 = .ok (.getfield 93, 3) := by decide +kernel
theorem d_R_setPlain_93 : decode c9_R_setPlain 93 = .ok (.aload_n 1, 1) := by decide +kernel
theorem d_R_setPlain_94 : decode c9_R_setPlain 94 = .ok (.aload_n 0, 1) := by decide +kernel
theorem d_R_setPlain_95 : decode c9_R_setPlain 95 = .ok (.getfield 207, 3) := by decide +kernel
theorem d_R_setPlain_98 : decode c9_R_setPlain 98 = .ok (.iconst 0, 1) := by decide +kernel
theorem d_R_setPlain_99 : decode c9_R_setPlain 99 = .ok (.invokevirtual 210, 3) := by decide +kernel
theorem d_R_setPlain_102 : decode c9_R_setPlain 102 = .ok (.goto 11, 3) := by decide +kernel
theorem d_R_setPlain_105 : decode c9_R_setPlain 105 = .ok (.aload_n 0, 1) := by decide +kernel
theorem d_R_setPlain_106 : decode c9_R_setPlain 106 = .ok (.getfield 93, 3) := by decide +kernel
theorem d_R_setPlain_109 : decode c9_R_setPlain 109 = .ok (.aload_n 1, 1) := by decide +kernel
theorem d_R_setPlain_110 : decode c9_R_setPlain 110 = .ok (.invokevirtual 96, 3) := by decide +kernel
theorem d_R_setPlain_113 : decode c9_R_setPlain 113 = .ok (.return_, 1) := by decide +kernel
theorem d_R_difference_0 : decode c9_R_difference 0 = .ok (.aload_n 0, 1) := by decide +kernel
theorem d_R_difference_1 : decode c9_R_difference 1 = .ok (.getstatic 111, 3) := by decide +kernel
theorem d_R_difference_4 : decode c9_R_difference 4 = .ok (.iload_n 1, 1) := by decide +kernel
theorem d_R_difference_5 : decode c9_R_difference 5 = .ok (.iload_n 2, 1) := by decide +kernel
theorem d_R_difference_6 : decode c9_R_difference 6 = .ok (.iconst 0, 1) := by decide +kernel
theorem d_R_difference_7 : decode c9_R_difference 7 = .ok (.invokevirtual 107, 3) := by decide +kernel
theorem d_R_difference_10 : decode c9_R_difference 10 = .ok (.ireturn, 1) := by decide +kernel
theorem d_R_product_0 : decode c9_R_product 0 = .ok (.aload_n 0, 1) := by decide +kernel
theorem d_R_product_1 : decode c9_R_product 1 = .ok (.getstatic 114, 3) := by decide +kernel
theorem d_R_product_4 : decode c9_R_product 4 = .ok (.iload_n 1, 1) := by decide +kernel
theorem d_R_product_5 : decode c9_R_product 5 = .ok (.iload_n 2, 1) := by decide +kernel
theorem d_R_product_6 : decode c9_R_product 6 = .ok (.iconst 0, 1) := by decide +kernel
theorem d_R_product_7 : decode c9_R_product 7 = .ok (.invokevirtual 107, 3) := by decide +kernel
theorem d_R_product_10 : decode c9_R_product 10 = .ok (.ireturn, 1) := by decide +kernel
theorem d_R_shift_0 : decode c9_R_shift 0 = .ok (.iload_n 2, 1) := by decide +kernel
theorem d_R_shift_1 : decode c9_R_shift 1 = .ok (.ifCond .lt 9, 3) := by decide +kernel
theorem d_R_shift_4 : decode c9_R_shift 4 = .ok (.iload_n 2, 1) := by decide +kernel
theorem d_R_shift_5 : decode c9_R_shift 5 = .ok (.bipush 16, 2) := by decide +kernel
theorem d_R_shift_7 : decode c9_R_shift 7 = .ok (.if_icmp .lt 5, 3) := by decide +kernel
theorem d_R_shift_10 : decode c9_R_shift 10 = .ok (.iconst (-1), 1) := by decide +kernel
theorem d_R_shift_11 : decode c9_R_shift 11 = .ok (.ireturn, 1) := by decide +kernel
theorem d_R_shift_12 : decode c9_R_shift 12 = .ok (.aload_n 0, 1) := by decide +kernel
theorem d_R_shift_13 : decode c9_R_shift 13 = .ok (.getstatic 117, 3) := by decide +kernel
theorem d_R_shift_16 : decode c9_R_shift 16 = .ok (.iload_n 1, 1) := by decide +kernel
theorem d_R_shift_17 : decode c9_R_shift 17 = .ok (.iload_n 1, 1) := by decide +kernel
theorem d_R_shift_18 : decode c9_R_shift 18 = .ok (.iload_n 2, 1) := by decide +kernel
theorem d_R_shift_19 : decode c9_R_shift 19 = .ok (.invokevirtual 107, 3) := by decide +kernel
theorem d_R_shift_22 : decode c9_R_shift 22 = .ok (.ireturn, 1) := by decide +kernel
theorem d_R_lowered_0 : decode c9_R_lowered 0 = .ok (.aload_n 0, 1) := by decide +kernel
theorem d_R_lowered_1 : decode c9_R_lowered 1 = .ok (.getstatic 120, 3) := by decide +kernel
theorem d_R_lowered_4 : decode c9_R_lowered 4 = .ok (.iload_n 1, 1) := by decide +kernel
theorem d_R_lowered_5 : decode c9_R_lowered 5 = .ok (.iload_n 1, 1) := by decide +kernel
theorem d_R_lowered_6 : decode c9_R_lowered 6 = .ok (.iconst 0, 1) := by decide +kernel
theorem d_R_lowered_7 : decode c9_R_lowered 7 = .ok (.invokevirtual 107, 3) := by decide +kernel
theorem d_R_lowered_10 : decode c9_R_lowered 10 = .ok (.ireturn, 1) := by decide +kernel
theorem d_R_count_0 : decode c9_R_count 0 = .ok (.aload_n 0, 1) := by decide +kernel
theorem d_R_count_1 : decode c9_R_count 1 = .ok (.getfield 31, 3) := by decide +kernel
theorem d_R_count_4 : decode c9_R_count 4 = .ok (.ireturn, 1) := by decide +kernel
theorem d_R_cut_0 : decode c9_R_cut 0 = .ok (.aload_n 0, 1) := by decide +kernel
theorem d_R_cut_1 : decode c9_R_cut 1 = .ok (.iload_n 1, 1) := by decide +kernel
theorem d_R_cut_2 : decode c9_R_cut 2 = .ok (.invokevirtual 123, 3) := by decide +kernel
theorem d_R_cut_5 : decode c9_R_cut 5 = .ok (.ifCond .ne 5, 3) := by decide +kernel
theorem d_R_cut_8 : decode c9_R_cut 8 = .ok (.iconst 0, 1) := by decide +kernel
theorem d_R_cut_9 : decode c9_R_cut 9 = .ok (.ireturn, 1) := by decide +kernel
theorem d_R_cut_10 : decode c9_R_cut 10 = .ok (.aload_n 0, 1) := by decide +kernel
theorem d_R_cut_11 : decode c9_R_cut 11 = .ok (.iload_n 1, 1) := by decide +kernel
theorem d_R_cut_12 : decode c9_R_cut 12 = .ok (.putfield 31, 3) := by decide +kernel
theorem d_R_cut_15 : decode c9_R_cut 15 = .ok (.aload_n 0, 1) := by decide +kernel
theorem d_R_cut_16 : decode c9_R_cut 16 = .ok (.aload_n 0, 1) := by decide +kernel
theorem d_R_cut_17 : decode c9_R_cut 17 = .ok (.getfield 35, 3) := by decide +kernel
theorem d_R_cut_20 : decode c9_R_cut 20 = .ok (.iload_n 1, 1) := by decide +kernel
theorem d_R_cut_21 : decode c9_R_cut 21 = .ok (.invokestatic 126, 3) := by decide +kernel
theorem d_R_cut_24 : decode c9_R_cut 24 = .ok (.putfield 35, 3) := by decide +kernel
theorem d_R_cut_27 : decode c9_R_cut 27 = .ok (.iconst 1, 1) := by decide +kernel
theorem d_R_cut_28 : decode c9_R_cut 28 = .ok (.ireturn, 1) := by decide +kernel
theorem d_R_run_0 : decode c9_R_run 0 = .ok (.aload_n 0, 1) := by decide +kernel
theorem d_R_run_1 : decode c9_R_run 1 = .ok (.getfield 35, 3) := by decide +kernel
theorem d_R_run_4 : decode c9_R_run 4 = .ok (.istore_n 1, 1) := by decide +kernel
theorem d_R_run_5 : decode c9_R_run 5 = .ok (.iload_n 1, 1) := by decide +kernel
theorem d_R_run_6 : decode c9_R_run 6 = .ok (.aload_n 0, 1) := by decide +kernel
theorem d_R_run_7 : decode c9_R_run 7 = .ok (.getfield 31, 3) := by decide +kernel
theorem d_R_run_10 : decode c9_R_run 10 = .ok (.if_icmp .ge 31, 3) := by decide +kernel
theorem d_R_run_13 : decode c9_R_run 13 = .ok (.aload_n 0, 1) := by decide +kernel
theorem d_R_run_14 : decode c9_R_run 14 = .ok (.aload_n 0, 1) := by decide +kernel
theorem d_R_run_15 : decode c9_R_run 15 = .ok (.getfield 27, 3) := by decide +kernel
theorem d_R_run_18 : decode c9_R_run 18 = .ok (.iload_n 1, 1) := by decide +kernel
theorem d_R_run_19 : decode c9_R_run 19 = .ok (.aaload, 1) := by decide +kernel
theorem d_R_run_20 : decode c9_R_run 20 = .ok (.invokevirtual 132, 3) := by decide +kernel
theorem d_R_run_23 : decode c9_R_run 23 = .ok (.ifCond .ne 5, 3) := by decide +kernel
theorem d_R_run_26 : decode c9_R_run 26 = .ok (.iload_n 1, 1) := by decide +kernel
theorem d_R_run_27 : decode c9_R_run 27 = .ok (.ireturn, 1) := by decide +kernel
theorem d_R_run_28 : decode c9_R_run 28 = .ok (.aload_n 0, 1) := by decide +kernel
theorem d_R_run_29 : decode c9_R_run 29 = .ok (.iload_n 1, 1) := by decide +kernel
theorem d_R_run_30 : decode c9_R_run 30 = .ok (.iconst 1, 1) := by decide +kernel
theorem d_R_run_31 : decode c9_R_run 31 = .ok (.iadd, 1) := by decide +kernel
theorem d_R_run_32 : decode c9_R_run 32 = .ok (.putfield 35, 3) := by decide +kernel
theorem d_R_run_35 : decode c9_R_run 35 = .ok (.iinc 1 1, 3) := by decide +kernel
theorem d_R_run_38 : decode c9_R_run 38 = .ok (.goto (-33), 3) := by decide +kernel
theorem d_R_run_41 : decode c9_R_run 41 = .ok (.iconst (-1), 1) := by decide +kernel
theorem d_R_run_42 : decode c9_R_run 42 = .ok (.ireturn, 1) := by decide +kernel
theorem d_R_giveValue_0 : decode c9_R_giveValue 0 = .ok (.getstatic 185, 3) := by decide +kernel
theorem d_R_giveValue_3 : decode c9_R_giveValue 3 = .ok (.aload_n 1, 1) := by decide +kernel
theorem d_R_giveValue_4 : decode c9_R_giveValue 4 = .ok (.getfield 190, 3) := by decide +kernel
theorem d_R_giveValue_7 : decode c9_R_giveValue 7 = .ok (.invokevirtual 193, 3) := by decide +kernel
theorem d_R_giveValue_10 : decode c9_R_giveValue 10 = .ok (.iaload, 1) := by decide +kernel
theorem d_R_giveValue_11 : decode c9_R_giveValue 11 = .ok (.tableswitch 169 1 5 #[33, 59, 85, 117, 142], 33) := by decide +kernel
theorem d_R_giveValue_44 : decode c9_R_giveValue 44 = .ok (.aload_n 0, 1) := by decide +kernel
theorem d_R_giveValue_45 : decode c9_R_giveValue 45 = .ok (.aload_n 1, 1) := by decide +kernel
theorem d_R_giveValue_46 : decode c9_R_giveValue 46 = .ok (.invokevirtual 214, 3) := by decide +kernel
theorem d_R_giveValue_49 : decode c9_R_giveValue 49 = .ok (.ifCond .eq 19, 3) := by decide +kernel
theorem d_R_giveValue_52 : decode c9_R_giveValue 52 = .ok (.aload_n 0, 1) := by decide +kernel
theorem d_R_giveValue_53 : decode c9_R_giveValue 53 = .ok (.aload_n 1, 1) := by decide +kernel
theorem d_R_giveValue_54 : decode c9_R_giveValue 54 = .ok (.getfield 139, 3) := by decide +kernel
theorem d_R_giveValue_57 : decode c9_R_giveValue 57 = .ok (.iconst 1, 1) := by decide +kernel
theorem d_R_giveValue_58 : decode c9_R_giveValue 58 = .ok (.invokevirtual 217, 3) := by decide +kernel
theorem d_R_giveValue_61 : decode c9_R_giveValue 61 = .ok (.ifCond .eq 7, 3) := by decide +kernel
theorem d_R_giveValue_64 : decode c9_R_giveValue 64 = .ok (.iconst 1, 1) := by decide +kernel
theorem d_R_giveValue_65 : decode c9_R_giveValue 65 = .ok (.goto 4, 3) := by decide +kernel
theorem d_R_giveValue_68 : decode c9_R_giveValue 68 = .ok (.iconst 0, 1) := by decide +kernel
theorem d_R_giveValue_69 : decode c9_R_giveValue 69 = .ok (.ireturn, 1) := by decide +kernel
theorem d_R_giveValue_70 : decode c9_R_giveValue 70 = .ok (.aload_n 0, 1) := by decide +kernel
theorem d_R_giveValue_71 : decode c9_R_giveValue 71 = .ok (.aload_n 1, 1) := by decide +kernel
theorem d_R_giveValue_72 : decode c9_R_giveValue 72 = .ok (.invokevirtual 214, 3) := by decide +kernel
theorem d_R_giveValue_75 : decode c9_R_giveValue 75 = .ok (.ifCond .eq 19, 3) := by decide +kernel
theorem d_R_giveValue_78 : decode c9_R_giveValue 78 = .ok (.aload_n 0, 1) := by decide +kernel
theorem d_R_giveValue_79 : decode c9_R_giveValue 79 = .ok (.aload_n 1, 1) := by decide +kernel
theorem d_R_giveValue_80 : decode c9_R_giveValue 80 = .ok (.getfield 139, 3) := by decide +kernel
theorem d_R_giveValue_83 : decode c9_R_giveValue 83 = .ok (.iconst (-1), 1) := by decide +kernel
theorem d_R_giveValue_84 : decode c9_R_giveValue 84 = .ok (.invokevirtual 217, 3) := by decide +kernel
theorem d_R_giveValue_87 : decode c9_R_giveValue 87 = .ok (.ifCond .eq 7, 3) := by decide +kernel
theorem d_R_giveValue_90 : decode c9_R_giveValue 90 = .ok (.iconst 1, 1) := by decide +kernel
theorem d_R_giveValue_91 : decode c9_R_giveValue 91 = .ok (.goto 4, 3) := by decide +kernel
theorem d_R_giveValue_94 : decode c9_R_giveValue 94 = .ok (.iconst 0, 1) := by decide +kernel
theorem d_R_giveValue_95 : decode c9_R_giveValue 95 = .ok (.ireturn, 1) := by decide +kernel
theorem d_R_giveValue_96 : decode c9_R_giveValue 96 = .ok (.aload_n 0, 1) := by decide +kernel
theorem d_R_giveValue_97 : decode c9_R_giveValue 97 = .ok (.aload_n 1, 1) := by decide +kernel
theorem d_R_giveValue_98 : decode c9_R_giveValue 98 = .ok (.invokevirtual 214, 3) := by decide +kernel
theorem d_R_giveValue_101 : decode c9_R_giveValue 101 = .ok (.ifCond .eq 25, 3) := by decide +kernel
theorem d_R_giveValue_104 : decode c9_R_giveValue 104 = .ok (.aload_n 0, 1) := by decide +kernel
theorem d_R_giveValue_105 : decode c9_R_giveValue 105 = .ok (.invokevirtual 221, 3) := by decide +kernel
theorem d_R_giveValue_108 : decode c9_R_giveValue 108 = .ok (.ifCond .eq 18, 3) := by decide +kernel
theorem d_R_giveValue_111 : decode c9_R_giveValue 111 = .ok (.aload_n 0, 1) := by decide +kernel
theorem d_R_giveValue_112 : decode c9_R_giveValue 112 = .ok (.aload_n 1, 1) := by decide +kernel
theorem d_R_giveValue_113 : decode c9_R_giveValue 113 = .ok (.getfield 139, 3) := by decide +kernel
theorem d_R_giveValue_116 : decode c9_R_giveValue 116 = .ok (.invokevirtual 225, 3) := by decide +kernel
theorem d_R_giveValue_119 : decode c9_R_giveValue 119 = .ok (.ifCond .eq 7, 3) := by decide +kernel
theorem d_R_giveValue_122 : decode c9_R_giveValue 122 = .ok (.iconst 1, 1) := by decide +kernel
theorem d_R_giveValue_123 : decode c9_R_giveValue 123 = .ok (.goto 4, 3) := by decide +kernel
theorem d_R_giveValue_126 : decode c9_R_giveValue 126 = .ok (.iconst 0, 1) := by decide +kernel
theorem d_R_giveValue_127 : decode c9_R_giveValue 127 = .ok (.ireturn, 1) := by decide +kernel
theorem d_R_giveValue_128 : decode c9_R_giveValue 128 = .ok (.aload_n 1, 1) := by decide +kernel
theorem d_R_giveValue_129 : decode c9_R_giveValue 129 = .ok (.getfield 139, 3) := by decide +kernel
theorem d_R_giveValue_132 : decode c9_R_giveValue 132 = .ok (.aload_n 0, 1) := by decide +kernel
theorem d_R_giveValue_133 : decode c9_R_giveValue 133 = .ok (.getfield 27, 3) := by decide +kernel
theorem d_R_giveValue_136 : decode c9_R_giveValue 136 = .ok (.aload_n 1, 1) := by decide +kernel
theorem d_R_giveValue_137 : decode c9_R_giveValue 137 = .ok (.getfield 229, 3) := by decide +kernel
theorem d_R_giveValue_140 : decode c9_R_giveValue 140 = .ok (.aaload, 1) := by decide +kernel
theorem d_R_giveValue_141 : decode c9_R_giveValue 141 = .ok (.getfield 139, 3) := by decide +kernel
theorem d_R_giveValue_144 : decode c9_R_giveValue 144 = .ok (.aload_n 1, 1) := by decide +kernel
theorem d_R_giveValue_145 : decode c9_R_giveValue 145 = .ok (.getfield 207, 3) := by decide +kernel
theorem d_R_giveValue_148 : decode c9_R_giveValue 148 = .ok (.invokestatic 232, 3) := by decide +kernel
theorem d_R_giveValue_151 : decode c9_R_giveValue 151 = .ok (.iconst 1, 1) := by decide +kernel
theorem d_R_giveValue_152 : decode c9_R_giveValue 152 = .ok (.ireturn, 1) := by decide +kernel
theorem d_R_giveValue_153 : decode c9_R_giveValue 153 = .ok (.aload_n 1, 1) := by decide +kernel
theorem d_R_giveValue_154 : decode c9_R_giveValue 154 = .ok (.getfield 139, 3) := by decide +kernel
theorem d_R_giveValue_157 : decode c9_R_giveValue 157 = .ok (.aload_n 0, 1) := by decide +kernel
theorem d_R_giveValue_158 : decode c9_R_giveValue 158 = .ok (.getfield 27, 3) := by decide +kernel
theorem d_R_giveValue_161 : decode c9_R_giveValue 161 = .ok (.aload_n 1, 1) := by decide +kernel
theorem d_R_giveValue_162 : decode c9_R_giveValue 162 = .ok (.getfield 229, 3) := by decide +kernel
theorem d_R_giveValue_165 : decode c9_R_giveValue 165 = .ok (.aaload, 1) := by decide +kernel
theorem d_R_giveValue_166 : decode c9_R_giveValue 166 = .ok (.getfield 139, 3) := by decide +kernel
theorem d_R_giveValue_169 : decode c9_R_giveValue 169 = .ok (.invokevirtual 236, 3) := by decide +kernel
theorem d_R_giveValue_172 : decode c9_R_giveValue 172 = .ok (.aload_n 1, 1) := by decide +kernel
theorem d_R_giveValue_173 : decode c9_R_giveValue 173 = .ok (.getfield 139, 3) := by decide +kernel
theorem d_R_giveValue_176 : decode c9_R_giveValue 176 = .ok (.invokevirtual 238, 3) := by decide +kernel
theorem d_R_giveValue_179 : decode c9_R_giveValue 179 = .ok (.ireturn, 1) := by decide +kernel
theorem d_R_giveValue_180 : decode c9_R_giveValue 180 = .ok (.aload_n 0, 1) := by decide +kernel
theorem d_R_giveValue_181 : decode c9_R_giveValue 181 = .ok (.aload_n 1, 1) := by decide +kernel
theorem d_R_giveValue_182 : decode c9_R_giveValue 182 = .ok (.getfield 139, 3) := by decide +kernel
theorem d_R_giveValue_185 : decode c9_R_giveValue 185 = .ok (.aload_n 1, 1) := by decide +kernel
theorem d_R_giveValue_186 : decode c9_R_giveValue 186 = .ok (.getfield 93, 3) := by decide +kernel
theorem d_R_giveValue_189 : decode c9_R_giveValue 189 = .ok (.aload_n 1, 1) := by decide +kernel
theorem d_R_giveValue_190 : decode c9_R_giveValue 190 = .ok (.getfield 207, 3) := by decide +kernel
theorem d_R_giveValue_193 : decode c9_R_giveValue 193 = .ok (.invokevirtual 241, 3) := by decide +kernel
theorem d_R_giveValue_196 : decode c9_R_giveValue 196 = .ok (.iconst 1, 1) := by decide +kernel
theorem d_R_giveValue_197 : decode c9_R_giveValue 197 = .ok (.ireturn, 1) := by decide +kernel
theorem d_R_takeOperands_0 : decode c9_R_takeOperands 0 = .ok (.aload_n 0, 1) := by decide +kernel
theorem d_R_takeOperands_1 : decode c9_R_takeOperands 1 = .ok (.getfield 41, 3) := by decide +kernel
theorem d_R_takeOperands_4 : decode c9_R_takeOperands 4 = .ok (.aload_n 0, 1) := by decide +kernel
theorem d_R_takeOperands_5 : decode c9_R_takeOperands 5 = .ok (.getfield 27, 3) := by decide +kernel
theorem d_R_takeOperands_8 : decode c9_R_takeOperands 8 = .ok (.aload_n 1, 1) := by decide +kernel
theorem d_R_takeOperands_9 : decode c9_R_takeOperands 9 = .ok (.getfield 229, 3) := by decide +kernel
theorem d_R_takeOperands_12 : decode c9_R_takeOperands 12 = .ok (.aaload, 1) := by decide +kernel
theorem d_R_takeOperands_13 : decode c9_R_takeOperands 13 = .ok (.getfield 139, 3) := by decide +kernel
theorem d_R_takeOperands_16 : decode c9_R_takeOperands 16 = .ok (.invokevirtual 236, 3) := by decide +kernel
theorem d_R_takeOperands_19 : decode c9_R_takeOperands 19 = .ok (.aload_n 0, 1) := by decide +kernel
theorem d_R_takeOperands_20 : decode c9_R_takeOperands 20 = .ok (.getfield 45, 3) := by decide +kernel
theorem d_R_takeOperands_23 : decode c9_R_takeOperands 23 = .ok (.aload_n 0, 1) := by decide +kernel
theorem d_R_takeOperands_24 : decode c9_R_takeOperands 24 = .ok (.getfield 27, 3) := by decide +kernel
theorem d_R_takeOperands_27 : decode c9_R_takeOperands 27 = .ok (.aload_n 1, 1) := by decide +kernel
theorem d_R_takeOperands_28 : decode c9_R_takeOperands 28 = .ok (.getfield 254, 3) := by decide +kernel
theorem d_R_takeOperands_31 : decode c9_R_takeOperands 31 = .ok (.aaload, 1) := by decide +kernel
theorem d_R_takeOperands_32 : decode c9_R_takeOperands 32 = .ok (.getfield 139, 3) := by decide +kernel
theorem d_R_takeOperands_35 : decode c9_R_takeOperands 35 = .ok (.invokevirtual 236, 3) := by decide +kernel
theorem d_R_takeOperands_38 : decode c9_R_takeOperands 38 = .ok (.aload_n 0, 1) := by decide +kernel
theorem d_R_takeOperands_39 : decode c9_R_takeOperands 39 = .ok (.getfield 41, 3) := by decide +kernel
theorem d_R_takeOperands_42 : decode c9_R_takeOperands 42 = .ok (.aload_n 0, 1) := by decide +kernel
theorem d_R_takeOperands_43 : decode c9_R_takeOperands 43 = .ok (.getfield 45, 3) := by decide +kernel
theorem d_R_takeOperands_46 : decode c9_R_takeOperands 46 = .ok (.getfield 142, 3) := by decide +kernel
theorem d_R_takeOperands_49 : decode c9_R_takeOperands 49 = .ok (.invokevirtual 257, 3) := by decide +kernel
theorem d_R_takeOperands_52 : decode c9_R_takeOperands 52 = .ok (.ifCond .eq 24, 3) := by decide +kernel
theorem d_R_takeOperands_55 : decode c9_R_takeOperands 55 = .ok (.aload_n 0, 1) := by decide +kernel
theorem d_R_takeOperands_56 : decode c9_R_takeOperands 56 = .ok (.getfield 45, 3) := by decide +kernel
theorem d_R_takeOperands_59 : decode c9_R_takeOperands 59 = .ok (.aload_n 0, 1) := by decide +kernel
theorem d_R_takeOperands_60 : decode c9_R_takeOperands 60 = .ok (.getfield 41, 3) := by decide +kernel
theorem d_R_takeOperands_63 : decode c9_R_takeOperands 63 = .ok (.getfield 142, 3) := by decide +kernel
theorem d_R_takeOperands_66 : decode c9_R_takeOperands 66 = .ok (.invokevirtual 257, 3) := by decide +kernel
theorem d_R_takeOperands_69 : decode c9_R_takeOperands 69 = .ok (.ifCond .eq 7, 3) := by decide +kernel
theorem d_R_takeOperands_72 : decode c9_R_takeOperands 72 = .ok (.iconst 1, 1) := by decide +kernel
theorem d_R_takeOperands_73 : decode c9_R_takeOperands 73 = .ok (.goto 4, 3) := by decide +kernel
theorem d_R_takeOperands_76 : decode c9_R_takeOperands 76 = .ok (.iconst 0, 1) := by decide +kernel
theorem d_R_takeOperands_77 : decode c9_R_takeOperands 77 = .ok (.ireturn, 1) := by decide +kernel
theorem d_R_giveSum_0 : decode c9_R_giveSum 0 = .ok (.aload_n 1, 1) := by decide +kernel
theorem d_R_giveSum_1 : decode c9_R_giveSum 1 = .ok (.aload_n 0, 1) := by decide +kernel
theorem d_R_giveSum_2 : decode c9_R_giveSum 2 = .ok (.getfield 41, 3) := by decide +kernel
theorem d_R_giveSum_5 : decode c9_R_giveSum 5 = .ok (.getfield 142, 3) := by decide +kernel
theorem d_R_giveSum_8 : decode c9_R_giveSum 8 = .ok (.putfield 142, 3) := by decide +kernel
theorem d_R_giveSum_11 : decode c9_R_giveSum 11 = .ok (.aload_n 1, 1) := by decide +kernel
theorem d_R_giveSum_12 : decode c9_R_giveSum 12 = .ok (.aload_n 0, 1) := by decide +kernel
theorem d_R_giveSum_13 : decode c9_R_giveSum 13 = .ok (.getfield 41, 3) := by decide +kernel
theorem d_R_giveSum_16 : decode c9_R_giveSum 16 = .ok (.getfield 145, 3) := by decide +kernel
theorem d_R_giveSum_19 : decode c9_R_giveSum 19 = .ok (.aload_n 0, 1) := by decide +kernel
theorem d_R_giveSum_20 : decode c9_R_giveSum 20 = .ok (.getfield 45, 3) := by decide +kernel
theorem d_R_giveSum_23 : decode c9_R_giveSum 23 = .ok (.getfield 145, 3) := by decide +kernel
theorem d_R_giveSum_26 : decode c9_R_giveSum 26 = .ok (.ladd, 1) := by decide +kernel
theorem d_R_giveSum_27 : decode c9_R_giveSum 27 = .ok (.putfield 145, 3) := by decide +kernel
theorem d_R_giveSum_30 : decode c9_R_giveSum 30 = .ok (.aload_n 1, 1) := by decide +kernel
theorem d_R_giveSum_31 : decode c9_R_giveSum 31 = .ok (.invokevirtual 262, 3) := by decide +kernel
theorem d_R_giveSum_34 : decode c9_R_giveSum 34 = .ok (.ifCond .eq 5, 3) := by decide +kernel
theorem d_R_giveSum_37 : decode c9_R_giveSum 37 = .ok (.iconst 0, 1) := by decide +kernel
theorem d_R_giveSum_38 : decode c9_R_giveSum 38 = .ok (.ireturn, 1) := by decide +kernel
theorem d_R_giveSum_39 : decode c9_R_giveSum 39 = .ok (.aload_n 1, 1) := by decide +kernel
theorem d_R_giveSum_40 : decode c9_R_giveSum 40 = .ok (.getfield 167, 3) := by decide +kernel
theorem d_R_giveSum_43 : decode c9_R_giveSum 43 = .ok (.aload_n 0, 1) := by decide +kernel
theorem d_R_giveSum_44 : decode c9_R_giveSum 44 = .ok (.getfield 41, 3) := by decide +kernel
theorem d_R_giveSum_47 : decode c9_R_giveSum 47 = .ok (.getfield 167, 3) := by decide +kernel
theorem d_R_giveSum_50 : decode c9_R_giveSum 50 = .ok (.iload_n 2, 1) := by decide +kernel
theorem d_R_giveSum_51 : decode c9_R_giveSum 51 = .ok (.aload_n 0, 1) := by decide +kernel
theorem d_R_giveSum_52 : decode c9_R_giveSum 52 = .ok (.getfield 45, 3) := by decide +kernel
theorem d_R_giveSum_55 : decode c9_R_giveSum 55 = .ok (.getfield 167, 3) := by decide +kernel
theorem d_R_giveSum_58 : decode c9_R_giveSum 58 = .ok (.aload_n 1, 1) := by decide +kernel
theorem d_R_giveSum_59 : decode c9_R_giveSum 59 = .ok (.getfield 142, 3) := by decide +kernel
theorem d_R_giveSum_62 : decode c9_R_giveSum 62 = .ok (.invokevirtual 196, 3) := by decide +kernel
theorem d_R_giveSum_65 : decode c9_R_giveSum 65 = .ok (.aload_n 1, 1) := by decide +kernel
theorem d_R_giveSum_66 : decode c9_R_giveSum 66 = .ok (.getfield 170, 3) := by decide +kernel
theorem d_R_giveSum_69 : decode c9_R_giveSum 69 = .ok (.aload_n 0, 1) := by decide +kernel
theorem d_R_giveSum_70 : decode c9_R_giveSum 70 = .ok (.getfield 41, 3) := by decide +kernel
theorem d_R_giveSum_73 : decode c9_R_giveSum 73 = .ok (.getfield 170, 3) := by decide +kernel
theorem d_R_giveSum_76 : decode c9_R_giveSum 76 = .ok (.iload_n 2, 1) := by decide +kernel
theorem d_R_giveSum_77 : decode c9_R_giveSum 77 = .ok (.aload_n 0, 1) := by decide +kernel
theorem d_R_giveSum_78 : decode c9_R_giveSum 78 = .ok (.getfield 45, 3) := by decide +kernel
theorem d_R_giveSum_81 : decode c9_R_giveSum 81 = .ok (.getfield 170, 3) := by decide +kernel
theorem d_R_giveSum_84 : decode c9_R_giveSum 84 = .ok (.aload_n 1, 1) := by decide +kernel
theorem d_R_giveSum_85 : decode c9_R_giveSum 85 = .ok (.getfield 142, 3) := by decide +kernel
theorem d_R_giveSum_88 : decode c9_R_giveSum 88 = .ok (.invokevirtual 196, 3) := by decide +kernel
theorem d_R_giveSum_91 : decode c9_R_giveSum 91 = .ok (.iconst 1, 1) := by decide +kernel
theorem d_R_giveSum_92 : decode c9_R_giveSum 92 = .ok (.ireturn, 1) := by decide +kernel
theorem d_R_quietenOperands_0 : decode c9_R_quietenOperands 0 = .ok (.aload_n 0, 1) := by decide +kernel
theorem d_R_quietenOperands_1 : decode c9_R_quietenOperands 1 = .ok (.getfield 41, 3) := by decide +kernel
theorem d_R_quietenOperands_4 : decode c9_R_quietenOperands 4 = .ok (.getfield 142, 3) := by decide +kernel
theorem d_R_quietenOperands_7 : decode c9_R_quietenOperands 7 = .ok (.istore_n 1, 1) := by decide +kernel
theorem d_R_quietenOperands_8 : decode c9_R_quietenOperands 8 = .ok (.iload_n 1, 1) := by decide +kernel
theorem d_R_quietenOperands_9 : decode c9_R_quietenOperands 9 = .ok (.ifCond .le 59, 3) := by decide +kernel
theorem d_R_quietenOperands_12 : decode c9_R_quietenOperands 12 = .ok (.aload_n 0, 1) := by decide +kernel
theorem d_R_quietenOperands_13 : decode c9_R_quietenOperands 13 = .ok (.getfield 41, 3) := by decide +kernel
theorem d_R_quietenOperands_16 : decode c9_R_quietenOperands 16 = .ok (.getfield 145, 3) := by decide +kernel
theorem d_R_quietenOperands_19 : decode c9_R_quietenOperands 19 = .ok (.ldc2_w 260, 3) := by decide +kernel
theorem d_R_quietenOperands_22 : decode c9_R_quietenOperands 22 = .ok (.lcmp, 1) := by decide +kernel
theorem d_R_quietenOperands_23 : decode c9_R_quietenOperands 23 = .ok (.ifCond .gt 17, 3) := by decide +kernel
theorem d_R_quietenOperands_26 : decode c9_R_quietenOperands 26 = .ok (.aload_n 0, 1) := by decide +kernel
theorem d_R_quietenOperands_27 : decode c9_R_quietenOperands 27 = .ok (.getfield 45, 3) := by decide +kernel
theorem d_R_quietenOperands_30 : decode c9_R_quietenOperands 30 = .ok (.getfield 145, 3) := by decide +kernel
theorem d_R_quietenOperands_33 : decode c9_R_quietenOperands 33 = .ok (.ldc2_w 260, 3) := by decide +kernel
theorem d_R_quietenOperands_36 : decode c9_R_quietenOperands 36 = .ok (.lcmp, 1) := by decide +kernel
theorem d_R_quietenOperands_37 : decode c9_R_quietenOperands 37 = .ok (.ifCond .le 31, 3) := by decide +kernel
theorem d_R_quietenOperands_40 : decode c9_R_quietenOperands 40 = .ok (.aload_n 0, 1) := by decide +kernel
theorem d_R_quietenOperands_41 : decode c9_R_quietenOperands 41 = .ok (.getfield 41, 3) := by decide +kernel
theorem d_R_quietenOperands_44 : decode c9_R_quietenOperands 44 = .ok (.invokevirtual 238, 3) := by decide +kernel
theorem d_R_quietenOperands_47 : decode c9_R_quietenOperands 47 = .ok (.ifCond .eq 13, 3) := by decide +kernel
theorem d_R_quietenOperands_50 : decode c9_R_quietenOperands 50 = .ok (.aload_n 0, 1) := by decide +kernel
theorem d_R_quietenOperands_51 : decode c9_R_quietenOperands 51 = .ok (.getfield 45, 3) := by decide +kernel
theorem d_R_quietenOperands_54 : decode c9_R_quietenOperands 54 = .ok (.invokevirtual 238, 3) := by decide +kernel
theorem d_R_quietenOperands_57 : decode c9_R_quietenOperands 57 = .ok (.ifCond .ne 5, 3) := by decide +kernel
theorem d_R_quietenOperands_60 : decode c9_R_quietenOperands 60 = .ok (.iconst 0, 1) := by decide +kernel
theorem d_R_quietenOperands_61 : decode c9_R_quietenOperands 61 = .ok (.ireturn, 1) := by decide +kernel
theorem d_R_quietenOperands_62 : decode c9_R_quietenOperands 62 = .ok (.iinc 1 (-1), 3) := by decide +kernel
theorem d_R_quietenOperands_65 : decode c9_R_quietenOperands 65 = .ok (.goto (-57), 3) := by decide +kernel
theorem d_R_quietenOperands_68 : decode c9_R_quietenOperands 68 = .ok (.iconst 1, 1) := by decide +kernel
theorem d_R_quietenOperands_69 : decode c9_R_quietenOperands 69 = .ok (.ireturn, 1) := by decide +kernel
theorem d_R_giveProduct_0 : decode c9_R_giveProduct 0 = .ok (.aload_n 1, 1) := by decide +kernel
theorem d_R_giveProduct_1 : decode c9_R_giveProduct 1 = .ok (.aload_n 0, 1) := by decide +kernel
theorem d_R_giveProduct_2 : decode c9_R_giveProduct 2 = .ok (.getfield 41, 3) := by decide +kernel
theorem d_R_giveProduct_5 : decode c9_R_giveProduct 5 = .ok (.getfield 142, 3) := by decide +kernel
theorem d_R_giveProduct_8 : decode c9_R_giveProduct 8 = .ok (.putfield 142, 3) := by decide +kernel
theorem d_R_giveProduct_11 : decode c9_R_giveProduct 11 = .ok (.aload_n 1, 1) := by decide +kernel
theorem d_R_giveProduct_12 : decode c9_R_giveProduct 12 = .ok (.ldc2_w 265, 3) := by decide +kernel
theorem d_R_giveProduct_15 : decode c9_R_giveProduct 15 = .ok (.aload_n 0, 1) := by decide +kernel
theorem d_R_giveProduct_16 : decode c9_R_giveProduct 16 = .ok (.getfield 41, 3) := by decide +kernel
theorem d_R_giveProduct_19 : decode c9_R_giveProduct 19 = .ok (.getfield 145, 3) := by decide +kernel
theorem d_R_giveProduct_22 : decode c9_R_giveProduct 22 = .ok (.lmul, 1) := by decide +kernel
theorem d_R_giveProduct_23 : decode c9_R_giveProduct 23 = .ok (.aload_n 0, 1) := by decide +kernel
theorem d_R_giveProduct_24 : decode c9_R_giveProduct 24 = .ok (.getfield 45, 3) := by decide +kernel
theorem d_R_giveProduct_27 : decode c9_R_giveProduct 27 = .ok (.getfield 145, 3) := by decide +kernel
theorem d_R_giveProduct_30 : decode c9_R_giveProduct 30 = .ok (.lmul, 1) := by decide +kernel
theorem d_R_giveProduct_31 : decode c9_R_giveProduct 31 = .ok (.aload_n 0, 1) := by decide +kernel
theorem d_R_giveProduct_32 : decode c9_R_giveProduct 32 = .ok (.getfield 41, 3) := by decide +kernel
theorem d_R_giveProduct_35 : decode c9_R_giveProduct 35 = .ok (.getfield 142, 3) := by decide +kernel
theorem d_R_giveProduct_38 : decode c9_R_giveProduct 38 = .ok (.invokestatic 267, 3) := by decide +kernel
theorem d_R_giveProduct_41 : decode c9_R_giveProduct 41 = .ok (.ladd, 1) := by decide +kernel
theorem d_R_giveProduct_42 : decode c9_R_giveProduct 42 = .ok (.putfield 145, 3) := by decide +kernel
theorem d_R_giveProduct_45 : decode c9_R_giveProduct 45 = .ok (.aload_n 1, 1) := by decide +kernel
theorem d_R_giveProduct_46 : decode c9_R_giveProduct 46 = .ok (.invokevirtual 262, 3) := by decide +kernel
theorem d_R_giveProduct_49 : decode c9_R_giveProduct 49 = .ok (.ifCond .eq 5, 3) := by decide +kernel
theorem d_R_giveProduct_52 : decode c9_R_giveProduct 52 = .ok (.iconst 0, 1) := by decide +kernel
theorem d_R_giveProduct_53 : decode c9_R_giveProduct 53 = .ok (.ireturn, 1) := by decide +kernel
theorem d_R_giveProduct_54 : decode c9_R_giveProduct 54 = .ok (.aload_n 0, 1) := by decide +kernel
theorem d_R_giveProduct_55 : decode c9_R_giveProduct 55 = .ok (.aload_n 1, 1) := by decide +kernel
theorem d_R_giveProduct_56 : decode c9_R_giveProduct 56 = .ok (.invokevirtual 271, 3) := by decide +kernel
theorem d_R_giveProduct_59 : decode c9_R_giveProduct 59 = .ok (.aload_n 0, 1) := by decide +kernel
theorem d_R_giveProduct_60 : decode c9_R_giveProduct 60 = .ok (.aload_n 1, 1) := by decide +kernel
theorem d_R_giveProduct_61 : decode c9_R_giveProduct 61 = .ok (.invokevirtual 274, 3) := by decide +kernel
theorem d_R_giveProduct_64 : decode c9_R_giveProduct 64 = .ok (.iconst 1, 1) := by decide +kernel
theorem d_R_giveProduct_65 : decode c9_R_giveProduct 65 = .ok (.ireturn, 1) := by decide +kernel
theorem d_R_switchingMeter_0 : decode c9_R_switchingMeter 0 = .ok (.lconst 0, 1) := by decide +kernel
theorem d_R_switchingMeter_1 : decode c9_R_switchingMeter 1 = .ok (.lstore_n 1, 1) := by decide +kernel
theorem d_R_switchingMeter_2 : decode c9_R_switchingMeter 2 = .ok (.iconst 0, 1) := by decide +kernel
theorem d_R_switchingMeter_3 : decode c9_R_switchingMeter 3 = .ok (.istore_n 3, 1) := by decide +kernel
theorem d_R_switchingMeter_4 : decode c9_R_switchingMeter 4 = .ok (.iload_n 3, 1) := by decide +kernel
theorem d_R_switchingMeter_5 : decode c9_R_switchingMeter 5 = .ok (.iload_n 0, 1) := by decide +kernel
theorem d_R_switchingMeter_6 : decode c9_R_switchingMeter 6 = .ok (.if_icmp .gt 20, 3) := by decide +kernel
theorem d_R_switchingMeter_9 : decode c9_R_switchingMeter 9 = .ok (.lload_n 1, 1) := by decide +kernel
theorem d_R_switchingMeter_10 : decode c9_R_switchingMeter 10 = .ok (.getstatic 277, 3) := by decide +kernel
theorem d_R_switchingMeter_13 : decode c9_R_switchingMeter 13 = .ok (.iload_n 3, 1) := by decide +kernel
theorem d_R_switchingMeter_14 : decode c9_R_switchingMeter 14 = .ok (.iaload, 1) := by decide +kernel
theorem d_R_switchingMeter_15 : decode c9_R_switchingMeter 15 = .ok (.iconst 1, 1) := by decide +kernel
theorem d_R_switchingMeter_16 : decode c9_R_switchingMeter 16 = .ok (.isub, 1) := by decide +kernel
theorem d_R_switchingMeter_17 : decode c9_R_switchingMeter 17 = .ok (.i2l, 1) := by decide +kernel
theorem d_R_switchingMeter_18 : decode c9_R_switchingMeter 18 = .ok (.ladd, 1) := by decide +kernel
theorem d_R_switchingMeter_19 : decode c9_R_switchingMeter 19 = .ok (.lstore_n 1, 1) := by decide +kernel
theorem d_R_switchingMeter_20 : decode c9_R_switchingMeter 20 = .ok (.iinc 3 1, 3) := by decide +kernel
theorem d_R_switchingMeter_23 : decode c9_R_switchingMeter 23 = .ok (.goto (-19), 3) := by decide +kernel
theorem d_R_switchingMeter_26 : decode c9_R_switchingMeter 26 = .ok (.ldc2_w 280, 3) := by decide +kernel
theorem d_R_switchingMeter_29 : decode c9_R_switchingMeter 29 = .ok (.lload_n 1, 1) := by decide +kernel
theorem d_R_switchingMeter_30 : decode c9_R_switchingMeter 30 = .ok (.lmul, 1) := by decide +kernel
theorem d_R_switchingMeter_31 : decode c9_R_switchingMeter 31 = .ok (.lreturn, 1) := by decide +kernel
theorem d_R_multiplyOperands_0 : decode c9_R_multiplyOperands 0 = .ok (.aload_n 1, 1) := by decide +kernel
theorem d_R_multiplyOperands_1 : decode c9_R_multiplyOperands 1 = .ok (.getfield 142, 3) := by decide +kernel
theorem d_R_multiplyOperands_4 : decode c9_R_multiplyOperands 4 = .ok (.istore_n 2, 1) := by decide +kernel
theorem d_R_multiplyOperands_5 : decode c9_R_multiplyOperands 5 = .ok (.aload_n 1, 1) := by decide +kernel
theorem d_R_multiplyOperands_6 : decode c9_R_multiplyOperands 6 = .ok (.getfield 167, 3) := by decide +kernel
theorem d_R_multiplyOperands_9 : decode c9_R_multiplyOperands 9 = .ok (.invokevirtual 200, 3) := by decide +kernel
theorem d_R_multiplyOperands_12 : decode c9_R_multiplyOperands 12 = .ok (.aload_n 1, 1) := by decide +kernel
theorem d_R_multiplyOperands_13 : decode c9_R_multiplyOperands 13 = .ok (.getfield 167, 3) := by decide +kernel
theorem d_R_multiplyOperands_16 : decode c9_R_multiplyOperands 16 = .ok (.iconst 1, 1) := by decide +kernel
theorem d_R_multiplyOperands_17 : decode c9_R_multiplyOperands 17 = .ok (.aload_n 0, 1) := by decide +kernel
theorem d_R_multiplyOperands_18 : decode c9_R_multiplyOperands 18 = .ok (.getfield 41, 3) := by decide +kernel
theorem d_R_multiplyOperands_21 : decode c9_R_multiplyOperands 21 = .ok (.getfield 167, 3) := by decide +kernel
theorem d_R_multiplyOperands_24 : decode c9_R_multiplyOperands 24 = .ok (.aload_n 0, 1) := by decide +kernel
theorem d_R_multiplyOperands_25 : decode c9_R_multiplyOperands 25 = .ok (.getfield 45, 3) := by decide +kernel
theorem d_R_multiplyOperands_28 : decode c9_R_multiplyOperands 28 = .ok (.getfield 167, 3) := by decide +kernel
theorem d_R_multiplyOperands_31 : decode c9_R_multiplyOperands 31 = .ok (.iload_n 2, 1) := by decide +kernel
theorem d_R_multiplyOperands_32 : decode c9_R_multiplyOperands 32 = .ok (.invokevirtual 203, 3) := by decide +kernel
theorem d_R_multiplyOperands_35 : decode c9_R_multiplyOperands 35 = .ok (.aload_n 1, 1) := by decide +kernel
theorem d_R_multiplyOperands_36 : decode c9_R_multiplyOperands 36 = .ok (.getfield 170, 3) := by decide +kernel
theorem d_R_multiplyOperands_39 : decode c9_R_multiplyOperands 39 = .ok (.invokevirtual 200, 3) := by decide +kernel
theorem d_R_multiplyOperands_42 : decode c9_R_multiplyOperands 42 = .ok (.aload_n 1, 1) := by decide +kernel
theorem d_R_multiplyOperands_43 : decode c9_R_multiplyOperands 43 = .ok (.getfield 170, 3) := by decide +kernel
theorem d_R_multiplyOperands_46 : decode c9_R_multiplyOperands 46 = .ok (.iconst 1, 1) := by decide +kernel
theorem d_R_multiplyOperands_47 : decode c9_R_multiplyOperands 47 = .ok (.aload_n 0, 1) := by decide +kernel
theorem d_R_multiplyOperands_48 : decode c9_R_multiplyOperands 48 = .ok (.getfield 41, 3) := by decide +kernel
theorem d_R_multiplyOperands_51 : decode c9_R_multiplyOperands 51 = .ok (.getfield 167, 3) := by decide +kernel
theorem d_R_multiplyOperands_54 : decode c9_R_multiplyOperands 54 = .ok (.aload_n 0, 1) := by decide +kernel
theorem d_R_multiplyOperands_55 : decode c9_R_multiplyOperands 55 = .ok (.getfield 45, 3) := by decide +kernel
theorem d_R_multiplyOperands_58 : decode c9_R_multiplyOperands 58 = .ok (.getfield 170, 3) := by decide +kernel
theorem d_R_multiplyOperands_61 : decode c9_R_multiplyOperands 61 = .ok (.iload_n 2, 1) := by decide +kernel
theorem d_R_multiplyOperands_62 : decode c9_R_multiplyOperands 62 = .ok (.invokevirtual 203, 3) := by decide +kernel
theorem d_R_multiplyOperands_65 : decode c9_R_multiplyOperands 65 = .ok (.aload_n 1, 1) := by decide +kernel
theorem d_R_multiplyOperands_66 : decode c9_R_multiplyOperands 66 = .ok (.getfield 170, 3) := by decide +kernel
theorem d_R_multiplyOperands_69 : decode c9_R_multiplyOperands 69 = .ok (.iconst 1, 1) := by decide +kernel
theorem d_R_multiplyOperands_70 : decode c9_R_multiplyOperands 70 = .ok (.aload_n 0, 1) := by decide +kernel
theorem d_R_multiplyOperands_71 : decode c9_R_multiplyOperands 71 = .ok (.getfield 41, 3) := by decide +kernel
theorem d_R_multiplyOperands_74 : decode c9_R_multiplyOperands 74 = .ok (.getfield 170, 3) := by decide +kernel
theorem d_R_multiplyOperands_77 : decode c9_R_multiplyOperands 77 = .ok (.aload_n 0, 1) := by decide +kernel
theorem d_R_multiplyOperands_78 : decode c9_R_multiplyOperands 78 = .ok (.getfield 45, 3) := by decide +kernel
theorem d_R_multiplyOperands_81 : decode c9_R_multiplyOperands 81 = .ok (.getfield 167, 3) := by decide +kernel
theorem d_R_multiplyOperands_84 : decode c9_R_multiplyOperands 84 = .ok (.iload_n 2, 1) := by decide +kernel
theorem d_R_multiplyOperands_85 : decode c9_R_multiplyOperands 85 = .ok (.invokevirtual 203, 3) := by decide +kernel
theorem d_R_multiplyOperands_88 : decode c9_R_multiplyOperands 88 = .ok (.aload_n 0, 1) := by decide +kernel
theorem d_R_multiplyOperands_89 : decode c9_R_multiplyOperands 89 = .ok (.getfield 48, 3) := by decide +kernel
theorem d_R_multiplyOperands_92 : decode c9_R_multiplyOperands 92 = .ok (.invokevirtual 200, 3) := by decide +kernel
theorem d_R_multiplyOperands_95 : decode c9_R_multiplyOperands 95 = .ok (.aload_n 0, 1) := by decide +kernel
theorem d_R_multiplyOperands_96 : decode c9_R_multiplyOperands 96 = .ok (.getfield 48, 3) := by decide +kernel
theorem d_R_multiplyOperands_99 : decode c9_R_multiplyOperands 99 = .ok (.iconst 1, 1) := by decide +kernel
theorem d_R_multiplyOperands_100 : decode c9_R_multiplyOperands 100 = .ok (.aload_n 0, 1) := by decide +kernel
theorem d_R_multiplyOperands_101 : decode c9_R_multiplyOperands 101 = .ok (.getfield 41, 3) := by decide +kernel
theorem d_R_multiplyOperands_104 : decode c9_R_multiplyOperands 104 = .ok (.getfield 170, 3) := by decide +kernel
theorem d_R_multiplyOperands_107 : decode c9_R_multiplyOperands 107 = .ok (.aload_n 0, 1) := by decide +kernel
theorem d_R_multiplyOperands_108 : decode c9_R_multiplyOperands 108 = .ok (.getfield 45, 3) := by decide +kernel
theorem d_R_multiplyOperands_111 : decode c9_R_multiplyOperands 111 = .ok (.getfield 170, 3) := by decide +kernel
theorem d_R_multiplyOperands_114 : decode c9_R_multiplyOperands 114 = .ok (.iload_n 2, 1) := by decide +kernel
theorem d_R_multiplyOperands_115 : decode c9_R_multiplyOperands 115 = .ok (.invokevirtual 203, 3) := by decide +kernel
theorem d_R_multiplyOperands_118 : decode c9_R_multiplyOperands 118 = .ok (.return_, 1) := by decide +kernel
theorem d_R_switchSquare_0 : decode c9_R_switchSquare 0 = .ok (.aload_n 1, 1) := by decide +kernel
theorem d_R_switchSquare_1 : decode c9_R_switchSquare 1 = .ok (.getfield 142, 3) := by decide +kernel
theorem d_R_switchSquare_4 : decode c9_R_switchSquare 4 = .ok (.istore_n 2, 1) := by decide +kernel
theorem d_R_switchSquare_5 : decode c9_R_switchSquare 5 = .ok (.iconst 0, 1) := by decide +kernel
theorem d_R_switchSquare_6 : decode c9_R_switchSquare 6 = .ok (.istore_n 3, 1) := by decide +kernel
theorem d_R_switchSquare_7 : decode c9_R_switchSquare 7 = .ok (.iload_n 3, 1) := by decide +kernel
theorem d_R_switchSquare_8 : decode c9_R_switchSquare 8 = .ok (.iload_n 2, 1) := by decide +kernel
theorem d_R_switchSquare_9 : decode c9_R_switchSquare 9 = .ok (.if_icmp .gt 66, 3) := by decide +kernel
theorem d_R_switchSquare_12 : decode c9_R_switchSquare 12 = .ok (.aload_n 0, 1) := by decide +kernel
theorem d_R_switchSquare_13 : decode c9_R_switchSquare 13 = .ok (.getfield 51, 3) := by decide +kernel
theorem d_R_switchSquare_16 : decode c9_R_switchSquare 16 = .ok (.aload_n 0, 1) := by decide +kernel
theorem d_R_switchSquare_17 : decode c9_R_switchSquare 17 = .ok (.getfield 48, 3) := by decide +kernel
theorem d_R_switchSquare_20 : decode c9_R_switchSquare 20 = .ok (.iload_n 3, 1) := by decide +kernel
theorem d_R_switchSquare_21 : decode c9_R_switchSquare 21 = .ok (.iload_n 2, 1) := by decide +kernel
theorem d_R_switchSquare_22 : decode c9_R_switchSquare 22 = .ok (.invokevirtual 282, 3) := by decide +kernel
theorem d_R_switchSquare_25 : decode c9_R_switchSquare 25 = .ok (.aload_n 1, 1) := by decide +kernel
theorem d_R_switchSquare_26 : decode c9_R_switchSquare 26 = .ok (.getfield 167, 3) := by decide +kernel
theorem d_R_switchSquare_29 : decode c9_R_switchSquare 29 = .ok (.iconst 1, 1) := by decide +kernel
theorem d_R_switchSquare_30 : decode c9_R_switchSquare 30 = .ok (.aload_n 0, 1) := by decide +kernel
theorem d_R_switchSquare_31 : decode c9_R_switchSquare 31 = .ok (.getfield 51, 3) := by decide +kernel
theorem d_R_switchSquare_34 : decode c9_R_switchSquare 34 = .ok (.aload_n 0, 1) := by decide +kernel
theorem d_R_switchSquare_35 : decode c9_R_switchSquare 35 = .ok (.getfield 66, 3) := by decide +kernel
theorem d_R_switchSquare_38 : decode c9_R_switchSquare 38 = .ok (.getfield 285, 3) := by decide +kernel
theorem d_R_switchSquare_41 : decode c9_R_switchSquare 41 = .ok (.iload_n 3, 1) := by decide +kernel
theorem d_R_switchSquare_42 : decode c9_R_switchSquare 42 = .ok (.aaload, 1) := by decide +kernel
theorem d_R_switchSquare_43 : decode c9_R_switchSquare 43 = .ok (.iload_n 2, 1) := by decide +kernel
theorem d_R_switchSquare_44 : decode c9_R_switchSquare 44 = .ok (.invokevirtual 203, 3) := by decide +kernel
theorem d_R_switchSquare_47 : decode c9_R_switchSquare 47 = .ok (.aload_n 1, 1) := by decide +kernel
theorem d_R_switchSquare_48 : decode c9_R_switchSquare 48 = .ok (.getfield 170, 3) := by decide +kernel
theorem d_R_switchSquare_51 : decode c9_R_switchSquare 51 = .ok (.iconst 1, 1) := by decide +kernel
theorem d_R_switchSquare_52 : decode c9_R_switchSquare 52 = .ok (.aload_n 0, 1) := by decide +kernel
theorem d_R_switchSquare_53 : decode c9_R_switchSquare 53 = .ok (.getfield 51, 3) := by decide +kernel
theorem d_R_switchSquare_56 : decode c9_R_switchSquare 56 = .ok (.aload_n 0, 1) := by decide +kernel
theorem d_R_switchSquare_57 : decode c9_R_switchSquare 57 = .ok (.getfield 66, 3) := by decide +kernel
theorem d_R_switchSquare_60 : decode c9_R_switchSquare 60 = .ok (.getfield 288, 3) := by decide +kernel
theorem d_R_switchSquare_63 : decode c9_R_switchSquare 63 = .ok (.iload_n 3, 1) := by decide +kernel
theorem d_R_switchSquare_64 : decode c9_R_switchSquare 64 = .ok (.aaload, 1) := by decide +kernel
theorem d_R_switchSquare_65 : decode c9_R_switchSquare 65 = .ok (.iload_n 2, 1) := by decide +kernel
theorem d_R_switchSquare_66 : decode c9_R_switchSquare 66 = .ok (.invokevirtual 203, 3) := by decide +kernel
theorem d_R_switchSquare_69 : decode c9_R_switchSquare 69 = .ok (.iinc 3 1, 3) := by decide +kernel
theorem d_R_switchSquare_72 : decode c9_R_switchSquare 72 = .ok (.goto (-65), 3) := by decide +kernel
theorem d_R_switchSquare_75 : decode c9_R_switchSquare 75 = .ok (.return_, 1) := by decide +kernel
theorem d_R_turnValue_0 : decode c9_R_turnValue 0 = .ok (.aload_n 0, 1) := by decide +kernel
theorem d_R_turnValue_1 : decode c9_R_turnValue 1 = .ok (.aload_n 1, 1) := by decide +kernel
theorem d_R_turnValue_2 : decode c9_R_turnValue 2 = .ok (.getfield 142, 3) := by decide +kernel
theorem d_R_turnValue_5 : decode c9_R_turnValue 5 = .ok (.putfield 142, 3) := by decide +kernel
theorem d_R_turnValue_8 : decode c9_R_turnValue 8 = .ok (.aload_n 0, 1) := by decide +kernel
theorem d_R_turnValue_9 : decode c9_R_turnValue 9 = .ok (.aload_n 1, 1) := by decide +kernel
theorem d_R_turnValue_10 : decode c9_R_turnValue 10 = .ok (.getfield 145, 3) := by decide +kernel
theorem d_R_turnValue_13 : decode c9_R_turnValue 13 = .ok (.putfield 145, 3) := by decide +kernel
theorem d_R_turnValue_16 : decode c9_R_turnValue 16 = .ok (.aload_n 0, 1) := by decide +kernel
theorem d_R_turnValue_17 : decode c9_R_turnValue 17 = .ok (.getfield 167, 3) := by decide +kernel
theorem d_R_turnValue_20 : decode c9_R_turnValue 20 = .ok (.aload_n 1, 1) := by decide +kernel
theorem d_R_turnValue_21 : decode c9_R_turnValue 21 = .ok (.getfield 167, 3) := by decide +kernel
theorem d_R_turnValue_24 : decode c9_R_turnValue 24 = .ok (.iload_n 2, 1) := by decide +kernel
theorem d_R_turnValue_25 : decode c9_R_turnValue 25 = .ok (.aload_n 1, 1) := by decide +kernel
theorem d_R_turnValue_26 : decode c9_R_turnValue 26 = .ok (.getfield 142, 3) := by decide +kernel
theorem d_R_turnValue_29 : decode c9_R_turnValue 29 = .ok (.invokevirtual 210, 3) := by decide +kernel
theorem d_R_turnValue_32 : decode c9_R_turnValue 32 = .ok (.aload_n 0, 1) := by decide +kernel
theorem d_R_turnValue_33 : decode c9_R_turnValue 33 = .ok (.getfield 170, 3) := by decide +kernel
theorem d_R_turnValue_36 : decode c9_R_turnValue 36 = .ok (.aload_n 1, 1) := by decide +kernel
theorem d_R_turnValue_37 : decode c9_R_turnValue 37 = .ok (.getfield 170, 3) := by decide +kernel
theorem d_R_turnValue_40 : decode c9_R_turnValue 40 = .ok (.iload_n 2, 1) := by decide +kernel
theorem d_R_turnValue_41 : decode c9_R_turnValue 41 = .ok (.aload_n 1, 1) := by decide +kernel
theorem d_R_turnValue_42 : decode c9_R_turnValue 42 = .ok (.getfield 142, 3) := by decide +kernel
theorem d_R_turnValue_45 : decode c9_R_turnValue 45 = .ok (.invokevirtual 210, 3) := by decide +kernel
theorem d_R_turnValue_48 : decode c9_R_turnValue 48 = .ok (.return_, 1) := by decide +kernel
theorem d_R_hideMessage_0 : decode c9_R_hideMessage 0 = .ok (.aload_n 1, 1) := by decide +kernel
theorem d_R_hideMessage_1 : decode c9_R_hideMessage 1 = .ok (.iconst 3, 1) := by decide +kernel
theorem d_R_hideMessage_2 : decode c9_R_hideMessage 2 = .ok (.putfield 142, 3) := by decide +kernel
theorem d_R_hideMessage_5 : decode c9_R_hideMessage 5 = .ok (.aload_n 1, 1) := by decide +kernel
theorem d_R_hideMessage_6 : decode c9_R_hideMessage 6 = .ok (.ldc2_w 245, 3) := by decide +kernel
theorem d_R_hideMessage_9 : decode c9_R_hideMessage 9 = .ok (.putfield 145, 3) := by decide +kernel
theorem d_R_hideMessage_12 : decode c9_R_hideMessage 12 = .ok (.aload_n 0, 1) := by decide +kernel
theorem d_R_hideMessage_13 : decode c9_R_hideMessage 13 = .ok (.getfield 12, 3) := by decide +kernel
theorem d_R_hideMessage_16 : decode c9_R_hideMessage 16 = .ok (.iload_n 3, 1) := by decide +kernel
theorem d_R_hideMessage_17 : decode c9_R_hideMessage 17 = .ok (.invokevirtual 57, 3) := by decide +kernel
theorem d_R_hideMessage_20 : decode c9_R_hideMessage 20 = .ok (.aload_n 0, 1) := by decide +kernel
theorem d_R_hideMessage_21 : decode c9_R_hideMessage 21 = .ok (.getfield 66, 3) := by decide +kernel
theorem d_R_hideMessage_24 : decode c9_R_hideMessage 24 = .ok (.aload_n 0, 1) := by decide +kernel
theorem d_R_hideMessage_25 : decode c9_R_hideMessage 25 = .ok (.getfield 12, 3) := by decide +kernel
theorem d_R_hideMessage_28 : decode c9_R_hideMessage 28 = .ok (.aload_n 1, 1) := by decide +kernel
theorem d_R_hideMessage_29 : decode c9_R_hideMessage 29 = .ok (.getfield 167, 3) := by decide +kernel
theorem d_R_hideMessage_32 : decode c9_R_hideMessage 32 = .ok (.aload_n 1, 1) := by decide +kernel
theorem d_R_hideMessage_33 : decode c9_R_hideMessage 33 = .ok (.getfield 170, 3) := by decide +kernel
theorem d_R_hideMessage_36 : decode c9_R_hideMessage 36 = .ok (.invokevirtual 247, 3) := by decide +kernel
theorem d_R_hideMessage_39 : decode c9_R_hideMessage 39 = .ok (.aload_n 1, 1) := by decide +kernel
theorem d_R_hideMessage_40 : decode c9_R_hideMessage 40 = .ok (.getfield 167, 3) := by decide +kernel
theorem d_R_hideMessage_43 : decode c9_R_hideMessage 43 = .ok (.aload_n 2, 1) := by decide +kernel
theorem d_R_hideMessage_44 : decode c9_R_hideMessage 44 = .ok (.invokevirtual 251, 3) := by decide +kernel
theorem d_R_hideMessage_47 : decode c9_R_hideMessage 47 = .ok (.return_, 1) := by decide +kernel
theorem d_R_level_0 : decode c9_R_level 0 = .ok (.aload_n 0, 1) := by decide +kernel
theorem d_R_level_1 : decode c9_R_level 1 = .ok (.iload_n 1, 1) := by decide +kernel
theorem d_R_level_2 : decode c9_R_level 2 = .ok (.invokevirtual 136, 3) := by decide +kernel
theorem d_R_level_5 : decode c9_R_level 5 = .ok (.ifCond .eq 18, 3) := by decide +kernel
theorem d_R_level_8 : decode c9_R_level 8 = .ok (.aload_n 0, 1) := by decide +kernel
theorem d_R_level_9 : decode c9_R_level 9 = .ok (.getfield 27, 3) := by decide +kernel
theorem d_R_level_12 : decode c9_R_level 12 = .ok (.iload_n 1, 1) := by decide +kernel
theorem d_R_level_13 : decode c9_R_level 13 = .ok (.aaload, 1) := by decide +kernel
theorem d_R_level_14 : decode c9_R_level 14 = .ok (.getfield 139, 3) := by decide +kernel
theorem d_R_level_17 : decode c9_R_level 17 = .ok (.getfield 142, 3) := by decide +kernel
theorem d_R_level_20 : decode c9_R_level 20 = .ok (.goto 4, 3) := by decide +kernel
theorem d_R_level_23 : decode c9_R_level 23 = .ok (.iconst (-1), 1) := by decide +kernel
theorem d_R_level_24 : decode c9_R_level 24 = .ok (.ireturn, 1) := by decide +kernel
theorem d_R_hasValue_0 : decode c9_R_hasValue 0 = .ok (.iload_n 1, 1) := by decide +kernel
theorem d_R_hasValue_1 : decode c9_R_hasValue 1 = .ok (.ifCond .lt 15, 3) := by decide +kernel
theorem d_R_hasValue_4 : decode c9_R_hasValue 4 = .ok (.iload_n 1, 1) := by decide +kernel
theorem d_R_hasValue_5 : decode c9_R_hasValue 5 = .ok (.aload_n 0, 1) := by decide +kernel
theorem d_R_hasValue_6 : decode c9_R_hasValue 6 = .ok (.getfield 35, 3) := by decide +kernel
theorem d_R_hasValue_9 : decode c9_R_hasValue 9 = .ok (.if_icmp .ge 7, 3) := by decide +kernel
theorem d_R_hasValue_12 : decode c9_R_hasValue 12 = .ok (.iconst 1, 1) := by decide +kernel
theorem d_R_hasValue_13 : decode c9_R_hasValue 13 = .ok (.goto 4, 3) := by decide +kernel
theorem d_R_hasValue_16 : decode c9_R_hasValue 16 = .ok (.iconst 0, 1) := by decide +kernel
theorem d_R_hasValue_17 : decode c9_R_hasValue 17 = .ok (.ireturn, 1) := by decide +kernel
theorem d_R_meter_0 : decode c9_R_meter 0 = .ok (.aload_n 0, 1) := by decide +kernel
theorem d_R_meter_1 : decode c9_R_meter 1 = .ok (.iload_n 1, 1) := by decide +kernel
theorem d_R_meter_2 : decode c9_R_meter 2 = .ok (.invokevirtual 136, 3) := by decide +kernel
theorem d_R_meter_5 : decode c9_R_meter 5 = .ok (.ifCond .eq 18, 3) := by decide +kernel
theorem d_R_meter_8 : decode c9_R_meter 8 = .ok (.aload_n 0, 1) := by decide +kernel
theorem d_R_meter_9 : decode c9_R_meter 9 = .ok (.getfield 27, 3) := by decide +kernel
theorem d_R_meter_12 : decode c9_R_meter 12 = .ok (.iload_n 1, 1) := by decide +kernel
theorem d_R_meter_13 : decode c9_R_meter 13 = .ok (.aaload, 1) := by decide +kernel
theorem d_R_meter_14 : decode c9_R_meter 14 = .ok (.getfield 139, 3) := by decide +kernel
theorem d_R_meter_17 : decode c9_R_meter 17 = .ok (.getfield 145, 3) := by decide +kernel
theorem d_R_meter_20 : decode c9_R_meter 20 = .ok (.goto 6, 3) := by decide +kernel
theorem d_R_meter_23 : decode c9_R_meter 23 = .ok (.ldc2_w 149, 3) := by decide +kernel
theorem d_R_meter_26 : decode c9_R_meter 26 = .ok (.lreturn, 1) := by decide +kernel
theorem d_R_noise_0 : decode c9_R_noise 0 = .ok (.aload_n 0, 1) := by decide +kernel
theorem d_R_noise_1 : decode c9_R_noise 1 = .ok (.iload_n 1, 1) := by decide +kernel
theorem d_R_noise_2 : decode c9_R_noise 2 = .ok (.invokevirtual 136, 3) := by decide +kernel
theorem d_R_noise_5 : decode c9_R_noise 5 = .ok (.ifCond .ne 7, 3) := by decide +kernel
theorem d_R_noise_8 : decode c9_R_noise 8 = .ok (.ldc2_w 149, 3) := by decide +kernel
theorem d_R_noise_11 : decode c9_R_noise 11 = .ok (.lreturn, 1) := by decide +kernel
theorem d_R_noise_12 : decode c9_R_noise 12 = .ok (.aload_n 0, 1) := by decide +kernel
theorem d_R_noise_13 : decode c9_R_noise 13 = .ok (.getfield 27, 3) := by decide +kernel
theorem d_R_noise_16 : decode c9_R_noise 16 = .ok (.iload_n 1, 1) := by decide +kernel
theorem d_R_noise_17 : decode c9_R_noise 17 = .ok (.aaload, 1) := by decide +kernel
theorem d_R_noise_18 : decode c9_R_noise 18 = .ok (.getfield 139, 3) := by decide +kernel
theorem d_R_noise_21 : decode c9_R_noise 21 = .ok (.astore_n 2, 1) := by decide +kernel
theorem d_R_noise_22 : decode c9_R_noise 22 = .ok (.aload_n 0, 1) := by decide +kernel
theorem d_R_noise_23 : decode c9_R_noise 23 = .ok (.aload_n 2, 1) := by decide +kernel
theorem d_R_noise_24 : decode c9_R_noise 24 = .ok (.invokevirtual 151, 3) := by decide +kernel
theorem d_R_noise_27 : decode c9_R_noise 27 = .ok (.lconst 0, 1) := by decide +kernel
theorem d_R_noise_28 : decode c9_R_noise 28 = .ok (.lstore_n 3, 1) := by decide +kernel
theorem d_R_noise_29 : decode c9_R_noise 29 = .ok (.iconst 0, 1) := by decide +kernel
theorem d_R_noise_30 : decode c9_R_noise 30 = .ok (.istore 5, 2) := by decide +kernel
theorem d_R_noise_32 : decode c9_R_noise 32 = .ok (.iload 5, 2) := by decide +kernel
theorem d_R_noise_34 : decode c9_R_noise 34 = .ok (.bipush 8, 2) := by decide +kernel
theorem d_R_noise_36 : decode c9_R_noise 36 = .ok (.if_icmp .ge 30, 3) := by decide +kernel
theorem d_R_noise_39 : decode c9_R_noise 39 = .ok (.lload_n 3, 1) := by decide +kernel
theorem d_R_noise_40 : decode c9_R_noise 40 = .ok (.aload_n 0, 1) := by decide +kernel
theorem d_R_noise_41 : decode c9_R_noise 41 = .ok (.getfield 54, 3) := by decide +kernel
theorem d_R_noise_44 : decode c9_R_noise 44 = .ok (.iload 5, 2) := by decide +kernel
theorem d_R_noise_46 : decode c9_R_noise 46 = .ok (.aload_n 2, 1) := by decide +kernel
theorem d_R_noise_47 : decode c9_R_noise 47 = .ok (.getfield 142, 3) := by decide +kernel
theorem d_R_noise_50 : decode c9_R_noise 50 = .ok (.invokevirtual 155, 3) := by decide +kernel
theorem d_R_noise_53 : decode c9_R_noise 53 = .ok (.invokestatic 159, 3) := by decide +kernel
theorem d_R_noise_56 : decode c9_R_noise 56 = .ok (.invokestatic 163, 3) := by decide +kernel
theorem d_R_noise_59 : decode c9_R_noise 59 = .ok (.lstore_n 3, 1) := by decide +kernel
theorem d_R_noise_60 : decode c9_R_noise 60 = .ok (.iinc 5 1, 3) := by decide +kernel
theorem d_R_noise_63 : decode c9_R_noise 63 = .ok (.goto (-31), 3) := by decide +kernel
theorem d_R_noise_66 : decode c9_R_noise 66 = .ok (.lload_n 3, 1) := by decide +kernel
theorem d_R_noise_67 : decode c9_R_noise 67 = .ok (.lreturn, 1) := by decide +kernel
theorem d_R_openValue_0 : decode c9_R_openValue 0 = .ok (.aload_n 0, 1) := by decide +kernel
theorem d_R_openValue_1 : decode c9_R_openValue 1 = .ok (.getfield 54, 3) := by decide +kernel
theorem d_R_openValue_4 : decode c9_R_openValue 4 = .ok (.aload_n 1, 1) := by decide +kernel
theorem d_R_openValue_5 : decode c9_R_openValue 5 = .ok (.getfield 167, 3) := by decide +kernel
theorem d_R_openValue_8 : decode c9_R_openValue 8 = .ok (.invokevirtual 96, 3) := by decide +kernel
theorem d_R_openValue_11 : decode c9_R_openValue 11 = .ok (.aload_n 0, 1) := by decide +kernel
theorem d_R_openValue_12 : decode c9_R_openValue 12 = .ok (.getfield 54, 3) := by decide +kernel
theorem d_R_openValue_15 : decode c9_R_openValue 15 = .ok (.iconst 1, 1) := by decide +kernel
theorem d_R_openValue_16 : decode c9_R_openValue 16 = .ok (.aload_n 1, 1) := by decide +kernel
theorem d_R_openValue_17 : decode c9_R_openValue 17 = .ok (.getfield 170, 3) := by decide +kernel
theorem d_R_openValue_20 : decode c9_R_openValue 20 = .ok (.aload_n 0, 1) := by decide +kernel
theorem d_R_openValue_21 : decode c9_R_openValue 21 = .ok (.getfield 66, 3) := by decide +kernel
theorem d_R_openValue_24 : decode c9_R_openValue 24 = .ok (.getfield 176, 3) := by decide +kernel
theorem d_R_openValue_27 : decode c9_R_openValue 27 = .ok (.aload_n 1, 1) := by decide +kernel
theorem d_R_openValue_28 : decode c9_R_openValue 28 = .ok (.getfield 142, 3) := by decide +kernel
theorem d_R_openValue_31 : decode c9_R_openValue 31 = .ok (.invokevirtual 203, 3) := by decide +kernel
theorem d_R_openValue_34 : decode c9_R_openValue 34 = .ok (.return_, 1) := by decide +kernel
theorem d_R_part_0 : decode c9_R_part 0 = .ok (.aload_n 0, 1) := by decide +kernel
theorem d_R_part_1 : decode c9_R_part 1 = .ok (.iload_n 1, 1) := by decide +kernel
theorem d_R_part_2 : decode c9_R_part 2 = .ok (.invokevirtual 136, 3) := by decide +kernel
theorem d_R_part_5 : decode c9_R_part 5 = .ok (.ifCond .eq 19, 3) := by decide +kernel
theorem d_R_part_8 : decode c9_R_part 8 = .ok (.iload_n 2, 1) := by decide +kernel
theorem d_R_part_9 : decode c9_R_part 9 = .ok (.ifCond .lt 15, 3) := by decide +kernel
theorem d_R_part_12 : decode c9_R_part 12 = .ok (.iload_n 2, 1) := by decide +kernel
theorem d_R_part_13 : decode c9_R_part 13 = .ok (.iconst 1, 1) := by decide +kernel
theorem d_R_part_14 : decode c9_R_part 14 = .ok (.if_icmp .gt 10, 3) := by decide +kernel
theorem d_R_part_17 : decode c9_R_part 17 = .ok (.iload_n 3, 1) := by decide +kernel
theorem d_R_part_18 : decode c9_R_part 18 = .ok (.invokestatic 71, 3) := by decide +kernel
theorem d_R_part_21 : decode c9_R_part 21 = .ok (.ifCond .ne 7, 3) := by decide +kernel
theorem d_R_part_24 : decode c9_R_part 24 = .ok (.ldc2_w 149, 3) := by decide +kernel
theorem d_R_part_27 : decode c9_R_part 27 = .ok (.lreturn, 1) := by decide +kernel
theorem d_R_part_28 : decode c9_R_part 28 = .ok (.aload_n 0, 1) := by decide +kernel
theorem d_R_part_29 : decode c9_R_part 29 = .ok (.getfield 27, 3) := by decide +kernel
theorem d_R_part_32 : decode c9_R_part 32 = .ok (.iload_n 1, 1) := by decide +kernel
theorem d_R_part_33 : decode c9_R_part 33 = .ok (.aaload, 1) := by decide +kernel
theorem d_R_part_34 : decode c9_R_part 34 = .ok (.getfield 139, 3) := by decide +kernel
theorem d_R_part_37 : decode c9_R_part 37 = .ok (.astore 4, 2) := by decide +kernel
theorem d_R_part_39 : decode c9_R_part 39 = .ok (.iload_n 2, 1) := by decide +kernel
theorem d_R_part_40 : decode c9_R_part 40 = .ok (.ifCond .ne 11, 3) := by decide +kernel
theorem d_R_part_43 : decode c9_R_part 43 = .ok (.aload 4, 2) := by decide +kernel
theorem d_R_part_45 : decode c9_R_part 45 = .ok (.getfield 167, 3) := by decide +kernel
theorem d_R_part_48 : decode c9_R_part 48 = .ok (.goto 8, 3) := by decide +kernel
theorem d_R_part_51 : decode c9_R_part 51 = .ok (.aload 4, 2) := by decide +kernel
theorem d_R_part_53 : decode c9_R_part 53 = .ok (.getfield 170, 3) := by decide +kernel
theorem d_R_part_56 : decode c9_R_part 56 = .ok (.astore 5, 2) := by decide +kernel
theorem d_R_part_58 : decode c9_R_part 58 = .ok (.aload 5, 2) := by decide +kernel
theorem d_R_part_60 : decode c9_R_part 60 = .ok (.iload_n 3, 1) := by decide +kernel
theorem d_R_part_61 : decode c9_R_part 61 = .ok (.aload 4, 2) := by decide +kernel
theorem d_R_part_63 : decode c9_R_part 63 = .ok (.getfield 142, 3) := by decide +kernel
theorem d_R_part_66 : decode c9_R_part 66 = .ok (.invokevirtual 173, 3) := by decide +kernel
theorem d_R_part_69 : decode c9_R_part 69 = .ok (.lreturn, 1) := by decide +kernel
theorem d_R_decrypted_0 : decode c9_R_decrypted 0 = .ok (.aload_n 0, 1) := by decide +kernel
theorem d_R_decrypted_1 : decode c9_R_decrypted 1 = .ok (.iload_n 1, 1) := by decide +kernel
theorem d_R_decrypted_2 : decode c9_R_decrypted 2 = .ok (.invokevirtual 136, 3) := by decide +kernel
theorem d_R_decrypted_5 : decode c9_R_decrypted 5 = .ok (.ifCond .eq 10, 3) := by decide +kernel
theorem d_R_decrypted_8 : decode c9_R_decrypted 8 = .ok (.iload_n 2, 1) := by decide +kernel
theorem d_R_decrypted_9 : decode c9_R_decrypted 9 = .ok (.invokestatic 71, 3) := by decide +kernel
theorem d_R_decrypted_12 : decode c9_R_decrypted 12 = .ok (.ifCond .ne 5, 3) := by decide +kernel
theorem d_R_decrypted_15 : decode c9_R_decrypted 15 = .ok (.iconst (-1), 1) := by decide +kernel
theorem d_R_decrypted_16 : decode c9_R_decrypted 16 = .ok (.ireturn, 1) := by decide +kernel
theorem d_R_decrypted_17 : decode c9_R_decrypted 17 = .ok (.aload_n 0, 1) := by decide +kernel
theorem d_R_decrypted_18 : decode c9_R_decrypted 18 = .ok (.getfield 27, 3) := by decide +kernel
theorem d_R_decrypted_21 : decode c9_R_decrypted 21 = .ok (.iload_n 1, 1) := by decide +kernel
theorem d_R_decrypted_22 : decode c9_R_decrypted 22 = .ok (.aaload, 1) := by decide +kernel
theorem d_R_decrypted_23 : decode c9_R_decrypted 23 = .ok (.getfield 139, 3) := by decide +kernel
theorem d_R_decrypted_26 : decode c9_R_decrypted 26 = .ok (.astore_n 3, 1) := by decide +kernel
theorem d_R_decrypted_27 : decode c9_R_decrypted 27 = .ok (.aload_n 0, 1) := by decide +kernel
theorem d_R_decrypted_28 : decode c9_R_decrypted 28 = .ok (.aload_n 3, 1) := by decide +kernel
theorem d_R_decrypted_29 : decode c9_R_decrypted 29 = .ok (.invokevirtual 151, 3) := by decide +kernel
theorem d_R_decrypted_32 : decode c9_R_decrypted 32 = .ok (.aload_n 0, 1) := by decide +kernel
theorem d_R_decrypted_33 : decode c9_R_decrypted 33 = .ok (.getfield 54, 3) := by decide +kernel
theorem d_R_decrypted_36 : decode c9_R_decrypted 36 = .ok (.iload_n 2, 1) := by decide +kernel
theorem d_R_decrypted_37 : decode c9_R_decrypted 37 = .ok (.aload_n 3, 1) := by decide +kernel
theorem d_R_decrypted_38 : decode c9_R_decrypted 38 = .ok (.getfield 142, 3) := by decide +kernel
theorem d_R_decrypted_41 : decode c9_R_decrypted 41 = .ok (.invokevirtual 155, 3) := by decide +kernel
theorem d_R_decrypted_44 : decode c9_R_decrypted 44 = .ok (.bipush 17, 2) := by decide +kernel
theorem d_R_decrypted_46 : decode c9_R_decrypted 46 = .ok (.invokestatic 79, 3) := by decide +kernel
theorem d_R_decrypted_49 : decode c9_R_decrypted 49 = .ok (.ireturn, 1) := by decide +kernel
theorem d_R_plain_0 : decode c9_R_plain 0 = .ok (.aload_n 0, 1) := by decide +kernel
theorem d_R_plain_1 : decode c9_R_plain 1 = .ok (.iload_n 1, 1) := by decide +kernel
theorem d_R_plain_2 : decode c9_R_plain 2 = .ok (.invokevirtual 123, 3) := by decide +kernel
theorem d_R_plain_5 : decode c9_R_plain 5 = .ok (.ifCond .eq 27, 3) := by decide +kernel
theorem d_R_plain_8 : decode c9_R_plain 8 = .ok (.iload_n 2, 1) := by decide +kernel
theorem d_R_plain_9 : decode c9_R_plain 9 = .ok (.invokestatic 71, 3) := by decide +kernel
theorem d_R_plain_12 : decode c9_R_plain 12 = .ok (.ifCond .eq 20, 3) := by decide +kernel
theorem d_R_plain_15 : decode c9_R_plain 15 = .ok (.aload_n 0, 1) := by decide +kernel
theorem d_R_plain_16 : decode c9_R_plain 16 = .ok (.getfield 27, 3) := by decide +kernel
theorem d_R_plain_19 : decode c9_R_plain 19 = .ok (.iload_n 1, 1) := by decide +kernel
theorem d_R_plain_20 : decode c9_R_plain 20 = .ok (.aaload, 1) := by decide +kernel
theorem d_R_plain_21 : decode c9_R_plain 21 = .ok (.getfield 93, 3) := by decide +kernel
theorem d_R_plain_24 : decode c9_R_plain 24 = .ok (.getfield 75, 3) := by decide +kernel
theorem d_R_plain_27 : decode c9_R_plain 27 = .ok (.iload_n 2, 1) := by decide +kernel
theorem d_R_plain_28 : decode c9_R_plain 28 = .ok (.iaload, 1) := by decide +kernel
theorem d_R_plain_29 : decode c9_R_plain 29 = .ok (.goto 4, 3) := by decide +kernel
theorem d_R_plain_32 : decode c9_R_plain 32 = .ok (.iconst (-1), 1) := by decide +kernel
theorem d_R_plain_33 : decode c9_R_plain 33 = .ok (.ireturn, 1) := by decide +kernel
theorem d_R_secret_0 : decode c9_R_secret 0 = .ok (.iload_n 1, 1) := by decide +kernel
theorem d_R_secret_1 : decode c9_R_secret 1 = .ok (.invokestatic 71, 3) := by decide +kernel
theorem d_R_secret_4 : decode c9_R_secret 4 = .ok (.ifCond .eq 19, 3) := by decide +kernel
theorem d_R_secret_7 : decode c9_R_secret 7 = .ok (.aload_n 0, 1) := by decide +kernel
theorem d_R_secret_8 : decode c9_R_secret 8 = .ok (.getfield 66, 3) := by decide +kernel
theorem d_R_secret_11 : decode c9_R_secret 11 = .ok (.getfield 176, 3) := by decide +kernel
theorem d_R_secret_14 : decode c9_R_secret 14 = .ok (.iload_n 1, 1) := by decide +kernel
theorem d_R_secret_15 : decode c9_R_secret 15 = .ok (.iconst 0, 1) := by decide +kernel
theorem d_R_secret_16 : decode c9_R_secret 16 = .ok (.invokevirtual 155, 3) := by decide +kernel
theorem d_R_secret_19 : decode c9_R_secret 19 = .ok (.l2i, 1) := by decide +kernel
theorem d_R_secret_20 : decode c9_R_secret 20 = .ok (.goto 4, 3) := by decide +kernel
theorem d_R_secret_23 : decode c9_R_secret 23 = .ok (.iconst 0, 1) := by decide +kernel
theorem d_R_secret_24 : decode c9_R_secret 24 = .ok (.ireturn, 1) := by decide +kernel
end
section
abbrev rm_c_R_init : Room := { frames := 4, cells := 235, slots := 3680, locals := 100 }
set_option maxHeartbeats 4000000 in
set_option maxRecDepth 100000 in
/-- LevelledRing(z0) -/
theorem c_R_init (l : Launch) (D : va_G) (ct : Nat → ClassId) (st ke : Nat → Nat) (b : Nat) (u : Nat → va_E) (z0 : Int32) (f0 : u 0 = .inr (5, [.null, .null, .null, .null, .int (iI (0)), .int (iI (0)), .null, .null, .null, .null, .null])) : Met l y_R_init (w_R_init) rm_c_R_init (va_Pc [.ref (b + 0), .int z0] (fun U => ev D ct st ke b U ∧ U.heap.size = b + 1 ∧ va_P D vwCl (wl 1 b u) U.heap)) (va_Qv (fun z : Nat → va_E => ∀ (G : Int → Gt) (V : Int → Val), CS ct b ke z (kyO z0) 0 0 (fun _ => 0) G V) (fun (z : Nat → va_E) t => va_P D vwCl (wl (236) b (z)) t.heap) (AA b)) 235 3680 (AA b) := by
  refine M_c (cc := c9_R_init) (maxL := 3) (by decide) rfl (Nat.le_of_ble_eq_true rfl) ?_
  intro p e s m args below meth c Q ls H locs hx hb hml hown hts hnm E hsz hP hS hl ret
  have hl : lv_has ls 3 [(0, .ref (b + 0)), (1, .int z0)] := hl
  have hK := ev_K E
  have kk0 := hts (.methodLink "LevelledRing" 3 objectInit) (List.mem_cons_of_mem _ t_18)
  have kk1 := hts (.instanceMethod objectInit) (List.mem_cons_of_mem _ t_19)
  have kk2 := hts (.code objectInit ⟨#[0xb1]⟩ 1 none) (List.mem_cons_of_mem _ t_20)
  have kk3 := hts (.classLink "LevelledRing" 9 "LevelledRing$Drawing") (List.mem_cons_of_mem _ t_21)
  have kk4 := hts (.instantiable "LevelledRing$Drawing" 1) (List.mem_cons_of_mem _ t_22)
  have kk5 := hts (.initialized "LevelledRing$Drawing") (List.mem_cons_of_mem _ t_2)
  have hinD : ∀ w ∈ u_ws "LevelledRing$Drawing" T_D 1, w ∈ (w_R_init) := hin_D _
  have kk7 := hts (.instanceMethod y_D_init) (List.mem_cons_of_mem _ t_24)
  have kn8 : va_Nw (.methodLinkNest "LevelledRing" 11 y_D_init "LevelledRing") s := ev_W E _ nw_0
  have kk9 := hts (.fieldLink "LevelledRing" 12 "LevelledRing" "drawing" "LLevelledRing$Drawing;") (List.mem_cons_of_mem _ t_173)
  have hinR : ∀ w ∈ u_ws "LevelledRing" T_R 11, w ∈ (w_R_init) := hin_R _
  have kk11 := hts (.classLink "LevelledRing" 16 "LevelledRing$Poly") (List.mem_cons_of_mem _ t_31)
  have kk12 := hts (.instantiable "LevelledRing$Poly" 2) (List.mem_cons_of_mem _ t_32)
  have kk13 := hts (.initialized "LevelledRing$Poly") (List.mem_cons_of_mem _ t_3)
  have hinP : ∀ w ∈ u_ws "LevelledRing$Poly" T_P 2, w ∈ (w_R_init) := hin_P _
  have kk15 := hts (.instanceMethod y_P_init) (List.mem_cons_of_mem _ t_34)
  have kk16 := hts (.methodLink "LevelledRing" 18 y_P_init) (List.mem_cons_of_mem _ t_33)
  have kk17 := hts (.fieldLink "LevelledRing" 21 "LevelledRing" "message" "LLevelledRing$Poly;") (List.mem_cons_of_mem _ t_175)
  have kk18 := hts (.classLink "LevelledRing" 25 "LevelledRing$Gate") (List.mem_cons_of_mem _ t_46)
  have kk19 := hts (.fieldLink "LevelledRing" 27 "LevelledRing" "gates" "[LLevelledRing$Gate;") (List.mem_cons_of_mem _ t_176)
  have kk20 := hts (.fieldLink "LevelledRing" 31 "LevelledRing" "gateCount" "I") (List.mem_cons_of_mem _ t_177)
  have kk21 := hts (.fieldLink "LevelledRing" 35 "LevelledRing" "valueCount" "I") (List.mem_cons_of_mem _ t_178)
  have kk22 := hts (.classLink "LevelledRing" 38 "LevelledRing$Value") (List.mem_cons_of_mem _ t_48)
  have kk23 := hts (.instantiable "LevelledRing$Value" 4) (List.mem_cons_of_mem _ t_49)
  have kk24 := hts (.initialized "LevelledRing$Value") (List.mem_cons_of_mem _ t_4)
  have hinV : ∀ w ∈ u_ws "LevelledRing$Value" T_V 4, w ∈ (w_R_init) := hin_V _
  have kk26 := hts (.instanceMethod y_V_init) (List.mem_cons_of_mem _ t_51)
  have kn27 : va_Nw (.methodLinkNest "LevelledRing" 40 y_V_init "LevelledRing") s := ev_W E _ nw_1
  have kk28 := hts (.fieldLink "LevelledRing" 41 "LevelledRing" "left" "LLevelledRing$Value;") (List.mem_cons_of_mem _ t_179)
  have kk29 := hts (.fieldLink "LevelledRing" 45 "LevelledRing" "right" "LLevelledRing$Value;") (List.mem_cons_of_mem _ t_180)
  have kk30 := hts (.fieldLink "LevelledRing" 48 "LevelledRing" "square" "LLevelledRing$Poly;") (List.mem_cons_of_mem _ t_181)
  have kk31 := hts (.fieldLink "LevelledRing" 51 "LevelledRing" "digit" "LLevelledRing$Poly;") (List.mem_cons_of_mem _ t_182)
  have kk32 := hts (.fieldLink "LevelledRing" 54 "LevelledRing" "opened" "LLevelledRing$Poly;") (List.mem_cons_of_mem _ t_183)
  have kk33 := hts (.classLink "LevelledRing" 61 "LevelledRing$Keys") (List.mem_cons_of_mem _ t_77)
  have kk34 := hts (.instantiable "LevelledRing$Keys" 3) (List.mem_cons_of_mem _ t_78)
  have kk35 := hts (.initialized "LevelledRing$Keys") (List.mem_cons_of_mem _ t_5)
  have hinK : ∀ w ∈ u_ws "LevelledRing$Keys" T_K 3, w ∈ (w_R_init) := hin_K _
  have kk37 := hts (.instanceMethod y_K_init) (List.mem_cons_of_mem _ t_80)
  have kk38 := hts (.methodLink "LevelledRing" 63 y_K_init) (List.mem_cons_of_mem _ t_79)
  have kk39 := hts (.fieldLink "LevelledRing" 66 "LevelledRing" "keys" "LLevelledRing$Keys;") (List.mem_cons_of_mem _ t_174)
  have kk40 := hts (.instantiable "LevelledRing$Gate" 6) (List.mem_cons_of_mem _ t_137)
  have kk41 := hts (.initialized "LevelledRing$Gate") (List.mem_cons_of_mem _ t_6)
  have hinG : ∀ w ∈ u_ws "LevelledRing$Gate" T_G 6, w ∈ (w_R_init) := hin_G _
  have kk43 := hts (.instanceMethod y_G_init) (List.mem_cons_of_mem _ t_139)
  have kn44 : va_Nw (.methodLinkNest "LevelledRing" 70 y_G_init "LevelledRing") s := ev_W E _ nw_4
  have fr0 : ∀ j : Nat, (j < 0) → u j = u j := fun _ _ => rfl
  refine lv_aload_n hx hb d_R_init_0 rfl (lv_at hl 0 rfl) ?_
  refine W.objInit hx hb hown kk0 kk1 kk2 rfl (by rw [hml]; exact hl.1) rfl d_R_init_1 (Nat.le_of_ble_eq_true rfl) (Nat.le_of_ble_eq_true rfl) ?_
  refine W.eq (g2 := F0 m 4 ls []) rfl ?_
  refine lv_aload_n hx hb d_R_init_4 rfl (lv_at hl 0 rfl) ?_
  refine w_new (C := "LevelledRing$Drawing") (T := T_D) (M := 1) (ci := 0) (fs := [.int (iI (0))]) hx hb hts hinD ty_D tyok_D hown kk3 kk4 kk5 hK hP hS (ev_b E) (by omega) rfl (fun j hj => by rcases (show j = 0 by omega) with rfl <;> rfl) (Nat.le_of_ble_eq_true rfl) (Nat.le_of_ble_eq_true rfl) d_R_init_5 (fun H hP hS => ?_)
  obtain ⟨u1, hu2, hP⟩ : ∃ zz : Nat → va_E, zz = va_up u 1 (.inr (0, [.int (iI (0))])) ∧ va_P D vwCl (wl 2 b zz) H := ⟨_, rfl, hP⟩
  have ff3 : u1 0 = .inr (5, [.null, .null, .null, .null, .int (iI (0)), .int (iI (0)), .null, .null, .null, .null, .null]) := (congrFun hu2 _).trans ((up_n (by omega)).trans f0)
  have ff4 : u1 1 = .inr (0, [.int (iI (0))]) := (congrFun hu2 _).trans up_s
  have fr5 : ∀ j : Nat, (j < 0) → u1 j = u j := fun j h0 => (congrFun hu2 j).trans ((up_n (by omega)).trans (fr0 j h0))
  refine lv_dup hx hb d_R_init_8 rfl ?_
  refine w_callv (va_runIN (As := []) (rest := [.ref (b + 1), .ref (b + 0)]) ⟨hx, hb, hml, hown, hts⟩ (c_D_init l D ct st ke b 2 u1 1 (by decide) (iI 0) ff4) ⟨va_cnB 0 hts (gC t_25) rfl rfl rfl kn8 kk5 (by decide +kernel) ⟨Nat.le_of_ble_eq_true rfl, Nat.le_of_ble_eq_true rfl⟩, rfl, kk7⟩ (pre_S E hP hS) rfl rfl hl.1 rfl (lv_room (Nat.le_of_ble_eq_true rfl)) d_R_init_9 ⟨(Nat.le_of_ble_eq_true rfl), (Nat.le_of_ble_eq_true rfl)⟩) hS (fun z6 H locs hz hP hS => ?_)
  obtain ⟨hd1, hd2⟩ := hz
  have ff8 : z6 0 = .inr (5, [.null, .null, .null, .null, .int (iI (0)), .int (iI (0)), .null, .null, .null, .null, .null]) := (hd2 0 (by omega)).trans ff3
  have fr9 : ∀ j : Nat, (j < 0) → z6 j = u j := fun j h0 => (hd2 j (by omega)).trans (fr5 j h0)
  refine w_putF (C := "LevelledRing") (T := T_R) (M := 11) (ty := (.object "LevelledRing$Drawing")) (v := .ref (b + 1)) hx hb hts hinR ty_R tyok_R nm_R hown hK hP hS (0) (by omega) ff8 rfl 0 (by decide) kk9 (fun _ h => h) rfl hnm rfl (by decide +kernel) rfl rfl (Nat.le_of_ble_eq_true rfl) d_R_init_12 (fun H locs hP hS => ?_)
  obtain ⟨u10, hu11, hP⟩ : ∃ zz : Nat → va_E, zz = va_up z6 0 (.inr (5, [.ref (b + 1), .null, .null, .null, .int (iI (0)), .int (iI (0)), .null, .null, .null, .null, .null])) ∧ va_P D vwCl (wl 2 b zz) H := ⟨_, rfl, hP⟩
  have ff12 : u10 0 = .inr (5, [.ref (b + 1), .null, .null, .null, .int (iI (0)), .int (iI (0)), .null, .null, .null, .null, .null]) := (congrFun hu11 _).trans up_s
  have ff13 : u10 1 = .inr (0, [.int (0)]) := (congrFun hu11 _).trans ((up_n (by omega)).trans hd1)
  have fr14 : ∀ j : Nat, (j < 0) → u10 j = u j := fun j h0 => (congrFun hu11 j).trans ((up_n (by omega)).trans (fr9 j h0))
  refine lv_aload_n hx hb d_R_init_15 rfl (lv_at hl 0 rfl) ?_
  refine w_new (C := "LevelledRing$Poly") (T := T_P) (M := 2) (ci := 3) (fs := [.int (iI (0)), .null]) hx hb hts hinP ty_P tyok_P hown kk11 kk12 kk13 hK hP hS (ev_b E) (by omega) rfl (fun j hj => by rcases (show j = 0 ∨ j = 1 by omega) with rfl | rfl <;> rfl) (Nat.le_of_ble_eq_true rfl) (Nat.le_of_ble_eq_true rfl) d_R_init_16 (fun H hP hS => ?_)
  obtain ⟨u15, hu16, hP⟩ : ∃ zz : Nat → va_E, zz = va_up u10 2 (.inr (3, [.int (iI (0)), .null])) ∧ va_P D vwCl (wl 3 b zz) H := ⟨_, rfl, hP⟩
  have ff17 : u15 0 = .inr (5, [.ref (b + 1), .null, .null, .null, .int (iI (0)), .int (iI (0)), .null, .null, .null, .null, .null]) := (congrFun hu16 _).trans ((up_n (by omega)).trans ff12)
  have ff18 : u15 1 = .inr (0, [.int (0)]) := (congrFun hu16 _).trans ((up_n (by omega)).trans ff13)
  have ff19 : u15 2 = .inr (3, [.int (iI (0)), .null]) := (congrFun hu16 _).trans up_s
  have fr20 : ∀ j : Nat, (j < 0) → u15 j = u j := fun j h0 => (congrFun hu16 j).trans ((up_n (by omega)).trans (fr14 j h0))
  refine lv_dup hx hb d_R_init_19 rfl ?_
  refine lv_iconst (v := iI (1)) hx hb d_R_init_20 rfl ?_
  refine w_sz hP (by omega) (by omega) (fun hHs => ?_)
  refine w_callv (va_runI (As := [.int (iI (1))]) (rest := [.ref (b + 2), .ref (b + 0)]) ⟨hx, hb, hml, hown, hts⟩ (c_P_init l D ct st ke b u15 (2) 8 1 (Or.inl ⟨rfl, rfl⟩) ff19) (cwI 1 hts (gC t_35) rfl rfl rfl kk13 kk16 kk15 rfl (by decide +kernel) ⟨Nat.le_of_ble_eq_true rfl, Nat.le_of_ble_eq_true rfl⟩) (pre_C E hP hS hHs) rfl rfl hl.1 rfl (lv_room (Nat.le_of_ble_eq_true rfl)) d_R_init_21 ⟨(Nat.le_of_ble_eq_true rfl), (Nat.le_of_ble_eq_true rfl)⟩) hS (fun z21 H locs hz hP hS => ?_)
  obtain ⟨hq23, hq24, hzf25⟩ := hz
  have ff26 : z21 0 = .inr (5, [.ref (b + 1), .null, .null, .null, .int (iI (0)), .int (iI (0)), .null, .null, .null, .null, .null]) := (hzf25 0 (by omega) (by omega)).trans ff17
  have ff27 : z21 1 = .inr (0, [.int (0)]) := (hzf25 1 (by omega) (by omega)).trans ff18
  have fr28 : ∀ j : Nat, (j < 0) → z21 j = u j := fun j h0 => (hzf25 j (by omega) (by omega)).trans (fr20 j h0)
  refine w_putF (C := "LevelledRing") (T := T_R) (M := 11) (ty := (.object "LevelledRing$Poly")) (v := .ref (b + 2)) hx hb hts hinR ty_R tyok_R nm_R hown hK hP hS (0) (by omega) ff26 rfl 2 (by decide) kk17 (fun _ h => h) rfl hnm rfl (by decide +kernel) rfl rfl (Nat.le_of_ble_eq_true rfl) d_R_init_24 (fun H locs hP hS => ?_)
  obtain ⟨u29, hu30, hP⟩ : ∃ zz : Nat → va_E, zz = va_up z21 0 (.inr (5, [.ref (b + 1), .null, .ref (b + 2), .null, .int (iI (0)), .int (iI (0)), .null, .null, .null, .null, .null])) ∧ va_P D vwCl (wl 4 b zz) H := ⟨_, rfl, hP⟩
  have ff31 : u29 0 = .inr (5, [.ref (b + 1), .null, .ref (b + 2), .null, .int (iI (0)), .int (iI (0)), .null, .null, .null, .null, .null]) := (congrFun hu30 _).trans up_s
  have ff32 : u29 1 = .inr (0, [.int (0)]) := (congrFun hu30 _).trans ((up_n (by omega)).trans ff27)
  have ff33 : u29 2 = .inr (3, [.int (iI (1)), .ref (b + 3)]) := (congrFun hu30 _).trans ((up_n (by omega)).trans hq23)
  have ff34 : u29 3 = ir ct 8 (fun _ => 0) := (congrFun hu30 _).trans ((up_n (by omega)).trans hq24)
  have fr35 : ∀ j : Nat, (j < 0) → u29 j = u j := fun j h0 => (congrFun hu30 j).trans ((up_n (by omega)).trans (fr28 j h0))
  refine lv_aload_n hx hb d_R_init_27 rfl (lv_at hl 0 rfl) ?_
  refine lv_bipush (v := iI (24)) hx hb d_R_init_28 (by decide +kernel) ?_
  refine w_newq (n := 24) hx hb hown kk18 (ev_AG E) 3 rfl hK hP hS (ev_b E) (by omega) (by decide) (Nat.le_of_ble_eq_true rfl) (Nat.le_of_ble_eq_true rfl) d_R_init_30 (fun H hP hS => ?_)
  obtain ⟨u36, hu37, hP⟩ : ∃ zz : Nat → va_E, zz = va_up u29 4 (qr ct 3 24 (fun _ => none)) ∧ va_P D vwCl (wl 5 b zz) H := ⟨_, rfl, hP⟩
  have ff38 : u36 0 = .inr (5, [.ref (b + 1), .null, .ref (b + 2), .null, .int (iI (0)), .int (iI (0)), .null, .null, .null, .null, .null]) := (congrFun hu37 _).trans ((up_n (by omega)).trans ff31)
  have ff39 : u36 1 = .inr (0, [.int (0)]) := (congrFun hu37 _).trans ((up_n (by omega)).trans ff32)
  have ff40 : u36 2 = .inr (3, [.int (iI (1)), .ref (b + 3)]) := (congrFun hu37 _).trans ((up_n (by omega)).trans ff33)
  have ff41 : u36 3 = ir ct 8 (fun _ => 0) := (congrFun hu37 _).trans ((up_n (by omega)).trans ff34)
  have ff42 : u36 4 = qr ct 3 24 (fun _ => none) := (congrFun hu37 _).trans up_s
  have fr43 : ∀ j : Nat, (j < 0) → u36 j = u j := fun j h0 => (congrFun hu37 j).trans ((up_n (by omega)).trans (fr35 j h0))
  refine w_putF (C := "LevelledRing") (T := T_R) (M := 11) (ty := (.array (.object "LevelledRing$Gate"))) (v := .ref (b + 4)) hx hb hts hinR ty_R tyok_R nm_R hown hK hP hS (0) (by omega) ff38 rfl 3 (by decide) kk19 (fun _ h => h) rfl hnm rfl (by decide +kernel) rfl rfl (Nat.le_of_ble_eq_true rfl) d_R_init_33 (fun H locs hP hS => ?_)
  obtain ⟨u44, hu45, hP⟩ : ∃ zz : Nat → va_E, zz = va_up u36 0 (.inr (5, [.ref (b + 1), .null, .ref (b + 2), .ref (b + 4), .int (iI (0)), .int (iI (0)), .null, .null, .null, .null, .null])) ∧ va_P D vwCl (wl 5 b zz) H := ⟨_, rfl, hP⟩
  have ff46 : u44 0 = .inr (5, [.ref (b + 1), .null, .ref (b + 2), .ref (b + 4), .int (iI (0)), .int (iI (0)), .null, .null, .null, .null, .null]) := (congrFun hu45 _).trans up_s
  have ff47 : u44 1 = .inr (0, [.int (0)]) := (congrFun hu45 _).trans ((up_n (by omega)).trans ff39)
  have ff48 : u44 2 = .inr (3, [.int (iI (1)), .ref (b + 3)]) := (congrFun hu45 _).trans ((up_n (by omega)).trans ff40)
  have ff49 : u44 3 = ir ct 8 (fun _ => 0) := (congrFun hu45 _).trans ((up_n (by omega)).trans ff41)
  have ff50 : u44 4 = qr ct 3 24 (fun _ => none) := (congrFun hu45 _).trans ((up_n (by omega)).trans ff42)
  have fr51 : ∀ j : Nat, (j < 0) → u44 j = u j := fun j h0 => (congrFun hu45 j).trans ((up_n (by omega)).trans (fr43 j h0))
  refine lv_aload_n hx hb d_R_init_36 rfl (lv_at hl 0 rfl) ?_
  refine lv_iconst (v := iI (0)) hx hb d_R_init_37 rfl ?_
  refine w_put (C := "LevelledRing") (T := T_R) (M := 11) (ty := .int) (v := .int (iI (0))) hx hb hts hinR ty_R tyok_R nm_R hown hK hP hS (0) (by omega) ff46 rfl 4 (by decide) kk20 (fun _ h => h) rfl (by decide +kernel) rfl rfl (Nat.le_of_ble_eq_true rfl) d_R_init_38 (fun H locs hP hS => ?_)
  obtain ⟨u52, hu53, hP⟩ : ∃ zz : Nat → va_E, zz = va_up u44 0 (.inr (5, [.ref (b + 1), .null, .ref (b + 2), .ref (b + 4), .int (iI (0)), .int (iI (0)), .null, .null, .null, .null, .null])) ∧ va_P D vwCl (wl 5 b zz) H := ⟨_, rfl, hP⟩
  have ff54 : u52 0 = .inr (5, [.ref (b + 1), .null, .ref (b + 2), .ref (b + 4), .int (iI (0)), .int (iI (0)), .null, .null, .null, .null, .null]) := (congrFun hu53 _).trans up_s
  have ff55 : u52 1 = .inr (0, [.int (0)]) := (congrFun hu53 _).trans ((up_n (by omega)).trans ff47)
  have ff56 : u52 2 = .inr (3, [.int (iI (1)), .ref (b + 3)]) := (congrFun hu53 _).trans ((up_n (by omega)).trans ff48)
  have ff57 : u52 3 = ir ct 8 (fun _ => 0) := (congrFun hu53 _).trans ((up_n (by omega)).trans ff49)
  have ff58 : u52 4 = qr ct 3 24 (fun _ => none) := (congrFun hu53 _).trans ((up_n (by omega)).trans ff50)
  have fr59 : ∀ j : Nat, (j < 0) → u52 j = u j := fun j h0 => (congrFun hu53 j).trans ((up_n (by omega)).trans (fr51 j h0))
  refine lv_aload_n hx hb d_R_init_41 rfl (lv_at hl 0 rfl) ?_
  refine lv_iconst (v := iI (0)) hx hb d_R_init_42 rfl ?_
  refine w_put (C := "LevelledRing") (T := T_R) (M := 11) (ty := .int) (v := .int (iI (0))) hx hb hts hinR ty_R tyok_R nm_R hown hK hP hS (0) (by omega) ff54 rfl 5 (by decide) kk21 (fun _ h => h) rfl (by decide +kernel) rfl rfl (Nat.le_of_ble_eq_true rfl) d_R_init_43 (fun H locs hP hS => ?_)
  obtain ⟨u60, hu61, hP⟩ : ∃ zz : Nat → va_E, zz = va_up u52 0 (.inr (5, [.ref (b + 1), .null, .ref (b + 2), .ref (b + 4), .int (iI (0)), .int (iI (0)), .null, .null, .null, .null, .null])) ∧ va_P D vwCl (wl 5 b zz) H := ⟨_, rfl, hP⟩
  have ff62 : u60 0 = .inr (5, [.ref (b + 1), .null, .ref (b + 2), .ref (b + 4), .int (iI (0)), .int (iI (0)), .null, .null, .null, .null, .null]) := (congrFun hu61 _).trans up_s
  have ff63 : u60 1 = .inr (0, [.int (0)]) := (congrFun hu61 _).trans ((up_n (by omega)).trans ff55)
  have ff64 : u60 2 = .inr (3, [.int (iI (1)), .ref (b + 3)]) := (congrFun hu61 _).trans ((up_n (by omega)).trans ff56)
  have ff65 : u60 3 = ir ct 8 (fun _ => 0) := (congrFun hu61 _).trans ((up_n (by omega)).trans ff57)
  have ff66 : u60 4 = qr ct 3 24 (fun _ => none) := (congrFun hu61 _).trans ((up_n (by omega)).trans ff58)
  have fr67 : ∀ j : Nat, (j < 0) → u60 j = u j := fun j h0 => (congrFun hu61 j).trans ((up_n (by omega)).trans (fr59 j h0))
  refine lv_aload_n hx hb d_R_init_46 rfl (lv_at hl 0 rfl) ?_
  refine w_new (C := "LevelledRing$Value") (T := T_V) (M := 4) (ci := 4) (fs := [.int (iI (0)), .long (lI (0)), .null, .null]) hx hb hts hinV ty_V tyok_V hown kk22 kk23 kk24 hK hP hS (ev_b E) (by omega) rfl (fun j hj => by rcases (show j = 0 ∨ j = 1 ∨ j = 2 ∨ j = 3 by omega) with rfl | rfl | rfl | rfl <;> rfl) (Nat.le_of_ble_eq_true rfl) (Nat.le_of_ble_eq_true rfl) d_R_init_47 (fun H hP hS => ?_)
  obtain ⟨u68, hu69, hP⟩ : ∃ zz : Nat → va_E, zz = va_up u60 5 (.inr (4, [.int (iI (0)), .long (lI (0)), .null, .null])) ∧ va_P D vwCl (wl 6 b zz) H := ⟨_, rfl, hP⟩
  have ff70 : u68 0 = .inr (5, [.ref (b + 1), .null, .ref (b + 2), .ref (b + 4), .int (iI (0)), .int (iI (0)), .null, .null, .null, .null, .null]) := (congrFun hu69 _).trans ((up_n (by omega)).trans ff62)
  have ff71 : u68 1 = .inr (0, [.int (0)]) := (congrFun hu69 _).trans ((up_n (by omega)).trans ff63)
  have ff72 : u68 2 = .inr (3, [.int (iI (1)), .ref (b + 3)]) := (congrFun hu69 _).trans ((up_n (by omega)).trans ff64)
  have ff73 : u68 3 = ir ct 8 (fun _ => 0) := (congrFun hu69 _).trans ((up_n (by omega)).trans ff65)
  have ff74 : u68 4 = qr ct 3 24 (fun _ => none) := (congrFun hu69 _).trans ((up_n (by omega)).trans ff66)
  have ff75 : u68 5 = .inr (4, [.int (iI (0)), .long (lI (0)), .null, .null]) := (congrFun hu69 _).trans up_s
  have fr76 : ∀ j : Nat, (j < 0) → u68 j = u j := fun j h0 => (congrFun hu69 j).trans ((up_n (by omega)).trans (fr67 j h0))
  refine lv_dup hx hb d_R_init_50 rfl ?_
  refine w_sz hP (by omega) (by omega) (fun hHs => ?_)
  refine w_callv (va_runIN (As := []) (rest := [.ref (b + 5), .ref (b + 0)]) ⟨hx, hb, hml, hown, hts⟩ (c_V_init l D ct st ke b u68 (5) ff75) ⟨va_cnB 0 hts (gC t_52) rfl rfl rfl kn27 kk24 (by decide +kernel) ⟨Nat.le_of_ble_eq_true rfl, Nat.le_of_ble_eq_true rfl⟩, rfl, kk26⟩ (pre_C E hP hS hHs) rfl rfl hl.1 rfl (lv_room (Nat.le_of_ble_eq_true rfl)) d_R_init_51 ⟨(Nat.le_of_ble_eq_true rfl), (Nat.le_of_ble_eq_true rfl)⟩) hS (fun z77 H locs hz hP hS => ?_)
  obtain ⟨hq79, hzf80⟩ := hz
  have ff81 : z77 0 = .inr (5, [.ref (b + 1), .null, .ref (b + 2), .ref (b + 4), .int (iI (0)), .int (iI (0)), .null, .null, .null, .null, .null]) := (hzf80 0 (by omega)).trans ff70
  have ff82 : z77 1 = .inr (0, [.int (0)]) := (hzf80 1 (by omega)).trans ff71
  have ff83 : z77 2 = .inr (3, [.int (iI (1)), .ref (b + 3)]) := (hzf80 2 (by omega)).trans ff72
  have ff84 : z77 3 = ir ct 8 (fun _ => 0) := (hzf80 3 (by omega)).trans ff73
  have ff85 : z77 4 = qr ct 3 24 (fun _ => none) := (hzf80 4 (by omega)).trans ff74
  have fr86 : ∀ j : Nat, (j < 0) → z77 j = u j := fun j h0 => (hzf80 j (by omega)).trans (fr76 j h0)
  refine w_putF (C := "LevelledRing") (T := T_R) (M := 11) (ty := (.object "LevelledRing$Value")) (v := .ref (b + 5)) hx hb hts hinR ty_R tyok_R nm_R hown hK hP hS (0) (by omega) ff81 rfl 6 (by decide) kk28 (fun _ h => h) rfl hnm rfl (by decide +kernel) rfl rfl (Nat.le_of_ble_eq_true rfl) d_R_init_54 (fun H locs hP hS => ?_)
  obtain ⟨u87, hu88, hP⟩ : ∃ zz : Nat → va_E, zz = va_up z77 0 (.inr (5, [.ref (b + 1), .null, .ref (b + 2), .ref (b + 4), .int (iI (0)), .int (iI (0)), .ref (b + 5), .null, .null, .null, .null])) ∧ va_P D vwCl (wl 10 b zz) H := ⟨_, rfl, hP⟩
  have ff89 : u87 0 = .inr (5, [.ref (b + 1), .null, .ref (b + 2), .ref (b + 4), .int (iI (0)), .int (iI (0)), .ref (b + 5), .null, .null, .null, .null]) := (congrFun hu88 _).trans up_s
  have ff90 : u87 1 = .inr (0, [.int (0)]) := (congrFun hu88 _).trans ((up_n (by omega)).trans ff82)
  have ff91 : u87 2 = .inr (3, [.int (iI (1)), .ref (b + 3)]) := (congrFun hu88 _).trans ((up_n (by omega)).trans ff83)
  have ff92 : u87 3 = ir ct 8 (fun _ => 0) := (congrFun hu88 _).trans ((up_n (by omega)).trans ff84)
  have ff93 : u87 4 = qr ct 3 24 (fun _ => none) := (congrFun hu88 _).trans ((up_n (by omega)).trans ff85)
  have ff94 : u87 5 = .inr (4, [.int (iI (0)), .long (lI (0)), .ref (b + 6), .ref (b + 8)]) := (congrFun hu88 _).trans ((up_n (by omega)).trans hq79.1)
  have ff95 : u87 6 = .inr (3, [.int (iI (0)), .ref (b + 7)]) := (congrFun hu88 _).trans ((up_n (by omega)).trans hq79.2.1)
  have ff96 : u87 7 = ir ct 32 (fun _ => 0) := (congrFun hu88 _).trans ((up_n (by omega)).trans hq79.2.2.1)
  have ff97 : u87 8 = .inr (3, [.int (iI (0)), .ref (b + 9)]) := (congrFun hu88 _).trans ((up_n (by omega)).trans hq79.2.2.2.1)
  have ff98 : u87 9 = ir ct 32 (fun _ => 0) := (congrFun hu88 _).trans ((up_n (by omega)).trans hq79.2.2.2.2)
  have fr99 : ∀ j : Nat, (j < 0) → u87 j = u j := fun j h0 => (congrFun hu88 j).trans ((up_n (by omega)).trans (fr86 j h0))
  refine lv_aload_n hx hb d_R_init_57 rfl (lv_at hl 0 rfl) ?_
  refine w_new (C := "LevelledRing$Value") (T := T_V) (M := 4) (ci := 4) (fs := [.int (iI (0)), .long (lI (0)), .null, .null]) hx hb hts hinV ty_V tyok_V hown kk22 kk23 kk24 hK hP hS (ev_b E) (by omega) rfl (fun j hj => by rcases (show j = 0 ∨ j = 1 ∨ j = 2 ∨ j = 3 by omega) with rfl | rfl | rfl | rfl <;> rfl) (Nat.le_of_ble_eq_true rfl) (Nat.le_of_ble_eq_true rfl) d_R_init_58 (fun H hP hS => ?_)
  obtain ⟨u100, hu101, hP⟩ : ∃ zz : Nat → va_E, zz = va_up u87 10 (.inr (4, [.int (iI (0)), .long (lI (0)), .null, .null])) ∧ va_P D vwCl (wl 11 b zz) H := ⟨_, rfl, hP⟩
  have ff102 : u100 0 = .inr (5, [.ref (b + 1), .null, .ref (b + 2), .ref (b + 4), .int (iI (0)), .int (iI (0)), .ref (b + 5), .null, .null, .null, .null]) := (congrFun hu101 _).trans ((up_n (by omega)).trans ff89)
  have ff103 : u100 1 = .inr (0, [.int (0)]) := (congrFun hu101 _).trans ((up_n (by omega)).trans ff90)
  have ff104 : u100 2 = .inr (3, [.int (iI (1)), .ref (b + 3)]) := (congrFun hu101 _).trans ((up_n (by omega)).trans ff91)
  have ff105 : u100 3 = ir ct 8 (fun _ => 0) := (congrFun hu101 _).trans ((up_n (by omega)).trans ff92)
  have ff106 : u100 4 = qr ct 3 24 (fun _ => none) := (congrFun hu101 _).trans ((up_n (by omega)).trans ff93)
  have ff107 : u100 5 = .inr (4, [.int (iI (0)), .long (lI (0)), .ref (b + 6), .ref (b + 8)]) := (congrFun hu101 _).trans ((up_n (by omega)).trans ff94)
  have ff108 : u100 6 = .inr (3, [.int (iI (0)), .ref (b + 7)]) := (congrFun hu101 _).trans ((up_n (by omega)).trans ff95)
  have ff109 : u100 7 = ir ct 32 (fun _ => 0) := (congrFun hu101 _).trans ((up_n (by omega)).trans ff96)
  have ff110 : u100 8 = .inr (3, [.int (iI (0)), .ref (b + 9)]) := (congrFun hu101 _).trans ((up_n (by omega)).trans ff97)
  have ff111 : u100 9 = ir ct 32 (fun _ => 0) := (congrFun hu101 _).trans ((up_n (by omega)).trans ff98)
  have ff112 : u100 10 = .inr (4, [.int (iI (0)), .long (lI (0)), .null, .null]) := (congrFun hu101 _).trans up_s
  have fr113 : ∀ j : Nat, (j < 0) → u100 j = u j := fun j h0 => (congrFun hu101 j).trans ((up_n (by omega)).trans (fr99 j h0))
  refine lv_dup hx hb d_R_init_61 rfl ?_
  refine w_sz hP (by omega) (by omega) (fun hHs => ?_)
  refine w_callv (va_runIN (As := []) (rest := [.ref (b + 10), .ref (b + 0)]) ⟨hx, hb, hml, hown, hts⟩ (c_V_init l D ct st ke b u100 (10) ff112) ⟨va_cnB 0 hts (gC t_52) rfl rfl rfl kn27 kk24 (by decide +kernel) ⟨Nat.le_of_ble_eq_true rfl, Nat.le_of_ble_eq_true rfl⟩, rfl, kk26⟩ (pre_C E hP hS hHs) rfl rfl hl.1 rfl (lv_room (Nat.le_of_ble_eq_true rfl)) d_R_init_62 ⟨(Nat.le_of_ble_eq_true rfl), (Nat.le_of_ble_eq_true rfl)⟩) hS (fun z114 H locs hz hP hS => ?_)
  obtain ⟨hq116, hzf117⟩ := hz
  have ff118 : z114 0 = .inr (5, [.ref (b + 1), .null, .ref (b + 2), .ref (b + 4), .int (iI (0)), .int (iI (0)), .ref (b + 5), .null, .null, .null, .null]) := (hzf117 0 (by omega)).trans ff102
  have ff119 : z114 1 = .inr (0, [.int (0)]) := (hzf117 1 (by omega)).trans ff103
  have ff120 : z114 2 = .inr (3, [.int (iI (1)), .ref (b + 3)]) := (hzf117 2 (by omega)).trans ff104
  have ff121 : z114 3 = ir ct 8 (fun _ => 0) := (hzf117 3 (by omega)).trans ff105
  have ff122 : z114 4 = qr ct 3 24 (fun _ => none) := (hzf117 4 (by omega)).trans ff106
  have ff123 : z114 5 = .inr (4, [.int (iI (0)), .long (lI (0)), .ref (b + 6), .ref (b + 8)]) := (hzf117 5 (by omega)).trans ff107
  have ff124 : z114 6 = .inr (3, [.int (iI (0)), .ref (b + 7)]) := (hzf117 6 (by omega)).trans ff108
  have ff125 : z114 7 = ir ct 32 (fun _ => 0) := (hzf117 7 (by omega)).trans ff109
  have ff126 : z114 8 = .inr (3, [.int (iI (0)), .ref (b + 9)]) := (hzf117 8 (by omega)).trans ff110
  have ff127 : z114 9 = ir ct 32 (fun _ => 0) := (hzf117 9 (by omega)).trans ff111
  have fr128 : ∀ j : Nat, (j < 0) → z114 j = u j := fun j h0 => (hzf117 j (by omega)).trans (fr113 j h0)
  refine w_putF (C := "LevelledRing") (T := T_R) (M := 11) (ty := (.object "LevelledRing$Value")) (v := .ref (b + 10)) hx hb hts hinR ty_R tyok_R nm_R hown hK hP hS (0) (by omega) ff118 rfl 7 (by decide) kk29 (fun _ h => h) rfl hnm rfl (by decide +kernel) rfl rfl (Nat.le_of_ble_eq_true rfl) d_R_init_65 (fun H locs hP hS => ?_)
  obtain ⟨u129, hu130, hP⟩ : ∃ zz : Nat → va_E, zz = va_up z114 0 (.inr (5, [.ref (b + 1), .null, .ref (b + 2), .ref (b + 4), .int (iI (0)), .int (iI (0)), .ref (b + 5), .ref (b + 10), .null, .null, .null])) ∧ va_P D vwCl (wl 15 b zz) H := ⟨_, rfl, hP⟩
  have ff131 : u129 0 = .inr (5, [.ref (b + 1), .null, .ref (b + 2), .ref (b + 4), .int (iI (0)), .int (iI (0)), .ref (b + 5), .ref (b + 10), .null, .null, .null]) := (congrFun hu130 _).trans up_s
  have ff132 : u129 1 = .inr (0, [.int (0)]) := (congrFun hu130 _).trans ((up_n (by omega)).trans ff119)
  have ff133 : u129 2 = .inr (3, [.int (iI (1)), .ref (b + 3)]) := (congrFun hu130 _).trans ((up_n (by omega)).trans ff120)
  have ff134 : u129 3 = ir ct 8 (fun _ => 0) := (congrFun hu130 _).trans ((up_n (by omega)).trans ff121)
  have ff135 : u129 4 = qr ct 3 24 (fun _ => none) := (congrFun hu130 _).trans ((up_n (by omega)).trans ff122)
  have ff136 : u129 5 = .inr (4, [.int (iI (0)), .long (lI (0)), .ref (b + 6), .ref (b + 8)]) := (congrFun hu130 _).trans ((up_n (by omega)).trans ff123)
  have ff137 : u129 6 = .inr (3, [.int (iI (0)), .ref (b + 7)]) := (congrFun hu130 _).trans ((up_n (by omega)).trans ff124)
  have ff138 : u129 7 = ir ct 32 (fun _ => 0) := (congrFun hu130 _).trans ((up_n (by omega)).trans ff125)
  have ff139 : u129 8 = .inr (3, [.int (iI (0)), .ref (b + 9)]) := (congrFun hu130 _).trans ((up_n (by omega)).trans ff126)
  have ff140 : u129 9 = ir ct 32 (fun _ => 0) := (congrFun hu130 _).trans ((up_n (by omega)).trans ff127)
  have ff141 : u129 10 = .inr (4, [.int (iI (0)), .long (lI (0)), .ref (b + 11), .ref (b + 13)]) := (congrFun hu130 _).trans ((up_n (by omega)).trans hq116.1)
  have ff142 : u129 11 = .inr (3, [.int (iI (0)), .ref (b + 12)]) := (congrFun hu130 _).trans ((up_n (by omega)).trans hq116.2.1)
  have ff143 : u129 12 = ir ct 32 (fun _ => 0) := (congrFun hu130 _).trans ((up_n (by omega)).trans hq116.2.2.1)
  have ff144 : u129 13 = .inr (3, [.int (iI (0)), .ref (b + 14)]) := (congrFun hu130 _).trans ((up_n (by omega)).trans hq116.2.2.2.1)
  have ff145 : u129 14 = ir ct 32 (fun _ => 0) := (congrFun hu130 _).trans ((up_n (by omega)).trans hq116.2.2.2.2)
  have fr146 : ∀ j : Nat, (j < 0) → u129 j = u j := fun j h0 => (congrFun hu130 j).trans ((up_n (by omega)).trans (fr128 j h0))
  refine lv_aload_n hx hb d_R_init_68 rfl (lv_at hl 0 rfl) ?_
  refine w_new (C := "LevelledRing$Poly") (T := T_P) (M := 2) (ci := 3) (fs := [.int (iI (0)), .null]) hx hb hts hinP ty_P tyok_P hown kk11 kk12 kk13 hK hP hS (ev_b E) (by omega) rfl (fun j hj => by rcases (show j = 0 ∨ j = 1 by omega) with rfl | rfl <;> rfl) (Nat.le_of_ble_eq_true rfl) (Nat.le_of_ble_eq_true rfl) d_R_init_69 (fun H hP hS => ?_)
  obtain ⟨u147, hu148, hP⟩ : ∃ zz : Nat → va_E, zz = va_up u129 15 (.inr (3, [.int (iI (0)), .null])) ∧ va_P D vwCl (wl 16 b zz) H := ⟨_, rfl, hP⟩
  have ff149 : u147 0 = .inr (5, [.ref (b + 1), .null, .ref (b + 2), .ref (b + 4), .int (iI (0)), .int (iI (0)), .ref (b + 5), .ref (b + 10), .null, .null, .null]) := (congrFun hu148 _).trans ((up_n (by omega)).trans ff131)
  have ff150 : u147 1 = .inr (0, [.int (0)]) := (congrFun hu148 _).trans ((up_n (by omega)).trans ff132)
  have ff151 : u147 2 = .inr (3, [.int (iI (1)), .ref (b + 3)]) := (congrFun hu148 _).trans ((up_n (by omega)).trans ff133)
  have ff152 : u147 3 = ir ct 8 (fun _ => 0) := (congrFun hu148 _).trans ((up_n (by omega)).trans ff134)
  have ff153 : u147 4 = qr ct 3 24 (fun _ => none) := (congrFun hu148 _).trans ((up_n (by omega)).trans ff135)
  have ff154 : u147 5 = .inr (4, [.int (iI (0)), .long (lI (0)), .ref (b + 6), .ref (b + 8)]) := (congrFun hu148 _).trans ((up_n (by omega)).trans ff136)
  have ff155 : u147 6 = .inr (3, [.int (iI (0)), .ref (b + 7)]) := (congrFun hu148 _).trans ((up_n (by omega)).trans ff137)
  have ff156 : u147 7 = ir ct 32 (fun _ => 0) := (congrFun hu148 _).trans ((up_n (by omega)).trans ff138)
  have ff157 : u147 8 = .inr (3, [.int (iI (0)), .ref (b + 9)]) := (congrFun hu148 _).trans ((up_n (by omega)).trans ff139)
  have ff158 : u147 9 = ir ct 32 (fun _ => 0) := (congrFun hu148 _).trans ((up_n (by omega)).trans ff140)
  have ff159 : u147 10 = .inr (4, [.int (iI (0)), .long (lI (0)), .ref (b + 11), .ref (b + 13)]) := (congrFun hu148 _).trans ((up_n (by omega)).trans ff141)
  have ff160 : u147 11 = .inr (3, [.int (iI (0)), .ref (b + 12)]) := (congrFun hu148 _).trans ((up_n (by omega)).trans ff142)
  have ff161 : u147 12 = ir ct 32 (fun _ => 0) := (congrFun hu148 _).trans ((up_n (by omega)).trans ff143)
  have ff162 : u147 13 = .inr (3, [.int (iI (0)), .ref (b + 14)]) := (congrFun hu148 _).trans ((up_n (by omega)).trans ff144)
  have ff163 : u147 14 = ir ct 32 (fun _ => 0) := (congrFun hu148 _).trans ((up_n (by omega)).trans ff145)
  have ff164 : u147 15 = .inr (3, [.int (iI (0)), .null]) := (congrFun hu148 _).trans up_s
  have fr165 : ∀ j : Nat, (j < 0) → u147 j = u j := fun j h0 => (congrFun hu148 j).trans ((up_n (by omega)).trans (fr146 j h0))
  refine lv_dup hx hb d_R_init_72 rfl ?_
  refine lv_iconst (v := iI (0)) hx hb d_R_init_73 rfl ?_
  refine w_sz hP (by omega) (by omega) (fun hHs => ?_)
  refine w_callv (va_runI (As := [.int (iI (0))]) (rest := [.ref (b + 15), .ref (b + 0)]) ⟨hx, hb, hml, hown, hts⟩ (c_P_init l D ct st ke b u147 (15) 32 0 (Or.inr ⟨rfl, rfl⟩) ff164) (cwI 1 hts (gC t_35) rfl rfl rfl kk13 kk16 kk15 rfl (by decide +kernel) ⟨Nat.le_of_ble_eq_true rfl, Nat.le_of_ble_eq_true rfl⟩) (pre_C E hP hS hHs) rfl rfl hl.1 rfl (lv_room (Nat.le_of_ble_eq_true rfl)) d_R_init_74 ⟨(Nat.le_of_ble_eq_true rfl), (Nat.le_of_ble_eq_true rfl)⟩) hS (fun z166 H locs hz hP hS => ?_)
  obtain ⟨hq168, hq169, hzf170⟩ := hz
  have ff171 : z166 0 = .inr (5, [.ref (b + 1), .null, .ref (b + 2), .ref (b + 4), .int (iI (0)), .int (iI (0)), .ref (b + 5), .ref (b + 10), .null, .null, .null]) := (hzf170 0 (by omega) (by omega)).trans ff149
  have ff172 : z166 1 = .inr (0, [.int (0)]) := (hzf170 1 (by omega) (by omega)).trans ff150
  have ff173 : z166 2 = .inr (3, [.int (iI (1)), .ref (b + 3)]) := (hzf170 2 (by omega) (by omega)).trans ff151
  have ff174 : z166 3 = ir ct 8 (fun _ => 0) := (hzf170 3 (by omega) (by omega)).trans ff152
  have ff175 : z166 4 = qr ct 3 24 (fun _ => none) := (hzf170 4 (by omega) (by omega)).trans ff153
  have ff176 : z166 5 = .inr (4, [.int (iI (0)), .long (lI (0)), .ref (b + 6), .ref (b + 8)]) := (hzf170 5 (by omega) (by omega)).trans ff154
  have ff177 : z166 6 = .inr (3, [.int (iI (0)), .ref (b + 7)]) := (hzf170 6 (by omega) (by omega)).trans ff155
  have ff178 : z166 7 = ir ct 32 (fun _ => 0) := (hzf170 7 (by omega) (by omega)).trans ff156
  have ff179 : z166 8 = .inr (3, [.int (iI (0)), .ref (b + 9)]) := (hzf170 8 (by omega) (by omega)).trans ff157
  have ff180 : z166 9 = ir ct 32 (fun _ => 0) := (hzf170 9 (by omega) (by omega)).trans ff158
  have ff181 : z166 10 = .inr (4, [.int (iI (0)), .long (lI (0)), .ref (b + 11), .ref (b + 13)]) := (hzf170 10 (by omega) (by omega)).trans ff159
  have ff182 : z166 11 = .inr (3, [.int (iI (0)), .ref (b + 12)]) := (hzf170 11 (by omega) (by omega)).trans ff160
  have ff183 : z166 12 = ir ct 32 (fun _ => 0) := (hzf170 12 (by omega) (by omega)).trans ff161
  have ff184 : z166 13 = .inr (3, [.int (iI (0)), .ref (b + 14)]) := (hzf170 13 (by omega) (by omega)).trans ff162
  have ff185 : z166 14 = ir ct 32 (fun _ => 0) := (hzf170 14 (by omega) (by omega)).trans ff163
  have fr186 : ∀ j : Nat, (j < 0) → z166 j = u j := fun j h0 => (hzf170 j (by omega) (by omega)).trans (fr165 j h0)
  refine w_putF (C := "LevelledRing") (T := T_R) (M := 11) (ty := (.object "LevelledRing$Poly")) (v := .ref (b + 15)) hx hb hts hinR ty_R tyok_R nm_R hown hK hP hS (0) (by omega) ff171 rfl 8 (by decide) kk30 (fun _ h => h) rfl hnm rfl (by decide +kernel) rfl rfl (Nat.le_of_ble_eq_true rfl) d_R_init_77 (fun H locs hP hS => ?_)
  obtain ⟨u187, hu188, hP⟩ : ∃ zz : Nat → va_E, zz = va_up z166 0 (.inr (5, [.ref (b + 1), .null, .ref (b + 2), .ref (b + 4), .int (iI (0)), .int (iI (0)), .ref (b + 5), .ref (b + 10), .ref (b + 15), .null, .null])) ∧ va_P D vwCl (wl 17 b zz) H := ⟨_, rfl, hP⟩
  have ff189 : u187 0 = .inr (5, [.ref (b + 1), .null, .ref (b + 2), .ref (b + 4), .int (iI (0)), .int (iI (0)), .ref (b + 5), .ref (b + 10), .ref (b + 15), .null, .null]) := (congrFun hu188 _).trans up_s
  have ff190 : u187 1 = .inr (0, [.int (0)]) := (congrFun hu188 _).trans ((up_n (by omega)).trans ff172)
  have ff191 : u187 2 = .inr (3, [.int (iI (1)), .ref (b + 3)]) := (congrFun hu188 _).trans ((up_n (by omega)).trans ff173)
  have ff192 : u187 3 = ir ct 8 (fun _ => 0) := (congrFun hu188 _).trans ((up_n (by omega)).trans ff174)
  have ff193 : u187 4 = qr ct 3 24 (fun _ => none) := (congrFun hu188 _).trans ((up_n (by omega)).trans ff175)
  have ff194 : u187 5 = .inr (4, [.int (iI (0)), .long (lI (0)), .ref (b + 6), .ref (b + 8)]) := (congrFun hu188 _).trans ((up_n (by omega)).trans ff176)
  have ff195 : u187 6 = .inr (3, [.int (iI (0)), .ref (b + 7)]) := (congrFun hu188 _).trans ((up_n (by omega)).trans ff177)
  have ff196 : u187 7 = ir ct 32 (fun _ => 0) := (congrFun hu188 _).trans ((up_n (by omega)).trans ff178)
  have ff197 : u187 8 = .inr (3, [.int (iI (0)), .ref (b + 9)]) := (congrFun hu188 _).trans ((up_n (by omega)).trans ff179)
  have ff198 : u187 9 = ir ct 32 (fun _ => 0) := (congrFun hu188 _).trans ((up_n (by omega)).trans ff180)
  have ff199 : u187 10 = .inr (4, [.int (iI (0)), .long (lI (0)), .ref (b + 11), .ref (b + 13)]) := (congrFun hu188 _).trans ((up_n (by omega)).trans ff181)
  have ff200 : u187 11 = .inr (3, [.int (iI (0)), .ref (b + 12)]) := (congrFun hu188 _).trans ((up_n (by omega)).trans ff182)
  have ff201 : u187 12 = ir ct 32 (fun _ => 0) := (congrFun hu188 _).trans ((up_n (by omega)).trans ff183)
  have ff202 : u187 13 = .inr (3, [.int (iI (0)), .ref (b + 14)]) := (congrFun hu188 _).trans ((up_n (by omega)).trans ff184)
  have ff203 : u187 14 = ir ct 32 (fun _ => 0) := (congrFun hu188 _).trans ((up_n (by omega)).trans ff185)
  have ff204 : u187 15 = .inr (3, [.int (iI (0)), .ref (b + 16)]) := (congrFun hu188 _).trans ((up_n (by omega)).trans hq168)
  have ff205 : u187 16 = ir ct 32 (fun _ => 0) := (congrFun hu188 _).trans ((up_n (by omega)).trans hq169)
  have fr206 : ∀ j : Nat, (j < 0) → u187 j = u j := fun j h0 => (congrFun hu188 j).trans ((up_n (by omega)).trans (fr186 j h0))
  refine lv_aload_n hx hb d_R_init_80 rfl (lv_at hl 0 rfl) ?_
  refine w_new (C := "LevelledRing$Poly") (T := T_P) (M := 2) (ci := 3) (fs := [.int (iI (0)), .null]) hx hb hts hinP ty_P tyok_P hown kk11 kk12 kk13 hK hP hS (ev_b E) (by omega) rfl (fun j hj => by rcases (show j = 0 ∨ j = 1 by omega) with rfl | rfl <;> rfl) (Nat.le_of_ble_eq_true rfl) (Nat.le_of_ble_eq_true rfl) d_R_init_81 (fun H hP hS => ?_)
  obtain ⟨u207, hu208, hP⟩ : ∃ zz : Nat → va_E, zz = va_up u187 17 (.inr (3, [.int (iI (0)), .null])) ∧ va_P D vwCl (wl 18 b zz) H := ⟨_, rfl, hP⟩
  have ff209 : u207 0 = .inr (5, [.ref (b + 1), .null, .ref (b + 2), .ref (b + 4), .int (iI (0)), .int (iI (0)), .ref (b + 5), .ref (b + 10), .ref (b + 15), .null, .null]) := (congrFun hu208 _).trans ((up_n (by omega)).trans ff189)
  have ff210 : u207 1 = .inr (0, [.int (0)]) := (congrFun hu208 _).trans ((up_n (by omega)).trans ff190)
  have ff211 : u207 2 = .inr (3, [.int (iI (1)), .ref (b + 3)]) := (congrFun hu208 _).trans ((up_n (by omega)).trans ff191)
  have ff212 : u207 3 = ir ct 8 (fun _ => 0) := (congrFun hu208 _).trans ((up_n (by omega)).trans ff192)
  have ff213 : u207 4 = qr ct 3 24 (fun _ => none) := (congrFun hu208 _).trans ((up_n (by omega)).trans ff193)
  have ff214 : u207 5 = .inr (4, [.int (iI (0)), .long (lI (0)), .ref (b + 6), .ref (b + 8)]) := (congrFun hu208 _).trans ((up_n (by omega)).trans ff194)
  have ff215 : u207 6 = .inr (3, [.int (iI (0)), .ref (b + 7)]) := (congrFun hu208 _).trans ((up_n (by omega)).trans ff195)
  have ff216 : u207 7 = ir ct 32 (fun _ => 0) := (congrFun hu208 _).trans ((up_n (by omega)).trans ff196)
  have ff217 : u207 8 = .inr (3, [.int (iI (0)), .ref (b + 9)]) := (congrFun hu208 _).trans ((up_n (by omega)).trans ff197)
  have ff218 : u207 9 = ir ct 32 (fun _ => 0) := (congrFun hu208 _).trans ((up_n (by omega)).trans ff198)
  have ff219 : u207 10 = .inr (4, [.int (iI (0)), .long (lI (0)), .ref (b + 11), .ref (b + 13)]) := (congrFun hu208 _).trans ((up_n (by omega)).trans ff199)
  have ff220 : u207 11 = .inr (3, [.int (iI (0)), .ref (b + 12)]) := (congrFun hu208 _).trans ((up_n (by omega)).trans ff200)
  have ff221 : u207 12 = ir ct 32 (fun _ => 0) := (congrFun hu208 _).trans ((up_n (by omega)).trans ff201)
  have ff222 : u207 13 = .inr (3, [.int (iI (0)), .ref (b + 14)]) := (congrFun hu208 _).trans ((up_n (by omega)).trans ff202)
  have ff223 : u207 14 = ir ct 32 (fun _ => 0) := (congrFun hu208 _).trans ((up_n (by omega)).trans ff203)
  have ff224 : u207 15 = .inr (3, [.int (iI (0)), .ref (b + 16)]) := (congrFun hu208 _).trans ((up_n (by omega)).trans ff204)
  have ff225 : u207 16 = ir ct 32 (fun _ => 0) := (congrFun hu208 _).trans ((up_n (by omega)).trans ff205)
  have ff226 : u207 17 = .inr (3, [.int (iI (0)), .null]) := (congrFun hu208 _).trans up_s
  have fr227 : ∀ j : Nat, (j < 0) → u207 j = u j := fun j h0 => (congrFun hu208 j).trans ((up_n (by omega)).trans (fr206 j h0))
  refine lv_dup hx hb d_R_init_84 rfl ?_
  refine lv_iconst (v := iI (0)) hx hb d_R_init_85 rfl ?_
  refine w_sz hP (by omega) (by omega) (fun hHs => ?_)
  refine w_callv (va_runI (As := [.int (iI (0))]) (rest := [.ref (b + 17), .ref (b + 0)]) ⟨hx, hb, hml, hown, hts⟩ (c_P_init l D ct st ke b u207 (17) 32 0 (Or.inr ⟨rfl, rfl⟩) ff226) (cwI 1 hts (gC t_35) rfl rfl rfl kk13 kk16 kk15 rfl (by decide +kernel) ⟨Nat.le_of_ble_eq_true rfl, Nat.le_of_ble_eq_true rfl⟩) (pre_C E hP hS hHs) rfl rfl hl.1 rfl (lv_room (Nat.le_of_ble_eq_true rfl)) d_R_init_86 ⟨(Nat.le_of_ble_eq_true rfl), (Nat.le_of_ble_eq_true rfl)⟩) hS (fun z228 H locs hz hP hS => ?_)
  obtain ⟨hq230, hq231, hzf232⟩ := hz
  have ff233 : z228 0 = .inr (5, [.ref (b + 1), .null, .ref (b + 2), .ref (b + 4), .int (iI (0)), .int (iI (0)), .ref (b + 5), .ref (b + 10), .ref (b + 15), .null, .null]) := (hzf232 0 (by omega) (by omega)).trans ff209
  have ff234 : z228 1 = .inr (0, [.int (0)]) := (hzf232 1 (by omega) (by omega)).trans ff210
  have ff235 : z228 2 = .inr (3, [.int (iI (1)), .ref (b + 3)]) := (hzf232 2 (by omega) (by omega)).trans ff211
  have ff236 : z228 3 = ir ct 8 (fun _ => 0) := (hzf232 3 (by omega) (by omega)).trans ff212
  have ff237 : z228 4 = qr ct 3 24 (fun _ => none) := (hzf232 4 (by omega) (by omega)).trans ff213
  have ff238 : z228 5 = .inr (4, [.int (iI (0)), .long (lI (0)), .ref (b + 6), .ref (b + 8)]) := (hzf232 5 (by omega) (by omega)).trans ff214
  have ff239 : z228 6 = .inr (3, [.int (iI (0)), .ref (b + 7)]) := (hzf232 6 (by omega) (by omega)).trans ff215
  have ff240 : z228 7 = ir ct 32 (fun _ => 0) := (hzf232 7 (by omega) (by omega)).trans ff216
  have ff241 : z228 8 = .inr (3, [.int (iI (0)), .ref (b + 9)]) := (hzf232 8 (by omega) (by omega)).trans ff217
  have ff242 : z228 9 = ir ct 32 (fun _ => 0) := (hzf232 9 (by omega) (by omega)).trans ff218
  have ff243 : z228 10 = .inr (4, [.int (iI (0)), .long (lI (0)), .ref (b + 11), .ref (b + 13)]) := (hzf232 10 (by omega) (by omega)).trans ff219
  have ff244 : z228 11 = .inr (3, [.int (iI (0)), .ref (b + 12)]) := (hzf232 11 (by omega) (by omega)).trans ff220
  have ff245 : z228 12 = ir ct 32 (fun _ => 0) := (hzf232 12 (by omega) (by omega)).trans ff221
  have ff246 : z228 13 = .inr (3, [.int (iI (0)), .ref (b + 14)]) := (hzf232 13 (by omega) (by omega)).trans ff222
  have ff247 : z228 14 = ir ct 32 (fun _ => 0) := (hzf232 14 (by omega) (by omega)).trans ff223
  have ff248 : z228 15 = .inr (3, [.int (iI (0)), .ref (b + 16)]) := (hzf232 15 (by omega) (by omega)).trans ff224
  have ff249 : z228 16 = ir ct 32 (fun _ => 0) := (hzf232 16 (by omega) (by omega)).trans ff225
  have fr250 : ∀ j : Nat, (j < 0) → z228 j = u j := fun j h0 => (hzf232 j (by omega) (by omega)).trans (fr227 j h0)
  refine w_putF (C := "LevelledRing") (T := T_R) (M := 11) (ty := (.object "LevelledRing$Poly")) (v := .ref (b + 17)) hx hb hts hinR ty_R tyok_R nm_R hown hK hP hS (0) (by omega) ff233 rfl 9 (by decide) kk31 (fun _ h => h) rfl hnm rfl (by decide +kernel) rfl rfl (Nat.le_of_ble_eq_true rfl) d_R_init_89 (fun H locs hP hS => ?_)
  obtain ⟨u251, hu252, hP⟩ : ∃ zz : Nat → va_E, zz = va_up z228 0 (.inr (5, [.ref (b + 1), .null, .ref (b + 2), .ref (b + 4), .int (iI (0)), .int (iI (0)), .ref (b + 5), .ref (b + 10), .ref (b + 15), .ref (b + 17), .null])) ∧ va_P D vwCl (wl 19 b zz) H := ⟨_, rfl, hP⟩
  have ff253 : u251 0 = .inr (5, [.ref (b + 1), .null, .ref (b + 2), .ref (b + 4), .int (iI (0)), .int (iI (0)), .ref (b + 5), .ref (b + 10), .ref (b + 15), .ref (b + 17), .null]) := (congrFun hu252 _).trans up_s
  have ff254 : u251 1 = .inr (0, [.int (0)]) := (congrFun hu252 _).trans ((up_n (by omega)).trans ff234)
  have ff255 : u251 2 = .inr (3, [.int (iI (1)), .ref (b + 3)]) := (congrFun hu252 _).trans ((up_n (by omega)).trans ff235)
  have ff256 : u251 3 = ir ct 8 (fun _ => 0) := (congrFun hu252 _).trans ((up_n (by omega)).trans ff236)
  have ff257 : u251 4 = qr ct 3 24 (fun _ => none) := (congrFun hu252 _).trans ((up_n (by omega)).trans ff237)
  have ff258 : u251 5 = .inr (4, [.int (iI (0)), .long (lI (0)), .ref (b + 6), .ref (b + 8)]) := (congrFun hu252 _).trans ((up_n (by omega)).trans ff238)
  have ff259 : u251 6 = .inr (3, [.int (iI (0)), .ref (b + 7)]) := (congrFun hu252 _).trans ((up_n (by omega)).trans ff239)
  have ff260 : u251 7 = ir ct 32 (fun _ => 0) := (congrFun hu252 _).trans ((up_n (by omega)).trans ff240)
  have ff261 : u251 8 = .inr (3, [.int (iI (0)), .ref (b + 9)]) := (congrFun hu252 _).trans ((up_n (by omega)).trans ff241)
  have ff262 : u251 9 = ir ct 32 (fun _ => 0) := (congrFun hu252 _).trans ((up_n (by omega)).trans ff242)
  have ff263 : u251 10 = .inr (4, [.int (iI (0)), .long (lI (0)), .ref (b + 11), .ref (b + 13)]) := (congrFun hu252 _).trans ((up_n (by omega)).trans ff243)
  have ff264 : u251 11 = .inr (3, [.int (iI (0)), .ref (b + 12)]) := (congrFun hu252 _).trans ((up_n (by omega)).trans ff244)
  have ff265 : u251 12 = ir ct 32 (fun _ => 0) := (congrFun hu252 _).trans ((up_n (by omega)).trans ff245)
  have ff266 : u251 13 = .inr (3, [.int (iI (0)), .ref (b + 14)]) := (congrFun hu252 _).trans ((up_n (by omega)).trans ff246)
  have ff267 : u251 14 = ir ct 32 (fun _ => 0) := (congrFun hu252 _).trans ((up_n (by omega)).trans ff247)
  have ff268 : u251 15 = .inr (3, [.int (iI (0)), .ref (b + 16)]) := (congrFun hu252 _).trans ((up_n (by omega)).trans ff248)
  have ff269 : u251 16 = ir ct 32 (fun _ => 0) := (congrFun hu252 _).trans ((up_n (by omega)).trans ff249)
  have ff270 : u251 17 = .inr (3, [.int (iI (0)), .ref (b + 18)]) := (congrFun hu252 _).trans ((up_n (by omega)).trans hq230)
  have ff271 : u251 18 = ir ct 32 (fun _ => 0) := (congrFun hu252 _).trans ((up_n (by omega)).trans hq231)
  have fr272 : ∀ j : Nat, (j < 0) → u251 j = u j := fun j h0 => (congrFun hu252 j).trans ((up_n (by omega)).trans (fr250 j h0))
  refine lv_aload_n hx hb d_R_init_92 rfl (lv_at hl 0 rfl) ?_
  refine w_new (C := "LevelledRing$Poly") (T := T_P) (M := 2) (ci := 3) (fs := [.int (iI (0)), .null]) hx hb hts hinP ty_P tyok_P hown kk11 kk12 kk13 hK hP hS (ev_b E) (by omega) rfl (fun j hj => by rcases (show j = 0 ∨ j = 1 by omega) with rfl | rfl <;> rfl) (Nat.le_of_ble_eq_true rfl) (Nat.le_of_ble_eq_true rfl) d_R_init_93 (fun H hP hS => ?_)
  obtain ⟨u273, hu274, hP⟩ : ∃ zz : Nat → va_E, zz = va_up u251 19 (.inr (3, [.int (iI (0)), .null])) ∧ va_P D vwCl (wl 20 b zz) H := ⟨_, rfl, hP⟩
  have ff275 : u273 0 = .inr (5, [.ref (b + 1), .null, .ref (b + 2), .ref (b + 4), .int (iI (0)), .int (iI (0)), .ref (b + 5), .ref (b + 10), .ref (b + 15), .ref (b + 17), .null]) := (congrFun hu274 _).trans ((up_n (by omega)).trans ff253)
  have ff276 : u273 1 = .inr (0, [.int (0)]) := (congrFun hu274 _).trans ((up_n (by omega)).trans ff254)
  have ff277 : u273 2 = .inr (3, [.int (iI (1)), .ref (b + 3)]) := (congrFun hu274 _).trans ((up_n (by omega)).trans ff255)
  have ff278 : u273 3 = ir ct 8 (fun _ => 0) := (congrFun hu274 _).trans ((up_n (by omega)).trans ff256)
  have ff279 : u273 4 = qr ct 3 24 (fun _ => none) := (congrFun hu274 _).trans ((up_n (by omega)).trans ff257)
  have ff280 : u273 5 = .inr (4, [.int (iI (0)), .long (lI (0)), .ref (b + 6), .ref (b + 8)]) := (congrFun hu274 _).trans ((up_n (by omega)).trans ff258)
  have ff281 : u273 6 = .inr (3, [.int (iI (0)), .ref (b + 7)]) := (congrFun hu274 _).trans ((up_n (by omega)).trans ff259)
  have ff282 : u273 7 = ir ct 32 (fun _ => 0) := (congrFun hu274 _).trans ((up_n (by omega)).trans ff260)
  have ff283 : u273 8 = .inr (3, [.int (iI (0)), .ref (b + 9)]) := (congrFun hu274 _).trans ((up_n (by omega)).trans ff261)
  have ff284 : u273 9 = ir ct 32 (fun _ => 0) := (congrFun hu274 _).trans ((up_n (by omega)).trans ff262)
  have ff285 : u273 10 = .inr (4, [.int (iI (0)), .long (lI (0)), .ref (b + 11), .ref (b + 13)]) := (congrFun hu274 _).trans ((up_n (by omega)).trans ff263)
  have ff286 : u273 11 = .inr (3, [.int (iI (0)), .ref (b + 12)]) := (congrFun hu274 _).trans ((up_n (by omega)).trans ff264)
  have ff287 : u273 12 = ir ct 32 (fun _ => 0) := (congrFun hu274 _).trans ((up_n (by omega)).trans ff265)
  have ff288 : u273 13 = .inr (3, [.int (iI (0)), .ref (b + 14)]) := (congrFun hu274 _).trans ((up_n (by omega)).trans ff266)
  have ff289 : u273 14 = ir ct 32 (fun _ => 0) := (congrFun hu274 _).trans ((up_n (by omega)).trans ff267)
  have ff290 : u273 15 = .inr (3, [.int (iI (0)), .ref (b + 16)]) := (congrFun hu274 _).trans ((up_n (by omega)).trans ff268)
  have ff291 : u273 16 = ir ct 32 (fun _ => 0) := (congrFun hu274 _).trans ((up_n (by omega)).trans ff269)
  have ff292 : u273 17 = .inr (3, [.int (iI (0)), .ref (b + 18)]) := (congrFun hu274 _).trans ((up_n (by omega)).trans ff270)
  have ff293 : u273 18 = ir ct 32 (fun _ => 0) := (congrFun hu274 _).trans ((up_n (by omega)).trans ff271)
  have ff294 : u273 19 = .inr (3, [.int (iI (0)), .null]) := (congrFun hu274 _).trans up_s
  have fr295 : ∀ j : Nat, (j < 0) → u273 j = u j := fun j h0 => (congrFun hu274 j).trans ((up_n (by omega)).trans (fr272 j h0))
  refine lv_dup hx hb d_R_init_96 rfl ?_
  refine lv_iconst (v := iI (0)) hx hb d_R_init_97 rfl ?_
  refine w_sz hP (by omega) (by omega) (fun hHs => ?_)
  refine w_callv (va_runI (As := [.int (iI (0))]) (rest := [.ref (b + 19), .ref (b + 0)]) ⟨hx, hb, hml, hown, hts⟩ (c_P_init l D ct st ke b u273 (19) 32 0 (Or.inr ⟨rfl, rfl⟩) ff294) (cwI 1 hts (gC t_35) rfl rfl rfl kk13 kk16 kk15 rfl (by decide +kernel) ⟨Nat.le_of_ble_eq_true rfl, Nat.le_of_ble_eq_true rfl⟩) (pre_C E hP hS hHs) rfl rfl hl.1 rfl (lv_room (Nat.le_of_ble_eq_true rfl)) d_R_init_98 ⟨(Nat.le_of_ble_eq_true rfl), (Nat.le_of_ble_eq_true rfl)⟩) hS (fun z296 H locs hz hP hS => ?_)
  obtain ⟨hq298, hq299, hzf300⟩ := hz
  have ff301 : z296 0 = .inr (5, [.ref (b + 1), .null, .ref (b + 2), .ref (b + 4), .int (iI (0)), .int (iI (0)), .ref (b + 5), .ref (b + 10), .ref (b + 15), .ref (b + 17), .null]) := (hzf300 0 (by omega) (by omega)).trans ff275
  have ff302 : z296 1 = .inr (0, [.int (0)]) := (hzf300 1 (by omega) (by omega)).trans ff276
  have ff303 : z296 2 = .inr (3, [.int (iI (1)), .ref (b + 3)]) := (hzf300 2 (by omega) (by omega)).trans ff277
  have ff304 : z296 3 = ir ct 8 (fun _ => 0) := (hzf300 3 (by omega) (by omega)).trans ff278
  have ff305 : z296 4 = qr ct 3 24 (fun _ => none) := (hzf300 4 (by omega) (by omega)).trans ff279
  have ff306 : z296 5 = .inr (4, [.int (iI (0)), .long (lI (0)), .ref (b + 6), .ref (b + 8)]) := (hzf300 5 (by omega) (by omega)).trans ff280
  have ff307 : z296 6 = .inr (3, [.int (iI (0)), .ref (b + 7)]) := (hzf300 6 (by omega) (by omega)).trans ff281
  have ff308 : z296 7 = ir ct 32 (fun _ => 0) := (hzf300 7 (by omega) (by omega)).trans ff282
  have ff309 : z296 8 = .inr (3, [.int (iI (0)), .ref (b + 9)]) := (hzf300 8 (by omega) (by omega)).trans ff283
  have ff310 : z296 9 = ir ct 32 (fun _ => 0) := (hzf300 9 (by omega) (by omega)).trans ff284
  have ff311 : z296 10 = .inr (4, [.int (iI (0)), .long (lI (0)), .ref (b + 11), .ref (b + 13)]) := (hzf300 10 (by omega) (by omega)).trans ff285
  have ff312 : z296 11 = .inr (3, [.int (iI (0)), .ref (b + 12)]) := (hzf300 11 (by omega) (by omega)).trans ff286
  have ff313 : z296 12 = ir ct 32 (fun _ => 0) := (hzf300 12 (by omega) (by omega)).trans ff287
  have ff314 : z296 13 = .inr (3, [.int (iI (0)), .ref (b + 14)]) := (hzf300 13 (by omega) (by omega)).trans ff288
  have ff315 : z296 14 = ir ct 32 (fun _ => 0) := (hzf300 14 (by omega) (by omega)).trans ff289
  have ff316 : z296 15 = .inr (3, [.int (iI (0)), .ref (b + 16)]) := (hzf300 15 (by omega) (by omega)).trans ff290
  have ff317 : z296 16 = ir ct 32 (fun _ => 0) := (hzf300 16 (by omega) (by omega)).trans ff291
  have ff318 : z296 17 = .inr (3, [.int (iI (0)), .ref (b + 18)]) := (hzf300 17 (by omega) (by omega)).trans ff292
  have ff319 : z296 18 = ir ct 32 (fun _ => 0) := (hzf300 18 (by omega) (by omega)).trans ff293
  have fr320 : ∀ j : Nat, (j < 0) → z296 j = u j := fun j h0 => (hzf300 j (by omega) (by omega)).trans (fr295 j h0)
  refine w_putF (C := "LevelledRing") (T := T_R) (M := 11) (ty := (.object "LevelledRing$Poly")) (v := .ref (b + 19)) hx hb hts hinR ty_R tyok_R nm_R hown hK hP hS (0) (by omega) ff301 rfl 10 (by decide) kk32 (fun _ h => h) rfl hnm rfl (by decide +kernel) rfl rfl (Nat.le_of_ble_eq_true rfl) d_R_init_101 (fun H locs hP hS => ?_)
  obtain ⟨u321, hu322, hP⟩ : ∃ zz : Nat → va_E, zz = va_up z296 0 (.inr (5, [.ref (b + 1), .null, .ref (b + 2), .ref (b + 4), .int (iI (0)), .int (iI (0)), .ref (b + 5), .ref (b + 10), .ref (b + 15), .ref (b + 17), .ref (b + 19)])) ∧ va_P D vwCl (wl 21 b zz) H := ⟨_, rfl, hP⟩
  have ff323 : u321 0 = .inr (5, [.ref (b + 1), .null, .ref (b + 2), .ref (b + 4), .int (iI (0)), .int (iI (0)), .ref (b + 5), .ref (b + 10), .ref (b + 15), .ref (b + 17), .ref (b + 19)]) := (congrFun hu322 _).trans up_s
  have ff324 : u321 1 = .inr (0, [.int (0)]) := (congrFun hu322 _).trans ((up_n (by omega)).trans ff302)
  have ff325 : u321 2 = .inr (3, [.int (iI (1)), .ref (b + 3)]) := (congrFun hu322 _).trans ((up_n (by omega)).trans ff303)
  have ff326 : u321 3 = ir ct 8 (fun _ => 0) := (congrFun hu322 _).trans ((up_n (by omega)).trans ff304)
  have ff327 : u321 4 = qr ct 3 24 (fun _ => none) := (congrFun hu322 _).trans ((up_n (by omega)).trans ff305)
  have ff328 : u321 5 = .inr (4, [.int (iI (0)), .long (lI (0)), .ref (b + 6), .ref (b + 8)]) := (congrFun hu322 _).trans ((up_n (by omega)).trans ff306)
  have ff329 : u321 6 = .inr (3, [.int (iI (0)), .ref (b + 7)]) := (congrFun hu322 _).trans ((up_n (by omega)).trans ff307)
  have ff330 : u321 7 = ir ct 32 (fun _ => 0) := (congrFun hu322 _).trans ((up_n (by omega)).trans ff308)
  have ff331 : u321 8 = .inr (3, [.int (iI (0)), .ref (b + 9)]) := (congrFun hu322 _).trans ((up_n (by omega)).trans ff309)
  have ff332 : u321 9 = ir ct 32 (fun _ => 0) := (congrFun hu322 _).trans ((up_n (by omega)).trans ff310)
  have ff333 : u321 10 = .inr (4, [.int (iI (0)), .long (lI (0)), .ref (b + 11), .ref (b + 13)]) := (congrFun hu322 _).trans ((up_n (by omega)).trans ff311)
  have ff334 : u321 11 = .inr (3, [.int (iI (0)), .ref (b + 12)]) := (congrFun hu322 _).trans ((up_n (by omega)).trans ff312)
  have ff335 : u321 12 = ir ct 32 (fun _ => 0) := (congrFun hu322 _).trans ((up_n (by omega)).trans ff313)
  have ff336 : u321 13 = .inr (3, [.int (iI (0)), .ref (b + 14)]) := (congrFun hu322 _).trans ((up_n (by omega)).trans ff314)
  have ff337 : u321 14 = ir ct 32 (fun _ => 0) := (congrFun hu322 _).trans ((up_n (by omega)).trans ff315)
  have ff338 : u321 15 = .inr (3, [.int (iI (0)), .ref (b + 16)]) := (congrFun hu322 _).trans ((up_n (by omega)).trans ff316)
  have ff339 : u321 16 = ir ct 32 (fun _ => 0) := (congrFun hu322 _).trans ((up_n (by omega)).trans ff317)
  have ff340 : u321 17 = .inr (3, [.int (iI (0)), .ref (b + 18)]) := (congrFun hu322 _).trans ((up_n (by omega)).trans ff318)
  have ff341 : u321 18 = ir ct 32 (fun _ => 0) := (congrFun hu322 _).trans ((up_n (by omega)).trans ff319)
  have ff342 : u321 19 = .inr (3, [.int (iI (0)), .ref (b + 20)]) := (congrFun hu322 _).trans ((up_n (by omega)).trans hq298)
  have ff343 : u321 20 = ir ct 32 (fun _ => 0) := (congrFun hu322 _).trans ((up_n (by omega)).trans hq299)
  have fr344 : ∀ j : Nat, (j < 0) → u321 j = u j := fun j h0 => (congrFun hu322 j).trans ((up_n (by omega)).trans (fr320 j h0))
  refine lv_aload_n hx hb d_R_init_104 rfl (lv_at hl 0 rfl) ?_
  refine w_get (C := "LevelledRing") (T := T_R) (M := 11) hx hb hts hinR hown hK hP (0) (by omega) ff323 rfl 0 (by decide) kk9 (fun _ h => h) rfl d_R_init_105 ?_
  refine lv_iload_n hx hb d_R_init_108 rfl (lv_at hl 1 rfl) ?_
  refine w_callv (va_runV (As := [.int z0]) (rest := []) ⟨hx, hb, hml, hown, hts⟩ (c_start l D ct st ke b 21 u321 1 0 z0 (by decide) ff324) (cwV 1 hts (gV t_73 t_74 t_75 t_2 t_76) rfl rfl rfl (by decide +kernel) ⟨Nat.le_of_ble_eq_true rfl, Nat.le_of_ble_eq_true rfl⟩) (pre_V E hP hS (1) (by omega) ff324 rfl) rfl rfl hl.1 rfl (lv_room (Nat.le_of_ble_eq_true rfl)) d_R_init_109 ⟨(Nat.le_of_ble_eq_true rfl), (Nat.le_of_ble_eq_true rfl)⟩) hS (fun z345 H locs hz hP hS => ?_)
  obtain ⟨hd3, hd4⟩ := hz
  have ff347 : z345 0 = .inr (5, [.ref (b + 1), .null, .ref (b + 2), .ref (b + 4), .int (iI (0)), .int (iI (0)), .ref (b + 5), .ref (b + 10), .ref (b + 15), .ref (b + 17), .ref (b + 19)]) := (hd4 0 (by omega)).trans ff323
  have ff348 : z345 2 = .inr (3, [.int (iI (1)), .ref (b + 3)]) := (hd4 2 (by omega)).trans ff325
  have ff349 : z345 3 = ir ct 8 (fun _ => 0) := (hd4 3 (by omega)).trans ff326
  have ff350 : z345 4 = qr ct 3 24 (fun _ => none) := (hd4 4 (by omega)).trans ff327
  have ff351 : z345 5 = .inr (4, [.int (iI (0)), .long (lI (0)), .ref (b + 6), .ref (b + 8)]) := (hd4 5 (by omega)).trans ff328
  have ff352 : z345 6 = .inr (3, [.int (iI (0)), .ref (b + 7)]) := (hd4 6 (by omega)).trans ff329
  have ff353 : z345 7 = ir ct 32 (fun _ => 0) := (hd4 7 (by omega)).trans ff330
  have ff354 : z345 8 = .inr (3, [.int (iI (0)), .ref (b + 9)]) := (hd4 8 (by omega)).trans ff331
  have ff355 : z345 9 = ir ct 32 (fun _ => 0) := (hd4 9 (by omega)).trans ff332
  have ff356 : z345 10 = .inr (4, [.int (iI (0)), .long (lI (0)), .ref (b + 11), .ref (b + 13)]) := (hd4 10 (by omega)).trans ff333
  have ff357 : z345 11 = .inr (3, [.int (iI (0)), .ref (b + 12)]) := (hd4 11 (by omega)).trans ff334
  have ff358 : z345 12 = ir ct 32 (fun _ => 0) := (hd4 12 (by omega)).trans ff335
  have ff359 : z345 13 = .inr (3, [.int (iI (0)), .ref (b + 14)]) := (hd4 13 (by omega)).trans ff336
  have ff360 : z345 14 = ir ct 32 (fun _ => 0) := (hd4 14 (by omega)).trans ff337
  have ff361 : z345 15 = .inr (3, [.int (iI (0)), .ref (b + 16)]) := (hd4 15 (by omega)).trans ff338
  have ff362 : z345 16 = ir ct 32 (fun _ => 0) := (hd4 16 (by omega)).trans ff339
  have ff363 : z345 17 = .inr (3, [.int (iI (0)), .ref (b + 18)]) := (hd4 17 (by omega)).trans ff340
  have ff364 : z345 18 = ir ct 32 (fun _ => 0) := (hd4 18 (by omega)).trans ff341
  have ff365 : z345 19 = .inr (3, [.int (iI (0)), .ref (b + 20)]) := (hd4 19 (by omega)).trans ff342
  have ff366 : z345 20 = ir ct 32 (fun _ => 0) := (hd4 20 (by omega)).trans ff343
  have fr367 : ∀ j : Nat, (j < 0) → z345 j = u j := fun j h0 => (hd4 j (by omega)).trans (fr344 j h0)
  refine lv_aload_n hx hb d_R_init_112 rfl (lv_at hl 0 rfl) ?_
  refine w_new (C := "LevelledRing$Keys") (T := T_K) (M := 3) (ci := 2) (fs := [.null, .null, .null]) hx hb hts hinK ty_K tyok_K hown kk33 kk34 kk35 hK hP hS (ev_b E) (by omega) rfl (fun j hj => by rcases (show j = 0 ∨ j = 1 ∨ j = 2 by omega) with rfl | rfl | rfl <;> rfl) (Nat.le_of_ble_eq_true rfl) (Nat.le_of_ble_eq_true rfl) d_R_init_113 (fun H hP hS => ?_)
  obtain ⟨u368, hu369, hP⟩ : ∃ zz : Nat → va_E, zz = va_up z345 21 (.inr (2, [.null, .null, .null])) ∧ va_P D vwCl (wl 22 b zz) H := ⟨_, rfl, hP⟩
  have ff370 : u368 0 = .inr (5, [.ref (b + 1), .null, .ref (b + 2), .ref (b + 4), .int (iI (0)), .int (iI (0)), .ref (b + 5), .ref (b + 10), .ref (b + 15), .ref (b + 17), .ref (b + 19)]) := (congrFun hu369 _).trans ((up_n (by omega)).trans ff347)
  have ff371 : u368 2 = .inr (3, [.int (iI (1)), .ref (b + 3)]) := (congrFun hu369 _).trans ((up_n (by omega)).trans ff348)
  have ff372 : u368 3 = ir ct 8 (fun _ => 0) := (congrFun hu369 _).trans ((up_n (by omega)).trans ff349)
  have ff373 : u368 4 = qr ct 3 24 (fun _ => none) := (congrFun hu369 _).trans ((up_n (by omega)).trans ff350)
  have ff374 : u368 5 = .inr (4, [.int (iI (0)), .long (lI (0)), .ref (b + 6), .ref (b + 8)]) := (congrFun hu369 _).trans ((up_n (by omega)).trans ff351)
  have ff375 : u368 6 = .inr (3, [.int (iI (0)), .ref (b + 7)]) := (congrFun hu369 _).trans ((up_n (by omega)).trans ff352)
  have ff376 : u368 7 = ir ct 32 (fun _ => 0) := (congrFun hu369 _).trans ((up_n (by omega)).trans ff353)
  have ff377 : u368 8 = .inr (3, [.int (iI (0)), .ref (b + 9)]) := (congrFun hu369 _).trans ((up_n (by omega)).trans ff354)
  have ff378 : u368 9 = ir ct 32 (fun _ => 0) := (congrFun hu369 _).trans ((up_n (by omega)).trans ff355)
  have ff379 : u368 10 = .inr (4, [.int (iI (0)), .long (lI (0)), .ref (b + 11), .ref (b + 13)]) := (congrFun hu369 _).trans ((up_n (by omega)).trans ff356)
  have ff380 : u368 11 = .inr (3, [.int (iI (0)), .ref (b + 12)]) := (congrFun hu369 _).trans ((up_n (by omega)).trans ff357)
  have ff381 : u368 12 = ir ct 32 (fun _ => 0) := (congrFun hu369 _).trans ((up_n (by omega)).trans ff358)
  have ff382 : u368 13 = .inr (3, [.int (iI (0)), .ref (b + 14)]) := (congrFun hu369 _).trans ((up_n (by omega)).trans ff359)
  have ff383 : u368 14 = ir ct 32 (fun _ => 0) := (congrFun hu369 _).trans ((up_n (by omega)).trans ff360)
  have ff384 : u368 15 = .inr (3, [.int (iI (0)), .ref (b + 16)]) := (congrFun hu369 _).trans ((up_n (by omega)).trans ff361)
  have ff385 : u368 16 = ir ct 32 (fun _ => 0) := (congrFun hu369 _).trans ((up_n (by omega)).trans ff362)
  have ff386 : u368 17 = .inr (3, [.int (iI (0)), .ref (b + 18)]) := (congrFun hu369 _).trans ((up_n (by omega)).trans ff363)
  have ff387 : u368 18 = ir ct 32 (fun _ => 0) := (congrFun hu369 _).trans ((up_n (by omega)).trans ff364)
  have ff388 : u368 19 = .inr (3, [.int (iI (0)), .ref (b + 20)]) := (congrFun hu369 _).trans ((up_n (by omega)).trans ff365)
  have ff389 : u368 20 = ir ct 32 (fun _ => 0) := (congrFun hu369 _).trans ((up_n (by omega)).trans ff366)
  have ff390 : u368 1 = .inr (0, [.int (z0)]) := (congrFun hu369 _).trans ((up_n (by omega)).trans hd3)
  have ff391 : u368 21 = .inr (2, [.null, .null, .null]) := (congrFun hu369 _).trans up_s
  have fr392 : ∀ j : Nat, (j < 0) → u368 j = u j := fun j h0 => (congrFun hu369 j).trans ((up_n (by omega)).trans (fr367 j h0))
  refine lv_dup hx hb d_R_init_116 rfl ?_
  refine lv_aload_n hx hb d_R_init_117 rfl (lv_at hl 0 rfl) ?_
  refine w_get (C := "LevelledRing") (T := T_R) (M := 11) hx hb hts hinR hown hK hP (0) (by omega) ff370 rfl 0 (by decide) kk9 (fun _ h => h) rfl d_R_init_118 ?_
  refine w_sz hP (by omega) (by omega) (fun hHs => ?_)
  refine w_callv (va_runI (As := [.ref (b + 1)]) (rest := [.ref (b + 21), .ref (b + 0)]) ⟨hx, hb, hml, hown, hts⟩ (c_K_init l D ct st ke b u368 z0 ff391 ff390) (cwI 1 hts (gC t_81) rfl rfl rfl kk35 kk38 kk37 rfl (by decide +kernel) ⟨Nat.le_of_ble_eq_true rfl, Nat.le_of_ble_eq_true rfl⟩) (pre_C E hP hS hHs) rfl rfl hl.1 rfl (lv_room (Nat.le_of_ble_eq_true rfl)) d_R_init_121 ⟨(Nat.le_of_ble_eq_true rfl), (Nat.le_of_ble_eq_true rfl)⟩) hS (fun z393 H locs hz hP hS => ?_)
  obtain ⟨hKS, ⟨z1, hd5⟩, hzK⟩ := hz
  have ff395 : z393 0 = .inr (5, [.ref (b + 1), .null, .ref (b + 2), .ref (b + 4), .int (iI (0)), .int (iI (0)), .ref (b + 5), .ref (b + 10), .ref (b + 15), .ref (b + 17), .ref (b + 19)]) := (hzK 0 (by omega) (by omega)).trans ff370
  have ff396 : z393 2 = .inr (3, [.int (iI (1)), .ref (b + 3)]) := (hzK 2 (by omega) (by omega)).trans ff371
  have ff397 : z393 3 = ir ct 8 (fun _ => 0) := (hzK 3 (by omega) (by omega)).trans ff372
  have ff398 : z393 4 = qr ct 3 24 (fun _ => none) := (hzK 4 (by omega) (by omega)).trans ff373
  have ff399 : z393 5 = .inr (4, [.int (iI (0)), .long (lI (0)), .ref (b + 6), .ref (b + 8)]) := (hzK 5 (by omega) (by omega)).trans ff374
  have ff400 : z393 6 = .inr (3, [.int (iI (0)), .ref (b + 7)]) := (hzK 6 (by omega) (by omega)).trans ff375
  have ff401 : z393 7 = ir ct 32 (fun _ => 0) := (hzK 7 (by omega) (by omega)).trans ff376
  have ff402 : z393 8 = .inr (3, [.int (iI (0)), .ref (b + 9)]) := (hzK 8 (by omega) (by omega)).trans ff377
  have ff403 : z393 9 = ir ct 32 (fun _ => 0) := (hzK 9 (by omega) (by omega)).trans ff378
  have ff404 : z393 10 = .inr (4, [.int (iI (0)), .long (lI (0)), .ref (b + 11), .ref (b + 13)]) := (hzK 10 (by omega) (by omega)).trans ff379
  have ff405 : z393 11 = .inr (3, [.int (iI (0)), .ref (b + 12)]) := (hzK 11 (by omega) (by omega)).trans ff380
  have ff406 : z393 12 = ir ct 32 (fun _ => 0) := (hzK 12 (by omega) (by omega)).trans ff381
  have ff407 : z393 13 = .inr (3, [.int (iI (0)), .ref (b + 14)]) := (hzK 13 (by omega) (by omega)).trans ff382
  have ff408 : z393 14 = ir ct 32 (fun _ => 0) := (hzK 14 (by omega) (by omega)).trans ff383
  have ff409 : z393 15 = .inr (3, [.int (iI (0)), .ref (b + 16)]) := (hzK 15 (by omega) (by omega)).trans ff384
  have ff410 : z393 16 = ir ct 32 (fun _ => 0) := (hzK 16 (by omega) (by omega)).trans ff385
  have ff411 : z393 17 = .inr (3, [.int (iI (0)), .ref (b + 18)]) := (hzK 17 (by omega) (by omega)).trans ff386
  have ff412 : z393 18 = ir ct 32 (fun _ => 0) := (hzK 18 (by omega) (by omega)).trans ff387
  have ff413 : z393 19 = .inr (3, [.int (iI (0)), .ref (b + 20)]) := (hzK 19 (by omega) (by omega)).trans ff388
  have ff414 : z393 20 = ir ct 32 (fun _ => 0) := (hzK 20 (by omega) (by omega)).trans ff389
  have fr415 : ∀ j : Nat, (j < 0) → z393 j = u j := fun j h0 => (hzK j (by omega) (by omega)).trans (fr392 j h0)
  have xf416 : ∀ j : Nat, (21 ≤ j) → (j < 44) → z393 j = z393 j := fun _ _ _ => rfl
  refine w_putF (C := "LevelledRing") (T := T_R) (M := 11) (ty := (.object "LevelledRing$Keys")) (v := .ref (b + 21)) hx hb hts hinR ty_R tyok_R nm_R hown hK hP hS (0) (by omega) ff395 rfl 1 (by decide) kk39 (fun _ h => h) rfl hnm rfl (by decide +kernel) rfl rfl (Nat.le_of_ble_eq_true rfl) d_R_init_124 (fun H locs hP hS => ?_)
  obtain ⟨u417, hu418, hP⟩ : ∃ zz : Nat → va_E, zz = va_up z393 0 (.inr (5, [.ref (b + 1), .ref (b + 21), .ref (b + 2), .ref (b + 4), .int (iI (0)), .int (iI (0)), .ref (b + 5), .ref (b + 10), .ref (b + 15), .ref (b + 17), .ref (b + 19)])) ∧ va_P D vwCl (wl 44 b zz) H := ⟨_, rfl, hP⟩
  have ff419 : u417 0 = .inr (5, [.ref (b + 1), .ref (b + 21), .ref (b + 2), .ref (b + 4), .int (iI (0)), .int (iI (0)), .ref (b + 5), .ref (b + 10), .ref (b + 15), .ref (b + 17), .ref (b + 19)]) := (congrFun hu418 _).trans up_s
  have ff420 : u417 2 = .inr (3, [.int (iI (1)), .ref (b + 3)]) := (congrFun hu418 _).trans ((up_n (by omega)).trans ff396)
  have ff421 : u417 3 = ir ct 8 (fun _ => 0) := (congrFun hu418 _).trans ((up_n (by omega)).trans ff397)
  have ff422 : u417 4 = qr ct 3 24 (fun _ => none) := (congrFun hu418 _).trans ((up_n (by omega)).trans ff398)
  have ff423 : u417 5 = .inr (4, [.int (iI (0)), .long (lI (0)), .ref (b + 6), .ref (b + 8)]) := (congrFun hu418 _).trans ((up_n (by omega)).trans ff399)
  have ff424 : u417 6 = .inr (3, [.int (iI (0)), .ref (b + 7)]) := (congrFun hu418 _).trans ((up_n (by omega)).trans ff400)
  have ff425 : u417 7 = ir ct 32 (fun _ => 0) := (congrFun hu418 _).trans ((up_n (by omega)).trans ff401)
  have ff426 : u417 8 = .inr (3, [.int (iI (0)), .ref (b + 9)]) := (congrFun hu418 _).trans ((up_n (by omega)).trans ff402)
  have ff427 : u417 9 = ir ct 32 (fun _ => 0) := (congrFun hu418 _).trans ((up_n (by omega)).trans ff403)
  have ff428 : u417 10 = .inr (4, [.int (iI (0)), .long (lI (0)), .ref (b + 11), .ref (b + 13)]) := (congrFun hu418 _).trans ((up_n (by omega)).trans ff404)
  have ff429 : u417 11 = .inr (3, [.int (iI (0)), .ref (b + 12)]) := (congrFun hu418 _).trans ((up_n (by omega)).trans ff405)
  have ff430 : u417 12 = ir ct 32 (fun _ => 0) := (congrFun hu418 _).trans ((up_n (by omega)).trans ff406)
  have ff431 : u417 13 = .inr (3, [.int (iI (0)), .ref (b + 14)]) := (congrFun hu418 _).trans ((up_n (by omega)).trans ff407)
  have ff432 : u417 14 = ir ct 32 (fun _ => 0) := (congrFun hu418 _).trans ((up_n (by omega)).trans ff408)
  have ff433 : u417 15 = .inr (3, [.int (iI (0)), .ref (b + 16)]) := (congrFun hu418 _).trans ((up_n (by omega)).trans ff409)
  have ff434 : u417 16 = ir ct 32 (fun _ => 0) := (congrFun hu418 _).trans ((up_n (by omega)).trans ff410)
  have ff435 : u417 17 = .inr (3, [.int (iI (0)), .ref (b + 18)]) := (congrFun hu418 _).trans ((up_n (by omega)).trans ff411)
  have ff436 : u417 18 = ir ct 32 (fun _ => 0) := (congrFun hu418 _).trans ((up_n (by omega)).trans ff412)
  have ff437 : u417 19 = .inr (3, [.int (iI (0)), .ref (b + 20)]) := (congrFun hu418 _).trans ((up_n (by omega)).trans ff413)
  have ff438 : u417 20 = ir ct 32 (fun _ => 0) := (congrFun hu418 _).trans ((up_n (by omega)).trans ff414)
  have ff439 : u417 1 = .inr (0, [.int (z1)]) := (congrFun hu418 _).trans ((up_n (by omega)).trans hd5)
  have fr440 : ∀ j : Nat, (j < 0) → u417 j = u j := fun j h0 => (congrFun hu418 j).trans ((up_n (by omega)).trans (fr415 j h0))
  have xf441 : ∀ j : Nat, (21 ≤ j) → (j < 44) → u417 j = z393 j := fun j h0 h1 => (congrFun hu418 j).trans ((up_n (by omega)).trans (xf416 j h0 h1))
  refine lv_iconst (v := iI (0)) hx hb d_R_init_127 rfl ?_
  refine lv_istore_n (lv' := [(2, .int (iI (0))), (0, .ref (b + 0)), (1, .int z0)]) hx hb d_R_init_128 rfl hl (by decide) rfl (fun ls hl => ?_)
  have fr442 : ∀ j : Nat, (j ≠ 4) → (j < 44) → u417 j = u417 j := fun _ _ _ => rfl
  have lo : ∀ (d : Nat) (jn : Nat) (f : Nat → Option Nat) (w443 : Nat → va_E) (H : Heap) (locs : List Loc) (ls : Array Slot), (jn ≤ 24) → (24 - jn < d) → (∀ i : Nat, i < jn → f i = some (b + (44 + 8 * i))) → (∀ i : Nat, i < jn → (∃ G1 : Gt, GA ct b ke w443 (44 + 8 * i) G1) ∧ VS ct b w443 (47 + 8 * i)) → w443 4 = qr ct 3 24 (f) → (∀ j : Nat, (j ≠ 4) → (j < 44) → w443 j = u417 j) → va_P D vwCl (wl (44 + 8 * jn) b w443) H → va_S (AA b) s.heap H locs → lv_has ls 3 [(2, .int (iI ((jn : Int)))), (0, .ref (b + 0)), (1, .int z0)] → W p l e rm_c_R_init s m args below meth c H locs (43 + 8 * jn) (656 + 126 * jn) Q (F0 m 129 ls []) := by
    intro d
    induction d with
    | zero => intro jn f w443 H locs ls hj hd hf hG fg444 fr445 hP hS hl; exfalso; omega
    | succ d ihlo =>
      intro jn f w443 H locs ls hj hd hf hG fg444 fr445 hP hS hl
      have ff446 : w443 0 = .inr (5, [.ref (b + 1), .ref (b + 21), .ref (b + 2), .ref (b + 4), .int (iI (0)), .int (iI (0)), .ref (b + 5), .ref (b + 10), .ref (b + 15), .ref (b + 17), .ref (b + 19)]) := (fr445 0 (by omega) (by omega)).trans ff419
      have ff447 : w443 2 = .inr (3, [.int (iI (1)), .ref (b + 3)]) := (fr445 2 (by omega) (by omega)).trans ff420
      have ff448 : w443 3 = ir ct 8 (fun _ => 0) := (fr445 3 (by omega) (by omega)).trans ff421
      have ff449 : w443 5 = .inr (4, [.int (iI (0)), .long (lI (0)), .ref (b + 6), .ref (b + 8)]) := (fr445 5 (by omega) (by omega)).trans ff423
      have ff450 : w443 6 = .inr (3, [.int (iI (0)), .ref (b + 7)]) := (fr445 6 (by omega) (by omega)).trans ff424
      have ff451 : w443 7 = ir ct 32 (fun _ => 0) := (fr445 7 (by omega) (by omega)).trans ff425
      have ff452 : w443 8 = .inr (3, [.int (iI (0)), .ref (b + 9)]) := (fr445 8 (by omega) (by omega)).trans ff426
      have ff453 : w443 9 = ir ct 32 (fun _ => 0) := (fr445 9 (by omega) (by omega)).trans ff427
      have ff454 : w443 10 = .inr (4, [.int (iI (0)), .long (lI (0)), .ref (b + 11), .ref (b + 13)]) := (fr445 10 (by omega) (by omega)).trans ff428
      have ff455 : w443 11 = .inr (3, [.int (iI (0)), .ref (b + 12)]) := (fr445 11 (by omega) (by omega)).trans ff429
      have ff456 : w443 12 = ir ct 32 (fun _ => 0) := (fr445 12 (by omega) (by omega)).trans ff430
      have ff457 : w443 13 = .inr (3, [.int (iI (0)), .ref (b + 14)]) := (fr445 13 (by omega) (by omega)).trans ff431
      have ff458 : w443 14 = ir ct 32 (fun _ => 0) := (fr445 14 (by omega) (by omega)).trans ff432
      have ff459 : w443 15 = .inr (3, [.int (iI (0)), .ref (b + 16)]) := (fr445 15 (by omega) (by omega)).trans ff433
      have ff460 : w443 16 = ir ct 32 (fun _ => 0) := (fr445 16 (by omega) (by omega)).trans ff434
      have ff461 : w443 17 = .inr (3, [.int (iI (0)), .ref (b + 18)]) := (fr445 17 (by omega) (by omega)).trans ff435
      have ff462 : w443 18 = ir ct 32 (fun _ => 0) := (fr445 18 (by omega) (by omega)).trans ff436
      have ff463 : w443 19 = .inr (3, [.int (iI (0)), .ref (b + 20)]) := (fr445 19 (by omega) (by omega)).trans ff437
      have ff464 : w443 20 = ir ct 32 (fun _ => 0) := (fr445 20 (by omega) (by omega)).trans ff438
      have ff465 : w443 1 = .inr (0, [.int (z1)]) := (fr445 1 (by omega) (by omega)).trans ff439
      refine lv_iload_n hx hb d_R_init_129 rfl (lv_at hl 0 rfl) ?_
      refine lv_bipush (v := iI (24)) hx hb d_R_init_130 (by decide +kernel) ?_
      refine x_icmp_ge (tgt := 154) hx hb ⟨by omega, by omega⟩ ⟨by omega, by omega⟩ d_R_init_132 (by decide) (fun hc => ?_) (fun hc => ?_)
      · obtain rfl : jn = 24 := by omega
        refine W.widen (k := 235) (n := 3680) (by decide) (by decide) ?_
        exact ret w443 H locs 154 ls (fun G V => ⟨ff446, ⟨⟨_, ff465⟩, ⟨_, _, _, _, ff449, ff450, ff451, ff452, ff453⟩, ⟨_, _, _, _, ff454, ff455, ff456, ff457, ff458⟩, ⟨ff459, _, ff460⟩, ⟨ff461, _, ff462⟩, ⟨ff463, _, ff464⟩⟩, ⟨ff447, _, ff448, fun _ _ _ => rfl⟩, ⟨f, fg444, hf⟩, hKS.of (fun j h1 h2 => (fr445 j (by omega) (by omega)).trans (xf441 j h1 h2)), hG, fun i hi => absurd hi (Nat.not_lt_zero i), fun i hi => absurd hi (Nat.not_lt_zero i)⟩) hP hS d_R_init_154
      · have xf466 : ∀ j : Nat, (44 ≤ j) → (j < 44 + 8 * jn) → w443 j = w443 j := fun _ _ _ => rfl
        refine lv_aload_n hx hb d_R_init_135 rfl (lv_at hl 1 rfl) ?_
        refine w_get (C := "LevelledRing") (T := T_R) (M := 11) hx hb hts hinR hown hK hP (0) (by omega) ff446 rfl 3 (by decide) kk19 (fun _ h => h) rfl d_R_init_136 ?_
        refine lv_iload_n hx hb d_R_init_139 rfl (lv_at hl 0 rfl) ?_
        refine w_new (C := "LevelledRing$Gate") (T := T_G) (M := 6) (ci := 1) (fs := [.null, .int (iI (0)), .int (iI (0)), .int (iI (0)), .null, .null]) hx hb hts hinG ty_G tyok_G hown kk18 kk40 kk41 hK hP hS (ev_b E) (by omega) rfl (fun j hj => by rcases (show j = 0 ∨ j = 1 ∨ j = 2 ∨ j = 3 ∨ j = 4 ∨ j = 5 by omega) with rfl | rfl | rfl | rfl | rfl | rfl <;> rfl) (by show _ ≤ (235 : Nat); omega) (by show _ ≤ (3680 : Nat); omega) d_R_init_140 (fun H hP hS => ?_)
        obtain ⟨u467, hu468, hP⟩ : ∃ zz : Nat → va_E, zz = va_up w443 (44 + 8 * jn) (.inr (1, [.null, .int (iI (0)), .int (iI (0)), .int (iI (0)), .null, .null])) ∧ va_P D vwCl (wl (44 + 8 * jn + 1) b zz) H := ⟨_, rfl, hP⟩
        have ff469 : u467 0 = .inr (5, [.ref (b + 1), .ref (b + 21), .ref (b + 2), .ref (b + 4), .int (iI (0)), .int (iI (0)), .ref (b + 5), .ref (b + 10), .ref (b + 15), .ref (b + 17), .ref (b + 19)]) := (congrFun hu468 _).trans ((up_n (by omega)).trans ff446)
        have ff470 : u467 2 = .inr (3, [.int (iI (1)), .ref (b + 3)]) := (congrFun hu468 _).trans ((up_n (by omega)).trans ff447)
        have ff471 : u467 3 = ir ct 8 (fun _ => 0) := (congrFun hu468 _).trans ((up_n (by omega)).trans ff448)
        have ff472 : u467 5 = .inr (4, [.int (iI (0)), .long (lI (0)), .ref (b + 6), .ref (b + 8)]) := (congrFun hu468 _).trans ((up_n (by omega)).trans ff449)
        have ff473 : u467 6 = .inr (3, [.int (iI (0)), .ref (b + 7)]) := (congrFun hu468 _).trans ((up_n (by omega)).trans ff450)
        have ff474 : u467 7 = ir ct 32 (fun _ => 0) := (congrFun hu468 _).trans ((up_n (by omega)).trans ff451)
        have ff475 : u467 8 = .inr (3, [.int (iI (0)), .ref (b + 9)]) := (congrFun hu468 _).trans ((up_n (by omega)).trans ff452)
        have ff476 : u467 9 = ir ct 32 (fun _ => 0) := (congrFun hu468 _).trans ((up_n (by omega)).trans ff453)
        have ff477 : u467 10 = .inr (4, [.int (iI (0)), .long (lI (0)), .ref (b + 11), .ref (b + 13)]) := (congrFun hu468 _).trans ((up_n (by omega)).trans ff454)
        have ff478 : u467 11 = .inr (3, [.int (iI (0)), .ref (b + 12)]) := (congrFun hu468 _).trans ((up_n (by omega)).trans ff455)
        have ff479 : u467 12 = ir ct 32 (fun _ => 0) := (congrFun hu468 _).trans ((up_n (by omega)).trans ff456)
        have ff480 : u467 13 = .inr (3, [.int (iI (0)), .ref (b + 14)]) := (congrFun hu468 _).trans ((up_n (by omega)).trans ff457)
        have ff481 : u467 14 = ir ct 32 (fun _ => 0) := (congrFun hu468 _).trans ((up_n (by omega)).trans ff458)
        have ff482 : u467 15 = .inr (3, [.int (iI (0)), .ref (b + 16)]) := (congrFun hu468 _).trans ((up_n (by omega)).trans ff459)
        have ff483 : u467 16 = ir ct 32 (fun _ => 0) := (congrFun hu468 _).trans ((up_n (by omega)).trans ff460)
        have ff484 : u467 17 = .inr (3, [.int (iI (0)), .ref (b + 18)]) := (congrFun hu468 _).trans ((up_n (by omega)).trans ff461)
        have ff485 : u467 18 = ir ct 32 (fun _ => 0) := (congrFun hu468 _).trans ((up_n (by omega)).trans ff462)
        have ff486 : u467 19 = .inr (3, [.int (iI (0)), .ref (b + 20)]) := (congrFun hu468 _).trans ((up_n (by omega)).trans ff463)
        have ff487 : u467 20 = ir ct 32 (fun _ => 0) := (congrFun hu468 _).trans ((up_n (by omega)).trans ff464)
        have ff488 : u467 1 = .inr (0, [.int (z1)]) := (congrFun hu468 _).trans ((up_n (by omega)).trans ff465)
        have ff489 : u467 4 = qr ct 3 24 (f) := (congrFun hu468 _).trans ((up_n (by omega)).trans fg444)
        have ff490 : u467 (44 + 8 * jn) = .inr (1, [.null, .int (iI (0)), .int (iI (0)), .int (iI (0)), .null, .null]) := (congrFun hu468 _).trans up_s
        have fr491 : ∀ j : Nat, (j ≠ 4) → (j < 44) → u467 j = u417 j := fun j h0 h1 => (congrFun hu468 j).trans ((up_n (by omega)).trans (fr445 j h0 h1))
        have xf492 : ∀ j : Nat, (44 ≤ j) → (j < 44 + 8 * jn) → u467 j = w443 j := fun j h0 h1 => (congrFun hu468 j).trans ((up_n (by omega)).trans (xf466 j h0 h1))
        refine lv_dup hx hb d_R_init_143 rfl ?_
        refine w_sz hP (by omega) (by omega) (fun hHs => ?_)
        refine w_callv (va_runIN (As := []) (rest := [.ref (b + (44 + 8 * jn)), .int (iI ((jn : Int))), .ref (b + 4)]) ⟨hx, hb, hml, hown, hts⟩ (c_G_init l D ct st ke b u467 (44 + 8 * jn) ff490) ⟨va_cnB 0 hts (gC t_140) rfl rfl rfl kn44 kk41 (by decide +kernel) ⟨Nat.le_of_ble_eq_true rfl, Nat.le_of_ble_eq_true rfl⟩, rfl, kk43⟩ (pre_C E hP hS hHs) rfl rfl hl.1 rfl (lv_room (Nat.le_of_ble_eq_true rfl)) d_R_init_144 ⟨(by show _ ≤ (235 : Nat); omega), (by show _ ≤ (3680 : Nat); omega)⟩) hS (fun z493 H locs hz hP hS => ?_)
        obtain ⟨q0, q1, q2, q3, q4⟩ := hz
        have ff495 : z493 0 = .inr (5, [.ref (b + 1), .ref (b + 21), .ref (b + 2), .ref (b + 4), .int (iI (0)), .int (iI (0)), .ref (b + 5), .ref (b + 10), .ref (b + 15), .ref (b + 17), .ref (b + 19)]) := (q4 0 (by omega)).trans ff469
        have ff496 : z493 2 = .inr (3, [.int (iI (1)), .ref (b + 3)]) := (q4 2 (by omega)).trans ff470
        have ff497 : z493 3 = ir ct 8 (fun _ => 0) := (q4 3 (by omega)).trans ff471
        have ff498 : z493 5 = .inr (4, [.int (iI (0)), .long (lI (0)), .ref (b + 6), .ref (b + 8)]) := (q4 5 (by omega)).trans ff472
        have ff499 : z493 6 = .inr (3, [.int (iI (0)), .ref (b + 7)]) := (q4 6 (by omega)).trans ff473
        have ff500 : z493 7 = ir ct 32 (fun _ => 0) := (q4 7 (by omega)).trans ff474
        have ff501 : z493 8 = .inr (3, [.int (iI (0)), .ref (b + 9)]) := (q4 8 (by omega)).trans ff475
        have ff502 : z493 9 = ir ct 32 (fun _ => 0) := (q4 9 (by omega)).trans ff476
        have ff503 : z493 10 = .inr (4, [.int (iI (0)), .long (lI (0)), .ref (b + 11), .ref (b + 13)]) := (q4 10 (by omega)).trans ff477
        have ff504 : z493 11 = .inr (3, [.int (iI (0)), .ref (b + 12)]) := (q4 11 (by omega)).trans ff478
        have ff505 : z493 12 = ir ct 32 (fun _ => 0) := (q4 12 (by omega)).trans ff479
        have ff506 : z493 13 = .inr (3, [.int (iI (0)), .ref (b + 14)]) := (q4 13 (by omega)).trans ff480
        have ff507 : z493 14 = ir ct 32 (fun _ => 0) := (q4 14 (by omega)).trans ff481
        have ff508 : z493 15 = .inr (3, [.int (iI (0)), .ref (b + 16)]) := (q4 15 (by omega)).trans ff482
        have ff509 : z493 16 = ir ct 32 (fun _ => 0) := (q4 16 (by omega)).trans ff483
        have ff510 : z493 17 = .inr (3, [.int (iI (0)), .ref (b + 18)]) := (q4 17 (by omega)).trans ff484
        have ff511 : z493 18 = ir ct 32 (fun _ => 0) := (q4 18 (by omega)).trans ff485
        have ff512 : z493 19 = .inr (3, [.int (iI (0)), .ref (b + 20)]) := (q4 19 (by omega)).trans ff486
        have ff513 : z493 20 = ir ct 32 (fun _ => 0) := (q4 20 (by omega)).trans ff487
        have ff514 : z493 1 = .inr (0, [.int (z1)]) := (q4 1 (by omega)).trans ff488
        have ff515 : z493 4 = qr ct 3 24 (f) := (q4 4 (by omega)).trans ff489
        have fr516 : ∀ j : Nat, (j ≠ 4) → (j < 44) → z493 j = u417 j := fun j h0 h1 => (q4 j (by omega)).trans (fr491 j h0 h1)
        have xf517 : ∀ j : Nat, (44 ≤ j) → (j < 44 + 8 * jn) → z493 j = w443 j := fun j h0 h1 => (q4 j (by omega)).trans (xf492 j h0 h1)
        refine w_aast (C := ("LevelledRing$Gate", T_G, 6)) hx hb hK hP hS (4) (by omega) 3 (44 + 8 * jn) 1 (by omega) ff515 rfl q0 rfl (by omega) (by omega) (by decide) d_R_init_147 (fun H locs hP hS => ?_)
        obtain ⟨u518, hu519, hP⟩ : ∃ zz : Nat → va_E, zz = va_up z493 4 (qr ct 3 24 (va_up (f) ((jn : Int)).toNat (some (b + (44 + 8 * jn))))) ∧ va_P D vwCl (wl (44 + 8 * jn + 8) b zz) H := ⟨_, rfl, hP⟩
        have ff520 : u518 0 = .inr (5, [.ref (b + 1), .ref (b + 21), .ref (b + 2), .ref (b + 4), .int (iI (0)), .int (iI (0)), .ref (b + 5), .ref (b + 10), .ref (b + 15), .ref (b + 17), .ref (b + 19)]) := (congrFun hu519 _).trans ((up_n (by omega)).trans ff495)
        have ff521 : u518 2 = .inr (3, [.int (iI (1)), .ref (b + 3)]) := (congrFun hu519 _).trans ((up_n (by omega)).trans ff496)
        have ff522 : u518 3 = ir ct 8 (fun _ => 0) := (congrFun hu519 _).trans ((up_n (by omega)).trans ff497)
        have ff523 : u518 5 = .inr (4, [.int (iI (0)), .long (lI (0)), .ref (b + 6), .ref (b + 8)]) := (congrFun hu519 _).trans ((up_n (by omega)).trans ff498)
        have ff524 : u518 6 = .inr (3, [.int (iI (0)), .ref (b + 7)]) := (congrFun hu519 _).trans ((up_n (by omega)).trans ff499)
        have ff525 : u518 7 = ir ct 32 (fun _ => 0) := (congrFun hu519 _).trans ((up_n (by omega)).trans ff500)
        have ff526 : u518 8 = .inr (3, [.int (iI (0)), .ref (b + 9)]) := (congrFun hu519 _).trans ((up_n (by omega)).trans ff501)
        have ff527 : u518 9 = ir ct 32 (fun _ => 0) := (congrFun hu519 _).trans ((up_n (by omega)).trans ff502)
        have ff528 : u518 10 = .inr (4, [.int (iI (0)), .long (lI (0)), .ref (b + 11), .ref (b + 13)]) := (congrFun hu519 _).trans ((up_n (by omega)).trans ff503)
        have ff529 : u518 11 = .inr (3, [.int (iI (0)), .ref (b + 12)]) := (congrFun hu519 _).trans ((up_n (by omega)).trans ff504)
        have ff530 : u518 12 = ir ct 32 (fun _ => 0) := (congrFun hu519 _).trans ((up_n (by omega)).trans ff505)
        have ff531 : u518 13 = .inr (3, [.int (iI (0)), .ref (b + 14)]) := (congrFun hu519 _).trans ((up_n (by omega)).trans ff506)
        have ff532 : u518 14 = ir ct 32 (fun _ => 0) := (congrFun hu519 _).trans ((up_n (by omega)).trans ff507)
        have ff533 : u518 15 = .inr (3, [.int (iI (0)), .ref (b + 16)]) := (congrFun hu519 _).trans ((up_n (by omega)).trans ff508)
        have ff534 : u518 16 = ir ct 32 (fun _ => 0) := (congrFun hu519 _).trans ((up_n (by omega)).trans ff509)
        have ff535 : u518 17 = .inr (3, [.int (iI (0)), .ref (b + 18)]) := (congrFun hu519 _).trans ((up_n (by omega)).trans ff510)
        have ff536 : u518 18 = ir ct 32 (fun _ => 0) := (congrFun hu519 _).trans ((up_n (by omega)).trans ff511)
        have ff537 : u518 19 = .inr (3, [.int (iI (0)), .ref (b + 20)]) := (congrFun hu519 _).trans ((up_n (by omega)).trans ff512)
        have ff538 : u518 20 = ir ct 32 (fun _ => 0) := (congrFun hu519 _).trans ((up_n (by omega)).trans ff513)
        have ff539 : u518 1 = .inr (0, [.int (z1)]) := (congrFun hu519 _).trans ((up_n (by omega)).trans ff514)
        have ff540 : u518 4 = qr ct 3 24 (va_up (f) ((jn : Int)).toNat (some (b + (44 + 8 * jn)))) := (congrFun hu519 _).trans up_s
        have ff541 : u518 (44 + 8 * jn) = .inr (1, [.ref (ke 0), .int (iI (-1)), .int (iI (-1)), .int (iI (0)), .ref (b + (44 + 8 * jn + 1)), .ref (b + (44 + 8 * jn + 3))]) := (congrFun hu519 _).trans ((up_n (by omega)).trans q0)
        have ff542 : u518 (44 + 8 * jn + 1) = .inr (3, [.int (iI (1)), .ref (b + (44 + 8 * jn + 2))]) := (congrFun hu519 _).trans ((up_n (by omega)).trans q1)
        have ff543 : u518 (44 + 8 * jn + 2) = ir ct 8 (fun _ => 0) := (congrFun hu519 _).trans ((up_n (by omega)).trans q2)
        have ff544 : u518 (44 + 8 * jn + 3) = .inr (4, [.int (iI (0)), .long (lI (0)), .ref (b + (44 + 8 * jn + 4)), .ref (b + (44 + 8 * jn + 6))]) := (congrFun hu519 _).trans ((up_n (by omega)).trans q3.1)
        have ff545 : u518 (44 + 8 * jn + 4) = .inr (3, [.int (iI (0)), .ref (b + (44 + 8 * jn + 5))]) := (congrFun hu519 _).trans ((up_n (by omega)).trans q3.2.1)
        have ff546 : u518 (44 + 8 * jn + 5) = ir ct 32 (fun _ => 0) := (congrFun hu519 _).trans ((up_n (by omega)).trans q3.2.2.1)
        have ff547 : u518 (44 + 8 * jn + 6) = .inr (3, [.int (iI (0)), .ref (b + (44 + 8 * jn + 7))]) := (congrFun hu519 _).trans ((up_n (by omega)).trans q3.2.2.2.1)
        have ff548 : u518 (44 + 8 * jn + 7) = ir ct 32 (fun _ => 0) := (congrFun hu519 _).trans ((up_n (by omega)).trans q3.2.2.2.2)
        have fr549 : ∀ j : Nat, (j ≠ 4) → (j < 44) → u518 j = u417 j := fun j h0 h1 => (congrFun hu519 j).trans ((up_n (by omega)).trans (fr516 j h0 h1))
        have xf550 : ∀ j : Nat, (44 ≤ j) → (j < 44 + 8 * jn) → u518 j = w443 j := fun j h0 h1 => (congrFun hu519 j).trans ((up_n (by omega)).trans (xf517 j h0 h1))
        refine lv_iinc (k := 0) (v := iI ((jn : Int) + 1)) (lv' := [(2, .int (iI ((jn : Int) + 1))), (0, .ref (b + 0)), (1, .int z0)]) hx hb d_R_init_148 hl rfl (iI_add _ _) (by decide) rfl (fun ls hl => ?_)
        have hl : lv_has ls 3 [(2, .int (iI (((jn + 1 : Nat) : Int)))), (0, .ref (b + 0)), (1, .int z0)] := by rw [show ((jn + 1 : Nat) : Int) = (jn : Int) + 1 from by omega]; exact hl
        refine lv_goto (tgt := 129) hx hb d_R_init_151 (by decide) ?_
        refine W.widen (k := 43 + 8 * (jn + 1)) (n := 656 + 126 * (jn + 1)) (by omega) (by omega) ?_
        have hkeep := xf550
        refine ihlo (jn + 1) _ u518 H locs ls (by omega) (by omega) (fun i hi => ?_) (fun i hi => ?_) ff540 fr549 hP hS hl
        · by_cases h : i = jn
          · subst h; exact up_s
          · exact (up_n (by omega)).trans (hf i (by omega))
        · by_cases h : i = jn
          · subst h
            refine ⟨⟨(0, -1, -1, 0, fun _ => 0), ff541, ff542, fun _ => 0, ff543, fun _ _ _ => rfl⟩, ?_⟩
            rw [show 47 + 8 * i = 44 + 8 * i + 3 by omega]
            exact ⟨0, 0, fun _ => 0, fun _ => 0, ff544, ff545, ff546, ff547, ff548⟩
          · obtain ⟨⟨G1, h1⟩, h2⟩ := hG i (by omega)
            exact ⟨⟨G1, h1.of fun q h3 h4 => hkeep q (by omega) (by omega)⟩, h2.of fun q h3 h4 => hkeep q (by omega) (by omega)⟩
  refine W.widen (k := 43 + 8 * 0) (n := 656 + 126 * 0) (by decide) (by decide) ?_
  exact lo 25 0 _ u417 H locs ls (by omega) (by omega) (fun i hi => by omega) (fun i hi => by omega) ff422 fr442 hP hS hl
end
section
abbrev rm_c_isC : Room := { frames := 0, cells := 0, slots := 0, locals := 0 }
set_option maxHeartbeats 4000000 in
set_option maxRecDepth 100000 in
/-- isCoefficient(x) -/
theorem c_isC (l : Launch) (D : va_G) (ct : Nat → ClassId) (st ke : Nat → Nat) (b N : Nat) (u : Nat → va_E) (x : Int) (hx0 : r32 x) : Met l y_R_isCoefficient (w_R_isCoefficient) rm_c_isC (va_Pc [.int (iI (x))] (fun U => ev D ct st ke b U ∧ va_P D vwCl (wl N b u) U.heap)) (va_Qi (fun (r : Int32) (z : Nat → va_E) => r = iI (inb x 8) ∧ u = z) (fun (z : Nat → va_E) t => va_P D vwCl (wl (N) b (z)) t.heap) (AA b)) 0 0 (AA b) := by
  refine M_z (cc := c9_R_isCoefficient) (maxL := 1) (by decide) rfl (Nat.le_of_ble_eq_true rfl) ?_
  intro p e s m args below meth c Q ls H locs hx hb hml hown hts hnm E hP hS hl ret
  have hl : lv_has ls 1 [(0, .int (iI (x)))] := hl
  have hK := ev_K E
  refine lv_iload_n hx hb d_R_isCoefficient_0 rfl (lv_at hl 0 rfl) ?_
  refine x_if_lt (tgt := 14) hx hb hx0 d_R_isCoefficient_1 (by decide) (fun hc => ?_) (fun hc => ?_)
  · refine lv_iconst (v := iI (0)) hx hb d_R_isCoefficient_14 rfl ?_
    refine x_ie (y := inb x 8) (by rw [inb_o (by omega)]) ?_
    exact ret _ u H locs 15 ls (inb_01 _ _) ⟨rfl, rfl⟩ hP hS d_R_isCoefficient_15
  · refine lv_iload_n hx hb d_R_isCoefficient_4 rfl (lv_at hl 0 rfl) ?_
    refine lv_bipush (v := iI (8)) hx hb d_R_isCoefficient_5 (by decide +kernel) ?_
    refine x_icmp_ge (tgt := 14) hx hb hx0 ⟨by omega, by omega⟩ d_R_isCoefficient_7 (by decide) (fun hc => ?_) (fun hc => ?_)
    · refine lv_iconst (v := iI (0)) hx hb d_R_isCoefficient_14 rfl ?_
      refine x_ie (y := inb x 8) (by rw [inb_o (by omega)]) ?_
      exact ret _ u H locs 15 ls (inb_01 _ _) ⟨rfl, rfl⟩ hP hS d_R_isCoefficient_15
    · refine lv_iconst (v := iI (1)) hx hb d_R_isCoefficient_10 rfl ?_
      refine lv_goto (tgt := 15) hx hb d_R_isCoefficient_11 (by decide) ?_
      refine x_ie (y := inb x 8) (by rw [inb_y (by omega) (by omega)]) ?_
      exact ret _ u H locs 15 ls (inb_01 _ _) ⟨rfl, rfl⟩ hP hS d_R_isCoefficient_15
abbrev rm_c_isGate : Room := { frames := 0, cells := 0, slots := 0, locals := 0 }
set_option maxHeartbeats 4000000 in
set_option maxRecDepth 100000 in
/-- isGate(x) -/
theorem c_isGate (l : Launch) (D : va_G) (ct : Nat → ClassId) (st ke : Nat → Nat) (b N : Nat) (u : Nat → va_E) (hN : 236 ≤ N) (n v : Nat) (hn : n ≤ 24) (hv : v ≤ 24) (f0 : u 0 = ob b n v) (x : Int) (hx0 : r32 x) : Met l y_R_isGate (w_R_isGate) rm_c_isGate (va_Pc [.ref (b + 0), .int (iI (x))] (fun U => ev D ct st ke b U ∧ va_P D vwCl (wl N b u) U.heap)) (va_Qi (fun (r : Int32) (z : Nat → va_E) => r = iI (inb x (n : Int)) ∧ u = z) (fun (z : Nat → va_E) t => va_P D vwCl (wl (N) b (z)) t.heap) (AA b)) 0 0 (AA b) := by
  refine M_z (cc := c9_R_isGate) (maxL := 2) (by decide) rfl (Nat.le_of_ble_eq_true rfl) ?_
  intro p e s m args below meth c Q ls H locs hx hb hml hown hts hnm E hP hS hl ret
  have hl : lv_has ls 2 [(0, .ref (b + 0)), (1, .int (iI (x)))] := hl
  have hK := ev_K E
  have kk0 := hts (.fieldLink "LevelledRing" 31 "LevelledRing" "gateCount" "I") (List.mem_cons_of_mem _ t_177)
  have hinR : ∀ w ∈ u_ws "LevelledRing" T_R 11, w ∈ (w_R_isGate) := hin_R _
  have fr0 : ∀ j : Nat, u j = u j := fun _  => rfl
  refine lv_iload_n hx hb d_R_isGate_0 rfl (lv_at hl 1 rfl) ?_
  refine x_if_lt (tgt := 16) hx hb hx0 d_R_isGate_1 (by decide) (fun hc => ?_) (fun hc => ?_)
  · refine lv_iconst (v := iI (0)) hx hb d_R_isGate_16 rfl ?_
    refine x_ie (y := inb x (n : Int)) (by rw [inb_o (by omega)]) ?_
    exact ret _ u H locs 17 ls (inb_01 _ _) ⟨rfl, rfl⟩ hP hS d_R_isGate_17
  · refine lv_iload_n hx hb d_R_isGate_4 rfl (lv_at hl 1 rfl) ?_
    refine lv_aload_n hx hb d_R_isGate_5 rfl (lv_at hl 0 rfl) ?_
    refine w_get (C := "LevelledRing") (T := T_R) (M := 11) hx hb hts hinR hown hK hP (0) (by omega) f0 rfl 4 (by decide) kk0 (fun _ h => h) rfl d_R_isGate_6 ?_
    refine x_icmp_ge (tgt := 16) hx hb hx0 ⟨by omega, by omega⟩ d_R_isGate_9 (by decide) (fun hc => ?_) (fun hc => ?_)
    · refine lv_iconst (v := iI (0)) hx hb d_R_isGate_16 rfl ?_
      refine x_ie (y := inb x (n : Int)) (by rw [inb_o (by omega)]) ?_
      exact ret _ u H locs 17 ls (inb_01 _ _) ⟨rfl, rfl⟩ hP hS d_R_isGate_17
    · refine lv_iconst (v := iI (1)) hx hb d_R_isGate_12 rfl ?_
      refine lv_goto (tgt := 17) hx hb d_R_isGate_13 (by decide) ?_
      refine x_ie (y := inb x (n : Int)) (by rw [inb_y (by omega) (by omega)]) ?_
      exact ret _ u H locs 17 ls (inb_01 _ _) ⟨rfl, rfl⟩ hP hS d_R_isGate_17
abbrev rm_c_hasValue : Room := { frames := 0, cells := 0, slots := 0, locals := 0 }
set_option maxHeartbeats 4000000 in
set_option maxRecDepth 100000 in
/-- hasValue(x) -/
theorem c_hasValue (l : Launch) (D : va_G) (ct : Nat → ClassId) (st ke : Nat → Nat) (b N : Nat) (u : Nat → va_E) (hN : 236 ≤ N) (n v : Nat) (hn : n ≤ 24) (hv : v ≤ 24) (f0 : u 0 = ob b n v) (x : Int) (hx0 : r32 x) : Met l y_R_hasValue (w_R_hasValue) rm_c_hasValue (va_Pc [.ref (b + 0), .int (iI (x))] (fun U => ev D ct st ke b U ∧ va_P D vwCl (wl N b u) U.heap)) (va_Qi (fun (r : Int32) (z : Nat → va_E) => r = iI (inb x (v : Int)) ∧ u = z) (fun (z : Nat → va_E) t => va_P D vwCl (wl (N) b (z)) t.heap) (AA b)) 0 0 (AA b) := by
  refine M_z (cc := c9_R_hasValue) (maxL := 2) (by decide) rfl (Nat.le_of_ble_eq_true rfl) ?_
  intro p e s m args below meth c Q ls H locs hx hb hml hown hts hnm E hP hS hl ret
  have hl : lv_has ls 2 [(0, .ref (b + 0)), (1, .int (iI (x)))] := hl
  have hK := ev_K E
  have kk0 := hts (.fieldLink "LevelledRing" 35 "LevelledRing" "valueCount" "I") (List.mem_cons_of_mem _ t_178)
  have hinR : ∀ w ∈ u_ws "LevelledRing" T_R 11, w ∈ (w_R_hasValue) := hin_R _
  have fr0 : ∀ j : Nat, u j = u j := fun _  => rfl
  refine lv_iload_n hx hb d_R_hasValue_0 rfl (lv_at hl 1 rfl) ?_
  refine x_if_lt (tgt := 16) hx hb hx0 d_R_hasValue_1 (by decide) (fun hc => ?_) (fun hc => ?_)
  · refine lv_iconst (v := iI (0)) hx hb d_R_hasValue_16 rfl ?_
    refine x_ie (y := inb x (v : Int)) (by rw [inb_o (by omega)]) ?_
    exact ret _ u H locs 17 ls (inb_01 _ _) ⟨rfl, rfl⟩ hP hS d_R_hasValue_17
  · refine lv_iload_n hx hb d_R_hasValue_4 rfl (lv_at hl 1 rfl) ?_
    refine lv_aload_n hx hb d_R_hasValue_5 rfl (lv_at hl 0 rfl) ?_
    refine w_get (C := "LevelledRing") (T := T_R) (M := 11) hx hb hts hinR hown hK hP (0) (by omega) f0 rfl 5 (by decide) kk0 (fun _ h => h) rfl d_R_hasValue_6 ?_
    refine x_icmp_ge (tgt := 16) hx hb hx0 ⟨by omega, by omega⟩ d_R_hasValue_9 (by decide) (fun hc => ?_) (fun hc => ?_)
    · refine lv_iconst (v := iI (0)) hx hb d_R_hasValue_16 rfl ?_
      refine x_ie (y := inb x (v : Int)) (by rw [inb_o (by omega)]) ?_
      exact ret _ u H locs 17 ls (inb_01 _ _) ⟨rfl, rfl⟩ hP hS d_R_hasValue_17
    · refine lv_iconst (v := iI (1)) hx hb d_R_hasValue_12 rfl ?_
      refine lv_goto (tgt := 17) hx hb d_R_hasValue_13 (by decide) ?_
      refine x_ie (y := inb x (v : Int)) (by rw [inb_y (by omega) (by omega)]) ?_
      exact ret _ u H locs 17 ls (inb_01 _ _) ⟨rfl, rfl⟩ hP hS d_R_hasValue_17
abbrev rm_c_put : Room := { frames := 1, cells := 0, slots := 0, locals := 23 }
set_option maxHeartbeats 4000000 in
set_option maxRecDepth 100000 in
/-- put(x, y) -/
theorem c_put (l : Launch) (D : va_G) (ct : Nat → ClassId) (st ke : Nat → Nat) (b N : Nat) (u : Nat → va_E) (hN : 236 ≤ N) (K : Ky) (n v : Nat) (msg : Int → Int) (G : Int → Gt) (V : Int → Val) (hC : CS ct b ke u K n v msg G V) (hI : PI n v msg G V) (x y : Int) (hx0 : r32 x) (hy0 : r32 y) : Met l y_R_put (w_R_put) rm_c_put (va_Pc [.ref (b + 0), .int (iI (x)), .int (iI (y))] (fun U => ev D ct st ke b U ∧ va_P D vwCl (wl N b u) U.heap)) (va_Qi (fun (r : Int32) (z : Nat → va_E) => r = iI (inb x 8) ∧ CS ct b ke z K n v (putm msg x y) G V ∧ ∀ j : Nat, j ≠ 3 → z j = u j) (fun (z : Nat → va_E) t => va_P D vwCl (wl (N) b (z)) t.heap) (AA b)) 0 0 (AA b) := by
  refine M_z (cc := c9_R_put) (maxL := 3) (by decide) rfl (Nat.le_of_ble_eq_true rfl) ?_
  intro p e s m args below meth c Q ls H locs hx hb hml hown hts hnm E hP hS hl ret
  have hl : lv_has ls 3 [(0, .ref (b + 0)), (1, .int (iI (x))), (2, .int (iI (y)))] := hl
  have hK := ev_K E
  have kk0 := hts (.fieldLink "LevelledRing" 21 "LevelledRing" "message" "LLevelledRing$Poly;") (List.mem_cons_of_mem _ t_175)
  have hinR : ∀ w ∈ u_ws "LevelledRing" T_R 11, w ∈ (w_R_put) := hin_R _
  have kk2 := hts (.fieldLink "LevelledRing" 75 "LevelledRing$Poly" "c" "[I") (List.mem_cons_of_mem _ t_39)
  have hinP : ∀ w ∈ u_ws "LevelledRing$Poly" T_P 2, w ∈ (w_R_put) := hin_P _
  have fr0 : ∀ j : Nat, (j ≠ 3) → u j = u j := fun _ _ => rfl
  have hC9 := hC
  have hn24 := hI.1
  have hvn := hI.2.1
  obtain ⟨hO, hSC, hSV, ⟨gf, hgr, hgf⟩, hKS, hGC⟩ := hC
  obtain ⟨hm0, mg, hm1, hm2⟩ := hSV
  refine lv_iload_n hx hb d_R_put_0 rfl (lv_at hl 1 rfl) ?_
  refine w_calli (va_runS (As := [.int (iI (x))]) (rest := []) ⟨hx, hb, hml, hown, hts⟩ (c_isC l D ct st ke b N u (x) hx0) (cwS 1 hts (gS t_211 t_212 t_1 t_213) rfl rfl rfl (by decide +kernel) ⟨Nat.le_of_ble_eq_true rfl, Nat.le_of_ble_eq_true rfl⟩) (pre_S E hP hS) rfl rfl hl.1 rfl (lv_room (Nat.le_of_ble_eq_true rfl)) d_R_put_1 ⟨(Nat.le_of_ble_eq_true rfl), (Nat.le_of_ble_eq_true rfl)⟩) hS (fun r2 z1 H locs hz hP hS => ?_)
  obtain ⟨rfl, rfl⟩ := hz
  have hi01 := inb_01 (x) 8
  refine x_if_ne (tgt := 9) hx hb ⟨by omega, by omega⟩ d_R_put_4 (by decide) (fun hc => ?_) (fun hc => ?_)
  · have hx8 := inb_n hc
    refine lv_aload_n hx hb d_R_put_9 rfl (lv_at hl 0 rfl) ?_
    refine w_get (C := "LevelledRing") (T := T_R) (M := 11) hx hb hts hinR hown hK hP (0) (by omega) hO rfl 2 (by decide) kk0 (fun _ h => h) rfl d_R_put_10 ?_
    refine w_get (C := "LevelledRing$Poly") (T := T_P) (M := 2) hx hb hts hinP hown hK hP (2) (by omega) hm0 rfl 1 (by decide) kk2 (fun _ h => h) rfl d_R_put_13 ?_
    refine lv_iload_n hx hb d_R_put_16 rfl (lv_at hl 1 rfl) ?_
    refine lv_iload_n hx hb d_R_put_17 rfl (lv_at hl 2 rfl) ?_
    refine x_i2l hx hb hy0 d_R_put_18 ?_
    refine lv_bipush (v := iI (17)) hx hb d_R_put_19 (by decide +kernel) ?_
    refine w_calli (va_runS (As := [.long (lI (y)), .int (iI (17))]) (rest := [.int (iI (x)), .ref (b + 3)]) ⟨hx, hb, hml, hown, hts⟩ (c_modulo l D ct st ke b N u (y) (17) ⟨by have := hy0.1; omega, by have := hy0.2; omega⟩ (by decide) (by decide)) (cwS 2 hts (gS t_214 t_99 t_1 t_100) rfl rfl rfl (by decide +kernel) ⟨Nat.le_of_ble_eq_true rfl, Nat.le_of_ble_eq_true rfl⟩) (pre_S E hP hS) rfl rfl hl.1 rfl (lv_room (Nat.le_of_ble_eq_true rfl)) d_R_put_21 ⟨(Nat.le_of_ble_eq_true rfl), (Nat.le_of_ble_eq_true rfl)⟩) hS (fun r4 z3 H locs hz hP hS => ?_)
    obtain ⟨rfl, rfl⟩ := hz
    refine w_iast hx hb hK hP hS (3) (by omega) hm1 (by omega) (by omega) (by omega) d_R_put_24 (fun H locs hP hS => ?_)
    obtain ⟨u5, hu6, hP⟩ : ∃ zz : Nat → va_E, zz = va_up u 3 (ir ct 8 (zu mg (x) ((y) % (17)))) ∧ va_P D vwCl (wl N b zz) H := ⟨_, rfl, hP⟩
    have ff7 : u5 0 = .inr (5, [.ref (b + 1), .ref (b + 21), .ref (b + 2), .ref (b + 4), .int (iI ((n : Int))), .int (iI ((v : Int))), .ref (b + 5), .ref (b + 10), .ref (b + 15), .ref (b + 17), .ref (b + 19)]) := (congrFun hu6 _).trans ((up_n (by omega)).trans hO)
    have ff8 : u5 4 = qr ct 3 24 (gf) := (congrFun hu6 _).trans ((up_n (by omega)).trans hgr)
    have ff9 : u5 2 = .inr (3, [.int (iI (1)), .ref (b + 3)]) := (congrFun hu6 _).trans ((up_n (by omega)).trans hm0)
    have ff10 : u5 3 = ir ct 8 (zu mg (x) ((y) % (17))) := (congrFun hu6 _).trans up_s
    have fr11 : ∀ j : Nat, (j ≠ 3) → u5 j = u j := fun j h0 => (congrFun hu6 j).trans ((up_n (by omega)).trans (fr0 j h0))
    refine lv_iconst (v := iI (1)) hx hb d_R_put_25 rfl ?_
    refine x_ie (y := inb x 8) (inb_y hx8.1 hx8.2).symm ?_
    refine ret _ u5 H locs 26 ls (inb_01 _ _) ⟨rfl, ⟨ff7, hSC.of fun j h1 h2 h3 h4 h5 => fr11 j h4, ⟨ff9, _, ff10, fun i h1 h2 => ?_⟩, ⟨gf, ff8, hgf⟩, hKS.of fun j h1 h2 => fr11 j (by omega), hGC.of hn24 (by omega) fun j h1 h2 => fr11 j (by omega)⟩, fr11⟩ hP hS d_R_put_26
    unfold putm
    rw [if_pos hx8]
    unfold zu
    split
    · rfl
    · exact hm2 i h1 h2
  · refine lv_iconst (v := iI (0)) hx hb d_R_put_7 rfl ?_
    refine x_ie (y := inb x 8) hc.symm ?_
    exact ret _ u H locs 8 ls (inb_01 _ _) ⟨rfl, (by unfold putm; rw [if_neg (inb_z hc)]; exact hC9), fun _ _ => rfl⟩ hP hS d_R_put_8
abbrev rm_c_count : Room := { frames := 0, cells := 0, slots := 0, locals := 0 }
set_option maxHeartbeats 4000000 in
set_option maxRecDepth 100000 in
/-- count() -/
theorem c_count (l : Launch) (D : va_G) (ct : Nat → ClassId) (st ke : Nat → Nat) (b N : Nat) (u : Nat → va_E) (hN : 236 ≤ N) (n v : Nat) (f0 : u 0 = ob b n v) : Met l y_R_count (w_R_count) rm_c_count (va_Pc [.ref (b + 0)] (fun U => ev D ct st ke b U ∧ va_P D vwCl (wl N b u) U.heap)) (va_Qi (fun (r : Int32) (z : Nat → va_E) => r = iI ((n : Int)) ∧ u = z) (fun (z : Nat → va_E) t => va_P D vwCl (wl (N) b (z)) t.heap) (AA b)) 0 0 (AA b) := by
  refine M_i (cc := c9_R_count) (maxL := 1) (by decide) rfl (Nat.le_of_ble_eq_true rfl) ?_
  intro p e s m args below meth c Q ls H locs hx hb hml hown hts hnm E hP hS hl ret
  have hl : lv_has ls 1 [(0, .ref (b + 0))] := hl
  have hK := ev_K E
  have kk0 := hts (.fieldLink "LevelledRing" 31 "LevelledRing" "gateCount" "I") (List.mem_cons_of_mem _ t_177)
  have hinR : ∀ w ∈ u_ws "LevelledRing" T_R 11, w ∈ (w_R_count) := hin_R _
  have fr0 : ∀ j : Nat, u j = u j := fun _  => rfl
  refine lv_aload_n hx hb d_R_count_0 rfl (lv_at hl 0 rfl) ?_
  refine w_get (C := "LevelledRing") (T := T_R) (M := 11) hx hb hts hinR hown hK hP (0) (by omega) f0 rfl 4 (by decide) kk0 (fun _ h => h) rfl d_R_count_1 ?_
  exact ret _ u H locs 4 ls ⟨rfl, rfl⟩ hP hS d_R_count_4
abbrev rm_c_keepGate : Room := { frames := 0, cells := 0, slots := 0, locals := 0 }
set_option maxHeartbeats 4000000 in
set_option maxRecDepth 100000 in
/-- keepGate() -/
theorem c_keepGate (l : Launch) (D : va_G) (ct : Nat → ClassId) (st ke : Nat → Nat) (b N : Nat) (u : Nat → va_E) (hN : 236 ≤ N) (n v : Nat) (f0 : u 0 = ob b n v) : Met l y_R_keepGate (w_R_keepGate) rm_c_keepGate (va_Pc [.ref (b + 0)] (fun U => ev D ct st ke b U ∧ va_P D vwCl (wl N b u) U.heap)) (va_Qi (fun (r : Int32) (z : Nat → va_E) => r = iI (n : Int) ∧ z 0 = ob b ((n + 1 : Nat) : Int) v ∧ ∀ j : Nat, j ≠ 0 → z j = u j) (fun (z : Nat → va_E) t => va_P D vwCl (wl (N) b (z)) t.heap) (AA b)) 0 0 (AA b) := by
  refine M_i (cc := c9_R_keepGate) (maxL := 1) (by decide) rfl (Nat.le_of_ble_eq_true rfl) ?_
  intro p e s m args below meth c Q ls H locs hx hb hml hown hts hnm E hP hS hl ret
  have hl : lv_has ls 1 [(0, .ref (b + 0))] := hl
  have hK := ev_K E
  have kk0 := hts (.fieldLink "LevelledRing" 31 "LevelledRing" "gateCount" "I") (List.mem_cons_of_mem _ t_177)
  have hinR : ∀ w ∈ u_ws "LevelledRing" T_R 11, w ∈ (w_R_keepGate) := hin_R _
  have fr0 : ∀ j : Nat, (j ≠ 0) → u j = u j := fun _ _ => rfl
  refine lv_aload_n hx hb d_R_keepGate_0 rfl (lv_at hl 0 rfl) ?_
  refine lv_dup hx hb d_R_keepGate_1 rfl ?_
  refine w_get (C := "LevelledRing") (T := T_R) (M := 11) hx hb hts hinR hown hK hP (0) (by omega) f0 rfl 4 (by decide) kk0 (fun _ h => h) rfl d_R_keepGate_2 ?_
  refine lv_iconst (v := iI (1)) hx hb d_R_keepGate_5 rfl ?_
  refine x_iadd hx hb d_R_keepGate_6 ?_
  refine w_put (C := "LevelledRing") (T := T_R) (M := 11) (ty := .int) (v := .int (iI (((n : Int)) + (1)))) hx hb hts hinR ty_R tyok_R nm_R hown hK hP hS (0) (by omega) f0 rfl 4 (by decide) kk0 (fun _ h => h) rfl (by decide +kernel) rfl rfl (Nat.le_of_ble_eq_true rfl) d_R_keepGate_7 (fun H locs hP hS => ?_)
  obtain ⟨u1, hu2, hP⟩ : ∃ zz : Nat → va_E, zz = va_up u 0 (.inr (5, [.ref (b + 1), .ref (b + 21), .ref (b + 2), .ref (b + 4), .int (iI (((n : Int)) + (1))), .int (iI ((v : Int))), .ref (b + 5), .ref (b + 10), .ref (b + 15), .ref (b + 17), .ref (b + 19)])) ∧ va_P D vwCl (wl N b zz) H := ⟨_, rfl, hP⟩
  have ff3 : u1 0 = .inr (5, [.ref (b + 1), .ref (b + 21), .ref (b + 2), .ref (b + 4), .int (iI (((n : Int)) + (1))), .int (iI ((v : Int))), .ref (b + 5), .ref (b + 10), .ref (b + 15), .ref (b + 17), .ref (b + 19)]) := (congrFun hu2 _).trans up_s
  have fr4 : ∀ j : Nat, (j ≠ 0) → u1 j = u j := fun j h0 => (congrFun hu2 j).trans ((up_n (by omega)).trans (fr0 j h0))
  refine lv_aload_n hx hb d_R_keepGate_10 rfl (lv_at hl 0 rfl) ?_
  refine w_get (C := "LevelledRing") (T := T_R) (M := 11) hx hb hts hinR hown hK hP (0) (by omega) ff3 rfl 4 (by decide) kk0 (fun _ h => h) rfl d_R_keepGate_11 ?_
  refine lv_iconst (v := iI (1)) hx hb d_R_keepGate_14 rfl ?_
  refine x_isub hx hb d_R_keepGate_15 ?_
  refine x_ie (y := (n : Int)) (by omega) ?_
  exact ret _ u1 H locs 16 ls ⟨rfl, ff3, fr4⟩ hP hS d_R_keepGate_16
abbrev rm_c_level : Room := { frames := 1, cells := 0, slots := 0, locals := 21 }
set_option maxHeartbeats 4000000 in
set_option maxRecDepth 100000 in
/-- level(x) -/
theorem c_level (l : Launch) (D : va_G) (ct : Nat → ClassId) (st ke : Nat → Nat) (b N : Nat) (u : Nat → va_E) (hN : 236 ≤ N) (K : Ky) (n v : Nat) (msg : Int → Int) (G : Int → Gt) (V : Int → Val) (hC : CS ct b ke u K n v msg G V) (hI : PI n v msg G V) (x : Int) (hx0 : r32 x) : Met l y_R_level (w_R_level) rm_c_level (va_Pc [.ref (b + 0), .int (iI (x))] (fun U => ev D ct st ke b U ∧ va_P D vwCl (wl N b u) U.heap)) (va_Qi (fun (r : Int32) (z : Nat → va_E) => r = iI (if 0 ≤ x ∧ x < v then (V x).1 else -1) ∧ u = z) (fun (z : Nat → va_E) t => va_P D vwCl (wl (N) b (z)) t.heap) (AA b)) 0 0 (AA b) := by
  refine M_i (cc := c9_R_level) (maxL := 2) (by decide) rfl (Nat.le_of_ble_eq_true rfl) ?_
  intro p e s m args below meth c Q ls H locs hx hb hml hown hts hnm E hP hS hl ret
  have hl : lv_has ls 2 [(0, .ref (b + 0)), (1, .int (iI (x)))] := hl
  have hK := ev_K E
  have kk0 := hts (.fieldLink "LevelledRing" 27 "LevelledRing" "gates" "[LLevelledRing$Gate;") (List.mem_cons_of_mem _ t_176)
  have hinR : ∀ w ∈ u_ws "LevelledRing" T_R 11, w ∈ (w_R_level) := hin_R _
  have kk2 := hts (.fieldLink "LevelledRing" 139 "LevelledRing$Gate" "value" "LLevelledRing$Value;") (List.mem_cons_of_mem _ t_159)
  have hinG : ∀ w ∈ u_ws "LevelledRing$Gate" T_G 6, w ∈ (w_R_level) := hin_G _
  have kk4 := hts (.fieldLink "LevelledRing" 142 "LevelledRing$Value" "level" "I") (List.mem_cons_of_mem _ t_57)
  have hinV : ∀ w ∈ u_ws "LevelledRing$Value" T_V 4, w ∈ (w_R_level) := hin_V _
  have hn24 := hI.1
  have hvn := hI.2.1
  obtain ⟨hO, hSC, hSV, ⟨gf, hgr, hgf⟩, hKS, hGC⟩ := hC
  refine lv_aload_n hx hb d_R_level_0 rfl (lv_at hl 0 rfl) ?_
  refine lv_iload_n hx hb d_R_level_1 rfl (lv_at hl 1 rfl) ?_
  refine w_calli (va_runV (As := [.int (iI (x))]) (rest := []) ⟨hx, hb, hml, hown, hts⟩ (c_hasValue l D ct st ke b N u (by omega) n v (by omega) (by omega) hO (x) hx0) (cwV 1 hts (gV t_404 t_406 (tb_sel ((y_R_hasValue), 11) (List.mem_of_getElem? (i := 12) (by decide +kernel))) t_1 t_407) rfl rfl rfl (by decide +kernel) ⟨Nat.le_of_ble_eq_true rfl, Nat.le_of_ble_eq_true rfl⟩) (pre_V E hP hS (0) (by omega) hO rfl) rfl rfl hl.1 rfl (lv_room (Nat.le_of_ble_eq_true rfl)) d_R_level_2 ⟨(Nat.le_of_ble_eq_true rfl), (Nat.le_of_ble_eq_true rfl)⟩) hS (fun r2 z1 H locs hz hP hS => ?_)
  obtain ⟨rfl, rfl⟩ := hz
  have hi01 := inb_01 (x) (v : Int)
  refine x_if_eq (tgt := 23) hx hb ⟨by omega, by omega⟩ d_R_level_5 (by decide) (fun hc => ?_) (fun hc => ?_)
  · refine lv_iconst (v := iI (-1)) hx hb d_R_level_23 rfl ?_
    refine x_ie (y := if 0 ≤ x ∧ x < v then (V x).1 else -1) (by rw [if_neg (inb_z hc)]) ?_
    exact ret _ u H locs 24 ls ⟨rfl, rfl⟩ hP hS d_R_level_24
  · have hxv := inb_n hc
    obtain ⟨g, rfl⟩ := Int.eq_ofNat_of_zero_le hxv.1
    have hgv : g < v := by omega
    obtain ⟨hg0, hg1, gp, hg2, hg3⟩ := hGC.2.1 g (by omega)
    have hv := hGC.2.2 g (by omega)
    rw [show 47 + 8 * g = 44 + 8 * g + 3 by omega] at hv
    obtain ⟨v0, v1, hVR, hR0, hR1⟩ := hv
    refine lv_aload_n hx hb d_R_level_8 rfl (lv_at hl 0 rfl) ?_
    refine w_get (C := "LevelledRing") (T := T_R) (M := 11) hx hb hts hinR hown hK hP (0) (by omega) hO rfl 3 (by decide) kk0 (fun _ h => h) rfl d_R_level_9 ?_
    refine lv_iload_n hx hb d_R_level_12 rfl (lv_at hl 1 rfl) ?_
    refine w_aald (r := b + (44 + 8 * g)) hx hb hK hP (4) (by omega) 3 hgr rfl (by omega) (by omega) (by decide) (hgf g (by omega)) d_R_level_13 ?_
    refine w_get (C := "LevelledRing$Gate") (T := T_G) (M := 6) hx hb hts hinG hown hK hP (44 + 8 * g) (by omega) hg0 rfl 5 (by decide) kk2 (fun _ h => h) rfl d_R_level_14 ?_
    refine w_get (C := "LevelledRing$Value") (T := T_V) (M := 4) hx hb hts hinV hown hK hP (44 + 8 * g + 3) (by omega) hVR.1 rfl 0 (by decide) kk4 (fun _ h => h) rfl d_R_level_17 ?_
    refine lv_goto (tgt := 24) hx hb d_R_level_20 (by decide) ?_
    refine x_ie (y := if 0 ≤ (g : Int) ∧ (g : Int) < v then (V g).1 else -1) (by rw [if_pos hxv]) ?_
    exact ret _ u H locs 24 ls ⟨rfl, rfl⟩ hP hS d_R_level_24
abbrev rm_c_meter : Room := { frames := 1, cells := 0, slots := 0, locals := 21 }
set_option maxHeartbeats 4000000 in
set_option maxRecDepth 100000 in
/-- meter(x) -/
theorem c_meter (l : Launch) (D : va_G) (ct : Nat → ClassId) (st ke : Nat → Nat) (b N : Nat) (u : Nat → va_E) (hN : 236 ≤ N) (K : Ky) (n v : Nat) (msg : Int → Int) (G : Int → Gt) (V : Int → Val) (hC : CS ct b ke u K n v msg G V) (hI : PI n v msg G V) (x : Int) (hx0 : r32 x) : Met l y_R_meter (w_R_meter) rm_c_meter (va_Pc [.ref (b + 0), .int (iI (x))] (fun U => ev D ct st ke b U ∧ va_P D vwCl (wl N b u) U.heap)) (va_Ql (fun (r : Int64) (z : Nat → va_E) => r = lI (if 0 ≤ x ∧ x < v then (V x).2.1 else -1) ∧ u = z) (fun (z : Nat → va_E) t => va_P D vwCl (wl (N) b (z)) t.heap) (AA b)) 0 0 (AA b) := by
  refine M_l (cc := c9_R_meter) (maxL := 2) (by decide) rfl (Nat.le_of_ble_eq_true rfl) ?_
  intro p e s m args below meth c Q ls H locs hx hb hml hown hts hnm E hP hS hl ret
  have hl : lv_has ls 2 [(0, .ref (b + 0)), (1, .int (iI (x)))] := hl
  have hK := ev_K E
  have kk0 := hts (.constantLong "LevelledRing" 149 (-1)) (List.mem_cons_of_mem _ t_412)
  have kk1 := hts (.fieldLink "LevelledRing" 27 "LevelledRing" "gates" "[LLevelledRing$Gate;") (List.mem_cons_of_mem _ t_176)
  have hinR : ∀ w ∈ u_ws "LevelledRing" T_R 11, w ∈ (w_R_meter) := hin_R _
  have kk3 := hts (.fieldLink "LevelledRing" 139 "LevelledRing$Gate" "value" "LLevelledRing$Value;") (List.mem_cons_of_mem _ t_159)
  have hinG : ∀ w ∈ u_ws "LevelledRing$Gate" T_G 6, w ∈ (w_R_meter) := hin_G _
  have kk5 := hts (.fieldLink "LevelledRing" 145 "LevelledRing$Value" "meter" "J") (List.mem_cons_of_mem _ t_59)
  have hinV : ∀ w ∈ u_ws "LevelledRing$Value" T_V 4, w ∈ (w_R_meter) := hin_V _
  have hn24 := hI.1
  have hvn := hI.2.1
  obtain ⟨hO, hSC, hSV, ⟨gf, hgr, hgf⟩, hKS, hGC⟩ := hC
  refine lv_aload_n hx hb d_R_meter_0 rfl (lv_at hl 0 rfl) ?_
  refine lv_iload_n hx hb d_R_meter_1 rfl (lv_at hl 1 rfl) ?_
  refine w_calli (va_runV (As := [.int (iI (x))]) (rest := []) ⟨hx, hb, hml, hown, hts⟩ (c_hasValue l D ct st ke b N u (by omega) n v (by omega) (by omega) hO (x) hx0) (cwV 1 hts (gV t_404 t_406 (tb_sel ((y_R_hasValue), 11) (List.mem_of_getElem? (i := 12) (by decide +kernel))) t_1 t_407) rfl rfl rfl (by decide +kernel) ⟨Nat.le_of_ble_eq_true rfl, Nat.le_of_ble_eq_true rfl⟩) (pre_V E hP hS (0) (by omega) hO rfl) rfl rfl hl.1 rfl (lv_room (Nat.le_of_ble_eq_true rfl)) d_R_meter_2 ⟨(Nat.le_of_ble_eq_true rfl), (Nat.le_of_ble_eq_true rfl)⟩) hS (fun r2 z1 H locs hz hP hS => ?_)
  obtain ⟨rfl, rfl⟩ := hz
  have hi01 := inb_01 (x) (v : Int)
  refine x_if_eq (tgt := 23) hx hb ⟨by omega, by omega⟩ d_R_meter_5 (by decide) (fun hc => ?_) (fun hc => ?_)
  · refine lv_ldc2 hx hb hown kk0 d_R_meter_23 ?_
    refine x_l (y := lI (-1)) (by decide +kernel) ?_
    refine x_le (y := if 0 ≤ x ∧ x < v then (V x).2.1 else -1) (by rw [if_neg (inb_z hc)]) ?_
    exact ret _ u H locs 26 ls ⟨rfl, rfl⟩ hP hS d_R_meter_26
  · have hxv := inb_n hc
    obtain ⟨g, rfl⟩ := Int.eq_ofNat_of_zero_le hxv.1
    obtain ⟨hg0, hg1, gp, hg2, hg3⟩ := hGC.2.1 g (by omega)
    have hv := hGC.2.2 g (by omega)
    rw [show 47 + 8 * g = 44 + 8 * g + 3 by omega] at hv
    obtain ⟨v0, v1, hVR, hR0, hR1⟩ := hv
    refine lv_aload_n hx hb d_R_meter_8 rfl (lv_at hl 0 rfl) ?_
    refine w_get (C := "LevelledRing") (T := T_R) (M := 11) hx hb hts hinR hown hK hP (0) (by omega) hO rfl 3 (by decide) kk1 (fun _ h => h) rfl d_R_meter_9 ?_
    refine lv_iload_n hx hb d_R_meter_12 rfl (lv_at hl 1 rfl) ?_
    refine w_aald (r := b + (44 + 8 * g)) hx hb hK hP (4) (by omega) 3 hgr rfl (by omega) (by omega) (by decide) (hgf g (by omega)) d_R_meter_13 ?_
    refine w_get (C := "LevelledRing$Gate") (T := T_G) (M := 6) hx hb hts hinG hown hK hP (44 + 8 * g) (by omega) hg0 rfl 5 (by decide) kk3 (fun _ h => h) rfl d_R_meter_14 ?_
    refine w_get (C := "LevelledRing$Value") (T := T_V) (M := 4) hx hb hts hinV hown hK hP (44 + 8 * g + 3) (by omega) hVR.1 rfl 1 (by decide) kk5 (fun _ h => h) rfl d_R_meter_17 ?_
    refine lv_goto (tgt := 26) hx hb d_R_meter_20 (by decide) ?_
    refine x_le (y := if 0 ≤ (g : Int) ∧ (g : Int) < v then (V g).2.1 else -1) (by rw [if_pos hxv]) ?_
    exact ret _ u H locs 26 ls ⟨rfl, rfl⟩ hP hS d_R_meter_26
abbrev rm_c_plain : Room := { frames := 1, cells := 0, slots := 0, locals := 21 }
set_option maxHeartbeats 4000000 in
set_option maxRecDepth 100000 in
/-- plain(x, y) -/
theorem c_plain (l : Launch) (D : va_G) (ct : Nat → ClassId) (st ke : Nat → Nat) (b N : Nat) (u : Nat → va_E) (hN : 236 ≤ N) (K : Ky) (n v : Nat) (msg : Int → Int) (G : Int → Gt) (V : Int → Val) (hC : CS ct b ke u K n v msg G V) (hI : PI n v msg G V) (x y : Int) (hx0 : r32 x) (hy0 : r32 y) : Met l y_R_plain (w_R_plain) rm_c_plain (va_Pc [.ref (b + 0), .int (iI (x)), .int (iI (y))] (fun U => ev D ct st ke b U ∧ va_P D vwCl (wl N b u) U.heap)) (va_Qi (fun (r : Int32) (z : Nat → va_E) => r = iI (if (0 ≤ x ∧ x < n) ∧ 0 ≤ y ∧ y < 8 then (G x).2.2.2.2 y else -1) ∧ u = z) (fun (z : Nat → va_E) t => va_P D vwCl (wl (N) b (z)) t.heap) (AA b)) 0 0 (AA b) := by
  refine M_i (cc := c9_R_plain) (maxL := 3) (by decide) rfl (Nat.le_of_ble_eq_true rfl) ?_
  intro p e s m args below meth c Q ls H locs hx hb hml hown hts hnm E hP hS hl ret
  have hl : lv_has ls 3 [(0, .ref (b + 0)), (1, .int (iI (x))), (2, .int (iI (y)))] := hl
  have hK := ev_K E
  have kk0 := hts (.fieldLink "LevelledRing" 27 "LevelledRing" "gates" "[LLevelledRing$Gate;") (List.mem_cons_of_mem _ t_176)
  have hinR : ∀ w ∈ u_ws "LevelledRing" T_R 11, w ∈ (w_R_plain) := hin_R _
  have kk2 := hts (.fieldLink "LevelledRing" 93 "LevelledRing$Gate" "plain" "LLevelledRing$Poly;") (List.mem_cons_of_mem _ t_157)
  have hinG : ∀ w ∈ u_ws "LevelledRing$Gate" T_G 6, w ∈ (w_R_plain) := hin_G _
  have kk4 := hts (.fieldLink "LevelledRing" 75 "LevelledRing$Poly" "c" "[I") (List.mem_cons_of_mem _ t_39)
  have hinP : ∀ w ∈ u_ws "LevelledRing$Poly" T_P 2, w ∈ (w_R_plain) := hin_P _
  have hn24 := hI.1
  have hvn := hI.2.1
  obtain ⟨hO, hSC, hSV, ⟨gf, hgr, hgf⟩, hKS, hGC⟩ := hC
  refine lv_aload_n hx hb d_R_plain_0 rfl (lv_at hl 0 rfl) ?_
  refine lv_iload_n hx hb d_R_plain_1 rfl (lv_at hl 1 rfl) ?_
  refine w_calli (va_runV (As := [.int (iI (x))]) (rest := []) ⟨hx, hb, hml, hown, hts⟩ (c_isGate l D ct st ke b N u (by omega) n v (by omega) (by omega) hO (x) hx0) (cwV 1 hts (gV t_248 t_250 (tb_sel ((y_R_isGate), 11) (List.mem_of_getElem? (i := 3) (by decide +kernel))) t_1 t_251) rfl rfl rfl (by decide +kernel) ⟨Nat.le_of_ble_eq_true rfl, Nat.le_of_ble_eq_true rfl⟩) (pre_V E hP hS (0) (by omega) hO rfl) rfl rfl hl.1 rfl (lv_room (Nat.le_of_ble_eq_true rfl)) d_R_plain_2 ⟨(Nat.le_of_ble_eq_true rfl), (Nat.le_of_ble_eq_true rfl)⟩) hS (fun r2 z1 H locs hz hP hS => ?_)
  obtain ⟨rfl, rfl⟩ := hz
  have hi01 := inb_01 (x) (n : Int)
  refine x_if_eq (tgt := 32) hx hb ⟨by omega, by omega⟩ d_R_plain_5 (by decide) (fun hc => ?_) (fun hc => ?_)
  · refine lv_iconst (v := iI (-1)) hx hb d_R_plain_32 rfl ?_
    refine x_ie (y := if (0 ≤ x ∧ x < n) ∧ 0 ≤ y ∧ y < 8 then (G x).2.2.2.2 y else -1) (by rw [if_neg (fun h => inb_z hc h.1)]) ?_
    exact ret _ u H locs 33 ls ⟨rfl, rfl⟩ hP hS d_R_plain_33
  · have hxv := inb_n hc
    refine lv_iload_n hx hb d_R_plain_8 rfl (lv_at hl 2 rfl) ?_
    refine w_calli (va_runS (As := [.int (iI (y))]) (rest := []) ⟨hx, hb, hml, hown, hts⟩ (c_isC l D ct st ke b N u (y) hy0) (cwS 1 hts (gS t_211 t_212 t_1 t_213) rfl rfl rfl (by decide +kernel) ⟨Nat.le_of_ble_eq_true rfl, Nat.le_of_ble_eq_true rfl⟩) (pre_S E hP hS) rfl rfl hl.1 rfl (lv_room (Nat.le_of_ble_eq_true rfl)) d_R_plain_9 ⟨(Nat.le_of_ble_eq_true rfl), (Nat.le_of_ble_eq_true rfl)⟩) hS (fun r4 z3 H locs hz hP hS => ?_)
    obtain ⟨rfl, rfl⟩ := hz
    have hi01 := inb_01 (y) 8
    refine x_if_eq (tgt := 32) hx hb ⟨by omega, by omega⟩ d_R_plain_12 (by decide) (fun hc => ?_) (fun hc => ?_)
    · refine lv_iconst (v := iI (-1)) hx hb d_R_plain_32 rfl ?_
      refine x_ie (y := if (0 ≤ x ∧ x < n) ∧ 0 ≤ y ∧ y < 8 then (G x).2.2.2.2 y else -1) (by rw [if_neg (fun h => inb_z hc h.2)]) ?_
      exact ret _ u H locs 33 ls ⟨rfl, rfl⟩ hP hS d_R_plain_33
    · have hyv := inb_n hc
      obtain ⟨g, rfl⟩ := Int.eq_ofNat_of_zero_le hxv.1
      obtain ⟨hg0, hg1, gp, hg2, hg3⟩ := hGC.2.1 g (by omega)
      refine lv_aload_n hx hb d_R_plain_15 rfl (lv_at hl 0 rfl) ?_
      refine w_get (C := "LevelledRing") (T := T_R) (M := 11) hx hb hts hinR hown hK hP (0) (by omega) hO rfl 3 (by decide) kk0 (fun _ h => h) rfl d_R_plain_16 ?_
      refine lv_iload_n hx hb d_R_plain_19 rfl (lv_at hl 1 rfl) ?_
      refine w_aald (r := b + (44 + 8 * g)) hx hb hK hP (4) (by omega) 3 hgr rfl (by omega) (by omega) (by decide) (hgf g (by omega)) d_R_plain_20 ?_
      refine w_get (C := "LevelledRing$Gate") (T := T_G) (M := 6) hx hb hts hinG hown hK hP (44 + 8 * g) (by omega) hg0 rfl 4 (by decide) kk2 (fun _ h => h) rfl d_R_plain_21 ?_
      refine w_get (C := "LevelledRing$Poly") (T := T_P) (M := 2) hx hb hts hinP hown hK hP (44 + 8 * g + 1) (by omega) hg1 rfl 1 (by decide) kk4 (fun _ h => h) rfl d_R_plain_24 ?_
      refine lv_iload_n hx hb d_R_plain_27 rfl (lv_at hl 2 rfl) ?_
      refine w_iald hx hb hK hP (44 + 8 * g + 2) (by omega) hg2 (by omega) (by omega) (by omega) d_R_plain_28 ?_
      refine x_ie (y := if (0 ≤ (g : Int) ∧ (g : Int) < n) ∧ 0 ≤ y ∧ y < 8 then (G (g : Int)).2.2.2.2 y else -1) (by rw [if_pos ⟨hxv, hyv⟩]; exact hg3 y hyv.1 hyv.2) ?_
      refine lv_goto (tgt := 33) hx hb d_R_plain_29 (by decide) ?_
      exact ret _ u H locs 33 ls ⟨rfl, rfl⟩ hP hS d_R_plain_33
end
section
-- ordinal() of a constant; a new gate
abbrev y_ord : MethodName := ⟨"java/lang/Enum", "ordinal", "()I"⟩
abbrev x_ord : MethodName := ⟨"LevelledRing$Kind", "ordinal", "()I"⟩
abbrev c9_ord : ByteArray := prog_11_method_2_code
abbrev w_ord : List Cond := .code y_ord c9_ord 1 (some .int) :: TB
theorem d_ord_0 : decode c9_ord 0 = .ok (.aload_n 0, 1) := by decide +kernel
theorem d_ord_1 : decode c9_ord 1 = .ok (.getfield 7, 3) := by decide +kernel
theorem d_ord_4 : decode c9_ord 4 = .ok (.ireturn, 1) := by decide +kernel
abbrev rm_c_ord : Room := { frames := 0, cells := 0, slots := 0, locals := 0 }
theorem ord_iI {kd : Nat} (h : kd < 6) : ([0, 1, 2, 3, 4, 5] : List Int32).getD kd 0 = iI (kd : Int) := by
  rcases (show kd = 0 ∨ kd = 1 ∨ kd = 2 ∨ kd = 3 ∨ kd = 4 ∨ kd = 5 by omega) with rfl | rfl | rfl | rfl | rfl | rfl <;> rfl
theorem c_ord (l : Launch) (D : va_G) (ct : Nat → ClassId) (st ke : Nat → Nat) (b N : Nat) (u : Nat → va_E) (kd : Nat) (hkd : kd < 6) : Met l y_ord w_ord rm_c_ord (va_Pc [.ref (ke kd)] (fun U => ev D ct st ke b U ∧ va_P D vwCl (wl N b u) U.heap)) (va_Qi (fun (r : Int32) (z : Nat → va_E) => r = iI (kd : Int) ∧ u = z) (fun (z : Nat → va_E) t => va_P D vwCl (wl N b z) t.heap) (AA b)) 0 0 (AA b) := by
  refine M_i (cc := c9_ord) (maxL := 1) (by decide) rfl (Nat.le_of_ble_eq_true rfl) ?_
  intro p e s m args below meth c Q ls H locs hx hb hml hown hts hnm E hP hS hl ret
  have hl : lv_has ls 1 [(0, .ref (ke kd))] := hl
  refine lv_aload_n hx hb d_ord_0 rfl (lv_at hl 0 rfl) ?_
  refine va_getE hx hb (ev_E E) hkd hS hown (q := ("java/lang/Enum", "ordinal", "I", [0, 1, 2, 3, 4, 5])) (List.mem_of_getElem? (i := 0) rfl) (hts _ (List.mem_cons_of_mem _ t_697)) (fun _ h => h) d_ord_1 ?_
  refine x_i (ord_iI hkd) ?_
  exact ret _ u H locs 4 ls ⟨rfl, rfl⟩ hP hS d_ord_4
theorem g_ord {c0 : Cond} : GoodIn (c0 :: TB) (va_wsU "LevelledRing" 193 "LevelledRing$Kind" "java/lang/Enum" x_ord y_ord w_ord) :=
  gA (List.forall_mem_cons.mpr ⟨t_257, List.forall_mem_cons.mpr ⟨t_258, List.forall_mem_cons.mpr ⟨t_260, List.forall_mem_cons.mpr ⟨t_261, List.forall_mem_cons.mpr ⟨t_7, fun _ h => absurd h List.not_mem_nil⟩⟩⟩⟩⟩) (gC t_262)
theorem pre_E {D : va_G} {ct : Nat → ClassId} {st ke : Nat → Nat} {b N : Nat} {u : Nat → va_E} {s : State} {H : Heap} {locs : List Loc} {kd : Nat} (E : ev D ct st ke b s) (hP : va_P D vwCl (wl N b u) H) (hS : va_S (AA b) s.heap H locs) (hkd : kd < 6) : PreV s H "LevelledRing$Kind" (ke kd) (va_Pc [.ref (ke kd)] (fun U => ev D ct st ke b U ∧ va_P D vwCl (wl N b u) U.heap)) [] :=
  ⟨fun _ _ _ _ q => ⟨q.1, ev_call q.2.1, q.2.2⟩, va_recvE (ev_E E) hkd hS, fun _ hU hW => ⟨rfl, ev_move E hS hU hW, at_t hU hP⟩⟩
-- small polynomials
theorem small_Rep {g X : Int → Int} (h : ∀ i : Int, 0 ≤ i → i < 8 → g i = X i) (hX : p17 X) : Rep g 1 0 X := fun k i h0 h1 h2 h3 => by
  obtain rfl : k = 0 := by omega
  have e : mu 1 0 = 17 := rfl
  have := hX i h2 h3
  rw [show (0 : Int) * 8 + i = i by omega, h i h2 h3, e, Int.emod_eq_of_lt this.1 this.2]
theorem Rep_small {g X : Int → Int} (h : Rep g 1 0 X) {i : Int} (h0 : 0 ≤ i) (h1 : i < 8) : g i = X i % 17 := by
  have h2 := h 0 i (by omega) (by omega) h0 h1
  rw [show (0 : Int) * 8 + i = i by omega] at h2
  exact h2
def addG (G : Int → Gt) (n : Nat) (g : Gt) : Int → Gt := fun i => if i = n then g else G i
theorem addG_s {G : Int → Gt} {n : Nat} {g : Gt} : addG G n g n = g := by
  unfold addG
  rw [if_pos rfl]
theorem addG_n {G : Int → Gt} {n : Nat} {g : Gt} {i : Int} (h : i ≠ n) : addG G n g i = G i := by
  unfold addG
  rw [if_neg h]
theorem GC_add {ct : Nat → ClassId} {b : Nat} {ke : Nat → Nat} {u z : Nat → va_E} {n v : Nat} {G : Int → Gt} {V : Int → Val} {g : Gt} (h : GC ct b ke u n v G V) (hn : n < 24) (hv : v ≤ n) (hz : ∀ j, 44 ≤ j → j < 236 → j ≠ 44 + 8 * n → j ≠ 46 + 8 * n → z j = u j) (hg : GA ct b ke z (44 + 8 * n) g) : GC ct b ke z (n + 1) v (addG G n g) V := by
  obtain ⟨h1, h2, h3⟩ := h
  refine ⟨fun i hi => ?_, fun i hi => ?_, fun i hi => (h3 i hi).of fun j a c => hz j (by omega) (by omega) (by omega) (by omega)⟩
  · obtain ⟨⟨G1, h4⟩, h5⟩ := h1 i hi
    refine ⟨?_, h5.of fun j a c => hz j (by omega) (by omega) (by omega) (by omega)⟩
    by_cases hin : i = n
    · subst hin; exact ⟨g, hg⟩
    · exact ⟨G1, h4.of fun j a c => hz j (by omega) (by omega) (by omega) (by omega)⟩
  · by_cases hin : i = n
    · subst hin; rw [addG_s]; exact hg
    · rw [addG_n (by omega)]
      exact (h2 i (by omega)).of fun j a c => hz j (by omega) (by omega) (by omega) (by omega)
theorem gpl_p17 {kd : Nat} {X Y : Int → Int} {t : Int} (h : kd ≠ 5 ∨ True) (hX : p17 X) : p17 (gpl kd X Y t) := fun i h0 h1 => by
  unfold gpl
  repeat' split
  all_goals first | exact hX i h0 h1 | exact ⟨Int.emod_nonneg _ (by decide), Int.emod_lt_of_pos _ (by decide)⟩
def canA (n : Nat) (a b : Int) : Prop := (0 ≤ a ∧ a < n) ∧ (0 ≤ b ∧ b < n) ∧ n < 24
end
section
abbrev rm_c_setPlain : Room := { frames := 2, cells := 0, slots := 0, locals := 61 }
set_option maxHeartbeats 4000000 in
set_option maxRecDepth 100000 in
/-- setPlain(gate, x, y) -/
theorem c_setPlain (l : Launch) (D : va_G) (ct : Nat → ClassId) (st ke : Nat → Nat) (b N : Nat) (u : Nat → va_E) (q : Nat) (hq : q + 2 < N) (kd : Nat) (a0 b0 t : Int) (f0 : u q = gt b ke q kd a0 b0 t) (f1 : u (q + 1) = po b (q + 1) 1) (gp : Int → Int) (f2 : u (q + 2) = ir ct 8 gp) (hk1 : 1 ≤ kd) (hk6 : kd < 6) (ht : kd = 4 → 0 ≤ t ∧ t < 16) (kx : Nat) (hkx : kx + 1 < N) (gx : Int → Int) (fx0 : u kx = po b kx 1) (fx1 : u (kx + 1) = ir ct 8 gx) (hnex : kx + 1 ≠ q + 2) (X : Int → Int) (hX : p17 X) (hgx : ∀ i : Int, 0 ≤ i → i < 8 → gx i = X i) (ky : Nat) (hky : ky + 1 < N) (gy : Int → Int) (fy0 : u ky = po b ky 1) (fy1 : u (ky + 1) = ir ct 8 gy) (hney : ky + 1 ≠ q + 2) (Y : Int → Int) (hY : p17 Y) (hgy : ∀ i : Int, 0 ≤ i → i < 8 → gy i = Y i) : Met l y_R_setPlain (w_R_setPlain) rm_c_setPlain (va_Pc [.ref (b + q), .ref (b + kx), .ref (b + ky)] (fun U => ev D ct st ke b U ∧ va_P D vwCl (wl N b u) U.heap)) (va_Qv (fun z : Nat → va_E => ∃ g2 : Int → Int, z (q + 2) = ir ct 8 g2 ∧ (∀ i : Int, 0 ≤ i → i < 8 → g2 i = gpl kd X Y t i) ∧ ∀ j : Nat, j ≠ q + 2 → z j = u j) (fun (z : Nat → va_E) t => va_P D vwCl (wl (N) b (z)) t.heap) (AA b)) 0 0 (AA b) := by
  refine M_v (cc := c9_R_setPlain) (maxL := 3) (by decide) rfl (Nat.le_of_ble_eq_true rfl) ?_
  intro p e s m args below meth c Q ls H locs hx hb hml hown hts hnm E hP hS hl ret
  have hl : lv_has ls 3 [(0, .ref (b + q)), (1, .ref (b + kx)), (2, .ref (b + ky))] := hl
  have hK := ev_K E
  have kk0 := hts (.fieldLink "LevelledRing" 185 "LevelledRing$1" "$SwitchMap$LevelledRing$Kind" "[I") (List.mem_cons_of_mem _ t_255)
  have kk1 := hts (.fieldLink "LevelledRing" 190 "LevelledRing$Gate" "kind" "LLevelledRing$Kind;") (List.mem_cons_of_mem _ t_149)
  have hinG : ∀ w ∈ u_ws "LevelledRing$Gate" T_G 6, w ∈ (w_R_setPlain) := hin_G _
  have kk3 := hts (.fieldLink "LevelledRing" 93 "LevelledRing$Gate" "plain" "LLevelledRing$Poly;") (List.mem_cons_of_mem _ t_157)
  have kk4 := hts (.fieldLink "LevelledRing" 207 "LevelledRing$Gate" "number" "I") (List.mem_cons_of_mem _ t_155)
  have fr0 : ∀ j : Nat, (j ≠ q + 2) → u j = u j := fun _ _ => rfl
  have : kx ≠ q + 2 := pl_ne fx0 f2 (by intro h; cases h)
  have : ky ≠ q + 2 := pl_ne fy0 f2 (by intro h; cases h)
  have rx := small_Rep hgx hX
  have ry := small_Rep hgy hY
  refine va_gets hx hb (ev_Z4 E) hS hown kk0 (fun _ h => h) d_R_setPlain_0 ?_
  refine lv_aload_n hx hb d_R_setPlain_3 rfl (lv_at hl 0 rfl) ?_
  refine w_get (C := "LevelledRing$Gate") (T := T_G) (M := 6) hx hb hts hinG hown hK hP (q) (by omega) f0 rfl 0 (by decide) kk1 (fun _ h => h) rfl d_R_setPlain_4 ?_
  refine w_calli (va_runU (As := []) (rest := [.ref (st 4)]) ⟨hx, hb, hml, hown, hts⟩ (c_ord l D ct st ke b N u (kd) hk6) (va_cwU 0 hts g_ord rfl rfl rfl rfl (by decide +kernel) ⟨Nat.le_of_ble_eq_true rfl, Nat.le_of_ble_eq_true rfl⟩) (pre_E E hP hS hk6) rfl rfl hl.1 rfl (lv_room (Nat.le_of_ble_eq_true rfl)) d_R_setPlain_7 ⟨(Nat.le_of_ble_eq_true rfl), (Nat.le_of_ble_eq_true rfl)⟩) hS (fun r z H locs hz hP hS => ?_)
  obtain ⟨rfl, rfl⟩ := hz
  refine x_ti hx hb (ev_T4 E) hS (by omega) (by omega) (by decide) d_R_setPlain_10 ?_
  refine x_ie (y := (kd : Int)) (rfl) ?_
  rcases (show kd = 1 ∨ kd = 2 ∨ kd = 3 ∨ kd = 4 ∨ kd = 5 by omega) with rfl | rfl | rfl | rfl | rfl
  · refine x_ie (y := 1) rfl ?_
    refine lv_tableIn (off := 29) (tgt := 40) hx hb d_R_setPlain_11 (by decide) (by decide) (by decide) (by decide) ?_
    refine lv_aload_n hx hb d_R_setPlain_40 rfl (lv_at hl 0 rfl) ?_
    refine w_get (C := "LevelledRing$Gate") (T := T_G) (M := 6) hx hb hts hinG hown hK hP (q) (by omega) f0 rfl 4 (by decide) kk3 (fun _ h => h) rfl d_R_setPlain_41 ?_
    refine lv_aload_n hx hb d_R_setPlain_44 rfl (lv_at hl 1 rfl) ?_
    refine lv_iconst (v := iI (1)) hx hb d_R_setPlain_45 rfl ?_
    refine lv_aload_n hx hb d_R_setPlain_46 rfl (lv_at hl 2 rfl) ?_
    refine lv_iconst (v := iI (0)) hx hb d_R_setPlain_47 rfl ?_
    refine w_callv (va_runV (As := [.ref (b + kx), .int (iI (1)), .ref (b + ky), .int (iI (0))]) (rest := []) ⟨hx, hb, hml, hown, hts⟩ (c_setSum l D ct st ke b N u (q + 1) 1 8 gp (by omega) (by decide) f1 f2 0 (by decide) (by decide) (by decide) (Or.inr rfl) kx 8 gx hkx (by decide) (by decide) (by omega) fx0 fx1 ky 8 gy hky (by decide) (by decide) (by omega) fy0 fy1 1 (Or.inl rfl) X Y rx ry) (cwV 4 hts (gV t_263 t_264 t_265 t_3 t_266) rfl rfl rfl (by decide +kernel) ⟨Nat.le_of_ble_eq_true rfl, Nat.le_of_ble_eq_true rfl⟩) (pre_V E hP hS (q + 1) (by omega) f1 rfl) rfl rfl hl.1 rfl (lv_room (Nat.le_of_ble_eq_true rfl)) d_R_setPlain_48 ⟨(Nat.le_of_ble_eq_true rfl), (Nat.le_of_ble_eq_true rfl)⟩) hS (fun z1 H locs hz hP hS => ?_)
    obtain ⟨g2, e1, e2, e3⟩ := hz
    have ff3 : z1 q = .inr (1, [.ref (ke 1), .int (iI (a0)), .int (iI (b0)), .int (iI (t)), .ref (b + (q + 1)), .ref (b + (q + 3))]) := (e3 q (by omega)).trans f0
    have ff4 : z1 (q + 1) = .inr (3, [.int (iI (1)), .ref (b + (q + 2))]) := (e3 (q + 1) (by omega)).trans f1
    have ff5 : z1 kx = .inr (3, [.int (iI (1)), .ref (b + (kx + 1))]) := (e3 kx (by omega)).trans fx0
    have ff6 : z1 (kx + 1) = ir ct 8 (gx) := (e3 (kx + 1) (by omega)).trans fx1
    have ff7 : z1 ky = .inr (3, [.int (iI (1)), .ref (b + (ky + 1))]) := (e3 ky (by omega)).trans fy0
    have ff8 : z1 (ky + 1) = ir ct 8 (gy) := (e3 (ky + 1) (by omega)).trans fy1
    have fr9 : ∀ j : Nat, (j ≠ q + 2) → z1 j = u j := fun j h0 => (e3 j (by omega)).trans (fr0 j h0)
    refine lv_goto (tgt := 113) hx hb d_R_setPlain_51 (by decide) ?_
    exact ret z1 H locs 113 ls ⟨_, e1, fun i h0 h1 => by rw [Rep_small e2 h0 h1]; show (X i + 1 * Y i) % 17 = (X i + Y i) % 17; rw [Int.one_mul], fr9⟩ hP hS d_R_setPlain_113
  · refine x_ie (y := 2) rfl ?_
    refine lv_tableIn (off := 43) (tgt := 54) hx hb d_R_setPlain_11 (by decide) (by decide) (by decide) (by decide) ?_
    refine lv_aload_n hx hb d_R_setPlain_54 rfl (lv_at hl 0 rfl) ?_
    refine w_get (C := "LevelledRing$Gate") (T := T_G) (M := 6) hx hb hts hinG hown hK hP (q) (by omega) f0 rfl 4 (by decide) kk3 (fun _ h => h) rfl d_R_setPlain_55 ?_
    refine lv_aload_n hx hb d_R_setPlain_58 rfl (lv_at hl 1 rfl) ?_
    refine lv_iconst (v := iI (-1)) hx hb d_R_setPlain_59 rfl ?_
    refine lv_aload_n hx hb d_R_setPlain_60 rfl (lv_at hl 2 rfl) ?_
    refine lv_iconst (v := iI (0)) hx hb d_R_setPlain_61 rfl ?_
    refine w_callv (va_runV (As := [.ref (b + kx), .int (iI (-1)), .ref (b + ky), .int (iI (0))]) (rest := []) ⟨hx, hb, hml, hown, hts⟩ (c_setSum l D ct st ke b N u (q + 1) 1 8 gp (by omega) (by decide) f1 f2 0 (by decide) (by decide) (by decide) (Or.inr rfl) kx 8 gx hkx (by decide) (by decide) (by omega) fx0 fx1 ky 8 gy hky (by decide) (by decide) (by omega) fy0 fy1 (-1) (Or.inr rfl) X Y rx ry) (cwV 4 hts (gV t_263 t_264 t_265 t_3 t_266) rfl rfl rfl (by decide +kernel) ⟨Nat.le_of_ble_eq_true rfl, Nat.le_of_ble_eq_true rfl⟩) (pre_V E hP hS (q + 1) (by omega) f1 rfl) rfl rfl hl.1 rfl (lv_room (Nat.le_of_ble_eq_true rfl)) d_R_setPlain_62 ⟨(Nat.le_of_ble_eq_true rfl), (Nat.le_of_ble_eq_true rfl)⟩) hS (fun z10 H locs hz hP hS => ?_)
    obtain ⟨g2, e1, e2, e3⟩ := hz
    have ff12 : z10 q = .inr (1, [.ref (ke 2), .int (iI (a0)), .int (iI (b0)), .int (iI (t)), .ref (b + (q + 1)), .ref (b + (q + 3))]) := (e3 q (by omega)).trans f0
    have ff13 : z10 (q + 1) = .inr (3, [.int (iI (1)), .ref (b + (q + 2))]) := (e3 (q + 1) (by omega)).trans f1
    have ff14 : z10 kx = .inr (3, [.int (iI (1)), .ref (b + (kx + 1))]) := (e3 kx (by omega)).trans fx0
    have ff15 : z10 (kx + 1) = ir ct 8 (gx) := (e3 (kx + 1) (by omega)).trans fx1
    have ff16 : z10 ky = .inr (3, [.int (iI (1)), .ref (b + (ky + 1))]) := (e3 ky (by omega)).trans fy0
    have ff17 : z10 (ky + 1) = ir ct 8 (gy) := (e3 (ky + 1) (by omega)).trans fy1
    have fr18 : ∀ j : Nat, (j ≠ q + 2) → z10 j = u j := fun j h0 => (e3 j (by omega)).trans (fr0 j h0)
    refine lv_goto (tgt := 113) hx hb d_R_setPlain_65 (by decide) ?_
    exact ret z10 H locs 113 ls ⟨_, e1, fun i h0 h1 => by rw [Rep_small e2 h0 h1]; show (X i + (-1) * Y i) % 17 = (X i - Y i) % 17; rw [Int.neg_one_mul, ← Int.sub_eq_add_neg], fr18⟩ hP hS d_R_setPlain_113
  · refine x_ie (y := 3) rfl ?_
    refine lv_tableIn (off := 57) (tgt := 68) hx hb d_R_setPlain_11 (by decide) (by decide) (by decide) (by decide) ?_
    refine lv_aload_n hx hb d_R_setPlain_68 rfl (lv_at hl 0 rfl) ?_
    refine w_get (C := "LevelledRing$Gate") (T := T_G) (M := 6) hx hb hts hinG hown hK hP (q) (by omega) f0 rfl 4 (by decide) kk3 (fun _ h => h) rfl d_R_setPlain_69 ?_
    refine w_callv (va_runV (As := []) (rest := []) ⟨hx, hb, hml, hown, hts⟩ (c_setZero l D ct st ke b N u (q + 1) 1 8 gp (by omega) (by decide) f1 f2) (cwV 0 hts (gV t_267 t_268 t_269 t_3 t_270) rfl rfl rfl (by decide +kernel) ⟨Nat.le_of_ble_eq_true rfl, Nat.le_of_ble_eq_true rfl⟩) (pre_V E hP hS (q + 1) (by omega) f1 rfl) rfl rfl hl.1 rfl (lv_room (Nat.le_of_ble_eq_true rfl)) d_R_setPlain_72 ⟨(Nat.le_of_ble_eq_true rfl), (Nat.le_of_ble_eq_true rfl)⟩) hS (fun z19 H locs hz hP hS => ?_)
    obtain ⟨g1, d1, d2, d3⟩ := hz
    have ff21 : z19 q = .inr (1, [.ref (ke 3), .int (iI (a0)), .int (iI (b0)), .int (iI (t)), .ref (b + (q + 1)), .ref (b + (q + 3))]) := (d3 q (by omega)).trans f0
    have ff22 : z19 (q + 1) = .inr (3, [.int (iI (1)), .ref (b + (q + 2))]) := (d3 (q + 1) (by omega)).trans f1
    have ff23 : z19 kx = .inr (3, [.int (iI (1)), .ref (b + (kx + 1))]) := (d3 kx (by omega)).trans fx0
    have ff24 : z19 (kx + 1) = ir ct 8 (gx) := (d3 (kx + 1) (by omega)).trans fx1
    have ff25 : z19 ky = .inr (3, [.int (iI (1)), .ref (b + (ky + 1))]) := (d3 ky (by omega)).trans fy0
    have ff26 : z19 (ky + 1) = ir ct 8 (gy) := (d3 (ky + 1) (by omega)).trans fy1
    have fr27 : ∀ j : Nat, (j ≠ q + 2) → z19 j = u j := fun j h0 => (d3 j (by omega)).trans (fr0 j h0)
    refine lv_aload_n hx hb d_R_setPlain_75 rfl (lv_at hl 0 rfl) ?_
    refine w_get (C := "LevelledRing$Gate") (T := T_G) (M := 6) hx hb hts hinG hown hK hP (q) (by omega) ff21 rfl 4 (by decide) kk3 (fun _ h => h) rfl d_R_setPlain_76 ?_
    refine lv_iconst (v := iI (1)) hx hb d_R_setPlain_79 rfl ?_
    refine lv_aload_n hx hb d_R_setPlain_80 rfl (lv_at hl 1 rfl) ?_
    refine lv_aload_n hx hb d_R_setPlain_81 rfl (lv_at hl 2 rfl) ?_
    refine lv_iconst (v := iI (0)) hx hb d_R_setPlain_82 rfl ?_
    refine w_callv (va_runV (As := [.int (iI (1)), .ref (b + kx), .ref (b + ky), .int (iI (0))]) (rest := []) ⟨hx, hb, hml, hown, hts⟩ (c_addProduct l D ct st ke b N z19 (q + 1) 1 8 g1 (by omega) (by decide) ff22 d1 0 (by decide) (by decide) (by decide) (Or.inr rfl) kx 8 gx hkx (by decide) (by decide) (by omega) ff23 ff24 ky 8 gy hky (by decide) (by decide) (by omega) ff25 ff26 1 (Or.inl rfl) (fun _ => 0) X Y (Rep.zero fun j h0 h1 => d2 j h0 (by omega)) rx ry) (cwV 4 hts (gV t_271 t_102 t_103 t_3 t_104) rfl rfl rfl (by decide +kernel) ⟨Nat.le_of_ble_eq_true rfl, Nat.le_of_ble_eq_true rfl⟩) (pre_V E hP hS (q + 1) (by omega) ff22 rfl) rfl rfl hl.1 rfl (lv_room (Nat.le_of_ble_eq_true rfl)) d_R_setPlain_83 ⟨(Nat.le_of_ble_eq_true rfl), (Nat.le_of_ble_eq_true rfl)⟩) hS (fun z28 H locs hz hP hS => ?_)
    obtain ⟨g2, e1, e2, e3⟩ := hz
    have ff30 : z28 q = .inr (1, [.ref (ke 3), .int (iI (a0)), .int (iI (b0)), .int (iI (t)), .ref (b + (q + 1)), .ref (b + (q + 3))]) := (e3 q (by omega)).trans ff21
    have ff31 : z28 (q + 1) = .inr (3, [.int (iI (1)), .ref (b + (q + 2))]) := (e3 (q + 1) (by omega)).trans ff22
    have ff32 : z28 kx = .inr (3, [.int (iI (1)), .ref (b + (kx + 1))]) := (e3 kx (by omega)).trans ff23
    have ff33 : z28 (kx + 1) = ir ct 8 (gx) := (e3 (kx + 1) (by omega)).trans ff24
    have ff34 : z28 ky = .inr (3, [.int (iI (1)), .ref (b + (ky + 1))]) := (e3 ky (by omega)).trans ff25
    have ff35 : z28 (ky + 1) = ir ct 8 (gy) := (e3 (ky + 1) (by omega)).trans ff26
    have fr36 : ∀ j : Nat, (j ≠ q + 2) → z28 j = u j := fun j h0 => (e3 j (by omega)).trans (fr27 j h0)
    refine lv_goto (tgt := 113) hx hb d_R_setPlain_86 (by decide) ?_
    exact ret z28 H locs 113 ls ⟨_, e1, fun i h0 h1 => by rw [Rep_small e2 h0 h1]; show (0 + 1 * nc X Y i) % 17 = nc X Y i % 17; rw [Int.one_mul, Int.zero_add], fr36⟩ hP hS d_R_setPlain_113
  · refine x_ie (y := 4) rfl ?_
    refine lv_tableIn (off := 78) (tgt := 89) hx hb d_R_setPlain_11 (by decide) (by decide) (by decide) (by decide) ?_
    have ht4 := ht rfl
    refine lv_aload_n hx hb d_R_setPlain_89 rfl (lv_at hl 0 rfl) ?_
    refine w_get (C := "LevelledRing$Gate") (T := T_G) (M := 6) hx hb hts hinG hown hK hP (q) (by omega) f0 rfl 4 (by decide) kk3 (fun _ h => h) rfl d_R_setPlain_90 ?_
    refine lv_aload_n hx hb d_R_setPlain_93 rfl (lv_at hl 1 rfl) ?_
    refine lv_aload_n hx hb d_R_setPlain_94 rfl (lv_at hl 0 rfl) ?_
    refine w_get (C := "LevelledRing$Gate") (T := T_G) (M := 6) hx hb hts hinG hown hK hP (q) (by omega) f0 rfl 3 (by decide) kk4 (fun _ h => h) rfl d_R_setPlain_95 ?_
    refine lv_iconst (v := iI (0)) hx hb d_R_setPlain_98 rfl ?_
    refine w_callv (va_runV (As := [.ref (b + kx), .int (iI (t)), .int (iI (0))]) (rest := []) ⟨hx, hb, hml, hown, hts⟩ (c_setTurned l D ct st ke b N u (q + 1) 1 8 gp (by omega) (by decide) f1 f2 0 (by decide) (by decide) (by decide) (Or.inr rfl) kx 8 gx hkx (by decide) (by decide) (by omega) fx0 fx1 t ht4.1 ht4.2 X rx) (cwV 3 hts (gV t_272 t_273 t_274 t_3 t_275) rfl rfl rfl (by decide +kernel) ⟨Nat.le_of_ble_eq_true rfl, Nat.le_of_ble_eq_true rfl⟩) (pre_V E hP hS (q + 1) (by omega) f1 rfl) rfl rfl hl.1 rfl (lv_room (Nat.le_of_ble_eq_true rfl)) d_R_setPlain_99 ⟨(Nat.le_of_ble_eq_true rfl), (Nat.le_of_ble_eq_true rfl)⟩) hS (fun z37 H locs hz hP hS => ?_)
    obtain ⟨g2, e1, e2, e3⟩ := hz
    have ff39 : z37 q = .inr (1, [.ref (ke 4), .int (iI (a0)), .int (iI (b0)), .int (iI (t)), .ref (b + (q + 1)), .ref (b + (q + 3))]) := (e3 q (by omega)).trans f0
    have ff40 : z37 (q + 1) = .inr (3, [.int (iI (1)), .ref (b + (q + 2))]) := (e3 (q + 1) (by omega)).trans f1
    have ff41 : z37 kx = .inr (3, [.int (iI (1)), .ref (b + (kx + 1))]) := (e3 kx (by omega)).trans fx0
    have ff42 : z37 (kx + 1) = ir ct 8 (gx) := (e3 (kx + 1) (by omega)).trans fx1
    have ff43 : z37 ky = .inr (3, [.int (iI (1)), .ref (b + (ky + 1))]) := (e3 ky (by omega)).trans fy0
    have ff44 : z37 (ky + 1) = ir ct 8 (gy) := (e3 (ky + 1) (by omega)).trans fy1
    have fr45 : ∀ j : Nat, (j ≠ q + 2) → z37 j = u j := fun j h0 => (e3 j (by omega)).trans (fr0 j h0)
    refine lv_goto (tgt := 113) hx hb d_R_setPlain_102 (by decide) ?_
    exact ret z37 H locs 113 ls ⟨_, e1, fun i h0 h1 => Rep_small e2 h0 h1, fr45⟩ hP hS d_R_setPlain_113
  · refine x_ie (y := 5) rfl ?_
    refine lv_tableOut (tgt := 105) hx hb d_R_setPlain_11 (by decide) (by decide) ?_
    refine lv_aload_n hx hb d_R_setPlain_105 rfl (lv_at hl 0 rfl) ?_
    refine w_get (C := "LevelledRing$Gate") (T := T_G) (M := 6) hx hb hts hinG hown hK hP (q) (by omega) f0 rfl 4 (by decide) kk3 (fun _ h => h) rfl d_R_setPlain_106 ?_
    refine lv_aload_n hx hb d_R_setPlain_109 rfl (lv_at hl 1 rfl) ?_
    refine w_callv (va_runV (As := [.ref (b + kx)]) (rest := []) ⟨hx, hb, hml, hown, hts⟩ (c_copyFrom l D ct st ke b N u (q + 1) 1 8 gp (by omega) (by decide) f1 f2 kx gx hkx fx0 fx1) (cwV 1 hts (gV t_224 t_225 t_226 t_3 t_227) rfl rfl rfl (by decide +kernel) ⟨Nat.le_of_ble_eq_true rfl, Nat.le_of_ble_eq_true rfl⟩) (pre_V E hP hS (q + 1) (by omega) f1 rfl) rfl rfl hl.1 rfl (lv_room (Nat.le_of_ble_eq_true rfl)) d_R_setPlain_110 ⟨(Nat.le_of_ble_eq_true rfl), (Nat.le_of_ble_eq_true rfl)⟩) hS (fun z46 H locs hz hP hS => ?_)
    obtain ⟨g2, e1, e2, e3⟩ := hz
    have ff48 : z46 q = .inr (1, [.ref (ke 5), .int (iI (a0)), .int (iI (b0)), .int (iI (t)), .ref (b + (q + 1)), .ref (b + (q + 3))]) := (e3 q (by omega)).trans f0
    have ff49 : z46 (q + 1) = .inr (3, [.int (iI (1)), .ref (b + (q + 2))]) := (e3 (q + 1) (by omega)).trans f1
    have ff50 : z46 kx = .inr (3, [.int (iI (1)), .ref (b + (kx + 1))]) := (e3 kx (by omega)).trans fx0
    have ff51 : z46 (kx + 1) = ir ct 8 (gx) := (e3 (kx + 1) (by omega)).trans fx1
    have ff52 : z46 ky = .inr (3, [.int (iI (1)), .ref (b + (ky + 1))]) := (e3 ky (by omega)).trans fy0
    have ff53 : z46 (ky + 1) = ir ct 8 (gy) := (e3 (ky + 1) (by omega)).trans fy1
    have fr54 : ∀ j : Nat, (j ≠ q + 2) → z46 j = u j := fun j h0 => (e3 j (by omega)).trans (fr0 j h0)
    exact ret z46 H locs 113 ls ⟨_, e1, fun i h0 h1 => (e2 i h0 h1).trans (hgx i h0 h1), fr54⟩ hP hS d_R_setPlain_113
end
section
abbrev rm_c_addGate : Room := { frames := 3, cells := 0, slots := 0, locals := 83 }
set_option maxHeartbeats 4000000 in
set_option maxRecDepth 100000 in
/-- addGate(kd, x, y, t) -/
theorem c_addGate (l : Launch) (D : va_G) (ct : Nat → ClassId) (st ke : Nat → Nat) (b N : Nat) (u : Nat → va_E) (hN : 236 ≤ N) (K : Ky) (n v : Nat) (msg : Int → Int) (G : Int → Gt) (V : Int → Val) (hC : CS ct b ke u K n v msg G V) (hI : PI n v msg G V) (kd : Nat) (hk1 : 1 ≤ kd) (hk6 : kd < 6) (x y t : Int) (hx0 : r32 x) (hy0 : r32 y) (ht : kd = 4 → 0 ≤ t ∧ t < 16) : Met l y_R_addGate (w_R_addGate) rm_c_addGate (va_Pc [.ref (b + 0), .ref (ke kd), .int (iI (x)), .int (iI (y)), .int (iI (t))] (fun U => ev D ct st ke b U ∧ va_P D vwCl (wl N b u) U.heap)) (va_Qi (fun (r : Int32) (z : Nat → va_E) => (canA n x y ∧ r = iI (n : Int) ∧ CS ct b ke z K (n + 1) v msg (addG G n (kd, x, y, t, gpl kd (G x).2.2.2.2 (G y).2.2.2.2 t)) V ∧ ∀ j : Nat, 236 ≤ j → z j = u j) ∨ (¬ canA n x y ∧ r = iI (-1) ∧ u = z)) (fun (z : Nat → va_E) t => va_P D vwCl (wl (N) b (z)) t.heap) (AA b)) 0 0 (AA b) := by
  refine M_i (cc := c9_R_addGate) (maxL := 6) (by decide) rfl (Nat.le_of_ble_eq_true rfl) ?_
  intro p e s m args below meth c Q ls H locs hx hb hml hown hts hnm E hP hS hl ret
  have hl : lv_has ls 6 [(0, .ref (b + 0)), (1, .ref (ke kd)), (2, .int (iI (x))), (3, .int (iI (y))), (4, .int (iI (t)))] := hl
  have hK := ev_K E
  have kk0 := hts (.fieldLink "LevelledRing" 31 "LevelledRing" "gateCount" "I") (List.mem_cons_of_mem _ t_177)
  have hinR : ∀ w ∈ u_ws "LevelledRing" T_R 11, w ∈ (w_R_addGate) := hin_R _
  have kk2 := hts (.fieldLink "LevelledRing" 27 "LevelledRing" "gates" "[LLevelledRing$Gate;") (List.mem_cons_of_mem _ t_176)
  have kk3 := hts (.fieldLink "LevelledRing" 93 "LevelledRing$Gate" "plain" "LLevelledRing$Poly;") (List.mem_cons_of_mem _ t_157)
  have hinG : ∀ w ∈ u_ws "LevelledRing$Gate" T_G 6, w ∈ (w_R_addGate) := hin_G _
  have fr0 : ∀ j : Nat, (j ≠ 0) → (j ≠ 44 + 8 * n) → (j ≠ 46 + 8 * n) → u j = u j := fun _ _ _ _ => rfl
  have hn24 := hI.1
  have hvn := hI.2.1
  obtain ⟨hO, hSC, hSV, ⟨gf, hgr, hgf⟩, hKS, hGC⟩ := hC
  refine lv_aload_n hx hb d_R_addGate_0 rfl (lv_at hl 0 rfl) ?_
  refine lv_iload_n hx hb d_R_addGate_1 rfl (lv_at hl 2 rfl) ?_
  refine w_calli (va_runV (As := [.int (iI (x))]) (rest := []) ⟨hx, hb, hml, hown, hts⟩ (c_isGate l D ct st ke b N u (by omega) n v (by omega) (by omega) hO (x) hx0) (cwV 1 hts (gV t_248 t_250 (tb_sel ((y_R_isGate), 11) (List.mem_of_getElem? (i := 3) (by decide +kernel))) t_1 t_251) rfl rfl rfl (by decide +kernel) ⟨Nat.le_of_ble_eq_true rfl, Nat.le_of_ble_eq_true rfl⟩) (pre_V E hP hS (0) (by omega) hO rfl) rfl rfl hl.1 rfl (lv_room (Nat.le_of_ble_eq_true rfl)) d_R_addGate_2 ⟨(Nat.le_of_ble_eq_true rfl), (Nat.le_of_ble_eq_true rfl)⟩) hS (fun r2 z1 H locs hz hP hS => ?_)
  obtain ⟨rfl, rfl⟩ := hz
  have hi01 := inb_01 (x) (n : Int)
  refine x_if_eq (tgt := 25) hx hb ⟨by omega, by omega⟩ d_R_addGate_5 (by decide) (fun hc => ?_) (fun hc => ?_)
  · refine lv_iconst (v := iI (-1)) hx hb d_R_addGate_25 rfl ?_
    exact ret _ u H locs 26 ls (Or.inr ⟨fun h => inb_z hc h.1, rfl, rfl⟩) hP hS d_R_addGate_26
  · have hxv := inb_n hc
    refine lv_aload_n hx hb d_R_addGate_8 rfl (lv_at hl 0 rfl) ?_
    refine lv_iload_n hx hb d_R_addGate_9 rfl (lv_at hl 3 rfl) ?_
    refine w_calli (va_runV (As := [.int (iI (y))]) (rest := []) ⟨hx, hb, hml, hown, hts⟩ (c_isGate l D ct st ke b N u (by omega) n v (by omega) (by omega) hO (y) hy0) (cwV 1 hts (gV t_248 t_250 (tb_sel ((y_R_isGate), 11) (List.mem_of_getElem? (i := 3) (by decide +kernel))) t_1 t_251) rfl rfl rfl (by decide +kernel) ⟨Nat.le_of_ble_eq_true rfl, Nat.le_of_ble_eq_true rfl⟩) (pre_V E hP hS (0) (by omega) hO rfl) rfl rfl hl.1 rfl (lv_room (Nat.le_of_ble_eq_true rfl)) d_R_addGate_10 ⟨(Nat.le_of_ble_eq_true rfl), (Nat.le_of_ble_eq_true rfl)⟩) hS (fun r4 z3 H locs hz hP hS => ?_)
    obtain ⟨rfl, rfl⟩ := hz
    have hi01 := inb_01 (y) (n : Int)
    refine x_if_eq (tgt := 25) hx hb ⟨by omega, by omega⟩ d_R_addGate_13 (by decide) (fun hc => ?_) (fun hc => ?_)
    · refine lv_iconst (v := iI (-1)) hx hb d_R_addGate_25 rfl ?_
      exact ret _ u H locs 26 ls (Or.inr ⟨fun h => inb_z hc h.2.1, rfl, rfl⟩) hP hS d_R_addGate_26
    · have hyv := inb_n hc
      refine lv_aload_n hx hb d_R_addGate_16 rfl (lv_at hl 0 rfl) ?_
      refine w_get (C := "LevelledRing") (T := T_R) (M := 11) hx hb hts hinR hown hK hP (0) (by omega) hO rfl 4 (by decide) kk0 (fun _ h => h) rfl d_R_addGate_17 ?_
      refine lv_bipush (v := iI (24)) hx hb d_R_addGate_20 (by decide +kernel) ?_
      refine x_icmp_lt (tgt := 27) hx hb ⟨by omega, by omega⟩ ⟨by omega, by omega⟩ d_R_addGate_22 (by decide) (fun hc => ?_) (fun hc => ?_)
      · obtain ⟨gx, rfl⟩ := Int.eq_ofNat_of_zero_le hxv.1
        obtain ⟨gy, rfl⟩ := Int.eq_ofNat_of_zero_le hyv.1
        obtain ⟨⟨nG, nhg0, nhg1, ngp, nhg2, -⟩, -⟩ := hGC.1 n (by omega)
        obtain ⟨xhg0, xhg1, xgp, xhg2, xhg3⟩ := hGC.2.1 gx (by omega)
        obtain ⟨yhg0, yhg1, ygp, yhg2, yhg3⟩ := hGC.2.1 gy (by omega)
        have okx := hI.2.2.2.1 gx (by omega)
        have oky := hI.2.2.2.1 gy (by omega)
        refine lv_aload_n hx hb d_R_addGate_27 rfl (lv_at hl 0 rfl) ?_
        refine w_get (C := "LevelledRing") (T := T_R) (M := 11) hx hb hts hinR hown hK hP (0) (by omega) hO rfl 3 (by decide) kk2 (fun _ h => h) rfl d_R_addGate_28 ?_
        refine lv_aload_n hx hb d_R_addGate_31 rfl (lv_at hl 0 rfl) ?_
        refine w_get (C := "LevelledRing") (T := T_R) (M := 11) hx hb hts hinR hown hK hP (0) (by omega) hO rfl 4 (by decide) kk0 (fun _ h => h) rfl d_R_addGate_32 ?_
        refine w_aald (r := b + (44 + 8 * n)) hx hb hK hP (4) (by omega) 3 hgr rfl (by omega) (by omega) (by decide) (hgf n (by omega)) d_R_addGate_35 ?_
        refine lv_astore (lv' := [(5, .ref (b + (44 + 8 * n))), (0, .ref (b + 0)), (1, .ref (ke kd)), (2, .int (iI ((gx : Int)))), (3, .int (iI ((gy : Int)))), (4, .int (iI (t)))]) hx hb d_R_addGate_36 hl (by decide) rfl (fun ls hl => ?_)
        refine lv_aload hx hb d_R_addGate_38 (lv_at hl 0 rfl) ?_
        refine lv_aload_n hx hb d_R_addGate_40 rfl (lv_at hl 2 rfl) ?_
        refine lv_iload_n hx hb d_R_addGate_41 rfl (lv_at hl 3 rfl) ?_
        refine lv_iload_n hx hb d_R_addGate_42 rfl (lv_at hl 4 rfl) ?_
        refine lv_iload hx hb d_R_addGate_43 (lv_at hl 5 rfl) ?_
        refine w_callv (va_runV (As := [.ref (ke kd), .int (iI ((gx : Int))), .int (iI ((gy : Int))), .int (iI (t))]) (rest := []) ⟨hx, hb, hml, hown, hts⟩ (c_become l D ct st ke b N u (44 + 8 * n) (by omega) nG.1 nG.2.1 nG.2.2.1 nG.2.2.2.1 nhg0 kd (gx : Int) (gy : Int) t) (cwV 4 hts (gV t_220 t_221 t_222 t_6 t_223) rfl rfl rfl (by decide +kernel) ⟨Nat.le_of_ble_eq_true rfl, Nat.le_of_ble_eq_true rfl⟩) (pre_V E hP hS (44 + 8 * n) (by omega) nhg0 rfl) rfl rfl hl.1 rfl (lv_room (Nat.le_of_ble_eq_true rfl)) d_R_addGate_45 ⟨(Nat.le_of_ble_eq_true rfl), (Nat.le_of_ble_eq_true rfl)⟩) hS (fun z5 H locs hz hP hS => ?_)
        obtain ⟨d1, d2⟩ := hz
        have ff7 : z5 0 = .inr (5, [.ref (b + 1), .ref (b + 21), .ref (b + 2), .ref (b + 4), .int (iI ((n : Int))), .int (iI ((v : Int))), .ref (b + 5), .ref (b + 10), .ref (b + 15), .ref (b + 17), .ref (b + 19)]) := (d2 0 (by omega)).trans hO
        have ff8 : z5 4 = qr ct 3 24 (gf) := (d2 4 (by omega)).trans hgr
        have ff9 : z5 (44 + 8 * n + 1) = .inr (3, [.int (iI (1)), .ref (b + (44 + 8 * n + 2))]) := (d2 (44 + 8 * n + 1) (by omega)).trans nhg1
        have ff10 : z5 (44 + 8 * n + 2) = ir ct 8 (ngp) := (d2 (44 + 8 * n + 2) (by omega)).trans nhg2
        have ff11 : z5 (44 + 8 * gx) = .inr (1, [.ref (ke (G gx).1), .int (iI ((G gx).2.1)), .int (iI ((G gx).2.2.1)), .int (iI ((G gx).2.2.2.1)), .ref (b + (44 + 8 * gx + 1)), .ref (b + (44 + 8 * gx + 3))]) := (d2 (44 + 8 * gx) (by omega)).trans xhg0
        have ff12 : z5 (44 + 8 * gx + 1) = .inr (3, [.int (iI (1)), .ref (b + (44 + 8 * gx + 2))]) := (d2 (44 + 8 * gx + 1) (by omega)).trans xhg1
        have ff13 : z5 (44 + 8 * gx + 2) = ir ct 8 (xgp) := (d2 (44 + 8 * gx + 2) (by omega)).trans xhg2
        have ff14 : z5 (44 + 8 * gy) = .inr (1, [.ref (ke (G gy).1), .int (iI ((G gy).2.1)), .int (iI ((G gy).2.2.1)), .int (iI ((G gy).2.2.2.1)), .ref (b + (44 + 8 * gy + 1)), .ref (b + (44 + 8 * gy + 3))]) := (d2 (44 + 8 * gy) (by omega)).trans yhg0
        have ff15 : z5 (44 + 8 * gy + 1) = .inr (3, [.int (iI (1)), .ref (b + (44 + 8 * gy + 2))]) := (d2 (44 + 8 * gy + 1) (by omega)).trans yhg1
        have ff16 : z5 (44 + 8 * gy + 2) = ir ct 8 (ygp) := (d2 (44 + 8 * gy + 2) (by omega)).trans yhg2
        have fr17 : ∀ j : Nat, (j ≠ 0) → (j ≠ 44 + 8 * n) → (j ≠ 46 + 8 * n) → z5 j = u j := fun j h0 h1 h2 => (d2 j (by omega)).trans (fr0 j h0 h1 h2)
        refine lv_aload hx hb d_R_addGate_48 (lv_at hl 0 rfl) ?_
        refine lv_aload_n hx hb d_R_addGate_50 rfl (lv_at hl 1 rfl) ?_
        refine w_get (C := "LevelledRing") (T := T_R) (M := 11) hx hb hts hinR hown hK hP (0) (by omega) ff7 rfl 3 (by decide) kk2 (fun _ h => h) rfl d_R_addGate_51 ?_
        refine lv_iload_n hx hb d_R_addGate_54 rfl (lv_at hl 3 rfl) ?_
        refine w_aald (r := b + (44 + 8 * gx)) hx hb hK hP (4) (by omega) 3 ff8 rfl (by omega) (by omega) (by decide) (hgf gx (by omega)) d_R_addGate_55 ?_
        refine w_get (C := "LevelledRing$Gate") (T := T_G) (M := 6) hx hb hts hinG hown hK hP (44 + 8 * gx) (by omega) ff11 rfl 4 (by decide) kk3 (fun _ h => h) rfl d_R_addGate_56 ?_
        refine lv_aload_n hx hb d_R_addGate_59 rfl (lv_at hl 1 rfl) ?_
        refine w_get (C := "LevelledRing") (T := T_R) (M := 11) hx hb hts hinR hown hK hP (0) (by omega) ff7 rfl 3 (by decide) kk2 (fun _ h => h) rfl d_R_addGate_60 ?_
        refine lv_iload_n hx hb d_R_addGate_63 rfl (lv_at hl 4 rfl) ?_
        refine w_aald (r := b + (44 + 8 * gy)) hx hb hK hP (4) (by omega) 3 ff8 rfl (by omega) (by omega) (by decide) (hgf gy (by omega)) d_R_addGate_64 ?_
        refine w_get (C := "LevelledRing$Gate") (T := T_G) (M := 6) hx hb hts hinG hown hK hP (44 + 8 * gy) (by omega) ff14 rfl 4 (by decide) kk3 (fun _ h => h) rfl d_R_addGate_65 ?_
        refine w_callv (va_runS (As := [.ref (b + (44 + 8 * n)), .ref (b + (44 + 8 * gx + 1)), .ref (b + (44 + 8 * gy + 1))]) (rest := []) ⟨hx, hb, hml, hown, hts⟩ (c_setPlain l D ct st ke b N z5 (44 + 8 * n) (by omega) kd (gx : Int) (gy : Int) t d1 ff9 ngp ff10 hk1 hk6 ht (44 + 8 * gx + 1) (by omega) xgp ff12 ff13 (by omega) (G gx).2.2.2.2 okx.2.1 xhg3 (44 + 8 * gy + 1) (by omega) ygp ff15 ff16 (by omega) (G gy).2.2.2.2 oky.2.1 yhg3) (cwS 3 hts (gS t_252 t_253 t_1 t_254) rfl rfl rfl (by decide +kernel) ⟨Nat.le_of_ble_eq_true rfl, Nat.le_of_ble_eq_true rfl⟩) (pre_S E hP hS) rfl rfl hl.1 rfl (lv_room (Nat.le_of_ble_eq_true rfl)) d_R_addGate_68 ⟨(Nat.le_of_ble_eq_true rfl), (Nat.le_of_ble_eq_true rfl)⟩) hS (fun z18 H locs hz hP hS => ?_)
        obtain ⟨g2, e1, e2, e3⟩ := hz
        have ff20 : z18 0 = .inr (5, [.ref (b + 1), .ref (b + 21), .ref (b + 2), .ref (b + 4), .int (iI ((n : Int))), .int (iI ((v : Int))), .ref (b + 5), .ref (b + 10), .ref (b + 15), .ref (b + 17), .ref (b + 19)]) := (e3 0 (by omega)).trans ff7
        have ff21 : z18 4 = qr ct 3 24 (gf) := (e3 4 (by omega)).trans ff8
        have ff22 : z18 (44 + 8 * n + 1) = .inr (3, [.int (iI (1)), .ref (b + (44 + 8 * n + 2))]) := (e3 (44 + 8 * n + 1) (by omega)).trans ff9
        have ff23 : z18 (44 + 8 * gx) = .inr (1, [.ref (ke (G gx).1), .int (iI ((G gx).2.1)), .int (iI ((G gx).2.2.1)), .int (iI ((G gx).2.2.2.1)), .ref (b + (44 + 8 * gx + 1)), .ref (b + (44 + 8 * gx + 3))]) := (e3 (44 + 8 * gx) (by omega)).trans ff11
        have ff24 : z18 (44 + 8 * gx + 1) = .inr (3, [.int (iI (1)), .ref (b + (44 + 8 * gx + 2))]) := (e3 (44 + 8 * gx + 1) (by omega)).trans ff12
        have ff25 : z18 (44 + 8 * gx + 2) = ir ct 8 (xgp) := (e3 (44 + 8 * gx + 2) (by omega)).trans ff13
        have ff26 : z18 (44 + 8 * gy) = .inr (1, [.ref (ke (G gy).1), .int (iI ((G gy).2.1)), .int (iI ((G gy).2.2.1)), .int (iI ((G gy).2.2.2.1)), .ref (b + (44 + 8 * gy + 1)), .ref (b + (44 + 8 * gy + 3))]) := (e3 (44 + 8 * gy) (by omega)).trans ff14
        have ff27 : z18 (44 + 8 * gy + 1) = .inr (3, [.int (iI (1)), .ref (b + (44 + 8 * gy + 2))]) := (e3 (44 + 8 * gy + 1) (by omega)).trans ff15
        have ff28 : z18 (44 + 8 * gy + 2) = ir ct 8 (ygp) := (e3 (44 + 8 * gy + 2) (by omega)).trans ff16
        have ff29 : z18 (44 + 8 * n) = .inr (1, [.ref (ke kd), .int (iI ((gx : Int))), .int (iI ((gy : Int))), .int (iI (t)), .ref (b + (44 + 8 * n + 1)), .ref (b + (44 + 8 * n + 3))]) := (e3 (44 + 8 * n) (by omega)).trans d1
        have fr30 : ∀ j : Nat, (j ≠ 0) → (j ≠ 44 + 8 * n) → (j ≠ 46 + 8 * n) → z18 j = u j := fun j h0 h1 h2 => (e3 j (by omega)).trans (fr17 j h0 h1 h2)
        refine lv_aload_n hx hb d_R_addGate_71 rfl (lv_at hl 1 rfl) ?_
        refine w_calli (va_runV (As := []) (rest := []) ⟨hx, hb, hml, hown, hts⟩ (c_keepGate l D ct st ke b N z18 hN n v ff20) (cwV 0 hts (gV t_234 t_236 (tb_sel ((y_R_keepGate), 11) (List.mem_of_getElem? (i := 1) (by decide +kernel))) t_1 t_237) rfl rfl rfl (by decide +kernel) ⟨Nat.le_of_ble_eq_true rfl, Nat.le_of_ble_eq_true rfl⟩) (pre_V E hP hS (0) (by omega) ff20 rfl) rfl rfl hl.1 rfl (lv_room (Nat.le_of_ble_eq_true rfl)) d_R_addGate_72 ⟨(Nat.le_of_ble_eq_true rfl), (Nat.le_of_ble_eq_true rfl)⟩) hS (fun r32 z31 H locs hz hP hS => ?_)
        obtain ⟨rfl, k1, k2⟩ := hz
        have ff33 : z31 4 = qr ct 3 24 (gf) := (k2 4 (by omega)).trans ff21
        have ff34 : z31 (44 + 8 * n + 1) = .inr (3, [.int (iI (1)), .ref (b + (44 + 8 * n + 2))]) := (k2 (44 + 8 * n + 1) (by omega)).trans ff22
        have ff35 : z31 (44 + 8 * gx) = .inr (1, [.ref (ke (G gx).1), .int (iI ((G gx).2.1)), .int (iI ((G gx).2.2.1)), .int (iI ((G gx).2.2.2.1)), .ref (b + (44 + 8 * gx + 1)), .ref (b + (44 + 8 * gx + 3))]) := (k2 (44 + 8 * gx) (by omega)).trans ff23
        have ff36 : z31 (44 + 8 * gx + 1) = .inr (3, [.int (iI (1)), .ref (b + (44 + 8 * gx + 2))]) := (k2 (44 + 8 * gx + 1) (by omega)).trans ff24
        have ff37 : z31 (44 + 8 * gx + 2) = ir ct 8 (xgp) := (k2 (44 + 8 * gx + 2) (by omega)).trans ff25
        have ff38 : z31 (44 + 8 * gy) = .inr (1, [.ref (ke (G gy).1), .int (iI ((G gy).2.1)), .int (iI ((G gy).2.2.1)), .int (iI ((G gy).2.2.2.1)), .ref (b + (44 + 8 * gy + 1)), .ref (b + (44 + 8 * gy + 3))]) := (k2 (44 + 8 * gy) (by omega)).trans ff26
        have ff39 : z31 (44 + 8 * gy + 1) = .inr (3, [.int (iI (1)), .ref (b + (44 + 8 * gy + 2))]) := (k2 (44 + 8 * gy + 1) (by omega)).trans ff27
        have ff40 : z31 (44 + 8 * gy + 2) = ir ct 8 (ygp) := (k2 (44 + 8 * gy + 2) (by omega)).trans ff28
        have ff41 : z31 (44 + 8 * n) = .inr (1, [.ref (ke kd), .int (iI ((gx : Int))), .int (iI ((gy : Int))), .int (iI (t)), .ref (b + (44 + 8 * n + 1)), .ref (b + (44 + 8 * n + 3))]) := (k2 (44 + 8 * n) (by omega)).trans ff29
        have ff42 : z31 (44 + 8 * n + 2) = ir ct 8 (g2) := (k2 (44 + 8 * n + 2) (by omega)).trans e1
        have fr43 : ∀ j : Nat, (j ≠ 0) → (j ≠ 44 + 8 * n) → (j ≠ 46 + 8 * n) → z31 j = u j := fun j h0 h1 h2 => (k2 j (by omega)).trans (fr30 j h0 h1 h2)
        have hGA : GA ct b ke z31 (44 + 8 * n) (kd, (gx : Int), (gy : Int), t, gpl kd (G gx).2.2.2.2 (G gy).2.2.2.2 t) := ⟨ff41, ff34, g2, ff42, e2⟩
        exact ret _ z31 H locs 75 ls (Or.inl ⟨⟨hxv, hyv, by omega⟩, rfl, ⟨k1, hSC.of fun j h1 h2 h3 h4 h5 => fr43 j (by omega) (by omega) (by omega), hSV.of fun j h1 h2 => fr43 j (by omega) (by omega) (by omega), ⟨gf, ff33, hgf⟩, hKS.of fun j h1 h2 => fr43 j (by omega) (by omega) (by omega), GC_add hGC (by omega) hvn (fun j h1 h2 h3 h4 => fr43 j (by omega) h3 h4) hGA⟩, fun j h1 => fr43 j (by omega) (by omega) (by omega)⟩) hP hS d_R_addGate_75
      · refine lv_iconst (v := iI (-1)) hx hb d_R_addGate_25 rfl ?_
        exact ret _ u H locs 26 ls (Or.inr ⟨fun h => by have := h.2.2; omega, rfl, rfl⟩) hP hS d_R_addGate_26
abbrev rm_c_input : Room := { frames := 2, cells := 0, slots := 0, locals := 61 }
set_option maxHeartbeats 4000000 in
set_option maxRecDepth 100000 in
/-- input(t) -/
theorem c_input (l : Launch) (D : va_G) (ct : Nat → ClassId) (st ke : Nat → Nat) (b N : Nat) (u : Nat → va_E) (hN : 236 ≤ N) (K : Ky) (n v : Nat) (msg : Int → Int) (G : Int → Gt) (V : Int → Val) (hC : CS ct b ke u K n v msg G V) (hI : PI n v msg G V) (t : Int) : Met l y_R_input (w_R_input) rm_c_input (va_Pc [.ref (b + 0), .int (iI (t))] (fun U => ev D ct st ke b U ∧ va_P D vwCl (wl N b u) U.heap)) (va_Qi (fun (r : Int32) (z : Nat → va_E) => (n < 24 ∧ r = iI (n : Int) ∧ CS ct b ke z K (n + 1) v msg (addG G n (0, -1, -1, t, msg)) V ∧ ∀ j : Nat, 236 ≤ j → z j = u j) ∨ (¬ n < 24 ∧ r = iI (-1) ∧ u = z)) (fun (z : Nat → va_E) t => va_P D vwCl (wl (N) b (z)) t.heap) (AA b)) 0 0 (AA b) := by
  refine M_i (cc := c9_R_input) (maxL := 3) (by decide) rfl (Nat.le_of_ble_eq_true rfl) ?_
  intro p e s m args below meth c Q ls H locs hx hb hml hown hts hnm E hP hS hl ret
  have hl : lv_has ls 3 [(0, .ref (b + 0)), (1, .int (iI (t)))] := hl
  have hK := ev_K E
  have kk0 := hts (.fieldLink "LevelledRing" 31 "LevelledRing" "gateCount" "I") (List.mem_cons_of_mem _ t_177)
  have hinR : ∀ w ∈ u_ws "LevelledRing" T_R 11, w ∈ (w_R_input) := hin_R _
  have kk2 := hts (.fieldLink "LevelledRing" 27 "LevelledRing" "gates" "[LLevelledRing$Gate;") (List.mem_cons_of_mem _ t_176)
  have kk3 := hts (.fieldLink "LevelledRing" 83 "LevelledRing$Kind" "INPUT" "LLevelledRing$Kind;") (List.mem_cons_of_mem _ t_219)
  have kk4 := hts (.fieldLink "LevelledRing" 93 "LevelledRing$Gate" "plain" "LLevelledRing$Poly;") (List.mem_cons_of_mem _ t_157)
  have hinG : ∀ w ∈ u_ws "LevelledRing$Gate" T_G 6, w ∈ (w_R_input) := hin_G _
  have kk6 := hts (.fieldLink "LevelledRing" 21 "LevelledRing" "message" "LLevelledRing$Poly;") (List.mem_cons_of_mem _ t_175)
  have fr0 : ∀ j : Nat, (j ≠ 0) → (j ≠ 44 + 8 * n) → (j ≠ 46 + 8 * n) → u j = u j := fun _ _ _ _ => rfl
  have hn24 := hI.1
  have hvn := hI.2.1
  obtain ⟨hO, hSC, hSV, ⟨gf, hgr, hgf⟩, hKS, hGC⟩ := hC
  obtain ⟨hm0, mg, hm1, hm2⟩ := hSV
  refine lv_aload_n hx hb d_R_input_0 rfl (lv_at hl 0 rfl) ?_
  refine w_get (C := "LevelledRing") (T := T_R) (M := 11) hx hb hts hinR hown hK hP (0) (by omega) hO rfl 4 (by decide) kk0 (fun _ h => h) rfl d_R_input_1 ?_
  refine lv_bipush (v := iI (24)) hx hb d_R_input_4 (by decide +kernel) ?_
  refine x_icmp_lt (tgt := 11) hx hb ⟨by omega, by omega⟩ ⟨by omega, by omega⟩ d_R_input_6 (by decide) (fun hc => ?_) (fun hc => ?_)
  · obtain ⟨⟨nG, nhg0, nhg1, ngp, nhg2, -⟩, -⟩ := hGC.1 n (by omega)
    refine lv_aload_n hx hb d_R_input_11 rfl (lv_at hl 0 rfl) ?_
    refine w_get (C := "LevelledRing") (T := T_R) (M := 11) hx hb hts hinR hown hK hP (0) (by omega) hO rfl 3 (by decide) kk2 (fun _ h => h) rfl d_R_input_12 ?_
    refine lv_aload_n hx hb d_R_input_15 rfl (lv_at hl 0 rfl) ?_
    refine w_get (C := "LevelledRing") (T := T_R) (M := 11) hx hb hts hinR hown hK hP (0) (by omega) hO rfl 4 (by decide) kk0 (fun _ h => h) rfl d_R_input_16 ?_
    refine w_aald (r := b + (44 + 8 * n)) hx hb hK hP (4) (by omega) 3 hgr rfl (by omega) (by omega) (by decide) (hgf n (by omega)) d_R_input_19 ?_
    refine lv_astore_n (lv' := [(2, .ref (b + (44 + 8 * n))), (0, .ref (b + 0)), (1, .int (iI (t)))]) hx hb d_R_input_20 rfl hl (by decide) rfl (fun ls hl => ?_)
    refine lv_aload_n hx hb d_R_input_21 rfl (lv_at hl 0 rfl) ?_
    refine va_gets hx hb ((ev_E E).1 0 (by decide)).1 hS hown kk3 (fun _ h => h) d_R_input_22 ?_
    refine lv_iconst (v := iI (-1)) hx hb d_R_input_25 rfl ?_
    refine lv_iconst (v := iI (-1)) hx hb d_R_input_26 rfl ?_
    refine lv_iload_n hx hb d_R_input_27 rfl (lv_at hl 2 rfl) ?_
    refine w_callv (va_runV (As := [.ref (ke 0), .int (iI (-1)), .int (iI (-1)), .int (iI (t))]) (rest := []) ⟨hx, hb, hml, hown, hts⟩ (c_become l D ct st ke b N u (44 + 8 * n) (by omega) nG.1 nG.2.1 nG.2.2.1 nG.2.2.2.1 nhg0 0 (-1) (-1) t) (cwV 4 hts (gV t_220 t_221 t_222 t_6 t_223) rfl rfl rfl (by decide +kernel) ⟨Nat.le_of_ble_eq_true rfl, Nat.le_of_ble_eq_true rfl⟩) (pre_V E hP hS (44 + 8 * n) (by omega) nhg0 rfl) rfl rfl hl.1 rfl (lv_room (Nat.le_of_ble_eq_true rfl)) d_R_input_28 ⟨(Nat.le_of_ble_eq_true rfl), (Nat.le_of_ble_eq_true rfl)⟩) hS (fun z1 H locs hz hP hS => ?_)
    obtain ⟨d1, d2⟩ := hz
    have ff3 : z1 0 = .inr (5, [.ref (b + 1), .ref (b + 21), .ref (b + 2), .ref (b + 4), .int (iI ((n : Int))), .int (iI ((v : Int))), .ref (b + 5), .ref (b + 10), .ref (b + 15), .ref (b + 17), .ref (b + 19)]) := (d2 0 (by omega)).trans hO
    have ff4 : z1 4 = qr ct 3 24 (gf) := (d2 4 (by omega)).trans hgr
    have ff5 : z1 2 = .inr (3, [.int (iI (1)), .ref (b + 3)]) := (d2 2 (by omega)).trans hm0
    have ff6 : z1 3 = ir ct 8 (mg) := (d2 3 (by omega)).trans hm1
    have ff7 : z1 (44 + 8 * n + 1) = .inr (3, [.int (iI (1)), .ref (b + (44 + 8 * n + 2))]) := (d2 (44 + 8 * n + 1) (by omega)).trans nhg1
    have ff8 : z1 (44 + 8 * n + 2) = ir ct 8 (ngp) := (d2 (44 + 8 * n + 2) (by omega)).trans nhg2
    have fr9 : ∀ j : Nat, (j ≠ 0) → (j ≠ 44 + 8 * n) → (j ≠ 46 + 8 * n) → z1 j = u j := fun j h0 h1 h2 => (d2 j (by omega)).trans (fr0 j h0 h1 h2)
    refine lv_aload_n hx hb d_R_input_31 rfl (lv_at hl 0 rfl) ?_
    refine w_get (C := "LevelledRing$Gate") (T := T_G) (M := 6) hx hb hts hinG hown hK hP (44 + 8 * n) (by omega) d1 rfl 4 (by decide) kk4 (fun _ h => h) rfl d_R_input_32 ?_
    refine lv_aload_n hx hb d_R_input_35 rfl (lv_at hl 1 rfl) ?_
    refine w_get (C := "LevelledRing") (T := T_R) (M := 11) hx hb hts hinR hown hK hP (0) (by omega) ff3 rfl 2 (by decide) kk6 (fun _ h => h) rfl d_R_input_36 ?_
    refine w_callv (va_runV (As := [.ref (b + 2)]) (rest := []) ⟨hx, hb, hml, hown, hts⟩ (c_copyFrom l D ct st ke b N z1 (44 + 8 * n + 1) 1 8 ngp (by omega) (by decide) ff7 ff8 2 mg (by omega) ff5 ff6) (cwV 1 hts (gV t_224 t_225 t_226 t_3 t_227) rfl rfl rfl (by decide +kernel) ⟨Nat.le_of_ble_eq_true rfl, Nat.le_of_ble_eq_true rfl⟩) (pre_V E hP hS (44 + 8 * n + 1) (by omega) ff7 rfl) rfl rfl hl.1 rfl (lv_room (Nat.le_of_ble_eq_true rfl)) d_R_input_39 ⟨(Nat.le_of_ble_eq_true rfl), (Nat.le_of_ble_eq_true rfl)⟩) hS (fun z10 H locs hz hP hS => ?_)
    obtain ⟨g2, e1, e2, e3⟩ := hz
    have ff12 : z10 0 = .inr (5, [.ref (b + 1), .ref (b + 21), .ref (b + 2), .ref (b + 4), .int (iI ((n : Int))), .int (iI ((v : Int))), .ref (b + 5), .ref (b + 10), .ref (b + 15), .ref (b + 17), .ref (b + 19)]) := (e3 0 (by omega)).trans ff3
    have ff13 : z10 4 = qr ct 3 24 (gf) := (e3 4 (by omega)).trans ff4
    have ff14 : z10 2 = .inr (3, [.int (iI (1)), .ref (b + 3)]) := (e3 2 (by omega)).trans ff5
    have ff15 : z10 3 = ir ct 8 (mg) := (e3 3 (by omega)).trans ff6
    have ff16 : z10 (44 + 8 * n + 1) = .inr (3, [.int (iI (1)), .ref (b + (44 + 8 * n + 2))]) := (e3 (44 + 8 * n + 1) (by omega)).trans ff7
    have ff17 : z10 (44 + 8 * n) = .inr (1, [.ref (ke 0), .int (iI (-1)), .int (iI (-1)), .int (iI (t)), .ref (b + (44 + 8 * n + 1)), .ref (b + (44 + 8 * n + 3))]) := (e3 (44 + 8 * n) (by omega)).trans d1
    have fr18 : ∀ j : Nat, (j ≠ 0) → (j ≠ 44 + 8 * n) → (j ≠ 46 + 8 * n) → z10 j = u j := fun j h0 h1 h2 => (e3 j (by omega)).trans (fr9 j h0 h1 h2)
    refine lv_aload_n hx hb d_R_input_42 rfl (lv_at hl 1 rfl) ?_
    refine w_calli (va_runV (As := []) (rest := []) ⟨hx, hb, hml, hown, hts⟩ (c_keepGate l D ct st ke b N z10 hN n v ff12) (cwV 0 hts (gV t_234 t_236 (tb_sel ((y_R_keepGate), 11) (List.mem_of_getElem? (i := 1) (by decide +kernel))) t_1 t_237) rfl rfl rfl (by decide +kernel) ⟨Nat.le_of_ble_eq_true rfl, Nat.le_of_ble_eq_true rfl⟩) (pre_V E hP hS (0) (by omega) ff12 rfl) rfl rfl hl.1 rfl (lv_room (Nat.le_of_ble_eq_true rfl)) d_R_input_43 ⟨(Nat.le_of_ble_eq_true rfl), (Nat.le_of_ble_eq_true rfl)⟩) hS (fun r20 z19 H locs hz hP hS => ?_)
    obtain ⟨rfl, k1, k2⟩ := hz
    have ff21 : z19 4 = qr ct 3 24 (gf) := (k2 4 (by omega)).trans ff13
    have ff22 : z19 2 = .inr (3, [.int (iI (1)), .ref (b + 3)]) := (k2 2 (by omega)).trans ff14
    have ff23 : z19 3 = ir ct 8 (mg) := (k2 3 (by omega)).trans ff15
    have ff24 : z19 (44 + 8 * n + 1) = .inr (3, [.int (iI (1)), .ref (b + (44 + 8 * n + 2))]) := (k2 (44 + 8 * n + 1) (by omega)).trans ff16
    have ff25 : z19 (44 + 8 * n) = .inr (1, [.ref (ke 0), .int (iI (-1)), .int (iI (-1)), .int (iI (t)), .ref (b + (44 + 8 * n + 1)), .ref (b + (44 + 8 * n + 3))]) := (k2 (44 + 8 * n) (by omega)).trans ff17
    have ff26 : z19 (44 + 8 * n + 2) = ir ct 8 (g2) := (k2 (44 + 8 * n + 2) (by omega)).trans e1
    have fr27 : ∀ j : Nat, (j ≠ 0) → (j ≠ 44 + 8 * n) → (j ≠ 46 + 8 * n) → z19 j = u j := fun j h0 h1 h2 => (k2 j (by omega)).trans (fr18 j h0 h1 h2)
    have hGA : GA ct b ke z19 (44 + 8 * n) (0, -1, -1, t, msg) := ⟨ff25, ff24, g2, ff26, fun i h0 h1 => (e2 i h0 (by omega)).trans (hm2 i h0 h1)⟩
    exact ret _ z19 H locs 46 ls (Or.inl ⟨by omega, rfl, ⟨k1, hSC.of fun j h1 h2 h3 h4 h5 => fr27 j (by omega) (by omega) (by omega), ⟨ff22, mg, ff23, hm2⟩, ⟨gf, ff21, hgf⟩, hKS.of fun j h1 h2 => fr27 j (by omega) (by omega) (by omega), GC_add hGC (by omega) hvn (fun j h1 h2 h3 h4 => fr27 j (by omega) h3 h4) hGA⟩, fun j h1 => fr27 j (by omega) (by omega) (by omega)⟩) hP hS d_R_input_46
  · refine lv_iconst (v := iI (-1)) hx hb d_R_input_9 rfl ?_
    exact ret _ u H locs 10 ls (Or.inr ⟨by omega, rfl, rfl⟩) hP hS d_R_input_10
abbrev rm_c_sum : Room := { frames := 4, cells := 0, slots := 0, locals := 108 }
set_option maxHeartbeats 4000000 in
set_option maxRecDepth 100000 in
/-- sum(x, y) -/
theorem c_sum (l : Launch) (D : va_G) (ct : Nat → ClassId) (st ke : Nat → Nat) (b N : Nat) (u : Nat → va_E) (hN : 236 ≤ N) (K : Ky) (n v : Nat) (msg : Int → Int) (G : Int → Gt) (V : Int → Val) (hC : CS ct b ke u K n v msg G V) (hI : PI n v msg G V) (x y : Int) (hx0 : r32 x) (hy0 : r32 y) : Met l y_R_sum (w_R_sum) rm_c_sum (va_Pc [.ref (b + 0), .int (iI (x)), .int (iI (y))] (fun U => ev D ct st ke b U ∧ va_P D vwCl (wl N b u) U.heap)) (va_Qi (fun (r : Int32) (z : Nat → va_E) => (canA n x y ∧ r = iI (n : Int) ∧ CS ct b ke z K (n + 1) v msg (addG G n (1, x, y, 0, gpl 1 (G x).2.2.2.2 (G y).2.2.2.2 0)) V ∧ ∀ j : Nat, 236 ≤ j → z j = u j) ∨ (¬ canA n x y ∧ r = iI (-1) ∧ u = z)) (fun (z : Nat → va_E) t => va_P D vwCl (wl (N) b (z)) t.heap) (AA b)) 0 0 (AA b) := by
  refine M_i (cc := c9_R_sum) (maxL := 3) (by decide) rfl (Nat.le_of_ble_eq_true rfl) ?_
  intro p e s m args below meth c Q ls H locs hx hb hml hown hts hnm E hP hS hl ret
  have hl : lv_has ls 3 [(0, .ref (b + 0)), (1, .int (iI (x))), (2, .int (iI (y)))] := hl
  have hK := ev_K E
  have kk0 := hts (.fieldLink "LevelledRing" 104 "LevelledRing$Kind" "SUM" "LLevelledRing$Kind;") (List.mem_cons_of_mem _ t_242)
  refine lv_aload_n hx hb d_R_sum_0 rfl (lv_at hl 0 rfl) ?_
  refine va_gets hx hb ((ev_E E).1 1 (by decide)).1 hS hown kk0 (fun _ h => h) d_R_sum_1 ?_
  refine lv_iload_n hx hb d_R_sum_4 rfl (lv_at hl 1 rfl) ?_
  refine lv_iload_n hx hb d_R_sum_5 rfl (lv_at hl 2 rfl) ?_
  refine lv_iconst (v := iI (0)) hx hb d_R_sum_6 rfl ?_
  refine w_calli (va_runV (As := [.ref (ke 1), .int (iI (x)), .int (iI (y)), .int (iI (0))]) (rest := []) ⟨hx, hb, hml, hown, hts⟩ (c_addGate l D ct st ke b N u hN K n v msg G V hC hI 1 (by decide) (by decide) x y 0 hx0 hy0 (fun h => by cases h)) (cwV 4 hts (gV t_244 t_246 (tb_sel ((y_R_addGate), 11) (List.mem_of_getElem? (i := 2) (by decide +kernel))) t_1 t_247) rfl rfl rfl (by decide +kernel) ⟨Nat.le_of_ble_eq_true rfl, Nat.le_of_ble_eq_true rfl⟩) (pre_V E hP hS (0) (by omega) hC.1 rfl) rfl rfl hl.1 rfl (lv_room (Nat.le_of_ble_eq_true rfl)) d_R_sum_7 ⟨(Nat.le_of_ble_eq_true rfl), (Nat.le_of_ble_eq_true rfl)⟩) hS (fun r z1 H locs hz hP hS => ?_)
  exact ret r z1 H locs 10 ls hz hP hS d_R_sum_10
abbrev rm_c_difference : Room := { frames := 4, cells := 0, slots := 0, locals := 108 }
set_option maxHeartbeats 4000000 in
set_option maxRecDepth 100000 in
/-- difference(x, y) -/
theorem c_difference (l : Launch) (D : va_G) (ct : Nat → ClassId) (st ke : Nat → Nat) (b N : Nat) (u : Nat → va_E) (hN : 236 ≤ N) (K : Ky) (n v : Nat) (msg : Int → Int) (G : Int → Gt) (V : Int → Val) (hC : CS ct b ke u K n v msg G V) (hI : PI n v msg G V) (x y : Int) (hx0 : r32 x) (hy0 : r32 y) : Met l y_R_difference (w_R_difference) rm_c_difference (va_Pc [.ref (b + 0), .int (iI (x)), .int (iI (y))] (fun U => ev D ct st ke b U ∧ va_P D vwCl (wl N b u) U.heap)) (va_Qi (fun (r : Int32) (z : Nat → va_E) => (canA n x y ∧ r = iI (n : Int) ∧ CS ct b ke z K (n + 1) v msg (addG G n (2, x, y, 0, gpl 2 (G x).2.2.2.2 (G y).2.2.2.2 0)) V ∧ ∀ j : Nat, 236 ≤ j → z j = u j) ∨ (¬ canA n x y ∧ r = iI (-1) ∧ u = z)) (fun (z : Nat → va_E) t => va_P D vwCl (wl (N) b (z)) t.heap) (AA b)) 0 0 (AA b) := by
  refine M_i (cc := c9_R_difference) (maxL := 3) (by decide) rfl (Nat.le_of_ble_eq_true rfl) ?_
  intro p e s m args below meth c Q ls H locs hx hb hml hown hts hnm E hP hS hl ret
  have hl : lv_has ls 3 [(0, .ref (b + 0)), (1, .int (iI (x))), (2, .int (iI (y)))] := hl
  have hK := ev_K E
  have kk0 := hts (.fieldLink "LevelledRing" 111 "LevelledRing$Kind" "DIFFERENCE" "LLevelledRing$Kind;") (List.mem_cons_of_mem _ t_280)
  refine lv_aload_n hx hb d_R_difference_0 rfl (lv_at hl 0 rfl) ?_
  refine va_gets hx hb ((ev_E E).1 2 (by decide)).1 hS hown kk0 (fun _ h => h) d_R_difference_1 ?_
  refine lv_iload_n hx hb d_R_difference_4 rfl (lv_at hl 1 rfl) ?_
  refine lv_iload_n hx hb d_R_difference_5 rfl (lv_at hl 2 rfl) ?_
  refine lv_iconst (v := iI (0)) hx hb d_R_difference_6 rfl ?_
  refine w_calli (va_runV (As := [.ref (ke 2), .int (iI (x)), .int (iI (y)), .int (iI (0))]) (rest := []) ⟨hx, hb, hml, hown, hts⟩ (c_addGate l D ct st ke b N u hN K n v msg G V hC hI 2 (by decide) (by decide) x y 0 hx0 hy0 (fun h => by cases h)) (cwV 4 hts (gV t_244 t_246 (tb_sel ((y_R_addGate), 11) (List.mem_of_getElem? (i := 2) (by decide +kernel))) t_1 t_247) rfl rfl rfl (by decide +kernel) ⟨Nat.le_of_ble_eq_true rfl, Nat.le_of_ble_eq_true rfl⟩) (pre_V E hP hS (0) (by omega) hC.1 rfl) rfl rfl hl.1 rfl (lv_room (Nat.le_of_ble_eq_true rfl)) d_R_difference_7 ⟨(Nat.le_of_ble_eq_true rfl), (Nat.le_of_ble_eq_true rfl)⟩) hS (fun r z1 H locs hz hP hS => ?_)
  exact ret r z1 H locs 10 ls hz hP hS d_R_difference_10
abbrev rm_c_product : Room := { frames := 4, cells := 0, slots := 0, locals := 108 }
set_option maxHeartbeats 4000000 in
set_option maxRecDepth 100000 in
/-- product(x, y) -/
theorem c_product (l : Launch) (D : va_G) (ct : Nat → ClassId) (st ke : Nat → Nat) (b N : Nat) (u : Nat → va_E) (hN : 236 ≤ N) (K : Ky) (n v : Nat) (msg : Int → Int) (G : Int → Gt) (V : Int → Val) (hC : CS ct b ke u K n v msg G V) (hI : PI n v msg G V) (x y : Int) (hx0 : r32 x) (hy0 : r32 y) : Met l y_R_product (w_R_product) rm_c_product (va_Pc [.ref (b + 0), .int (iI (x)), .int (iI (y))] (fun U => ev D ct st ke b U ∧ va_P D vwCl (wl N b u) U.heap)) (va_Qi (fun (r : Int32) (z : Nat → va_E) => (canA n x y ∧ r = iI (n : Int) ∧ CS ct b ke z K (n + 1) v msg (addG G n (3, x, y, 0, gpl 3 (G x).2.2.2.2 (G y).2.2.2.2 0)) V ∧ ∀ j : Nat, 236 ≤ j → z j = u j) ∨ (¬ canA n x y ∧ r = iI (-1) ∧ u = z)) (fun (z : Nat → va_E) t => va_P D vwCl (wl (N) b (z)) t.heap) (AA b)) 0 0 (AA b) := by
  refine M_i (cc := c9_R_product) (maxL := 3) (by decide) rfl (Nat.le_of_ble_eq_true rfl) ?_
  intro p e s m args below meth c Q ls H locs hx hb hml hown hts hnm E hP hS hl ret
  have hl : lv_has ls 3 [(0, .ref (b + 0)), (1, .int (iI (x))), (2, .int (iI (y)))] := hl
  have hK := ev_K E
  have kk0 := hts (.fieldLink "LevelledRing" 114 "LevelledRing$Kind" "PRODUCT" "LLevelledRing$Kind;") (List.mem_cons_of_mem _ t_286)
  refine lv_aload_n hx hb d_R_product_0 rfl (lv_at hl 0 rfl) ?_
  refine va_gets hx hb ((ev_E E).1 3 (by decide)).1 hS hown kk0 (fun _ h => h) d_R_product_1 ?_
  refine lv_iload_n hx hb d_R_product_4 rfl (lv_at hl 1 rfl) ?_
  refine lv_iload_n hx hb d_R_product_5 rfl (lv_at hl 2 rfl) ?_
  refine lv_iconst (v := iI (0)) hx hb d_R_product_6 rfl ?_
  refine w_calli (va_runV (As := [.ref (ke 3), .int (iI (x)), .int (iI (y)), .int (iI (0))]) (rest := []) ⟨hx, hb, hml, hown, hts⟩ (c_addGate l D ct st ke b N u hN K n v msg G V hC hI 3 (by decide) (by decide) x y 0 hx0 hy0 (fun h => by cases h)) (cwV 4 hts (gV t_244 t_246 (tb_sel ((y_R_addGate), 11) (List.mem_of_getElem? (i := 2) (by decide +kernel))) t_1 t_247) rfl rfl rfl (by decide +kernel) ⟨Nat.le_of_ble_eq_true rfl, Nat.le_of_ble_eq_true rfl⟩) (pre_V E hP hS (0) (by omega) hC.1 rfl) rfl rfl hl.1 rfl (lv_room (Nat.le_of_ble_eq_true rfl)) d_R_product_7 ⟨(Nat.le_of_ble_eq_true rfl), (Nat.le_of_ble_eq_true rfl)⟩) hS (fun r z1 H locs hz hP hS => ?_)
  exact ret r z1 H locs 10 ls hz hP hS d_R_product_10
abbrev rm_c_lowered : Room := { frames := 4, cells := 0, slots := 0, locals := 108 }
set_option maxHeartbeats 4000000 in
set_option maxRecDepth 100000 in
/-- lowered(x) -/
theorem c_lowered (l : Launch) (D : va_G) (ct : Nat → ClassId) (st ke : Nat → Nat) (b N : Nat) (u : Nat → va_E) (hN : 236 ≤ N) (K : Ky) (n v : Nat) (msg : Int → Int) (G : Int → Gt) (V : Int → Val) (hC : CS ct b ke u K n v msg G V) (hI : PI n v msg G V) (x : Int) (hx0 : r32 x) : Met l y_R_lowered (w_R_lowered) rm_c_lowered (va_Pc [.ref (b + 0), .int (iI (x))] (fun U => ev D ct st ke b U ∧ va_P D vwCl (wl N b u) U.heap)) (va_Qi (fun (r : Int32) (z : Nat → va_E) => (canA n x x ∧ r = iI (n : Int) ∧ CS ct b ke z K (n + 1) v msg (addG G n (5, x, x, 0, gpl 5 (G x).2.2.2.2 (G x).2.2.2.2 0)) V ∧ ∀ j : Nat, 236 ≤ j → z j = u j) ∨ (¬ canA n x x ∧ r = iI (-1) ∧ u = z)) (fun (z : Nat → va_E) t => va_P D vwCl (wl (N) b (z)) t.heap) (AA b)) 0 0 (AA b) := by
  refine M_i (cc := c9_R_lowered) (maxL := 2) (by decide) rfl (Nat.le_of_ble_eq_true rfl) ?_
  intro p e s m args below meth c Q ls H locs hx hb hml hown hts hnm E hP hS hl ret
  have hl : lv_has ls 2 [(0, .ref (b + 0)), (1, .int (iI (x)))] := hl
  have hK := ev_K E
  have kk0 := hts (.fieldLink "LevelledRing" 120 "LevelledRing$Kind" "LOWERED" "LLevelledRing$Kind;") (List.mem_cons_of_mem _ t_298)
  refine lv_aload_n hx hb d_R_lowered_0 rfl (lv_at hl 0 rfl) ?_
  refine va_gets hx hb ((ev_E E).1 5 (by decide)).1 hS hown kk0 (fun _ h => h) d_R_lowered_1 ?_
  refine lv_iload_n hx hb d_R_lowered_4 rfl (lv_at hl 1 rfl) ?_
  refine lv_iload_n hx hb d_R_lowered_5 rfl (lv_at hl 1 rfl) ?_
  refine lv_iconst (v := iI (0)) hx hb d_R_lowered_6 rfl ?_
  refine w_calli (va_runV (As := [.ref (ke 5), .int (iI (x)), .int (iI (x)), .int (iI (0))]) (rest := []) ⟨hx, hb, hml, hown, hts⟩ (c_addGate l D ct st ke b N u hN K n v msg G V hC hI 5 (by decide) (by decide) x x 0 hx0 hx0 (fun h => by cases h)) (cwV 4 hts (gV t_244 t_246 (tb_sel ((y_R_addGate), 11) (List.mem_of_getElem? (i := 2) (by decide +kernel))) t_1 t_247) rfl rfl rfl (by decide +kernel) ⟨Nat.le_of_ble_eq_true rfl, Nat.le_of_ble_eq_true rfl⟩) (pre_V E hP hS (0) (by omega) hC.1 rfl) rfl rfl hl.1 rfl (lv_room (Nat.le_of_ble_eq_true rfl)) d_R_lowered_7 ⟨(Nat.le_of_ble_eq_true rfl), (Nat.le_of_ble_eq_true rfl)⟩) hS (fun r z1 H locs hz hP hS => ?_)
  exact ret r z1 H locs 10 ls hz hP hS d_R_lowered_10
abbrev rm_c_shift : Room := { frames := 4, cells := 0, slots := 0, locals := 108 }
set_option maxHeartbeats 4000000 in
set_option maxRecDepth 100000 in
/-- shift(x, y) -/
theorem c_shift (l : Launch) (D : va_G) (ct : Nat → ClassId) (st ke : Nat → Nat) (b N : Nat) (u : Nat → va_E) (hN : 236 ≤ N) (K : Ky) (n v : Nat) (msg : Int → Int) (G : Int → Gt) (V : Int → Val) (hC : CS ct b ke u K n v msg G V) (hI : PI n v msg G V) (x y : Int) (hx0 : r32 x) (hy0 : r32 y) : Met l y_R_shift (w_R_shift) rm_c_shift (va_Pc [.ref (b + 0), .int (iI (x)), .int (iI (y))] (fun U => ev D ct st ke b U ∧ va_P D vwCl (wl N b u) U.heap)) (va_Qi (fun (r : Int32) (z : Nat → va_E) => ((0 ≤ y ∧ y < 16) ∧ canA n x x ∧ r = iI (n : Int) ∧ CS ct b ke z K (n + 1) v msg (addG G n (4, x, x, y, gpl 4 (G x).2.2.2.2 (G x).2.2.2.2 y)) V ∧ ∀ j : Nat, 236 ≤ j → z j = u j) ∨ (¬ ((0 ≤ y ∧ y < 16) ∧ canA n x x) ∧ r = iI (-1) ∧ u = z)) (fun (z : Nat → va_E) t => va_P D vwCl (wl (N) b (z)) t.heap) (AA b)) 0 0 (AA b) := by
  refine M_i (cc := c9_R_shift) (maxL := 3) (by decide) rfl (Nat.le_of_ble_eq_true rfl) ?_
  intro p e s m args below meth c Q ls H locs hx hb hml hown hts hnm E hP hS hl ret
  have hl : lv_has ls 3 [(0, .ref (b + 0)), (1, .int (iI (x))), (2, .int (iI (y)))] := hl
  have hK := ev_K E
  have kk0 := hts (.fieldLink "LevelledRing" 117 "LevelledRing$Kind" "SHIFT" "LLevelledRing$Kind;") (List.mem_cons_of_mem _ t_292)
  refine lv_iload_n hx hb d_R_shift_0 rfl (lv_at hl 2 rfl) ?_
  refine x_if_lt (tgt := 10) hx hb hy0 d_R_shift_1 (by decide) (fun hc => ?_) (fun hc => ?_)
  · refine lv_iconst (v := iI (-1)) hx hb d_R_shift_10 rfl ?_
    exact ret _ u H locs 11 ls (Or.inr ⟨fun h => by have := h.1; omega, rfl, rfl⟩) hP hS d_R_shift_11
  · refine lv_iload_n hx hb d_R_shift_4 rfl (lv_at hl 2 rfl) ?_
    refine lv_bipush (v := iI (16)) hx hb d_R_shift_5 (by decide +kernel) ?_
    refine x_icmp_lt (tgt := 12) hx hb hy0 ⟨by omega, by omega⟩ d_R_shift_7 (by decide) (fun hc => ?_) (fun hc => ?_)
    · refine lv_aload_n hx hb d_R_shift_12 rfl (lv_at hl 0 rfl) ?_
      refine va_gets hx hb ((ev_E E).1 4 (by decide)).1 hS hown kk0 (fun _ h => h) d_R_shift_13 ?_
      refine lv_iload_n hx hb d_R_shift_16 rfl (lv_at hl 1 rfl) ?_
      refine lv_iload_n hx hb d_R_shift_17 rfl (lv_at hl 1 rfl) ?_
      refine lv_iload_n hx hb d_R_shift_18 rfl (lv_at hl 2 rfl) ?_
      refine w_calli (va_runV (As := [.ref (ke 4), .int (iI (x)), .int (iI (x)), .int (iI (y))]) (rest := []) ⟨hx, hb, hml, hown, hts⟩ (c_addGate l D ct st ke b N u hN K n v msg G V hC hI 4 (by decide) (by decide) x x y hx0 hx0 (fun _ => by omega)) (cwV 4 hts (gV t_244 t_246 (tb_sel ((y_R_addGate), 11) (List.mem_of_getElem? (i := 2) (by decide +kernel))) t_1 t_247) rfl rfl rfl (by decide +kernel) ⟨Nat.le_of_ble_eq_true rfl, Nat.le_of_ble_eq_true rfl⟩) (pre_V E hP hS (0) (by omega) hC.1 rfl) rfl rfl hl.1 rfl (lv_room (Nat.le_of_ble_eq_true rfl)) d_R_shift_19 ⟨(Nat.le_of_ble_eq_true rfl), (Nat.le_of_ble_eq_true rfl)⟩) hS (fun r z1 H locs hz hP hS => ?_)
      rcases hz with hz | hz
      · exact ret r z1 H locs 22 ls (Or.inl ⟨by omega, hz⟩) hP hS d_R_shift_22
      · exact ret r z1 H locs 22 ls (Or.inr ⟨fun h => hz.1 h.2, hz.2⟩) hP hS d_R_shift_22
    · refine lv_iconst (v := iI (-1)) hx hb d_R_shift_10 rfl ?_
      exact ret _ u H locs 11 ls (Or.inr ⟨fun h => by have := h.1; omega, rfl, rfl⟩) hP hS d_R_shift_11
abbrev rm_c_cut : Room := { frames := 1, cells := 0, slots := 0, locals := 40 }
set_option maxHeartbeats 4000000 in
set_option maxRecDepth 100000 in
/-- cut(x) -/
theorem c_cut (l : Launch) (D : va_G) (ct : Nat → ClassId) (st ke : Nat → Nat) (b N : Nat) (u : Nat → va_E) (hN : 236 ≤ N) (K : Ky) (n v : Nat) (msg : Int → Int) (G : Int → Gt) (V : Int → Val) (hC : CS ct b ke u K n v msg G V) (hI : PI n v msg G V) (x : Int) (hx0 : r32 x) : Met l y_R_cut (w_R_cut) rm_c_cut (va_Pc [.ref (b + 0), .int (iI (x))] (fun U => ev D ct st ke b U ∧ va_P D vwCl (wl N b u) U.heap)) (va_Qi (fun (r : Int32) (z : Nat → va_E) => ((0 ≤ x ∧ x < n) ∧ r = iI 1 ∧ CS ct b ke z K x.toNat (min v x.toNat) msg G V ∧ ∀ j : Nat, 236 ≤ j → z j = u j) ∨ (¬ (0 ≤ x ∧ x < n) ∧ r = iI 0 ∧ u = z)) (fun (z : Nat → va_E) t => va_P D vwCl (wl (N) b (z)) t.heap) (AA b)) 0 0 (AA b) := by
  refine M_z (cc := c9_R_cut) (maxL := 2) (by decide) rfl (Nat.le_of_ble_eq_true rfl) ?_
  intro p e s m args below meth c Q ls H locs hx hb hml hown hts hnm E hP hS hl ret
  have hl : lv_has ls 2 [(0, .ref (b + 0)), (1, .int (iI (x)))] := hl
  have hK := ev_K E
  have kk0 := hts (.fieldLink "LevelledRing" 31 "LevelledRing" "gateCount" "I") (List.mem_cons_of_mem _ t_177)
  have hinR : ∀ w ∈ u_ws "LevelledRing" T_R 11, w ∈ (w_R_cut) := hin_R _
  have kk2 := hts (.fieldLink "LevelledRing" 35 "LevelledRing" "valueCount" "I") (List.mem_cons_of_mem _ t_178)
  have kk3 := hts (.methodLink "LevelledRing" 126 Lib.Math.min.name) (List.mem_cons_of_mem _ t_308)
  have kk4 := hts (.static Lib.Math.min.name) (List.mem_cons_of_mem _ t_229)
  have kk5 := hts (.initialized "java/lang/Math") (List.mem_cons_of_mem _ t_10)
  have kk6 := hts (.code Lib.Math.min.name Lib.Math.min.code 2 (some .int)) (List.mem_cons_of_mem _ t_230)
  have fr0 : ∀ j : Nat, (j ≠ 0) → u j = u j := fun _ _ => rfl
  have hn24 := hI.1
  have hvn := hI.2.1
  obtain ⟨hO, hSC, hSV, ⟨gf, hgr, hgf⟩, hKS, hGC⟩ := hC
  refine lv_aload_n hx hb d_R_cut_0 rfl (lv_at hl 0 rfl) ?_
  refine lv_iload_n hx hb d_R_cut_1 rfl (lv_at hl 1 rfl) ?_
  refine w_calli (va_runV (As := [.int (iI (x))]) (rest := []) ⟨hx, hb, hml, hown, hts⟩ (c_isGate l D ct st ke b N u (by omega) n v (by omega) (by omega) hO (x) hx0) (cwV 1 hts (gV t_248 t_250 (tb_sel ((y_R_isGate), 11) (List.mem_of_getElem? (i := 3) (by decide +kernel))) t_1 t_251) rfl rfl rfl (by decide +kernel) ⟨Nat.le_of_ble_eq_true rfl, Nat.le_of_ble_eq_true rfl⟩) (pre_V E hP hS (0) (by omega) hO rfl) rfl rfl hl.1 rfl (lv_room (Nat.le_of_ble_eq_true rfl)) d_R_cut_2 ⟨(Nat.le_of_ble_eq_true rfl), (Nat.le_of_ble_eq_true rfl)⟩) hS (fun r2 z1 H locs hz hP hS => ?_)
  obtain ⟨rfl, rfl⟩ := hz
  have hi01 := inb_01 (x) (n : Int)
  refine x_if_ne (tgt := 10) hx hb ⟨by omega, by omega⟩ d_R_cut_5 (by decide) (fun hc => ?_) (fun hc => ?_)
  · have hxv := inb_n hc
    obtain ⟨g, rfl⟩ := Int.eq_ofNat_of_zero_le hxv.1
    refine lv_aload_n hx hb d_R_cut_10 rfl (lv_at hl 0 rfl) ?_
    refine lv_iload_n hx hb d_R_cut_11 rfl (lv_at hl 1 rfl) ?_
    refine w_put (C := "LevelledRing") (T := T_R) (M := 11) (ty := .int) (v := .int (iI ((g : Int)))) hx hb hts hinR ty_R tyok_R nm_R hown hK hP hS (0) (by omega) hO rfl 4 (by decide) kk0 (fun _ h => h) rfl (by decide +kernel) rfl rfl (Nat.le_of_ble_eq_true rfl) d_R_cut_12 (fun H locs hP hS => ?_)
    obtain ⟨u3, hu4, hP⟩ : ∃ zz : Nat → va_E, zz = va_up u 0 (.inr (5, [.ref (b + 1), .ref (b + 21), .ref (b + 2), .ref (b + 4), .int (iI ((g : Int))), .int (iI ((v : Int))), .ref (b + 5), .ref (b + 10), .ref (b + 15), .ref (b + 17), .ref (b + 19)])) ∧ va_P D vwCl (wl N b zz) H := ⟨_, rfl, hP⟩
    have ff5 : u3 0 = .inr (5, [.ref (b + 1), .ref (b + 21), .ref (b + 2), .ref (b + 4), .int (iI ((g : Int))), .int (iI ((v : Int))), .ref (b + 5), .ref (b + 10), .ref (b + 15), .ref (b + 17), .ref (b + 19)]) := (congrFun hu4 _).trans up_s
    have ff6 : u3 4 = qr ct 3 24 (gf) := (congrFun hu4 _).trans ((up_n (by omega)).trans hgr)
    have fr7 : ∀ j : Nat, (j ≠ 0) → u3 j = u j := fun j h0 => (congrFun hu4 j).trans ((up_n (by omega)).trans (fr0 j h0))
    refine lv_aload_n hx hb d_R_cut_15 rfl (lv_at hl 0 rfl) ?_
    refine lv_aload_n hx hb d_R_cut_16 rfl (lv_at hl 0 rfl) ?_
    refine w_get (C := "LevelledRing") (T := T_R) (M := 11) hx hb hts hinR hown hK hP (0) (by omega) ff5 rfl 5 (by decide) kk2 (fun _ h => h) rfl d_R_cut_17 ?_
    refine lv_iload_n hx hb d_R_cut_20 rfl (lv_at hl 1 rfl) ?_
    refine va_mmin hx hb (hml.trans hl.1.symm) hown kk3 kk4 kk5 kk6 (Nat.le_of_ble_eq_true rfl) (Nat.le_of_ble_eq_true rfl) (Nat.zero_le _) (Nat.zero_le _) d_R_cut_21 ?_
    refine x_i (y := iI ((min v g : Nat) : Int)) (by by_cases h : (g : Int) < v; (rw [if_pos ((iI_lt ⟨by omega, by omega⟩ ⟨by omega, by omega⟩).mpr h), Nat.min_eq_right (by omega)]); (rw [if_neg (fun e => h ((iI_lt ⟨by omega, by omega⟩ ⟨by omega, by omega⟩).mp e)), Nat.min_eq_left (by omega)])) ?_
    refine w_put (C := "LevelledRing") (T := T_R) (M := 11) (ty := .int) (v := .int (iI (((min v g : Nat) : Int)))) hx hb hts hinR ty_R tyok_R nm_R hown hK hP hS (0) (by omega) ff5 rfl 5 (by decide) kk2 (fun _ h => h) rfl (by decide +kernel) rfl rfl (Nat.le_of_ble_eq_true rfl) d_R_cut_24 (fun H locs hP hS => ?_)
    obtain ⟨u8, hu9, hP⟩ : ∃ zz : Nat → va_E, zz = va_up u3 0 (.inr (5, [.ref (b + 1), .ref (b + 21), .ref (b + 2), .ref (b + 4), .int (iI ((g : Int))), .int (iI (((min v g : Nat) : Int))), .ref (b + 5), .ref (b + 10), .ref (b + 15), .ref (b + 17), .ref (b + 19)])) ∧ va_P D vwCl (wl N b zz) H := ⟨_, rfl, hP⟩
    have ff10 : u8 0 = .inr (5, [.ref (b + 1), .ref (b + 21), .ref (b + 2), .ref (b + 4), .int (iI ((g : Int))), .int (iI (((min v g : Nat) : Int))), .ref (b + 5), .ref (b + 10), .ref (b + 15), .ref (b + 17), .ref (b + 19)]) := (congrFun hu9 _).trans up_s
    have ff11 : u8 4 = qr ct 3 24 (gf) := (congrFun hu9 _).trans ((up_n (by omega)).trans ff6)
    have fr12 : ∀ j : Nat, (j ≠ 0) → u8 j = u j := fun j h0 => (congrFun hu9 j).trans ((up_n (by omega)).trans (fr7 j h0))
    refine lv_iconst (v := iI (1)) hx hb d_R_cut_27 rfl ?_
    refine ret 1 u8 H locs 28 ls (Or.inr rfl) (Or.inl ⟨hxv, rfl, ⟨ff10, hSC.of fun j h1 h2 h3 h4 h5 => fr12 j (by omega), hSV.of fun j h1 h2 => fr12 j (by omega), ⟨gf, ff11, hgf⟩, hKS.of fun j h1 h2 => fr12 j (by omega), ?_⟩, fun j h1 => fr12 j (by omega)⟩) hP hS d_R_cut_28
    have hG2 := hGC.of (z := u8) hn24 (by omega) fun j h1 h2 => fr12 j (by omega)
    exact ⟨hG2.1, fun i hi => hG2.2.1 i (by have : i < g := hi; omega), fun i hi => hG2.2.2 i (by have : i < min v g := hi; omega)⟩
  · refine lv_iconst (v := iI (0)) hx hb d_R_cut_8 rfl ?_
    exact ret 0 u H locs 9 ls (Or.inl rfl) (Or.inr ⟨inb_z hc, rfl, rfl⟩) hP hS d_R_cut_9
abbrev rm_c_secret : Room := { frames := 3, cells := 0, slots := 0, locals := 72 }
set_option maxHeartbeats 4000000 in
set_option maxRecDepth 100000 in
/-- secret(x) -/
theorem c_secret (l : Launch) (D : va_G) (ct : Nat → ClassId) (st ke : Nat → Nat) (b N : Nat) (u : Nat → va_E) (hN : 236 ≤ N) (K : Ky) (n v : Nat) (msg : Int → Int) (G : Int → Gt) (V : Int → Val) (hC : CS ct b ke u K n v msg G V) (hI : PI n v msg G V) (hK1 : ∀ i : Int, -1 ≤ K.1 i ∧ K.1 i ≤ 1) (x : Int) (hx0 : r32 x) : Met l y_R_secret (w_R_secret) rm_c_secret (va_Pc [.ref (b + 0), .int (iI (x))] (fun U => ev D ct st ke b U ∧ va_P D vwCl (wl N b u) U.heap)) (va_Qi (fun (r : Int32) (z : Nat → va_E) => r = iI (if 0 ≤ x ∧ x < 8 then K.1 x else 0) ∧ u = z) (fun (z : Nat → va_E) t => va_P D vwCl (wl (N) b (z)) t.heap) (AA b)) 0 0 (AA b) := by
  refine M_i (cc := c9_R_secret) (maxL := 2) (by decide) rfl (Nat.le_of_ble_eq_true rfl) ?_
  intro p e s m args below meth c Q ls H locs hx hb hml hown hts hnm E hP hS hl ret
  have hl : lv_has ls 2 [(0, .ref (b + 0)), (1, .int (iI (x)))] := hl
  have hK := ev_K E
  have kk0 := hts (.fieldLink "LevelledRing" 66 "LevelledRing" "keys" "LLevelledRing$Keys;") (List.mem_cons_of_mem _ t_174)
  have hinR : ∀ w ∈ u_ws "LevelledRing" T_R 11, w ∈ (w_R_secret) := hin_R _
  have kk2 := hts (.fieldLink "LevelledRing" 176 "LevelledRing$Keys" "secret" "LLevelledRing$Poly;") (List.mem_cons_of_mem _ t_125)
  have hinK : ∀ w ∈ u_ws "LevelledRing$Keys" T_K 3, w ∈ (w_R_secret) := hin_K _
  have hn24 := hI.1
  have hvn := hI.2.1
  obtain ⟨hO, hSC, hSV, ⟨gf, hgr, hgf⟩, hKS, hGC⟩ := hC
  obtain ⟨ks0, ⟨ks1, gs, ks2, ks3⟩, -⟩ := hKS
  refine lv_iload_n hx hb d_R_secret_0 rfl (lv_at hl 1 rfl) ?_
  refine w_calli (va_runS (As := [.int (iI (x))]) (rest := []) ⟨hx, hb, hml, hown, hts⟩ (c_isC l D ct st ke b N u (x) hx0) (cwS 1 hts (gS t_211 t_212 t_1 t_213) rfl rfl rfl (by decide +kernel) ⟨Nat.le_of_ble_eq_true rfl, Nat.le_of_ble_eq_true rfl⟩) (pre_S E hP hS) rfl rfl hl.1 rfl (lv_room (Nat.le_of_ble_eq_true rfl)) d_R_secret_1 ⟨(Nat.le_of_ble_eq_true rfl), (Nat.le_of_ble_eq_true rfl)⟩) hS (fun r2 z1 H locs hz hP hS => ?_)
  obtain ⟨rfl, rfl⟩ := hz
  have hi01 := inb_01 (x) 8
  refine x_if_eq (tgt := 23) hx hb ⟨by omega, by omega⟩ d_R_secret_4 (by decide) (fun hc => ?_) (fun hc => ?_)
  · refine lv_iconst (v := iI (0)) hx hb d_R_secret_23 rfl ?_
    refine x_ie (y := if 0 ≤ x ∧ x < 8 then K.1 x else 0) (by rw [if_neg (inb_z hc)]) ?_
    exact ret _ u H locs 24 ls ⟨rfl, rfl⟩ hP hS d_R_secret_24
  · have hxv := inb_n hc
    refine lv_aload_n hx hb d_R_secret_7 rfl (lv_at hl 0 rfl) ?_
    refine w_get (C := "LevelledRing") (T := T_R) (M := 11) hx hb hts hinR hown hK hP (0) (by omega) hO rfl 1 (by decide) kk0 (fun _ h => h) rfl d_R_secret_8 ?_
    refine w_get (C := "LevelledRing$Keys") (T := T_K) (M := 3) hx hb hts hinK hown hK hP (21) (by omega) ks0 rfl 0 (by decide) kk2 (fun _ h => h) rfl d_R_secret_11 ?_
    refine lv_iload_n hx hb d_R_secret_14 rfl (lv_at hl 1 rfl) ?_
    refine lv_iconst (v := iI (0)) hx hb d_R_secret_15 rfl ?_
    refine w_calll (va_runV (As := [.int (iI (x)), .int (iI (0))]) (rest := []) ⟨hx, hb, hml, hown, hts⟩ (c_centredC l D ct st ke b N u 22 32 gs (by omega) (by decide) ks1 ks2 x 0 hxv.1 hxv.2 (by decide) (by decide) (by decide) K.1 (ks3.down (by decide))) (cwV 2 hts (gV t_421 t_422 t_423 t_3 t_424) rfl rfl rfl (by decide +kernel) ⟨Nat.le_of_ble_eq_true rfl, Nat.le_of_ble_eq_true rfl⟩) (pre_V E hP hS (22) (by omega) ks1 rfl) rfl rfl hl.1 rfl (lv_room (Nat.le_of_ble_eq_true rfl)) d_R_secret_16 ⟨(Nat.le_of_ble_eq_true rfl), (Nat.le_of_ble_eq_true rfl)⟩) hS (fun r4 z3 H locs hz hP hS => ?_)
    obtain ⟨rfl, rfl⟩ := hz
    refine x_l2i hx hb d_R_secret_19 ?_
    refine lv_goto (tgt := 24) hx hb d_R_secret_20 (by decide) ?_
    refine x_ie (y := if 0 ≤ x ∧ x < 8 then K.1 x else 0) (by rw [if_pos hxv]; have h9 := hK1 x; show cen (K.1 x % 32369) 32369 = K.1 x; unfold cen; split <;> omega) ?_
    exact ret _ u H locs 24 ls ⟨rfl, rfl⟩ hP hS d_R_secret_24
abbrev rm_c_part : Room := { frames := 2, cells := 0, slots := 0, locals := 50 }
set_option maxHeartbeats 4000000 in
set_option maxRecDepth 100000 in
/-- part(x, y, t) -/
theorem c_part (l : Launch) (D : va_G) (ct : Nat → ClassId) (st ke : Nat → Nat) (b N : Nat) (u : Nat → va_E) (hN : 236 ≤ N) (K : Ky) (n v : Nat) (msg : Int → Int) (G : Int → Gt) (V : Int → Val) (hC : CS ct b ke u K n v msg G V) (hI : PI n v msg G V) (x y t : Int) (hx0 : r32 x) (hy0 : r32 y) (ht0 : r32 t) : Met l y_R_part (w_R_part) rm_c_part (va_Pc [.ref (b + 0), .int (iI (x)), .int (iI (y)), .int (iI (t))] (fun U => ev D ct st ke b U ∧ va_P D vwCl (wl N b u) U.heap)) (va_Ql (fun (r : Int64) (z : Nat → va_E) => r = lI (if (0 ≤ x ∧ x < v) ∧ (0 ≤ y ∧ y ≤ 1) ∧ 0 ≤ t ∧ t < 8 then (if y = 0 then (V x).2.2.1 t else (V x).2.2.2 t) else -1) ∧ u = z) (fun (z : Nat → va_E) t => va_P D vwCl (wl (N) b (z)) t.heap) (AA b)) 0 0 (AA b) := by
  refine M_l (cc := c9_R_part) (maxL := 6) (by decide) rfl (Nat.le_of_ble_eq_true rfl) ?_
  intro p e s m args below meth c Q ls H locs hx hb hml hown hts hnm E hP hS hl ret
  have hl : lv_has ls 6 [(0, .ref (b + 0)), (1, .int (iI (x))), (2, .int (iI (y))), (3, .int (iI (t)))] := hl
  have hK := ev_K E
  have kk0 := hts (.constantLong "LevelledRing" 149 (-1)) (List.mem_cons_of_mem _ t_412)
  have kk1 := hts (.fieldLink "LevelledRing" 27 "LevelledRing" "gates" "[LLevelledRing$Gate;") (List.mem_cons_of_mem _ t_176)
  have hinR : ∀ w ∈ u_ws "LevelledRing" T_R 11, w ∈ (w_R_part) := hin_R _
  have kk3 := hts (.fieldLink "LevelledRing" 139 "LevelledRing$Gate" "value" "LLevelledRing$Value;") (List.mem_cons_of_mem _ t_159)
  have hinG : ∀ w ∈ u_ws "LevelledRing$Gate" T_G 6, w ∈ (w_R_part) := hin_G _
  have kk5 := hts (.fieldLink "LevelledRing" 170 "LevelledRing$Value" "c1" "LLevelledRing$Poly;") (List.mem_cons_of_mem _ t_63)
  have hinV : ∀ w ∈ u_ws "LevelledRing$Value" T_V 4, w ∈ (w_R_part) := hin_V _
  have kk7 := hts (.fieldLink "LevelledRing" 142 "LevelledRing$Value" "level" "I") (List.mem_cons_of_mem _ t_57)
  have kk8 := hts (.fieldLink "LevelledRing" 167 "LevelledRing$Value" "c0" "LLevelledRing$Poly;") (List.mem_cons_of_mem _ t_61)
  have hn24 := hI.1
  have hvn := hI.2.1
  obtain ⟨hO, hSC, hSV, ⟨gf, hgr, hgf⟩, hKS, hGC⟩ := hC
  refine lv_aload_n hx hb d_R_part_0 rfl (lv_at hl 0 rfl) ?_
  refine lv_iload_n hx hb d_R_part_1 rfl (lv_at hl 1 rfl) ?_
  refine w_calli (va_runV (As := [.int (iI (x))]) (rest := []) ⟨hx, hb, hml, hown, hts⟩ (c_hasValue l D ct st ke b N u (by omega) n v (by omega) (by omega) hO (x) hx0) (cwV 1 hts (gV t_404 t_406 (tb_sel ((y_R_hasValue), 11) (List.mem_of_getElem? (i := 12) (by decide +kernel))) t_1 t_407) rfl rfl rfl (by decide +kernel) ⟨Nat.le_of_ble_eq_true rfl, Nat.le_of_ble_eq_true rfl⟩) (pre_V E hP hS (0) (by omega) hO rfl) rfl rfl hl.1 rfl (lv_room (Nat.le_of_ble_eq_true rfl)) d_R_part_2 ⟨(Nat.le_of_ble_eq_true rfl), (Nat.le_of_ble_eq_true rfl)⟩) hS (fun r2 z1 H locs hz hP hS => ?_)
  obtain ⟨rfl, rfl⟩ := hz
  have hi01 := inb_01 (x) (v : Int)
  refine x_if_eq (tgt := 24) hx hb ⟨by omega, by omega⟩ d_R_part_5 (by decide) (fun hc => ?_) (fun hc => ?_)
  · refine lv_ldc2 hx hb hown kk0 d_R_part_24 ?_
    refine x_l (y := lI (-1)) (by decide +kernel) ?_
    refine x_le (y := if (0 ≤ x ∧ x < v) ∧ (0 ≤ y ∧ y ≤ 1) ∧ 0 ≤ t ∧ t < 8 then (if y = 0 then (V x).2.2.1 t else (V x).2.2.2 t) else -1) (by rw [if_neg (fun h => inb_z hc h.1)]) ?_
    exact ret _ u H locs 27 ls ⟨rfl, rfl⟩ hP hS d_R_part_27
  · have hxv := inb_n hc
    refine lv_iload_n hx hb d_R_part_8 rfl (lv_at hl 2 rfl) ?_
    refine x_if_lt (tgt := 24) hx hb hy0 d_R_part_9 (by decide) (fun hc => ?_) (fun hc => ?_)
    · refine lv_ldc2 hx hb hown kk0 d_R_part_24 ?_
      refine x_l (y := lI (-1)) (by decide +kernel) ?_
      refine x_le (y := if (0 ≤ x ∧ x < v) ∧ (0 ≤ y ∧ y ≤ 1) ∧ 0 ≤ t ∧ t < 8 then (if y = 0 then (V x).2.2.1 t else (V x).2.2.2 t) else -1) (by rw [if_neg (fun h => by have := h.2.1; omega)]) ?_
      exact ret _ u H locs 27 ls ⟨rfl, rfl⟩ hP hS d_R_part_27
    · refine lv_iload_n hx hb d_R_part_12 rfl (lv_at hl 2 rfl) ?_
      refine lv_iconst (v := iI (1)) hx hb d_R_part_13 rfl ?_
      refine x_icmp_gt (tgt := 24) hx hb hy0 ⟨by omega, by omega⟩ d_R_part_14 (by decide) (fun hc => ?_) (fun hc => ?_)
      · refine lv_ldc2 hx hb hown kk0 d_R_part_24 ?_
        refine x_l (y := lI (-1)) (by decide +kernel) ?_
        refine x_le (y := if (0 ≤ x ∧ x < v) ∧ (0 ≤ y ∧ y ≤ 1) ∧ 0 ≤ t ∧ t < 8 then (if y = 0 then (V x).2.2.1 t else (V x).2.2.2 t) else -1) (by rw [if_neg (fun h => by have := h.2.1; omega)]) ?_
        exact ret _ u H locs 27 ls ⟨rfl, rfl⟩ hP hS d_R_part_27
      · refine lv_iload_n hx hb d_R_part_17 rfl (lv_at hl 3 rfl) ?_
        refine w_calli (va_runS (As := [.int (iI (t))]) (rest := []) ⟨hx, hb, hml, hown, hts⟩ (c_isC l D ct st ke b N u (t) ht0) (cwS 1 hts (gS t_211 t_212 t_1 t_213) rfl rfl rfl (by decide +kernel) ⟨Nat.le_of_ble_eq_true rfl, Nat.le_of_ble_eq_true rfl⟩) (pre_S E hP hS) rfl rfl hl.1 rfl (lv_room (Nat.le_of_ble_eq_true rfl)) d_R_part_18 ⟨(Nat.le_of_ble_eq_true rfl), (Nat.le_of_ble_eq_true rfl)⟩) hS (fun r4 z3 H locs hz hP hS => ?_)
        obtain ⟨rfl, rfl⟩ := hz
        have hi01 := inb_01 (t) 8
        refine x_if_ne (tgt := 28) hx hb ⟨by omega, by omega⟩ d_R_part_21 (by decide) (fun hc => ?_) (fun hc => ?_)
        · have htv := inb_n hc
          obtain ⟨g, rfl⟩ := Int.eq_ofNat_of_zero_le hxv.1
          obtain ⟨hg0, hg1, gp, hg2, hg3⟩ := hGC.2.1 g (by omega)
          have hv := hGC.2.2 g (by omega)
          rw [show 47 + 8 * g = 44 + 8 * g + 3 by omega] at hv
          obtain ⟨v0, v1, hVR, hR0, hR1⟩ := hv
          have okv := hI.2.2.2.2 g (by omega)
          have okl0 := okv.1.1
          have okl3 := okv.1.2.1
          refine lv_aload_n hx hb d_R_part_28 rfl (lv_at hl 0 rfl) ?_
          refine w_get (C := "LevelledRing") (T := T_R) (M := 11) hx hb hts hinR hown hK hP (0) (by omega) hO rfl 3 (by decide) kk1 (fun _ h => h) rfl d_R_part_29 ?_
          refine lv_iload_n hx hb d_R_part_32 rfl (lv_at hl 1 rfl) ?_
          refine w_aald (r := b + (44 + 8 * g)) hx hb hK hP (4) (by omega) 3 hgr rfl (by omega) (by omega) (by decide) (hgf g (by omega)) d_R_part_33 ?_
          refine w_get (C := "LevelledRing$Gate") (T := T_G) (M := 6) hx hb hts hinG hown hK hP (44 + 8 * g) (by omega) hg0 rfl 5 (by decide) kk3 (fun _ h => h) rfl d_R_part_34 ?_
          refine lv_astore (lv' := [(4, .ref (b + (44 + 8 * g + 3))), (0, .ref (b + 0)), (1, .int (iI ((g : Int)))), (2, .int (iI (y))), (3, .int (iI (t)))]) hx hb d_R_part_37 hl (by decide) rfl (fun ls hl => ?_)
          refine lv_iload_n hx hb d_R_part_39 rfl (lv_at hl 3 rfl) ?_
          refine x_if_ne (tgt := 51) hx hb hy0 d_R_part_40 (by decide) (fun hc => ?_) (fun hc => ?_)
          · refine lv_aload hx hb d_R_part_51 (lv_at hl 0 rfl) ?_
            refine w_get (C := "LevelledRing$Value") (T := T_V) (M := 4) hx hb hts hinV hown hK hP (44 + 8 * g + 3) (by omega) hVR.1 rfl 3 (by decide) kk5 (fun _ h => h) rfl d_R_part_53 ?_
            refine lv_astore (lv' := [(5, .ref (b + (44 + 8 * g + 6))), (4, .ref (b + (44 + 8 * g + 3))), (0, .ref (b + 0)), (1, .int (iI ((g : Int)))), (2, .int (iI (y))), (3, .int (iI (t)))]) hx hb d_R_part_56 hl (by decide) rfl (fun ls hl => ?_)
            refine lv_aload hx hb d_R_part_58 (lv_at hl 0 rfl) ?_
            refine lv_iload_n hx hb d_R_part_60 rfl (lv_at hl 5 rfl) ?_
            refine lv_aload hx hb d_R_part_61 (lv_at hl 1 rfl) ?_
            refine w_get (C := "LevelledRing$Value") (T := T_V) (M := 4) hx hb hts hinV hown hK hP (44 + 8 * g + 3) (by omega) hVR.1 rfl 0 (by decide) kk7 (fun _ h => h) rfl d_R_part_63 ?_
            refine w_calll (va_runV (As := [.int (iI (t)), .int (iI ((V g).1))]) (rest := []) ⟨hx, hb, hml, hown, hts⟩ (c_whole l D ct st ke b N u (44 + 8 * g + 6) 32 v1 (by omega) (by decide) hVR.2.2.2.1 hVR.2.2.2.2 t (V g).1 htv.1 htv.2 okl0 okl3 (by omega) (V g).2.2.2 hR1) (cwV 2 hts (gV t_442 t_426 t_427 t_3 t_428) rfl rfl rfl (by decide +kernel) ⟨Nat.le_of_ble_eq_true rfl, Nat.le_of_ble_eq_true rfl⟩) (pre_V E hP hS (44 + 8 * g + 6) (by omega) hVR.2.2.2.1 rfl) rfl rfl hl.1 rfl (lv_room (Nat.le_of_ble_eq_true rfl)) d_R_part_66 ⟨(Nat.le_of_ble_eq_true rfl), (Nat.le_of_ble_eq_true rfl)⟩) hS (fun r6 z5 H locs hz hP hS => ?_)
            obtain ⟨rfl, rfl⟩ := hz
            refine x_le (y := if (0 ≤ (g : Int) ∧ (g : Int) < v) ∧ (0 ≤ y ∧ y ≤ 1) ∧ 0 ≤ t ∧ t < 8 then (if y = 0 then (V (g : Int)).2.2.1 t else (V (g : Int)).2.2.2 t) else -1) (by rw [if_pos ⟨hxv, by omega, htv⟩, if_neg (by omega)]; exact Int.emod_eq_of_lt (okv.2.2 t htv.1 htv.2).1 (okv.2.2 t htv.1 htv.2).2) ?_
            exact ret _ u H locs 69 ls ⟨rfl, rfl⟩ hP hS d_R_part_69
          · refine lv_aload hx hb d_R_part_43 (lv_at hl 0 rfl) ?_
            refine w_get (C := "LevelledRing$Value") (T := T_V) (M := 4) hx hb hts hinV hown hK hP (44 + 8 * g + 3) (by omega) hVR.1 rfl 2 (by decide) kk8 (fun _ h => h) rfl d_R_part_45 ?_
            refine lv_goto (tgt := 56) hx hb d_R_part_48 (by decide) ?_
            refine lv_astore (lv' := [(5, .ref (b + (44 + 8 * g + 4))), (4, .ref (b + (44 + 8 * g + 3))), (0, .ref (b + 0)), (1, .int (iI ((g : Int)))), (2, .int (iI (y))), (3, .int (iI (t)))]) hx hb d_R_part_56 hl (by decide) rfl (fun ls hl => ?_)
            refine lv_aload hx hb d_R_part_58 (lv_at hl 0 rfl) ?_
            refine lv_iload_n hx hb d_R_part_60 rfl (lv_at hl 5 rfl) ?_
            refine lv_aload hx hb d_R_part_61 (lv_at hl 1 rfl) ?_
            refine w_get (C := "LevelledRing$Value") (T := T_V) (M := 4) hx hb hts hinV hown hK hP (44 + 8 * g + 3) (by omega) hVR.1 rfl 0 (by decide) kk7 (fun _ h => h) rfl d_R_part_63 ?_
            refine w_calll (va_runV (As := [.int (iI (t)), .int (iI ((V g).1))]) (rest := []) ⟨hx, hb, hml, hown, hts⟩ (c_whole l D ct st ke b N u (44 + 8 * g + 4) 32 v0 (by omega) (by decide) hVR.2.1 hVR.2.2.1 t (V g).1 htv.1 htv.2 okl0 okl3 (by omega) (V g).2.2.1 hR0) (cwV 2 hts (gV t_442 t_426 t_427 t_3 t_428) rfl rfl rfl (by decide +kernel) ⟨Nat.le_of_ble_eq_true rfl, Nat.le_of_ble_eq_true rfl⟩) (pre_V E hP hS (44 + 8 * g + 4) (by omega) hVR.2.1 rfl) rfl rfl hl.1 rfl (lv_room (Nat.le_of_ble_eq_true rfl)) d_R_part_66 ⟨(Nat.le_of_ble_eq_true rfl), (Nat.le_of_ble_eq_true rfl)⟩) hS (fun r8 z7 H locs hz hP hS => ?_)
            obtain ⟨rfl, rfl⟩ := hz
            refine x_le (y := if (0 ≤ (g : Int) ∧ (g : Int) < v) ∧ (0 ≤ y ∧ y ≤ 1) ∧ 0 ≤ t ∧ t < 8 then (if y = 0 then (V (g : Int)).2.2.1 t else (V (g : Int)).2.2.2 t) else -1) (by rw [if_pos ⟨hxv, by omega, htv⟩, if_pos (by omega)]; exact Int.emod_eq_of_lt (okv.2.1 t htv.1 htv.2).1 (okv.2.1 t htv.1 htv.2).2) ?_
            exact ret _ u H locs 69 ls ⟨rfl, rfl⟩ hP hS d_R_part_69
        · refine lv_ldc2 hx hb hown kk0 d_R_part_24 ?_
          refine x_l (y := lI (-1)) (by decide +kernel) ?_
          refine x_le (y := if (0 ≤ x ∧ x < v) ∧ (0 ≤ y ∧ y ≤ 1) ∧ 0 ≤ t ∧ t < 8 then (if y = 0 then (V x).2.2.1 t else (V x).2.2.2 t) else -1) (by rw [if_neg (fun h => inb_z hc h.2.2)]) ?_
          exact ret _ u H locs 27 ls ⟨rfl, rfl⟩ hP hS d_R_part_27
end
section
-- opening a value
def opV (S : Int → Int) (v : Val) (i : Int) : Int := cen ((v.2.2.1 i + nc v.2.2.2 S i) % lQ v.1) (lQ v.1)
def ab (x : Int) : Int := if x < 0 then -x else x
def mxs (f : Int → Int) : Nat → Int
  | 0 => 0
  | n + 1 => if mxs f n < ab (f n) then ab (f n) else mxs f n
theorem mxs_step (f : Int → Int) {k : Int} (h : 0 ≤ k) : mxs f (k + 1).toNat = if mxs f k.toNat < ab (f k) then ab (f k) else mxs f k.toNat := by
  obtain ⟨n, rfl⟩ := Int.eq_ofNat_of_zero_le h
  have e : ((n : Int) + 1).toNat = n + 1 := by omega
  rw [e, Int.toNat_natCast]
  rfl
theorem opV_bd (S : Int → Int) (v : Val) (i : Int) : -4611686018427387904 ≤ opV S v i ∧ opV S v i ≤ 4611686018427387903 := by
  have h := lQ_bd v.1
  exact cen_bd (Int.emod_nonneg _ (by omega)) (Int.emod_lt_of_pos _ (by omega)) (by omega)
theorem ab_bd (S : Int → Int) (v : Val) (i : Int) : 0 ≤ ab (opV S v i) ∧ ab (opV S v i) ≤ 4611686018427387904 := by
  have h := opV_bd S v i
  unfold ab
  split <;> omega
theorem mxs_bd (S : Int → Int) (v : Val) : ∀ n : Nat, 0 ≤ mxs (opV S v) n ∧ mxs (opV S v) n ≤ 4611686018427387904
  | 0 => by
    show (0 : Int) ≤ 0 ∧ (0 : Int) ≤ 4611686018427387904
    omega
  | n + 1 => by
    have h := mxs_bd S v n
    have h2 := ab_bd S v n
    have e : mxs (opV S v) (n + 1) = if mxs (opV S v) n < ab (opV S v n) then ab (opV S v n) else mxs (opV S v) n := rfl
    rw [e]
    split <;> omega
-- meters
theorem sn_nn {f : Int → Int} : ∀ n : Nat, (∀ j : Int, 0 ≤ j → j < n → 0 ≤ f j ∧ f j ≤ 32369) → 0 ≤ sn f n ∧ sn f n ≤ 32369 * (n : Int)
  | 0, _ => by
    show (0 : Int) ≤ 0 ∧ (0 : Int) ≤ 32369 * ((0 : Nat) : Int)
    omega
  | n + 1, h => by
    have h1 := sn_nn n fun j h0 h1 => h j h0 (by omega)
    have h2 := h n (by omega) (by omega)
    show 0 ≤ sn f n + f n ∧ sn f n + f n ≤ 32369 * ((n + 1 : Nat) : Int)
    omega
theorem gdg_bd {l : Int} (h0 : 0 ≤ l) (h3 : l ≤ 3) : 0 ≤ gdg l ∧ gdg l ≤ 130000 := by
  have h := sn_nn (f := fun k => lq k - 1) (l + 1).toNat (fun j _ _ => by have := lq_bd j; show 0 ≤ lq j - 1 ∧ lq j - 1 ≤ 32369; omega)
  unfold gdg
  omega
/-- quiet enough for a product -/
def qu (p : V2) : Prop := okV p.1 ∧ okV p.2 ∧ p.1.1 = p.2.1 ∧ (p.1.1 = 0 ∨ (p.1.2.1 ≤ 1000 ∧ p.2.2.1 ≤ 1000))
theorem qu_bd {p : V2} (h : qu p) : 0 ≤ pmt p ∧ pmt p ≤ 100000000000 := by
  obtain ⟨h1, h2, h3, h4⟩ := h
  have hg := gdg_bd h1.1 h1.2.1
  have m0 := h1.2.2.1
  have n0 := h2.2.2.1
  have hm : p.1.2.1 ≤ 20000 ∧ p.2.2.1 ≤ 20000 := by
    rcases h4 with h4 | h4
    · have a := h1.2.2.2
      have c := h2.2.2.2
      rw [← h3] at c
      rw [h4] at a c
      have e : lQ 0 = 32369 := rfl
      rw [e] at a c
      omega
    · omega
  unfold pmt
  have hp := mul_bd m0 (show p.1.2.1 ≤ 32369 by omega) n0 (show p.2.2.1 ≤ 32369 by omega)
  rw [Int.mul_assoc]
  omega
theorem lI_0 : (0 : Int64) = lI 0 := by decide
theorem abs_lI {x : Int} (h : r64 x) : (if (0 : Int64) < lI x then lI x else -lI x) = lI (ab x) := by
  rw [lI_0]
  unfold ab
  by_cases h1 : 0 < x
  · rw [if_pos ((lI_lt ⟨by decide, by decide⟩ h).mpr h1), if_neg (by omega)]
  · rw [if_neg (fun e => h1 ((lI_lt ⟨by decide, by decide⟩ h).mp e)), lI_neg]
    by_cases h2 : x < 0
    · rw [if_pos h2]
    · rw [if_neg h2, show x = 0 by omega]
      rfl
theorem max_lI {x y : Int} (hx : r64 x) (hy : r64 y) : (if lI y < lI x then lI x else lI y) = lI (if x < y then y else x) := by
  by_cases h : x < y
  · rw [if_pos h, if_neg (fun e => by have := (lI_lt hy hx).mp e; omega)]
  · rw [if_neg h]
    by_cases h2 : y < x
    · rw [if_pos ((lI_lt hy hx).mpr h2)]
    · rw [if_neg (fun e => h2 ((lI_lt hy hx).mp e)), show y = x by omega]
end
section
abbrev rm_c_openValue : Room := { frames := 2, cells := 0, slots := 0, locals := 61 }
set_option maxHeartbeats 4000000 in
set_option maxRecDepth 100000 in
/-- openValue(value) -/
theorem c_openValue (l : Launch) (D : va_G) (ct : Nat → ClassId) (st ke : Nat → Nat) (b N : Nat) (u : Nat → va_E) (hN : 236 ≤ N) (K : Ky) (nn vv : Int) (hO : u 0 = ob b nn vv) (hKS : KS ct b u K) (hP19 : PS ct b u 19) (k : Nat) (hk44 : 44 ≤ k) (hk : k + 4 < N) (v : Val) (hv : okV v) (hV : VV ct b u k v) : Met l y_R_openValue (w_R_openValue) rm_c_openValue (va_Pc [.ref (b + 0), .ref (b + k)] (fun U => ev D ct st ke b U ∧ va_P D vwCl (wl N b u) U.heap)) (va_Qv (fun z : Nat → va_E => ∃ g2 : Int → Int, z 20 = ir ct 32 g2 ∧ Rep g2 0 v.1 (fun i => v.2.2.1 i + nc v.2.2.2 K.1 i) ∧ ∀ j : Nat, j ≠ 20 → z j = u j) (fun (z : Nat → va_E) t => va_P D vwCl (wl (N) b (z)) t.heap) (AA b)) 0 0 (AA b) := by
  refine M_v (cc := c9_R_openValue) (maxL := 2) (by decide) rfl (Nat.le_of_ble_eq_true rfl) ?_
  intro p e s m args below meth c Q ls H locs hx hb hml hown hts hnm E hP hS hl ret
  have hl : lv_has ls 2 [(0, .ref (b + 0)), (1, .ref (b + k))] := hl
  have hK := ev_K E
  have kk0 := hts (.fieldLink "LevelledRing" 54 "LevelledRing" "opened" "LLevelledRing$Poly;") (List.mem_cons_of_mem _ t_183)
  have hinR : ∀ w ∈ u_ws "LevelledRing" T_R 11, w ∈ (w_R_openValue) := hin_R _
  have kk2 := hts (.fieldLink "LevelledRing" 167 "LevelledRing$Value" "c0" "LLevelledRing$Poly;") (List.mem_cons_of_mem _ t_61)
  have hinV : ∀ w ∈ u_ws "LevelledRing$Value" T_V 4, w ∈ (w_R_openValue) := hin_V _
  have kk4 := hts (.fieldLink "LevelledRing" 170 "LevelledRing$Value" "c1" "LLevelledRing$Poly;") (List.mem_cons_of_mem _ t_63)
  have kk5 := hts (.fieldLink "LevelledRing" 66 "LevelledRing" "keys" "LLevelledRing$Keys;") (List.mem_cons_of_mem _ t_174)
  have kk6 := hts (.fieldLink "LevelledRing" 176 "LevelledRing$Keys" "secret" "LLevelledRing$Poly;") (List.mem_cons_of_mem _ t_125)
  have hinK : ∀ w ∈ u_ws "LevelledRing$Keys" T_K 3, w ∈ (w_R_openValue) := hin_K _
  have kk8 := hts (.fieldLink "LevelledRing" 142 "LevelledRing$Value" "level" "I") (List.mem_cons_of_mem _ t_57)
  have fr0 : ∀ j : Nat, (j ≠ 20) → u j = u j := fun _ _ => rfl
  have hKS9 := hKS
  obtain ⟨ks0, ⟨ks1, gs, ks2, ks3⟩, ⟨fa, ka1, ka2⟩, ⟨fb, kb1, kb2⟩, kab⟩ := hKS
  obtain ⟨oa, og, ob⟩ := hP19
  obtain ⟨v0, v1, vV, vR0, vR1⟩ := hV
  have l0 := hv.1
  have l3 := hv.2.1
  refine lv_aload_n hx hb d_R_openValue_0 rfl (lv_at hl 0 rfl) ?_
  refine w_get (C := "LevelledRing") (T := T_R) (M := 11) hx hb hts hinR hown hK hP (0) (by omega) hO rfl 10 (by decide) kk0 (fun _ h => h) rfl d_R_openValue_1 ?_
  refine lv_aload_n hx hb d_R_openValue_4 rfl (lv_at hl 1 rfl) ?_
  refine w_get (C := "LevelledRing$Value") (T := T_V) (M := 4) hx hb hts hinV hown hK hP (k) (by omega) vV.1 rfl 2 (by decide) kk2 (fun _ h => h) rfl d_R_openValue_5 ?_
  refine w_callv (va_runV (As := [.ref (b + (k + 1))]) (rest := []) ⟨hx, hb, hml, hown, hts⟩ (c_copyFrom l D ct st ke b N u 19 0 32 og (by omega) (by decide) oa ob (k + 1) v0 (by omega) vV.2.1 vV.2.2.1) (cwV 1 hts (gV t_224 t_225 t_226 t_3 t_227) rfl rfl rfl (by decide +kernel) ⟨Nat.le_of_ble_eq_true rfl, Nat.le_of_ble_eq_true rfl⟩) (pre_V E hP hS (19) (by omega) oa rfl) rfl rfl hl.1 rfl (lv_room (Nat.le_of_ble_eq_true rfl)) d_R_openValue_8 ⟨(Nat.le_of_ble_eq_true rfl), (Nat.le_of_ble_eq_true rfl)⟩) hS (fun z1 H locs hz hP hS => ?_)
  obtain ⟨cg, c1, c2, c3⟩ := hz
  have ff3 : z1 0 = .inr (5, [.ref (b + 1), .ref (b + 21), .ref (b + 2), .ref (b + 4), .int (iI (nn)), .int (iI (vv)), .ref (b + 5), .ref (b + 10), .ref (b + 15), .ref (b + 17), .ref (b + 19)]) := (c3 0 (by omega)).trans hO
  have ff4 : z1 21 = .inr (2, [.ref (b + 22), .ref (b + 24), .ref (b + 25)]) := (c3 21 (by omega)).trans ks0
  have ff5 : z1 22 = .inr (3, [.int (iI (0)), .ref (b + 23)]) := (c3 22 (by omega)).trans ks1
  have ff6 : z1 23 = ir ct 32 (gs) := (c3 23 (by omega)).trans ks2
  have ff7 : z1 24 = qr ct 4 4 (fa) := (c3 24 (by omega)).trans ka1
  have ff8 : z1 25 = qr ct 4 4 (fb) := (c3 25 (by omega)).trans kb1
  have ff9 : z1 19 = .inr (3, [.int (iI (0)), .ref (b + 20)]) := (c3 19 (by omega)).trans oa
  have ff10 : z1 k = .inr (4, [.int (iI (v.1)), .long (lI (v.2.1)), .ref (b + (k + 1)), .ref (b + (k + 3))]) := (c3 k (by omega)).trans vV.1
  have ff11 : z1 (k + 1) = .inr (3, [.int (iI (0)), .ref (b + (k + 2))]) := (c3 (k + 1) (by omega)).trans vV.2.1
  have ff12 : z1 (k + 2) = ir ct 32 (v0) := (c3 (k + 2) (by omega)).trans vV.2.2.1
  have ff13 : z1 (k + 3) = .inr (3, [.int (iI (0)), .ref (b + (k + 4))]) := (c3 (k + 3) (by omega)).trans vV.2.2.2.1
  have ff14 : z1 (k + 4) = ir ct 32 (v1) := (c3 (k + 4) (by omega)).trans vV.2.2.2.2
  have fr15 : ∀ j : Nat, (j ≠ 20) → z1 j = u j := fun j h0 => (c3 j (by omega)).trans (fr0 j h0)
  refine lv_aload_n hx hb d_R_openValue_11 rfl (lv_at hl 0 rfl) ?_
  refine w_get (C := "LevelledRing") (T := T_R) (M := 11) hx hb hts hinR hown hK hP (0) (by omega) ff3 rfl 10 (by decide) kk0 (fun _ h => h) rfl d_R_openValue_12 ?_
  refine lv_iconst (v := iI (1)) hx hb d_R_openValue_15 rfl ?_
  refine lv_aload_n hx hb d_R_openValue_16 rfl (lv_at hl 1 rfl) ?_
  refine w_get (C := "LevelledRing$Value") (T := T_V) (M := 4) hx hb hts hinV hown hK hP (k) (by omega) ff10 rfl 3 (by decide) kk4 (fun _ h => h) rfl d_R_openValue_17 ?_
  refine lv_aload_n hx hb d_R_openValue_20 rfl (lv_at hl 0 rfl) ?_
  refine w_get (C := "LevelledRing") (T := T_R) (M := 11) hx hb hts hinR hown hK hP (0) (by omega) ff3 rfl 1 (by decide) kk5 (fun _ h => h) rfl d_R_openValue_21 ?_
  refine w_get (C := "LevelledRing$Keys") (T := T_K) (M := 3) hx hb hts hinK hown hK hP (21) (by omega) ff4 rfl 0 (by decide) kk6 (fun _ h => h) rfl d_R_openValue_24 ?_
  refine lv_aload_n hx hb d_R_openValue_27 rfl (lv_at hl 1 rfl) ?_
  refine w_get (C := "LevelledRing$Value") (T := T_V) (M := 4) hx hb hts hinV hown hK hP (k) (by omega) ff10 rfl 0 (by decide) kk8 (fun _ h => h) rfl d_R_openValue_28 ?_
  refine w_callv (va_runV (As := [.int (iI (1)), .ref (b + (k + 3)), .ref (b + 22), .int (iI (v.1))]) (rest := []) ⟨hx, hb, hml, hown, hts⟩ (c_addProduct l D ct st ke b N z1 19 0 32 cg (by omega) (by decide) ff9 c1 v.1 (by omega) (by omega) (by omega) (Or.inl rfl) (k + 3) 32 v1 (by omega) (by decide) (by omega) (by omega) ff13 ff14 22 32 gs (by omega) (by decide) (by omega) (by omega) ff5 ff6 1 (Or.inl rfl) (v.2.2.1) (v.2.2.2) (K.1) (vR0.of fun j h0 h1 => c2 j h0 (by omega)) vR1 (ks3.down l3)) (cwV 4 hts (gV t_271 t_102 t_103 t_3 t_104) rfl rfl rfl (by decide +kernel) ⟨Nat.le_of_ble_eq_true rfl, Nat.le_of_ble_eq_true rfl⟩) (pre_V E hP hS (19) (by omega) ff9 rfl) rfl rfl hl.1 rfl (lv_room (Nat.le_of_ble_eq_true rfl)) d_R_openValue_31 ⟨(Nat.le_of_ble_eq_true rfl), (Nat.le_of_ble_eq_true rfl)⟩) hS (fun z16 H locs hz hP hS => ?_)
  obtain ⟨dg, d1, d2, d3⟩ := hz
  have ff18 : z16 0 = .inr (5, [.ref (b + 1), .ref (b + 21), .ref (b + 2), .ref (b + 4), .int (iI (nn)), .int (iI (vv)), .ref (b + 5), .ref (b + 10), .ref (b + 15), .ref (b + 17), .ref (b + 19)]) := (d3 0 (by omega)).trans ff3
  have ff19 : z16 21 = .inr (2, [.ref (b + 22), .ref (b + 24), .ref (b + 25)]) := (d3 21 (by omega)).trans ff4
  have ff20 : z16 22 = .inr (3, [.int (iI (0)), .ref (b + 23)]) := (d3 22 (by omega)).trans ff5
  have ff21 : z16 23 = ir ct 32 (gs) := (d3 23 (by omega)).trans ff6
  have ff22 : z16 24 = qr ct 4 4 (fa) := (d3 24 (by omega)).trans ff7
  have ff23 : z16 25 = qr ct 4 4 (fb) := (d3 25 (by omega)).trans ff8
  have ff24 : z16 19 = .inr (3, [.int (iI (0)), .ref (b + 20)]) := (d3 19 (by omega)).trans ff9
  have ff25 : z16 k = .inr (4, [.int (iI (v.1)), .long (lI (v.2.1)), .ref (b + (k + 1)), .ref (b + (k + 3))]) := (d3 k (by omega)).trans ff10
  have ff26 : z16 (k + 1) = .inr (3, [.int (iI (0)), .ref (b + (k + 2))]) := (d3 (k + 1) (by omega)).trans ff11
  have ff27 : z16 (k + 2) = ir ct 32 (v0) := (d3 (k + 2) (by omega)).trans ff12
  have ff28 : z16 (k + 3) = .inr (3, [.int (iI (0)), .ref (b + (k + 4))]) := (d3 (k + 3) (by omega)).trans ff13
  have ff29 : z16 (k + 4) = ir ct 32 (v1) := (d3 (k + 4) (by omega)).trans ff14
  have fr30 : ∀ j : Nat, (j ≠ 20) → z16 j = u j := fun j h0 => (d3 j (by omega)).trans (fr15 j h0)
  exact ret z16 H locs 34 ls ⟨dg, d1, d2.cg (fun q i _ _ _ _ => by rw [Int.one_mul]; exact cg_r), fr30⟩ hP hS d_R_openValue_34
abbrev rm_c_decrypted : Room := { frames := 3, cells := 0, slots := 0, locals := 82 }
set_option maxHeartbeats 4000000 in
set_option maxRecDepth 100000 in
/-- decrypted(x, y) -/
theorem c_decrypted (l : Launch) (D : va_G) (ct : Nat → ClassId) (st ke : Nat → Nat) (b N : Nat) (u : Nat → va_E) (hN : 236 ≤ N) (K : Ky) (n v : Nat) (msg : Int → Int) (G : Int → Gt) (V : Int → Val) (hC : CS ct b ke u K n v msg G V) (hI : PI n v msg G V) (x y : Int) (hx0 : r32 x) (hy0 : r32 y) : Met l y_R_decrypted (w_R_decrypted) rm_c_decrypted (va_Pc [.ref (b + 0), .int (iI (x)), .int (iI (y))] (fun U => ev D ct st ke b U ∧ va_P D vwCl (wl N b u) U.heap)) (va_Qi (fun (r : Int32) (z : Nat → va_E) => r = iI (if (0 ≤ x ∧ x < v) ∧ 0 ≤ y ∧ y < 8 then opV K.1 (V x) y % 17 else -1) ∧ CS ct b ke z K n v msg G V ∧ ∀ j : Nat, j ≠ 20 → z j = u j) (fun (z : Nat → va_E) t => va_P D vwCl (wl (N) b (z)) t.heap) (AA b)) 0 0 (AA b) := by
  refine M_i (cc := c9_R_decrypted) (maxL := 4) (by decide) rfl (Nat.le_of_ble_eq_true rfl) ?_
  intro p e s m args below meth c Q ls H locs hx hb hml hown hts hnm E hP hS hl ret
  have hl : lv_has ls 4 [(0, .ref (b + 0)), (1, .int (iI (x))), (2, .int (iI (y)))] := hl
  have hK := ev_K E
  have kk0 := hts (.fieldLink "LevelledRing" 27 "LevelledRing" "gates" "[LLevelledRing$Gate;") (List.mem_cons_of_mem _ t_176)
  have hinR : ∀ w ∈ u_ws "LevelledRing" T_R 11, w ∈ (w_R_decrypted) := hin_R _
  have kk2 := hts (.fieldLink "LevelledRing" 139 "LevelledRing$Gate" "value" "LLevelledRing$Value;") (List.mem_cons_of_mem _ t_159)
  have hinG : ∀ w ∈ u_ws "LevelledRing$Gate" T_G 6, w ∈ (w_R_decrypted) := hin_G _
  have kk4 := hts (.fieldLink "LevelledRing" 54 "LevelledRing" "opened" "LLevelledRing$Poly;") (List.mem_cons_of_mem _ t_183)
  have kk5 := hts (.fieldLink "LevelledRing" 142 "LevelledRing$Value" "level" "I") (List.mem_cons_of_mem _ t_57)
  have hinV : ∀ w ∈ u_ws "LevelledRing$Value" T_V 4, w ∈ (w_R_decrypted) := hin_V _
  have fr0 : ∀ j : Nat, (j ≠ 20) → u j = u j := fun _ _ => rfl
  have hC9 := hC
  have hn24 := hI.1
  have hvn := hI.2.1
  obtain ⟨hO, hSC, hSV, ⟨gf, hgr, hgf⟩, hKS, hGC⟩ := hC
  refine lv_aload_n hx hb d_R_decrypted_0 rfl (lv_at hl 0 rfl) ?_
  refine lv_iload_n hx hb d_R_decrypted_1 rfl (lv_at hl 1 rfl) ?_
  refine w_calli (va_runV (As := [.int (iI (x))]) (rest := []) ⟨hx, hb, hml, hown, hts⟩ (c_hasValue l D ct st ke b N u (by omega) n v (by omega) (by omega) hO (x) hx0) (cwV 1 hts (gV t_404 t_406 (tb_sel ((y_R_hasValue), 11) (List.mem_of_getElem? (i := 12) (by decide +kernel))) t_1 t_407) rfl rfl rfl (by decide +kernel) ⟨Nat.le_of_ble_eq_true rfl, Nat.le_of_ble_eq_true rfl⟩) (pre_V E hP hS (0) (by omega) hO rfl) rfl rfl hl.1 rfl (lv_room (Nat.le_of_ble_eq_true rfl)) d_R_decrypted_2 ⟨(Nat.le_of_ble_eq_true rfl), (Nat.le_of_ble_eq_true rfl)⟩) hS (fun r2 z1 H locs hz hP hS => ?_)
  obtain ⟨rfl, rfl⟩ := hz
  have hi01 := inb_01 (x) (v : Int)
  refine x_if_eq (tgt := 15) hx hb ⟨by omega, by omega⟩ d_R_decrypted_5 (by decide) (fun hc => ?_) (fun hc => ?_)
  · refine lv_iconst (v := iI (-1)) hx hb d_R_decrypted_15 rfl ?_
    refine x_ie (y := if (0 ≤ x ∧ x < v) ∧ 0 ≤ y ∧ y < 8 then opV K.1 (V x) y % 17 else -1) (by rw [if_neg (fun h => inb_z hc h.1)]) ?_
    exact ret _ u H locs 16 ls ⟨rfl, hC9, fun _ _ => rfl⟩ hP hS d_R_decrypted_16
  · have hxv := inb_n hc
    refine lv_iload_n hx hb d_R_decrypted_8 rfl (lv_at hl 2 rfl) ?_
    refine w_calli (va_runS (As := [.int (iI (y))]) (rest := []) ⟨hx, hb, hml, hown, hts⟩ (c_isC l D ct st ke b N u (y) hy0) (cwS 1 hts (gS t_211 t_212 t_1 t_213) rfl rfl rfl (by decide +kernel) ⟨Nat.le_of_ble_eq_true rfl, Nat.le_of_ble_eq_true rfl⟩) (pre_S E hP hS) rfl rfl hl.1 rfl (lv_room (Nat.le_of_ble_eq_true rfl)) d_R_decrypted_9 ⟨(Nat.le_of_ble_eq_true rfl), (Nat.le_of_ble_eq_true rfl)⟩) hS (fun r4 z3 H locs hz hP hS => ?_)
    obtain ⟨rfl, rfl⟩ := hz
    have hi01 := inb_01 (y) 8
    refine x_if_ne (tgt := 17) hx hb ⟨by omega, by omega⟩ d_R_decrypted_12 (by decide) (fun hc => ?_) (fun hc => ?_)
    · have hyv := inb_n hc
      obtain ⟨g, rfl⟩ := Int.eq_ofNat_of_zero_le hxv.1
      have okv := hI.2.2.2.2 g (by omega)
      have okl0 := okv.1.1
      have okl3 := okv.1.2.1
      have hvv := hGC.2.2 g (by omega)
      rw [show 47 + 8 * g = 44 + 8 * g + 3 by omega] at hvv
      obtain ⟨hg0, hg1, gp, hg2, hg3⟩ := hGC.2.1 g (by omega)
      have hv := hGC.2.2 g (by omega)
      rw [show 47 + 8 * g = 44 + 8 * g + 3 by omega] at hv
      obtain ⟨v0, v1, hVR, hR0, hR1⟩ := hv
      obtain ⟨oa, og, ob_⟩ := hSC.2.2.2.2.2
      refine lv_aload_n hx hb d_R_decrypted_17 rfl (lv_at hl 0 rfl) ?_
      refine w_get (C := "LevelledRing") (T := T_R) (M := 11) hx hb hts hinR hown hK hP (0) (by omega) hO rfl 3 (by decide) kk0 (fun _ h => h) rfl d_R_decrypted_18 ?_
      refine lv_iload_n hx hb d_R_decrypted_21 rfl (lv_at hl 1 rfl) ?_
      refine w_aald (r := b + (44 + 8 * g)) hx hb hK hP (4) (by omega) 3 hgr rfl (by omega) (by omega) (by decide) (hgf g (by omega)) d_R_decrypted_22 ?_
      refine w_get (C := "LevelledRing$Gate") (T := T_G) (M := 6) hx hb hts hinG hown hK hP (44 + 8 * g) (by omega) hg0 rfl 5 (by decide) kk2 (fun _ h => h) rfl d_R_decrypted_23 ?_
      refine lv_astore_n (lv' := [(3, .ref (b + (44 + 8 * g + 3))), (0, .ref (b + 0)), (1, .int (iI ((g : Int)))), (2, .int (iI (y)))]) hx hb d_R_decrypted_26 rfl hl (by decide) rfl (fun ls hl => ?_)
      refine lv_aload_n hx hb d_R_decrypted_27 rfl (lv_at hl 1 rfl) ?_
      refine lv_aload_n hx hb d_R_decrypted_28 rfl (lv_at hl 0 rfl) ?_
      refine w_callv (va_runV (As := [.ref (b + (44 + 8 * g + 3))]) (rest := []) ⟨hx, hb, hml, hown, hts⟩ (c_openValue l D ct st ke b N u hN K n v hO hKS ⟨oa, og, ob_⟩ (44 + 8 * g + 3) (by omega) (by omega) (V g) okv.1 hvv) (cwV 1 hts (gV t_417 t_419 (tb_sel ((y_R_openValue), 11) (List.mem_of_getElem? (i := 13) (by decide +kernel))) t_1 t_420) rfl rfl rfl (by decide +kernel) ⟨Nat.le_of_ble_eq_true rfl, Nat.le_of_ble_eq_true rfl⟩) (pre_V E hP hS (0) (by omega) hO rfl) rfl rfl hl.1 rfl (lv_room (Nat.le_of_ble_eq_true rfl)) d_R_decrypted_29 ⟨(Nat.le_of_ble_eq_true rfl), (Nat.le_of_ble_eq_true rfl)⟩) hS (fun z5 H locs hz hP hS => ?_)
      obtain ⟨g2, e1, e2, e3⟩ := hz
      have ff7 : z5 0 = .inr (5, [.ref (b + 1), .ref (b + 21), .ref (b + 2), .ref (b + 4), .int (iI ((n : Int))), .int (iI ((v : Int))), .ref (b + 5), .ref (b + 10), .ref (b + 15), .ref (b + 17), .ref (b + 19)]) := (e3 0 (by omega)).trans hO
      have ff8 : z5 4 = qr ct 3 24 (gf) := (e3 4 (by omega)).trans hgr
      have ff9 : z5 (44 + 8 * g) = .inr (1, [.ref (ke (G g).1), .int (iI ((G g).2.1)), .int (iI ((G g).2.2.1)), .int (iI ((G g).2.2.2.1)), .ref (b + (44 + 8 * g + 1)), .ref (b + (44 + 8 * g + 3))]) := (e3 (44 + 8 * g) (by omega)).trans hg0
      have ff10 : z5 (44 + 8 * g + 1) = .inr (3, [.int (iI (1)), .ref (b + (44 + 8 * g + 2))]) := (e3 (44 + 8 * g + 1) (by omega)).trans hg1
      have ff11 : z5 (44 + 8 * g + 2) = ir ct 8 (gp) := (e3 (44 + 8 * g + 2) (by omega)).trans hg2
      have ff12 : z5 (44 + 8 * g + 3) = .inr (4, [.int (iI ((V g).1)), .long (lI ((V g).2.1)), .ref (b + (44 + 8 * g + 4)), .ref (b + (44 + 8 * g + 6))]) := (e3 (44 + 8 * g + 3) (by omega)).trans hVR.1
      have ff13 : z5 (44 + 8 * g + 4) = .inr (3, [.int (iI (0)), .ref (b + (44 + 8 * g + 5))]) := (e3 (44 + 8 * g + 4) (by omega)).trans hVR.2.1
      have ff14 : z5 (44 + 8 * g + 5) = ir ct 32 (v0) := (e3 (44 + 8 * g + 5) (by omega)).trans hVR.2.2.1
      have ff15 : z5 (44 + 8 * g + 6) = .inr (3, [.int (iI (0)), .ref (b + (44 + 8 * g + 7))]) := (e3 (44 + 8 * g + 6) (by omega)).trans hVR.2.2.2.1
      have ff16 : z5 (44 + 8 * g + 7) = ir ct 32 (v1) := (e3 (44 + 8 * g + 7) (by omega)).trans hVR.2.2.2.2
      have ff17 : z5 19 = .inr (3, [.int (iI (0)), .ref (b + 20)]) := (e3 19 (by omega)).trans oa
      have fr18 : ∀ j : Nat, (j ≠ 20) → z5 j = u j := fun j h0 => (e3 j (by omega)).trans (fr0 j h0)
      refine lv_aload_n hx hb d_R_decrypted_32 rfl (lv_at hl 1 rfl) ?_
      refine w_get (C := "LevelledRing") (T := T_R) (M := 11) hx hb hts hinR hown hK hP (0) (by omega) ff7 rfl 10 (by decide) kk4 (fun _ h => h) rfl d_R_decrypted_33 ?_
      refine lv_iload_n hx hb d_R_decrypted_36 rfl (lv_at hl 3 rfl) ?_
      refine lv_aload_n hx hb d_R_decrypted_37 rfl (lv_at hl 0 rfl) ?_
      refine w_get (C := "LevelledRing$Value") (T := T_V) (M := 4) hx hb hts hinV hown hK hP (44 + 8 * g + 3) (by omega) ff12 rfl 0 (by decide) kk5 (fun _ h => h) rfl d_R_decrypted_38 ?_
      refine w_calll (va_runV (As := [.int (iI (y)), .int (iI ((V g).1))]) (rest := []) ⟨hx, hb, hml, hown, hts⟩ (c_centredC l D ct st ke b N z5 19 32 g2 (by omega) (by decide) ff17 e1 y (V g).1 hyv.1 hyv.2 okl0 okl3 (by omega) _ e2) (cwV 2 hts (gV t_421 t_422 t_423 t_3 t_424) rfl rfl rfl (by decide +kernel) ⟨Nat.le_of_ble_eq_true rfl, Nat.le_of_ble_eq_true rfl⟩) (pre_V E hP hS (19) (by omega) ff17 rfl) rfl rfl hl.1 rfl (lv_room (Nat.le_of_ble_eq_true rfl)) d_R_decrypted_41 ⟨(Nat.le_of_ble_eq_true rfl), (Nat.le_of_ble_eq_true rfl)⟩) hS (fun r20 z19 H locs hz hP hS => ?_)
      obtain ⟨rfl, rfl⟩ := hz
      have bop := opV_bd K.1 (V g) y
      refine lv_bipush (v := iI (17)) hx hb d_R_decrypted_44 (by decide +kernel) ?_
      refine w_calli (va_runS (As := [.long (lI (opV K.1 (V g) y)), .int (iI (17))]) (rest := []) ⟨hx, hb, hml, hown, hts⟩ (c_modulo l D ct st ke b N z5 (opV K.1 (V g) y) (17) ⟨by omega, by omega⟩ (by decide) (by decide)) (cwS 2 hts (gS t_214 t_99 t_1 t_100) rfl rfl rfl (by decide +kernel) ⟨Nat.le_of_ble_eq_true rfl, Nat.le_of_ble_eq_true rfl⟩) (pre_S E hP hS) rfl rfl hl.1 rfl (lv_room (Nat.le_of_ble_eq_true rfl)) d_R_decrypted_46 ⟨(Nat.le_of_ble_eq_true rfl), (Nat.le_of_ble_eq_true rfl)⟩) hS (fun r22 z21 H locs hz hP hS => ?_)
      obtain ⟨rfl, rfl⟩ := hz
      refine x_ie (y := if (0 ≤ (g : Int) ∧ (g : Int) < v) ∧ 0 ≤ y ∧ y < 8 then opV K.1 (V (g : Int)) y % 17 else -1) (by rw [if_pos ⟨hxv, hyv⟩]) ?_
      have hC8 : CS ct b ke z5 K n v msg G V := ⟨ff7, ⟨⟨hSC.1.choose, (fr18 1 (by omega)).trans hSC.1.choose_spec⟩, hSC.2.1.of fun j h1 h2 => fr18 j (by omega), hSC.2.2.1.of fun j h1 h2 => fr18 j (by omega), hSC.2.2.2.1.of fun j h1 h2 => fr18 j (by omega), hSC.2.2.2.2.1.of fun j h1 h2 => fr18 j (by omega), ⟨ff17, _, e1⟩⟩, hSV.of fun j h1 h2 => fr18 j (by omega), ⟨gf, ff8, hgf⟩, hKS.of fun j h1 h2 => fr18 j (by omega), hGC.of hn24 (by omega) fun j h1 h2 => fr18 j (by omega)⟩
      exact ret _ z5 H locs 49 ls ⟨rfl, hC8, fr18⟩ hP hS d_R_decrypted_49
    · refine lv_iconst (v := iI (-1)) hx hb d_R_decrypted_15 rfl ?_
      refine x_ie (y := if (0 ≤ x ∧ x < v) ∧ 0 ≤ y ∧ y < 8 then opV K.1 (V x) y % 17 else -1) (by rw [if_neg (fun h => inb_z hc h.2)]) ?_
      exact ret _ u H locs 16 ls ⟨rfl, hC9, fun _ _ => rfl⟩ hP hS d_R_decrypted_16
abbrev rm_c_noise : Room := { frames := 3, cells := 0, slots := 0, locals := 82 }
set_option maxHeartbeats 4000000 in
set_option maxRecDepth 100000 in
/-- noise(x) -/
theorem c_noise (l : Launch) (D : va_G) (ct : Nat → ClassId) (st ke : Nat → Nat) (b N : Nat) (u : Nat → va_E) (hN : 236 ≤ N) (K : Ky) (n v : Nat) (msg : Int → Int) (G : Int → Gt) (V : Int → Val) (hC : CS ct b ke u K n v msg G V) (hI : PI n v msg G V) (x : Int) (hx0 : r32 x) : Met l y_R_noise (w_R_noise) rm_c_noise (va_Pc [.ref (b + 0), .int (iI (x))] (fun U => ev D ct st ke b U ∧ va_P D vwCl (wl N b u) U.heap)) (va_Ql (fun (r : Int64) (z : Nat → va_E) => r = lI (if 0 ≤ x ∧ x < v then mxs (opV K.1 (V x)) 8 else -1) ∧ CS ct b ke z K n v msg G V ∧ ∀ j : Nat, j ≠ 20 → z j = u j) (fun (z : Nat → va_E) t => va_P D vwCl (wl (N) b (z)) t.heap) (AA b)) 0 0 (AA b) := by
  refine M_l (cc := c9_R_noise) (maxL := 6) (by decide) rfl (Nat.le_of_ble_eq_true rfl) ?_
  intro p e s m args below meth c Q ls H locs hx hb hml hown hts hnm E hP hS hl ret
  have hl : lv_has ls 6 [(0, .ref (b + 0)), (1, .int (iI (x)))] := hl
  have hK := ev_K E
  have kk0 := hts (.fieldLink "LevelledRing" 27 "LevelledRing" "gates" "[LLevelledRing$Gate;") (List.mem_cons_of_mem _ t_176)
  have hinR : ∀ w ∈ u_ws "LevelledRing" T_R 11, w ∈ (w_R_noise) := hin_R _
  have kk2 := hts (.fieldLink "LevelledRing" 139 "LevelledRing$Gate" "value" "LLevelledRing$Value;") (List.mem_cons_of_mem _ t_159)
  have hinG : ∀ w ∈ u_ws "LevelledRing$Gate" T_G 6, w ∈ (w_R_noise) := hin_G _
  have kk4 := hts (.fieldLink "LevelledRing" 54 "LevelledRing" "opened" "LLevelledRing$Poly;") (List.mem_cons_of_mem _ t_183)
  have kk5 := hts (.fieldLink "LevelledRing" 142 "LevelledRing$Value" "level" "I") (List.mem_cons_of_mem _ t_57)
  have hinV : ∀ w ∈ u_ws "LevelledRing$Value" T_V 4, w ∈ (w_R_noise) := hin_V _
  have kk7 := hts (.initialized "java/lang/Math") (List.mem_cons_of_mem _ t_10)
  have kk8 := hts (.methodLink "LevelledRing" 159 Lib.MathLoose.abs_long.x) (List.mem_cons_of_mem _ t_432)
  have kk9 := hts (.static Lib.MathLoose.abs_long.x) (List.mem_cons_of_mem _ t_433)
  have kk10 := hts (.code Lib.MathLoose.abs_long.x Lib.MathLoose.abs_long.code 2 (some .long)) (List.mem_cons_of_mem _ t_434)
  have kk11 := hts (.methodLink "LevelledRing" 163 Lib.MathLoose.max_long.x) (List.mem_cons_of_mem _ t_435)
  have kk12 := hts (.static Lib.MathLoose.max_long.x) (List.mem_cons_of_mem _ t_436)
  have kk13 := hts (.code Lib.MathLoose.max_long.x Lib.MathLoose.max_long.code 4 (some .long)) (List.mem_cons_of_mem _ t_437)
  have kk14 := hts (.constantLong "LevelledRing" 149 (-1)) (List.mem_cons_of_mem _ t_412)
  have fr0 : ∀ j : Nat, (j ≠ 20) → u j = u j := fun _ _ => rfl
  have hC9 := hC
  have hn24 := hI.1
  have hvn := hI.2.1
  obtain ⟨hO, hSC, hSV, ⟨gf, hgr, hgf⟩, hKS, hGC⟩ := hC
  refine lv_aload_n hx hb d_R_noise_0 rfl (lv_at hl 0 rfl) ?_
  refine lv_iload_n hx hb d_R_noise_1 rfl (lv_at hl 1 rfl) ?_
  refine w_calli (va_runV (As := [.int (iI (x))]) (rest := []) ⟨hx, hb, hml, hown, hts⟩ (c_hasValue l D ct st ke b N u (by omega) n v (by omega) (by omega) hO (x) hx0) (cwV 1 hts (gV t_404 t_406 (tb_sel ((y_R_hasValue), 11) (List.mem_of_getElem? (i := 12) (by decide +kernel))) t_1 t_407) rfl rfl rfl (by decide +kernel) ⟨Nat.le_of_ble_eq_true rfl, Nat.le_of_ble_eq_true rfl⟩) (pre_V E hP hS (0) (by omega) hO rfl) rfl rfl hl.1 rfl (lv_room (Nat.le_of_ble_eq_true rfl)) d_R_noise_2 ⟨(Nat.le_of_ble_eq_true rfl), (Nat.le_of_ble_eq_true rfl)⟩) hS (fun r2 z1 H locs hz hP hS => ?_)
  obtain ⟨rfl, rfl⟩ := hz
  have hi01 := inb_01 (x) (v : Int)
  refine x_if_ne (tgt := 12) hx hb ⟨by omega, by omega⟩ d_R_noise_5 (by decide) (fun hc => ?_) (fun hc => ?_)
  · have hxv := inb_n hc
    obtain ⟨g, rfl⟩ := Int.eq_ofNat_of_zero_le hxv.1
    have okv := hI.2.2.2.2 g (by omega)
    have okl0 := okv.1.1
    have okl3 := okv.1.2.1
    have hvv := hGC.2.2 g (by omega)
    rw [show 47 + 8 * g = 44 + 8 * g + 3 by omega] at hvv
    obtain ⟨hg0, hg1, gp, hg2, hg3⟩ := hGC.2.1 g (by omega)
    have hv := hGC.2.2 g (by omega)
    rw [show 47 + 8 * g = 44 + 8 * g + 3 by omega] at hv
    obtain ⟨v0, v1, hVR, hR0, hR1⟩ := hv
    obtain ⟨oa, og, ob_⟩ := hSC.2.2.2.2.2
    refine lv_aload_n hx hb d_R_noise_12 rfl (lv_at hl 0 rfl) ?_
    refine w_get (C := "LevelledRing") (T := T_R) (M := 11) hx hb hts hinR hown hK hP (0) (by omega) hO rfl 3 (by decide) kk0 (fun _ h => h) rfl d_R_noise_13 ?_
    refine lv_iload_n hx hb d_R_noise_16 rfl (lv_at hl 1 rfl) ?_
    refine w_aald (r := b + (44 + 8 * g)) hx hb hK hP (4) (by omega) 3 hgr rfl (by omega) (by omega) (by decide) (hgf g (by omega)) d_R_noise_17 ?_
    refine w_get (C := "LevelledRing$Gate") (T := T_G) (M := 6) hx hb hts hinG hown hK hP (44 + 8 * g) (by omega) hg0 rfl 5 (by decide) kk2 (fun _ h => h) rfl d_R_noise_18 ?_
    refine lv_astore_n (lv' := [(2, .ref (b + (44 + 8 * g + 3))), (0, .ref (b + 0)), (1, .int (iI ((g : Int))))]) hx hb d_R_noise_21 rfl hl (by decide) rfl (fun ls hl => ?_)
    refine lv_aload_n hx hb d_R_noise_22 rfl (lv_at hl 1 rfl) ?_
    refine lv_aload_n hx hb d_R_noise_23 rfl (lv_at hl 0 rfl) ?_
    refine w_callv (va_runV (As := [.ref (b + (44 + 8 * g + 3))]) (rest := []) ⟨hx, hb, hml, hown, hts⟩ (c_openValue l D ct st ke b N u hN K n v hO hKS ⟨oa, og, ob_⟩ (44 + 8 * g + 3) (by omega) (by omega) (V g) okv.1 hvv) (cwV 1 hts (gV t_417 t_419 (tb_sel ((y_R_openValue), 11) (List.mem_of_getElem? (i := 13) (by decide +kernel))) t_1 t_420) rfl rfl rfl (by decide +kernel) ⟨Nat.le_of_ble_eq_true rfl, Nat.le_of_ble_eq_true rfl⟩) (pre_V E hP hS (0) (by omega) hO rfl) rfl rfl hl.1 rfl (lv_room (Nat.le_of_ble_eq_true rfl)) d_R_noise_24 ⟨(Nat.le_of_ble_eq_true rfl), (Nat.le_of_ble_eq_true rfl)⟩) hS (fun z3 H locs hz hP hS => ?_)
    obtain ⟨g2, e1, e2, e3⟩ := hz
    have ff5 : z3 0 = .inr (5, [.ref (b + 1), .ref (b + 21), .ref (b + 2), .ref (b + 4), .int (iI ((n : Int))), .int (iI ((v : Int))), .ref (b + 5), .ref (b + 10), .ref (b + 15), .ref (b + 17), .ref (b + 19)]) := (e3 0 (by omega)).trans hO
    have ff6 : z3 4 = qr ct 3 24 (gf) := (e3 4 (by omega)).trans hgr
    have ff7 : z3 (44 + 8 * g) = .inr (1, [.ref (ke (G g).1), .int (iI ((G g).2.1)), .int (iI ((G g).2.2.1)), .int (iI ((G g).2.2.2.1)), .ref (b + (44 + 8 * g + 1)), .ref (b + (44 + 8 * g + 3))]) := (e3 (44 + 8 * g) (by omega)).trans hg0
    have ff8 : z3 (44 + 8 * g + 1) = .inr (3, [.int (iI (1)), .ref (b + (44 + 8 * g + 2))]) := (e3 (44 + 8 * g + 1) (by omega)).trans hg1
    have ff9 : z3 (44 + 8 * g + 2) = ir ct 8 (gp) := (e3 (44 + 8 * g + 2) (by omega)).trans hg2
    have ff10 : z3 (44 + 8 * g + 3) = .inr (4, [.int (iI ((V g).1)), .long (lI ((V g).2.1)), .ref (b + (44 + 8 * g + 4)), .ref (b + (44 + 8 * g + 6))]) := (e3 (44 + 8 * g + 3) (by omega)).trans hVR.1
    have ff11 : z3 (44 + 8 * g + 4) = .inr (3, [.int (iI (0)), .ref (b + (44 + 8 * g + 5))]) := (e3 (44 + 8 * g + 4) (by omega)).trans hVR.2.1
    have ff12 : z3 (44 + 8 * g + 5) = ir ct 32 (v0) := (e3 (44 + 8 * g + 5) (by omega)).trans hVR.2.2.1
    have ff13 : z3 (44 + 8 * g + 6) = .inr (3, [.int (iI (0)), .ref (b + (44 + 8 * g + 7))]) := (e3 (44 + 8 * g + 6) (by omega)).trans hVR.2.2.2.1
    have ff14 : z3 (44 + 8 * g + 7) = ir ct 32 (v1) := (e3 (44 + 8 * g + 7) (by omega)).trans hVR.2.2.2.2
    have ff15 : z3 19 = .inr (3, [.int (iI (0)), .ref (b + 20)]) := (e3 19 (by omega)).trans oa
    have fr16 : ∀ j : Nat, (j ≠ 20) → z3 j = u j := fun j h0 => (e3 j (by omega)).trans (fr0 j h0)
    refine lv_lconst (v := lI 0) hx hb d_R_noise_27 rfl ?_
    refine lv_lstore_n (lv' := [(3, .long (lI (0))), (2, .ref (b + (44 + 8 * g + 3))), (0, .ref (b + 0)), (1, .int (iI ((g : Int))))]) hx hb d_R_noise_28 rfl hl (by decide) rfl (fun ls hl => ?_)
    refine lv_iconst (v := iI (0)) hx hb d_R_noise_29 rfl ?_
    refine lv_istore (lv' := [(5, .int (iI (0))), (3, .long (lI (0))), (2, .ref (b + (44 + 8 * g + 3))), (0, .ref (b + 0)), (1, .int (iI ((g : Int))))]) hx hb d_R_noise_30 hl (by decide) rfl (fun ls hl => ?_)
    have lo : ∀ (d : Nat) (i : Int) (H : Heap) (locs : List Loc) (ls : Array Slot), (0 ≤ i) → (i ≤ 8) → (8 - i < d) → va_P D vwCl (wl N b z3) H → va_S (AA b) s.heap H locs → lv_has ls 6 [(5, .int (iI (i))), (3, .long (lI (mxs (opV K.1 (V g)) i.toNat))), (2, .ref (b + (44 + 8 * g + 3))), (0, .ref (b + 0)), (1, .int (iI ((g : Int))))] → W p l e rm_c_noise s m args below meth c H locs 0 0 Q (F0 m 32 ls []) := by
      intro d
      induction d with
      | zero => intro i H locs ls h0 h1 hd hP hS hl; exfalso; omega
      | succ d ihlo =>
        intro i H locs ls h0 h1 hd hP hS hl
        refine lv_iload hx hb d_R_noise_32 (lv_at hl 0 rfl) ?_
        refine lv_bipush (v := iI (8)) hx hb d_R_noise_34 (by decide +kernel) ?_
        refine x_icmp_ge (tgt := 66) hx hb ⟨by omega, by omega⟩ ⟨by omega, by omega⟩ d_R_noise_36 (by decide) (fun hc => ?_) (fun hc => ?_)
        · obtain rfl : i = 8 := by omega
          refine lv_lload_n hx hb d_R_noise_66 rfl (lv_at hl 1 rfl) ?_
          refine x_le (y := if 0 ≤ (g : Int) ∧ (g : Int) < v then mxs (opV K.1 (V (g : Int))) 8 else -1) (by rw [if_pos hxv]; rfl) ?_
          have hC8 : CS ct b ke z3 K n v msg G V := ⟨ff5, ⟨⟨hSC.1.choose, (fr16 1 (by omega)).trans hSC.1.choose_spec⟩, hSC.2.1.of fun j h1 h2 => fr16 j (by omega), hSC.2.2.1.of fun j h1 h2 => fr16 j (by omega), hSC.2.2.2.1.of fun j h1 h2 => fr16 j (by omega), hSC.2.2.2.2.1.of fun j h1 h2 => fr16 j (by omega), ⟨ff15, _, e1⟩⟩, hSV.of fun j h1 h2 => fr16 j (by omega), ⟨gf, ff6, hgf⟩, hKS.of fun j h1 h2 => fr16 j (by omega), hGC.of hn24 (by omega) fun j h1 h2 => fr16 j (by omega)⟩
          exact ret _ z3 H locs 67 ls ⟨rfl, hC8, fr16⟩ hP hS d_R_noise_67
        · refine lv_lload_n hx hb d_R_noise_39 rfl (lv_at hl 1 rfl) ?_
          refine lv_aload_n hx hb d_R_noise_40 rfl (lv_at hl 3 rfl) ?_
          refine w_get (C := "LevelledRing") (T := T_R) (M := 11) hx hb hts hinR hown hK hP (0) (by omega) ff5 rfl 10 (by decide) kk4 (fun _ h => h) rfl d_R_noise_41 ?_
          refine lv_iload hx hb d_R_noise_44 (lv_at hl 0 rfl) ?_
          refine lv_aload_n hx hb d_R_noise_46 rfl (lv_at hl 2 rfl) ?_
          refine w_get (C := "LevelledRing$Value") (T := T_V) (M := 4) hx hb hts hinV hown hK hP (44 + 8 * g + 3) (by omega) ff10 rfl 0 (by decide) kk5 (fun _ h => h) rfl d_R_noise_47 ?_
          refine w_calll (va_runV (As := [.int (iI (i)), .int (iI ((V g).1))]) (rest := [.long (lI (mxs (opV K.1 (V g)) i.toNat))]) ⟨hx, hb, hml, hown, hts⟩ (c_centredC l D ct st ke b N z3 19 32 g2 (by omega) (by decide) ff15 e1 i (V g).1 h0 (by omega) okl0 okl3 (by omega) _ e2) (cwV 2 hts (gV t_421 t_422 t_423 t_3 t_424) rfl rfl rfl (by decide +kernel) ⟨Nat.le_of_ble_eq_true rfl, Nat.le_of_ble_eq_true rfl⟩) (pre_V E hP hS (19) (by omega) ff15 rfl) rfl rfl hl.1 rfl (lv_room (Nat.le_of_ble_eq_true rfl)) d_R_noise_50 ⟨(Nat.le_of_ble_eq_true rfl), (Nat.le_of_ble_eq_true rfl)⟩) hS (fun r18 z17 H locs hz hP hS => ?_)
          obtain ⟨rfl, rfl⟩ := hz
          refine x_le (y := opV K.1 (V g) i) rfl ?_
          have bop := opV_bd K.1 (V g) i
          have bab := ab_bd K.1 (V g) i
          have bmx := mxs_bd K.1 (V g) i.toNat
          refine va_mabs_long hx hb (hml.trans hl.1.symm) hown kk8 kk9 kk7 kk10 (Nat.le_of_ble_eq_true rfl) (Nat.le_of_ble_eq_true rfl) (Nat.zero_le _) (Nat.zero_le _) d_R_noise_53 ?_
          refine x_l (y := lI (ab (opV K.1 (V g) i))) (abs_lI ⟨by omega, by omega⟩) ?_
          refine va_mmax_long hx hb (hml.trans hl.1.symm) hown kk11 kk12 kk7 kk13 (Nat.le_of_ble_eq_true rfl) (Nat.le_of_ble_eq_true rfl) (Nat.zero_le _) (Nat.zero_le _) d_R_noise_56 ?_
          refine x_l (y := lI (mxs (opV K.1 (V g)) (i + 1).toNat)) (by rw [mxs_step _ h0]; exact max_lI ⟨by omega, by omega⟩ ⟨by omega, by omega⟩) ?_
          refine lv_lstore_n (lv' := [(3, .long (lI (mxs (opV K.1 (V g)) (i + 1).toNat))), (5, .int (iI (i))), (2, .ref (b + (44 + 8 * g + 3))), (0, .ref (b + 0)), (1, .int (iI ((g : Int))))]) hx hb d_R_noise_59 rfl hl (by decide) rfl (fun ls hl => ?_)
          refine lv_iinc (k := 1) (v := iI (i + 1)) (lv' := [(5, .int (iI (i + 1))), (3, .long (lI (mxs (opV K.1 (V g)) (i + 1).toNat))), (2, .ref (b + (44 + 8 * g + 3))), (0, .ref (b + 0)), (1, .int (iI ((g : Int))))]) hx hb d_R_noise_60 hl rfl (iI_add _ _) (by decide) rfl (fun ls hl => ?_)
          refine lv_goto (tgt := 32) hx hb d_R_noise_63 (by decide) ?_
          have hl : lv_has ls 6 [(5, .int (iI (i + 1))), (3, .long (lI (mxs (opV K.1 (V g)) (i + 1).toNat))), (2, .ref (b + (44 + 8 * g + 3))), (0, .ref (b + 0)), (1, .int (iI ((g : Int))))] := lv_sub hl [0, 1, 2, 3, 4] rfl
          exact ihlo (i + 1) H locs ls (by omega) (by omega) (by omega) hP hS hl
    exact lo 9 0 H locs ls (by omega) (by omega) (by omega) hP hS hl
  · refine lv_ldc2 hx hb hown kk14 d_R_noise_8 ?_
    refine x_l (y := lI (-1)) (by decide +kernel) ?_
    refine x_le (y := if 0 ≤ x ∧ x < v then mxs (opV K.1 (V x)) 8 else -1) (by rw [if_neg (inb_z hc)]) ?_
    exact ret _ u H locs 11 ls ⟨rfl, hC9, fun _ _ => rfl⟩ hP hS d_R_noise_11
abbrev rm_c_swm : Room := { frames := 0, cells := 0, slots := 0, locals := 0 }
set_option maxHeartbeats 4000000 in
set_option maxRecDepth 100000 in
/-- switchingMeter(x) -/
theorem c_swm (l : Launch) (D : va_G) (ct : Nat → ClassId) (st ke : Nat → Nat) (b N : Nat) (u : Nat → va_E) (x : Int) (h0 : 0 ≤ x) (h3 : x ≤ 3) : Met l y_R_switchingMeter (w_R_switchingMeter) rm_c_swm (va_Pc [.int (iI (x))] (fun U => ev D ct st ke b U ∧ va_P D vwCl (wl N b u) U.heap)) (va_Ql (fun (r : Int64) (z : Nat → va_E) => r = lI (136 * gdg x) ∧ u = z) (fun (z : Nat → va_E) t => va_P D vwCl (wl (N) b (z)) t.heap) (AA b)) 0 0 (AA b) := by
  refine M_l (cc := c9_R_switchingMeter) (maxL := 4) (by decide) rfl (Nat.le_of_ble_eq_true rfl) ?_
  intro p e s m args below meth c Q ls H locs hx hb hml hown hts hnm E hP hS hl ret
  have hl : lv_has ls 4 [(0, .int (iI (x)))] := hl
  have hK := ev_K E
  have kk0 := hts (.constantLong "LevelledRing" 280 136) (List.mem_cons_of_mem _ t_374)
  have kk1 := hts (.fieldLink "LevelledRing" 277 "LevelledRing" "PRIMES" "[I") (List.mem_cons_of_mem _ t_373)
  refine lv_lconst (v := lI 0) hx hb d_R_switchingMeter_0 rfl ?_
  refine lv_lstore_n (lv' := [(1, .long (lI (0))), (0, .int (iI (x)))]) hx hb d_R_switchingMeter_1 rfl hl (by decide) rfl (fun ls hl => ?_)
  refine lv_iconst (v := iI (0)) hx hb d_R_switchingMeter_2 rfl ?_
  refine lv_istore_n (lv' := [(3, .int (iI (0))), (1, .long (lI (0))), (0, .int (iI (x)))]) hx hb d_R_switchingMeter_3 rfl hl (by decide) rfl (fun ls hl => ?_)
  have lo : ∀ (d : Nat) (i : Int) (H : Heap) (locs : List Loc) (ls : Array Slot), (0 ≤ i) → (i ≤ x + 1) → (x + 1 - i < d) → va_P D vwCl (wl N b u) H → va_S (AA b) s.heap H locs → lv_has ls 4 [(3, .int (iI (i))), (1, .long (lI (sn (fun k => lq k - 1) i.toNat))), (0, .int (iI (x)))] → W p l e rm_c_swm s m args below meth c H locs 0 0 Q (F0 m 4 ls []) := by
    intro d
    induction d with
    | zero => intro i H locs ls hi0 hi1 hd hP hS hl; exfalso; omega
    | succ d ihlo =>
      intro i H locs ls hi0 hi1 hd hP hS hl
      refine lv_iload_n hx hb d_R_switchingMeter_4 rfl (lv_at hl 0 rfl) ?_
      refine lv_iload_n hx hb d_R_switchingMeter_5 rfl (lv_at hl 2 rfl) ?_
      refine x_icmp_gt (tgt := 26) hx hb ⟨by omega, by omega⟩ ⟨by omega, by omega⟩ d_R_switchingMeter_6 (by decide) (fun hc => ?_) (fun hc => ?_)
      · obtain rfl : i = x + 1 := by omega
        refine lv_ldc2 hx hb hown kk0 d_R_switchingMeter_26 ?_
        refine x_l (y := lI (136)) (by decide +kernel) ?_
        refine lv_lload_n hx hb d_R_switchingMeter_29 rfl (lv_at hl 1 rfl) ?_
        refine x_lmul hx hb d_R_switchingMeter_30 ?_
        refine x_le (y := 136 * gdg x) (rfl) ?_
        exact ret _ u H locs 31 ls ⟨rfl, rfl⟩ hP hS d_R_switchingMeter_31
      · have hlq := lq_bd i
        refine lv_lload_n hx hb d_R_switchingMeter_9 rfl (lv_at hl 1 rfl) ?_
        refine va_gets hx hb (ev_Z0 E) hS hown kk1 (fun _ h => h) d_R_switchingMeter_10 ?_
        refine lv_iload_n hx hb d_R_switchingMeter_13 rfl (lv_at hl 0 rfl) ?_
        refine x_ti hx hb (ev_T0 E) hS (by omega) (by omega) (by decide) d_R_switchingMeter_14 ?_
        refine lv_iconst (v := iI (1)) hx hb d_R_switchingMeter_15 rfl ?_
        refine x_isub hx hb d_R_switchingMeter_16 ?_
        refine x_i2l hx hb ⟨by omega, by omega⟩ d_R_switchingMeter_17 ?_
        refine x_ladd hx hb d_R_switchingMeter_18 ?_
        refine x_le (y := sn (fun k => lq k - 1) (i + 1).toNat) (by rw [sn_step _ hi0]) ?_
        refine lv_lstore_n (lv' := [(1, .long (lI (sn (fun k => lq k - 1) (i + 1).toNat))), (3, .int (iI (i))), (0, .int (iI (x)))]) hx hb d_R_switchingMeter_19 rfl hl (by decide) rfl (fun ls hl => ?_)
        refine lv_iinc (k := 1) (v := iI (i + 1)) (lv' := [(3, .int (iI (i + 1))), (1, .long (lI (sn (fun k => lq k - 1) (i + 1).toNat))), (0, .int (iI (x)))]) hx hb d_R_switchingMeter_20 hl rfl (iI_add _ _) (by decide) rfl (fun ls hl => ?_)
        refine lv_goto (tgt := 4) hx hb d_R_switchingMeter_23 (by decide) ?_
        have hl : lv_has ls 4 [(3, .int (iI (i + 1))), (1, .long (lI (sn (fun k => lq k - 1) (i + 1).toNat))), (0, .int (iI (x)))] := lv_sub hl [0, 1, 2] rfl
        exact ihlo (i + 1) H locs ls (by omega) (by omega) (by omega) hP hS hl
  exact lo (x + 2).toNat 0 H locs ls (by omega) (by omega) (by omega) hP hS hl
end
