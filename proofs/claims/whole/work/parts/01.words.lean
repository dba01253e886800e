-- the words of the tables that stay; a row for each: it is among them
def TB : List Cond := lw_tbl.filter goodWord
theorem tb_of {w : Cond} (h : w ∈ tables_1) (g : goodWord w = true) : w ∈ TB := List.mem_filter.mpr ⟨List.mem_append_right _ h, g⟩
theorem tb_sel (q : MethodName × Nat) (h : q ∈ lw_privs) : Cond.selects q.1.cls q.1 q.1 ∈ TB := List.mem_filter.mpr ⟨List.mem_append_left _ (List.mem_map.mpr ⟨q, h, rfl⟩), rfl⟩
theorem goodIn_sb {big ws : List Cond} (hm : ∀ w ∈ ws, w ∈ big) (h : ws.all goodWord = true) : GoodIn big ws := fun w hw => ⟨hm w hw, good_of_word (List.all_eq_true.mp h w hw)⟩
theorem gC {c0 c1 : Cond} (h : c1 ∈ TB) : GoodIn (c0 :: TB) (c1 :: TB) := goodIn_sb (List.forall_mem_cons.mpr ⟨List.mem_cons_of_mem _ h, fun _ h => List.mem_cons_of_mem _ h⟩) (List.all_eq_true.mpr (List.forall_mem_cons.mpr ⟨(List.mem_filter.mp h).2, fun _ h => (List.mem_filter.mp h).2⟩))
theorem gA {c0 : Cond} {a b : List Cond} (ha : ∀ w ∈ a, w ∈ TB) (hb : GoodIn (c0 :: TB) b) : GoodIn (c0 :: TB) (a ++ b) := fun w h => (List.mem_append.mp h).elim (fun h => ⟨List.mem_cons_of_mem _ (ha w h), good_of_word (List.mem_filter.mp (ha w h)).2⟩) (hb w)
theorem gV {c0 : Cond} {own C : String} {idx n : Nat} {y : MethodName} {cc : ByteArray} {r : Option FieldType} (h1 : Cond.methodLink own idx y ∈ TB) (h2 : Cond.instanceMethod y ∈ TB) (h3 : Cond.selects C y y ∈ TB) (h4 : Cond.initialized C ∈ TB) (h5 : Cond.code y cc n r ∈ TB) : GoodIn (c0 :: TB) (wsV own idx C y (Cond.code y cc n r :: TB)) := gA (List.forall_mem_cons.mpr ⟨h1, List.forall_mem_cons.mpr ⟨h2, List.forall_mem_cons.mpr ⟨h3, List.forall_mem_cons.mpr ⟨h4, fun _ h => absurd h List.not_mem_nil⟩⟩⟩⟩) (gC h5)
theorem gS {c0 : Cond} {own : String} {idx n : Nat} {y : MethodName} {cc : ByteArray} {r : Option FieldType} (h1 : Cond.methodLink own idx y ∈ TB) (h2 : Cond.static y ∈ TB) (h3 : Cond.initialized own ∈ TB) (h5 : Cond.code y cc n r ∈ TB) : GoodIn (c0 :: TB) (wsS own idx y (Cond.code y cc n r :: TB)) := gA (List.forall_mem_cons.mpr ⟨h1, List.forall_mem_cons.mpr ⟨h2, List.forall_mem_cons.mpr ⟨h3, fun _ h => absurd h List.not_mem_nil⟩⟩⟩) (gC h5)
theorem tb_good : TB.all goodWord = true := List.all_eq_true.mpr fun _ h => (List.mem_filter.mp h).2
theorem t_0 : (Jvm.Cond.initialized "LevelledRingLaw") ∈ TB := tb_of (List.mem_of_getElem? (i := 0) (by decide +kernel)) (by decide +kernel)
theorem t_1 : (Jvm.Cond.initialized "LevelledRing") ∈ TB := tb_of (List.mem_of_getElem? (i := 1) (by decide +kernel)) (by decide +kernel)
theorem t_2 : (Jvm.Cond.initialized "LevelledRing$Drawing") ∈ TB := tb_of (List.mem_of_getElem? (i := 2) (by decide +kernel)) (by decide +kernel)
theorem t_3 : (Jvm.Cond.initialized "LevelledRing$Poly") ∈ TB := tb_of (List.mem_of_getElem? (i := 3) (by decide +kernel)) (by decide +kernel)
theorem t_4 : (Jvm.Cond.initialized "LevelledRing$Value") ∈ TB := tb_of (List.mem_of_getElem? (i := 4) (by decide +kernel)) (by decide +kernel)
theorem t_5 : (Jvm.Cond.initialized "LevelledRing$Keys") ∈ TB := tb_of (List.mem_of_getElem? (i := 5) (by decide +kernel)) (by decide +kernel)
theorem t_6 : (Jvm.Cond.initialized "LevelledRing$Gate") ∈ TB := tb_of (List.mem_of_getElem? (i := 6) (by decide +kernel)) (by decide +kernel)
theorem t_7 : (Jvm.Cond.initialized "java/lang/Enum") ∈ TB := tb_of (List.mem_of_getElem? (i := 7) (by decide +kernel)) (by decide +kernel)
theorem t_8 : (Jvm.Cond.initialized "LevelledRing$Kind") ∈ TB := tb_of (List.mem_of_getElem? (i := 8) (by decide +kernel)) (by decide +kernel)
theorem t_9 : (Jvm.Cond.initialized "LevelledRingModel") ∈ TB := tb_of (List.mem_of_getElem? (i := 9) (by decide +kernel)) (by decide +kernel)
theorem t_10 : (Jvm.Cond.initialized "java/lang/Math") ∈ TB := tb_of (List.mem_of_getElem? (i := 10) (by decide +kernel)) (by decide +kernel)
theorem t_11 : (Jvm.Cond.initialized "java/lang/System") ∈ TB := tb_of (List.mem_of_getElem? (i := 11) (by decide +kernel)) (by decide +kernel)
theorem t_12 : (Jvm.Cond.initialized "LevelledRing$1") ∈ TB := tb_of (List.mem_of_getElem? (i := 12) (by decide +kernel)) (by decide +kernel)
theorem t_13 : (Jvm.Cond.classLink "LevelledRingLaw" (7 : Nat) "LevelledRing") ∈ TB := tb_of (List.mem_of_getElem? (i := 13) (by decide +kernel)) (by decide +kernel)
theorem t_14 : (Jvm.Cond.instantiable "LevelledRing" (11 : Nat)) ∈ TB := tb_of (List.mem_of_getElem? (i := 14) (by decide +kernel)) (by decide +kernel)
theorem t_15 : (Jvm.Cond.methodLink "LevelledRingLaw" (15 : Nat) ({ cls := "LevelledRing", name := "<init>", desc := "(I)V" } : Jvm.MethodName)) ∈ TB := tb_of (List.mem_of_getElem? (i := 15) (by decide +kernel)) (by decide +kernel)
theorem t_16 : (Jvm.Cond.instanceMethod ({ cls := "LevelledRing", name := "<init>", desc := "(I)V" } : Jvm.MethodName)) ∈ TB := tb_of (List.mem_of_getElem? (i := 16) (by decide +kernel)) (by decide +kernel)
theorem t_17 : (Jvm.Cond.code ({ cls := "LevelledRing", name := "<init>", desc := "(I)V" } : Jvm.MethodName) prog_1_method_1_code (3 : Nat) (Option.none : Option Jvm.ClassFile.FieldType)) ∈ TB := tb_of (List.mem_of_getElem? (i := 17) (by decide +kernel)) (by decide +kernel)
theorem t_18 : (Jvm.Cond.methodLink "LevelledRing" (3 : Nat) ({ cls := "java/lang/Object", name := "<init>", desc := "()V" } : Jvm.MethodName)) ∈ TB := tb_of (List.mem_of_getElem? (i := 18) (by decide +kernel)) (by decide +kernel)
theorem t_19 : (Jvm.Cond.instanceMethod ({ cls := "java/lang/Object", name := "<init>", desc := "()V" } : Jvm.MethodName)) ∈ TB := tb_of (List.mem_of_getElem? (i := 19) (by decide +kernel)) (by decide +kernel)
theorem t_20 : (Jvm.Cond.code ({ cls := "java/lang/Object", name := "<init>", desc := "()V" } : Jvm.MethodName) object_method_1_code (1 : Nat) (Option.none : Option Jvm.ClassFile.FieldType)) ∈ TB := tb_of (List.mem_of_getElem? (i := 20) (by decide +kernel)) (by decide +kernel)
theorem t_21 : (Jvm.Cond.classLink "LevelledRing" (9 : Nat) "LevelledRing$Drawing") ∈ TB := tb_of (List.mem_of_getElem? (i := 21) (by decide +kernel)) (by decide +kernel)
theorem t_22 : (Jvm.Cond.instantiable "LevelledRing$Drawing" (1 : Nat)) ∈ TB := tb_of (List.mem_of_getElem? (i := 22) (by decide +kernel)) (by decide +kernel)
theorem t_24 : (Jvm.Cond.instanceMethod ({ cls := "LevelledRing$Drawing", name := "<init>", desc := "()V" } : Jvm.MethodName)) ∈ TB := tb_of (List.mem_of_getElem? (i := 24) (by decide +kernel)) (by decide +kernel)
theorem t_25 : (Jvm.Cond.code ({ cls := "LevelledRing$Drawing", name := "<init>", desc := "()V" } : Jvm.MethodName) prog_3_method_1_code (1 : Nat) (Option.none : Option Jvm.ClassFile.FieldType)) ∈ TB := tb_of (List.mem_of_getElem? (i := 25) (by decide +kernel)) (by decide +kernel)
theorem t_26 : (Jvm.Cond.methodLink "LevelledRing$Drawing" (1 : Nat) ({ cls := "java/lang/Object", name := "<init>", desc := "()V" } : Jvm.MethodName)) ∈ TB := tb_of (List.mem_of_getElem? (i := 26) (by decide +kernel)) (by decide +kernel)
theorem t_27 : (Jvm.Cond.fieldLink "LevelledRing$Drawing" (7 : Nat) "LevelledRing$Drawing" "z" "I") ∈ TB := tb_of (List.mem_of_getElem? (i := 27) (by decide +kernel)) (by decide +kernel)
theorem t_28 : (Jvm.Cond.lays "LevelledRing$Drawing" "LevelledRing$Drawing" "z" "I") ∈ TB := tb_of (List.mem_of_getElem? (i := 28) (by decide +kernel)) (by decide +kernel)
theorem t_29 : (Jvm.Cond.soleField "LevelledRing$Drawing" "z") ∈ TB := tb_of (List.mem_of_getElem? (i := 29) (by decide +kernel)) (by decide +kernel)
theorem t_30 : (Jvm.Cond.superclass "LevelledRing$Drawing" "java/lang/Object") ∈ TB := tb_of (List.mem_of_getElem? (i := 30) (by decide +kernel)) (by decide +kernel)
theorem t_31 : (Jvm.Cond.classLink "LevelledRing" (16 : Nat) "LevelledRing$Poly") ∈ TB := tb_of (List.mem_of_getElem? (i := 31) (by decide +kernel)) (by decide +kernel)
theorem t_32 : (Jvm.Cond.instantiable "LevelledRing$Poly" (2 : Nat)) ∈ TB := tb_of (List.mem_of_getElem? (i := 32) (by decide +kernel)) (by decide +kernel)
theorem t_33 : (Jvm.Cond.methodLink "LevelledRing" (18 : Nat) ({ cls := "LevelledRing$Poly", name := "<init>", desc := "(Z)V" } : Jvm.MethodName)) ∈ TB := tb_of (List.mem_of_getElem? (i := 33) (by decide +kernel)) (by decide +kernel)
theorem t_34 : (Jvm.Cond.instanceMethod ({ cls := "LevelledRing$Poly", name := "<init>", desc := "(Z)V" } : Jvm.MethodName)) ∈ TB := tb_of (List.mem_of_getElem? (i := 34) (by decide +kernel)) (by decide +kernel)
theorem t_35 : (Jvm.Cond.code ({ cls := "LevelledRing$Poly", name := "<init>", desc := "(Z)V" } : Jvm.MethodName) prog_7_method_1_code (2 : Nat) (Option.none : Option Jvm.ClassFile.FieldType)) ∈ TB := tb_of (List.mem_of_getElem? (i := 35) (by decide +kernel)) (by decide +kernel)
theorem t_36 : (Jvm.Cond.methodLink "LevelledRing$Poly" (3 : Nat) ({ cls := "java/lang/Object", name := "<init>", desc := "()V" } : Jvm.MethodName)) ∈ TB := tb_of (List.mem_of_getElem? (i := 36) (by decide +kernel)) (by decide +kernel)
theorem t_37 : (Jvm.Cond.fieldLink "LevelledRing$Poly" (9 : Nat) "LevelledRing$Poly" "small" "Z") ∈ TB := tb_of (List.mem_of_getElem? (i := 37) (by decide +kernel)) (by decide +kernel)
theorem t_38 : (Jvm.Cond.fieldLink "LevelledRing$Poly" (15 : Nat) "LevelledRing$Poly" "c" "[I") ∈ TB := tb_of (List.mem_of_getElem? (i := 38) (by decide +kernel)) (by decide +kernel)
theorem t_39 : (Jvm.Cond.fieldLink "LevelledRing" (75 : Nat) "LevelledRing$Poly" "c" "[I") ∈ TB := tb_of (List.mem_of_getElem? (i := 39) (by decide +kernel)) (by decide +kernel)
theorem t_40 : (Jvm.Cond.laysFinal "LevelledRing$Poly" "LevelledRing$Poly" "small" "Z") ∈ TB := tb_of (List.mem_of_getElem? (i := 40) (by decide +kernel)) (by decide +kernel)
theorem t_41 : (Jvm.Cond.soleField "LevelledRing$Poly" "small") ∈ TB := tb_of (List.mem_of_getElem? (i := 41) (by decide +kernel)) (by decide +kernel)
theorem t_42 : (Jvm.Cond.laysFinal "LevelledRing$Poly" "LevelledRing$Poly" "c" "[I") ∈ TB := tb_of (List.mem_of_getElem? (i := 42) (by decide +kernel)) (by decide +kernel)
theorem t_43 : (Jvm.Cond.soleField "LevelledRing$Poly" "c") ∈ TB := tb_of (List.mem_of_getElem? (i := 43) (by decide +kernel)) (by decide +kernel)
theorem t_44 : (Jvm.Cond.superclass "LevelledRing$Poly" "java/lang/Object") ∈ TB := tb_of (List.mem_of_getElem? (i := 44) (by decide +kernel)) (by decide +kernel)
theorem t_45 : (Jvm.Cond.arrayClass Jvm.ClassFile.FieldType.int) ∈ TB := tb_of (List.mem_of_getElem? (i := 45) (by decide +kernel)) (by decide +kernel)
theorem t_46 : (Jvm.Cond.classLink "LevelledRing" (25 : Nat) "LevelledRing$Gate") ∈ TB := tb_of (List.mem_of_getElem? (i := 46) (by decide +kernel)) (by decide +kernel)
theorem t_48 : (Jvm.Cond.classLink "LevelledRing" (38 : Nat) "LevelledRing$Value") ∈ TB := tb_of (List.mem_of_getElem? (i := 48) (by decide +kernel)) (by decide +kernel)
theorem t_49 : (Jvm.Cond.instantiable "LevelledRing$Value" (4 : Nat)) ∈ TB := tb_of (List.mem_of_getElem? (i := 49) (by decide +kernel)) (by decide +kernel)
theorem t_51 : (Jvm.Cond.instanceMethod ({ cls := "LevelledRing$Value", name := "<init>", desc := "()V" } : Jvm.MethodName)) ∈ TB := tb_of (List.mem_of_getElem? (i := 51) (by decide +kernel)) (by decide +kernel)
theorem t_52 : (Jvm.Cond.code ({ cls := "LevelledRing$Value", name := "<init>", desc := "()V" } : Jvm.MethodName) prog_8_method_1_code (1 : Nat) (Option.none : Option Jvm.ClassFile.FieldType)) ∈ TB := tb_of (List.mem_of_getElem? (i := 52) (by decide +kernel)) (by decide +kernel)
theorem t_53 : (Jvm.Cond.methodLink "LevelledRing$Value" (3 : Nat) ({ cls := "java/lang/Object", name := "<init>", desc := "()V" } : Jvm.MethodName)) ∈ TB := tb_of (List.mem_of_getElem? (i := 53) (by decide +kernel)) (by decide +kernel)
theorem t_54 : (Jvm.Cond.classLink "LevelledRing$Value" (19 : Nat) "LevelledRing$Poly") ∈ TB := tb_of (List.mem_of_getElem? (i := 54) (by decide +kernel)) (by decide +kernel)
theorem t_55 : (Jvm.Cond.methodLink "LevelledRing$Value" (21 : Nat) ({ cls := "LevelledRing$Poly", name := "<init>", desc := "(Z)V" } : Jvm.MethodName)) ∈ TB := tb_of (List.mem_of_getElem? (i := 55) (by decide +kernel)) (by decide +kernel)
theorem t_56 : (Jvm.Cond.fieldLink "LevelledRing$Value" (9 : Nat) "LevelledRing$Value" "level" "I") ∈ TB := tb_of (List.mem_of_getElem? (i := 56) (by decide +kernel)) (by decide +kernel)
theorem t_57 : (Jvm.Cond.fieldLink "LevelledRing" (142 : Nat) "LevelledRing$Value" "level" "I") ∈ TB := tb_of (List.mem_of_getElem? (i := 57) (by decide +kernel)) (by decide +kernel)
theorem t_58 : (Jvm.Cond.fieldLink "LevelledRing$Value" (15 : Nat) "LevelledRing$Value" "meter" "J") ∈ TB := tb_of (List.mem_of_getElem? (i := 58) (by decide +kernel)) (by decide +kernel)
theorem t_59 : (Jvm.Cond.fieldLink "LevelledRing" (145 : Nat) "LevelledRing$Value" "meter" "J") ∈ TB := tb_of (List.mem_of_getElem? (i := 59) (by decide +kernel)) (by decide +kernel)
theorem t_60 : (Jvm.Cond.fieldLink "LevelledRing$Value" (24 : Nat) "LevelledRing$Value" "c0" "LLevelledRing$Poly;") ∈ TB := tb_of (List.mem_of_getElem? (i := 60) (by decide +kernel)) (by decide +kernel)
theorem t_61 : (Jvm.Cond.fieldLink "LevelledRing" (167 : Nat) "LevelledRing$Value" "c0" "LLevelledRing$Poly;") ∈ TB := tb_of (List.mem_of_getElem? (i := 61) (by decide +kernel)) (by decide +kernel)
theorem t_62 : (Jvm.Cond.fieldLink "LevelledRing$Value" (28 : Nat) "LevelledRing$Value" "c1" "LLevelledRing$Poly;") ∈ TB := tb_of (List.mem_of_getElem? (i := 62) (by decide +kernel)) (by decide +kernel)
theorem t_63 : (Jvm.Cond.fieldLink "LevelledRing" (170 : Nat) "LevelledRing$Value" "c1" "LLevelledRing$Poly;") ∈ TB := tb_of (List.mem_of_getElem? (i := 63) (by decide +kernel)) (by decide +kernel)
theorem t_64 : (Jvm.Cond.lays "LevelledRing$Value" "LevelledRing$Value" "level" "I") ∈ TB := tb_of (List.mem_of_getElem? (i := 64) (by decide +kernel)) (by decide +kernel)
theorem t_65 : (Jvm.Cond.soleField "LevelledRing$Value" "level") ∈ TB := tb_of (List.mem_of_getElem? (i := 65) (by decide +kernel)) (by decide +kernel)
theorem t_66 : (Jvm.Cond.lays "LevelledRing$Value" "LevelledRing$Value" "meter" "J") ∈ TB := tb_of (List.mem_of_getElem? (i := 66) (by decide +kernel)) (by decide +kernel)
theorem t_67 : (Jvm.Cond.soleField "LevelledRing$Value" "meter") ∈ TB := tb_of (List.mem_of_getElem? (i := 67) (by decide +kernel)) (by decide +kernel)
theorem t_68 : (Jvm.Cond.laysFinal "LevelledRing$Value" "LevelledRing$Value" "c0" "LLevelledRing$Poly;") ∈ TB := tb_of (List.mem_of_getElem? (i := 68) (by decide +kernel)) (by decide +kernel)
theorem t_69 : (Jvm.Cond.soleField "LevelledRing$Value" "c0") ∈ TB := tb_of (List.mem_of_getElem? (i := 69) (by decide +kernel)) (by decide +kernel)
theorem t_70 : (Jvm.Cond.laysFinal "LevelledRing$Value" "LevelledRing$Value" "c1" "LLevelledRing$Poly;") ∈ TB := tb_of (List.mem_of_getElem? (i := 70) (by decide +kernel)) (by decide +kernel)
theorem t_71 : (Jvm.Cond.soleField "LevelledRing$Value" "c1") ∈ TB := tb_of (List.mem_of_getElem? (i := 71) (by decide +kernel)) (by decide +kernel)
theorem t_72 : (Jvm.Cond.superclass "LevelledRing$Value" "java/lang/Object") ∈ TB := tb_of (List.mem_of_getElem? (i := 72) (by decide +kernel)) (by decide +kernel)
theorem t_73 : (Jvm.Cond.methodLink "LevelledRing" (57 : Nat) ({ cls := "LevelledRing$Drawing", name := "start", desc := "(I)V" } : Jvm.MethodName)) ∈ TB := tb_of (List.mem_of_getElem? (i := 73) (by decide +kernel)) (by decide +kernel)
theorem t_74 : (Jvm.Cond.instanceMethod ({ cls := "LevelledRing$Drawing", name := "start", desc := "(I)V" } : Jvm.MethodName)) ∈ TB := tb_of (List.mem_of_getElem? (i := 74) (by decide +kernel)) (by decide +kernel)
theorem t_75 : (Jvm.Cond.selects "LevelledRing$Drawing" ({ cls := "LevelledRing$Drawing", name := "start", desc := "(I)V" } : Jvm.MethodName) ({ cls := "LevelledRing$Drawing", name := "start", desc := "(I)V" } : Jvm.MethodName)) ∈ TB := tb_of (List.mem_of_getElem? (i := 75) (by decide +kernel)) (by decide +kernel)
theorem t_76 : (Jvm.Cond.code ({ cls := "LevelledRing$Drawing", name := "start", desc := "(I)V" } : Jvm.MethodName) prog_3_method_2_code (2 : Nat) (Option.none : Option Jvm.ClassFile.FieldType)) ∈ TB := tb_of (List.mem_of_getElem? (i := 76) (by decide +kernel)) (by decide +kernel)
theorem t_77 : (Jvm.Cond.classLink "LevelledRing" (61 : Nat) "LevelledRing$Keys") ∈ TB := tb_of (List.mem_of_getElem? (i := 77) (by decide +kernel)) (by decide +kernel)
theorem t_78 : (Jvm.Cond.instantiable "LevelledRing$Keys" (3 : Nat)) ∈ TB := tb_of (List.mem_of_getElem? (i := 78) (by decide +kernel)) (by decide +kernel)
theorem t_79 : (Jvm.Cond.methodLink "LevelledRing" (63 : Nat) ({ cls := "LevelledRing$Keys", name := "<init>", desc := "(LLevelledRing$Drawing;)V" } : Jvm.MethodName)) ∈ TB := tb_of (List.mem_of_getElem? (i := 79) (by decide +kernel)) (by decide +kernel)
theorem t_80 : (Jvm.Cond.instanceMethod ({ cls := "LevelledRing$Keys", name := "<init>", desc := "(LLevelledRing$Drawing;)V" } : Jvm.MethodName)) ∈ TB := tb_of (List.mem_of_getElem? (i := 80) (by decide +kernel)) (by decide +kernel)
theorem t_81 : (Jvm.Cond.code ({ cls := "LevelledRing$Keys", name := "<init>", desc := "(LLevelledRing$Drawing;)V" } : Jvm.MethodName) prog_5_method_1_code (4 : Nat) (Option.none : Option Jvm.ClassFile.FieldType)) ∈ TB := tb_of (List.mem_of_getElem? (i := 81) (by decide +kernel)) (by decide +kernel)
theorem t_82 : (Jvm.Cond.methodLink "LevelledRing$Keys" (3 : Nat) ({ cls := "java/lang/Object", name := "<init>", desc := "()V" } : Jvm.MethodName)) ∈ TB := tb_of (List.mem_of_getElem? (i := 82) (by decide +kernel)) (by decide +kernel)
theorem t_83 : (Jvm.Cond.classLink "LevelledRing$Keys" (9 : Nat) "LevelledRing$Poly") ∈ TB := tb_of (List.mem_of_getElem? (i := 83) (by decide +kernel)) (by decide +kernel)
theorem t_84 : (Jvm.Cond.methodLink "LevelledRing$Keys" (11 : Nat) ({ cls := "LevelledRing$Poly", name := "<init>", desc := "(Z)V" } : Jvm.MethodName)) ∈ TB := tb_of (List.mem_of_getElem? (i := 84) (by decide +kernel)) (by decide +kernel)
theorem t_86 : (Jvm.Cond.methodLink "LevelledRing$Keys" (27 : Nat) ({ cls := "LevelledRing$Poly", name := "drawSmall", desc := "(LLevelledRing$Drawing;I)V" } : Jvm.MethodName)) ∈ TB := tb_of (List.mem_of_getElem? (i := 86) (by decide +kernel)) (by decide +kernel)
theorem t_87 : (Jvm.Cond.instanceMethod ({ cls := "LevelledRing$Poly", name := "drawSmall", desc := "(LLevelledRing$Drawing;I)V" } : Jvm.MethodName)) ∈ TB := tb_of (List.mem_of_getElem? (i := 87) (by decide +kernel)) (by decide +kernel)
theorem t_88 : (Jvm.Cond.selects "LevelledRing$Poly" ({ cls := "LevelledRing$Poly", name := "drawSmall", desc := "(LLevelledRing$Drawing;I)V" } : Jvm.MethodName) ({ cls := "LevelledRing$Poly", name := "drawSmall", desc := "(LLevelledRing$Drawing;I)V" } : Jvm.MethodName)) ∈ TB := tb_of (List.mem_of_getElem? (i := 88) (by decide +kernel)) (by decide +kernel)
theorem t_89 : (Jvm.Cond.code ({ cls := "LevelledRing$Poly", name := "drawSmall", desc := "(LLevelledRing$Drawing;I)V" } : Jvm.MethodName) prog_7_method_6_code (6 : Nat) (Option.none : Option Jvm.ClassFile.FieldType)) ∈ TB := tb_of (List.mem_of_getElem? (i := 89) (by decide +kernel)) (by decide +kernel)
theorem t_90 : (Jvm.Cond.methodLink "LevelledRing$Poly" (34 : Nat) ({ cls := "LevelledRing$Drawing", name := "draw", desc := "()I" } : Jvm.MethodName)) ∈ TB := tb_of (List.mem_of_getElem? (i := 90) (by decide +kernel)) (by decide +kernel)
theorem t_91 : (Jvm.Cond.instanceMethod ({ cls := "LevelledRing$Drawing", name := "draw", desc := "()I" } : Jvm.MethodName)) ∈ TB := tb_of (List.mem_of_getElem? (i := 91) (by decide +kernel)) (by decide +kernel)
theorem t_92 : (Jvm.Cond.selects "LevelledRing$Drawing" ({ cls := "LevelledRing$Drawing", name := "draw", desc := "()I" } : Jvm.MethodName) ({ cls := "LevelledRing$Drawing", name := "draw", desc := "()I" } : Jvm.MethodName)) ∈ TB := tb_of (List.mem_of_getElem? (i := 92) (by decide +kernel)) (by decide +kernel)
theorem t_93 : (Jvm.Cond.code ({ cls := "LevelledRing$Drawing", name := "draw", desc := "()I" } : Jvm.MethodName) prog_3_method_3_code (1 : Nat) (Option.some Jvm.ClassFile.FieldType.int)) ∈ TB := tb_of (List.mem_of_getElem? (i := 93) (by decide +kernel)) (by decide +kernel)
theorem t_94 : (Jvm.Cond.constant "LevelledRing$Drawing" (13 : Nat) (1664525 : Int32)) ∈ TB := tb_of (List.mem_of_getElem? (i := 94) (by decide +kernel)) (by decide +kernel)
theorem t_95 : (Jvm.Cond.constant "LevelledRing$Drawing" (14 : Nat) (1013904223 : Int32)) ∈ TB := tb_of (List.mem_of_getElem? (i := 95) (by decide +kernel)) (by decide +kernel)
theorem t_99 : (Jvm.Cond.static ({ cls := "LevelledRing", name := "modulo", desc := "(JI)I" } : Jvm.MethodName)) ∈ TB := tb_of (List.mem_of_getElem? (i := 99) (by decide +kernel)) (by decide +kernel)
theorem t_100 : (Jvm.Cond.code ({ cls := "LevelledRing", name := "modulo", desc := "(JI)I" } : Jvm.MethodName) prog_1_method_22_code (4 : Nat) (Option.some Jvm.ClassFile.FieldType.int)) ∈ TB := tb_of (List.mem_of_getElem? (i := 100) (by decide +kernel)) (by decide +kernel)
theorem t_101 : (Jvm.Cond.methodLink "LevelledRing$Keys" (31 : Nat) ({ cls := "LevelledRing$Poly", name := "addProduct", desc := "(ILLevelledRing$Poly;LLevelledRing$Poly;I)V" } : Jvm.MethodName)) ∈ TB := tb_of (List.mem_of_getElem? (i := 101) (by decide +kernel)) (by decide +kernel)
theorem t_102 : (Jvm.Cond.instanceMethod ({ cls := "LevelledRing$Poly", name := "addProduct", desc := "(ILLevelledRing$Poly;LLevelledRing$Poly;I)V" } : Jvm.MethodName)) ∈ TB := tb_of (List.mem_of_getElem? (i := 102) (by decide +kernel)) (by decide +kernel)
theorem t_103 : (Jvm.Cond.selects "LevelledRing$Poly" ({ cls := "LevelledRing$Poly", name := "addProduct", desc := "(ILLevelledRing$Poly;LLevelledRing$Poly;I)V" } : Jvm.MethodName) ({ cls := "LevelledRing$Poly", name := "addProduct", desc := "(ILLevelledRing$Poly;LLevelledRing$Poly;I)V" } : Jvm.MethodName)) ∈ TB := tb_of (List.mem_of_getElem? (i := 103) (by decide +kernel)) (by decide +kernel)
theorem t_104 : (Jvm.Cond.code ({ cls := "LevelledRing$Poly", name := "addProduct", desc := "(ILLevelledRing$Poly;LLevelledRing$Poly;I)V" } : Jvm.MethodName) prog_7_method_11_code (9 : Nat) (Option.none : Option Jvm.ClassFile.FieldType)) ∈ TB := tb_of (List.mem_of_getElem? (i := 104) (by decide +kernel)) (by decide +kernel)
theorem t_105 : (Jvm.Cond.methodLink "LevelledRing$Poly" (44 : Nat) ({ cls := "LevelledRing$Poly", name := "rowModulus", desc := "(I)I" } : Jvm.MethodName)) ∈ TB := tb_of (List.mem_of_getElem? (i := 105) (by decide +kernel)) (by decide +kernel)
theorem t_107 : (Jvm.Cond.instanceMethod ({ cls := "LevelledRing$Poly", name := "rowModulus", desc := "(I)I" } : Jvm.MethodName)) ∈ TB := tb_of (List.mem_of_getElem? (i := 107) (by decide +kernel)) (by decide +kernel)
theorem t_108 : (Jvm.Cond.code ({ cls := "LevelledRing$Poly", name := "rowModulus", desc := "(I)I" } : Jvm.MethodName) prog_7_method_2_code (2 : Nat) (Option.some Jvm.ClassFile.FieldType.int)) ∈ TB := tb_of (List.mem_of_getElem? (i := 108) (by decide +kernel)) (by decide +kernel)
theorem t_109 : (Jvm.Cond.methodLink "LevelledRing$Poly" (48 : Nat) ({ cls := "LevelledRing$Poly", name := "productCoefficient", desc := "(LLevelledRing$Poly;LLevelledRing$Poly;II)J" } : Jvm.MethodName)) ∈ TB := tb_of (List.mem_of_getElem? (i := 109) (by decide +kernel)) (by decide +kernel)
theorem t_110 : (Jvm.Cond.static ({ cls := "LevelledRing$Poly", name := "productCoefficient", desc := "(LLevelledRing$Poly;LLevelledRing$Poly;II)J" } : Jvm.MethodName)) ∈ TB := tb_of (List.mem_of_getElem? (i := 110) (by decide +kernel)) (by decide +kernel)
theorem t_111 : (Jvm.Cond.code ({ cls := "LevelledRing$Poly", name := "productCoefficient", desc := "(LLevelledRing$Poly;LLevelledRing$Poly;II)J" } : Jvm.MethodName) prog_7_method_12_code (7 : Nat) (Option.some Jvm.ClassFile.FieldType.long)) ∈ TB := tb_of (List.mem_of_getElem? (i := 111) (by decide +kernel)) (by decide +kernel)
theorem t_112 : (Jvm.Cond.methodLink "LevelledRing$Keys" (35 : Nat) ({ cls := "LevelledRing$Keys", name := "drawHiddenZero", desc := "(LLevelledRing$Drawing;LLevelledRing$Poly;LLevelledRing$Poly;)V" } : Jvm.MethodName)) ∈ TB := tb_of (List.mem_of_getElem? (i := 112) (by decide +kernel)) (by decide +kernel)
theorem t_113 : (Jvm.Cond.instanceMethod ({ cls := "LevelledRing$Keys", name := "drawHiddenZero", desc := "(LLevelledRing$Drawing;LLevelledRing$Poly;LLevelledRing$Poly;)V" } : Jvm.MethodName)) ∈ TB := tb_of (List.mem_of_getElem? (i := 113) (by decide +kernel)) (by decide +kernel)
theorem t_114 : (Jvm.Cond.selects "LevelledRing$Keys" ({ cls := "LevelledRing$Keys", name := "drawHiddenZero", desc := "(LLevelledRing$Drawing;LLevelledRing$Poly;LLevelledRing$Poly;)V" } : Jvm.MethodName) ({ cls := "LevelledRing$Keys", name := "drawHiddenZero", desc := "(LLevelledRing$Drawing;LLevelledRing$Poly;LLevelledRing$Poly;)V" } : Jvm.MethodName)) ∈ TB := tb_of (List.mem_of_getElem? (i := 114) (by decide +kernel)) (by decide +kernel)
theorem t_115 : (Jvm.Cond.code ({ cls := "LevelledRing$Keys", name := "drawHiddenZero", desc := "(LLevelledRing$Drawing;LLevelledRing$Poly;LLevelledRing$Poly;)V" } : Jvm.MethodName) prog_5_method_2_code (4 : Nat) (Option.none : Option Jvm.ClassFile.FieldType)) ∈ TB := tb_of (List.mem_of_getElem? (i := 115) (by decide +kernel)) (by decide +kernel)
theorem t_116 : (Jvm.Cond.methodLink "LevelledRing$Keys" (43 : Nat) ({ cls := "LevelledRing$Poly", name := "drawUniform", desc := "(LLevelledRing$Drawing;)V" } : Jvm.MethodName)) ∈ TB := tb_of (List.mem_of_getElem? (i := 116) (by decide +kernel)) (by decide +kernel)
theorem t_117 : (Jvm.Cond.instanceMethod ({ cls := "LevelledRing$Poly", name := "drawUniform", desc := "(LLevelledRing$Drawing;)V" } : Jvm.MethodName)) ∈ TB := tb_of (List.mem_of_getElem? (i := 117) (by decide +kernel)) (by decide +kernel)
theorem t_118 : (Jvm.Cond.selects "LevelledRing$Poly" ({ cls := "LevelledRing$Poly", name := "drawUniform", desc := "(LLevelledRing$Drawing;)V" } : Jvm.MethodName) ({ cls := "LevelledRing$Poly", name := "drawUniform", desc := "(LLevelledRing$Drawing;)V" } : Jvm.MethodName)) ∈ TB := tb_of (List.mem_of_getElem? (i := 118) (by decide +kernel)) (by decide +kernel)
theorem t_119 : (Jvm.Cond.code ({ cls := "LevelledRing$Poly", name := "drawUniform", desc := "(LLevelledRing$Drawing;)V" } : Jvm.MethodName) prog_7_method_5_code (4 : Nat) (Option.none : Option Jvm.ClassFile.FieldType)) ∈ TB := tb_of (List.mem_of_getElem? (i := 119) (by decide +kernel)) (by decide +kernel)
theorem t_120 : (Jvm.Cond.methodLink "LevelledRing$Keys" (39 : Nat) ({ cls := "LevelledRing$Poly", name := "addRow", desc := "(LLevelledRing$Poly;I)V" } : Jvm.MethodName)) ∈ TB := tb_of (List.mem_of_getElem? (i := 120) (by decide +kernel)) (by decide +kernel)
theorem t_121 : (Jvm.Cond.instanceMethod ({ cls := "LevelledRing$Poly", name := "addRow", desc := "(LLevelledRing$Poly;I)V" } : Jvm.MethodName)) ∈ TB := tb_of (List.mem_of_getElem? (i := 121) (by decide +kernel)) (by decide +kernel)
theorem t_122 : (Jvm.Cond.selects "LevelledRing$Poly" ({ cls := "LevelledRing$Poly", name := "addRow", desc := "(LLevelledRing$Poly;I)V" } : Jvm.MethodName) ({ cls := "LevelledRing$Poly", name := "addRow", desc := "(LLevelledRing$Poly;I)V" } : Jvm.MethodName)) ∈ TB := tb_of (List.mem_of_getElem? (i := 122) (by decide +kernel)) (by decide +kernel)
theorem t_123 : (Jvm.Cond.code ({ cls := "LevelledRing$Poly", name := "addRow", desc := "(LLevelledRing$Poly;I)V" } : Jvm.MethodName) prog_7_method_8_code (4 : Nat) (Option.none : Option Jvm.ClassFile.FieldType)) ∈ TB := tb_of (List.mem_of_getElem? (i := 123) (by decide +kernel)) (by decide +kernel)
theorem t_124 : (Jvm.Cond.fieldLink "LevelledRing$Keys" (14 : Nat) "LevelledRing$Keys" "secret" "LLevelledRing$Poly;") ∈ TB := tb_of (List.mem_of_getElem? (i := 124) (by decide +kernel)) (by decide +kernel)
theorem t_125 : (Jvm.Cond.fieldLink "LevelledRing" (176 : Nat) "LevelledRing$Keys" "secret" "LLevelledRing$Poly;") ∈ TB := tb_of (List.mem_of_getElem? (i := 125) (by decide +kernel)) (by decide +kernel)
theorem t_126 : (Jvm.Cond.fieldLink "LevelledRing$Keys" (20 : Nat) "LevelledRing$Keys" "a" "[LLevelledRing$Poly;") ∈ TB := tb_of (List.mem_of_getElem? (i := 126) (by decide +kernel)) (by decide +kernel)
theorem t_127 : (Jvm.Cond.fieldLink "LevelledRing" (288 : Nat) "LevelledRing$Keys" "a" "[LLevelledRing$Poly;") ∈ TB := tb_of (List.mem_of_getElem? (i := 127) (by decide +kernel)) (by decide +kernel)
theorem t_128 : (Jvm.Cond.fieldLink "LevelledRing$Keys" (24 : Nat) "LevelledRing$Keys" "b" "[LLevelledRing$Poly;") ∈ TB := tb_of (List.mem_of_getElem? (i := 128) (by decide +kernel)) (by decide +kernel)
theorem t_129 : (Jvm.Cond.fieldLink "LevelledRing" (285 : Nat) "LevelledRing$Keys" "b" "[LLevelledRing$Poly;") ∈ TB := tb_of (List.mem_of_getElem? (i := 129) (by decide +kernel)) (by decide +kernel)
theorem t_130 : (Jvm.Cond.laysFinal "LevelledRing$Keys" "LevelledRing$Keys" "secret" "LLevelledRing$Poly;") ∈ TB := tb_of (List.mem_of_getElem? (i := 130) (by decide +kernel)) (by decide +kernel)
theorem t_131 : (Jvm.Cond.soleField "LevelledRing$Keys" "secret") ∈ TB := tb_of (List.mem_of_getElem? (i := 131) (by decide +kernel)) (by decide +kernel)
theorem t_132 : (Jvm.Cond.laysFinal "LevelledRing$Keys" "LevelledRing$Keys" "a" "[LLevelledRing$Poly;") ∈ TB := tb_of (List.mem_of_getElem? (i := 132) (by decide +kernel)) (by decide +kernel)
theorem t_133 : (Jvm.Cond.soleField "LevelledRing$Keys" "a") ∈ TB := tb_of (List.mem_of_getElem? (i := 133) (by decide +kernel)) (by decide +kernel)
theorem t_134 : (Jvm.Cond.laysFinal "LevelledRing$Keys" "LevelledRing$Keys" "b" "[LLevelledRing$Poly;") ∈ TB := tb_of (List.mem_of_getElem? (i := 134) (by decide +kernel)) (by decide +kernel)
theorem t_135 : (Jvm.Cond.soleField "LevelledRing$Keys" "b") ∈ TB := tb_of (List.mem_of_getElem? (i := 135) (by decide +kernel)) (by decide +kernel)
theorem t_136 : (Jvm.Cond.superclass "LevelledRing$Keys" "java/lang/Object") ∈ TB := tb_of (List.mem_of_getElem? (i := 136) (by decide +kernel)) (by decide +kernel)
theorem t_137 : (Jvm.Cond.instantiable "LevelledRing$Gate" (6 : Nat)) ∈ TB := tb_of (List.mem_of_getElem? (i := 137) (by decide +kernel)) (by decide +kernel)
theorem t_139 : (Jvm.Cond.instanceMethod ({ cls := "LevelledRing$Gate", name := "<init>", desc := "()V" } : Jvm.MethodName)) ∈ TB := tb_of (List.mem_of_getElem? (i := 139) (by decide +kernel)) (by decide +kernel)
theorem t_140 : (Jvm.Cond.code ({ cls := "LevelledRing$Gate", name := "<init>", desc := "()V" } : Jvm.MethodName) prog_4_method_1_code (1 : Nat) (Option.none : Option Jvm.ClassFile.FieldType)) ∈ TB := tb_of (List.mem_of_getElem? (i := 140) (by decide +kernel)) (by decide +kernel)
theorem t_141 : (Jvm.Cond.methodLink "LevelledRing$Gate" (3 : Nat) ({ cls := "java/lang/Object", name := "<init>", desc := "()V" } : Jvm.MethodName)) ∈ TB := tb_of (List.mem_of_getElem? (i := 141) (by decide +kernel)) (by decide +kernel)
theorem t_142 : (Jvm.Cond.fieldLink "LevelledRing$Gate" (9 : Nat) "LevelledRing$Kind" "INPUT" "LLevelledRing$Kind;") ∈ TB := tb_of (List.mem_of_getElem? (i := 142) (by decide +kernel)) (by decide +kernel)
theorem t_144 : (Jvm.Cond.classLink "LevelledRing$Gate" (30 : Nat) "LevelledRing$Poly") ∈ TB := tb_of (List.mem_of_getElem? (i := 144) (by decide +kernel)) (by decide +kernel)
theorem t_145 : (Jvm.Cond.methodLink "LevelledRing$Gate" (32 : Nat) ({ cls := "LevelledRing$Poly", name := "<init>", desc := "(Z)V" } : Jvm.MethodName)) ∈ TB := tb_of (List.mem_of_getElem? (i := 145) (by decide +kernel)) (by decide +kernel)
theorem t_146 : (Jvm.Cond.classLink "LevelledRing$Gate" (39 : Nat) "LevelledRing$Value") ∈ TB := tb_of (List.mem_of_getElem? (i := 146) (by decide +kernel)) (by decide +kernel)
theorem t_148 : (Jvm.Cond.fieldLink "LevelledRing$Gate" (15 : Nat) "LevelledRing$Gate" "kind" "LLevelledRing$Kind;") ∈ TB := tb_of (List.mem_of_getElem? (i := 148) (by decide +kernel)) (by decide +kernel)
theorem t_149 : (Jvm.Cond.fieldLink "LevelledRing" (190 : Nat) "LevelledRing$Gate" "kind" "LLevelledRing$Kind;") ∈ TB := tb_of (List.mem_of_getElem? (i := 149) (by decide +kernel)) (by decide +kernel)
theorem t_150 : (Jvm.Cond.fieldLink "LevelledRing$Gate" (20 : Nat) "LevelledRing$Gate" "a" "I") ∈ TB := tb_of (List.mem_of_getElem? (i := 150) (by decide +kernel)) (by decide +kernel)
theorem t_151 : (Jvm.Cond.fieldLink "LevelledRing" (229 : Nat) "LevelledRing$Gate" "a" "I") ∈ TB := tb_of (List.mem_of_getElem? (i := 151) (by decide +kernel)) (by decide +kernel)
theorem t_152 : (Jvm.Cond.fieldLink "LevelledRing$Gate" (24 : Nat) "LevelledRing$Gate" "b" "I") ∈ TB := tb_of (List.mem_of_getElem? (i := 152) (by decide +kernel)) (by decide +kernel)
theorem t_153 : (Jvm.Cond.fieldLink "LevelledRing" (254 : Nat) "LevelledRing$Gate" "b" "I") ∈ TB := tb_of (List.mem_of_getElem? (i := 153) (by decide +kernel)) (by decide +kernel)
theorem t_154 : (Jvm.Cond.fieldLink "LevelledRing$Gate" (27 : Nat) "LevelledRing$Gate" "number" "I") ∈ TB := tb_of (List.mem_of_getElem? (i := 154) (by decide +kernel)) (by decide +kernel)
theorem t_155 : (Jvm.Cond.fieldLink "LevelledRing" (207 : Nat) "LevelledRing$Gate" "number" "I") ∈ TB := tb_of (List.mem_of_getElem? (i := 155) (by decide +kernel)) (by decide +kernel)
theorem t_156 : (Jvm.Cond.fieldLink "LevelledRing$Gate" (35 : Nat) "LevelledRing$Gate" "plain" "LLevelledRing$Poly;") ∈ TB := tb_of (List.mem_of_getElem? (i := 156) (by decide +kernel)) (by decide +kernel)
theorem t_157 : (Jvm.Cond.fieldLink "LevelledRing" (93 : Nat) "LevelledRing$Gate" "plain" "LLevelledRing$Poly;") ∈ TB := tb_of (List.mem_of_getElem? (i := 157) (by decide +kernel)) (by decide +kernel)
theorem t_158 : (Jvm.Cond.fieldLink "LevelledRing$Gate" (42 : Nat) "LevelledRing$Gate" "value" "LLevelledRing$Value;") ∈ TB := tb_of (List.mem_of_getElem? (i := 158) (by decide +kernel)) (by decide +kernel)
theorem t_159 : (Jvm.Cond.fieldLink "LevelledRing" (139 : Nat) "LevelledRing$Gate" "value" "LLevelledRing$Value;") ∈ TB := tb_of (List.mem_of_getElem? (i := 159) (by decide +kernel)) (by decide +kernel)
theorem t_160 : (Jvm.Cond.lays "LevelledRing$Gate" "LevelledRing$Gate" "kind" "LLevelledRing$Kind;") ∈ TB := tb_of (List.mem_of_getElem? (i := 160) (by decide +kernel)) (by decide +kernel)
theorem t_161 : (Jvm.Cond.soleField "LevelledRing$Gate" "kind") ∈ TB := tb_of (List.mem_of_getElem? (i := 161) (by decide +kernel)) (by decide +kernel)
theorem t_162 : (Jvm.Cond.lays "LevelledRing$Gate" "LevelledRing$Gate" "a" "I") ∈ TB := tb_of (List.mem_of_getElem? (i := 162) (by decide +kernel)) (by decide +kernel)
theorem t_163 : (Jvm.Cond.soleField "LevelledRing$Gate" "a") ∈ TB := tb_of (List.mem_of_getElem? (i := 163) (by decide +kernel)) (by decide +kernel)
theorem t_164 : (Jvm.Cond.lays "LevelledRing$Gate" "LevelledRing$Gate" "b" "I") ∈ TB := tb_of (List.mem_of_getElem? (i := 164) (by decide +kernel)) (by decide +kernel)
theorem t_165 : (Jvm.Cond.soleField "LevelledRing$Gate" "b") ∈ TB := tb_of (List.mem_of_getElem? (i := 165) (by decide +kernel)) (by decide +kernel)
theorem t_166 : (Jvm.Cond.lays "LevelledRing$Gate" "LevelledRing$Gate" "number" "I") ∈ TB := tb_of (List.mem_of_getElem? (i := 166) (by decide +kernel)) (by decide +kernel)
theorem t_167 : (Jvm.Cond.soleField "LevelledRing$Gate" "number") ∈ TB := tb_of (List.mem_of_getElem? (i := 167) (by decide +kernel)) (by decide +kernel)
theorem t_168 : (Jvm.Cond.laysFinal "LevelledRing$Gate" "LevelledRing$Gate" "plain" "LLevelledRing$Poly;") ∈ TB := tb_of (List.mem_of_getElem? (i := 168) (by decide +kernel)) (by decide +kernel)
theorem t_169 : (Jvm.Cond.soleField "LevelledRing$Gate" "plain") ∈ TB := tb_of (List.mem_of_getElem? (i := 169) (by decide +kernel)) (by decide +kernel)
theorem t_170 : (Jvm.Cond.laysFinal "LevelledRing$Gate" "LevelledRing$Gate" "value" "LLevelledRing$Value;") ∈ TB := tb_of (List.mem_of_getElem? (i := 170) (by decide +kernel)) (by decide +kernel)
theorem t_171 : (Jvm.Cond.soleField "LevelledRing$Gate" "value") ∈ TB := tb_of (List.mem_of_getElem? (i := 171) (by decide +kernel)) (by decide +kernel)
theorem t_172 : (Jvm.Cond.superclass "LevelledRing$Gate" "java/lang/Object") ∈ TB := tb_of (List.mem_of_getElem? (i := 172) (by decide +kernel)) (by decide +kernel)
theorem t_173 : (Jvm.Cond.fieldLink "LevelledRing" (12 : Nat) "LevelledRing" "drawing" "LLevelledRing$Drawing;") ∈ TB := tb_of (List.mem_of_getElem? (i := 173) (by decide +kernel)) (by decide +kernel)
theorem t_174 : (Jvm.Cond.fieldLink "LevelledRing" (66 : Nat) "LevelledRing" "keys" "LLevelledRing$Keys;") ∈ TB := tb_of (List.mem_of_getElem? (i := 174) (by decide +kernel)) (by decide +kernel)
theorem t_175 : (Jvm.Cond.fieldLink "LevelledRing" (21 : Nat) "LevelledRing" "message" "LLevelledRing$Poly;") ∈ TB := tb_of (List.mem_of_getElem? (i := 175) (by decide +kernel)) (by decide +kernel)
theorem t_176 : (Jvm.Cond.fieldLink "LevelledRing" (27 : Nat) "LevelledRing" "gates" "[LLevelledRing$Gate;") ∈ TB := tb_of (List.mem_of_getElem? (i := 176) (by decide +kernel)) (by decide +kernel)
theorem t_177 : (Jvm.Cond.fieldLink "LevelledRing" (31 : Nat) "LevelledRing" "gateCount" "I") ∈ TB := tb_of (List.mem_of_getElem? (i := 177) (by decide +kernel)) (by decide +kernel)
theorem t_178 : (Jvm.Cond.fieldLink "LevelledRing" (35 : Nat) "LevelledRing" "valueCount" "I") ∈ TB := tb_of (List.mem_of_getElem? (i := 178) (by decide +kernel)) (by decide +kernel)
theorem t_179 : (Jvm.Cond.fieldLink "LevelledRing" (41 : Nat) "LevelledRing" "left" "LLevelledRing$Value;") ∈ TB := tb_of (List.mem_of_getElem? (i := 179) (by decide +kernel)) (by decide +kernel)
theorem t_180 : (Jvm.Cond.fieldLink "LevelledRing" (45 : Nat) "LevelledRing" "right" "LLevelledRing$Value;") ∈ TB := tb_of (List.mem_of_getElem? (i := 180) (by decide +kernel)) (by decide +kernel)
theorem t_181 : (Jvm.Cond.fieldLink "LevelledRing" (48 : Nat) "LevelledRing" "square" "LLevelledRing$Poly;") ∈ TB := tb_of (List.mem_of_getElem? (i := 181) (by decide +kernel)) (by decide +kernel)
theorem t_182 : (Jvm.Cond.fieldLink "LevelledRing" (51 : Nat) "LevelledRing" "digit" "LLevelledRing$Poly;") ∈ TB := tb_of (List.mem_of_getElem? (i := 182) (by decide +kernel)) (by decide +kernel)
theorem t_183 : (Jvm.Cond.fieldLink "LevelledRing" (54 : Nat) "LevelledRing" "opened" "LLevelledRing$Poly;") ∈ TB := tb_of (List.mem_of_getElem? (i := 183) (by decide +kernel)) (by decide +kernel)
theorem t_184 : (Jvm.Cond.laysFinal "LevelledRing" "LevelledRing" "drawing" "LLevelledRing$Drawing;") ∈ TB := tb_of (List.mem_of_getElem? (i := 184) (by decide +kernel)) (by decide +kernel)
theorem t_185 : (Jvm.Cond.soleField "LevelledRing" "drawing") ∈ TB := tb_of (List.mem_of_getElem? (i := 185) (by decide +kernel)) (by decide +kernel)
theorem t_186 : (Jvm.Cond.laysFinal "LevelledRing" "LevelledRing" "keys" "LLevelledRing$Keys;") ∈ TB := tb_of (List.mem_of_getElem? (i := 186) (by decide +kernel)) (by decide +kernel)
theorem t_187 : (Jvm.Cond.soleField "LevelledRing" "keys") ∈ TB := tb_of (List.mem_of_getElem? (i := 187) (by decide +kernel)) (by decide +kernel)
theorem t_188 : (Jvm.Cond.laysFinal "LevelledRing" "LevelledRing" "message" "LLevelledRing$Poly;") ∈ TB := tb_of (List.mem_of_getElem? (i := 188) (by decide +kernel)) (by decide +kernel)
theorem t_189 : (Jvm.Cond.soleField "LevelledRing" "message") ∈ TB := tb_of (List.mem_of_getElem? (i := 189) (by decide +kernel)) (by decide +kernel)
theorem t_190 : (Jvm.Cond.laysFinal "LevelledRing" "LevelledRing" "gates" "[LLevelledRing$Gate;") ∈ TB := tb_of (List.mem_of_getElem? (i := 190) (by decide +kernel)) (by decide +kernel)
theorem t_191 : (Jvm.Cond.soleField "LevelledRing" "gates") ∈ TB := tb_of (List.mem_of_getElem? (i := 191) (by decide +kernel)) (by decide +kernel)
theorem t_192 : (Jvm.Cond.lays "LevelledRing" "LevelledRing" "gateCount" "I") ∈ TB := tb_of (List.mem_of_getElem? (i := 192) (by decide +kernel)) (by decide +kernel)
theorem t_193 : (Jvm.Cond.soleField "LevelledRing" "gateCount") ∈ TB := tb_of (List.mem_of_getElem? (i := 193) (by decide +kernel)) (by decide +kernel)
theorem t_194 : (Jvm.Cond.lays "LevelledRing" "LevelledRing" "valueCount" "I") ∈ TB := tb_of (List.mem_of_getElem? (i := 194) (by decide +kernel)) (by decide +kernel)
theorem t_195 : (Jvm.Cond.soleField "LevelledRing" "valueCount") ∈ TB := tb_of (List.mem_of_getElem? (i := 195) (by decide +kernel)) (by decide +kernel)
theorem t_196 : (Jvm.Cond.laysFinal "LevelledRing" "LevelledRing" "left" "LLevelledRing$Value;") ∈ TB := tb_of (List.mem_of_getElem? (i := 196) (by decide +kernel)) (by decide +kernel)
theorem t_197 : (Jvm.Cond.soleField "LevelledRing" "left") ∈ TB := tb_of (List.mem_of_getElem? (i := 197) (by decide +kernel)) (by decide +kernel)
theorem t_198 : (Jvm.Cond.laysFinal "LevelledRing" "LevelledRing" "right" "LLevelledRing$Value;") ∈ TB := tb_of (List.mem_of_getElem? (i := 198) (by decide +kernel)) (by decide +kernel)
theorem t_199 : (Jvm.Cond.soleField "LevelledRing" "right") ∈ TB := tb_of (List.mem_of_getElem? (i := 199) (by decide +kernel)) (by decide +kernel)
theorem t_200 : (Jvm.Cond.laysFinal "LevelledRing" "LevelledRing" "square" "LLevelledRing$Poly;") ∈ TB := tb_of (List.mem_of_getElem? (i := 200) (by decide +kernel)) (by decide +kernel)
theorem t_201 : (Jvm.Cond.soleField "LevelledRing" "square") ∈ TB := tb_of (List.mem_of_getElem? (i := 201) (by decide +kernel)) (by decide +kernel)
theorem t_202 : (Jvm.Cond.laysFinal "LevelledRing" "LevelledRing" "digit" "LLevelledRing$Poly;") ∈ TB := tb_of (List.mem_of_getElem? (i := 202) (by decide +kernel)) (by decide +kernel)
theorem t_203 : (Jvm.Cond.soleField "LevelledRing" "digit") ∈ TB := tb_of (List.mem_of_getElem? (i := 203) (by decide +kernel)) (by decide +kernel)
theorem t_204 : (Jvm.Cond.laysFinal "LevelledRing" "LevelledRing" "opened" "LLevelledRing$Poly;") ∈ TB := tb_of (List.mem_of_getElem? (i := 204) (by decide +kernel)) (by decide +kernel)
theorem t_205 : (Jvm.Cond.soleField "LevelledRing" "opened") ∈ TB := tb_of (List.mem_of_getElem? (i := 205) (by decide +kernel)) (by decide +kernel)
theorem t_206 : (Jvm.Cond.superclass "LevelledRing" "java/lang/Object") ∈ TB := tb_of (List.mem_of_getElem? (i := 206) (by decide +kernel)) (by decide +kernel)
theorem t_207 : (Jvm.Cond.methodLink "LevelledRingLaw" (21 : Nat) ({ cls := "LevelledRing", name := "put", desc := "(II)Z" } : Jvm.MethodName)) ∈ TB := tb_of (List.mem_of_getElem? (i := 207) (by decide +kernel)) (by decide +kernel)
theorem t_208 : (Jvm.Cond.instanceMethod ({ cls := "LevelledRing", name := "put", desc := "(II)Z" } : Jvm.MethodName)) ∈ TB := tb_of (List.mem_of_getElem? (i := 208) (by decide +kernel)) (by decide +kernel)
theorem t_209 : (Jvm.Cond.selects "LevelledRing" ({ cls := "LevelledRing", name := "put", desc := "(II)Z" } : Jvm.MethodName) ({ cls := "LevelledRing", name := "put", desc := "(II)Z" } : Jvm.MethodName)) ∈ TB := tb_of (List.mem_of_getElem? (i := 209) (by decide +kernel)) (by decide +kernel)
theorem t_210 : (Jvm.Cond.code ({ cls := "LevelledRing", name := "put", desc := "(II)Z" } : Jvm.MethodName) prog_1_method_2_code (3 : Nat) (Option.some Jvm.ClassFile.FieldType.boolean)) ∈ TB := tb_of (List.mem_of_getElem? (i := 210) (by decide +kernel)) (by decide +kernel)
theorem t_211 : (Jvm.Cond.methodLink "LevelledRing" (71 : Nat) ({ cls := "LevelledRing", name := "isCoefficient", desc := "(I)Z" } : Jvm.MethodName)) ∈ TB := tb_of (List.mem_of_getElem? (i := 211) (by decide +kernel)) (by decide +kernel)
theorem t_212 : (Jvm.Cond.static ({ cls := "LevelledRing", name := "isCoefficient", desc := "(I)Z" } : Jvm.MethodName)) ∈ TB := tb_of (List.mem_of_getElem? (i := 212) (by decide +kernel)) (by decide +kernel)
theorem t_213 : (Jvm.Cond.code ({ cls := "LevelledRing", name := "isCoefficient", desc := "(I)Z" } : Jvm.MethodName) prog_1_method_19_code (1 : Nat) (Option.some Jvm.ClassFile.FieldType.boolean)) ∈ TB := tb_of (List.mem_of_getElem? (i := 213) (by decide +kernel)) (by decide +kernel)
theorem t_214 : (Jvm.Cond.methodLink "LevelledRing" (79 : Nat) ({ cls := "LevelledRing", name := "modulo", desc := "(JI)I" } : Jvm.MethodName)) ∈ TB := tb_of (List.mem_of_getElem? (i := 214) (by decide +kernel)) (by decide +kernel)
theorem t_215 : (Jvm.Cond.methodLink "LevelledRingLaw" (26 : Nat) ({ cls := "LevelledRing", name := "input", desc := "(I)I" } : Jvm.MethodName)) ∈ TB := tb_of (List.mem_of_getElem? (i := 215) (by decide +kernel)) (by decide +kernel)
theorem t_216 : (Jvm.Cond.instanceMethod ({ cls := "LevelledRing", name := "input", desc := "(I)I" } : Jvm.MethodName)) ∈ TB := tb_of (List.mem_of_getElem? (i := 216) (by decide +kernel)) (by decide +kernel)
theorem t_217 : (Jvm.Cond.selects "LevelledRing" ({ cls := "LevelledRing", name := "input", desc := "(I)I" } : Jvm.MethodName) ({ cls := "LevelledRing", name := "input", desc := "(I)I" } : Jvm.MethodName)) ∈ TB := tb_of (List.mem_of_getElem? (i := 217) (by decide +kernel)) (by decide +kernel)
theorem t_218 : (Jvm.Cond.code ({ cls := "LevelledRing", name := "input", desc := "(I)I" } : Jvm.MethodName) prog_1_method_3_code (3 : Nat) (Option.some Jvm.ClassFile.FieldType.int)) ∈ TB := tb_of (List.mem_of_getElem? (i := 218) (by decide +kernel)) (by decide +kernel)
theorem t_219 : (Jvm.Cond.fieldLink "LevelledRing" (83 : Nat) "LevelledRing$Kind" "INPUT" "LLevelledRing$Kind;") ∈ TB := tb_of (List.mem_of_getElem? (i := 219) (by decide +kernel)) (by decide +kernel)
theorem t_220 : (Jvm.Cond.methodLink "LevelledRing" (89 : Nat) ({ cls := "LevelledRing$Gate", name := "become", desc := "(LLevelledRing$Kind;III)V" } : Jvm.MethodName)) ∈ TB := tb_of (List.mem_of_getElem? (i := 220) (by decide +kernel)) (by decide +kernel)
theorem t_221 : (Jvm.Cond.instanceMethod ({ cls := "LevelledRing$Gate", name := "become", desc := "(LLevelledRing$Kind;III)V" } : Jvm.MethodName)) ∈ TB := tb_of (List.mem_of_getElem? (i := 221) (by decide +kernel)) (by decide +kernel)
theorem t_222 : (Jvm.Cond.selects "LevelledRing$Gate" ({ cls := "LevelledRing$Gate", name := "become", desc := "(LLevelledRing$Kind;III)V" } : Jvm.MethodName) ({ cls := "LevelledRing$Gate", name := "become", desc := "(LLevelledRing$Kind;III)V" } : Jvm.MethodName)) ∈ TB := tb_of (List.mem_of_getElem? (i := 222) (by decide +kernel)) (by decide +kernel)
theorem t_223 : (Jvm.Cond.code ({ cls := "LevelledRing$Gate", name := "become", desc := "(LLevelledRing$Kind;III)V" } : Jvm.MethodName) prog_4_method_2_code (5 : Nat) (Option.none : Option Jvm.ClassFile.FieldType)) ∈ TB := tb_of (List.mem_of_getElem? (i := 223) (by decide +kernel)) (by decide +kernel)
theorem t_224 : (Jvm.Cond.methodLink "LevelledRing" (96 : Nat) ({ cls := "LevelledRing$Poly", name := "copyFrom", desc := "(LLevelledRing$Poly;)V" } : Jvm.MethodName)) ∈ TB := tb_of (List.mem_of_getElem? (i := 224) (by decide +kernel)) (by decide +kernel)
theorem t_225 : (Jvm.Cond.instanceMethod ({ cls := "LevelledRing$Poly", name := "copyFrom", desc := "(LLevelledRing$Poly;)V" } : Jvm.MethodName)) ∈ TB := tb_of (List.mem_of_getElem? (i := 225) (by decide +kernel)) (by decide +kernel)
theorem t_226 : (Jvm.Cond.selects "LevelledRing$Poly" ({ cls := "LevelledRing$Poly", name := "copyFrom", desc := "(LLevelledRing$Poly;)V" } : Jvm.MethodName) ({ cls := "LevelledRing$Poly", name := "copyFrom", desc := "(LLevelledRing$Poly;)V" } : Jvm.MethodName)) ∈ TB := tb_of (List.mem_of_getElem? (i := 226) (by decide +kernel)) (by decide +kernel)
theorem t_227 : (Jvm.Cond.code ({ cls := "LevelledRing$Poly", name := "copyFrom", desc := "(LLevelledRing$Poly;)V" } : Jvm.MethodName) prog_7_method_4_code (2 : Nat) (Option.none : Option Jvm.ClassFile.FieldType)) ∈ TB := tb_of (List.mem_of_getElem? (i := 227) (by decide +kernel)) (by decide +kernel)
theorem t_228 : (Jvm.Cond.methodLink "LevelledRing$Poly" (22 : Nat) ({ cls := "java/lang/Math", name := "min", desc := "(II)I" } : Jvm.MethodName)) ∈ TB := tb_of (List.mem_of_getElem? (i := 228) (by decide +kernel)) (by decide +kernel)
theorem t_229 : (Jvm.Cond.static ({ cls := "java/lang/Math", name := "min", desc := "(II)I" } : Jvm.MethodName)) ∈ TB := tb_of (List.mem_of_getElem? (i := 229) (by decide +kernel)) (by decide +kernel)
theorem t_230 : (Jvm.Cond.code ({ cls := "java/lang/Math", name := "min", desc := "(II)I" } : Jvm.MethodName) prog_12_method_69_code (2 : Nat) (Option.some Jvm.ClassFile.FieldType.int)) ∈ TB := tb_of (List.mem_of_getElem? (i := 230) (by decide +kernel)) (by decide +kernel)
theorem t_231 : (Jvm.Cond.methodLink "LevelledRing$Poly" (28 : Nat) ({ cls := "java/lang/System", name := "arraycopy", desc := "(Ljava/lang/Object;ILjava/lang/Object;II)V" } : Jvm.MethodName)) ∈ TB := tb_of (List.mem_of_getElem? (i := 231) (by decide +kernel)) (by decide +kernel)
theorem t_232 : (Jvm.Cond.static ({ cls := "java/lang/System", name := "arraycopy", desc := "(Ljava/lang/Object;ILjava/lang/Object;II)V" } : Jvm.MethodName)) ∈ TB := tb_of (List.mem_of_getElem? (i := 232) (by decide +kernel)) (by decide +kernel)
theorem t_233 : (Jvm.Cond.native ({ cls := "java/lang/System", name := "arraycopy", desc := "(Ljava/lang/Object;ILjava/lang/Object;II)V" } : Jvm.MethodName)) ∈ TB := tb_of (List.mem_of_getElem? (i := 233) (by decide +kernel)) (by decide +kernel)
theorem t_234 : (Jvm.Cond.methodLink "LevelledRing" (100 : Nat) ({ cls := "LevelledRing", name := "keepGate", desc := "()I" } : Jvm.MethodName)) ∈ TB := tb_of (List.mem_of_getElem? (i := 234) (by decide +kernel)) (by decide +kernel)
theorem t_236 : (Jvm.Cond.instanceMethod ({ cls := "LevelledRing", name := "keepGate", desc := "()I" } : Jvm.MethodName)) ∈ TB := tb_of (List.mem_of_getElem? (i := 236) (by decide +kernel)) (by decide +kernel)
theorem t_237 : (Jvm.Cond.code ({ cls := "LevelledRing", name := "keepGate", desc := "()I" } : Jvm.MethodName) prog_1_method_25_code (1 : Nat) (Option.some Jvm.ClassFile.FieldType.int)) ∈ TB := tb_of (List.mem_of_getElem? (i := 237) (by decide +kernel)) (by decide +kernel)
theorem t_238 : (Jvm.Cond.methodLink "LevelledRingLaw" (31 : Nat) ({ cls := "LevelledRing", name := "sum", desc := "(II)I" } : Jvm.MethodName)) ∈ TB := tb_of (List.mem_of_getElem? (i := 238) (by decide +kernel)) (by decide +kernel)
theorem t_239 : (Jvm.Cond.instanceMethod ({ cls := "LevelledRing", name := "sum", desc := "(II)I" } : Jvm.MethodName)) ∈ TB := tb_of (List.mem_of_getElem? (i := 239) (by decide +kernel)) (by decide +kernel)
theorem t_240 : (Jvm.Cond.selects "LevelledRing" ({ cls := "LevelledRing", name := "sum", desc := "(II)I" } : Jvm.MethodName) ({ cls := "LevelledRing", name := "sum", desc := "(II)I" } : Jvm.MethodName)) ∈ TB := tb_of (List.mem_of_getElem? (i := 240) (by decide +kernel)) (by decide +kernel)
theorem t_241 : (Jvm.Cond.code ({ cls := "LevelledRing", name := "sum", desc := "(II)I" } : Jvm.MethodName) prog_1_method_4_code (3 : Nat) (Option.some Jvm.ClassFile.FieldType.int)) ∈ TB := tb_of (List.mem_of_getElem? (i := 241) (by decide +kernel)) (by decide +kernel)
theorem t_242 : (Jvm.Cond.fieldLink "LevelledRing" (104 : Nat) "LevelledRing$Kind" "SUM" "LLevelledRing$Kind;") ∈ TB := tb_of (List.mem_of_getElem? (i := 242) (by decide +kernel)) (by decide +kernel)
theorem t_244 : (Jvm.Cond.methodLink "LevelledRing" (107 : Nat) ({ cls := "LevelledRing", name := "addGate", desc := "(LLevelledRing$Kind;III)I" } : Jvm.MethodName)) ∈ TB := tb_of (List.mem_of_getElem? (i := 244) (by decide +kernel)) (by decide +kernel)
theorem t_246 : (Jvm.Cond.instanceMethod ({ cls := "LevelledRing", name := "addGate", desc := "(LLevelledRing$Kind;III)I" } : Jvm.MethodName)) ∈ TB := tb_of (List.mem_of_getElem? (i := 246) (by decide +kernel)) (by decide +kernel)
theorem t_247 : (Jvm.Cond.code ({ cls := "LevelledRing", name := "addGate", desc := "(LLevelledRing$Kind;III)I" } : Jvm.MethodName) prog_1_method_24_code (6 : Nat) (Option.some Jvm.ClassFile.FieldType.int)) ∈ TB := tb_of (List.mem_of_getElem? (i := 247) (by decide +kernel)) (by decide +kernel)
theorem t_248 : (Jvm.Cond.methodLink "LevelledRing" (123 : Nat) ({ cls := "LevelledRing", name := "isGate", desc := "(I)Z" } : Jvm.MethodName)) ∈ TB := tb_of (List.mem_of_getElem? (i := 248) (by decide +kernel)) (by decide +kernel)
theorem t_250 : (Jvm.Cond.instanceMethod ({ cls := "LevelledRing", name := "isGate", desc := "(I)Z" } : Jvm.MethodName)) ∈ TB := tb_of (List.mem_of_getElem? (i := 250) (by decide +kernel)) (by decide +kernel)
theorem t_251 : (Jvm.Cond.code ({ cls := "LevelledRing", name := "isGate", desc := "(I)Z" } : Jvm.MethodName) prog_1_method_20_code (2 : Nat) (Option.some Jvm.ClassFile.FieldType.boolean)) ∈ TB := tb_of (List.mem_of_getElem? (i := 251) (by decide +kernel)) (by decide +kernel)
theorem t_252 : (Jvm.Cond.methodLink "LevelledRing" (181 : Nat) ({ cls := "LevelledRing", name := "setPlain", desc := "(LLevelledRing$Gate;LLevelledRing$Poly;LLevelledRing$Poly;)V" } : Jvm.MethodName)) ∈ TB := tb_of (List.mem_of_getElem? (i := 252) (by decide +kernel)) (by decide +kernel)
theorem t_253 : (Jvm.Cond.static ({ cls := "LevelledRing", name := "setPlain", desc := "(LLevelledRing$Gate;LLevelledRing$Poly;LLevelledRing$Poly;)V" } : Jvm.MethodName)) ∈ TB := tb_of (List.mem_of_getElem? (i := 253) (by decide +kernel)) (by decide +kernel)
theorem t_254 : (Jvm.Cond.code ({ cls := "LevelledRing", name := "setPlain", desc := "(LLevelledRing$Gate;LLevelledRing$Poly;LLevelledRing$Poly;)V" } : Jvm.MethodName) prog_1_method_26_code (3 : Nat) (Option.none : Option Jvm.ClassFile.FieldType)) ∈ TB := tb_of (List.mem_of_getElem? (i := 254) (by decide +kernel)) (by decide +kernel)
theorem t_255 : (Jvm.Cond.fieldLink "LevelledRing" (185 : Nat) "LevelledRing$1" "$SwitchMap$LevelledRing$Kind" "[I") ∈ TB := tb_of (List.mem_of_getElem? (i := 255) (by decide +kernel)) (by decide +kernel)
theorem t_257 : (Jvm.Cond.methodLink "LevelledRing" (193 : Nat) ({ cls := "LevelledRing$Kind", name := "ordinal", desc := "()I" } : Jvm.MethodName)) ∈ TB := tb_of (List.mem_of_getElem? (i := 257) (by decide +kernel)) (by decide +kernel)
theorem t_258 : (Jvm.Cond.sameMethod "LevelledRing$Kind" "java/lang/Enum" "ordinal" "()I") ∈ TB := tb_of (List.mem_of_getElem? (i := 258) (by decide +kernel)) (by decide +kernel)
theorem t_260 : (Jvm.Cond.selects "LevelledRing$Kind" ({ cls := "LevelledRing$Kind", name := "ordinal", desc := "()I" } : Jvm.MethodName) ({ cls := "java/lang/Enum", name := "ordinal", desc := "()I" } : Jvm.MethodName)) ∈ TB := tb_of (List.mem_of_getElem? (i := 260) (by decide +kernel)) (by decide +kernel)
theorem t_261 : (Jvm.Cond.instanceMethod ({ cls := "java/lang/Enum", name := "ordinal", desc := "()I" } : Jvm.MethodName)) ∈ TB := tb_of (List.mem_of_getElem? (i := 261) (by decide +kernel)) (by decide +kernel)
theorem t_262 : (Jvm.Cond.code ({ cls := "java/lang/Enum", name := "ordinal", desc := "()I" } : Jvm.MethodName) prog_11_method_2_code (1 : Nat) (Option.some Jvm.ClassFile.FieldType.int)) ∈ TB := tb_of (List.mem_of_getElem? (i := 262) (by decide +kernel)) (by decide +kernel)
theorem t_263 : (Jvm.Cond.methodLink "LevelledRing" (196 : Nat) ({ cls := "LevelledRing$Poly", name := "setSum", desc := "(LLevelledRing$Poly;ILLevelledRing$Poly;I)V" } : Jvm.MethodName)) ∈ TB := tb_of (List.mem_of_getElem? (i := 263) (by decide +kernel)) (by decide +kernel)
theorem t_264 : (Jvm.Cond.instanceMethod ({ cls := "LevelledRing$Poly", name := "setSum", desc := "(LLevelledRing$Poly;ILLevelledRing$Poly;I)V" } : Jvm.MethodName)) ∈ TB := tb_of (List.mem_of_getElem? (i := 264) (by decide +kernel)) (by decide +kernel)
theorem t_265 : (Jvm.Cond.selects "LevelledRing$Poly" ({ cls := "LevelledRing$Poly", name := "setSum", desc := "(LLevelledRing$Poly;ILLevelledRing$Poly;I)V" } : Jvm.MethodName) ({ cls := "LevelledRing$Poly", name := "setSum", desc := "(LLevelledRing$Poly;ILLevelledRing$Poly;I)V" } : Jvm.MethodName)) ∈ TB := tb_of (List.mem_of_getElem? (i := 265) (by decide +kernel)) (by decide +kernel)
theorem t_266 : (Jvm.Cond.code ({ cls := "LevelledRing$Poly", name := "setSum", desc := "(LLevelledRing$Poly;ILLevelledRing$Poly;I)V" } : Jvm.MethodName) prog_7_method_10_code (8 : Nat) (Option.none : Option Jvm.ClassFile.FieldType)) ∈ TB := tb_of (List.mem_of_getElem? (i := 266) (by decide +kernel)) (by decide +kernel)
theorem t_267 : (Jvm.Cond.methodLink "LevelledRing" (200 : Nat) ({ cls := "LevelledRing$Poly", name := "setZero", desc := "()V" } : Jvm.MethodName)) ∈ TB := tb_of (List.mem_of_getElem? (i := 267) (by decide +kernel)) (by decide +kernel)
theorem t_268 : (Jvm.Cond.instanceMethod ({ cls := "LevelledRing$Poly", name := "setZero", desc := "()V" } : Jvm.MethodName)) ∈ TB := tb_of (List.mem_of_getElem? (i := 268) (by decide +kernel)) (by decide +kernel)
theorem t_269 : (Jvm.Cond.selects "LevelledRing$Poly" ({ cls := "LevelledRing$Poly", name := "setZero", desc := "()V" } : Jvm.MethodName) ({ cls := "LevelledRing$Poly", name := "setZero", desc := "()V" } : Jvm.MethodName)) ∈ TB := tb_of (List.mem_of_getElem? (i := 269) (by decide +kernel)) (by decide +kernel)
theorem t_270 : (Jvm.Cond.code ({ cls := "LevelledRing$Poly", name := "setZero", desc := "()V" } : Jvm.MethodName) prog_7_method_3_code (2 : Nat) (Option.none : Option Jvm.ClassFile.FieldType)) ∈ TB := tb_of (List.mem_of_getElem? (i := 270) (by decide +kernel)) (by decide +kernel)
theorem t_271 : (Jvm.Cond.methodLink "LevelledRing" (203 : Nat) ({ cls := "LevelledRing$Poly", name := "addProduct", desc := "(ILLevelledRing$Poly;LLevelledRing$Poly;I)V" } : Jvm.MethodName)) ∈ TB := tb_of (List.mem_of_getElem? (i := 271) (by decide +kernel)) (by decide +kernel)
theorem t_272 : (Jvm.Cond.methodLink "LevelledRing" (210 : Nat) ({ cls := "LevelledRing$Poly", name := "setTurned", desc := "(LLevelledRing$Poly;II)V" } : Jvm.MethodName)) ∈ TB := tb_of (List.mem_of_getElem? (i := 272) (by decide +kernel)) (by decide +kernel)
theorem t_273 : (Jvm.Cond.instanceMethod ({ cls := "LevelledRing$Poly", name := "setTurned", desc := "(LLevelledRing$Poly;II)V" } : Jvm.MethodName)) ∈ TB := tb_of (List.mem_of_getElem? (i := 273) (by decide +kernel)) (by decide +kernel)
theorem t_274 : (Jvm.Cond.selects "LevelledRing$Poly" ({ cls := "LevelledRing$Poly", name := "setTurned", desc := "(LLevelledRing$Poly;II)V" } : Jvm.MethodName) ({ cls := "LevelledRing$Poly", name := "setTurned", desc := "(LLevelledRing$Poly;II)V" } : Jvm.MethodName)) ∈ TB := tb_of (List.mem_of_getElem? (i := 274) (by decide +kernel)) (by decide +kernel)
theorem t_275 : (Jvm.Cond.code ({ cls := "LevelledRing$Poly", name := "setTurned", desc := "(LLevelledRing$Poly;II)V" } : Jvm.MethodName) prog_7_method_13_code (9 : Nat) (Option.none : Option Jvm.ClassFile.FieldType)) ∈ TB := tb_of (List.mem_of_getElem? (i := 275) (by decide +kernel)) (by decide +kernel)
theorem t_276 : (Jvm.Cond.methodLink "LevelledRingLaw" (36 : Nat) ({ cls := "LevelledRing", name := "difference", desc := "(II)I" } : Jvm.MethodName)) ∈ TB := tb_of (List.mem_of_getElem? (i := 276) (by decide +kernel)) (by decide +kernel)
theorem t_277 : (Jvm.Cond.instanceMethod ({ cls := "LevelledRing", name := "difference", desc := "(II)I" } : Jvm.MethodName)) ∈ TB := tb_of (List.mem_of_getElem? (i := 277) (by decide +kernel)) (by decide +kernel)
theorem t_278 : (Jvm.Cond.selects "LevelledRing" ({ cls := "LevelledRing", name := "difference", desc := "(II)I" } : Jvm.MethodName) ({ cls := "LevelledRing", name := "difference", desc := "(II)I" } : Jvm.MethodName)) ∈ TB := tb_of (List.mem_of_getElem? (i := 278) (by decide +kernel)) (by decide +kernel)
theorem t_279 : (Jvm.Cond.code ({ cls := "LevelledRing", name := "difference", desc := "(II)I" } : Jvm.MethodName) prog_1_method_5_code (3 : Nat) (Option.some Jvm.ClassFile.FieldType.int)) ∈ TB := tb_of (List.mem_of_getElem? (i := 279) (by decide +kernel)) (by decide +kernel)
theorem t_280 : (Jvm.Cond.fieldLink "LevelledRing" (111 : Nat) "LevelledRing$Kind" "DIFFERENCE" "LLevelledRing$Kind;") ∈ TB := tb_of (List.mem_of_getElem? (i := 280) (by decide +kernel)) (by decide +kernel)
theorem t_282 : (Jvm.Cond.methodLink "LevelledRingLaw" (40 : Nat) ({ cls := "LevelledRing", name := "product", desc := "(II)I" } : Jvm.MethodName)) ∈ TB := tb_of (List.mem_of_getElem? (i := 282) (by decide +kernel)) (by decide +kernel)
theorem t_283 : (Jvm.Cond.instanceMethod ({ cls := "LevelledRing", name := "product", desc := "(II)I" } : Jvm.MethodName)) ∈ TB := tb_of (List.mem_of_getElem? (i := 283) (by decide +kernel)) (by decide +kernel)
theorem t_284 : (Jvm.Cond.selects "LevelledRing" ({ cls := "LevelledRing", name := "product", desc := "(II)I" } : Jvm.MethodName) ({ cls := "LevelledRing", name := "product", desc := "(II)I" } : Jvm.MethodName)) ∈ TB := tb_of (List.mem_of_getElem? (i := 284) (by decide +kernel)) (by decide +kernel)
theorem t_285 : (Jvm.Cond.code ({ cls := "LevelledRing", name := "product", desc := "(II)I" } : Jvm.MethodName) prog_1_method_6_code (3 : Nat) (Option.some Jvm.ClassFile.FieldType.int)) ∈ TB := tb_of (List.mem_of_getElem? (i := 285) (by decide +kernel)) (by decide +kernel)
theorem t_286 : (Jvm.Cond.fieldLink "LevelledRing" (114 : Nat) "LevelledRing$Kind" "PRODUCT" "LLevelledRing$Kind;") ∈ TB := tb_of (List.mem_of_getElem? (i := 286) (by decide +kernel)) (by decide +kernel)
theorem t_288 : (Jvm.Cond.methodLink "LevelledRingLaw" (44 : Nat) ({ cls := "LevelledRing", name := "shift", desc := "(II)I" } : Jvm.MethodName)) ∈ TB := tb_of (List.mem_of_getElem? (i := 288) (by decide +kernel)) (by decide +kernel)
theorem t_289 : (Jvm.Cond.instanceMethod ({ cls := "LevelledRing", name := "shift", desc := "(II)I" } : Jvm.MethodName)) ∈ TB := tb_of (List.mem_of_getElem? (i := 289) (by decide +kernel)) (by decide +kernel)
theorem t_290 : (Jvm.Cond.selects "LevelledRing" ({ cls := "LevelledRing", name := "shift", desc := "(II)I" } : Jvm.MethodName) ({ cls := "LevelledRing", name := "shift", desc := "(II)I" } : Jvm.MethodName)) ∈ TB := tb_of (List.mem_of_getElem? (i := 290) (by decide +kernel)) (by decide +kernel)
theorem t_291 : (Jvm.Cond.code ({ cls := "LevelledRing", name := "shift", desc := "(II)I" } : Jvm.MethodName) prog_1_method_7_code (3 : Nat) (Option.some Jvm.ClassFile.FieldType.int)) ∈ TB := tb_of (List.mem_of_getElem? (i := 291) (by decide +kernel)) (by decide +kernel)
theorem t_292 : (Jvm.Cond.fieldLink "LevelledRing" (117 : Nat) "LevelledRing$Kind" "SHIFT" "LLevelledRing$Kind;") ∈ TB := tb_of (List.mem_of_getElem? (i := 292) (by decide +kernel)) (by decide +kernel)
theorem t_294 : (Jvm.Cond.methodLink "LevelledRingLaw" (48 : Nat) ({ cls := "LevelledRing", name := "lowered", desc := "(I)I" } : Jvm.MethodName)) ∈ TB := tb_of (List.mem_of_getElem? (i := 294) (by decide +kernel)) (by decide +kernel)
theorem t_295 : (Jvm.Cond.instanceMethod ({ cls := "LevelledRing", name := "lowered", desc := "(I)I" } : Jvm.MethodName)) ∈ TB := tb_of (List.mem_of_getElem? (i := 295) (by decide +kernel)) (by decide +kernel)
theorem t_296 : (Jvm.Cond.selects "LevelledRing" ({ cls := "LevelledRing", name := "lowered", desc := "(I)I" } : Jvm.MethodName) ({ cls := "LevelledRing", name := "lowered", desc := "(I)I" } : Jvm.MethodName)) ∈ TB := tb_of (List.mem_of_getElem? (i := 296) (by decide +kernel)) (by decide +kernel)
theorem t_297 : (Jvm.Cond.code ({ cls := "LevelledRing", name := "lowered", desc := "(I)I" } : Jvm.MethodName) prog_1_method_8_code (2 : Nat) (Option.some Jvm.ClassFile.FieldType.int)) ∈ TB := tb_of (List.mem_of_getElem? (i := 297) (by decide +kernel)) (by decide +kernel)
theorem t_298 : (Jvm.Cond.fieldLink "LevelledRing" (120 : Nat) "LevelledRing$Kind" "LOWERED" "LLevelledRing$Kind;") ∈ TB := tb_of (List.mem_of_getElem? (i := 298) (by decide +kernel)) (by decide +kernel)
theorem t_300 : (Jvm.Cond.methodLink "LevelledRingLaw" (52 : Nat) ({ cls := "LevelledRing", name := "count", desc := "()I" } : Jvm.MethodName)) ∈ TB := tb_of (List.mem_of_getElem? (i := 300) (by decide +kernel)) (by decide +kernel)
theorem t_301 : (Jvm.Cond.instanceMethod ({ cls := "LevelledRing", name := "count", desc := "()I" } : Jvm.MethodName)) ∈ TB := tb_of (List.mem_of_getElem? (i := 301) (by decide +kernel)) (by decide +kernel)
theorem t_302 : (Jvm.Cond.selects "LevelledRing" ({ cls := "LevelledRing", name := "count", desc := "()I" } : Jvm.MethodName) ({ cls := "LevelledRing", name := "count", desc := "()I" } : Jvm.MethodName)) ∈ TB := tb_of (List.mem_of_getElem? (i := 302) (by decide +kernel)) (by decide +kernel)
theorem t_303 : (Jvm.Cond.code ({ cls := "LevelledRing", name := "count", desc := "()I" } : Jvm.MethodName) prog_1_method_9_code (1 : Nat) (Option.some Jvm.ClassFile.FieldType.int)) ∈ TB := tb_of (List.mem_of_getElem? (i := 303) (by decide +kernel)) (by decide +kernel)
theorem t_304 : (Jvm.Cond.methodLink "LevelledRingLaw" (57 : Nat) ({ cls := "LevelledRing", name := "cut", desc := "(I)Z" } : Jvm.MethodName)) ∈ TB := tb_of (List.mem_of_getElem? (i := 304) (by decide +kernel)) (by decide +kernel)
theorem t_305 : (Jvm.Cond.instanceMethod ({ cls := "LevelledRing", name := "cut", desc := "(I)Z" } : Jvm.MethodName)) ∈ TB := tb_of (List.mem_of_getElem? (i := 305) (by decide +kernel)) (by decide +kernel)
theorem t_306 : (Jvm.Cond.selects "LevelledRing" ({ cls := "LevelledRing", name := "cut", desc := "(I)Z" } : Jvm.MethodName) ({ cls := "LevelledRing", name := "cut", desc := "(I)Z" } : Jvm.MethodName)) ∈ TB := tb_of (List.mem_of_getElem? (i := 306) (by decide +kernel)) (by decide +kernel)
theorem t_307 : (Jvm.Cond.code ({ cls := "LevelledRing", name := "cut", desc := "(I)Z" } : Jvm.MethodName) prog_1_method_10_code (2 : Nat) (Option.some Jvm.ClassFile.FieldType.boolean)) ∈ TB := tb_of (List.mem_of_getElem? (i := 307) (by decide +kernel)) (by decide +kernel)
theorem t_308 : (Jvm.Cond.methodLink "LevelledRing" (126 : Nat) ({ cls := "java/lang/Math", name := "min", desc := "(II)I" } : Jvm.MethodName)) ∈ TB := tb_of (List.mem_of_getElem? (i := 308) (by decide +kernel)) (by decide +kernel)
theorem t_309 : (Jvm.Cond.methodLink "LevelledRingLaw" (62 : Nat) ({ cls := "LevelledRing", name := "run", desc := "()I" } : Jvm.MethodName)) ∈ TB := tb_of (List.mem_of_getElem? (i := 309) (by decide +kernel)) (by decide +kernel)
theorem t_310 : (Jvm.Cond.instanceMethod ({ cls := "LevelledRing", name := "run", desc := "()I" } : Jvm.MethodName)) ∈ TB := tb_of (List.mem_of_getElem? (i := 310) (by decide +kernel)) (by decide +kernel)
theorem t_311 : (Jvm.Cond.selects "LevelledRing" ({ cls := "LevelledRing", name := "run", desc := "()I" } : Jvm.MethodName) ({ cls := "LevelledRing", name := "run", desc := "()I" } : Jvm.MethodName)) ∈ TB := tb_of (List.mem_of_getElem? (i := 311) (by decide +kernel)) (by decide +kernel)
theorem t_312 : (Jvm.Cond.code ({ cls := "LevelledRing", name := "run", desc := "()I" } : Jvm.MethodName) prog_1_method_11_code (2 : Nat) (Option.some Jvm.ClassFile.FieldType.int)) ∈ TB := tb_of (List.mem_of_getElem? (i := 312) (by decide +kernel)) (by decide +kernel)
theorem t_313 : (Jvm.Cond.methodLink "LevelledRing" (132 : Nat) ({ cls := "LevelledRing", name := "giveValue", desc := "(LLevelledRing$Gate;)Z" } : Jvm.MethodName)) ∈ TB := tb_of (List.mem_of_getElem? (i := 313) (by decide +kernel)) (by decide +kernel)
theorem t_315 : (Jvm.Cond.instanceMethod ({ cls := "LevelledRing", name := "giveValue", desc := "(LLevelledRing$Gate;)Z" } : Jvm.MethodName)) ∈ TB := tb_of (List.mem_of_getElem? (i := 315) (by decide +kernel)) (by decide +kernel)
theorem t_316 : (Jvm.Cond.code ({ cls := "LevelledRing", name := "giveValue", desc := "(LLevelledRing$Gate;)Z" } : Jvm.MethodName) prog_1_method_27_code (2 : Nat) (Option.some Jvm.ClassFile.FieldType.boolean)) ∈ TB := tb_of (List.mem_of_getElem? (i := 316) (by decide +kernel)) (by decide +kernel)
theorem t_317 : (Jvm.Cond.methodLink "LevelledRing" (214 : Nat) ({ cls := "LevelledRing", name := "takeOperands", desc := "(LLevelledRing$Gate;)Z" } : Jvm.MethodName)) ∈ TB := tb_of (List.mem_of_getElem? (i := 317) (by decide +kernel)) (by decide +kernel)
theorem t_319 : (Jvm.Cond.instanceMethod ({ cls := "LevelledRing", name := "takeOperands", desc := "(LLevelledRing$Gate;)Z" } : Jvm.MethodName)) ∈ TB := tb_of (List.mem_of_getElem? (i := 319) (by decide +kernel)) (by decide +kernel)
theorem t_320 : (Jvm.Cond.code ({ cls := "LevelledRing", name := "takeOperands", desc := "(LLevelledRing$Gate;)Z" } : Jvm.MethodName) prog_1_method_30_code (2 : Nat) (Option.some Jvm.ClassFile.FieldType.boolean)) ∈ TB := tb_of (List.mem_of_getElem? (i := 320) (by decide +kernel)) (by decide +kernel)
theorem t_321 : (Jvm.Cond.methodLink "LevelledRing" (236 : Nat) ({ cls := "LevelledRing$Value", name := "copyFrom", desc := "(LLevelledRing$Value;)V" } : Jvm.MethodName)) ∈ TB := tb_of (List.mem_of_getElem? (i := 321) (by decide +kernel)) (by decide +kernel)
theorem t_322 : (Jvm.Cond.instanceMethod ({ cls := "LevelledRing$Value", name := "copyFrom", desc := "(LLevelledRing$Value;)V" } : Jvm.MethodName)) ∈ TB := tb_of (List.mem_of_getElem? (i := 322) (by decide +kernel)) (by decide +kernel)
theorem t_323 : (Jvm.Cond.selects "LevelledRing$Value" ({ cls := "LevelledRing$Value", name := "copyFrom", desc := "(LLevelledRing$Value;)V" } : Jvm.MethodName) ({ cls := "LevelledRing$Value", name := "copyFrom", desc := "(LLevelledRing$Value;)V" } : Jvm.MethodName)) ∈ TB := tb_of (List.mem_of_getElem? (i := 323) (by decide +kernel)) (by decide +kernel)
theorem t_324 : (Jvm.Cond.code ({ cls := "LevelledRing$Value", name := "copyFrom", desc := "(LLevelledRing$Value;)V" } : Jvm.MethodName) prog_8_method_2_code (2 : Nat) (Option.none : Option Jvm.ClassFile.FieldType)) ∈ TB := tb_of (List.mem_of_getElem? (i := 324) (by decide +kernel)) (by decide +kernel)
theorem t_325 : (Jvm.Cond.methodLink "LevelledRing$Value" (31 : Nat) ({ cls := "LevelledRing$Poly", name := "copyFrom", desc := "(LLevelledRing$Poly;)V" } : Jvm.MethodName)) ∈ TB := tb_of (List.mem_of_getElem? (i := 325) (by decide +kernel)) (by decide +kernel)
theorem t_326 : (Jvm.Cond.methodLink "LevelledRing" (257 : Nat) ({ cls := "LevelledRing$Value", name := "lowerTo", desc := "(I)Z" } : Jvm.MethodName)) ∈ TB := tb_of (List.mem_of_getElem? (i := 326) (by decide +kernel)) (by decide +kernel)
theorem t_327 : (Jvm.Cond.instanceMethod ({ cls := "LevelledRing$Value", name := "lowerTo", desc := "(I)Z" } : Jvm.MethodName)) ∈ TB := tb_of (List.mem_of_getElem? (i := 327) (by decide +kernel)) (by decide +kernel)
theorem t_328 : (Jvm.Cond.selects "LevelledRing$Value" ({ cls := "LevelledRing$Value", name := "lowerTo", desc := "(I)Z" } : Jvm.MethodName) ({ cls := "LevelledRing$Value", name := "lowerTo", desc := "(I)Z" } : Jvm.MethodName)) ∈ TB := tb_of (List.mem_of_getElem? (i := 328) (by decide +kernel)) (by decide +kernel)
theorem t_329 : (Jvm.Cond.code ({ cls := "LevelledRing$Value", name := "lowerTo", desc := "(I)Z" } : Jvm.MethodName) prog_8_method_5_code (3 : Nat) (Option.some Jvm.ClassFile.FieldType.boolean)) ∈ TB := tb_of (List.mem_of_getElem? (i := 329) (by decide +kernel)) (by decide +kernel)
theorem t_330 : (Jvm.Cond.methodLink "LevelledRing$Value" (55 : Nat) ({ cls := "LevelledRing$Value", name := "lowerOnce", desc := "()Z" } : Jvm.MethodName)) ∈ TB := tb_of (List.mem_of_getElem? (i := 330) (by decide +kernel)) (by decide +kernel)
theorem t_331 : (Jvm.Cond.instanceMethod ({ cls := "LevelledRing$Value", name := "lowerOnce", desc := "()Z" } : Jvm.MethodName)) ∈ TB := tb_of (List.mem_of_getElem? (i := 331) (by decide +kernel)) (by decide +kernel)
theorem t_332 : (Jvm.Cond.selects "LevelledRing$Value" ({ cls := "LevelledRing$Value", name := "lowerOnce", desc := "()Z" } : Jvm.MethodName) ({ cls := "LevelledRing$Value", name := "lowerOnce", desc := "()Z" } : Jvm.MethodName)) ∈ TB := tb_of (List.mem_of_getElem? (i := 332) (by decide +kernel)) (by decide +kernel)
theorem t_333 : (Jvm.Cond.code ({ cls := "LevelledRing$Value", name := "lowerOnce", desc := "()Z" } : Jvm.MethodName) prog_8_method_4_code (1 : Nat) (Option.some Jvm.ClassFile.FieldType.boolean)) ∈ TB := tb_of (List.mem_of_getElem? (i := 333) (by decide +kernel)) (by decide +kernel)
theorem t_335 : (Jvm.Cond.constantLong "LevelledRing$Value" (45 : Nat) (77 : Int64)) ∈ TB := tb_of (List.mem_of_getElem? (i := 335) (by decide +kernel)) (by decide +kernel)
theorem t_336 : (Jvm.Cond.methodLink "LevelledRing$Value" (47 : Nat) ({ cls := "LevelledRing$Poly", name := "lowerFrom", desc := "(I)V" } : Jvm.MethodName)) ∈ TB := tb_of (List.mem_of_getElem? (i := 336) (by decide +kernel)) (by decide +kernel)
theorem t_337 : (Jvm.Cond.instanceMethod ({ cls := "LevelledRing$Poly", name := "lowerFrom", desc := "(I)V" } : Jvm.MethodName)) ∈ TB := tb_of (List.mem_of_getElem? (i := 337) (by decide +kernel)) (by decide +kernel)
theorem t_338 : (Jvm.Cond.selects "LevelledRing$Poly" ({ cls := "LevelledRing$Poly", name := "lowerFrom", desc := "(I)V" } : Jvm.MethodName) ({ cls := "LevelledRing$Poly", name := "lowerFrom", desc := "(I)V" } : Jvm.MethodName)) ∈ TB := tb_of (List.mem_of_getElem? (i := 338) (by decide +kernel)) (by decide +kernel)
theorem t_339 : (Jvm.Cond.code ({ cls := "LevelledRing$Poly", name := "lowerFrom", desc := "(I)V" } : Jvm.MethodName) prog_7_method_14_code (10 : Nat) (Option.none : Option Jvm.ClassFile.FieldType)) ∈ TB := tb_of (List.mem_of_getElem? (i := 339) (by decide +kernel)) (by decide +kernel)
theorem t_341 : (Jvm.Cond.static ({ cls := "LevelledRing", name := "centred", desc := "(JJ)J" } : Jvm.MethodName)) ∈ TB := tb_of (List.mem_of_getElem? (i := 341) (by decide +kernel)) (by decide +kernel)
theorem t_342 : (Jvm.Cond.code ({ cls := "LevelledRing", name := "centred", desc := "(JJ)J" } : Jvm.MethodName) prog_1_method_23_code (4 : Nat) (Option.some Jvm.ClassFile.FieldType.long)) ∈ TB := tb_of (List.mem_of_getElem? (i := 342) (by decide +kernel)) (by decide +kernel)
theorem t_343 : (Jvm.Cond.constantLong "LevelledRing" (179 : Nat) (2 : Int64)) ∈ TB := tb_of (List.mem_of_getElem? (i := 343) (by decide +kernel)) (by decide +kernel)
theorem t_344 : (Jvm.Cond.constantLong "LevelledRing$Poly" (56 : Nat) (17 : Int64)) ∈ TB := tb_of (List.mem_of_getElem? (i := 344) (by decide +kernel)) (by decide +kernel)
theorem t_347 : (Jvm.Cond.methodLink "LevelledRing$Value" (51 : Nat) ({ cls := "LevelledRing$Value", name := "isTooGreat", desc := "()Z" } : Jvm.MethodName)) ∈ TB := tb_of (List.mem_of_getElem? (i := 347) (by decide +kernel)) (by decide +kernel)
theorem t_348 : (Jvm.Cond.instanceMethod ({ cls := "LevelledRing$Value", name := "isTooGreat", desc := "()Z" } : Jvm.MethodName)) ∈ TB := tb_of (List.mem_of_getElem? (i := 348) (by decide +kernel)) (by decide +kernel)
theorem t_349 : (Jvm.Cond.selects "LevelledRing$Value" ({ cls := "LevelledRing$Value", name := "isTooGreat", desc := "()Z" } : Jvm.MethodName) ({ cls := "LevelledRing$Value", name := "isTooGreat", desc := "()Z" } : Jvm.MethodName)) ∈ TB := tb_of (List.mem_of_getElem? (i := 349) (by decide +kernel)) (by decide +kernel)
theorem t_350 : (Jvm.Cond.code ({ cls := "LevelledRing$Value", name := "isTooGreat", desc := "()Z" } : Jvm.MethodName) prog_8_method_3_code (1 : Nat) (Option.some Jvm.ClassFile.FieldType.boolean)) ∈ TB := tb_of (List.mem_of_getElem? (i := 350) (by decide +kernel)) (by decide +kernel)
theorem t_353 : (Jvm.Cond.constantLong "LevelledRing$Value" (39 : Nat) (2 : Int64)) ∈ TB := tb_of (List.mem_of_getElem? (i := 353) (by decide +kernel)) (by decide +kernel)
theorem t_354 : (Jvm.Cond.methodLink "LevelledRing" (217 : Nat) ({ cls := "LevelledRing", name := "giveSum", desc := "(LLevelledRing$Value;I)Z" } : Jvm.MethodName)) ∈ TB := tb_of (List.mem_of_getElem? (i := 354) (by decide +kernel)) (by decide +kernel)
theorem t_356 : (Jvm.Cond.instanceMethod ({ cls := "LevelledRing", name := "giveSum", desc := "(LLevelledRing$Value;I)Z" } : Jvm.MethodName)) ∈ TB := tb_of (List.mem_of_getElem? (i := 356) (by decide +kernel)) (by decide +kernel)
theorem t_357 : (Jvm.Cond.code ({ cls := "LevelledRing", name := "giveSum", desc := "(LLevelledRing$Value;I)Z" } : Jvm.MethodName) prog_1_method_32_code (3 : Nat) (Option.some Jvm.ClassFile.FieldType.boolean)) ∈ TB := tb_of (List.mem_of_getElem? (i := 357) (by decide +kernel)) (by decide +kernel)
theorem t_358 : (Jvm.Cond.methodLink "LevelledRing" (262 : Nat) ({ cls := "LevelledRing$Value", name := "isTooGreat", desc := "()Z" } : Jvm.MethodName)) ∈ TB := tb_of (List.mem_of_getElem? (i := 358) (by decide +kernel)) (by decide +kernel)
theorem t_359 : (Jvm.Cond.methodLink "LevelledRing" (221 : Nat) ({ cls := "LevelledRing", name := "quietenOperands", desc := "()Z" } : Jvm.MethodName)) ∈ TB := tb_of (List.mem_of_getElem? (i := 359) (by decide +kernel)) (by decide +kernel)
theorem t_361 : (Jvm.Cond.instanceMethod ({ cls := "LevelledRing", name := "quietenOperands", desc := "()Z" } : Jvm.MethodName)) ∈ TB := tb_of (List.mem_of_getElem? (i := 361) (by decide +kernel)) (by decide +kernel)
theorem t_362 : (Jvm.Cond.code ({ cls := "LevelledRing", name := "quietenOperands", desc := "()Z" } : Jvm.MethodName) prog_1_method_31_code (2 : Nat) (Option.some Jvm.ClassFile.FieldType.boolean)) ∈ TB := tb_of (List.mem_of_getElem? (i := 362) (by decide +kernel)) (by decide +kernel)
theorem t_363 : (Jvm.Cond.constantLong "LevelledRing" (260 : Nat) (1000 : Int64)) ∈ TB := tb_of (List.mem_of_getElem? (i := 363) (by decide +kernel)) (by decide +kernel)
theorem t_364 : (Jvm.Cond.methodLink "LevelledRing" (238 : Nat) ({ cls := "LevelledRing$Value", name := "lowerOnce", desc := "()Z" } : Jvm.MethodName)) ∈ TB := tb_of (List.mem_of_getElem? (i := 364) (by decide +kernel)) (by decide +kernel)
theorem t_365 : (Jvm.Cond.methodLink "LevelledRing" (225 : Nat) ({ cls := "LevelledRing", name := "giveProduct", desc := "(LLevelledRing$Value;)Z" } : Jvm.MethodName)) ∈ TB := tb_of (List.mem_of_getElem? (i := 365) (by decide +kernel)) (by decide +kernel)
theorem t_367 : (Jvm.Cond.instanceMethod ({ cls := "LevelledRing", name := "giveProduct", desc := "(LLevelledRing$Value;)Z" } : Jvm.MethodName)) ∈ TB := tb_of (List.mem_of_getElem? (i := 367) (by decide +kernel)) (by decide +kernel)
theorem t_368 : (Jvm.Cond.code ({ cls := "LevelledRing", name := "giveProduct", desc := "(LLevelledRing$Value;)Z" } : Jvm.MethodName) prog_1_method_33_code (2 : Nat) (Option.some Jvm.ClassFile.FieldType.boolean)) ∈ TB := tb_of (List.mem_of_getElem? (i := 368) (by decide +kernel)) (by decide +kernel)
theorem t_369 : (Jvm.Cond.constantLong "LevelledRing" (265 : Nat) (8 : Int64)) ∈ TB := tb_of (List.mem_of_getElem? (i := 369) (by decide +kernel)) (by decide +kernel)
theorem t_370 : (Jvm.Cond.methodLink "LevelledRing" (267 : Nat) ({ cls := "LevelledRing", name := "switchingMeter", desc := "(I)J" } : Jvm.MethodName)) ∈ TB := tb_of (List.mem_of_getElem? (i := 370) (by decide +kernel)) (by decide +kernel)
theorem t_371 : (Jvm.Cond.static ({ cls := "LevelledRing", name := "switchingMeter", desc := "(I)J" } : Jvm.MethodName)) ∈ TB := tb_of (List.mem_of_getElem? (i := 371) (by decide +kernel)) (by decide +kernel)
theorem t_372 : (Jvm.Cond.code ({ cls := "LevelledRing", name := "switchingMeter", desc := "(I)J" } : Jvm.MethodName) prog_1_method_34_code (4 : Nat) (Option.some Jvm.ClassFile.FieldType.long)) ∈ TB := tb_of (List.mem_of_getElem? (i := 372) (by decide +kernel)) (by decide +kernel)
theorem t_373 : (Jvm.Cond.fieldLink "LevelledRing" (277 : Nat) "LevelledRing" "PRIMES" "[I") ∈ TB := tb_of (List.mem_of_getElem? (i := 373) (by decide +kernel)) (by decide +kernel)
theorem t_374 : (Jvm.Cond.constantLong "LevelledRing" (280 : Nat) (136 : Int64)) ∈ TB := tb_of (List.mem_of_getElem? (i := 374) (by decide +kernel)) (by decide +kernel)
theorem t_375 : (Jvm.Cond.methodLink "LevelledRing" (271 : Nat) ({ cls := "LevelledRing", name := "multiplyOperands", desc := "(LLevelledRing$Value;)V" } : Jvm.MethodName)) ∈ TB := tb_of (List.mem_of_getElem? (i := 375) (by decide +kernel)) (by decide +kernel)
theorem t_377 : (Jvm.Cond.instanceMethod ({ cls := "LevelledRing", name := "multiplyOperands", desc := "(LLevelledRing$Value;)V" } : Jvm.MethodName)) ∈ TB := tb_of (List.mem_of_getElem? (i := 377) (by decide +kernel)) (by decide +kernel)
theorem t_378 : (Jvm.Cond.code ({ cls := "LevelledRing", name := "multiplyOperands", desc := "(LLevelledRing$Value;)V" } : Jvm.MethodName) prog_1_method_35_code (3 : Nat) (Option.none : Option Jvm.ClassFile.FieldType)) ∈ TB := tb_of (List.mem_of_getElem? (i := 378) (by decide +kernel)) (by decide +kernel)
theorem t_379 : (Jvm.Cond.methodLink "LevelledRing" (274 : Nat) ({ cls := "LevelledRing", name := "switchSquare", desc := "(LLevelledRing$Value;)V" } : Jvm.MethodName)) ∈ TB := tb_of (List.mem_of_getElem? (i := 379) (by decide +kernel)) (by decide +kernel)
theorem t_381 : (Jvm.Cond.instanceMethod ({ cls := "LevelledRing", name := "switchSquare", desc := "(LLevelledRing$Value;)V" } : Jvm.MethodName)) ∈ TB := tb_of (List.mem_of_getElem? (i := 381) (by decide +kernel)) (by decide +kernel)
theorem t_382 : (Jvm.Cond.code ({ cls := "LevelledRing", name := "switchSquare", desc := "(LLevelledRing$Value;)V" } : Jvm.MethodName) prog_1_method_36_code (4 : Nat) (Option.none : Option Jvm.ClassFile.FieldType)) ∈ TB := tb_of (List.mem_of_getElem? (i := 382) (by decide +kernel)) (by decide +kernel)
theorem t_383 : (Jvm.Cond.methodLink "LevelledRing" (282 : Nat) ({ cls := "LevelledRing$Poly", name := "setFromRow", desc := "(LLevelledRing$Poly;II)V" } : Jvm.MethodName)) ∈ TB := tb_of (List.mem_of_getElem? (i := 383) (by decide +kernel)) (by decide +kernel)
theorem t_384 : (Jvm.Cond.instanceMethod ({ cls := "LevelledRing$Poly", name := "setFromRow", desc := "(LLevelledRing$Poly;II)V" } : Jvm.MethodName)) ∈ TB := tb_of (List.mem_of_getElem? (i := 384) (by decide +kernel)) (by decide +kernel)
theorem t_385 : (Jvm.Cond.selects "LevelledRing$Poly" ({ cls := "LevelledRing$Poly", name := "setFromRow", desc := "(LLevelledRing$Poly;II)V" } : Jvm.MethodName) ({ cls := "LevelledRing$Poly", name := "setFromRow", desc := "(LLevelledRing$Poly;II)V" } : Jvm.MethodName)) ∈ TB := tb_of (List.mem_of_getElem? (i := 385) (by decide +kernel)) (by decide +kernel)
theorem t_386 : (Jvm.Cond.code ({ cls := "LevelledRing$Poly", name := "setFromRow", desc := "(LLevelledRing$Poly;II)V" } : Jvm.MethodName) prog_7_method_9_code (6 : Nat) (Option.none : Option Jvm.ClassFile.FieldType)) ∈ TB := tb_of (List.mem_of_getElem? (i := 386) (by decide +kernel)) (by decide +kernel)
theorem t_387 : (Jvm.Cond.methodLink "LevelledRing" (232 : Nat) ({ cls := "LevelledRing", name := "turnValue", desc := "(LLevelledRing$Value;LLevelledRing$Value;I)V" } : Jvm.MethodName)) ∈ TB := tb_of (List.mem_of_getElem? (i := 387) (by decide +kernel)) (by decide +kernel)
theorem t_388 : (Jvm.Cond.static ({ cls := "LevelledRing", name := "turnValue", desc := "(LLevelledRing$Value;LLevelledRing$Value;I)V" } : Jvm.MethodName)) ∈ TB := tb_of (List.mem_of_getElem? (i := 388) (by decide +kernel)) (by decide +kernel)
theorem t_389 : (Jvm.Cond.code ({ cls := "LevelledRing", name := "turnValue", desc := "(LLevelledRing$Value;LLevelledRing$Value;I)V" } : Jvm.MethodName) prog_1_method_29_code (3 : Nat) (Option.none : Option Jvm.ClassFile.FieldType)) ∈ TB := tb_of (List.mem_of_getElem? (i := 389) (by decide +kernel)) (by decide +kernel)
theorem t_390 : (Jvm.Cond.methodLink "LevelledRing" (241 : Nat) ({ cls := "LevelledRing", name := "hideMessage", desc := "(LLevelledRing$Value;LLevelledRing$Poly;I)V" } : Jvm.MethodName)) ∈ TB := tb_of (List.mem_of_getElem? (i := 390) (by decide +kernel)) (by decide +kernel)
theorem t_392 : (Jvm.Cond.instanceMethod ({ cls := "LevelledRing", name := "hideMessage", desc := "(LLevelledRing$Value;LLevelledRing$Poly;I)V" } : Jvm.MethodName)) ∈ TB := tb_of (List.mem_of_getElem? (i := 392) (by decide +kernel)) (by decide +kernel)
theorem t_393 : (Jvm.Cond.code ({ cls := "LevelledRing", name := "hideMessage", desc := "(LLevelledRing$Value;LLevelledRing$Poly;I)V" } : Jvm.MethodName) prog_1_method_28_code (4 : Nat) (Option.none : Option Jvm.ClassFile.FieldType)) ∈ TB := tb_of (List.mem_of_getElem? (i := 393) (by decide +kernel)) (by decide +kernel)
theorem t_394 : (Jvm.Cond.constantLong "LevelledRing" (245 : Nat) (33 : Int64)) ∈ TB := tb_of (List.mem_of_getElem? (i := 394) (by decide +kernel)) (by decide +kernel)
theorem t_395 : (Jvm.Cond.methodLink "LevelledRing" (247 : Nat) ({ cls := "LevelledRing$Keys", name := "drawHiddenZero", desc := "(LLevelledRing$Drawing;LLevelledRing$Poly;LLevelledRing$Poly;)V" } : Jvm.MethodName)) ∈ TB := tb_of (List.mem_of_getElem? (i := 395) (by decide +kernel)) (by decide +kernel)
theorem t_396 : (Jvm.Cond.methodLink "LevelledRing" (251 : Nat) ({ cls := "LevelledRing$Poly", name := "addSmall", desc := "(LLevelledRing$Poly;)V" } : Jvm.MethodName)) ∈ TB := tb_of (List.mem_of_getElem? (i := 396) (by decide +kernel)) (by decide +kernel)
theorem t_397 : (Jvm.Cond.instanceMethod ({ cls := "LevelledRing$Poly", name := "addSmall", desc := "(LLevelledRing$Poly;)V" } : Jvm.MethodName)) ∈ TB := tb_of (List.mem_of_getElem? (i := 397) (by decide +kernel)) (by decide +kernel)
theorem t_398 : (Jvm.Cond.selects "LevelledRing$Poly" ({ cls := "LevelledRing$Poly", name := "addSmall", desc := "(LLevelledRing$Poly;)V" } : Jvm.MethodName) ({ cls := "LevelledRing$Poly", name := "addSmall", desc := "(LLevelledRing$Poly;)V" } : Jvm.MethodName)) ∈ TB := tb_of (List.mem_of_getElem? (i := 398) (by decide +kernel)) (by decide +kernel)
theorem t_399 : (Jvm.Cond.code ({ cls := "LevelledRing$Poly", name := "addSmall", desc := "(LLevelledRing$Poly;)V" } : Jvm.MethodName) prog_7_method_7_code (4 : Nat) (Option.none : Option Jvm.ClassFile.FieldType)) ∈ TB := tb_of (List.mem_of_getElem? (i := 399) (by decide +kernel)) (by decide +kernel)
theorem t_400 : (Jvm.Cond.methodLink "LevelledRingLaw" (66 : Nat) ({ cls := "LevelledRing", name := "level", desc := "(I)I" } : Jvm.MethodName)) ∈ TB := tb_of (List.mem_of_getElem? (i := 400) (by decide +kernel)) (by decide +kernel)
theorem t_401 : (Jvm.Cond.instanceMethod ({ cls := "LevelledRing", name := "level", desc := "(I)I" } : Jvm.MethodName)) ∈ TB := tb_of (List.mem_of_getElem? (i := 401) (by decide +kernel)) (by decide +kernel)
theorem t_402 : (Jvm.Cond.selects "LevelledRing" ({ cls := "LevelledRing", name := "level", desc := "(I)I" } : Jvm.MethodName) ({ cls := "LevelledRing", name := "level", desc := "(I)I" } : Jvm.MethodName)) ∈ TB := tb_of (List.mem_of_getElem? (i := 402) (by decide +kernel)) (by decide +kernel)
theorem t_403 : (Jvm.Cond.code ({ cls := "LevelledRing", name := "level", desc := "(I)I" } : Jvm.MethodName) prog_1_method_12_code (2 : Nat) (Option.some Jvm.ClassFile.FieldType.int)) ∈ TB := tb_of (List.mem_of_getElem? (i := 403) (by decide +kernel)) (by decide +kernel)
theorem t_404 : (Jvm.Cond.methodLink "LevelledRing" (136 : Nat) ({ cls := "LevelledRing", name := "hasValue", desc := "(I)Z" } : Jvm.MethodName)) ∈ TB := tb_of (List.mem_of_getElem? (i := 404) (by decide +kernel)) (by decide +kernel)
theorem t_406 : (Jvm.Cond.instanceMethod ({ cls := "LevelledRing", name := "hasValue", desc := "(I)Z" } : Jvm.MethodName)) ∈ TB := tb_of (List.mem_of_getElem? (i := 406) (by decide +kernel)) (by decide +kernel)
theorem t_407 : (Jvm.Cond.code ({ cls := "LevelledRing", name := "hasValue", desc := "(I)Z" } : Jvm.MethodName) prog_1_method_21_code (2 : Nat) (Option.some Jvm.ClassFile.FieldType.boolean)) ∈ TB := tb_of (List.mem_of_getElem? (i := 407) (by decide +kernel)) (by decide +kernel)
theorem t_408 : (Jvm.Cond.methodLink "LevelledRingLaw" (70 : Nat) ({ cls := "LevelledRing", name := "meter", desc := "(I)J" } : Jvm.MethodName)) ∈ TB := tb_of (List.mem_of_getElem? (i := 408) (by decide +kernel)) (by decide +kernel)
theorem t_409 : (Jvm.Cond.instanceMethod ({ cls := "LevelledRing", name := "meter", desc := "(I)J" } : Jvm.MethodName)) ∈ TB := tb_of (List.mem_of_getElem? (i := 409) (by decide +kernel)) (by decide +kernel)
theorem t_410 : (Jvm.Cond.selects "LevelledRing" ({ cls := "LevelledRing", name := "meter", desc := "(I)J" } : Jvm.MethodName) ({ cls := "LevelledRing", name := "meter", desc := "(I)J" } : Jvm.MethodName)) ∈ TB := tb_of (List.mem_of_getElem? (i := 410) (by decide +kernel)) (by decide +kernel)
theorem t_411 : (Jvm.Cond.code ({ cls := "LevelledRing", name := "meter", desc := "(I)J" } : Jvm.MethodName) prog_1_method_13_code (2 : Nat) (Option.some Jvm.ClassFile.FieldType.long)) ∈ TB := tb_of (List.mem_of_getElem? (i := 411) (by decide +kernel)) (by decide +kernel)
theorem t_412 : (Jvm.Cond.constantLong "LevelledRing" (149 : Nat) (-1 : Int64)) ∈ TB := tb_of (List.mem_of_getElem? (i := 412) (by decide +kernel)) (by decide +kernel)
theorem t_413 : (Jvm.Cond.methodLink "LevelledRingLaw" (75 : Nat) ({ cls := "LevelledRing", name := "noise", desc := "(I)J" } : Jvm.MethodName)) ∈ TB := tb_of (List.mem_of_getElem? (i := 413) (by decide +kernel)) (by decide +kernel)
theorem t_414 : (Jvm.Cond.instanceMethod ({ cls := "LevelledRing", name := "noise", desc := "(I)J" } : Jvm.MethodName)) ∈ TB := tb_of (List.mem_of_getElem? (i := 414) (by decide +kernel)) (by decide +kernel)
theorem t_415 : (Jvm.Cond.selects "LevelledRing" ({ cls := "LevelledRing", name := "noise", desc := "(I)J" } : Jvm.MethodName) ({ cls := "LevelledRing", name := "noise", desc := "(I)J" } : Jvm.MethodName)) ∈ TB := tb_of (List.mem_of_getElem? (i := 415) (by decide +kernel)) (by decide +kernel)
theorem t_416 : (Jvm.Cond.code ({ cls := "LevelledRing", name := "noise", desc := "(I)J" } : Jvm.MethodName) prog_1_method_14_code (6 : Nat) (Option.some Jvm.ClassFile.FieldType.long)) ∈ TB := tb_of (List.mem_of_getElem? (i := 416) (by decide +kernel)) (by decide +kernel)
theorem t_417 : (Jvm.Cond.methodLink "LevelledRing" (151 : Nat) ({ cls := "LevelledRing", name := "openValue", desc := "(LLevelledRing$Value;)V" } : Jvm.MethodName)) ∈ TB := tb_of (List.mem_of_getElem? (i := 417) (by decide +kernel)) (by decide +kernel)
theorem t_419 : (Jvm.Cond.instanceMethod ({ cls := "LevelledRing", name := "openValue", desc := "(LLevelledRing$Value;)V" } : Jvm.MethodName)) ∈ TB := tb_of (List.mem_of_getElem? (i := 419) (by decide +kernel)) (by decide +kernel)
theorem t_420 : (Jvm.Cond.code ({ cls := "LevelledRing", name := "openValue", desc := "(LLevelledRing$Value;)V" } : Jvm.MethodName) prog_1_method_37_code (2 : Nat) (Option.none : Option Jvm.ClassFile.FieldType)) ∈ TB := tb_of (List.mem_of_getElem? (i := 420) (by decide +kernel)) (by decide +kernel)
theorem t_421 : (Jvm.Cond.methodLink "LevelledRing" (155 : Nat) ({ cls := "LevelledRing$Poly", name := "centredCoefficient", desc := "(II)J" } : Jvm.MethodName)) ∈ TB := tb_of (List.mem_of_getElem? (i := 421) (by decide +kernel)) (by decide +kernel)
theorem t_422 : (Jvm.Cond.instanceMethod ({ cls := "LevelledRing$Poly", name := "centredCoefficient", desc := "(II)J" } : Jvm.MethodName)) ∈ TB := tb_of (List.mem_of_getElem? (i := 422) (by decide +kernel)) (by decide +kernel)
theorem t_423 : (Jvm.Cond.selects "LevelledRing$Poly" ({ cls := "LevelledRing$Poly", name := "centredCoefficient", desc := "(II)J" } : Jvm.MethodName) ({ cls := "LevelledRing$Poly", name := "centredCoefficient", desc := "(II)J" } : Jvm.MethodName)) ∈ TB := tb_of (List.mem_of_getElem? (i := 423) (by decide +kernel)) (by decide +kernel)
theorem t_424 : (Jvm.Cond.code ({ cls := "LevelledRing$Poly", name := "centredCoefficient", desc := "(II)J" } : Jvm.MethodName) prog_7_method_16_code (3 : Nat) (Option.some Jvm.ClassFile.FieldType.long)) ∈ TB := tb_of (List.mem_of_getElem? (i := 424) (by decide +kernel)) (by decide +kernel)
theorem t_425 : (Jvm.Cond.methodLink "LevelledRing$Poly" (68 : Nat) ({ cls := "LevelledRing$Poly", name := "wholeCoefficient", desc := "(II)J" } : Jvm.MethodName)) ∈ TB := tb_of (List.mem_of_getElem? (i := 425) (by decide +kernel)) (by decide +kernel)
theorem t_426 : (Jvm.Cond.instanceMethod ({ cls := "LevelledRing$Poly", name := "wholeCoefficient", desc := "(II)J" } : Jvm.MethodName)) ∈ TB := tb_of (List.mem_of_getElem? (i := 426) (by decide +kernel)) (by decide +kernel)
theorem t_427 : (Jvm.Cond.selects "LevelledRing$Poly" ({ cls := "LevelledRing$Poly", name := "wholeCoefficient", desc := "(II)J" } : Jvm.MethodName) ({ cls := "LevelledRing$Poly", name := "wholeCoefficient", desc := "(II)J" } : Jvm.MethodName)) ∈ TB := tb_of (List.mem_of_getElem? (i := 427) (by decide +kernel)) (by decide +kernel)
theorem t_428 : (Jvm.Cond.code ({ cls := "LevelledRing$Poly", name := "wholeCoefficient", desc := "(II)J" } : Jvm.MethodName) prog_7_method_15_code (8 : Nat) (Option.some Jvm.ClassFile.FieldType.long)) ∈ TB := tb_of (List.mem_of_getElem? (i := 428) (by decide +kernel)) (by decide +kernel)
theorem t_432 : (Jvm.Cond.methodLink "LevelledRing" (159 : Nat) ({ cls := "java/lang/Math", name := "abs", desc := "(J)J" } : Jvm.MethodName)) ∈ TB := tb_of (List.mem_of_getElem? (i := 432) (by decide +kernel)) (by decide +kernel)
theorem t_433 : (Jvm.Cond.static ({ cls := "java/lang/Math", name := "abs", desc := "(J)J" } : Jvm.MethodName)) ∈ TB := tb_of (List.mem_of_getElem? (i := 433) (by decide +kernel)) (by decide +kernel)
theorem t_434 : (Jvm.Cond.code ({ cls := "java/lang/Math", name := "abs", desc := "(J)J" } : Jvm.MethodName) prog_12_method_61_code (2 : Nat) (Option.some Jvm.ClassFile.FieldType.long)) ∈ TB := tb_of (List.mem_of_getElem? (i := 434) (by decide +kernel)) (by decide +kernel)
theorem t_435 : (Jvm.Cond.methodLink "LevelledRing" (163 : Nat) ({ cls := "java/lang/Math", name := "max", desc := "(JJ)J" } : Jvm.MethodName)) ∈ TB := tb_of (List.mem_of_getElem? (i := 435) (by decide +kernel)) (by decide +kernel)
theorem t_436 : (Jvm.Cond.static ({ cls := "java/lang/Math", name := "max", desc := "(JJ)J" } : Jvm.MethodName)) ∈ TB := tb_of (List.mem_of_getElem? (i := 436) (by decide +kernel)) (by decide +kernel)
theorem t_437 : (Jvm.Cond.code ({ cls := "java/lang/Math", name := "max", desc := "(JJ)J" } : Jvm.MethodName) prog_12_method_66_code (4 : Nat) (Option.some Jvm.ClassFile.FieldType.long)) ∈ TB := tb_of (List.mem_of_getElem? (i := 437) (by decide +kernel)) (by decide +kernel)
theorem t_438 : (Jvm.Cond.methodLink "LevelledRingLaw" (79 : Nat) ({ cls := "LevelledRing", name := "part", desc := "(III)J" } : Jvm.MethodName)) ∈ TB := tb_of (List.mem_of_getElem? (i := 438) (by decide +kernel)) (by decide +kernel)
theorem t_439 : (Jvm.Cond.instanceMethod ({ cls := "LevelledRing", name := "part", desc := "(III)J" } : Jvm.MethodName)) ∈ TB := tb_of (List.mem_of_getElem? (i := 439) (by decide +kernel)) (by decide +kernel)
theorem t_440 : (Jvm.Cond.selects "LevelledRing" ({ cls := "LevelledRing", name := "part", desc := "(III)J" } : Jvm.MethodName) ({ cls := "LevelledRing", name := "part", desc := "(III)J" } : Jvm.MethodName)) ∈ TB := tb_of (List.mem_of_getElem? (i := 440) (by decide +kernel)) (by decide +kernel)
theorem t_441 : (Jvm.Cond.code ({ cls := "LevelledRing", name := "part", desc := "(III)J" } : Jvm.MethodName) prog_1_method_15_code (6 : Nat) (Option.some Jvm.ClassFile.FieldType.long)) ∈ TB := tb_of (List.mem_of_getElem? (i := 441) (by decide +kernel)) (by decide +kernel)
theorem t_442 : (Jvm.Cond.methodLink "LevelledRing" (173 : Nat) ({ cls := "LevelledRing$Poly", name := "wholeCoefficient", desc := "(II)J" } : Jvm.MethodName)) ∈ TB := tb_of (List.mem_of_getElem? (i := 442) (by decide +kernel)) (by decide +kernel)
theorem t_443 : (Jvm.Cond.methodLink "LevelledRingLaw" (84 : Nat) ({ cls := "LevelledRing", name := "decrypted", desc := "(II)I" } : Jvm.MethodName)) ∈ TB := tb_of (List.mem_of_getElem? (i := 443) (by decide +kernel)) (by decide +kernel)
theorem t_444 : (Jvm.Cond.instanceMethod ({ cls := "LevelledRing", name := "decrypted", desc := "(II)I" } : Jvm.MethodName)) ∈ TB := tb_of (List.mem_of_getElem? (i := 444) (by decide +kernel)) (by decide +kernel)
theorem t_445 : (Jvm.Cond.selects "LevelledRing" ({ cls := "LevelledRing", name := "decrypted", desc := "(II)I" } : Jvm.MethodName) ({ cls := "LevelledRing", name := "decrypted", desc := "(II)I" } : Jvm.MethodName)) ∈ TB := tb_of (List.mem_of_getElem? (i := 445) (by decide +kernel)) (by decide +kernel)
theorem t_446 : (Jvm.Cond.code ({ cls := "LevelledRing", name := "decrypted", desc := "(II)I" } : Jvm.MethodName) prog_1_method_16_code (4 : Nat) (Option.some Jvm.ClassFile.FieldType.int)) ∈ TB := tb_of (List.mem_of_getElem? (i := 446) (by decide +kernel)) (by decide +kernel)
theorem t_447 : (Jvm.Cond.methodLink "LevelledRingLaw" (88 : Nat) ({ cls := "LevelledRing", name := "plain", desc := "(II)I" } : Jvm.MethodName)) ∈ TB := tb_of (List.mem_of_getElem? (i := 447) (by decide +kernel)) (by decide +kernel)
theorem t_448 : (Jvm.Cond.instanceMethod ({ cls := "LevelledRing", name := "plain", desc := "(II)I" } : Jvm.MethodName)) ∈ TB := tb_of (List.mem_of_getElem? (i := 448) (by decide +kernel)) (by decide +kernel)
theorem t_449 : (Jvm.Cond.selects "LevelledRing" ({ cls := "LevelledRing", name := "plain", desc := "(II)I" } : Jvm.MethodName) ({ cls := "LevelledRing", name := "plain", desc := "(II)I" } : Jvm.MethodName)) ∈ TB := tb_of (List.mem_of_getElem? (i := 449) (by decide +kernel)) (by decide +kernel)
theorem t_450 : (Jvm.Cond.code ({ cls := "LevelledRing", name := "plain", desc := "(II)I" } : Jvm.MethodName) prog_1_method_17_code (3 : Nat) (Option.some Jvm.ClassFile.FieldType.int)) ∈ TB := tb_of (List.mem_of_getElem? (i := 450) (by decide +kernel)) (by decide +kernel)
theorem t_451 : (Jvm.Cond.methodLink "LevelledRingLaw" (92 : Nat) ({ cls := "LevelledRing", name := "secret", desc := "(I)I" } : Jvm.MethodName)) ∈ TB := tb_of (List.mem_of_getElem? (i := 451) (by decide +kernel)) (by decide +kernel)
theorem t_452 : (Jvm.Cond.instanceMethod ({ cls := "LevelledRing", name := "secret", desc := "(I)I" } : Jvm.MethodName)) ∈ TB := tb_of (List.mem_of_getElem? (i := 452) (by decide +kernel)) (by decide +kernel)
theorem t_453 : (Jvm.Cond.selects "LevelledRing" ({ cls := "LevelledRing", name := "secret", desc := "(I)I" } : Jvm.MethodName) ({ cls := "LevelledRing", name := "secret", desc := "(I)I" } : Jvm.MethodName)) ∈ TB := tb_of (List.mem_of_getElem? (i := 453) (by decide +kernel)) (by decide +kernel)
theorem t_454 : (Jvm.Cond.code ({ cls := "LevelledRing", name := "secret", desc := "(I)I" } : Jvm.MethodName) prog_1_method_18_code (2 : Nat) (Option.some Jvm.ClassFile.FieldType.int)) ∈ TB := tb_of (List.mem_of_getElem? (i := 454) (by decide +kernel)) (by decide +kernel)
theorem t_455 : (Jvm.Cond.methodLink "LevelledRingLaw" (9 : Nat) ({ cls := "LevelledRingLaw", name := "cell", desc := "([II)I" } : Jvm.MethodName)) ∈ TB := tb_of (List.mem_of_getElem? (i := 455) (by decide +kernel)) (by decide +kernel)
theorem t_456 : (Jvm.Cond.static ({ cls := "LevelledRingLaw", name := "cell", desc := "([II)I" } : Jvm.MethodName)) ∈ TB := tb_of (List.mem_of_getElem? (i := 456) (by decide +kernel)) (by decide +kernel)
theorem t_457 : (Jvm.Cond.code ({ cls := "LevelledRingLaw", name := "cell", desc := "([II)I" } : Jvm.MethodName) method_2_code (2 : Nat) (Option.some Jvm.ClassFile.FieldType.int)) ∈ TB := tb_of (List.mem_of_getElem? (i := 457) (by decide +kernel)) (by decide +kernel)
theorem t_458 : (Jvm.Cond.classLink "LevelledRingLaw" (18 : Nat) "LevelledRingModel") ∈ TB := tb_of (List.mem_of_getElem? (i := 458) (by decide +kernel)) (by decide +kernel)
theorem t_459 : (Jvm.Cond.instantiable "LevelledRingModel" (19 : Nat)) ∈ TB := tb_of (List.mem_of_getElem? (i := 459) (by decide +kernel)) (by decide +kernel)
theorem t_460 : (Jvm.Cond.methodLink "LevelledRingLaw" (20 : Nat) ({ cls := "LevelledRingModel", name := "<init>", desc := "(I)V" } : Jvm.MethodName)) ∈ TB := tb_of (List.mem_of_getElem? (i := 460) (by decide +kernel)) (by decide +kernel)
theorem t_461 : (Jvm.Cond.instanceMethod ({ cls := "LevelledRingModel", name := "<init>", desc := "(I)V" } : Jvm.MethodName)) ∈ TB := tb_of (List.mem_of_getElem? (i := 461) (by decide +kernel)) (by decide +kernel)
theorem t_462 : (Jvm.Cond.code ({ cls := "LevelledRingModel", name := "<init>", desc := "(I)V" } : Jvm.MethodName) prog_10_method_1_code (10 : Nat) (Option.none : Option Jvm.ClassFile.FieldType)) ∈ TB := tb_of (List.mem_of_getElem? (i := 462) (by decide +kernel)) (by decide +kernel)
theorem t_463 : (Jvm.Cond.methodLink "LevelledRingModel" (1 : Nat) ({ cls := "java/lang/Object", name := "<init>", desc := "()V" } : Jvm.MethodName)) ∈ TB := tb_of (List.mem_of_getElem? (i := 463) (by decide +kernel)) (by decide +kernel)
theorem t_464 : (Jvm.Cond.constant "LevelledRingModel" (63 : Nat) (40000 : Int32)) ∈ TB := tb_of (List.mem_of_getElem? (i := 464) (by decide +kernel)) (by decide +kernel)
theorem t_465 : (Jvm.Cond.methodLink "LevelledRingModel" (68 : Nat) ({ cls := "LevelledRingModel", name := "drawSmall", desc := "()V" } : Jvm.MethodName)) ∈ TB := tb_of (List.mem_of_getElem? (i := 465) (by decide +kernel)) (by decide +kernel)
theorem t_467 : (Jvm.Cond.instanceMethod ({ cls := "LevelledRingModel", name := "drawSmall", desc := "()V" } : Jvm.MethodName)) ∈ TB := tb_of (List.mem_of_getElem? (i := 467) (by decide +kernel)) (by decide +kernel)
theorem t_468 : (Jvm.Cond.code ({ cls := "LevelledRingModel", name := "drawSmall", desc := "()V" } : Jvm.MethodName) prog_10_method_3_code (2 : Nat) (Option.none : Option Jvm.ClassFile.FieldType)) ∈ TB := tb_of (List.mem_of_getElem? (i := 468) (by decide +kernel)) (by decide +kernel)
theorem t_469 : (Jvm.Cond.methodLink "LevelledRingModel" (80 : Nat) ({ cls := "LevelledRingModel", name := "draw", desc := "()I" } : Jvm.MethodName)) ∈ TB := tb_of (List.mem_of_getElem? (i := 469) (by decide +kernel)) (by decide +kernel)
theorem t_471 : (Jvm.Cond.instanceMethod ({ cls := "LevelledRingModel", name := "draw", desc := "()I" } : Jvm.MethodName)) ∈ TB := tb_of (List.mem_of_getElem? (i := 471) (by decide +kernel)) (by decide +kernel)
theorem t_472 : (Jvm.Cond.code ({ cls := "LevelledRingModel", name := "draw", desc := "()I" } : Jvm.MethodName) prog_10_method_2_code (1 : Nat) (Option.some Jvm.ClassFile.FieldType.int)) ∈ TB := tb_of (List.mem_of_getElem? (i := 472) (by decide +kernel)) (by decide +kernel)
theorem t_473 : (Jvm.Cond.constant "LevelledRingModel" (78 : Nat) (1664525 : Int32)) ∈ TB := tb_of (List.mem_of_getElem? (i := 473) (by decide +kernel)) (by decide +kernel)
theorem t_474 : (Jvm.Cond.constant "LevelledRingModel" (79 : Nat) (1013904223 : Int32)) ∈ TB := tb_of (List.mem_of_getElem? (i := 474) (by decide +kernel)) (by decide +kernel)
theorem t_475 : (Jvm.Cond.methodLink "LevelledRingModel" (71 : Nat) ({ cls := "LevelledRingModel", name := "drawUniform", desc := "(I)V" } : Jvm.MethodName)) ∈ TB := tb_of (List.mem_of_getElem? (i := 475) (by decide +kernel)) (by decide +kernel)
theorem t_477 : (Jvm.Cond.instanceMethod ({ cls := "LevelledRingModel", name := "drawUniform", desc := "(I)V" } : Jvm.MethodName)) ∈ TB := tb_of (List.mem_of_getElem? (i := 477) (by decide +kernel)) (by decide +kernel)
theorem t_478 : (Jvm.Cond.code ({ cls := "LevelledRingModel", name := "drawUniform", desc := "(I)V" } : Jvm.MethodName) prog_10_method_4_code (7 : Nat) (Option.none : Option Jvm.ClassFile.FieldType)) ∈ TB := tb_of (List.mem_of_getElem? (i := 478) (by decide +kernel)) (by decide +kernel)
theorem t_479 : (Jvm.Cond.methodLink "LevelledRingModel" (84 : Nat) ({ cls := "LevelledRingModel", name := "times", desc := "(JJJ)J" } : Jvm.MethodName)) ∈ TB := tb_of (List.mem_of_getElem? (i := 479) (by decide +kernel)) (by decide +kernel)
theorem t_480 : (Jvm.Cond.static ({ cls := "LevelledRingModel", name := "times", desc := "(JJJ)J" } : Jvm.MethodName)) ∈ TB := tb_of (List.mem_of_getElem? (i := 480) (by decide +kernel)) (by decide +kernel)
theorem t_481 : (Jvm.Cond.code ({ cls := "LevelledRingModel", name := "times", desc := "(JJJ)J" } : Jvm.MethodName) prog_10_method_7_code (13 : Nat) (Option.some Jvm.ClassFile.FieldType.long)) ∈ TB := tb_of (List.mem_of_getElem? (i := 481) (by decide +kernel)) (by decide +kernel)
theorem t_482 : (Jvm.Cond.methodLink "LevelledRingModel" (75 : Nat) ({ cls := "LevelledRingModel", name := "makeB", desc := "(I)V" } : Jvm.MethodName)) ∈ TB := tb_of (List.mem_of_getElem? (i := 482) (by decide +kernel)) (by decide +kernel)
theorem t_484 : (Jvm.Cond.instanceMethod ({ cls := "LevelledRingModel", name := "makeB", desc := "(I)V" } : Jvm.MethodName)) ∈ TB := tb_of (List.mem_of_getElem? (i := 484) (by decide +kernel)) (by decide +kernel)
theorem t_485 : (Jvm.Cond.code ({ cls := "LevelledRingModel", name := "makeB", desc := "(I)V" } : Jvm.MethodName) prog_10_method_5_code (8 : Nat) (Option.none : Option Jvm.ClassFile.FieldType)) ∈ TB := tb_of (List.mem_of_getElem? (i := 485) (by decide +kernel)) (by decide +kernel)
theorem t_486 : (Jvm.Cond.methodLink "LevelledRingModel" (88 : Nat) ({ cls := "LevelledRingModel", name := "modulo", desc := "(JJ)J" } : Jvm.MethodName)) ∈ TB := tb_of (List.mem_of_getElem? (i := 486) (by decide +kernel)) (by decide +kernel)
theorem t_487 : (Jvm.Cond.static ({ cls := "LevelledRingModel", name := "modulo", desc := "(JJ)J" } : Jvm.MethodName)) ∈ TB := tb_of (List.mem_of_getElem? (i := 487) (by decide +kernel)) (by decide +kernel)
theorem t_488 : (Jvm.Cond.code ({ cls := "LevelledRingModel", name := "modulo", desc := "(JJ)J" } : Jvm.MethodName) prog_10_method_6_code (6 : Nat) (Option.some Jvm.ClassFile.FieldType.long)) ∈ TB := tb_of (List.mem_of_getElem? (i := 488) (by decide +kernel)) (by decide +kernel)
theorem t_489 : (Jvm.Cond.methodLink "LevelledRingModel" (92 : Nat) ({ cls := "LevelledRingModel", name := "withSecret", desc := "(IIJ)J" } : Jvm.MethodName)) ∈ TB := tb_of (List.mem_of_getElem? (i := 489) (by decide +kernel)) (by decide +kernel)
theorem t_491 : (Jvm.Cond.instanceMethod ({ cls := "LevelledRingModel", name := "withSecret", desc := "(IIJ)J" } : Jvm.MethodName)) ∈ TB := tb_of (List.mem_of_getElem? (i := 491) (by decide +kernel)) (by decide +kernel)
theorem t_492 : (Jvm.Cond.code ({ cls := "LevelledRingModel", name := "withSecret", desc := "(IIJ)J" } : Jvm.MethodName) prog_10_method_8_code (10 : Nat) (Option.some Jvm.ClassFile.FieldType.long)) ∈ TB := tb_of (List.mem_of_getElem? (i := 492) (by decide +kernel)) (by decide +kernel)
theorem t_493 : (Jvm.Cond.fieldLink "LevelledRingModel" (7 : Nat) "LevelledRingModel" "row" "[J") ∈ TB := tb_of (List.mem_of_getElem? (i := 493) (by decide +kernel)) (by decide +kernel)
theorem t_494 : (Jvm.Cond.fieldLink "LevelledRingModel" (13 : Nat) "LevelledRingModel" "prime" "[I") ∈ TB := tb_of (List.mem_of_getElem? (i := 494) (by decide +kernel)) (by decide +kernel)
theorem t_495 : (Jvm.Cond.fieldLink "LevelledRingModel" (17 : Nat) "LevelledRingModel" "big" "[J") ∈ TB := tb_of (List.mem_of_getElem? (i := 495) (by decide +kernel)) (by decide +kernel)
theorem t_496 : (Jvm.Cond.fieldLink "LevelledRingModel" (20 : Nat) "LevelledRingModel" "unit" "[J") ∈ TB := tb_of (List.mem_of_getElem? (i := 496) (by decide +kernel)) (by decide +kernel)
theorem t_497 : (Jvm.Cond.fieldLink "LevelledRingModel" (23 : Nat) "LevelledRingModel" "secret" "[I") ∈ TB := tb_of (List.mem_of_getElem? (i := 497) (by decide +kernel)) (by decide +kernel)
theorem t_498 : (Jvm.Cond.fieldLink "LevelledRingModel" (26 : Nat) "LevelledRingModel" "small" "[I") ∈ TB := tb_of (List.mem_of_getElem? (i := 498) (by decide +kernel)) (by decide +kernel)
theorem t_499 : (Jvm.Cond.fieldLink "LevelledRingModel" (64 : Nat) "LevelledRingModel" "z" "I") ∈ TB := tb_of (List.mem_of_getElem? (i := 499) (by decide +kernel)) (by decide +kernel)
theorem t_500 : (Jvm.Cond.fieldLink "LevelledRingModel" (29 : Nat) "LevelledRingModel" "message" "[I") ∈ TB := tb_of (List.mem_of_getElem? (i := 500) (by decide +kernel)) (by decide +kernel)
theorem t_501 : (Jvm.Cond.fieldLink "LevelledRingModel" (98 : Nat) "LevelledRingModel" "count" "I") ∈ TB := tb_of (List.mem_of_getElem? (i := 501) (by decide +kernel)) (by decide +kernel)
theorem t_502 : (Jvm.Cond.fieldLink "LevelledRingModel" (32 : Nat) "LevelledRingModel" "kind" "[I") ∈ TB := tb_of (List.mem_of_getElem? (i := 502) (by decide +kernel)) (by decide +kernel)
theorem t_503 : (Jvm.Cond.fieldLink "LevelledRingModel" (35 : Nat) "LevelledRingModel" "first" "[I") ∈ TB := tb_of (List.mem_of_getElem? (i := 503) (by decide +kernel)) (by decide +kernel)
theorem t_504 : (Jvm.Cond.fieldLink "LevelledRingModel" (38 : Nat) "LevelledRingModel" "second" "[I") ∈ TB := tb_of (List.mem_of_getElem? (i := 504) (by decide +kernel)) (by decide +kernel)
theorem t_505 : (Jvm.Cond.fieldLink "LevelledRingModel" (41 : Nat) "LevelledRingModel" "plain" "[I") ∈ TB := tb_of (List.mem_of_getElem? (i := 505) (by decide +kernel)) (by decide +kernel)
theorem t_506 : (Jvm.Cond.fieldLink "LevelledRingModel" (44 : Nat) "LevelledRingModel" "has" "[Z") ∈ TB := tb_of (List.mem_of_getElem? (i := 506) (by decide +kernel)) (by decide +kernel)
theorem t_507 : (Jvm.Cond.fieldLink "LevelledRingModel" (48 : Nat) "LevelledRingModel" "level" "[I") ∈ TB := tb_of (List.mem_of_getElem? (i := 507) (by decide +kernel)) (by decide +kernel)
theorem t_508 : (Jvm.Cond.fieldLink "LevelledRingModel" (51 : Nat) "LevelledRingModel" "meter" "[J") ∈ TB := tb_of (List.mem_of_getElem? (i := 508) (by decide +kernel)) (by decide +kernel)
theorem t_509 : (Jvm.Cond.fieldLink "LevelledRingModel" (54 : Nat) "LevelledRingModel" "workLevel" "[I") ∈ TB := tb_of (List.mem_of_getElem? (i := 509) (by decide +kernel)) (by decide +kernel)
theorem t_510 : (Jvm.Cond.fieldLink "LevelledRingModel" (57 : Nat) "LevelledRingModel" "workMeter" "[J") ∈ TB := tb_of (List.mem_of_getElem? (i := 510) (by decide +kernel)) (by decide +kernel)
theorem t_511 : (Jvm.Cond.fieldLink "LevelledRingModel" (60 : Nat) "LevelledRingModel" "v" "[J") ∈ TB := tb_of (List.mem_of_getElem? (i := 511) (by decide +kernel)) (by decide +kernel)
theorem t_512 : (Jvm.Cond.laysFinal "LevelledRingModel" "LevelledRingModel" "row" "[J") ∈ TB := tb_of (List.mem_of_getElem? (i := 512) (by decide +kernel)) (by decide +kernel)
theorem t_513 : (Jvm.Cond.soleField "LevelledRingModel" "row") ∈ TB := tb_of (List.mem_of_getElem? (i := 513) (by decide +kernel)) (by decide +kernel)
theorem t_514 : (Jvm.Cond.laysFinal "LevelledRingModel" "LevelledRingModel" "prime" "[I") ∈ TB := tb_of (List.mem_of_getElem? (i := 514) (by decide +kernel)) (by decide +kernel)
theorem t_515 : (Jvm.Cond.soleField "LevelledRingModel" "prime") ∈ TB := tb_of (List.mem_of_getElem? (i := 515) (by decide +kernel)) (by decide +kernel)
theorem t_516 : (Jvm.Cond.laysFinal "LevelledRingModel" "LevelledRingModel" "big" "[J") ∈ TB := tb_of (List.mem_of_getElem? (i := 516) (by decide +kernel)) (by decide +kernel)
theorem t_517 : (Jvm.Cond.soleField "LevelledRingModel" "big") ∈ TB := tb_of (List.mem_of_getElem? (i := 517) (by decide +kernel)) (by decide +kernel)
theorem t_518 : (Jvm.Cond.laysFinal "LevelledRingModel" "LevelledRingModel" "unit" "[J") ∈ TB := tb_of (List.mem_of_getElem? (i := 518) (by decide +kernel)) (by decide +kernel)
theorem t_519 : (Jvm.Cond.soleField "LevelledRingModel" "unit") ∈ TB := tb_of (List.mem_of_getElem? (i := 519) (by decide +kernel)) (by decide +kernel)
theorem t_520 : (Jvm.Cond.laysFinal "LevelledRingModel" "LevelledRingModel" "secret" "[I") ∈ TB := tb_of (List.mem_of_getElem? (i := 520) (by decide +kernel)) (by decide +kernel)
theorem t_521 : (Jvm.Cond.soleField "LevelledRingModel" "secret") ∈ TB := tb_of (List.mem_of_getElem? (i := 521) (by decide +kernel)) (by decide +kernel)
theorem t_522 : (Jvm.Cond.laysFinal "LevelledRingModel" "LevelledRingModel" "small" "[I") ∈ TB := tb_of (List.mem_of_getElem? (i := 522) (by decide +kernel)) (by decide +kernel)
theorem t_523 : (Jvm.Cond.soleField "LevelledRingModel" "small") ∈ TB := tb_of (List.mem_of_getElem? (i := 523) (by decide +kernel)) (by decide +kernel)
theorem t_524 : (Jvm.Cond.lays "LevelledRingModel" "LevelledRingModel" "z" "I") ∈ TB := tb_of (List.mem_of_getElem? (i := 524) (by decide +kernel)) (by decide +kernel)
theorem t_525 : (Jvm.Cond.soleField "LevelledRingModel" "z") ∈ TB := tb_of (List.mem_of_getElem? (i := 525) (by decide +kernel)) (by decide +kernel)
theorem t_526 : (Jvm.Cond.laysFinal "LevelledRingModel" "LevelledRingModel" "message" "[I") ∈ TB := tb_of (List.mem_of_getElem? (i := 526) (by decide +kernel)) (by decide +kernel)
theorem t_527 : (Jvm.Cond.soleField "LevelledRingModel" "message") ∈ TB := tb_of (List.mem_of_getElem? (i := 527) (by decide +kernel)) (by decide +kernel)
theorem t_528 : (Jvm.Cond.lays "LevelledRingModel" "LevelledRingModel" "count" "I") ∈ TB := tb_of (List.mem_of_getElem? (i := 528) (by decide +kernel)) (by decide +kernel)
theorem t_529 : (Jvm.Cond.soleField "LevelledRingModel" "count") ∈ TB := tb_of (List.mem_of_getElem? (i := 529) (by decide +kernel)) (by decide +kernel)
theorem t_530 : (Jvm.Cond.laysFinal "LevelledRingModel" "LevelledRingModel" "kind" "[I") ∈ TB := tb_of (List.mem_of_getElem? (i := 530) (by decide +kernel)) (by decide +kernel)
theorem t_531 : (Jvm.Cond.soleField "LevelledRingModel" "kind") ∈ TB := tb_of (List.mem_of_getElem? (i := 531) (by decide +kernel)) (by decide +kernel)
theorem t_532 : (Jvm.Cond.laysFinal "LevelledRingModel" "LevelledRingModel" "first" "[I") ∈ TB := tb_of (List.mem_of_getElem? (i := 532) (by decide +kernel)) (by decide +kernel)
theorem t_533 : (Jvm.Cond.soleField "LevelledRingModel" "first") ∈ TB := tb_of (List.mem_of_getElem? (i := 533) (by decide +kernel)) (by decide +kernel)
theorem t_534 : (Jvm.Cond.laysFinal "LevelledRingModel" "LevelledRingModel" "second" "[I") ∈ TB := tb_of (List.mem_of_getElem? (i := 534) (by decide +kernel)) (by decide +kernel)
theorem t_535 : (Jvm.Cond.soleField "LevelledRingModel" "second") ∈ TB := tb_of (List.mem_of_getElem? (i := 535) (by decide +kernel)) (by decide +kernel)
theorem t_536 : (Jvm.Cond.laysFinal "LevelledRingModel" "LevelledRingModel" "plain" "[I") ∈ TB := tb_of (List.mem_of_getElem? (i := 536) (by decide +kernel)) (by decide +kernel)
theorem t_537 : (Jvm.Cond.soleField "LevelledRingModel" "plain") ∈ TB := tb_of (List.mem_of_getElem? (i := 537) (by decide +kernel)) (by decide +kernel)
theorem t_538 : (Jvm.Cond.laysFinal "LevelledRingModel" "LevelledRingModel" "has" "[Z") ∈ TB := tb_of (List.mem_of_getElem? (i := 538) (by decide +kernel)) (by decide +kernel)
theorem t_539 : (Jvm.Cond.soleField "LevelledRingModel" "has") ∈ TB := tb_of (List.mem_of_getElem? (i := 539) (by decide +kernel)) (by decide +kernel)
theorem t_540 : (Jvm.Cond.laysFinal "LevelledRingModel" "LevelledRingModel" "level" "[I") ∈ TB := tb_of (List.mem_of_getElem? (i := 540) (by decide +kernel)) (by decide +kernel)
theorem t_541 : (Jvm.Cond.soleField "LevelledRingModel" "level") ∈ TB := tb_of (List.mem_of_getElem? (i := 541) (by decide +kernel)) (by decide +kernel)
theorem t_542 : (Jvm.Cond.laysFinal "LevelledRingModel" "LevelledRingModel" "meter" "[J") ∈ TB := tb_of (List.mem_of_getElem? (i := 542) (by decide +kernel)) (by decide +kernel)
theorem t_543 : (Jvm.Cond.soleField "LevelledRingModel" "meter") ∈ TB := tb_of (List.mem_of_getElem? (i := 543) (by decide +kernel)) (by decide +kernel)
theorem t_544 : (Jvm.Cond.laysFinal "LevelledRingModel" "LevelledRingModel" "workLevel" "[I") ∈ TB := tb_of (List.mem_of_getElem? (i := 544) (by decide +kernel)) (by decide +kernel)
theorem t_545 : (Jvm.Cond.soleField "LevelledRingModel" "workLevel") ∈ TB := tb_of (List.mem_of_getElem? (i := 545) (by decide +kernel)) (by decide +kernel)
theorem t_546 : (Jvm.Cond.laysFinal "LevelledRingModel" "LevelledRingModel" "workMeter" "[J") ∈ TB := tb_of (List.mem_of_getElem? (i := 546) (by decide +kernel)) (by decide +kernel)
theorem t_547 : (Jvm.Cond.soleField "LevelledRingModel" "workMeter") ∈ TB := tb_of (List.mem_of_getElem? (i := 547) (by decide +kernel)) (by decide +kernel)
theorem t_548 : (Jvm.Cond.laysFinal "LevelledRingModel" "LevelledRingModel" "v" "[J") ∈ TB := tb_of (List.mem_of_getElem? (i := 548) (by decide +kernel)) (by decide +kernel)
theorem t_549 : (Jvm.Cond.soleField "LevelledRingModel" "v") ∈ TB := tb_of (List.mem_of_getElem? (i := 549) (by decide +kernel)) (by decide +kernel)
theorem t_550 : (Jvm.Cond.superclass "LevelledRingModel" "java/lang/Object") ∈ TB := tb_of (List.mem_of_getElem? (i := 550) (by decide +kernel)) (by decide +kernel)
theorem t_551 : (Jvm.Cond.arrayClass Jvm.ClassFile.FieldType.long) ∈ TB := tb_of (List.mem_of_getElem? (i := 551) (by decide +kernel)) (by decide +kernel)
theorem t_552 : (Jvm.Cond.arrayClass Jvm.ClassFile.FieldType.boolean) ∈ TB := tb_of (List.mem_of_getElem? (i := 552) (by decide +kernel)) (by decide +kernel)
theorem t_553 : (Jvm.Cond.methodLink "LevelledRingLaw" (25 : Nat) ({ cls := "LevelledRingModel", name := "put", desc := "(II)Z" } : Jvm.MethodName)) ∈ TB := tb_of (List.mem_of_getElem? (i := 553) (by decide +kernel)) (by decide +kernel)
theorem t_554 : (Jvm.Cond.instanceMethod ({ cls := "LevelledRingModel", name := "put", desc := "(II)Z" } : Jvm.MethodName)) ∈ TB := tb_of (List.mem_of_getElem? (i := 554) (by decide +kernel)) (by decide +kernel)
theorem t_555 : (Jvm.Cond.selects "LevelledRingModel" ({ cls := "LevelledRingModel", name := "put", desc := "(II)Z" } : Jvm.MethodName) ({ cls := "LevelledRingModel", name := "put", desc := "(II)Z" } : Jvm.MethodName)) ∈ TB := tb_of (List.mem_of_getElem? (i := 555) (by decide +kernel)) (by decide +kernel)
theorem t_556 : (Jvm.Cond.code ({ cls := "LevelledRingModel", name := "put", desc := "(II)Z" } : Jvm.MethodName) prog_10_method_10_code (3 : Nat) (Option.some Jvm.ClassFile.FieldType.boolean)) ∈ TB := tb_of (List.mem_of_getElem? (i := 556) (by decide +kernel)) (by decide +kernel)
theorem t_557 : (Jvm.Cond.constantLong "LevelledRingModel" (96 : Nat) (17 : Int64)) ∈ TB := tb_of (List.mem_of_getElem? (i := 557) (by decide +kernel)) (by decide +kernel)
theorem t_558 : (Jvm.Cond.methodLink "LevelledRingLaw" (30 : Nat) ({ cls := "LevelledRingModel", name := "input", desc := "(I)I" } : Jvm.MethodName)) ∈ TB := tb_of (List.mem_of_getElem? (i := 558) (by decide +kernel)) (by decide +kernel)
theorem t_559 : (Jvm.Cond.instanceMethod ({ cls := "LevelledRingModel", name := "input", desc := "(I)I" } : Jvm.MethodName)) ∈ TB := tb_of (List.mem_of_getElem? (i := 559) (by decide +kernel)) (by decide +kernel)
theorem t_560 : (Jvm.Cond.selects "LevelledRingModel" ({ cls := "LevelledRingModel", name := "input", desc := "(I)I" } : Jvm.MethodName) ({ cls := "LevelledRingModel", name := "input", desc := "(I)I" } : Jvm.MethodName)) ∈ TB := tb_of (List.mem_of_getElem? (i := 560) (by decide +kernel)) (by decide +kernel)
theorem t_561 : (Jvm.Cond.code ({ cls := "LevelledRingModel", name := "input", desc := "(I)I" } : Jvm.MethodName) prog_10_method_15_code (2 : Nat) (Option.some Jvm.ClassFile.FieldType.int)) ∈ TB := tb_of (List.mem_of_getElem? (i := 561) (by decide +kernel)) (by decide +kernel)
theorem t_562 : (Jvm.Cond.methodLink "LevelledRingModel" (109 : Nat) ({ cls := "LevelledRingModel", name := "add", desc := "(III)I" } : Jvm.MethodName)) ∈ TB := tb_of (List.mem_of_getElem? (i := 562) (by decide +kernel)) (by decide +kernel)
theorem t_564 : (Jvm.Cond.instanceMethod ({ cls := "LevelledRingModel", name := "add", desc := "(III)I" } : Jvm.MethodName)) ∈ TB := tb_of (List.mem_of_getElem? (i := 564) (by decide +kernel)) (by decide +kernel)
theorem t_565 : (Jvm.Cond.code ({ cls := "LevelledRingModel", name := "add", desc := "(III)I" } : Jvm.MethodName) prog_10_method_12_code (5 : Nat) (Option.some Jvm.ClassFile.FieldType.int)) ∈ TB := tb_of (List.mem_of_getElem? (i := 565) (by decide +kernel)) (by decide +kernel)
theorem t_566 : (Jvm.Cond.methodLink "LevelledRingModel" (101 : Nat) ({ cls := "LevelledRingModel", name := "plainOf", desc := "(IIII)I" } : Jvm.MethodName)) ∈ TB := tb_of (List.mem_of_getElem? (i := 566) (by decide +kernel)) (by decide +kernel)
theorem t_568 : (Jvm.Cond.instanceMethod ({ cls := "LevelledRingModel", name := "plainOf", desc := "(IIII)I" } : Jvm.MethodName)) ∈ TB := tb_of (List.mem_of_getElem? (i := 568) (by decide +kernel)) (by decide +kernel)
theorem t_569 : (Jvm.Cond.code ({ cls := "LevelledRingModel", name := "plainOf", desc := "(IIII)I" } : Jvm.MethodName) prog_10_method_13_code (8 : Nat) (Option.some Jvm.ClassFile.FieldType.int)) ∈ TB := tb_of (List.mem_of_getElem? (i := 569) (by decide +kernel)) (by decide +kernel)
theorem t_570 : (Jvm.Cond.methodLink "LevelledRingModel" (105 : Nat) ({ cls := "LevelledRingModel", name := "sign", desc := "(II)I" } : Jvm.MethodName)) ∈ TB := tb_of (List.mem_of_getElem? (i := 570) (by decide +kernel)) (by decide +kernel)
theorem t_571 : (Jvm.Cond.static ({ cls := "LevelledRingModel", name := "sign", desc := "(II)I" } : Jvm.MethodName)) ∈ TB := tb_of (List.mem_of_getElem? (i := 571) (by decide +kernel)) (by decide +kernel)
theorem t_572 : (Jvm.Cond.code ({ cls := "LevelledRingModel", name := "sign", desc := "(II)I" } : Jvm.MethodName) prog_10_method_14_code (3 : Nat) (Option.some Jvm.ClassFile.FieldType.int)) ∈ TB := tb_of (List.mem_of_getElem? (i := 572) (by decide +kernel)) (by decide +kernel)
theorem t_573 : (Jvm.Cond.methodLink "LevelledRingLaw" (35 : Nat) ({ cls := "LevelledRingModel", name := "sum", desc := "(II)I" } : Jvm.MethodName)) ∈ TB := tb_of (List.mem_of_getElem? (i := 573) (by decide +kernel)) (by decide +kernel)
theorem t_574 : (Jvm.Cond.instanceMethod ({ cls := "LevelledRingModel", name := "sum", desc := "(II)I" } : Jvm.MethodName)) ∈ TB := tb_of (List.mem_of_getElem? (i := 574) (by decide +kernel)) (by decide +kernel)
theorem t_575 : (Jvm.Cond.selects "LevelledRingModel" ({ cls := "LevelledRingModel", name := "sum", desc := "(II)I" } : Jvm.MethodName) ({ cls := "LevelledRingModel", name := "sum", desc := "(II)I" } : Jvm.MethodName)) ∈ TB := tb_of (List.mem_of_getElem? (i := 575) (by decide +kernel)) (by decide +kernel)
theorem t_576 : (Jvm.Cond.code ({ cls := "LevelledRingModel", name := "sum", desc := "(II)I" } : Jvm.MethodName) prog_10_method_17_code (3 : Nat) (Option.some Jvm.ClassFile.FieldType.int)) ∈ TB := tb_of (List.mem_of_getElem? (i := 576) (by decide +kernel)) (by decide +kernel)
theorem t_577 : (Jvm.Cond.methodLink "LevelledRingModel" (117 : Nat) ({ cls := "LevelledRingModel", name := "pair", desc := "(III)I" } : Jvm.MethodName)) ∈ TB := tb_of (List.mem_of_getElem? (i := 577) (by decide +kernel)) (by decide +kernel)
theorem t_579 : (Jvm.Cond.instanceMethod ({ cls := "LevelledRingModel", name := "pair", desc := "(III)I" } : Jvm.MethodName)) ∈ TB := tb_of (List.mem_of_getElem? (i := 579) (by decide +kernel)) (by decide +kernel)
theorem t_580 : (Jvm.Cond.code ({ cls := "LevelledRingModel", name := "pair", desc := "(III)I" } : Jvm.MethodName) prog_10_method_16_code (4 : Nat) (Option.some Jvm.ClassFile.FieldType.int)) ∈ TB := tb_of (List.mem_of_getElem? (i := 580) (by decide +kernel)) (by decide +kernel)
theorem t_581 : (Jvm.Cond.methodLink "LevelledRingModel" (113 : Nat) ({ cls := "LevelledRingModel", name := "isGate", desc := "(I)Z" } : Jvm.MethodName)) ∈ TB := tb_of (List.mem_of_getElem? (i := 581) (by decide +kernel)) (by decide +kernel)
theorem t_583 : (Jvm.Cond.instanceMethod ({ cls := "LevelledRingModel", name := "isGate", desc := "(I)Z" } : Jvm.MethodName)) ∈ TB := tb_of (List.mem_of_getElem? (i := 583) (by decide +kernel)) (by decide +kernel)
theorem t_584 : (Jvm.Cond.code ({ cls := "LevelledRingModel", name := "isGate", desc := "(I)Z" } : Jvm.MethodName) prog_10_method_11_code (2 : Nat) (Option.some Jvm.ClassFile.FieldType.boolean)) ∈ TB := tb_of (List.mem_of_getElem? (i := 584) (by decide +kernel)) (by decide +kernel)
theorem t_585 : (Jvm.Cond.methodLink "LevelledRingLaw" (39 : Nat) ({ cls := "LevelledRingModel", name := "difference", desc := "(II)I" } : Jvm.MethodName)) ∈ TB := tb_of (List.mem_of_getElem? (i := 585) (by decide +kernel)) (by decide +kernel)
theorem t_586 : (Jvm.Cond.instanceMethod ({ cls := "LevelledRingModel", name := "difference", desc := "(II)I" } : Jvm.MethodName)) ∈ TB := tb_of (List.mem_of_getElem? (i := 586) (by decide +kernel)) (by decide +kernel)
theorem t_587 : (Jvm.Cond.selects "LevelledRingModel" ({ cls := "LevelledRingModel", name := "difference", desc := "(II)I" } : Jvm.MethodName) ({ cls := "LevelledRingModel", name := "difference", desc := "(II)I" } : Jvm.MethodName)) ∈ TB := tb_of (List.mem_of_getElem? (i := 587) (by decide +kernel)) (by decide +kernel)
theorem t_588 : (Jvm.Cond.code ({ cls := "LevelledRingModel", name := "difference", desc := "(II)I" } : Jvm.MethodName) prog_10_method_18_code (3 : Nat) (Option.some Jvm.ClassFile.FieldType.int)) ∈ TB := tb_of (List.mem_of_getElem? (i := 588) (by decide +kernel)) (by decide +kernel)
theorem t_589 : (Jvm.Cond.methodLink "LevelledRingLaw" (43 : Nat) ({ cls := "LevelledRingModel", name := "product", desc := "(II)I" } : Jvm.MethodName)) ∈ TB := tb_of (List.mem_of_getElem? (i := 589) (by decide +kernel)) (by decide +kernel)
theorem t_590 : (Jvm.Cond.instanceMethod ({ cls := "LevelledRingModel", name := "product", desc := "(II)I" } : Jvm.MethodName)) ∈ TB := tb_of (List.mem_of_getElem? (i := 590) (by decide +kernel)) (by decide +kernel)
theorem t_591 : (Jvm.Cond.selects "LevelledRingModel" ({ cls := "LevelledRingModel", name := "product", desc := "(II)I" } : Jvm.MethodName) ({ cls := "LevelledRingModel", name := "product", desc := "(II)I" } : Jvm.MethodName)) ∈ TB := tb_of (List.mem_of_getElem? (i := 591) (by decide +kernel)) (by decide +kernel)
theorem t_592 : (Jvm.Cond.code ({ cls := "LevelledRingModel", name := "product", desc := "(II)I" } : Jvm.MethodName) prog_10_method_19_code (3 : Nat) (Option.some Jvm.ClassFile.FieldType.int)) ∈ TB := tb_of (List.mem_of_getElem? (i := 592) (by decide +kernel)) (by decide +kernel)
theorem t_593 : (Jvm.Cond.methodLink "LevelledRingLaw" (47 : Nat) ({ cls := "LevelledRingModel", name := "shift", desc := "(II)I" } : Jvm.MethodName)) ∈ TB := tb_of (List.mem_of_getElem? (i := 593) (by decide +kernel)) (by decide +kernel)
theorem t_594 : (Jvm.Cond.instanceMethod ({ cls := "LevelledRingModel", name := "shift", desc := "(II)I" } : Jvm.MethodName)) ∈ TB := tb_of (List.mem_of_getElem? (i := 594) (by decide +kernel)) (by decide +kernel)
theorem t_595 : (Jvm.Cond.selects "LevelledRingModel" ({ cls := "LevelledRingModel", name := "shift", desc := "(II)I" } : Jvm.MethodName) ({ cls := "LevelledRingModel", name := "shift", desc := "(II)I" } : Jvm.MethodName)) ∈ TB := tb_of (List.mem_of_getElem? (i := 595) (by decide +kernel)) (by decide +kernel)
theorem t_596 : (Jvm.Cond.code ({ cls := "LevelledRingModel", name := "shift", desc := "(II)I" } : Jvm.MethodName) prog_10_method_20_code (3 : Nat) (Option.some Jvm.ClassFile.FieldType.int)) ∈ TB := tb_of (List.mem_of_getElem? (i := 596) (by decide +kernel)) (by decide +kernel)
theorem t_597 : (Jvm.Cond.methodLink "LevelledRingLaw" (51 : Nat) ({ cls := "LevelledRingModel", name := "lowered", desc := "(I)I" } : Jvm.MethodName)) ∈ TB := tb_of (List.mem_of_getElem? (i := 597) (by decide +kernel)) (by decide +kernel)
theorem t_598 : (Jvm.Cond.instanceMethod ({ cls := "LevelledRingModel", name := "lowered", desc := "(I)I" } : Jvm.MethodName)) ∈ TB := tb_of (List.mem_of_getElem? (i := 598) (by decide +kernel)) (by decide +kernel)
theorem t_599 : (Jvm.Cond.selects "LevelledRingModel" ({ cls := "LevelledRingModel", name := "lowered", desc := "(I)I" } : Jvm.MethodName) ({ cls := "LevelledRingModel", name := "lowered", desc := "(I)I" } : Jvm.MethodName)) ∈ TB := tb_of (List.mem_of_getElem? (i := 599) (by decide +kernel)) (by decide +kernel)
theorem t_600 : (Jvm.Cond.code ({ cls := "LevelledRingModel", name := "lowered", desc := "(I)I" } : Jvm.MethodName) prog_10_method_21_code (2 : Nat) (Option.some Jvm.ClassFile.FieldType.int)) ∈ TB := tb_of (List.mem_of_getElem? (i := 600) (by decide +kernel)) (by decide +kernel)
theorem t_601 : (Jvm.Cond.methodLink "LevelledRingLaw" (56 : Nat) ({ cls := "LevelledRingModel", name := "count", desc := "()I" } : Jvm.MethodName)) ∈ TB := tb_of (List.mem_of_getElem? (i := 601) (by decide +kernel)) (by decide +kernel)
theorem t_602 : (Jvm.Cond.instanceMethod ({ cls := "LevelledRingModel", name := "count", desc := "()I" } : Jvm.MethodName)) ∈ TB := tb_of (List.mem_of_getElem? (i := 602) (by decide +kernel)) (by decide +kernel)
theorem t_603 : (Jvm.Cond.selects "LevelledRingModel" ({ cls := "LevelledRingModel", name := "count", desc := "()I" } : Jvm.MethodName) ({ cls := "LevelledRingModel", name := "count", desc := "()I" } : Jvm.MethodName)) ∈ TB := tb_of (List.mem_of_getElem? (i := 603) (by decide +kernel)) (by decide +kernel)
theorem t_604 : (Jvm.Cond.code ({ cls := "LevelledRingModel", name := "count", desc := "()I" } : Jvm.MethodName) prog_10_method_22_code (1 : Nat) (Option.some Jvm.ClassFile.FieldType.int)) ∈ TB := tb_of (List.mem_of_getElem? (i := 604) (by decide +kernel)) (by decide +kernel)
theorem t_605 : (Jvm.Cond.methodLink "LevelledRingLaw" (61 : Nat) ({ cls := "LevelledRingModel", name := "cut", desc := "(I)Z" } : Jvm.MethodName)) ∈ TB := tb_of (List.mem_of_getElem? (i := 605) (by decide +kernel)) (by decide +kernel)
theorem t_606 : (Jvm.Cond.instanceMethod ({ cls := "LevelledRingModel", name := "cut", desc := "(I)Z" } : Jvm.MethodName)) ∈ TB := tb_of (List.mem_of_getElem? (i := 606) (by decide +kernel)) (by decide +kernel)
theorem t_607 : (Jvm.Cond.selects "LevelledRingModel" ({ cls := "LevelledRingModel", name := "cut", desc := "(I)Z" } : Jvm.MethodName) ({ cls := "LevelledRingModel", name := "cut", desc := "(I)Z" } : Jvm.MethodName)) ∈ TB := tb_of (List.mem_of_getElem? (i := 607) (by decide +kernel)) (by decide +kernel)
theorem t_608 : (Jvm.Cond.code ({ cls := "LevelledRingModel", name := "cut", desc := "(I)Z" } : Jvm.MethodName) prog_10_method_23_code (2 : Nat) (Option.some Jvm.ClassFile.FieldType.boolean)) ∈ TB := tb_of (List.mem_of_getElem? (i := 608) (by decide +kernel)) (by decide +kernel)
theorem t_609 : (Jvm.Cond.methodLink "LevelledRingLaw" (65 : Nat) ({ cls := "LevelledRingModel", name := "run", desc := "()I" } : Jvm.MethodName)) ∈ TB := tb_of (List.mem_of_getElem? (i := 609) (by decide +kernel)) (by decide +kernel)
theorem t_610 : (Jvm.Cond.instanceMethod ({ cls := "LevelledRingModel", name := "run", desc := "()I" } : Jvm.MethodName)) ∈ TB := tb_of (List.mem_of_getElem? (i := 610) (by decide +kernel)) (by decide +kernel)
theorem t_611 : (Jvm.Cond.selects "LevelledRingModel" ({ cls := "LevelledRingModel", name := "run", desc := "()I" } : Jvm.MethodName) ({ cls := "LevelledRingModel", name := "run", desc := "()I" } : Jvm.MethodName)) ∈ TB := tb_of (List.mem_of_getElem? (i := 611) (by decide +kernel)) (by decide +kernel)
theorem t_612 : (Jvm.Cond.code ({ cls := "LevelledRingModel", name := "run", desc := "()I" } : Jvm.MethodName) prog_10_method_33_code (2 : Nat) (Option.some Jvm.ClassFile.FieldType.int)) ∈ TB := tb_of (List.mem_of_getElem? (i := 612) (by decide +kernel)) (by decide +kernel)
theorem t_613 : (Jvm.Cond.methodLink "LevelledRingModel" (166 : Nat) ({ cls := "LevelledRingModel", name := "value", desc := "(I)Z" } : Jvm.MethodName)) ∈ TB := tb_of (List.mem_of_getElem? (i := 613) (by decide +kernel)) (by decide +kernel)
theorem t_615 : (Jvm.Cond.instanceMethod ({ cls := "LevelledRingModel", name := "value", desc := "(I)Z" } : Jvm.MethodName)) ∈ TB := tb_of (List.mem_of_getElem? (i := 615) (by decide +kernel)) (by decide +kernel)
theorem t_616 : (Jvm.Cond.code ({ cls := "LevelledRingModel", name := "value", desc := "(I)Z" } : Jvm.MethodName) prog_10_method_29_code (8 : Nat) (Option.some Jvm.ClassFile.FieldType.boolean)) ∈ TB := tb_of (List.mem_of_getElem? (i := 616) (by decide +kernel)) (by decide +kernel)
theorem t_617 : (Jvm.Cond.methodLink "LevelledRingModel" (139 : Nat) ({ cls := "LevelledRingModel", name := "encrypt", desc := "(I)Z" } : Jvm.MethodName)) ∈ TB := tb_of (List.mem_of_getElem? (i := 617) (by decide +kernel)) (by decide +kernel)
theorem t_619 : (Jvm.Cond.instanceMethod ({ cls := "LevelledRingModel", name := "encrypt", desc := "(I)Z" } : Jvm.MethodName)) ∈ TB := tb_of (List.mem_of_getElem? (i := 619) (by decide +kernel)) (by decide +kernel)
theorem t_620 : (Jvm.Cond.code ({ cls := "LevelledRingModel", name := "encrypt", desc := "(I)Z" } : Jvm.MethodName) prog_10_method_30_code (6 : Nat) (Option.some Jvm.ClassFile.FieldType.boolean)) ∈ TB := tb_of (List.mem_of_getElem? (i := 620) (by decide +kernel)) (by decide +kernel)
theorem t_621 : (Jvm.Cond.constantLong "LevelledRingModel" (153 : Nat) (33 : Int64)) ∈ TB := tb_of (List.mem_of_getElem? (i := 621) (by decide +kernel)) (by decide +kernel)
theorem t_622 : (Jvm.Cond.methodLink "LevelledRingModel" (149 : Nat) ({ cls := "LevelledRingModel", name := "keep", desc := "(IIJ)Z" } : Jvm.MethodName)) ∈ TB := tb_of (List.mem_of_getElem? (i := 622) (by decide +kernel)) (by decide +kernel)
theorem t_624 : (Jvm.Cond.instanceMethod ({ cls := "LevelledRingModel", name := "keep", desc := "(IIJ)Z" } : Jvm.MethodName)) ∈ TB := tb_of (List.mem_of_getElem? (i := 624) (by decide +kernel)) (by decide +kernel)
theorem t_625 : (Jvm.Cond.code ({ cls := "LevelledRingModel", name := "keep", desc := "(IIJ)Z" } : Jvm.MethodName) prog_10_method_28_code (5 : Nat) (Option.some Jvm.ClassFile.FieldType.boolean)) ∈ TB := tb_of (List.mem_of_getElem? (i := 625) (by decide +kernel)) (by decide +kernel)
theorem t_626 : (Jvm.Cond.methodLink "LevelledRingModel" (128 : Nat) ({ cls := "LevelledRingModel", name := "tooGreat", desc := "(JI)Z" } : Jvm.MethodName)) ∈ TB := tb_of (List.mem_of_getElem? (i := 626) (by decide +kernel)) (by decide +kernel)
theorem t_628 : (Jvm.Cond.instanceMethod ({ cls := "LevelledRingModel", name := "tooGreat", desc := "(JI)Z" } : Jvm.MethodName)) ∈ TB := tb_of (List.mem_of_getElem? (i := 628) (by decide +kernel)) (by decide +kernel)
theorem t_629 : (Jvm.Cond.code ({ cls := "LevelledRingModel", name := "tooGreat", desc := "(JI)Z" } : Jvm.MethodName) prog_10_method_24_code (4 : Nat) (Option.some Jvm.ClassFile.FieldType.boolean)) ∈ TB := tb_of (List.mem_of_getElem? (i := 629) (by decide +kernel)) (by decide +kernel)
theorem t_630 : (Jvm.Cond.constantLong "LevelledRingModel" (120 : Nat) (2 : Int64)) ∈ TB := tb_of (List.mem_of_getElem? (i := 630) (by decide +kernel)) (by decide +kernel)
theorem t_631 : (Jvm.Cond.methodLink "LevelledRingModel" (142 : Nat) ({ cls := "LevelledRingModel", name := "multiply", desc := "(I)Z" } : Jvm.MethodName)) ∈ TB := tb_of (List.mem_of_getElem? (i := 631) (by decide +kernel)) (by decide +kernel)
theorem t_633 : (Jvm.Cond.instanceMethod ({ cls := "LevelledRingModel", name := "multiply", desc := "(I)Z" } : Jvm.MethodName)) ∈ TB := tb_of (List.mem_of_getElem? (i := 633) (by decide +kernel)) (by decide +kernel)
theorem t_634 : (Jvm.Cond.code ({ cls := "LevelledRingModel", name := "multiply", desc := "(I)Z" } : Jvm.MethodName) prog_10_method_32_code (10 : Nat) (Option.some Jvm.ClassFile.FieldType.boolean)) ∈ TB := tb_of (List.mem_of_getElem? (i := 634) (by decide +kernel)) (by decide +kernel)
theorem t_635 : (Jvm.Cond.methodLink "LevelledRingModel" (155 : Nat) ({ cls := "LevelledRingModel", name := "level2", desc := "(II)Z" } : Jvm.MethodName)) ∈ TB := tb_of (List.mem_of_getElem? (i := 635) (by decide +kernel)) (by decide +kernel)
theorem t_637 : (Jvm.Cond.instanceMethod ({ cls := "LevelledRingModel", name := "level2", desc := "(II)Z" } : Jvm.MethodName)) ∈ TB := tb_of (List.mem_of_getElem? (i := 637) (by decide +kernel)) (by decide +kernel)
theorem t_638 : (Jvm.Cond.code ({ cls := "LevelledRingModel", name := "level2", desc := "(II)Z" } : Jvm.MethodName) prog_10_method_27_code (5 : Nat) (Option.some Jvm.ClassFile.FieldType.boolean)) ∈ TB := tb_of (List.mem_of_getElem? (i := 638) (by decide +kernel)) (by decide +kernel)
theorem t_639 : (Jvm.Cond.methodLink "LevelledRingModel" (132 : Nat) ({ cls := "LevelledRingModel", name := "load", desc := "(II)V" } : Jvm.MethodName)) ∈ TB := tb_of (List.mem_of_getElem? (i := 639) (by decide +kernel)) (by decide +kernel)
theorem t_641 : (Jvm.Cond.instanceMethod ({ cls := "LevelledRingModel", name := "load", desc := "(II)V" } : Jvm.MethodName)) ∈ TB := tb_of (List.mem_of_getElem? (i := 641) (by decide +kernel)) (by decide +kernel)
theorem t_642 : (Jvm.Cond.code ({ cls := "LevelledRingModel", name := "load", desc := "(II)V" } : Jvm.MethodName) prog_10_method_25_code (4 : Nat) (Option.none : Option Jvm.ClassFile.FieldType)) ∈ TB := tb_of (List.mem_of_getElem? (i := 642) (by decide +kernel)) (by decide +kernel)
theorem t_643 : (Jvm.Cond.methodLink "LevelledRingModel" (136 : Nat) ({ cls := "LevelledRingModel", name := "lower", desc := "(I)Z" } : Jvm.MethodName)) ∈ TB := tb_of (List.mem_of_getElem? (i := 643) (by decide +kernel)) (by decide +kernel)
theorem t_645 : (Jvm.Cond.instanceMethod ({ cls := "LevelledRingModel", name := "lower", desc := "(I)Z" } : Jvm.MethodName)) ∈ TB := tb_of (List.mem_of_getElem? (i := 645) (by decide +kernel)) (by decide +kernel)
theorem t_646 : (Jvm.Cond.code ({ cls := "LevelledRingModel", name := "lower", desc := "(I)Z" } : Jvm.MethodName) prog_10_method_26_code (12 : Nat) (Option.some Jvm.ClassFile.FieldType.boolean)) ∈ TB := tb_of (List.mem_of_getElem? (i := 646) (by decide +kernel)) (by decide +kernel)
theorem t_647 : (Jvm.Cond.constantLong "LevelledRingModel" (122 : Nat) (-8 : Int64)) ∈ TB := tb_of (List.mem_of_getElem? (i := 647) (by decide +kernel)) (by decide +kernel)
theorem t_648 : (Jvm.Cond.constantLong "LevelledRingModel" (124 : Nat) (8 : Int64)) ∈ TB := tb_of (List.mem_of_getElem? (i := 648) (by decide +kernel)) (by decide +kernel)
theorem t_649 : (Jvm.Cond.constantLong "LevelledRingModel" (126 : Nat) (77 : Int64)) ∈ TB := tb_of (List.mem_of_getElem? (i := 649) (by decide +kernel)) (by decide +kernel)
theorem t_650 : (Jvm.Cond.constantLong "LevelledRingModel" (158 : Nat) (1000 : Int64)) ∈ TB := tb_of (List.mem_of_getElem? (i := 650) (by decide +kernel)) (by decide +kernel)
theorem t_651 : (Jvm.Cond.methodLink "LevelledRingModel" (160 : Nat) ({ cls := "LevelledRingModel", name := "addProduct", desc := "(IIIJ)V" } : Jvm.MethodName)) ∈ TB := tb_of (List.mem_of_getElem? (i := 651) (by decide +kernel)) (by decide +kernel)
theorem t_653 : (Jvm.Cond.instanceMethod ({ cls := "LevelledRingModel", name := "addProduct", desc := "(IIIJ)V" } : Jvm.MethodName)) ∈ TB := tb_of (List.mem_of_getElem? (i := 653) (by decide +kernel)) (by decide +kernel)
theorem t_654 : (Jvm.Cond.code ({ cls := "LevelledRingModel", name := "addProduct", desc := "(IIIJ)V" } : Jvm.MethodName) prog_10_method_9_code (11 : Nat) (Option.none : Option Jvm.ClassFile.FieldType)) ∈ TB := tb_of (List.mem_of_getElem? (i := 654) (by decide +kernel)) (by decide +kernel)
theorem t_655 : (Jvm.Cond.constantLong "LevelledRingModel" (164 : Nat) (136 : Int64)) ∈ TB := tb_of (List.mem_of_getElem? (i := 655) (by decide +kernel)) (by decide +kernel)
theorem t_656 : (Jvm.Cond.methodLink "LevelledRingModel" (145 : Nat) ({ cls := "LevelledRingModel", name := "combine", desc := "(II)Z" } : Jvm.MethodName)) ∈ TB := tb_of (List.mem_of_getElem? (i := 656) (by decide +kernel)) (by decide +kernel)
theorem t_658 : (Jvm.Cond.instanceMethod ({ cls := "LevelledRingModel", name := "combine", desc := "(II)Z" } : Jvm.MethodName)) ∈ TB := tb_of (List.mem_of_getElem? (i := 658) (by decide +kernel)) (by decide +kernel)
theorem t_659 : (Jvm.Cond.code ({ cls := "LevelledRingModel", name := "combine", desc := "(II)Z" } : Jvm.MethodName) prog_10_method_31_code (5 : Nat) (Option.some Jvm.ClassFile.FieldType.boolean)) ∈ TB := tb_of (List.mem_of_getElem? (i := 659) (by decide +kernel)) (by decide +kernel)
theorem t_660 : (Jvm.Cond.methodLink "LevelledRingLaw" (69 : Nat) ({ cls := "LevelledRingModel", name := "level", desc := "(I)I" } : Jvm.MethodName)) ∈ TB := tb_of (List.mem_of_getElem? (i := 660) (by decide +kernel)) (by decide +kernel)
theorem t_661 : (Jvm.Cond.instanceMethod ({ cls := "LevelledRingModel", name := "level", desc := "(I)I" } : Jvm.MethodName)) ∈ TB := tb_of (List.mem_of_getElem? (i := 661) (by decide +kernel)) (by decide +kernel)
theorem t_662 : (Jvm.Cond.selects "LevelledRingModel" ({ cls := "LevelledRingModel", name := "level", desc := "(I)I" } : Jvm.MethodName) ({ cls := "LevelledRingModel", name := "level", desc := "(I)I" } : Jvm.MethodName)) ∈ TB := tb_of (List.mem_of_getElem? (i := 662) (by decide +kernel)) (by decide +kernel)
theorem t_663 : (Jvm.Cond.code ({ cls := "LevelledRingModel", name := "level", desc := "(I)I" } : Jvm.MethodName) prog_10_method_35_code (2 : Nat) (Option.some Jvm.ClassFile.FieldType.int)) ∈ TB := tb_of (List.mem_of_getElem? (i := 663) (by decide +kernel)) (by decide +kernel)
theorem t_664 : (Jvm.Cond.methodLink "LevelledRingModel" (169 : Nat) ({ cls := "LevelledRingModel", name := "valued", desc := "(I)Z" } : Jvm.MethodName)) ∈ TB := tb_of (List.mem_of_getElem? (i := 664) (by decide +kernel)) (by decide +kernel)
theorem t_666 : (Jvm.Cond.instanceMethod ({ cls := "LevelledRingModel", name := "valued", desc := "(I)Z" } : Jvm.MethodName)) ∈ TB := tb_of (List.mem_of_getElem? (i := 666) (by decide +kernel)) (by decide +kernel)
theorem t_667 : (Jvm.Cond.code ({ cls := "LevelledRingModel", name := "valued", desc := "(I)Z" } : Jvm.MethodName) prog_10_method_34_code (2 : Nat) (Option.some Jvm.ClassFile.FieldType.boolean)) ∈ TB := tb_of (List.mem_of_getElem? (i := 667) (by decide +kernel)) (by decide +kernel)
theorem t_668 : (Jvm.Cond.methodLink "LevelledRingLaw" (74 : Nat) ({ cls := "LevelledRingModel", name := "meter", desc := "(I)J" } : Jvm.MethodName)) ∈ TB := tb_of (List.mem_of_getElem? (i := 668) (by decide +kernel)) (by decide +kernel)
theorem t_669 : (Jvm.Cond.instanceMethod ({ cls := "LevelledRingModel", name := "meter", desc := "(I)J" } : Jvm.MethodName)) ∈ TB := tb_of (List.mem_of_getElem? (i := 669) (by decide +kernel)) (by decide +kernel)
theorem t_670 : (Jvm.Cond.selects "LevelledRingModel" ({ cls := "LevelledRingModel", name := "meter", desc := "(I)J" } : Jvm.MethodName) ({ cls := "LevelledRingModel", name := "meter", desc := "(I)J" } : Jvm.MethodName)) ∈ TB := tb_of (List.mem_of_getElem? (i := 670) (by decide +kernel)) (by decide +kernel)
theorem t_671 : (Jvm.Cond.code ({ cls := "LevelledRingModel", name := "meter", desc := "(I)J" } : Jvm.MethodName) prog_10_method_36_code (2 : Nat) (Option.some Jvm.ClassFile.FieldType.long)) ∈ TB := tb_of (List.mem_of_getElem? (i := 671) (by decide +kernel)) (by decide +kernel)
theorem t_672 : (Jvm.Cond.constantLong "LevelledRingModel" (172 : Nat) (-1 : Int64)) ∈ TB := tb_of (List.mem_of_getElem? (i := 672) (by decide +kernel)) (by decide +kernel)
theorem t_673 : (Jvm.Cond.methodLink "LevelledRingLaw" (78 : Nat) ({ cls := "LevelledRingModel", name := "noise", desc := "(I)J" } : Jvm.MethodName)) ∈ TB := tb_of (List.mem_of_getElem? (i := 673) (by decide +kernel)) (by decide +kernel)
theorem t_674 : (Jvm.Cond.instanceMethod ({ cls := "LevelledRingModel", name := "noise", desc := "(I)J" } : Jvm.MethodName)) ∈ TB := tb_of (List.mem_of_getElem? (i := 674) (by decide +kernel)) (by decide +kernel)
theorem t_675 : (Jvm.Cond.selects "LevelledRingModel" ({ cls := "LevelledRingModel", name := "noise", desc := "(I)J" } : Jvm.MethodName) ({ cls := "LevelledRingModel", name := "noise", desc := "(I)J" } : Jvm.MethodName)) ∈ TB := tb_of (List.mem_of_getElem? (i := 675) (by decide +kernel)) (by decide +kernel)
theorem t_676 : (Jvm.Cond.code ({ cls := "LevelledRingModel", name := "noise", desc := "(I)J" } : Jvm.MethodName) prog_10_method_38_code (7 : Nat) (Option.some Jvm.ClassFile.FieldType.long)) ∈ TB := tb_of (List.mem_of_getElem? (i := 676) (by decide +kernel)) (by decide +kernel)
theorem t_677 : (Jvm.Cond.methodLink "LevelledRingModel" (174 : Nat) ({ cls := "LevelledRingModel", name := "open", desc := "(I)V" } : Jvm.MethodName)) ∈ TB := tb_of (List.mem_of_getElem? (i := 677) (by decide +kernel)) (by decide +kernel)
theorem t_679 : (Jvm.Cond.instanceMethod ({ cls := "LevelledRingModel", name := "open", desc := "(I)V" } : Jvm.MethodName)) ∈ TB := tb_of (List.mem_of_getElem? (i := 679) (by decide +kernel)) (by decide +kernel)
theorem t_680 : (Jvm.Cond.code ({ cls := "LevelledRingModel", name := "open", desc := "(I)V" } : Jvm.MethodName) prog_10_method_37_code (7 : Nat) (Option.none : Option Jvm.ClassFile.FieldType)) ∈ TB := tb_of (List.mem_of_getElem? (i := 680) (by decide +kernel)) (by decide +kernel)
theorem t_681 : (Jvm.Cond.methodLink "LevelledRingLaw" (83 : Nat) ({ cls := "LevelledRingModel", name := "part", desc := "(III)J" } : Jvm.MethodName)) ∈ TB := tb_of (List.mem_of_getElem? (i := 681) (by decide +kernel)) (by decide +kernel)
theorem t_682 : (Jvm.Cond.instanceMethod ({ cls := "LevelledRingModel", name := "part", desc := "(III)J" } : Jvm.MethodName)) ∈ TB := tb_of (List.mem_of_getElem? (i := 682) (by decide +kernel)) (by decide +kernel)
theorem t_683 : (Jvm.Cond.selects "LevelledRingModel" ({ cls := "LevelledRingModel", name := "part", desc := "(III)J" } : Jvm.MethodName) ({ cls := "LevelledRingModel", name := "part", desc := "(III)J" } : Jvm.MethodName)) ∈ TB := tb_of (List.mem_of_getElem? (i := 683) (by decide +kernel)) (by decide +kernel)
theorem t_684 : (Jvm.Cond.code ({ cls := "LevelledRingModel", name := "part", desc := "(III)J" } : Jvm.MethodName) prog_10_method_39_code (4 : Nat) (Option.some Jvm.ClassFile.FieldType.long)) ∈ TB := tb_of (List.mem_of_getElem? (i := 684) (by decide +kernel)) (by decide +kernel)
theorem t_685 : (Jvm.Cond.methodLink "LevelledRingLaw" (87 : Nat) ({ cls := "LevelledRingModel", name := "decrypted", desc := "(II)I" } : Jvm.MethodName)) ∈ TB := tb_of (List.mem_of_getElem? (i := 685) (by decide +kernel)) (by decide +kernel)
theorem t_686 : (Jvm.Cond.instanceMethod ({ cls := "LevelledRingModel", name := "decrypted", desc := "(II)I" } : Jvm.MethodName)) ∈ TB := tb_of (List.mem_of_getElem? (i := 686) (by decide +kernel)) (by decide +kernel)
theorem t_687 : (Jvm.Cond.selects "LevelledRingModel" ({ cls := "LevelledRingModel", name := "decrypted", desc := "(II)I" } : Jvm.MethodName) ({ cls := "LevelledRingModel", name := "decrypted", desc := "(II)I" } : Jvm.MethodName)) ∈ TB := tb_of (List.mem_of_getElem? (i := 687) (by decide +kernel)) (by decide +kernel)
theorem t_688 : (Jvm.Cond.code ({ cls := "LevelledRingModel", name := "decrypted", desc := "(II)I" } : Jvm.MethodName) prog_10_method_40_code (3 : Nat) (Option.some Jvm.ClassFile.FieldType.int)) ∈ TB := tb_of (List.mem_of_getElem? (i := 688) (by decide +kernel)) (by decide +kernel)
theorem t_689 : (Jvm.Cond.methodLink "LevelledRingLaw" (91 : Nat) ({ cls := "LevelledRingModel", name := "plain", desc := "(II)I" } : Jvm.MethodName)) ∈ TB := tb_of (List.mem_of_getElem? (i := 689) (by decide +kernel)) (by decide +kernel)
theorem t_690 : (Jvm.Cond.instanceMethod ({ cls := "LevelledRingModel", name := "plain", desc := "(II)I" } : Jvm.MethodName)) ∈ TB := tb_of (List.mem_of_getElem? (i := 690) (by decide +kernel)) (by decide +kernel)
theorem t_691 : (Jvm.Cond.selects "LevelledRingModel" ({ cls := "LevelledRingModel", name := "plain", desc := "(II)I" } : Jvm.MethodName) ({ cls := "LevelledRingModel", name := "plain", desc := "(II)I" } : Jvm.MethodName)) ∈ TB := tb_of (List.mem_of_getElem? (i := 691) (by decide +kernel)) (by decide +kernel)
theorem t_692 : (Jvm.Cond.code ({ cls := "LevelledRingModel", name := "plain", desc := "(II)I" } : Jvm.MethodName) prog_10_method_41_code (3 : Nat) (Option.some Jvm.ClassFile.FieldType.int)) ∈ TB := tb_of (List.mem_of_getElem? (i := 692) (by decide +kernel)) (by decide +kernel)
theorem t_693 : (Jvm.Cond.methodLink "LevelledRingLaw" (95 : Nat) ({ cls := "LevelledRingModel", name := "secret", desc := "(I)I" } : Jvm.MethodName)) ∈ TB := tb_of (List.mem_of_getElem? (i := 693) (by decide +kernel)) (by decide +kernel)
theorem t_694 : (Jvm.Cond.instanceMethod ({ cls := "LevelledRingModel", name := "secret", desc := "(I)I" } : Jvm.MethodName)) ∈ TB := tb_of (List.mem_of_getElem? (i := 694) (by decide +kernel)) (by decide +kernel)
theorem t_695 : (Jvm.Cond.selects "LevelledRingModel" ({ cls := "LevelledRingModel", name := "secret", desc := "(I)I" } : Jvm.MethodName) ({ cls := "LevelledRingModel", name := "secret", desc := "(I)I" } : Jvm.MethodName)) ∈ TB := tb_of (List.mem_of_getElem? (i := 695) (by decide +kernel)) (by decide +kernel)
theorem t_696 : (Jvm.Cond.code ({ cls := "LevelledRingModel", name := "secret", desc := "(I)I" } : Jvm.MethodName) prog_10_method_42_code (2 : Nat) (Option.some Jvm.ClassFile.FieldType.int)) ∈ TB := tb_of (List.mem_of_getElem? (i := 696) (by decide +kernel)) (by decide +kernel)
theorem t_697 : (Jvm.Cond.fieldLink "java/lang/Enum" (7 : Nat) "java/lang/Enum" "ordinal" "I") ∈ TB := tb_of (List.mem_of_getElem? (i := 697) (by decide +kernel)) (by decide +kernel)
def T_D : u_T := fun k => match k with
  | _ => ("LevelledRing$Drawing", "z", "I", false)
def ty_D : Nat → FieldType := fun k => match k with
  | _ => .int
theorem nm_D : ∀ a, a < 1 → ∀ b, b < 1 → a ≠ b → (T_D a).2.1 ≠ (T_D b).2.1 := by decide +kernel
theorem tyok_D : ∀ k, k < 1 → parseFieldDescriptor (T_D k).2.2.1 = some (ty_D k) := by decide +kernel
theorem hin_D (c : Cond) : ∀ w ∈ u_ws "LevelledRing$Drawing" T_D 1, w ∈ c :: TB := by
  intro w hw
  obtain ⟨k, hk, rfl⟩ := List.mem_map.mp hw
  have hk := List.mem_range.mp hk
  rcases (show k = 0 by omega) with rfl
  · exact List.mem_cons_of_mem _ t_28
def T_G : u_T := fun k => match k with
  | 0 => ("LevelledRing$Gate", "kind", "LLevelledRing$Kind;", false)
  | 1 => ("LevelledRing$Gate", "a", "I", false)
  | 2 => ("LevelledRing$Gate", "b", "I", false)
  | 3 => ("LevelledRing$Gate", "number", "I", false)
  | 4 => ("LevelledRing$Gate", "plain", "LLevelledRing$Poly;", true)
  | _ => ("LevelledRing$Gate", "value", "LLevelledRing$Value;", true)
def ty_G : Nat → FieldType := fun k => match k with
  | 0 => (.object "LevelledRing$Kind")
  | 1 => .int
  | 2 => .int
  | 3 => .int
  | 4 => (.object "LevelledRing$Poly")
  | _ => (.object "LevelledRing$Value")
theorem nm_G : ∀ a, a < 6 → ∀ b, b < 6 → a ≠ b → (T_G a).2.1 ≠ (T_G b).2.1 := by decide +kernel
theorem tyok_G : ∀ k, k < 6 → parseFieldDescriptor (T_G k).2.2.1 = some (ty_G k) := by decide +kernel
theorem hin_G (c : Cond) : ∀ w ∈ u_ws "LevelledRing$Gate" T_G 6, w ∈ c :: TB := by
  intro w hw
  obtain ⟨k, hk, rfl⟩ := List.mem_map.mp hw
  have hk := List.mem_range.mp hk
  rcases (show k = 0 ∨ k = 1 ∨ k = 2 ∨ k = 3 ∨ k = 4 ∨ k = 5 by omega) with rfl | rfl | rfl | rfl | rfl | rfl
  · exact List.mem_cons_of_mem _ t_160
  · exact List.mem_cons_of_mem _ t_162
  · exact List.mem_cons_of_mem _ t_164
  · exact List.mem_cons_of_mem _ t_166
  · exact List.mem_cons_of_mem _ t_168
  · exact List.mem_cons_of_mem _ t_170
def T_K : u_T := fun k => match k with
  | 0 => ("LevelledRing$Keys", "secret", "LLevelledRing$Poly;", true)
  | 1 => ("LevelledRing$Keys", "a", "[LLevelledRing$Poly;", true)
  | _ => ("LevelledRing$Keys", "b", "[LLevelledRing$Poly;", true)
def ty_K : Nat → FieldType := fun k => match k with
  | 0 => (.object "LevelledRing$Poly")
  | 1 => (.array (.object "LevelledRing$Poly"))
  | _ => (.array (.object "LevelledRing$Poly"))
theorem nm_K : ∀ a, a < 3 → ∀ b, b < 3 → a ≠ b → (T_K a).2.1 ≠ (T_K b).2.1 := by decide +kernel
theorem tyok_K : ∀ k, k < 3 → parseFieldDescriptor (T_K k).2.2.1 = some (ty_K k) := by decide +kernel
theorem hin_K (c : Cond) : ∀ w ∈ u_ws "LevelledRing$Keys" T_K 3, w ∈ c :: TB := by
  intro w hw
  obtain ⟨k, hk, rfl⟩ := List.mem_map.mp hw
  have hk := List.mem_range.mp hk
  rcases (show k = 0 ∨ k = 1 ∨ k = 2 by omega) with rfl | rfl | rfl
  · exact List.mem_cons_of_mem _ t_130
  · exact List.mem_cons_of_mem _ t_132
  · exact List.mem_cons_of_mem _ t_134
def T_P : u_T := fun k => match k with
  | 0 => ("LevelledRing$Poly", "small", "Z", true)
  | _ => ("LevelledRing$Poly", "c", "[I", true)
def ty_P : Nat → FieldType := fun k => match k with
  | 0 => .boolean
  | _ => (.array .int)
theorem nm_P : ∀ a, a < 2 → ∀ b, b < 2 → a ≠ b → (T_P a).2.1 ≠ (T_P b).2.1 := by decide +kernel
theorem tyok_P : ∀ k, k < 2 → parseFieldDescriptor (T_P k).2.2.1 = some (ty_P k) := by decide +kernel
theorem hin_P (c : Cond) : ∀ w ∈ u_ws "LevelledRing$Poly" T_P 2, w ∈ c :: TB := by
  intro w hw
  obtain ⟨k, hk, rfl⟩ := List.mem_map.mp hw
  have hk := List.mem_range.mp hk
  rcases (show k = 0 ∨ k = 1 by omega) with rfl | rfl
  · exact List.mem_cons_of_mem _ t_40
  · exact List.mem_cons_of_mem _ t_42
def T_V : u_T := fun k => match k with
  | 0 => ("LevelledRing$Value", "level", "I", false)
  | 1 => ("LevelledRing$Value", "meter", "J", false)
  | 2 => ("LevelledRing$Value", "c0", "LLevelledRing$Poly;", true)
  | _ => ("LevelledRing$Value", "c1", "LLevelledRing$Poly;", true)
def ty_V : Nat → FieldType := fun k => match k with
  | 0 => .int
  | 1 => .long
  | 2 => (.object "LevelledRing$Poly")
  | _ => (.object "LevelledRing$Poly")
theorem nm_V : ∀ a, a < 4 → ∀ b, b < 4 → a ≠ b → (T_V a).2.1 ≠ (T_V b).2.1 := by decide +kernel
theorem tyok_V : ∀ k, k < 4 → parseFieldDescriptor (T_V k).2.2.1 = some (ty_V k) := by decide +kernel
theorem hin_V (c : Cond) : ∀ w ∈ u_ws "LevelledRing$Value" T_V 4, w ∈ c :: TB := by
  intro w hw
  obtain ⟨k, hk, rfl⟩ := List.mem_map.mp hw
  have hk := List.mem_range.mp hk
  rcases (show k = 0 ∨ k = 1 ∨ k = 2 ∨ k = 3 by omega) with rfl | rfl | rfl | rfl
  · exact List.mem_cons_of_mem _ t_64
  · exact List.mem_cons_of_mem _ t_66
  · exact List.mem_cons_of_mem _ t_68
  · exact List.mem_cons_of_mem _ t_70
def T_R : u_T := fun k => match k with
  | 0 => ("LevelledRing", "drawing", "LLevelledRing$Drawing;", true)
  | 1 => ("LevelledRing", "keys", "LLevelledRing$Keys;", true)
  | 2 => ("LevelledRing", "message", "LLevelledRing$Poly;", true)
  | 3 => ("LevelledRing", "gates", "[LLevelledRing$Gate;", true)
  | 4 => ("LevelledRing", "gateCount", "I", false)
  | 5 => ("LevelledRing", "valueCount", "I", false)
  | 6 => ("LevelledRing", "left", "LLevelledRing$Value;", true)
  | 7 => ("LevelledRing", "right", "LLevelledRing$Value;", true)
  | 8 => ("LevelledRing", "square", "LLevelledRing$Poly;", true)
  | 9 => ("LevelledRing", "digit", "LLevelledRing$Poly;", true)
  | _ => ("LevelledRing", "opened", "LLevelledRing$Poly;", true)
def ty_R : Nat → FieldType := fun k => match k with
  | 0 => (.object "LevelledRing$Drawing")
  | 1 => (.object "LevelledRing$Keys")
  | 2 => (.object "LevelledRing$Poly")
  | 3 => (.array (.object "LevelledRing$Gate"))
  | 4 => .int
  | 5 => .int
  | 6 => (.object "LevelledRing$Value")
  | 7 => (.object "LevelledRing$Value")
  | 8 => (.object "LevelledRing$Poly")
  | 9 => (.object "LevelledRing$Poly")
  | _ => (.object "LevelledRing$Poly")
theorem nm_R : ∀ a, a < 11 → ∀ b, b < 11 → a ≠ b → (T_R a).2.1 ≠ (T_R b).2.1 := by decide +kernel
theorem tyok_R : ∀ k, k < 11 → parseFieldDescriptor (T_R k).2.2.1 = some (ty_R k) := by decide +kernel
theorem hin_R (c : Cond) : ∀ w ∈ u_ws "LevelledRing" T_R 11, w ∈ c :: TB := by
  intro w hw
  obtain ⟨k, hk, rfl⟩ := List.mem_map.mp hw
  have hk := List.mem_range.mp hk
  rcases (show k = 0 ∨ k = 1 ∨ k = 2 ∨ k = 3 ∨ k = 4 ∨ k = 5 ∨ k = 6 ∨ k = 7 ∨ k = 8 ∨ k = 9 ∨ k = 10 by omega) with rfl | rfl | rfl | rfl | rfl | rfl | rfl | rfl | rfl | rfl | rfl
  · exact List.mem_cons_of_mem _ t_184
  · exact List.mem_cons_of_mem _ t_186
  · exact List.mem_cons_of_mem _ t_188
  · exact List.mem_cons_of_mem _ t_190
  · exact List.mem_cons_of_mem _ t_192
  · exact List.mem_cons_of_mem _ t_194
  · exact List.mem_cons_of_mem _ t_196
  · exact List.mem_cons_of_mem _ t_198
  · exact List.mem_cons_of_mem _ t_200
  · exact List.mem_cons_of_mem _ t_202
  · exact List.mem_cons_of_mem _ t_204
def T_M : u_T := fun k => match k with
  | 0 => ("LevelledRingModel", "row", "[J", true)
  | 1 => ("LevelledRingModel", "prime", "[I", true)
  | 2 => ("LevelledRingModel", "big", "[J", true)
  | 3 => ("LevelledRingModel", "unit", "[J", true)
  | 4 => ("LevelledRingModel", "secret", "[I", true)
  | 5 => ("LevelledRingModel", "small", "[I", true)
  | 6 => ("LevelledRingModel", "z", "I", false)
  | 7 => ("LevelledRingModel", "message", "[I", true)
  | 8 => ("LevelledRingModel", "count", "I", false)
  | 9 => ("LevelledRingModel", "kind", "[I", true)
  | 10 => ("LevelledRingModel", "first", "[I", true)
  | 11 => ("LevelledRingModel", "second", "[I", true)
  | 12 => ("LevelledRingModel", "plain", "[I", true)
  | 13 => ("LevelledRingModel", "has", "[Z", true)
  | 14 => ("LevelledRingModel", "level", "[I", true)
  | 15 => ("LevelledRingModel", "meter", "[J", true)
  | 16 => ("LevelledRingModel", "workLevel", "[I", true)
  | 17 => ("LevelledRingModel", "workMeter", "[J", true)
  | _ => ("LevelledRingModel", "v", "[J", true)
def ty_M : Nat → FieldType := fun k => match k with
  | 0 => (.array .long)
  | 1 => (.array .int)
  | 2 => (.array .long)
  | 3 => (.array .long)
  | 4 => (.array .int)
  | 5 => (.array .int)
  | 6 => .int
  | 7 => (.array .int)
  | 8 => .int
  | 9 => (.array .int)
  | 10 => (.array .int)
  | 11 => (.array .int)
  | 12 => (.array .int)
  | 13 => (.array .boolean)
  | 14 => (.array .int)
  | 15 => (.array .long)
  | 16 => (.array .int)
  | 17 => (.array .long)
  | _ => (.array .long)
theorem nm_M : ∀ a, a < 19 → ∀ b, b < 19 → a ≠ b → (T_M a).2.1 ≠ (T_M b).2.1 := by decide +kernel
theorem tyok_M : ∀ k, k < 19 → parseFieldDescriptor (T_M k).2.2.1 = some (ty_M k) := by decide +kernel
theorem hin_M (c : Cond) : ∀ w ∈ u_ws "LevelledRingModel" T_M 19, w ∈ c :: TB := by
  intro w hw
  obtain ⟨k, hk, rfl⟩ := List.mem_map.mp hw
  have hk := List.mem_range.mp hk
  rcases (show k = 0 ∨ k = 1 ∨ k = 2 ∨ k = 3 ∨ k = 4 ∨ k = 5 ∨ k = 6 ∨ k = 7 ∨ k = 8 ∨ k = 9 ∨ k = 10 ∨ k = 11 ∨ k = 12 ∨ k = 13 ∨ k = 14 ∨ k = 15 ∨ k = 16 ∨ k = 17 ∨ k = 18 by omega) with rfl | rfl | rfl | rfl | rfl | rfl | rfl | rfl | rfl | rfl | rfl | rfl | rfl | rfl | rfl | rfl | rfl | rfl | rfl
  · exact List.mem_cons_of_mem _ t_512
  · exact List.mem_cons_of_mem _ t_514
  · exact List.mem_cons_of_mem _ t_516
  · exact List.mem_cons_of_mem _ t_518
  · exact List.mem_cons_of_mem _ t_520
  · exact List.mem_cons_of_mem _ t_522
  · exact List.mem_cons_of_mem _ t_524
  · exact List.mem_cons_of_mem _ t_526
  · exact List.mem_cons_of_mem _ t_528
  · exact List.mem_cons_of_mem _ t_530
  · exact List.mem_cons_of_mem _ t_532
  · exact List.mem_cons_of_mem _ t_534
  · exact List.mem_cons_of_mem _ t_536
  · exact List.mem_cons_of_mem _ t_538
  · exact List.mem_cons_of_mem _ t_540
  · exact List.mem_cons_of_mem _ t_542
  · exact List.mem_cons_of_mem _ t_544
  · exact List.mem_cons_of_mem _ t_546
  · exact List.mem_cons_of_mem _ t_548
abbrev vwCl : List vw_C := [("LevelledRing$Drawing", T_D, 1), ("LevelledRing$Gate", T_G, 6), ("LevelledRing$Keys", T_K, 3), ("LevelledRing$Poly", T_P, 2), ("LevelledRing$Value", T_V, 4), ("LevelledRing", T_R, 11), ("LevelledRingModel", T_M, 19)]
abbrev c9_R_init : ByteArray := prog_1_method_1_code
abbrev y_R_init : MethodName := ⟨"LevelledRing", "<init>", "(I)V"⟩
abbrev w_R_init : List Cond := .code y_R_init c9_R_init 3 none :: TB
abbrev c9_D_init : ByteArray := prog_3_method_1_code
abbrev y_D_init : MethodName := ⟨"LevelledRing$Drawing", "<init>", "()V"⟩
abbrev w_D_init : List Cond := .code y_D_init c9_D_init 1 none :: TB
abbrev c9_P_init : ByteArray := prog_7_method_1_code
abbrev y_P_init : MethodName := ⟨"LevelledRing$Poly", "<init>", "(Z)V"⟩
abbrev w_P_init : List Cond := .code y_P_init c9_P_init 2 none :: TB
abbrev c9_V_init : ByteArray := prog_8_method_1_code
abbrev y_V_init : MethodName := ⟨"LevelledRing$Value", "<init>", "()V"⟩
abbrev w_V_init : List Cond := .code y_V_init c9_V_init 1 none :: TB
abbrev c9_D_start : ByteArray := prog_3_method_2_code
abbrev y_D_start : MethodName := ⟨"LevelledRing$Drawing", "start", "(I)V"⟩
abbrev w_D_start : List Cond := .code y_D_start c9_D_start 2 none :: TB
abbrev c9_K_init : ByteArray := prog_5_method_1_code
abbrev y_K_init : MethodName := ⟨"LevelledRing$Keys", "<init>", "(LLevelledRing$Drawing;)V"⟩
abbrev w_K_init : List Cond := .code y_K_init c9_K_init 4 none :: TB
abbrev c9_P_drawSmall : ByteArray := prog_7_method_6_code
abbrev y_P_drawSmall : MethodName := ⟨"LevelledRing$Poly", "drawSmall", "(LLevelledRing$Drawing;I)V"⟩
abbrev w_P_drawSmall : List Cond := .code y_P_drawSmall c9_P_drawSmall 6 none :: TB
abbrev c9_D_draw : ByteArray := prog_3_method_3_code
abbrev y_D_draw : MethodName := ⟨"LevelledRing$Drawing", "draw", "()I"⟩
abbrev w_D_draw : List Cond := .code y_D_draw c9_D_draw 1 (some .int) :: TB
abbrev c9_R_modulo : ByteArray := prog_1_method_22_code
abbrev y_R_modulo : MethodName := ⟨"LevelledRing", "modulo", "(JI)I"⟩
abbrev w_R_modulo : List Cond := .code y_R_modulo c9_R_modulo 4 (some .int) :: TB
abbrev c9_P_addProduct : ByteArray := prog_7_method_11_code
abbrev y_P_addProduct : MethodName := ⟨"LevelledRing$Poly", "addProduct", "(ILLevelledRing$Poly;LLevelledRing$Poly;I)V"⟩
abbrev w_P_addProduct : List Cond := .code y_P_addProduct c9_P_addProduct 9 none :: TB
abbrev c9_P_rowModulus : ByteArray := prog_7_method_2_code
abbrev y_P_rowModulus : MethodName := ⟨"LevelledRing$Poly", "rowModulus", "(I)I"⟩
abbrev w_P_rowModulus : List Cond := .code y_P_rowModulus c9_P_rowModulus 2 (some .int) :: TB
abbrev c9_P_productCoefficient : ByteArray := prog_7_method_12_code
abbrev y_P_productCoefficient : MethodName := ⟨"LevelledRing$Poly", "productCoefficient", "(LLevelledRing$Poly;LLevelledRing$Poly;II)J"⟩
abbrev w_P_productCoefficient : List Cond := .code y_P_productCoefficient c9_P_productCoefficient 7 (some .long) :: TB
abbrev c9_K_drawHiddenZero : ByteArray := prog_5_method_2_code
abbrev y_K_drawHiddenZero : MethodName := ⟨"LevelledRing$Keys", "drawHiddenZero", "(LLevelledRing$Drawing;LLevelledRing$Poly;LLevelledRing$Poly;)V"⟩
abbrev w_K_drawHiddenZero : List Cond := .code y_K_drawHiddenZero c9_K_drawHiddenZero 4 none :: TB
abbrev c9_P_drawUniform : ByteArray := prog_7_method_5_code
abbrev y_P_drawUniform : MethodName := ⟨"LevelledRing$Poly", "drawUniform", "(LLevelledRing$Drawing;)V"⟩
abbrev w_P_drawUniform : List Cond := .code y_P_drawUniform c9_P_drawUniform 4 none :: TB
abbrev c9_P_addRow : ByteArray := prog_7_method_8_code
abbrev y_P_addRow : MethodName := ⟨"LevelledRing$Poly", "addRow", "(LLevelledRing$Poly;I)V"⟩
abbrev w_P_addRow : List Cond := .code y_P_addRow c9_P_addRow 4 none :: TB
abbrev c9_G_init : ByteArray := prog_4_method_1_code
abbrev y_G_init : MethodName := ⟨"LevelledRing$Gate", "<init>", "()V"⟩
abbrev w_G_init : List Cond := .code y_G_init c9_G_init 1 none :: TB
abbrev c9_R_put : ByteArray := prog_1_method_2_code
abbrev y_R_put : MethodName := ⟨"LevelledRing", "put", "(II)Z"⟩
abbrev w_R_put : List Cond := .code y_R_put c9_R_put 3 (some .boolean) :: TB
abbrev c9_R_isCoefficient : ByteArray := prog_1_method_19_code
abbrev y_R_isCoefficient : MethodName := ⟨"LevelledRing", "isCoefficient", "(I)Z"⟩
abbrev w_R_isCoefficient : List Cond := .code y_R_isCoefficient c9_R_isCoefficient 1 (some .boolean) :: TB
abbrev c9_R_input : ByteArray := prog_1_method_3_code
abbrev y_R_input : MethodName := ⟨"LevelledRing", "input", "(I)I"⟩
abbrev w_R_input : List Cond := .code y_R_input c9_R_input 3 (some .int) :: TB
abbrev c9_G_become : ByteArray := prog_4_method_2_code
abbrev y_G_become : MethodName := ⟨"LevelledRing$Gate", "become", "(LLevelledRing$Kind;III)V"⟩
abbrev w_G_become : List Cond := .code y_G_become c9_G_become 5 none :: TB
abbrev c9_P_copyFrom : ByteArray := prog_7_method_4_code
abbrev y_P_copyFrom : MethodName := ⟨"LevelledRing$Poly", "copyFrom", "(LLevelledRing$Poly;)V"⟩
abbrev w_P_copyFrom : List Cond := .code y_P_copyFrom c9_P_copyFrom 2 none :: TB
abbrev c9_R_keepGate : ByteArray := prog_1_method_25_code
abbrev y_R_keepGate : MethodName := ⟨"LevelledRing", "keepGate", "()I"⟩
abbrev w_R_keepGate : List Cond := .code y_R_keepGate c9_R_keepGate 1 (some .int) :: TB
abbrev c9_R_sum : ByteArray := prog_1_method_4_code
abbrev y_R_sum : MethodName := ⟨"LevelledRing", "sum", "(II)I"⟩
abbrev w_R_sum : List Cond := .code y_R_sum c9_R_sum 3 (some .int) :: TB
abbrev c9_R_addGate : ByteArray := prog_1_method_24_code
abbrev y_R_addGate : MethodName := ⟨"LevelledRing", "addGate", "(LLevelledRing$Kind;III)I"⟩
abbrev w_R_addGate : List Cond := .code y_R_addGate c9_R_addGate 6 (some .int) :: TB
abbrev c9_R_isGate : ByteArray := prog_1_method_20_code
abbrev y_R_isGate : MethodName := ⟨"LevelledRing", "isGate", "(I)Z"⟩
abbrev w_R_isGate : List Cond := .code y_R_isGate c9_R_isGate 2 (some .boolean) :: TB
abbrev c9_R_setPlain : ByteArray := prog_1_method_26_code
abbrev y_R_setPlain : MethodName := ⟨"LevelledRing", "setPlain", "(LLevelledRing$Gate;LLevelledRing$Poly;LLevelledRing$Poly;)V"⟩
abbrev w_R_setPlain : List Cond := .code y_R_setPlain c9_R_setPlain 3 none :: TB
abbrev c9_P_setSum : ByteArray := prog_7_method_10_code
abbrev y_P_setSum : MethodName := ⟨"LevelledRing$Poly", "setSum", "(LLevelledRing$Poly;ILLevelledRing$Poly;I)V"⟩
abbrev w_P_setSum : List Cond := .code y_P_setSum c9_P_setSum 8 none :: TB
abbrev c9_P_setZero : ByteArray := prog_7_method_3_code
abbrev y_P_setZero : MethodName := ⟨"LevelledRing$Poly", "setZero", "()V"⟩
abbrev w_P_setZero : List Cond := .code y_P_setZero c9_P_setZero 2 none :: TB
abbrev c9_P_setTurned : ByteArray := prog_7_method_13_code
abbrev y_P_setTurned : MethodName := ⟨"LevelledRing$Poly", "setTurned", "(LLevelledRing$Poly;II)V"⟩
abbrev w_P_setTurned : List Cond := .code y_P_setTurned c9_P_setTurned 9 none :: TB
abbrev c9_R_difference : ByteArray := prog_1_method_5_code
abbrev y_R_difference : MethodName := ⟨"LevelledRing", "difference", "(II)I"⟩
abbrev w_R_difference : List Cond := .code y_R_difference c9_R_difference 3 (some .int) :: TB
abbrev c9_R_product : ByteArray := prog_1_method_6_code
abbrev y_R_product : MethodName := ⟨"LevelledRing", "product", "(II)I"⟩
abbrev w_R_product : List Cond := .code y_R_product c9_R_product 3 (some .int) :: TB
abbrev c9_R_shift : ByteArray := prog_1_method_7_code
abbrev y_R_shift : MethodName := ⟨"LevelledRing", "shift", "(II)I"⟩
abbrev w_R_shift : List Cond := .code y_R_shift c9_R_shift 3 (some .int) :: TB
abbrev c9_R_lowered : ByteArray := prog_1_method_8_code
abbrev y_R_lowered : MethodName := ⟨"LevelledRing", "lowered", "(I)I"⟩
abbrev w_R_lowered : List Cond := .code y_R_lowered c9_R_lowered 2 (some .int) :: TB
abbrev c9_R_count : ByteArray := prog_1_method_9_code
abbrev y_R_count : MethodName := ⟨"LevelledRing", "count", "()I"⟩
abbrev w_R_count : List Cond := .code y_R_count c9_R_count 1 (some .int) :: TB
abbrev c9_R_cut : ByteArray := prog_1_method_10_code
abbrev y_R_cut : MethodName := ⟨"LevelledRing", "cut", "(I)Z"⟩
abbrev w_R_cut : List Cond := .code y_R_cut c9_R_cut 2 (some .boolean) :: TB
abbrev c9_R_run : ByteArray := prog_1_method_11_code
abbrev y_R_run : MethodName := ⟨"LevelledRing", "run", "()I"⟩
abbrev w_R_run : List Cond := .code y_R_run c9_R_run 2 (some .int) :: TB
abbrev c9_R_giveValue : ByteArray := prog_1_method_27_code
abbrev y_R_giveValue : MethodName := ⟨"LevelledRing", "giveValue", "(LLevelledRing$Gate;)Z"⟩
abbrev w_R_giveValue : List Cond := .code y_R_giveValue c9_R_giveValue 2 (some .boolean) :: TB
abbrev c9_R_takeOperands : ByteArray := prog_1_method_30_code
abbrev y_R_takeOperands : MethodName := ⟨"LevelledRing", "takeOperands", "(LLevelledRing$Gate;)Z"⟩
abbrev w_R_takeOperands : List Cond := .code y_R_takeOperands c9_R_takeOperands 2 (some .boolean) :: TB
abbrev c9_V_copyFrom : ByteArray := prog_8_method_2_code
abbrev y_V_copyFrom : MethodName := ⟨"LevelledRing$Value", "copyFrom", "(LLevelledRing$Value;)V"⟩
abbrev w_V_copyFrom : List Cond := .code y_V_copyFrom c9_V_copyFrom 2 none :: TB
abbrev c9_V_lowerTo : ByteArray := prog_8_method_5_code
abbrev y_V_lowerTo : MethodName := ⟨"LevelledRing$Value", "lowerTo", "(I)Z"⟩
abbrev w_V_lowerTo : List Cond := .code y_V_lowerTo c9_V_lowerTo 3 (some .boolean) :: TB
abbrev c9_V_lowerOnce : ByteArray := prog_8_method_4_code
abbrev y_V_lowerOnce : MethodName := ⟨"LevelledRing$Value", "lowerOnce", "()Z"⟩
abbrev w_V_lowerOnce : List Cond := .code y_V_lowerOnce c9_V_lowerOnce 1 (some .boolean) :: TB
abbrev c9_P_lowerFrom : ByteArray := prog_7_method_14_code
abbrev y_P_lowerFrom : MethodName := ⟨"LevelledRing$Poly", "lowerFrom", "(I)V"⟩
abbrev w_P_lowerFrom : List Cond := .code y_P_lowerFrom c9_P_lowerFrom 10 none :: TB
abbrev c9_R_centred : ByteArray := prog_1_method_23_code
abbrev y_R_centred : MethodName := ⟨"LevelledRing", "centred", "(JJ)J"⟩
abbrev w_R_centred : List Cond := .code y_R_centred c9_R_centred 4 (some .long) :: TB
abbrev c9_V_isTooGreat : ByteArray := prog_8_method_3_code
abbrev y_V_isTooGreat : MethodName := ⟨"LevelledRing$Value", "isTooGreat", "()Z"⟩
abbrev w_V_isTooGreat : List Cond := .code y_V_isTooGreat c9_V_isTooGreat 1 (some .boolean) :: TB
abbrev c9_R_giveSum : ByteArray := prog_1_method_32_code
abbrev y_R_giveSum : MethodName := ⟨"LevelledRing", "giveSum", "(LLevelledRing$Value;I)Z"⟩
abbrev w_R_giveSum : List Cond := .code y_R_giveSum c9_R_giveSum 3 (some .boolean) :: TB
abbrev c9_R_quietenOperands : ByteArray := prog_1_method_31_code
abbrev y_R_quietenOperands : MethodName := ⟨"LevelledRing", "quietenOperands", "()Z"⟩
abbrev w_R_quietenOperands : List Cond := .code y_R_quietenOperands c9_R_quietenOperands 2 (some .boolean) :: TB
abbrev c9_R_giveProduct : ByteArray := prog_1_method_33_code
abbrev y_R_giveProduct : MethodName := ⟨"LevelledRing", "giveProduct", "(LLevelledRing$Value;)Z"⟩
abbrev w_R_giveProduct : List Cond := .code y_R_giveProduct c9_R_giveProduct 2 (some .boolean) :: TB
abbrev c9_R_switchingMeter : ByteArray := prog_1_method_34_code
abbrev y_R_switchingMeter : MethodName := ⟨"LevelledRing", "switchingMeter", "(I)J"⟩
abbrev w_R_switchingMeter : List Cond := .code y_R_switchingMeter c9_R_switchingMeter 4 (some .long) :: TB
abbrev c9_R_multiplyOperands : ByteArray := prog_1_method_35_code
abbrev y_R_multiplyOperands : MethodName := ⟨"LevelledRing", "multiplyOperands", "(LLevelledRing$Value;)V"⟩
abbrev w_R_multiplyOperands : List Cond := .code y_R_multiplyOperands c9_R_multiplyOperands 3 none :: TB
abbrev c9_R_switchSquare : ByteArray := prog_1_method_36_code
abbrev y_R_switchSquare : MethodName := ⟨"LevelledRing", "switchSquare", "(LLevelledRing$Value;)V"⟩
abbrev w_R_switchSquare : List Cond := .code y_R_switchSquare c9_R_switchSquare 4 none :: TB
abbrev c9_P_setFromRow : ByteArray := prog_7_method_9_code
abbrev y_P_setFromRow : MethodName := ⟨"LevelledRing$Poly", "setFromRow", "(LLevelledRing$Poly;II)V"⟩
abbrev w_P_setFromRow : List Cond := .code y_P_setFromRow c9_P_setFromRow 6 none :: TB
abbrev c9_R_turnValue : ByteArray := prog_1_method_29_code
abbrev y_R_turnValue : MethodName := ⟨"LevelledRing", "turnValue", "(LLevelledRing$Value;LLevelledRing$Value;I)V"⟩
abbrev w_R_turnValue : List Cond := .code y_R_turnValue c9_R_turnValue 3 none :: TB
abbrev c9_R_hideMessage : ByteArray := prog_1_method_28_code
abbrev y_R_hideMessage : MethodName := ⟨"LevelledRing", "hideMessage", "(LLevelledRing$Value;LLevelledRing$Poly;I)V"⟩
abbrev w_R_hideMessage : List Cond := .code y_R_hideMessage c9_R_hideMessage 4 none :: TB
abbrev c9_P_addSmall : ByteArray := prog_7_method_7_code
abbrev y_P_addSmall : MethodName := ⟨"LevelledRing$Poly", "addSmall", "(LLevelledRing$Poly;)V"⟩
abbrev w_P_addSmall : List Cond := .code y_P_addSmall c9_P_addSmall 4 none :: TB
abbrev c9_R_level : ByteArray := prog_1_method_12_code
abbrev y_R_level : MethodName := ⟨"LevelledRing", "level", "(I)I"⟩
abbrev w_R_level : List Cond := .code y_R_level c9_R_level 2 (some .int) :: TB
abbrev c9_R_hasValue : ByteArray := prog_1_method_21_code
abbrev y_R_hasValue : MethodName := ⟨"LevelledRing", "hasValue", "(I)Z"⟩
abbrev w_R_hasValue : List Cond := .code y_R_hasValue c9_R_hasValue 2 (some .boolean) :: TB
abbrev c9_R_meter : ByteArray := prog_1_method_13_code
abbrev y_R_meter : MethodName := ⟨"LevelledRing", "meter", "(I)J"⟩
abbrev w_R_meter : List Cond := .code y_R_meter c9_R_meter 2 (some .long) :: TB
abbrev c9_R_noise : ByteArray := prog_1_method_14_code
abbrev y_R_noise : MethodName := ⟨"LevelledRing", "noise", "(I)J"⟩
abbrev w_R_noise : List Cond := .code y_R_noise c9_R_noise 6 (some .long) :: TB
abbrev c9_R_openValue : ByteArray := prog_1_method_37_code
abbrev y_R_openValue : MethodName := ⟨"LevelledRing", "openValue", "(LLevelledRing$Value;)V"⟩
abbrev w_R_openValue : List Cond := .code y_R_openValue c9_R_openValue 2 none :: TB
abbrev c9_P_centredCoefficient : ByteArray := prog_7_method_16_code
abbrev y_P_centredCoefficient : MethodName := ⟨"LevelledRing$Poly", "centredCoefficient", "(II)J"⟩
abbrev w_P_centredCoefficient : List Cond := .code y_P_centredCoefficient c9_P_centredCoefficient 3 (some .long) :: TB
abbrev c9_P_wholeCoefficient : ByteArray := prog_7_method_15_code
abbrev y_P_wholeCoefficient : MethodName := ⟨"LevelledRing$Poly", "wholeCoefficient", "(II)J"⟩
abbrev w_P_wholeCoefficient : List Cond := .code y_P_wholeCoefficient c9_P_wholeCoefficient 8 (some .long) :: TB
abbrev c9_R_part : ByteArray := prog_1_method_15_code
abbrev y_R_part : MethodName := ⟨"LevelledRing", "part", "(III)J"⟩
abbrev w_R_part : List Cond := .code y_R_part c9_R_part 6 (some .long) :: TB
abbrev c9_R_decrypted : ByteArray := prog_1_method_16_code
abbrev y_R_decrypted : MethodName := ⟨"LevelledRing", "decrypted", "(II)I"⟩
abbrev w_R_decrypted : List Cond := .code y_R_decrypted c9_R_decrypted 4 (some .int) :: TB
abbrev c9_R_plain : ByteArray := prog_1_method_17_code
abbrev y_R_plain : MethodName := ⟨"LevelledRing", "plain", "(II)I"⟩
abbrev w_R_plain : List Cond := .code y_R_plain c9_R_plain 3 (some .int) :: TB
abbrev c9_R_secret : ByteArray := prog_1_method_18_code
abbrev y_R_secret : MethodName := ⟨"LevelledRing", "secret", "(I)I"⟩
abbrev w_R_secret : List Cond := .code y_R_secret c9_R_secret 2 (some .int) :: TB
abbrev c9_L_cell : ByteArray := method_2_code
abbrev y_L_cell : MethodName := ⟨"LevelledRingLaw", "cell", "([II)I"⟩
abbrev w_L_cell : List Cond := .code y_L_cell c9_L_cell 2 (some .int) :: TB
abbrev c9_M_init : ByteArray := prog_10_method_1_code
abbrev y_M_init : MethodName := ⟨"LevelledRingModel", "<init>", "(I)V"⟩
abbrev w_M_init : List Cond := .code y_M_init c9_M_init 10 none :: TB
abbrev c9_M_drawSmall : ByteArray := prog_10_method_3_code
abbrev y_M_drawSmall : MethodName := ⟨"LevelledRingModel", "drawSmall", "()V"⟩
abbrev w_M_drawSmall : List Cond := .code y_M_drawSmall c9_M_drawSmall 2 none :: TB
abbrev c9_M_draw : ByteArray := prog_10_method_2_code
abbrev y_M_draw : MethodName := ⟨"LevelledRingModel", "draw", "()I"⟩
abbrev w_M_draw : List Cond := .code y_M_draw c9_M_draw 1 (some .int) :: TB
abbrev c9_M_drawUniform : ByteArray := prog_10_method_4_code
abbrev y_M_drawUniform : MethodName := ⟨"LevelledRingModel", "drawUniform", "(I)V"⟩
abbrev w_M_drawUniform : List Cond := .code y_M_drawUniform c9_M_drawUniform 7 none :: TB
abbrev c9_M_times : ByteArray := prog_10_method_7_code
abbrev y_M_times : MethodName := ⟨"LevelledRingModel", "times", "(JJJ)J"⟩
abbrev w_M_times : List Cond := .code y_M_times c9_M_times 13 (some .long) :: TB
abbrev c9_M_makeB : ByteArray := prog_10_method_5_code
abbrev y_M_makeB : MethodName := ⟨"LevelledRingModel", "makeB", "(I)V"⟩
abbrev w_M_makeB : List Cond := .code y_M_makeB c9_M_makeB 8 none :: TB
abbrev c9_M_modulo : ByteArray := prog_10_method_6_code
abbrev y_M_modulo : MethodName := ⟨"LevelledRingModel", "modulo", "(JJ)J"⟩
abbrev w_M_modulo : List Cond := .code y_M_modulo c9_M_modulo 6 (some .long) :: TB
abbrev c9_M_withSecret : ByteArray := prog_10_method_8_code
abbrev y_M_withSecret : MethodName := ⟨"LevelledRingModel", "withSecret", "(IIJ)J"⟩
abbrev w_M_withSecret : List Cond := .code y_M_withSecret c9_M_withSecret 10 (some .long) :: TB
abbrev c9_M_put : ByteArray := prog_10_method_10_code
abbrev y_M_put : MethodName := ⟨"LevelledRingModel", "put", "(II)Z"⟩
abbrev w_M_put : List Cond := .code y_M_put c9_M_put 3 (some .boolean) :: TB
abbrev c9_M_input : ByteArray := prog_10_method_15_code
abbrev y_M_input : MethodName := ⟨"LevelledRingModel", "input", "(I)I"⟩
abbrev w_M_input : List Cond := .code y_M_input c9_M_input 2 (some .int) :: TB
abbrev c9_M_add : ByteArray := prog_10_method_12_code
abbrev y_M_add : MethodName := ⟨"LevelledRingModel", "add", "(III)I"⟩
abbrev w_M_add : List Cond := .code y_M_add c9_M_add 5 (some .int) :: TB
abbrev c9_M_plainOf : ByteArray := prog_10_method_13_code
abbrev y_M_plainOf : MethodName := ⟨"LevelledRingModel", "plainOf", "(IIII)I"⟩
abbrev w_M_plainOf : List Cond := .code y_M_plainOf c9_M_plainOf 8 (some .int) :: TB
abbrev c9_M_sign : ByteArray := prog_10_method_14_code
abbrev y_M_sign : MethodName := ⟨"LevelledRingModel", "sign", "(II)I"⟩
abbrev w_M_sign : List Cond := .code y_M_sign c9_M_sign 3 (some .int) :: TB
abbrev c9_M_sum : ByteArray := prog_10_method_17_code
abbrev y_M_sum : MethodName := ⟨"LevelledRingModel", "sum", "(II)I"⟩
abbrev w_M_sum : List Cond := .code y_M_sum c9_M_sum 3 (some .int) :: TB
abbrev c9_M_pair : ByteArray := prog_10_method_16_code
abbrev y_M_pair : MethodName := ⟨"LevelledRingModel", "pair", "(III)I"⟩
abbrev w_M_pair : List Cond := .code y_M_pair c9_M_pair 4 (some .int) :: TB
abbrev c9_M_isGate : ByteArray := prog_10_method_11_code
abbrev y_M_isGate : MethodName := ⟨"LevelledRingModel", "isGate", "(I)Z"⟩
abbrev w_M_isGate : List Cond := .code y_M_isGate c9_M_isGate 2 (some .boolean) :: TB
abbrev c9_M_difference : ByteArray := prog_10_method_18_code
abbrev y_M_difference : MethodName := ⟨"LevelledRingModel", "difference", "(II)I"⟩
abbrev w_M_difference : List Cond := .code y_M_difference c9_M_difference 3 (some .int) :: TB
abbrev c9_M_product : ByteArray := prog_10_method_19_code
abbrev y_M_product : MethodName := ⟨"LevelledRingModel", "product", "(II)I"⟩
abbrev w_M_product : List Cond := .code y_M_product c9_M_product 3 (some .int) :: TB
abbrev c9_M_shift : ByteArray := prog_10_method_20_code
abbrev y_M_shift : MethodName := ⟨"LevelledRingModel", "shift", "(II)I"⟩
abbrev w_M_shift : List Cond := .code y_M_shift c9_M_shift 3 (some .int) :: TB
abbrev c9_M_lowered : ByteArray := prog_10_method_21_code
abbrev y_M_lowered : MethodName := ⟨"LevelledRingModel", "lowered", "(I)I"⟩
abbrev w_M_lowered : List Cond := .code y_M_lowered c9_M_lowered 2 (some .int) :: TB
abbrev c9_M_count : ByteArray := prog_10_method_22_code
abbrev y_M_count : MethodName := ⟨"LevelledRingModel", "count", "()I"⟩
abbrev w_M_count : List Cond := .code y_M_count c9_M_count 1 (some .int) :: TB
abbrev c9_M_cut : ByteArray := prog_10_method_23_code
abbrev y_M_cut : MethodName := ⟨"LevelledRingModel", "cut", "(I)Z"⟩
abbrev w_M_cut : List Cond := .code y_M_cut c9_M_cut 2 (some .boolean) :: TB
abbrev c9_M_run : ByteArray := prog_10_method_33_code
abbrev y_M_run : MethodName := ⟨"LevelledRingModel", "run", "()I"⟩
abbrev w_M_run : List Cond := .code y_M_run c9_M_run 2 (some .int) :: TB
abbrev c9_M_value : ByteArray := prog_10_method_29_code
abbrev y_M_value : MethodName := ⟨"LevelledRingModel", "value", "(I)Z"⟩
abbrev w_M_value : List Cond := .code y_M_value c9_M_value 8 (some .boolean) :: TB
abbrev c9_M_encrypt : ByteArray := prog_10_method_30_code
abbrev y_M_encrypt : MethodName := ⟨"LevelledRingModel", "encrypt", "(I)Z"⟩
abbrev w_M_encrypt : List Cond := .code y_M_encrypt c9_M_encrypt 6 (some .boolean) :: TB
abbrev c9_M_keep : ByteArray := prog_10_method_28_code
abbrev y_M_keep : MethodName := ⟨"LevelledRingModel", "keep", "(IIJ)Z"⟩
abbrev w_M_keep : List Cond := .code y_M_keep c9_M_keep 5 (some .boolean) :: TB
abbrev c9_M_tooGreat : ByteArray := prog_10_method_24_code
abbrev y_M_tooGreat : MethodName := ⟨"LevelledRingModel", "tooGreat", "(JI)Z"⟩
abbrev w_M_tooGreat : List Cond := .code y_M_tooGreat c9_M_tooGreat 4 (some .boolean) :: TB
abbrev c9_M_multiply : ByteArray := prog_10_method_32_code
abbrev y_M_multiply : MethodName := ⟨"LevelledRingModel", "multiply", "(I)Z"⟩
abbrev w_M_multiply : List Cond := .code y_M_multiply c9_M_multiply 10 (some .boolean) :: TB
abbrev c9_M_level2 : ByteArray := prog_10_method_27_code
abbrev y_M_level2 : MethodName := ⟨"LevelledRingModel", "level2", "(II)Z"⟩
abbrev w_M_level2 : List Cond := .code y_M_level2 c9_M_level2 5 (some .boolean) :: TB
abbrev c9_M_load : ByteArray := prog_10_method_25_code
abbrev y_M_load : MethodName := ⟨"LevelledRingModel", "load", "(II)V"⟩
abbrev w_M_load : List Cond := .code y_M_load c9_M_load 4 none :: TB
abbrev c9_M_lower : ByteArray := prog_10_method_26_code
abbrev y_M_lower : MethodName := ⟨"LevelledRingModel", "lower", "(I)Z"⟩
abbrev w_M_lower : List Cond := .code y_M_lower c9_M_lower 12 (some .boolean) :: TB
abbrev c9_M_addProduct : ByteArray := prog_10_method_9_code
abbrev y_M_addProduct : MethodName := ⟨"LevelledRingModel", "addProduct", "(IIIJ)V"⟩
abbrev w_M_addProduct : List Cond := .code y_M_addProduct c9_M_addProduct 11 none :: TB
abbrev c9_M_combine : ByteArray := prog_10_method_31_code
abbrev y_M_combine : MethodName := ⟨"LevelledRingModel", "combine", "(II)Z"⟩
abbrev w_M_combine : List Cond := .code y_M_combine c9_M_combine 5 (some .boolean) :: TB
abbrev c9_M_level : ByteArray := prog_10_method_35_code
abbrev y_M_level : MethodName := ⟨"LevelledRingModel", "level", "(I)I"⟩
abbrev w_M_level : List Cond := .code y_M_level c9_M_level 2 (some .int) :: TB
abbrev c9_M_valued : ByteArray := prog_10_method_34_code
abbrev y_M_valued : MethodName := ⟨"LevelledRingModel", "valued", "(I)Z"⟩
abbrev w_M_valued : List Cond := .code y_M_valued c9_M_valued 2 (some .boolean) :: TB
abbrev c9_M_meter : ByteArray := prog_10_method_36_code
abbrev y_M_meter : MethodName := ⟨"LevelledRingModel", "meter", "(I)J"⟩
abbrev w_M_meter : List Cond := .code y_M_meter c9_M_meter 2 (some .long) :: TB
abbrev c9_M_noise : ByteArray := prog_10_method_38_code
abbrev y_M_noise : MethodName := ⟨"LevelledRingModel", "noise", "(I)J"⟩
abbrev w_M_noise : List Cond := .code y_M_noise c9_M_noise 7 (some .long) :: TB
abbrev c9_M_open : ByteArray := prog_10_method_37_code
abbrev y_M_open : MethodName := ⟨"LevelledRingModel", "open", "(I)V"⟩
abbrev w_M_open : List Cond := .code y_M_open c9_M_open 7 none :: TB
abbrev c9_M_part : ByteArray := prog_10_method_39_code
abbrev y_M_part : MethodName := ⟨"LevelledRingModel", "part", "(III)J"⟩
abbrev w_M_part : List Cond := .code y_M_part c9_M_part 4 (some .long) :: TB
abbrev c9_M_decrypted : ByteArray := prog_10_method_40_code
abbrev y_M_decrypted : MethodName := ⟨"LevelledRingModel", "decrypted", "(II)I"⟩
abbrev w_M_decrypted : List Cond := .code y_M_decrypted c9_M_decrypted 3 (some .int) :: TB
abbrev c9_M_plain : ByteArray := prog_10_method_41_code
abbrev y_M_plain : MethodName := ⟨"LevelledRingModel", "plain", "(II)I"⟩
abbrev w_M_plain : List Cond := .code y_M_plain c9_M_plain 3 (some .int) :: TB
abbrev c9_M_secret : ByteArray := prog_10_method_42_code
abbrev y_M_secret : MethodName := ⟨"LevelledRingModel", "secret", "(I)I"⟩
abbrev w_M_secret : List Cond := .code y_M_secret c9_M_secret 2 (some .int) :: TB
