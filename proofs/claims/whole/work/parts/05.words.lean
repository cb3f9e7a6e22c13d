/-- the words that every method stands on -/
def xtW : List Cond := [Cond.selects RX5 yX10_kindAt yX10_kindAt, Cond.selects RX6 yX10_kindAt yX10_kindAt]
def gW : List Cond := (xtW ++ lw_tbl).filter goodWord
theorem gW_in {w : Cond} (h : w ∈ lw_tbl) (g : goodWord w = true) : w ∈ gW := List.mem_filter.mpr ⟨List.mem_append_right _ h, g⟩
theorem gW_x5 : Cond.selects RX5 yX10_kindAt yX10_kindAt ∈ gW := List.mem_filter.mpr ⟨List.mem_append_left _ List.mem_cons_self, by decide +kernel⟩
theorem gW_x6 : Cond.selects RX6 yX10_kindAt yX10_kindAt ∈ gW := List.mem_filter.mpr ⟨List.mem_append_left _ (List.mem_cons_of_mem _ List.mem_cons_self), by decide +kernel⟩
theorem sel_priv {C : String} {y y1 : MethodName} {s : State} {args : Array Value} (hy : y.cls ≠ "java/lang/invoke/MethodHandle" ∧ y.cls ≠ "java/lang/invoke/VarHandle") (hy1 : y1.cls ≠ "java/lang/invoke/MethodHandle" ∧ y1.cls ≠ "java/lang/invoke/VarHandle") (hc : y.cls = y1.cls)
    (h1 : (Cond.selects C y1 y1).before args s = true) (hpriv : (Cond.privateMethod y).before args s = true) (hinst : (Cond.instanceMethod y).before args s = true) : (Cond.selects C y y).before args s = true := by
  obtain ⟨c2, r2, m2, q1, q2, q3, q4, kP, hkP, hkPi⟩ := Cond.selects_spec h1
  obtain ⟨mk, methM, hnamed, hmethM, -, -⟩ := Cond.instanceMethod_spec hinst
  have hfound : s.methodFound? y.cls y.name y.desc = some mk := State.methodFound?_of_named hnamed hy
  have hcls : mk.cls = m2.cls := Option.some.inj ((findClass_of_methodNamed hnamed).symm.trans (hc ▸ findClass_of_methodNamed q3))
  have hsel : selectMethod {} s.vm c2 mk = .method mk := selectMethod_private hmethM (Cond.privateMethod_at hpriv mk methM hnamed hmethM)
  simp only [Cond.before, Cond.holds, Cond.value, q1, hfound, hnamed, hsel, hcls, hkP]
  simp; exact hkPi
theorem gW_hts {args : Array Value} {s : State} (h : ∀ w ∈ lw_tbl, w.before args s = true) : ∀ w ∈ gW, w.before args s = true := by
  have h1 : ∀ w ∈ tables_1, w.before args s = true := fun w hw => h w (List.mem_append_right _ hw)
  intro w hw
  rcases List.mem_append.mp (List.mem_filter.mp hw).1 with q | q
  · simp only [xtW, List.mem_cons, List.not_mem_nil, or_false] at q
    rcases q with rfl | rfl
    · exact sel_priv (y1 := yX10_advance) (by decide) (by decide) rfl (h1 _ (List.mem_of_getElem? (i := 653) (by decide +kernel))) (h1 _ (List.mem_of_getElem? (i := 657) (by decide +kernel))) (h1 _ (List.mem_of_getElem? (i := 658) (by decide +kernel)))
    · exact sel_priv (y1 := yX10_advance) (by decide) (by decide) rfl (h1 _ (List.mem_of_getElem? (i := 654) (by decide +kernel))) (h1 _ (List.mem_of_getElem? (i := 657) (by decide +kernel))) (h1 _ (List.mem_of_getElem? (i := 658) (by decide +kernel)))
  · exact h w q
theorem gW_at {w : Cond} (i : Nat) (h : lw_tbl[i]? = some w) (g : goodWord w = true) : w ∈ gW := gW_in (List.mem_of_getElem? h) g
theorem gW_tb {w : Cond} (i : Nat) (h : tables_1[i]? = some w) (g : goodWord w = true) : w ∈ gW := gW_in (List.mem_append_right _ (List.mem_of_getElem? h)) g
theorem gW_good : GoodIn gW gW := fun w h => ⟨h, good_of_word (List.mem_filter.mp h).2⟩
theorem gW_cons {w : Cond} (h : w ∈ gW) : GoodIn gW (w :: gW) := fun v hv => (List.mem_cons.mp hv).elim (fun e => by subst e; exact ⟨h, good_of_word (List.mem_filter.mp h).2⟩) (fun hv => gW_good v hv)
theorem w_0 : (Cond.initialized "BiteYearsLaw") ∈ gW := gW_tb 0 (by decide +kernel) rfl
theorem w_1 : (Cond.initialized "BiteYears") ∈ gW := gW_tb 1 (by decide +kernel) rfl
theorem w_2 : (Cond.initialized "BiteYears$Lady") ∈ gW := gW_tb 2 (by decide +kernel) rfl
theorem w_3 : (Cond.initialized "BiteYears$Dishes") ∈ gW := gW_tb 3 (by decide +kernel) rfl
theorem w_4 : (Cond.initialized "BiteYears$Law") ∈ gW := gW_tb 4 (by decide +kernel) rfl
theorem w_5 : (Cond.initialized "BiteYears$Log") ∈ gW := gW_tb 5 (by decide +kernel) rfl
theorem w_6 : (Cond.initialized "BiteYears$Acts") ∈ gW := gW_tb 6 (by decide +kernel) rfl
theorem w_7 : (Cond.initialized "BiteYears$Served") ∈ gW := gW_tb 7 (by decide +kernel) rfl
theorem w_8 : (Cond.initialized "BiteYears$Text") ∈ gW := gW_tb 8 (by decide +kernel) rfl
theorem w_9 : (Cond.initialized "BiteYears$LifeText") ∈ gW := gW_tb 9 (by decide +kernel) rfl
theorem w_10 : (Cond.initialized "BiteYears$LawText") ∈ gW := gW_tb 10 (by decide +kernel) rfl
theorem w_11 : (Cond.initialized "BiteYears$Orders") ∈ gW := gW_tb 11 (by decide +kernel) rfl
theorem w_12 : (Cond.initialized "BiteYears$Jars") ∈ gW := gW_tb 12 (by decide +kernel) rfl
theorem w_13 : (Cond.initialized "BiteYearsModel") ∈ gW := gW_tb 13 (by decide +kernel) rfl
theorem w_14 : (Cond.initialized "java/lang/System") ∈ gW := gW_tb 14 (by decide +kernel) rfl
theorem w_15 : (Cond.initialized "java/lang/Math") ∈ gW := gW_tb 15 (by decide +kernel) rfl
theorem w_16 : (Cond.initialized "java/lang/String") ∈ gW := gW_tb 16 (by decide +kernel) rfl
theorem w_17 : (Cond.initialized "java/lang/StringLatin1") ∈ gW := gW_tb 17 (by decide +kernel) rfl
theorem w_18 : (Cond.initialized "jdk/internal/util/Preconditions") ∈ gW := gW_tb 18 (by decide +kernel) rfl
theorem w_19 : (Cond.initialized "java/lang/StringUTF16") ∈ gW := gW_tb 19 (by decide +kernel) rfl
theorem w_20 : (Cond.initialized "java/lang/Throwable") ∈ gW := gW_tb 20 (by decide +kernel) rfl
theorem w_21 : (Cond.initialized "java/lang/Exception") ∈ gW := gW_tb 21 (by decide +kernel) rfl
theorem w_22 : (Cond.initialized "java/lang/RuntimeException") ∈ gW := gW_tb 22 (by decide +kernel) rfl
theorem w_23 : (Cond.initialized "java/lang/IllegalArgumentException") ∈ gW := gW_tb 23 (by decide +kernel) rfl
theorem w_24 : (Cond.initialized "java/lang/UnsupportedOperationException") ∈ gW := gW_tb 24 (by decide +kernel) rfl
theorem w_25 : (Cond.initialized "java/lang/IndexOutOfBoundsException") ∈ gW := gW_tb 25 (by decide +kernel) rfl
theorem w_26 : (Cond.initialized "java/util/NoSuchElementException") ∈ gW := gW_tb 26 (by decide +kernel) rfl
theorem w_27 : (Cond.initialized "java/lang/IllegalStateException") ∈ gW := gW_tb 27 (by decide +kernel) rfl
theorem w_28 : (Cond.initialized "java/lang/Integer") ∈ gW := gW_tb 28 (by decide +kernel) rfl
theorem w_29 : (Cond.classLink "BiteYearsLaw" (8 : Nat) "BiteYears") ∈ gW := gW_tb 29 (by decide +kernel) rfl
theorem w_30 : (Cond.instantiable "BiteYears" (17 : Nat)) ∈ gW := gW_tb 30 (by decide +kernel) rfl
theorem w_31 : (Cond.methodLink "BiteYearsLaw" (108 : Nat) ({ cls := "BiteYears", name := "<init>", desc := "()V" } : MethodName)) ∈ gW := gW_tb 31 (by decide +kernel) rfl
theorem w_32 : (Cond.instanceMethod ({ cls := "BiteYears", name := "<init>", desc := "()V" } : MethodName)) ∈ gW := gW_tb 32 (by decide +kernel) rfl
theorem w_33 : (Cond.code ({ cls := "BiteYears", name := "<init>", desc := "()V" } : MethodName) prog_1_method_1_code (1 : Nat) (Option.none : Option FieldType)) ∈ gW := gW_tb 33 (by decide +kernel) rfl
theorem w_34 : (Cond.methodLink "BiteYears" (1 : Nat) ({ cls := "java/lang/Object", name := "<init>", desc := "()V" } : MethodName)) ∈ gW := gW_tb 34 (by decide +kernel) rfl
theorem w_35 : (Cond.instanceMethod ({ cls := "java/lang/Object", name := "<init>", desc := "()V" } : MethodName)) ∈ gW := gW_tb 35 (by decide +kernel) rfl
theorem w_36 : (Cond.code ({ cls := "java/lang/Object", name := "<init>", desc := "()V" } : MethodName) object_method_1_code (1 : Nat) (Option.none : Option FieldType)) ∈ gW := gW_tb 36 (by decide +kernel) rfl
theorem w_37 : (Cond.classLink "BiteYears" (20 : Nat) "BiteYears$Lady") ∈ gW := gW_tb 37 (by decide +kernel) rfl
theorem w_38 : (Cond.instantiable "BiteYears$Lady" (15 : Nat)) ∈ gW := gW_tb 38 (by decide +kernel) rfl
theorem w_40 : (Cond.instanceMethod ({ cls := "BiteYears$Lady", name := "<init>", desc := "()V" } : MethodName)) ∈ gW := gW_tb 40 (by decide +kernel) rfl
theorem w_41 : (Cond.code ({ cls := "BiteYears$Lady", name := "<init>", desc := "()V" } : MethodName) prog_5_method_1_code (1 : Nat) (Option.none : Option FieldType)) ∈ gW := gW_tb 41 (by decide +kernel) rfl
theorem w_42 : (Cond.methodLink "BiteYears$Lady" (3 : Nat) ({ cls := "java/lang/Object", name := "<init>", desc := "()V" } : MethodName)) ∈ gW := gW_tb 42 (by decide +kernel) rfl
theorem w_43 : (Cond.classLink "BiteYears$Lady" (9 : Nat) "BiteYears$Dishes") ∈ gW := gW_tb 43 (by decide +kernel) rfl
theorem w_44 : (Cond.instantiable "BiteYears$Dishes" (5 : Nat)) ∈ gW := gW_tb 44 (by decide +kernel) rfl
theorem w_46 : (Cond.instanceMethod ({ cls := "BiteYears$Dishes", name := "<init>", desc := "()V" } : MethodName)) ∈ gW := gW_tb 46 (by decide +kernel) rfl
theorem w_47 : (Cond.code ({ cls := "BiteYears$Dishes", name := "<init>", desc := "()V" } : MethodName) prog_3_method_1_code (1 : Nat) (Option.none : Option FieldType)) ∈ gW := gW_tb 47 (by decide +kernel) rfl
theorem w_48 : (Cond.methodLink "BiteYears$Dishes" (3 : Nat) ({ cls := "java/lang/Object", name := "<init>", desc := "()V" } : MethodName)) ∈ gW := gW_tb 48 (by decide +kernel) rfl
theorem w_49 : (Cond.fieldLink "BiteYears$Dishes" (9 : Nat) "BiteYears$Dishes" "count" "I") ∈ gW := gW_tb 49 (by decide +kernel) rfl
theorem w_50 : (Cond.fieldLink "BiteYears$Jars" (37 : Nat) "BiteYears$Dishes" "count" "I") ∈ gW := gW_tb 50 (by decide +kernel) rfl
theorem w_51 : (Cond.fieldLink "BiteYears$LifeText" (28 : Nat) "BiteYears$Dishes" "count" "I") ∈ gW := gW_tb 51 (by decide +kernel) rfl
theorem w_52 : (Cond.fieldLink "BiteYears$Lady" (108 : Nat) "BiteYears$Dishes" "count" "I") ∈ gW := gW_tb 52 (by decide +kernel) rfl
theorem w_53 : (Cond.fieldLink "BiteYears" (211 : Nat) "BiteYears$Dishes" "count" "I") ∈ gW := gW_tb 53 (by decide +kernel) rfl
theorem w_54 : (Cond.fieldLink "BiteYears$Dishes" (15 : Nat) "BiteYears$Dishes" "tastes" "[I") ∈ gW := gW_tb 54 (by decide +kernel) rfl
theorem w_55 : (Cond.fieldLink "BiteYears$Jars" (50 : Nat) "BiteYears$Dishes" "tastes" "[I") ∈ gW := gW_tb 55 (by decide +kernel) rfl
theorem w_56 : (Cond.fieldLink "BiteYears$LifeText" (85 : Nat) "BiteYears$Dishes" "tastes" "[I") ∈ gW := gW_tb 56 (by decide +kernel) rfl
theorem w_57 : (Cond.fieldLink "BiteYears" (168 : Nat) "BiteYears$Dishes" "tastes" "[I") ∈ gW := gW_tb 57 (by decide +kernel) rfl
theorem w_58 : (Cond.fieldLink "BiteYears$Dishes" (19 : Nat) "BiteYears$Dishes" "first" "[I") ∈ gW := gW_tb 58 (by decide +kernel) rfl
theorem w_59 : (Cond.fieldLink "BiteYears$Served" (66 : Nat) "BiteYears$Dishes" "first" "[I") ∈ gW := gW_tb 59 (by decide +kernel) rfl
theorem w_60 : (Cond.fieldLink "BiteYears" (171 : Nat) "BiteYears$Dishes" "first" "[I") ∈ gW := gW_tb 60 (by decide +kernel) rfl
theorem w_61 : (Cond.fieldLink "BiteYears$Dishes" (22 : Nat) "BiteYears$Dishes" "place" "[I") ∈ gW := gW_tb 61 (by decide +kernel) rfl
theorem w_62 : (Cond.fieldLink "BiteYears$Served" (72 : Nat) "BiteYears$Dishes" "place" "[I") ∈ gW := gW_tb 62 (by decide +kernel) rfl
theorem w_63 : (Cond.fieldLink "BiteYears" (174 : Nat) "BiteYears$Dishes" "place" "[I") ∈ gW := gW_tb 63 (by decide +kernel) rfl
theorem w_64 : (Cond.fieldLink "BiteYears$Dishes" (25 : Nat) "BiteYears$Dishes" "company" "[I") ∈ gW := gW_tb 64 (by decide +kernel) rfl
theorem w_65 : (Cond.fieldLink "BiteYears$Served" (69 : Nat) "BiteYears$Dishes" "company" "[I") ∈ gW := gW_tb 65 (by decide +kernel) rfl
theorem w_66 : (Cond.fieldLink "BiteYears" (177 : Nat) "BiteYears$Dishes" "company" "[I") ∈ gW := gW_tb 66 (by decide +kernel) rfl
theorem w_67 : (Cond.lays "BiteYears$Dishes" "BiteYears$Dishes" "count" "I") ∈ gW := gW_tb 67 (by decide +kernel) rfl
theorem w_69 : (Cond.laysFinal "BiteYears$Dishes" "BiteYears$Dishes" "tastes" "[I") ∈ gW := gW_tb 69 (by decide +kernel) rfl
theorem w_71 : (Cond.laysFinal "BiteYears$Dishes" "BiteYears$Dishes" "first" "[I") ∈ gW := gW_tb 71 (by decide +kernel) rfl
theorem w_73 : (Cond.laysFinal "BiteYears$Dishes" "BiteYears$Dishes" "place" "[I") ∈ gW := gW_tb 73 (by decide +kernel) rfl
theorem w_75 : (Cond.laysFinal "BiteYears$Dishes" "BiteYears$Dishes" "company" "[I") ∈ gW := gW_tb 75 (by decide +kernel) rfl
theorem w_77 : (Cond.superclass "BiteYears$Dishes" "java/lang/Object") ∈ gW := gW_tb 77 (by decide +kernel) rfl
theorem w_78 : (Cond.arrayClass FieldType.int) ∈ gW := gW_tb 78 (by decide +kernel) rfl
theorem w_79 : (Cond.fieldLink "BiteYears$Lady" (12 : Nat) "BiteYears$Lady" "dishes" "LBiteYears$Dishes;") ∈ gW := gW_tb 79 (by decide +kernel) rfl
theorem w_80 : (Cond.fieldLink "BiteYears$LifeText" (24 : Nat) "BiteYears$Lady" "dishes" "LBiteYears$Dishes;") ∈ gW := gW_tb 80 (by decide +kernel) rfl
theorem w_81 : (Cond.fieldLink "BiteYears$Served" (30 : Nat) "BiteYears$Lady" "dishes" "LBiteYears$Dishes;") ∈ gW := gW_tb 81 (by decide +kernel) rfl
theorem w_82 : (Cond.fieldLink "BiteYears" (148 : Nat) "BiteYears$Lady" "dishes" "LBiteYears$Dishes;") ∈ gW := gW_tb 82 (by decide +kernel) rfl
theorem w_83 : (Cond.fieldLink "BiteYears$Lady" (18 : Nat) "BiteYears$Lady" "texts" "I") ∈ gW := gW_tb 83 (by decide +kernel) rfl
theorem w_84 : (Cond.fieldLink "BiteYears" (125 : Nat) "BiteYears$Lady" "texts" "I") ∈ gW := gW_tb 84 (by decide +kernel) rfl
theorem w_85 : (Cond.fieldLink "BiteYears$Lady" (22 : Nat) "BiteYears$Lady" "today" "I") ∈ gW := gW_tb 85 (by decide +kernel) rfl
theorem w_86 : (Cond.fieldLink "BiteYears$LifeText" (49 : Nat) "BiteYears$Lady" "today" "I") ∈ gW := gW_tb 86 (by decide +kernel) rfl
theorem w_87 : (Cond.fieldLink "BiteYears$Served" (53 : Nat) "BiteYears$Lady" "today" "I") ∈ gW := gW_tb 87 (by decide +kernel) rfl
theorem w_88 : (Cond.fieldLink "BiteYears" (252 : Nat) "BiteYears$Lady" "today" "I") ∈ gW := gW_tb 88 (by decide +kernel) rfl
theorem w_89 : (Cond.fieldLink "BiteYears$Lady" (25 : Nat) "BiteYears$Lady" "at" "I") ∈ gW := gW_tb 89 (by decide +kernel) rfl
theorem w_90 : (Cond.fieldLink "BiteYears$LifeText" (51 : Nat) "BiteYears$Lady" "at" "I") ∈ gW := gW_tb 90 (by decide +kernel) rfl
theorem w_91 : (Cond.fieldLink "BiteYears" (242 : Nat) "BiteYears$Lady" "at" "I") ∈ gW := gW_tb 91 (by decide +kernel) rfl
theorem w_92 : (Cond.fieldLink "BiteYears$Lady" (28 : Nat) "BiteYears$Lady" "sorrow" "I") ∈ gW := gW_tb 92 (by decide +kernel) rfl
theorem w_93 : (Cond.fieldLink "BiteYears$Orders" (48 : Nat) "BiteYears$Lady" "sorrow" "I") ∈ gW := gW_tb 93 (by decide +kernel) rfl
theorem w_94 : (Cond.fieldLink "BiteYears$Served" (43 : Nat) "BiteYears$Lady" "sorrow" "I") ∈ gW := gW_tb 94 (by decide +kernel) rfl
theorem w_95 : (Cond.fieldLink "BiteYears" (220 : Nat) "BiteYears$Lady" "sorrow" "I") ∈ gW := gW_tb 95 (by decide +kernel) rfl
theorem w_96 : (Cond.fieldLink "BiteYears$Lady" (31 : Nat) "BiteYears$Lady" "spoons" "I") ∈ gW := gW_tb 96 (by decide +kernel) rfl
theorem w_97 : (Cond.fieldLink "BiteYears$Served" (46 : Nat) "BiteYears$Lady" "spoons" "I") ∈ gW := gW_tb 97 (by decide +kernel) rfl
theorem w_98 : (Cond.fieldLink "BiteYears" (420 : Nat) "BiteYears$Lady" "spoons" "I") ∈ gW := gW_tb 98 (by decide +kernel) rfl
theorem w_99 : (Cond.fieldLink "BiteYears$Lady" (34 : Nat) "BiteYears$Lady" "evening" "I") ∈ gW := gW_tb 99 (by decide +kernel) rfl
theorem w_100 : (Cond.fieldLink "BiteYears" (236 : Nat) "BiteYears$Lady" "evening" "I") ∈ gW := gW_tb 100 (by decide +kernel) rfl
theorem w_101 : (Cond.fieldLink "BiteYears$Lady" (37 : Nat) "BiteYears$Lady" "reach" "I") ∈ gW := gW_tb 101 (by decide +kernel) rfl
theorem w_102 : (Cond.fieldLink "BiteYears$Served" (34 : Nat) "BiteYears$Lady" "reach" "I") ∈ gW := gW_tb 102 (by decide +kernel) rfl
theorem w_103 : (Cond.fieldLink "BiteYears$LifeText" (56 : Nat) "BiteYears$Lady" "reach" "I") ∈ gW := gW_tb 103 (by decide +kernel) rfl
theorem w_104 : (Cond.fieldLink "BiteYears" (180 : Nat) "BiteYears$Lady" "reach" "I") ∈ gW := gW_tb 104 (by decide +kernel) rfl
theorem w_105 : (Cond.fieldLink "BiteYears$Lady" (40 : Nat) "BiteYears$Lady" "warFrom" "I") ∈ gW := gW_tb 105 (by decide +kernel) rfl
theorem w_106 : (Cond.fieldLink "BiteYears$LifeText" (72 : Nat) "BiteYears$Lady" "warFrom" "I") ∈ gW := gW_tb 106 (by decide +kernel) rfl
theorem w_107 : (Cond.fieldLink "BiteYears$Served" (75 : Nat) "BiteYears$Lady" "warFrom" "I") ∈ gW := gW_tb 107 (by decide +kernel) rfl
theorem w_108 : (Cond.fieldLink "BiteYears" (373 : Nat) "BiteYears$Lady" "warFrom" "I") ∈ gW := gW_tb 108 (by decide +kernel) rfl
theorem w_109 : (Cond.fieldLink "BiteYears$Lady" (43 : Nat) "BiteYears$Lady" "warTo" "I") ∈ gW := gW_tb 109 (by decide +kernel) rfl
theorem w_110 : (Cond.fieldLink "BiteYears$LifeText" (75 : Nat) "BiteYears$Lady" "warTo" "I") ∈ gW := gW_tb 110 (by decide +kernel) rfl
theorem w_111 : (Cond.fieldLink "BiteYears$Served" (78 : Nat) "BiteYears$Lady" "warTo" "I") ∈ gW := gW_tb 111 (by decide +kernel) rfl
theorem w_112 : (Cond.fieldLink "BiteYears" (376 : Nat) "BiteYears$Lady" "warTo" "I") ∈ gW := gW_tb 112 (by decide +kernel) rfl
theorem w_113 : (Cond.fieldLink "BiteYears$Lady" (46 : Nat) "BiteYears$Lady" "slip" "I") ∈ gW := gW_tb 113 (by decide +kernel) rfl
theorem w_114 : (Cond.fieldLink "BiteYears$LifeText" (60 : Nat) "BiteYears$Lady" "slip" "I") ∈ gW := gW_tb 114 (by decide +kernel) rfl
theorem w_115 : (Cond.fieldLink "BiteYears" (280 : Nat) "BiteYears$Lady" "slip" "I") ∈ gW := gW_tb 115 (by decide +kernel) rfl
theorem w_116 : (Cond.fieldLink "BiteYears$Lady" (49 : Nat) "BiteYears$Lady" "house" "I") ∈ gW := gW_tb 116 (by decide +kernel) rfl
theorem w_117 : (Cond.fieldLink "BiteYears$Served" (56 : Nat) "BiteYears$Lady" "house" "I") ∈ gW := gW_tb 117 (by decide +kernel) rfl
theorem w_118 : (Cond.fieldLink "BiteYears$LifeText" (64 : Nat) "BiteYears$Lady" "house" "I") ∈ gW := gW_tb 118 (by decide +kernel) rfl
theorem w_119 : (Cond.fieldLink "BiteYears" (274 : Nat) "BiteYears$Lady" "house" "I") ∈ gW := gW_tb 119 (by decide +kernel) rfl
theorem w_120 : (Cond.fieldLink "BiteYears$Lady" (52 : Nat) "BiteYears$Lady" "wage" "I") ∈ gW := gW_tb 120 (by decide +kernel) rfl
theorem w_121 : (Cond.fieldLink "BiteYears$Served" (25 : Nat) "BiteYears$Lady" "wage" "I") ∈ gW := gW_tb 121 (by decide +kernel) rfl
theorem w_122 : (Cond.fieldLink "BiteYears$LifeText" (68 : Nat) "BiteYears$Lady" "wage" "I") ∈ gW := gW_tb 122 (by decide +kernel) rfl
theorem w_123 : (Cond.fieldLink "BiteYears" (423 : Nat) "BiteYears$Lady" "wage" "I") ∈ gW := gW_tb 123 (by decide +kernel) rfl
theorem w_124 : (Cond.fieldLink "BiteYears$Lady" (55 : Nat) "BiteYears$Lady" "paid" "I") ∈ gW := gW_tb 124 (by decide +kernel) rfl
theorem w_125 : (Cond.fieldLink "BiteYears" (396 : Nat) "BiteYears$Lady" "paid" "I") ∈ gW := gW_tb 125 (by decide +kernel) rfl
theorem w_126 : (Cond.fieldLink "BiteYears$Lady" (58 : Nat) "BiteYears$Lady" "seed" "I") ∈ gW := gW_tb 126 (by decide +kernel) rfl
theorem w_127 : (Cond.fieldLink "BiteYears" (389 : Nat) "BiteYears$Lady" "seed" "I") ∈ gW := gW_tb 127 (by decide +kernel) rfl
theorem w_128 : (Cond.laysFinal "BiteYears$Lady" "BiteYears$Lady" "dishes" "LBiteYears$Dishes;") ∈ gW := gW_tb 128 (by decide +kernel) rfl
theorem w_130 : (Cond.lays "BiteYears$Lady" "BiteYears$Lady" "texts" "I") ∈ gW := gW_tb 130 (by decide +kernel) rfl
theorem w_132 : (Cond.lays "BiteYears$Lady" "BiteYears$Lady" "today" "I") ∈ gW := gW_tb 132 (by decide +kernel) rfl
theorem w_134 : (Cond.lays "BiteYears$Lady" "BiteYears$Lady" "at" "I") ∈ gW := gW_tb 134 (by decide +kernel) rfl
theorem w_136 : (Cond.lays "BiteYears$Lady" "BiteYears$Lady" "sorrow" "I") ∈ gW := gW_tb 136 (by decide +kernel) rfl
theorem w_138 : (Cond.lays "BiteYears$Lady" "BiteYears$Lady" "spoons" "I") ∈ gW := gW_tb 138 (by decide +kernel) rfl
theorem w_140 : (Cond.lays "BiteYears$Lady" "BiteYears$Lady" "evening" "I") ∈ gW := gW_tb 140 (by decide +kernel) rfl
theorem w_142 : (Cond.lays "BiteYears$Lady" "BiteYears$Lady" "reach" "I") ∈ gW := gW_tb 142 (by decide +kernel) rfl
theorem w_144 : (Cond.lays "BiteYears$Lady" "BiteYears$Lady" "warFrom" "I") ∈ gW := gW_tb 144 (by decide +kernel) rfl
theorem w_146 : (Cond.lays "BiteYears$Lady" "BiteYears$Lady" "warTo" "I") ∈ gW := gW_tb 146 (by decide +kernel) rfl
theorem w_148 : (Cond.lays "BiteYears$Lady" "BiteYears$Lady" "slip" "I") ∈ gW := gW_tb 148 (by decide +kernel) rfl
theorem w_150 : (Cond.lays "BiteYears$Lady" "BiteYears$Lady" "house" "I") ∈ gW := gW_tb 150 (by decide +kernel) rfl
theorem w_152 : (Cond.lays "BiteYears$Lady" "BiteYears$Lady" "wage" "I") ∈ gW := gW_tb 152 (by decide +kernel) rfl
theorem w_154 : (Cond.lays "BiteYears$Lady" "BiteYears$Lady" "paid" "I") ∈ gW := gW_tb 154 (by decide +kernel) rfl
theorem w_156 : (Cond.lays "BiteYears$Lady" "BiteYears$Lady" "seed" "I") ∈ gW := gW_tb 156 (by decide +kernel) rfl
theorem w_158 : (Cond.superclass "BiteYears$Lady" "java/lang/Object") ∈ gW := gW_tb 158 (by decide +kernel) rfl
theorem w_159 : (Cond.classLink "BiteYears" (27 : Nat) "BiteYears$Law") ∈ gW := gW_tb 159 (by decide +kernel) rfl
theorem w_160 : (Cond.instantiable "BiteYears$Law" (7 : Nat)) ∈ gW := gW_tb 160 (by decide +kernel) rfl
theorem w_162 : (Cond.instanceMethod ({ cls := "BiteYears$Law", name := "<init>", desc := "()V" } : MethodName)) ∈ gW := gW_tb 162 (by decide +kernel) rfl
theorem w_163 : (Cond.code ({ cls := "BiteYears$Law", name := "<init>", desc := "()V" } : MethodName) prog_6_method_1_code (1 : Nat) (Option.none : Option FieldType)) ∈ gW := gW_tb 163 (by decide +kernel) rfl
theorem w_164 : (Cond.methodLink "BiteYears$Law" (3 : Nat) ({ cls := "java/lang/Object", name := "<init>", desc := "()V" } : MethodName)) ∈ gW := gW_tb 164 (by decide +kernel) rfl
theorem w_165 : (Cond.fieldLink "BiteYears$Law" (9 : Nat) "BiteYears$Law" "lines" "I") ∈ gW := gW_tb 165 (by decide +kernel) rfl
theorem w_166 : (Cond.fieldLink "BiteYears" (145 : Nat) "BiteYears$Law" "lines" "I") ∈ gW := gW_tb 166 (by decide +kernel) rfl
theorem w_167 : (Cond.fieldLink "BiteYears$Law" (15 : Nat) "BiteYears$Law" "kinds" "[I") ∈ gW := gW_tb 167 (by decide +kernel) rfl
theorem w_168 : (Cond.fieldLink "BiteYears$Law" (19 : Nat) "BiteYears$Law" "amounts" "[I") ∈ gW := gW_tb 168 (by decide +kernel) rfl
theorem w_169 : (Cond.fieldLink "BiteYears$Law" (22 : Nat) "BiteYears$Law" "ends" "[I") ∈ gW := gW_tb 169 (by decide +kernel) rfl
theorem w_170 : (Cond.fieldLink "BiteYears$Law" (25 : Nat) "BiteYears$Law" "codes" "[I") ∈ gW := gW_tb 170 (by decide +kernel) rfl
theorem w_171 : (Cond.fieldLink "BiteYears$Law" (28 : Nat) "BiteYears$Law" "size" "I") ∈ gW := gW_tb 171 (by decide +kernel) rfl
theorem w_172 : (Cond.fieldLink "BiteYears$Law" (31 : Nat) "BiteYears$Law" "stack" "[I") ∈ gW := gW_tb 172 (by decide +kernel) rfl
theorem w_173 : (Cond.lays "BiteYears$Law" "BiteYears$Law" "lines" "I") ∈ gW := gW_tb 173 (by decide +kernel) rfl
theorem w_175 : (Cond.laysFinal "BiteYears$Law" "BiteYears$Law" "kinds" "[I") ∈ gW := gW_tb 175 (by decide +kernel) rfl
theorem w_177 : (Cond.laysFinal "BiteYears$Law" "BiteYears$Law" "amounts" "[I") ∈ gW := gW_tb 177 (by decide +kernel) rfl
theorem w_179 : (Cond.laysFinal "BiteYears$Law" "BiteYears$Law" "ends" "[I") ∈ gW := gW_tb 179 (by decide +kernel) rfl
theorem w_181 : (Cond.laysFinal "BiteYears$Law" "BiteYears$Law" "codes" "[I") ∈ gW := gW_tb 181 (by decide +kernel) rfl
theorem w_183 : (Cond.lays "BiteYears$Law" "BiteYears$Law" "size" "I") ∈ gW := gW_tb 183 (by decide +kernel) rfl
theorem w_185 : (Cond.laysFinal "BiteYears$Law" "BiteYears$Law" "stack" "[I") ∈ gW := gW_tb 185 (by decide +kernel) rfl
theorem w_187 : (Cond.superclass "BiteYears$Law" "java/lang/Object") ∈ gW := gW_tb 187 (by decide +kernel) rfl
theorem w_188 : (Cond.classLink "BiteYears" (34 : Nat) "BiteYears$Log") ∈ gW := gW_tb 188 (by decide +kernel) rfl
theorem w_189 : (Cond.instantiable "BiteYears$Log" (3 : Nat)) ∈ gW := gW_tb 189 (by decide +kernel) rfl
theorem w_191 : (Cond.instanceMethod ({ cls := "BiteYears$Log", name := "<init>", desc := "()V" } : MethodName)) ∈ gW := gW_tb 191 (by decide +kernel) rfl
theorem w_192 : (Cond.code ({ cls := "BiteYears$Log", name := "<init>", desc := "()V" } : MethodName) prog_9_method_1_code (1 : Nat) (Option.none : Option FieldType)) ∈ gW := gW_tb 192 (by decide +kernel) rfl
theorem w_193 : (Cond.methodLink "BiteYears$Log" (3 : Nat) ({ cls := "java/lang/Object", name := "<init>", desc := "()V" } : MethodName)) ∈ gW := gW_tb 193 (by decide +kernel) rfl
theorem w_194 : (Cond.fieldLink "BiteYears$Log" (9 : Nat) "BiteYears$Log" "rows" "I") ∈ gW := gW_tb 194 (by decide +kernel) rfl
theorem w_195 : (Cond.fieldLink "BiteYears" (426 : Nat) "BiteYears$Log" "rows" "I") ∈ gW := gW_tb 195 (by decide +kernel) rfl
theorem w_196 : (Cond.fieldLink "BiteYears$Log" (15 : Nat) "BiteYears$Log" "latest" "I") ∈ gW := gW_tb 196 (by decide +kernel) rfl
theorem w_197 : (Cond.fieldLink "BiteYears$Log" (18 : Nat) "BiteYears$Log" "cells" "[I") ∈ gW := gW_tb 197 (by decide +kernel) rfl
theorem w_198 : (Cond.lays "BiteYears$Log" "BiteYears$Log" "rows" "I") ∈ gW := gW_tb 198 (by decide +kernel) rfl
theorem w_200 : (Cond.lays "BiteYears$Log" "BiteYears$Log" "latest" "I") ∈ gW := gW_tb 200 (by decide +kernel) rfl
theorem w_202 : (Cond.laysFinal "BiteYears$Log" "BiteYears$Log" "cells" "[I") ∈ gW := gW_tb 202 (by decide +kernel) rfl
theorem w_204 : (Cond.superclass "BiteYears$Log" "java/lang/Object") ∈ gW := gW_tb 204 (by decide +kernel) rfl
theorem w_205 : (Cond.classLink "BiteYears" (41 : Nat) "BiteYears$Acts") ∈ gW := gW_tb 205 (by decide +kernel) rfl
theorem w_206 : (Cond.instantiable "BiteYears$Acts" (4 : Nat)) ∈ gW := gW_tb 206 (by decide +kernel) rfl
theorem w_207 : (Cond.methodLink "BiteYears" (43 : Nat) ({ cls := "BiteYears$Acts", name := "<init>", desc := "()V" } : MethodName)) ∈ gW := gW_tb 207 (by decide +kernel) rfl
theorem w_208 : (Cond.instanceMethod ({ cls := "BiteYears$Acts", name := "<init>", desc := "()V" } : MethodName)) ∈ gW := gW_tb 208 (by decide +kernel) rfl
theorem w_209 : (Cond.code ({ cls := "BiteYears$Acts", name := "<init>", desc := "()V" } : MethodName) prog_2_method_1_code (2 : Nat) (Option.none : Option FieldType)) ∈ gW := gW_tb 209 (by decide +kernel) rfl
theorem w_210 : (Cond.methodLink "BiteYears$Acts" (1 : Nat) ({ cls := "java/lang/Object", name := "<init>", desc := "()V" } : MethodName)) ∈ gW := gW_tb 210 (by decide +kernel) rfl
theorem w_211 : (Cond.classLink "BiteYears$Acts" (16 : Nat) "BiteYears$Lady") ∈ gW := gW_tb 211 (by decide +kernel) rfl
theorem w_213 : (Cond.classLink "BiteYears$Acts" (22 : Nat) "BiteYears$Log") ∈ gW := gW_tb 213 (by decide +kernel) rfl
theorem w_217 : (Cond.fieldLink "BiteYears$Acts" (7 : Nat) "BiteYears$Acts" "kept" "I") ∈ gW := gW_tb 217 (by decide +kernel) rfl
theorem w_218 : (Cond.fieldLink "BiteYears" (429 : Nat) "BiteYears$Acts" "kept" "I") ∈ gW := gW_tb 218 (by decide +kernel) rfl
theorem w_219 : (Cond.fieldLink "BiteYears$Acts" (13 : Nat) "BiteYears$Acts" "free" "I") ∈ gW := gW_tb 219 (by decide +kernel) rfl
theorem w_220 : (Cond.fieldLink "BiteYears$Acts" (18 : Nat) "BiteYears$Acts" "ladies" "[LBiteYears$Lady;") ∈ gW := gW_tb 220 (by decide +kernel) rfl
theorem w_221 : (Cond.fieldLink "BiteYears$Acts" (24 : Nat) "BiteYears$Acts" "logs" "[LBiteYears$Log;") ∈ gW := gW_tb 221 (by decide +kernel) rfl
theorem w_222 : (Cond.lays "BiteYears$Acts" "BiteYears$Acts" "kept" "I") ∈ gW := gW_tb 222 (by decide +kernel) rfl
theorem w_224 : (Cond.lays "BiteYears$Acts" "BiteYears$Acts" "free" "I") ∈ gW := gW_tb 224 (by decide +kernel) rfl
theorem w_226 : (Cond.laysFinal "BiteYears$Acts" "BiteYears$Acts" "ladies" "[LBiteYears$Lady;") ∈ gW := gW_tb 226 (by decide +kernel) rfl
theorem w_228 : (Cond.laysFinal "BiteYears$Acts" "BiteYears$Acts" "logs" "[LBiteYears$Log;") ∈ gW := gW_tb 228 (by decide +kernel) rfl
theorem w_230 : (Cond.superclass "BiteYears$Acts" "java/lang/Object") ∈ gW := gW_tb 230 (by decide +kernel) rfl
theorem w_231 : (Cond.classLink "BiteYears" (64 : Nat) "BiteYears$Served") ∈ gW := gW_tb 231 (by decide +kernel) rfl
theorem w_232 : (Cond.instantiable "BiteYears$Served" (4 : Nat)) ∈ gW := gW_tb 232 (by decide +kernel) rfl
theorem w_234 : (Cond.instanceMethod ({ cls := "BiteYears$Served", name := "<init>", desc := "()V" } : MethodName)) ∈ gW := gW_tb 234 (by decide +kernel) rfl
theorem w_235 : (Cond.code ({ cls := "BiteYears$Served", name := "<init>", desc := "()V" } : MethodName) prog_11_method_1_code (1 : Nat) (Option.none : Option FieldType)) ∈ gW := gW_tb 235 (by decide +kernel) rfl
theorem w_236 : (Cond.methodLink "BiteYears$Served" (3 : Nat) ({ cls := "java/lang/Object", name := "<init>", desc := "()V" } : MethodName)) ∈ gW := gW_tb 236 (by decide +kernel) rfl
theorem w_237 : (Cond.fieldLink "BiteYears$Served" (9 : Nat) "BiteYears$Served" "called" "I") ∈ gW := gW_tb 237 (by decide +kernel) rfl
theorem w_238 : (Cond.fieldLink "BiteYears" (239 : Nat) "BiteYears$Served" "called" "I") ∈ gW := gW_tb 238 (by decide +kernel) rfl
theorem w_239 : (Cond.fieldLink "BiteYears$Served" (15 : Nat) "BiteYears$Served" "turns" "I") ∈ gW := gW_tb 239 (by decide +kernel) rfl
theorem w_240 : (Cond.fieldLink "BiteYears$Lady" (86 : Nat) "BiteYears$Served" "turns" "I") ∈ gW := gW_tb 240 (by decide +kernel) rfl
theorem w_241 : (Cond.fieldLink "BiteYears$Law" (43 : Nat) "BiteYears$Served" "turns" "I") ∈ gW := gW_tb 241 (by decide +kernel) rfl
theorem w_242 : (Cond.fieldLink "BiteYears" (202 : Nat) "BiteYears$Served" "turns" "I") ∈ gW := gW_tb 242 (by decide +kernel) rfl
theorem w_243 : (Cond.fieldLink "BiteYears$Served" (18 : Nat) "BiteYears$Served" "pays" "I") ∈ gW := gW_tb 243 (by decide +kernel) rfl
theorem w_244 : (Cond.fieldLink "BiteYears$Lady" (77 : Nat) "BiteYears$Served" "pays" "I") ∈ gW := gW_tb 244 (by decide +kernel) rfl
theorem w_245 : (Cond.fieldLink "BiteYears$Law" (38 : Nat) "BiteYears$Served" "pays" "I") ∈ gW := gW_tb 245 (by decide +kernel) rfl
theorem w_246 : (Cond.fieldLink "BiteYears" (205 : Nat) "BiteYears$Served" "pays" "I") ∈ gW := gW_tb 246 (by decide +kernel) rfl
theorem w_247 : (Cond.fieldLink "BiteYears$Served" (21 : Nat) "BiteYears$Served" "values" "[I") ∈ gW := gW_tb 247 (by decide +kernel) rfl
theorem w_248 : (Cond.fieldLink "BiteYears$Lady" (92 : Nat) "BiteYears$Served" "values" "[I") ∈ gW := gW_tb 248 (by decide +kernel) rfl
theorem w_249 : (Cond.fieldLink "BiteYears$Law" (57 : Nat) "BiteYears$Served" "values" "[I") ∈ gW := gW_tb 249 (by decide +kernel) rfl
theorem w_250 : (Cond.lays "BiteYears$Served" "BiteYears$Served" "called" "I") ∈ gW := gW_tb 250 (by decide +kernel) rfl
theorem w_252 : (Cond.lays "BiteYears$Served" "BiteYears$Served" "turns" "I") ∈ gW := gW_tb 252 (by decide +kernel) rfl
theorem w_254 : (Cond.lays "BiteYears$Served" "BiteYears$Served" "pays" "I") ∈ gW := gW_tb 254 (by decide +kernel) rfl
theorem w_256 : (Cond.laysFinal "BiteYears$Served" "BiteYears$Served" "values" "[I") ∈ gW := gW_tb 256 (by decide +kernel) rfl
theorem w_258 : (Cond.superclass "BiteYears$Served" "java/lang/Object") ∈ gW := gW_tb 258 (by decide +kernel) rfl
theorem w_259 : (Cond.classLink "BiteYears" (71 : Nat) "BiteYears$LifeText") ∈ gW := gW_tb 259 (by decide +kernel) rfl
theorem w_260 : (Cond.instantiable "BiteYears$LifeText" (6 : Nat)) ∈ gW := gW_tb 260 (by decide +kernel) rfl
theorem w_262 : (Cond.instanceMethod ({ cls := "BiteYears$LifeText", name := "<init>", desc := "()V" } : MethodName)) ∈ gW := gW_tb 262 (by decide +kernel) rfl
theorem w_263 : (Cond.code ({ cls := "BiteYears$LifeText", name := "<init>", desc := "()V" } : MethodName) prog_8_method_1_code (1 : Nat) (Option.none : Option FieldType)) ∈ gW := gW_tb 263 (by decide +kernel) rfl
theorem w_265 : (Cond.instanceMethod ({ cls := "BiteYears$Text", name := "<init>", desc := "()V" } : MethodName)) ∈ gW := gW_tb 265 (by decide +kernel) rfl
theorem w_266 : (Cond.code ({ cls := "BiteYears$Text", name := "<init>", desc := "()V" } : MethodName) prog_12_method_1_code (1 : Nat) (Option.none : Option FieldType)) ∈ gW := gW_tb 266 (by decide +kernel) rfl
theorem w_267 : (Cond.methodLink "BiteYears$Text" (3 : Nat) ({ cls := "java/lang/Object", name := "<init>", desc := "()V" } : MethodName)) ∈ gW := gW_tb 267 (by decide +kernel) rfl
theorem w_268 : (Cond.classLink "BiteYears$LifeText" (9 : Nat) "BiteYears$Lady") ∈ gW := gW_tb 268 (by decide +kernel) rfl
theorem w_270 : (Cond.fieldLink "BiteYears$LifeText" (12 : Nat) "BiteYears$LifeText" "draft" "LBiteYears$Lady;") ∈ gW := gW_tb 270 (by decide +kernel) rfl
theorem w_271 : (Cond.fieldLink "BiteYears" (103 : Nat) "BiteYears$LifeText" "draft" "LBiteYears$Lady;") ∈ gW := gW_tb 271 (by decide +kernel) rfl
theorem w_272 : (Cond.fieldLink "BiteYears$Text" (9 : Nat) "BiteYears$Text" "text" "[I") ∈ gW := gW_tb 272 (by decide +kernel) rfl
theorem w_273 : (Cond.fieldLink "BiteYears$Text" (15 : Nat) "BiteYears$Text" "length" "I") ∈ gW := gW_tb 273 (by decide +kernel) rfl
theorem w_274 : (Cond.fieldLink "BiteYears$Text" (19 : Nat) "BiteYears$Text" "kind" "I") ∈ gW := gW_tb 274 (by decide +kernel) rfl
theorem w_275 : (Cond.fieldLink "BiteYears$Text" (22 : Nat) "BiteYears$Text" "begin" "I") ∈ gW := gW_tb 275 (by decide +kernel) rfl
theorem w_276 : (Cond.fieldLink "BiteYears$Text" (25 : Nat) "BiteYears$Text" "behind" "I") ∈ gW := gW_tb 276 (by decide +kernel) rfl
theorem w_277 : (Cond.laysFinal "BiteYears$LifeText" "BiteYears$LifeText" "draft" "LBiteYears$Lady;") ∈ gW := gW_tb 277 (by decide +kernel) rfl
theorem w_279 : (Cond.lays "BiteYears$LifeText" "BiteYears$Text" "text" "[I") ∈ gW := gW_tb 279 (by decide +kernel) rfl
theorem w_281 : (Cond.lays "BiteYears$LifeText" "BiteYears$Text" "length" "I") ∈ gW := gW_tb 281 (by decide +kernel) rfl
theorem w_283 : (Cond.lays "BiteYears$LifeText" "BiteYears$Text" "kind" "I") ∈ gW := gW_tb 283 (by decide +kernel) rfl
theorem w_285 : (Cond.lays "BiteYears$LifeText" "BiteYears$Text" "begin" "I") ∈ gW := gW_tb 285 (by decide +kernel) rfl
theorem w_287 : (Cond.lays "BiteYears$LifeText" "BiteYears$Text" "behind" "I") ∈ gW := gW_tb 287 (by decide +kernel) rfl
theorem w_289 : (Cond.superclass "BiteYears$LifeText" "BiteYears$Text") ∈ gW := gW_tb 289 (by decide +kernel) rfl
theorem w_290 : (Cond.classLink "BiteYears" (78 : Nat) "BiteYears$LawText") ∈ gW := gW_tb 290 (by decide +kernel) rfl
theorem w_291 : (Cond.instantiable "BiteYears$LawText" (9 : Nat)) ∈ gW := gW_tb 291 (by decide +kernel) rfl
theorem w_293 : (Cond.instanceMethod ({ cls := "BiteYears$LawText", name := "<init>", desc := "()V" } : MethodName)) ∈ gW := gW_tb 293 (by decide +kernel) rfl
theorem w_294 : (Cond.code ({ cls := "BiteYears$LawText", name := "<init>", desc := "()V" } : MethodName) prog_7_method_1_code (1 : Nat) (Option.none : Option FieldType)) ∈ gW := gW_tb 294 (by decide +kernel) rfl
theorem w_296 : (Cond.classLink "BiteYears$LawText" (11 : Nat) "BiteYears$Law") ∈ gW := gW_tb 296 (by decide +kernel) rfl
theorem w_298 : (Cond.fieldLink "BiteYears$LawText" (14 : Nat) "BiteYears$LawText" "draft" "LBiteYears$Law;") ∈ gW := gW_tb 298 (by decide +kernel) rfl
theorem w_299 : (Cond.fieldLink "BiteYears" (136 : Nat) "BiteYears$LawText" "draft" "LBiteYears$Law;") ∈ gW := gW_tb 299 (by decide +kernel) rfl
theorem w_300 : (Cond.fieldLink "BiteYears$LawText" (18 : Nat) "BiteYears$LawText" "waiting" "[I") ∈ gW := gW_tb 300 (by decide +kernel) rfl
theorem w_301 : (Cond.fieldLink "BiteYears$LawText" (22 : Nat) "BiteYears$LawText" "waitingSize" "I") ∈ gW := gW_tb 301 (by decide +kernel) rfl
theorem w_302 : (Cond.fieldLink "BiteYears$LawText" (26 : Nat) "BiteYears$LawText" "deep" "I") ∈ gW := gW_tb 302 (by decide +kernel) rfl
theorem w_303 : (Cond.laysFinal "BiteYears$LawText" "BiteYears$LawText" "draft" "LBiteYears$Law;") ∈ gW := gW_tb 303 (by decide +kernel) rfl
theorem w_305 : (Cond.laysFinal "BiteYears$LawText" "BiteYears$LawText" "waiting" "[I") ∈ gW := gW_tb 305 (by decide +kernel) rfl
theorem w_307 : (Cond.lays "BiteYears$LawText" "BiteYears$LawText" "waitingSize" "I") ∈ gW := gW_tb 307 (by decide +kernel) rfl
theorem w_309 : (Cond.lays "BiteYears$LawText" "BiteYears$LawText" "deep" "I") ∈ gW := gW_tb 309 (by decide +kernel) rfl
theorem w_311 : (Cond.lays "BiteYears$LawText" "BiteYears$Text" "text" "[I") ∈ gW := gW_tb 311 (by decide +kernel) rfl
theorem w_312 : (Cond.lays "BiteYears$LawText" "BiteYears$Text" "length" "I") ∈ gW := gW_tb 312 (by decide +kernel) rfl
theorem w_313 : (Cond.lays "BiteYears$LawText" "BiteYears$Text" "kind" "I") ∈ gW := gW_tb 313 (by decide +kernel) rfl
theorem w_314 : (Cond.lays "BiteYears$LawText" "BiteYears$Text" "begin" "I") ∈ gW := gW_tb 314 (by decide +kernel) rfl
theorem w_315 : (Cond.lays "BiteYears$LawText" "BiteYears$Text" "behind" "I") ∈ gW := gW_tb 315 (by decide +kernel) rfl
theorem w_316 : (Cond.superclass "BiteYears$LawText" "BiteYears$Text") ∈ gW := gW_tb 316 (by decide +kernel) rfl
theorem w_317 : (Cond.classLink "BiteYears" (85 : Nat) "BiteYears$Orders") ∈ gW := gW_tb 317 (by decide +kernel) rfl
theorem w_318 : (Cond.instantiable "BiteYears$Orders" (5 : Nat)) ∈ gW := gW_tb 318 (by decide +kernel) rfl
theorem w_319 : (Cond.methodLink "BiteYears" (87 : Nat) ({ cls := "BiteYears$Orders", name := "<init>", desc := "()V" } : MethodName)) ∈ gW := gW_tb 319 (by decide +kernel) rfl
theorem w_320 : (Cond.instanceMethod ({ cls := "BiteYears$Orders", name := "<init>", desc := "()V" } : MethodName)) ∈ gW := gW_tb 320 (by decide +kernel) rfl
theorem w_321 : (Cond.code ({ cls := "BiteYears$Orders", name := "<init>", desc := "()V" } : MethodName) prog_10_method_1_code (2 : Nat) (Option.none : Option FieldType)) ∈ gW := gW_tb 321 (by decide +kernel) rfl
theorem w_322 : (Cond.methodLink "BiteYears$Orders" (3 : Nat) ({ cls := "java/lang/Object", name := "<init>", desc := "()V" } : MethodName)) ∈ gW := gW_tb 322 (by decide +kernel) rfl
theorem w_323 : (Cond.classLink "BiteYears$Orders" (25 : Nat) "BiteYears$Lady") ∈ gW := gW_tb 323 (by decide +kernel) rfl
theorem w_325 : (Cond.fieldLink "BiteYears$Orders" (9 : Nat) "BiteYears$Orders" "least" "I") ∈ gW := gW_tb 325 (by decide +kernel) rfl
theorem w_326 : (Cond.fieldLink "BiteYears" (322 : Nat) "BiteYears$Orders" "least" "I") ∈ gW := gW_tb 326 (by decide +kernel) rfl
theorem w_327 : (Cond.fieldLink "BiteYears$Orders" (15 : Nat) "BiteYears$Orders" "size" "I") ∈ gW := gW_tb 327 (by decide +kernel) rfl
theorem w_328 : (Cond.fieldLink "BiteYears$Orders" (18 : Nat) "BiteYears$Orders" "row" "[I") ∈ gW := gW_tb 328 (by decide +kernel) rfl
theorem w_329 : (Cond.fieldLink "BiteYears$Orders" (22 : Nat) "BiteYears$Orders" "best" "[I") ∈ gW := gW_tb 329 (by decide +kernel) rfl
theorem w_330 : (Cond.fieldLink "BiteYears$Orders" (27 : Nat) "BiteYears$Orders" "behind" "[LBiteYears$Lady;") ∈ gW := gW_tb 330 (by decide +kernel) rfl
theorem w_331 : (Cond.lays "BiteYears$Orders" "BiteYears$Orders" "least" "I") ∈ gW := gW_tb 331 (by decide +kernel) rfl
theorem w_333 : (Cond.lays "BiteYears$Orders" "BiteYears$Orders" "size" "I") ∈ gW := gW_tb 333 (by decide +kernel) rfl
theorem w_335 : (Cond.laysFinal "BiteYears$Orders" "BiteYears$Orders" "row" "[I") ∈ gW := gW_tb 335 (by decide +kernel) rfl
theorem w_337 : (Cond.laysFinal "BiteYears$Orders" "BiteYears$Orders" "best" "[I") ∈ gW := gW_tb 337 (by decide +kernel) rfl
theorem w_339 : (Cond.laysFinal "BiteYears$Orders" "BiteYears$Orders" "behind" "[LBiteYears$Lady;") ∈ gW := gW_tb 339 (by decide +kernel) rfl
theorem w_341 : (Cond.superclass "BiteYears$Orders" "java/lang/Object") ∈ gW := gW_tb 341 (by decide +kernel) rfl
theorem w_342 : (Cond.classLink "BiteYears" (92 : Nat) "BiteYears$Jars") ∈ gW := gW_tb 342 (by decide +kernel) rfl
theorem w_343 : (Cond.instantiable "BiteYears$Jars" (6 : Nat)) ∈ gW := gW_tb 343 (by decide +kernel) rfl
theorem w_345 : (Cond.instanceMethod ({ cls := "BiteYears$Jars", name := "<init>", desc := "()V" } : MethodName)) ∈ gW := gW_tb 345 (by decide +kernel) rfl
theorem w_346 : (Cond.code ({ cls := "BiteYears$Jars", name := "<init>", desc := "()V" } : MethodName) prog_4_method_1_code (1 : Nat) (Option.none : Option FieldType)) ∈ gW := gW_tb 346 (by decide +kernel) rfl
theorem w_347 : (Cond.methodLink "BiteYears$Jars" (3 : Nat) ({ cls := "java/lang/Object", name := "<init>", desc := "()V" } : MethodName)) ∈ gW := gW_tb 347 (by decide +kernel) rfl
theorem w_348 : (Cond.fieldLink "BiteYears$Jars" (9 : Nat) "BiteYears$Jars" "least" "I") ∈ gW := gW_tb 348 (by decide +kernel) rfl
theorem w_349 : (Cond.fieldLink "BiteYears" (360 : Nat) "BiteYears$Jars" "least" "I") ∈ gW := gW_tb 349 (by decide +kernel) rfl
theorem w_350 : (Cond.fieldLink "BiteYears$Jars" (15 : Nat) "BiteYears$Jars" "size" "I") ∈ gW := gW_tb 350 (by decide +kernel) rfl
theorem w_351 : (Cond.fieldLink "BiteYears$Jars" (18 : Nat) "BiteYears$Jars" "dishCount" "I") ∈ gW := gW_tb 351 (by decide +kernel) rfl
theorem w_352 : (Cond.fieldLink "BiteYears$Jars" (21 : Nat) "BiteYears$Jars" "fars" "[I") ∈ gW := gW_tb 352 (by decide +kernel) rfl
theorem w_353 : (Cond.fieldLink "BiteYears$Jars" (25 : Nat) "BiteYears$Jars" "row" "[I") ∈ gW := gW_tb 353 (by decide +kernel) rfl
theorem w_354 : (Cond.fieldLink "BiteYears$Jars" (28 : Nat) "BiteYears$Jars" "best" "[I") ∈ gW := gW_tb 354 (by decide +kernel) rfl
theorem w_355 : (Cond.lays "BiteYears$Jars" "BiteYears$Jars" "least" "I") ∈ gW := gW_tb 355 (by decide +kernel) rfl
theorem w_357 : (Cond.lays "BiteYears$Jars" "BiteYears$Jars" "size" "I") ∈ gW := gW_tb 357 (by decide +kernel) rfl
theorem w_359 : (Cond.lays "BiteYears$Jars" "BiteYears$Jars" "dishCount" "I") ∈ gW := gW_tb 359 (by decide +kernel) rfl
theorem w_361 : (Cond.laysFinal "BiteYears$Jars" "BiteYears$Jars" "fars" "[I") ∈ gW := gW_tb 361 (by decide +kernel) rfl
theorem w_363 : (Cond.laysFinal "BiteYears$Jars" "BiteYears$Jars" "row" "[I") ∈ gW := gW_tb 363 (by decide +kernel) rfl
theorem w_365 : (Cond.laysFinal "BiteYears$Jars" "BiteYears$Jars" "best" "[I") ∈ gW := gW_tb 365 (by decide +kernel) rfl
theorem w_367 : (Cond.superclass "BiteYears$Jars" "java/lang/Object") ∈ gW := gW_tb 367 (by decide +kernel) rfl
theorem w_368 : (Cond.fieldLink "BiteYears" (9 : Nat) "BiteYears" "tape" "[I") ∈ gW := gW_tb 368 (by decide +kernel) rfl
theorem w_369 : (Cond.fieldLink "BiteYears" (13 : Nat) "BiteYears" "tapeLength" "I") ∈ gW := gW_tb 369 (by decide +kernel) rfl
theorem w_370 : (Cond.fieldLink "BiteYears" (17 : Nat) "BiteYears" "fault" "I") ∈ gW := gW_tb 370 (by decide +kernel) rfl
theorem w_371 : (Cond.fieldLink "BiteYears" (23 : Nat) "BiteYears" "lady" "LBiteYears$Lady;") ∈ gW := gW_tb 371 (by decide +kernel) rfl
theorem w_372 : (Cond.fieldLink "BiteYears" (30 : Nat) "BiteYears" "law" "LBiteYears$Law;") ∈ gW := gW_tb 372 (by decide +kernel) rfl
theorem w_373 : (Cond.fieldLink "BiteYears" (37 : Nat) "BiteYears" "log" "LBiteYears$Log;") ∈ gW := gW_tb 373 (by decide +kernel) rfl
theorem w_374 : (Cond.fieldLink "BiteYears" (44 : Nat) "BiteYears" "acts" "LBiteYears$Acts;") ∈ gW := gW_tb 374 (by decide +kernel) rfl
theorem w_375 : (Cond.fieldLink "BiteYears" (48 : Nat) "BiteYears" "imageLady" "LBiteYears$Lady;") ∈ gW := gW_tb 375 (by decide +kernel) rfl
theorem w_376 : (Cond.fieldLink "BiteYears" (51 : Nat) "BiteYears" "imageLaw" "LBiteYears$Law;") ∈ gW := gW_tb 376 (by decide +kernel) rfl
theorem w_377 : (Cond.fieldLink "BiteYears" (54 : Nat) "BiteYears" "imageLog" "LBiteYears$Log;") ∈ gW := gW_tb 377 (by decide +kernel) rfl
theorem w_378 : (Cond.fieldLink "BiteYears" (57 : Nat) "BiteYears" "imageKept" "Z") ∈ gW := gW_tb 378 (by decide +kernel) rfl
theorem w_379 : (Cond.fieldLink "BiteYears" (61 : Nat) "BiteYears" "tried" "LBiteYears$Lady;") ∈ gW := gW_tb 379 (by decide +kernel) rfl
theorem w_380 : (Cond.fieldLink "BiteYears" (67 : Nat) "BiteYears" "served" "LBiteYears$Served;") ∈ gW := gW_tb 380 (by decide +kernel) rfl
theorem w_381 : (Cond.fieldLink "BiteYears" (74 : Nat) "BiteYears" "lifeText" "LBiteYears$LifeText;") ∈ gW := gW_tb 381 (by decide +kernel) rfl
theorem w_382 : (Cond.fieldLink "BiteYears" (81 : Nat) "BiteYears" "lawText" "LBiteYears$LawText;") ∈ gW := gW_tb 382 (by decide +kernel) rfl
theorem w_383 : (Cond.fieldLink "BiteYears" (88 : Nat) "BiteYears" "orders" "LBiteYears$Orders;") ∈ gW := gW_tb 383 (by decide +kernel) rfl
theorem w_384 : (Cond.fieldLink "BiteYears" (95 : Nat) "BiteYears" "shelf" "LBiteYears$Jars;") ∈ gW := gW_tb 384 (by decide +kernel) rfl
theorem w_385 : (Cond.laysFinal "BiteYears" "BiteYears" "tape" "[I") ∈ gW := gW_tb 385 (by decide +kernel) rfl
theorem w_387 : (Cond.lays "BiteYears" "BiteYears" "tapeLength" "I") ∈ gW := gW_tb 387 (by decide +kernel) rfl
theorem w_389 : (Cond.lays "BiteYears" "BiteYears" "fault" "I") ∈ gW := gW_tb 389 (by decide +kernel) rfl
theorem w_391 : (Cond.laysFinal "BiteYears" "BiteYears" "lady" "LBiteYears$Lady;") ∈ gW := gW_tb 391 (by decide +kernel) rfl
theorem w_393 : (Cond.laysFinal "BiteYears" "BiteYears" "law" "LBiteYears$Law;") ∈ gW := gW_tb 393 (by decide +kernel) rfl
theorem w_395 : (Cond.laysFinal "BiteYears" "BiteYears" "log" "LBiteYears$Log;") ∈ gW := gW_tb 395 (by decide +kernel) rfl
theorem w_397 : (Cond.laysFinal "BiteYears" "BiteYears" "acts" "LBiteYears$Acts;") ∈ gW := gW_tb 397 (by decide +kernel) rfl
theorem w_399 : (Cond.laysFinal "BiteYears" "BiteYears" "imageLady" "LBiteYears$Lady;") ∈ gW := gW_tb 399 (by decide +kernel) rfl
theorem w_401 : (Cond.laysFinal "BiteYears" "BiteYears" "imageLaw" "LBiteYears$Law;") ∈ gW := gW_tb 401 (by decide +kernel) rfl
theorem w_403 : (Cond.laysFinal "BiteYears" "BiteYears" "imageLog" "LBiteYears$Log;") ∈ gW := gW_tb 403 (by decide +kernel) rfl
theorem w_405 : (Cond.lays "BiteYears" "BiteYears" "imageKept" "Z") ∈ gW := gW_tb 405 (by decide +kernel) rfl
theorem w_407 : (Cond.laysFinal "BiteYears" "BiteYears" "tried" "LBiteYears$Lady;") ∈ gW := gW_tb 407 (by decide +kernel) rfl
theorem w_409 : (Cond.laysFinal "BiteYears" "BiteYears" "served" "LBiteYears$Served;") ∈ gW := gW_tb 409 (by decide +kernel) rfl
theorem w_411 : (Cond.laysFinal "BiteYears" "BiteYears" "lifeText" "LBiteYears$LifeText;") ∈ gW := gW_tb 411 (by decide +kernel) rfl
theorem w_413 : (Cond.laysFinal "BiteYears" "BiteYears" "lawText" "LBiteYears$LawText;") ∈ gW := gW_tb 413 (by decide +kernel) rfl
theorem w_415 : (Cond.laysFinal "BiteYears" "BiteYears" "orders" "LBiteYears$Orders;") ∈ gW := gW_tb 415 (by decide +kernel) rfl
theorem w_417 : (Cond.laysFinal "BiteYears" "BiteYears" "shelf" "LBiteYears$Jars;") ∈ gW := gW_tb 417 (by decide +kernel) rfl
theorem w_419 : (Cond.superclass "BiteYears" "java/lang/Object") ∈ gW := gW_tb 419 (by decide +kernel) rfl
theorem w_420 : (Cond.methodLink "BiteYearsLaw" (112 : Nat) ({ cls := "BiteYears", name := "feed", desc := "(IIIII)I" } : MethodName)) ∈ gW := gW_tb 420 (by decide +kernel) rfl
theorem w_421 : (Cond.instanceMethod ({ cls := "BiteYears", name := "feed", desc := "(IIIII)I" } : MethodName)) ∈ gW := gW_tb 421 (by decide +kernel) rfl
theorem w_422 : (Cond.selects "BiteYears" ({ cls := "BiteYears", name := "feed", desc := "(IIIII)I" } : MethodName) ({ cls := "BiteYears", name := "feed", desc := "(IIIII)I" } : MethodName)) ∈ gW := gW_tb 422 (by decide +kernel) rfl
theorem w_423 : (Cond.code ({ cls := "BiteYears", name := "feed", desc := "(IIIII)I" } : MethodName) prog_1_method_2_code (6 : Nat) (Option.some FieldType.int)) ∈ gW := gW_tb 423 (by decide +kernel) rfl
theorem w_424 : (Cond.methodLink "BiteYears" (99 : Nat) ({ cls := "BiteYears", name := "putBytes", desc := "(I)V" } : MethodName)) ∈ gW := gW_tb 424 (by decide +kernel) rfl
theorem w_426 : (Cond.instanceMethod ({ cls := "BiteYears", name := "putBytes", desc := "(I)V" } : MethodName)) ∈ gW := gW_tb 426 (by decide +kernel) rfl
theorem w_427 : (Cond.code ({ cls := "BiteYears", name := "putBytes", desc := "(I)V" } : MethodName) prog_1_method_3_code (3 : Nat) (Option.none : Option FieldType)) ∈ gW := gW_tb 427 (by decide +kernel) rfl
theorem w_428 : (Cond.methodLink "BiteYearsLaw" (117 : Nat) ({ cls := "BiteYears", name := "end", desc := "(I)Z" } : MethodName)) ∈ gW := gW_tb 428 (by decide +kernel) rfl
theorem w_429 : (Cond.instanceMethod ({ cls := "BiteYears", name := "end", desc := "(I)Z" } : MethodName)) ∈ gW := gW_tb 429 (by decide +kernel) rfl
theorem w_430 : (Cond.selects "BiteYears" ({ cls := "BiteYears", name := "end", desc := "(I)Z" } : MethodName) ({ cls := "BiteYears", name := "end", desc := "(I)Z" } : MethodName)) ∈ gW := gW_tb 430 (by decide +kernel) rfl
theorem w_431 : (Cond.code ({ cls := "BiteYears", name := "end", desc := "(I)Z" } : MethodName) prog_1_method_4_code (2 : Nat) (Option.some FieldType.boolean)) ∈ gW := gW_tb 431 (by decide +kernel) rfl
theorem w_432 : (Cond.methodLink "BiteYearsLaw" (134 : Nat) ({ cls := "BiteYears", name := "fault", desc := "()I" } : MethodName)) ∈ gW := gW_tb 432 (by decide +kernel) rfl
theorem w_433 : (Cond.instanceMethod ({ cls := "BiteYears", name := "fault", desc := "()I" } : MethodName)) ∈ gW := gW_tb 433 (by decide +kernel) rfl
theorem w_434 : (Cond.selects "BiteYears" ({ cls := "BiteYears", name := "fault", desc := "()I" } : MethodName) ({ cls := "BiteYears", name := "fault", desc := "()I" } : MethodName)) ∈ gW := gW_tb 434 (by decide +kernel) rfl
theorem w_435 : (Cond.code ({ cls := "BiteYears", name := "fault", desc := "()I" } : MethodName) prog_1_method_9_code (1 : Nat) (Option.some FieldType.int)) ∈ gW := gW_tb 435 (by decide +kernel) rfl
theorem w_436 : (Cond.methodLink "BiteYearsLaw" (149 : Nat) ({ cls := "BiteYears", name := "left", desc := "()I" } : MethodName)) ∈ gW := gW_tb 436 (by decide +kernel) rfl
theorem w_437 : (Cond.instanceMethod ({ cls := "BiteYears", name := "left", desc := "()I" } : MethodName)) ∈ gW := gW_tb 437 (by decide +kernel) rfl
theorem w_438 : (Cond.selects "BiteYears" ({ cls := "BiteYears", name := "left", desc := "()I" } : MethodName) ({ cls := "BiteYears", name := "left", desc := "()I" } : MethodName)) ∈ gW := gW_tb 438 (by decide +kernel) rfl
theorem w_439 : (Cond.code ({ cls := "BiteYears", name := "left", desc := "()I" } : MethodName) prog_1_method_15_code (1 : Nat) (Option.some FieldType.int)) ∈ gW := gW_tb 439 (by decide +kernel) rfl
theorem w_440 : (Cond.methodLink "BiteYears" (214 : Nat) ({ cls := "BiteYears$Dishes", name := "all", desc := "()I" } : MethodName)) ∈ gW := gW_tb 440 (by decide +kernel) rfl
theorem w_441 : (Cond.instanceMethod ({ cls := "BiteYears$Dishes", name := "all", desc := "()I" } : MethodName)) ∈ gW := gW_tb 441 (by decide +kernel) rfl
theorem w_442 : (Cond.selects "BiteYears$Dishes" ({ cls := "BiteYears$Dishes", name := "all", desc := "()I" } : MethodName) ({ cls := "BiteYears$Dishes", name := "all", desc := "()I" } : MethodName)) ∈ gW := gW_tb 442 (by decide +kernel) rfl
theorem w_443 : (Cond.code ({ cls := "BiteYears$Dishes", name := "all", desc := "()I" } : MethodName) prog_3_method_4_code (1 : Nat) (Option.some FieldType.int)) ∈ gW := gW_tb 443 (by decide +kernel) rfl
theorem w_444 : (Cond.methodLink "BiteYears" (217 : Nat) ({ cls := "BiteYears$Dishes", name := "allHad", desc := "()I" } : MethodName)) ∈ gW := gW_tb 444 (by decide +kernel) rfl
theorem w_445 : (Cond.instanceMethod ({ cls := "BiteYears$Dishes", name := "allHad", desc := "()I" } : MethodName)) ∈ gW := gW_tb 445 (by decide +kernel) rfl
theorem w_446 : (Cond.selects "BiteYears$Dishes" ({ cls := "BiteYears$Dishes", name := "allHad", desc := "()I" } : MethodName) ({ cls := "BiteYears$Dishes", name := "allHad", desc := "()I" } : MethodName)) ∈ gW := gW_tb 446 (by decide +kernel) rfl
theorem w_447 : (Cond.code ({ cls := "BiteYears$Dishes", name := "allHad", desc := "()I" } : MethodName) prog_3_method_5_code (1 : Nat) (Option.some FieldType.int)) ∈ gW := gW_tb 447 (by decide +kernel) rfl
theorem w_448 : (Cond.methodLink "BiteYears$Dishes" (32 : Nat) ({ cls := "BiteYears$Dishes", name := "firstIn", desc := "(II)I" } : MethodName)) ∈ gW := gW_tb 448 (by decide +kernel) rfl
theorem w_449 : (Cond.instanceMethod ({ cls := "BiteYears$Dishes", name := "firstIn", desc := "(II)I" } : MethodName)) ∈ gW := gW_tb 449 (by decide +kernel) rfl
theorem w_450 : (Cond.selects "BiteYears$Dishes" ({ cls := "BiteYears$Dishes", name := "firstIn", desc := "(II)I" } : MethodName) ({ cls := "BiteYears$Dishes", name := "firstIn", desc := "(II)I" } : MethodName)) ∈ gW := gW_tb 450 (by decide +kernel) rfl
theorem w_451 : (Cond.code ({ cls := "BiteYears$Dishes", name := "firstIn", desc := "(II)I" } : MethodName) prog_3_method_9_code (5 : Nat) (Option.some FieldType.int)) ∈ gW := gW_tb 451 (by decide +kernel) rfl
theorem w_452 : (Cond.methodLink "BiteYearsLaw" (156 : Nat) ({ cls := "BiteYears", name := "crust", desc := "()I" } : MethodName)) ∈ gW := gW_tb 452 (by decide +kernel) rfl
theorem w_453 : (Cond.instanceMethod ({ cls := "BiteYears", name := "crust", desc := "()I" } : MethodName)) ∈ gW := gW_tb 453 (by decide +kernel) rfl
theorem w_454 : (Cond.selects "BiteYears" ({ cls := "BiteYears", name := "crust", desc := "()I" } : MethodName) ({ cls := "BiteYears", name := "crust", desc := "()I" } : MethodName)) ∈ gW := gW_tb 454 (by decide +kernel) rfl
theorem w_455 : (Cond.code ({ cls := "BiteYears", name := "crust", desc := "()I" } : MethodName) prog_1_method_17_code (1 : Nat) (Option.some FieldType.int)) ∈ gW := gW_tb 455 (by decide +kernel) rfl
theorem w_456 : (Cond.methodLink "BiteYears" (228 : Nat) ({ cls := "BiteYears$Acts", name := "remember", desc := "(LBiteYears$Lady;LBiteYears$Log;)V" } : MethodName)) ∈ gW := gW_tb 456 (by decide +kernel) rfl
theorem w_457 : (Cond.instanceMethod ({ cls := "BiteYears$Acts", name := "remember", desc := "(LBiteYears$Lady;LBiteYears$Log;)V" } : MethodName)) ∈ gW := gW_tb 457 (by decide +kernel) rfl
theorem w_458 : (Cond.selects "BiteYears$Acts" ({ cls := "BiteYears$Acts", name := "remember", desc := "(LBiteYears$Lady;LBiteYears$Log;)V" } : MethodName) ({ cls := "BiteYears$Acts", name := "remember", desc := "(LBiteYears$Lady;LBiteYears$Log;)V" } : MethodName)) ∈ gW := gW_tb 458 (by decide +kernel) rfl
theorem w_459 : (Cond.code ({ cls := "BiteYears$Acts", name := "remember", desc := "(LBiteYears$Lady;LBiteYears$Log;)V" } : MethodName) prog_2_method_2_code (3 : Nat) (Option.none : Option FieldType)) ∈ gW := gW_tb 459 (by decide +kernel) rfl
theorem w_460 : (Cond.methodLink "BiteYears$Acts" (30 : Nat) ({ cls := "BiteYears$Lady", name := "copy", desc := "(LBiteYears$Lady;)V" } : MethodName)) ∈ gW := gW_tb 460 (by decide +kernel) rfl
theorem w_461 : (Cond.instanceMethod ({ cls := "BiteYears$Lady", name := "copy", desc := "(LBiteYears$Lady;)V" } : MethodName)) ∈ gW := gW_tb 461 (by decide +kernel) rfl
theorem w_462 : (Cond.selects "BiteYears$Lady" ({ cls := "BiteYears$Lady", name := "copy", desc := "(LBiteYears$Lady;)V" } : MethodName) ({ cls := "BiteYears$Lady", name := "copy", desc := "(LBiteYears$Lady;)V" } : MethodName)) ∈ gW := gW_tb 462 (by decide +kernel) rfl
theorem w_463 : (Cond.code ({ cls := "BiteYears$Lady", name := "copy", desc := "(LBiteYears$Lady;)V" } : MethodName) prog_5_method_8_code (2 : Nat) (Option.none : Option FieldType)) ∈ gW := gW_tb 463 (by decide +kernel) rfl
theorem w_464 : (Cond.methodLink "BiteYears$Lady" (111 : Nat) ({ cls := "BiteYears$Dishes", name := "copy", desc := "(LBiteYears$Dishes;)V" } : MethodName)) ∈ gW := gW_tb 464 (by decide +kernel) rfl
theorem w_465 : (Cond.instanceMethod ({ cls := "BiteYears$Dishes", name := "copy", desc := "(LBiteYears$Dishes;)V" } : MethodName)) ∈ gW := gW_tb 465 (by decide +kernel) rfl
theorem w_466 : (Cond.selects "BiteYears$Dishes" ({ cls := "BiteYears$Dishes", name := "copy", desc := "(LBiteYears$Dishes;)V" } : MethodName) ({ cls := "BiteYears$Dishes", name := "copy", desc := "(LBiteYears$Dishes;)V" } : MethodName)) ∈ gW := gW_tb 466 (by decide +kernel) rfl
theorem w_467 : (Cond.code ({ cls := "BiteYears$Dishes", name := "copy", desc := "(LBiteYears$Dishes;)V" } : MethodName) prog_3_method_18_code (2 : Nat) (Option.none : Option FieldType)) ∈ gW := gW_tb 467 (by decide +kernel) rfl
theorem w_468 : (Cond.methodLink "BiteYears$Dishes" (53 : Nat) ({ cls := "java/lang/System", name := "arraycopy", desc := "(Ljava/lang/Object;ILjava/lang/Object;II)V" } : MethodName)) ∈ gW := gW_tb 468 (by decide +kernel) rfl
theorem w_469 : (Cond.static ({ cls := "java/lang/System", name := "arraycopy", desc := "(Ljava/lang/Object;ILjava/lang/Object;II)V" } : MethodName)) ∈ gW := gW_tb 469 (by decide +kernel) rfl
theorem w_470 : (Cond.native ({ cls := "java/lang/System", name := "arraycopy", desc := "(Ljava/lang/Object;ILjava/lang/Object;II)V" } : MethodName)) ∈ gW := gW_tb 470 (by decide +kernel) rfl
theorem w_471 : (Cond.methodLink "BiteYears$Acts" (34 : Nat) ({ cls := "BiteYears$Log", name := "copy", desc := "(LBiteYears$Log;)V" } : MethodName)) ∈ gW := gW_tb 471 (by decide +kernel) rfl
theorem w_472 : (Cond.instanceMethod ({ cls := "BiteYears$Log", name := "copy", desc := "(LBiteYears$Log;)V" } : MethodName)) ∈ gW := gW_tb 472 (by decide +kernel) rfl
theorem w_473 : (Cond.selects "BiteYears$Log" ({ cls := "BiteYears$Log", name := "copy", desc := "(LBiteYears$Log;)V" } : MethodName) ({ cls := "BiteYears$Log", name := "copy", desc := "(LBiteYears$Log;)V" } : MethodName)) ∈ gW := gW_tb 473 (by decide +kernel) rfl
theorem w_474 : (Cond.code ({ cls := "BiteYears$Log", name := "copy", desc := "(LBiteYears$Log;)V" } : MethodName) prog_9_method_6_code (2 : Nat) (Option.none : Option FieldType)) ∈ gW := gW_tb 474 (by decide +kernel) rfl
theorem w_475 : (Cond.methodLink "BiteYears$Log" (31 : Nat) ({ cls := "java/lang/System", name := "arraycopy", desc := "(Ljava/lang/Object;ILjava/lang/Object;II)V" } : MethodName)) ∈ gW := gW_tb 475 (by decide +kernel) rfl
theorem w_476 : (Cond.methodLink "BiteYears$Acts" (37 : Nat) ({ cls := "java/lang/Math", name := "min", desc := "(II)I" } : MethodName)) ∈ gW := gW_tb 476 (by decide +kernel) rfl
theorem w_477 : (Cond.static ({ cls := "java/lang/Math", name := "min", desc := "(II)I" } : MethodName)) ∈ gW := gW_tb 477 (by decide +kernel) rfl
theorem w_478 : (Cond.code ({ cls := "java/lang/Math", name := "min", desc := "(II)I" } : MethodName) prog_23_method_69_code (2 : Nat) (Option.some FieldType.int)) ∈ gW := gW_tb 478 (by decide +kernel) rfl
theorem w_479 : (Cond.methodLink "BiteYears" (249 : Nat) ({ cls := "BiteYears$Lady", name := "comeBack", desc := "()V" } : MethodName)) ∈ gW := gW_tb 479 (by decide +kernel) rfl
theorem w_480 : (Cond.instanceMethod ({ cls := "BiteYears$Lady", name := "comeBack", desc := "()V" } : MethodName)) ∈ gW := gW_tb 480 (by decide +kernel) rfl
theorem w_481 : (Cond.selects "BiteYears$Lady" ({ cls := "BiteYears$Lady", name := "comeBack", desc := "()V" } : MethodName) ({ cls := "BiteYears$Lady", name := "comeBack", desc := "()V" } : MethodName)) ∈ gW := gW_tb 481 (by decide +kernel) rfl
theorem w_482 : (Cond.code ({ cls := "BiteYears$Lady", name := "comeBack", desc := "()V" } : MethodName) prog_5_method_4_code (1 : Nat) (Option.none : Option FieldType)) ∈ gW := gW_tb 482 (by decide +kernel) rfl
theorem w_483 : (Cond.methodLink "BiteYears$Lady" (80 : Nat) ({ cls := "java/lang/Math", name := "min", desc := "(II)I" } : MethodName)) ∈ gW := gW_tb 483 (by decide +kernel) rfl
theorem w_484 : (Cond.methodLink "BiteYearsLaw" (173 : Nat) ({ cls := "BiteYears", name := "look", desc := "()I" } : MethodName)) ∈ gW := gW_tb 484 (by decide +kernel) rfl
theorem w_485 : (Cond.instanceMethod ({ cls := "BiteYears", name := "look", desc := "()I" } : MethodName)) ∈ gW := gW_tb 485 (by decide +kernel) rfl
theorem w_486 : (Cond.selects "BiteYears" ({ cls := "BiteYears", name := "look", desc := "()I" } : MethodName) ({ cls := "BiteYears", name := "look", desc := "()I" } : MethodName)) ∈ gW := gW_tb 486 (by decide +kernel) rfl
theorem w_487 : (Cond.code ({ cls := "BiteYears", name := "look", desc := "()I" } : MethodName) prog_1_method_23_code (2 : Nat) (Option.some FieldType.int)) ∈ gW := gW_tb 487 (by decide +kernel) rfl
theorem w_488 : (Cond.methodLink "BiteYears" (277 : Nat) ({ cls := "BiteYears$Lady", name := "draw", desc := "()I" } : MethodName)) ∈ gW := gW_tb 488 (by decide +kernel) rfl
theorem w_489 : (Cond.instanceMethod ({ cls := "BiteYears$Lady", name := "draw", desc := "()I" } : MethodName)) ∈ gW := gW_tb 489 (by decide +kernel) rfl
theorem w_490 : (Cond.selects "BiteYears$Lady" ({ cls := "BiteYears$Lady", name := "draw", desc := "()I" } : MethodName) ({ cls := "BiteYears$Lady", name := "draw", desc := "()I" } : MethodName)) ∈ gW := gW_tb 490 (by decide +kernel) rfl
theorem w_491 : (Cond.code ({ cls := "BiteYears$Lady", name := "draw", desc := "()I" } : MethodName) prog_5_method_5_code (1 : Nat) (Option.some FieldType.int)) ∈ gW := gW_tb 491 (by decide +kernel) rfl
theorem w_492 : (Cond.constant "BiteYears$Lady" (103 : Nat) (1103515245 : Int32)) ∈ gW := gW_tb 492 (by decide +kernel) rfl
theorem w_493 : (Cond.methodLink "BiteYearsLaw" (204 : Nat) ({ cls := "BiteYears", name := "dated", desc := "(I)I" } : MethodName)) ∈ gW := gW_tb 493 (by decide +kernel) rfl
theorem w_494 : (Cond.instanceMethod ({ cls := "BiteYears", name := "dated", desc := "(I)I" } : MethodName)) ∈ gW := gW_tb 494 (by decide +kernel) rfl
theorem w_495 : (Cond.selects "BiteYears" ({ cls := "BiteYears", name := "dated", desc := "(I)I" } : MethodName) ({ cls := "BiteYears", name := "dated", desc := "(I)I" } : MethodName)) ∈ gW := gW_tb 495 (by decide +kernel) rfl
theorem w_496 : (Cond.code ({ cls := "BiteYears", name := "dated", desc := "(I)I" } : MethodName) prog_1_method_37_code (5 : Nat) (Option.some FieldType.int)) ∈ gW := gW_tb 496 (by decide +kernel) rfl
theorem w_497 : (Cond.methodLink "BiteYears" (265 : Nat) ({ cls := "BiteYears$Dishes", name := "isHad", desc := "(I)Z" } : MethodName)) ∈ gW := gW_tb 497 (by decide +kernel) rfl
theorem w_498 : (Cond.instanceMethod ({ cls := "BiteYears$Dishes", name := "isHad", desc := "(I)Z" } : MethodName)) ∈ gW := gW_tb 498 (by decide +kernel) rfl
theorem w_499 : (Cond.selects "BiteYears$Dishes" ({ cls := "BiteYears$Dishes", name := "isHad", desc := "(I)Z" } : MethodName) ({ cls := "BiteYears$Dishes", name := "isHad", desc := "(I)Z" } : MethodName)) ∈ gW := gW_tb 499 (by decide +kernel) rfl
theorem w_500 : (Cond.code ({ cls := "BiteYears$Dishes", name := "isHad", desc := "(I)Z" } : MethodName) prog_3_method_3_code (2 : Nat) (Option.some FieldType.boolean)) ∈ gW := gW_tb 500 (by decide +kernel) rfl
theorem w_501 : (Cond.methodLink "BiteYears$Dishes" (28 : Nat) ({ cls := "BiteYears$Dishes", name := "has", desc := "(I)Z" } : MethodName)) ∈ gW := gW_tb 501 (by decide +kernel) rfl
theorem w_502 : (Cond.instanceMethod ({ cls := "BiteYears$Dishes", name := "has", desc := "(I)Z" } : MethodName)) ∈ gW := gW_tb 502 (by decide +kernel) rfl
theorem w_503 : (Cond.selects "BiteYears$Dishes" ({ cls := "BiteYears$Dishes", name := "has", desc := "(I)Z" } : MethodName) ({ cls := "BiteYears$Dishes", name := "has", desc := "(I)Z" } : MethodName)) ∈ gW := gW_tb 503 (by decide +kernel) rfl
theorem w_504 : (Cond.code ({ cls := "BiteYears$Dishes", name := "has", desc := "(I)Z" } : MethodName) prog_3_method_2_code (2 : Nat) (Option.some FieldType.boolean)) ∈ gW := gW_tb 504 (by decide +kernel) rfl
theorem w_505 : (Cond.methodLink "BiteYears" (350 : Nat) ({ cls := "java/lang/Math", name := "max", desc := "(II)I" } : MethodName)) ∈ gW := gW_tb 505 (by decide +kernel) rfl
theorem w_506 : (Cond.static ({ cls := "java/lang/Math", name := "max", desc := "(II)I" } : MethodName)) ∈ gW := gW_tb 506 (by decide +kernel) rfl
theorem w_507 : (Cond.code ({ cls := "java/lang/Math", name := "max", desc := "(II)I" } : MethodName) prog_23_method_65_code (2 : Nat) (Option.some FieldType.int)) ∈ gW := gW_tb 507 (by decide +kernel) rfl
theorem w_508 : (Cond.methodLink "BiteYearsLaw" (208 : Nat) ({ cls := "BiteYears", name := "gap", desc := "()I" } : MethodName)) ∈ gW := gW_tb 508 (by decide +kernel) rfl
theorem w_509 : (Cond.instanceMethod ({ cls := "BiteYears", name := "gap", desc := "()I" } : MethodName)) ∈ gW := gW_tb 509 (by decide +kernel) rfl
theorem w_510 : (Cond.selects "BiteYears" ({ cls := "BiteYears", name := "gap", desc := "()I" } : MethodName) ({ cls := "BiteYears", name := "gap", desc := "()I" } : MethodName)) ∈ gW := gW_tb 510 (by decide +kernel) rfl
theorem w_511 : (Cond.code ({ cls := "BiteYears", name := "gap", desc := "()I" } : MethodName) prog_1_method_38_code (4 : Nat) (Option.some FieldType.int)) ∈ gW := gW_tb 511 (by decide +kernel) rfl
theorem w_512 : (Cond.methodLink "BiteYears" (365 : Nat) ({ cls := "BiteYears$Dishes", name := "earliestBehind", desc := "(I)I" } : MethodName)) ∈ gW := gW_tb 512 (by decide +kernel) rfl
theorem w_513 : (Cond.instanceMethod ({ cls := "BiteYears$Dishes", name := "earliestBehind", desc := "(I)I" } : MethodName)) ∈ gW := gW_tb 513 (by decide +kernel) rfl
theorem w_514 : (Cond.selects "BiteYears$Dishes" ({ cls := "BiteYears$Dishes", name := "earliestBehind", desc := "(I)I" } : MethodName) ({ cls := "BiteYears$Dishes", name := "earliestBehind", desc := "(I)I" } : MethodName)) ∈ gW := gW_tb 514 (by decide +kernel) rfl
theorem w_515 : (Cond.code ({ cls := "BiteYears$Dishes", name := "earliestBehind", desc := "(I)I" } : MethodName) prog_3_method_8_code (4 : Nat) (Option.some FieldType.int)) ∈ gW := gW_tb 515 (by decide +kernel) rfl
theorem w_516 : (Cond.methodLink "BiteYearsLaw" (212 : Nat) ({ cls := "BiteYears", name := "lover", desc := "()I" } : MethodName)) ∈ gW := gW_tb 516 (by decide +kernel) rfl
theorem w_517 : (Cond.instanceMethod ({ cls := "BiteYears", name := "lover", desc := "()I" } : MethodName)) ∈ gW := gW_tb 517 (by decide +kernel) rfl
theorem w_518 : (Cond.selects "BiteYears" ({ cls := "BiteYears", name := "lover", desc := "()I" } : MethodName) ({ cls := "BiteYears", name := "lover", desc := "()I" } : MethodName)) ∈ gW := gW_tb 518 (by decide +kernel) rfl
theorem w_519 : (Cond.code ({ cls := "BiteYears", name := "lover", desc := "()I" } : MethodName) prog_1_method_39_code (5 : Nat) (Option.some FieldType.int)) ∈ gW := gW_tb 519 (by decide +kernel) rfl
theorem w_520 : (Cond.methodLink "BiteYears" (368 : Nat) ({ cls := "BiteYears$Dishes", name := "hadWith", desc := "(I)I" } : MethodName)) ∈ gW := gW_tb 520 (by decide +kernel) rfl
theorem w_521 : (Cond.instanceMethod ({ cls := "BiteYears$Dishes", name := "hadWith", desc := "(I)I" } : MethodName)) ∈ gW := gW_tb 521 (by decide +kernel) rfl
theorem w_522 : (Cond.selects "BiteYears$Dishes" ({ cls := "BiteYears$Dishes", name := "hadWith", desc := "(I)I" } : MethodName) ({ cls := "BiteYears$Dishes", name := "hadWith", desc := "(I)I" } : MethodName)) ∈ gW := gW_tb 522 (by decide +kernel) rfl
theorem w_523 : (Cond.code ({ cls := "BiteYears$Dishes", name := "hadWith", desc := "(I)I" } : MethodName) prog_3_method_14_code (4 : Nat) (Option.some FieldType.int)) ∈ gW := gW_tb 523 (by decide +kernel) rfl
theorem w_524 : (Cond.methodLink "BiteYears" (311 : Nat) ({ cls := "java/lang/Integer", name := "bitCount", desc := "(I)I" } : MethodName)) ∈ gW := gW_tb 524 (by decide +kernel) rfl
theorem w_525 : (Cond.static ({ cls := "java/lang/Integer", name := "bitCount", desc := "(I)I" } : MethodName)) ∈ gW := gW_tb 525 (by decide +kernel) rfl
theorem w_526 : (Cond.code ({ cls := "java/lang/Integer", name := "bitCount", desc := "(I)I" } : MethodName) prog_22_method_49_code (1 : Nat) (Option.some FieldType.int)) ∈ gW := gW_tb 526 (by decide +kernel) rfl
theorem w_527 : (Cond.constant "java/lang/Integer" (265 : Nat) (1431655765 : Int32)) ∈ gW := gW_tb 527 (by decide +kernel) rfl
theorem w_528 : (Cond.constant "java/lang/Integer" (266 : Nat) (858993459 : Int32)) ∈ gW := gW_tb 528 (by decide +kernel) rfl
theorem w_529 : (Cond.constant "java/lang/Integer" (267 : Nat) (252645135 : Int32)) ∈ gW := gW_tb 529 (by decide +kernel) rfl
theorem w_530 : (Cond.methodLink "BiteYearsLaw" (216 : Nat) ({ cls := "BiteYears", name := "oldest", desc := "()I" } : MethodName)) ∈ gW := gW_tb 530 (by decide +kernel) rfl
theorem w_531 : (Cond.instanceMethod ({ cls := "BiteYears", name := "oldest", desc := "()I" } : MethodName)) ∈ gW := gW_tb 531 (by decide +kernel) rfl
theorem w_532 : (Cond.selects "BiteYears" ({ cls := "BiteYears", name := "oldest", desc := "()I" } : MethodName) ({ cls := "BiteYears", name := "oldest", desc := "()I" } : MethodName)) ∈ gW := gW_tb 532 (by decide +kernel) rfl
theorem w_533 : (Cond.code ({ cls := "BiteYears", name := "oldest", desc := "()I" } : MethodName) prog_1_method_40_code (1 : Nat) (Option.some FieldType.int)) ∈ gW := gW_tb 533 (by decide +kernel) rfl
theorem w_534 : (Cond.methodLink "BiteYearsLaw" (220 : Nat) ({ cls := "BiteYears", name := "sad", desc := "()I" } : MethodName)) ∈ gW := gW_tb 534 (by decide +kernel) rfl
theorem w_535 : (Cond.instanceMethod ({ cls := "BiteYears", name := "sad", desc := "()I" } : MethodName)) ∈ gW := gW_tb 535 (by decide +kernel) rfl
theorem w_536 : (Cond.selects "BiteYears" ({ cls := "BiteYears", name := "sad", desc := "()I" } : MethodName) ({ cls := "BiteYears", name := "sad", desc := "()I" } : MethodName)) ∈ gW := gW_tb 536 (by decide +kernel) rfl
theorem w_537 : (Cond.code ({ cls := "BiteYears", name := "sad", desc := "()I" } : MethodName) prog_1_method_41_code (5 : Nat) (Option.some FieldType.int)) ∈ gW := gW_tb 537 (by decide +kernel) rfl
theorem w_538 : (Cond.methodLink "BiteYears" (187 : Nat) ({ cls := "BiteYears", name := "turnsNow", desc := "(I)I" } : MethodName)) ∈ gW := gW_tb 538 (by decide +kernel) rfl
theorem w_540 : (Cond.instanceMethod ({ cls := "BiteYears", name := "turnsNow", desc := "(I)I" } : MethodName)) ∈ gW := gW_tb 540 (by decide +kernel) rfl
theorem w_541 : (Cond.code ({ cls := "BiteYears", name := "turnsNow", desc := "(I)I" } : MethodName) prog_1_method_11_code (2 : Nat) (Option.some FieldType.int)) ∈ gW := gW_tb 541 (by decide +kernel) rfl
theorem w_542 : (Cond.methodLink "BiteYears" (194 : Nat) ({ cls := "BiteYears$Served", name := "put", desc := "(LBiteYears$Lady;I)V" } : MethodName)) ∈ gW := gW_tb 542 (by decide +kernel) rfl
theorem w_543 : (Cond.instanceMethod ({ cls := "BiteYears$Served", name := "put", desc := "(LBiteYears$Lady;I)V" } : MethodName)) ∈ gW := gW_tb 543 (by decide +kernel) rfl
theorem w_544 : (Cond.selects "BiteYears$Served" ({ cls := "BiteYears$Served", name := "put", desc := "(LBiteYears$Lady;I)V" } : MethodName) ({ cls := "BiteYears$Served", name := "put", desc := "(LBiteYears$Lady;I)V" } : MethodName)) ∈ gW := gW_tb 544 (by decide +kernel) rfl
theorem w_545 : (Cond.code ({ cls := "BiteYears$Served", name := "put", desc := "(LBiteYears$Lady;I)V" } : MethodName) prog_11_method_2_code (3 : Nat) (Option.none : Option FieldType)) ∈ gW := gW_tb 545 (by decide +kernel) rfl
theorem w_546 : (Cond.methodLink "BiteYears$Served" (37 : Nat) ({ cls := "BiteYears$Dishes", name := "calledUp", desc := "(II)I" } : MethodName)) ∈ gW := gW_tb 546 (by decide +kernel) rfl
theorem w_547 : (Cond.instanceMethod ({ cls := "BiteYears$Dishes", name := "calledUp", desc := "(II)I" } : MethodName)) ∈ gW := gW_tb 547 (by decide +kernel) rfl
theorem w_548 : (Cond.selects "BiteYears$Dishes" ({ cls := "BiteYears$Dishes", name := "calledUp", desc := "(II)I" } : MethodName) ({ cls := "BiteYears$Dishes", name := "calledUp", desc := "(II)I" } : MethodName)) ∈ gW := gW_tb 548 (by decide +kernel) rfl
theorem w_549 : (Cond.code ({ cls := "BiteYears$Dishes", name := "calledUp", desc := "(II)I" } : MethodName) prog_3_method_7_code (7 : Nat) (Option.some FieldType.int)) ∈ gW := gW_tb 549 (by decide +kernel) rfl
theorem w_550 : (Cond.methodLink "BiteYears$Dishes" (36 : Nat) ({ cls := "BiteYears$Dishes", name := "isHad", desc := "(I)Z" } : MethodName)) ∈ gW := gW_tb 550 (by decide +kernel) rfl
theorem w_551 : (Cond.methodLink "BiteYears$Dishes" (39 : Nat) ({ cls := "BiteYears$Dishes", name := "distance", desc := "(II)I" } : MethodName)) ∈ gW := gW_tb 551 (by decide +kernel) rfl
theorem w_552 : (Cond.instanceMethod ({ cls := "BiteYears$Dishes", name := "distance", desc := "(II)I" } : MethodName)) ∈ gW := gW_tb 552 (by decide +kernel) rfl
theorem w_553 : (Cond.selects "BiteYears$Dishes" ({ cls := "BiteYears$Dishes", name := "distance", desc := "(II)I" } : MethodName) ({ cls := "BiteYears$Dishes", name := "distance", desc := "(II)I" } : MethodName)) ∈ gW := gW_tb 553 (by decide +kernel) rfl
theorem w_554 : (Cond.code ({ cls := "BiteYears$Dishes", name := "distance", desc := "(II)I" } : MethodName) prog_3_method_6_code (6 : Nat) (Option.some FieldType.int)) ∈ gW := gW_tb 554 (by decide +kernel) rfl
theorem w_555 : (Cond.methodLink "BiteYears$Served" (49 : Nat) ({ cls := "BiteYears$Dishes", name := "isHad", desc := "(I)Z" } : MethodName)) ∈ gW := gW_tb 555 (by decide +kernel) rfl
theorem w_556 : (Cond.methodLink "BiteYears$Served" (59 : Nat) ({ cls := "BiteYears$Dishes", name := "has", desc := "(I)Z" } : MethodName)) ∈ gW := gW_tb 556 (by decide +kernel) rfl
theorem w_557 : (Cond.methodLink "BiteYears$Served" (62 : Nat) ({ cls := "BiteYears$Served", name := "putCalled", desc := "(LBiteYears$Lady;)V" } : MethodName)) ∈ gW := gW_tb 557 (by decide +kernel) rfl
theorem w_559 : (Cond.instanceMethod ({ cls := "BiteYears$Served", name := "putCalled", desc := "(LBiteYears$Lady;)V" } : MethodName)) ∈ gW := gW_tb 559 (by decide +kernel) rfl
theorem w_560 : (Cond.code ({ cls := "BiteYears$Served", name := "putCalled", desc := "(LBiteYears$Lady;)V" } : MethodName) prog_11_method_3_code (4 : Nat) (Option.none : Option FieldType)) ∈ gW := gW_tb 560 (by decide +kernel) rfl
theorem w_561 : (Cond.methodLink "BiteYears" (198 : Nat) ({ cls := "BiteYears$Law", name := "weigh", desc := "(LBiteYears$Served;)V" } : MethodName)) ∈ gW := gW_tb 561 (by decide +kernel) rfl
theorem w_562 : (Cond.instanceMethod ({ cls := "BiteYears$Law", name := "weigh", desc := "(LBiteYears$Served;)V" } : MethodName)) ∈ gW := gW_tb 562 (by decide +kernel) rfl
theorem w_563 : (Cond.selects "BiteYears$Law" ({ cls := "BiteYears$Law", name := "weigh", desc := "(LBiteYears$Served;)V" } : MethodName) ({ cls := "BiteYears$Law", name := "weigh", desc := "(LBiteYears$Served;)V" } : MethodName)) ∈ gW := gW_tb 563 (by decide +kernel) rfl
theorem w_564 : (Cond.code ({ cls := "BiteYears$Law", name := "weigh", desc := "(LBiteYears$Served;)V" } : MethodName) prog_6_method_5_code (3 : Nat) (Option.none : Option FieldType)) ∈ gW := gW_tb 564 (by decide +kernel) rfl
theorem w_565 : (Cond.methodLink "BiteYears$Law" (34 : Nat) ({ cls := "BiteYears$Law", name := "holds", desc := "(ILBiteYears$Served;)Z" } : MethodName)) ∈ gW := gW_tb 565 (by decide +kernel) rfl
theorem w_567 : (Cond.instanceMethod ({ cls := "BiteYears$Law", name := "holds", desc := "(ILBiteYears$Served;)Z" } : MethodName)) ∈ gW := gW_tb 567 (by decide +kernel) rfl
theorem w_568 : (Cond.code ({ cls := "BiteYears$Law", name := "holds", desc := "(ILBiteYears$Served;)Z" } : MethodName) prog_6_method_6_code (5 : Nat) (Option.some FieldType.boolean)) ∈ gW := gW_tb 568 (by decide +kernel) rfl
theorem w_569 : (Cond.methodLink "BiteYears$Law" (46 : Nat) ({ cls := "BiteYears$Law", name := "step", desc := "(IILBiteYears$Served;)I" } : MethodName)) ∈ gW := gW_tb 569 (by decide +kernel) rfl
theorem w_571 : (Cond.instanceMethod ({ cls := "BiteYears$Law", name := "step", desc := "(IILBiteYears$Served;)I" } : MethodName)) ∈ gW := gW_tb 571 (by decide +kernel) rfl
theorem w_572 : (Cond.code ({ cls := "BiteYears$Law", name := "step", desc := "(IILBiteYears$Served;)I" } : MethodName) prog_6_method_7_code (4 : Nat) (Option.some FieldType.int)) ∈ gW := gW_tb 572 (by decide +kernel) rfl
theorem w_573 : (Cond.methodLink "BiteYears$Law" (50 : Nat) ({ cls := "BiteYears$Law", name := "push", desc := "(IILBiteYears$Served;)I" } : MethodName)) ∈ gW := gW_tb 573 (by decide +kernel) rfl
theorem w_575 : (Cond.instanceMethod ({ cls := "BiteYears$Law", name := "push", desc := "(IILBiteYears$Served;)I" } : MethodName)) ∈ gW := gW_tb 575 (by decide +kernel) rfl
theorem w_576 : (Cond.code ({ cls := "BiteYears$Law", name := "push", desc := "(IILBiteYears$Served;)I" } : MethodName) prog_6_method_8_code (4 : Nat) (Option.some FieldType.int)) ∈ gW := gW_tb 576 (by decide +kernel) rfl
theorem w_577 : (Cond.methodLink "BiteYears$Law" (53 : Nat) ({ cls := "BiteYears$Law", name := "join", desc := "(III)I" } : MethodName)) ∈ gW := gW_tb 577 (by decide +kernel) rfl
theorem w_578 : (Cond.static ({ cls := "BiteYears$Law", name := "join", desc := "(III)I" } : MethodName)) ∈ gW := gW_tb 578 (by decide +kernel) rfl
theorem w_579 : (Cond.code ({ cls := "BiteYears$Law", name := "join", desc := "(III)I" } : MethodName) prog_6_method_9_code (3 : Nat) (Option.some FieldType.int)) ∈ gW := gW_tb 579 (by decide +kernel) rfl
theorem w_580 : (Cond.methodLink "BiteYearsLaw" (230 : Nat) ({ cls := "BiteYears", name := "twins", desc := "()I" } : MethodName)) ∈ gW := gW_tb 580 (by decide +kernel) rfl
theorem w_581 : (Cond.instanceMethod ({ cls := "BiteYears", name := "twins", desc := "()I" } : MethodName)) ∈ gW := gW_tb 581 (by decide +kernel) rfl
theorem w_582 : (Cond.selects "BiteYears" ({ cls := "BiteYears", name := "twins", desc := "()I" } : MethodName) ({ cls := "BiteYears", name := "twins", desc := "()I" } : MethodName)) ∈ gW := gW_tb 582 (by decide +kernel) rfl
theorem w_583 : (Cond.code ({ cls := "BiteYears", name := "twins", desc := "()I" } : MethodName) prog_1_method_44_code (4 : Nat) (Option.some FieldType.int)) ∈ gW := gW_tb 583 (by decide +kernel) rfl
theorem w_584 : (Cond.methodLink "BiteYears" (208 : Nat) ({ cls := "BiteYears$Dishes", name := "distance", desc := "(II)I" } : MethodName)) ∈ gW := gW_tb 584 (by decide +kernel) rfl
theorem w_585 : (Cond.methodLink "BiteYearsLaw" (234 : Nat) ({ cls := "BiteYears", name := "next", desc := "()I" } : MethodName)) ∈ gW := gW_tb 585 (by decide +kernel) rfl
theorem w_586 : (Cond.instanceMethod ({ cls := "BiteYears", name := "next", desc := "()I" } : MethodName)) ∈ gW := gW_tb 586 (by decide +kernel) rfl
theorem w_587 : (Cond.selects "BiteYears" ({ cls := "BiteYears", name := "next", desc := "()I" } : MethodName) ({ cls := "BiteYears", name := "next", desc := "()I" } : MethodName)) ∈ gW := gW_tb 587 (by decide +kernel) rfl
theorem w_588 : (Cond.code ({ cls := "BiteYears", name := "next", desc := "()I" } : MethodName) prog_1_method_45_code (1 : Nat) (Option.some FieldType.int)) ∈ gW := gW_tb 588 (by decide +kernel) rfl
theorem w_589 : (Cond.methodLink "BiteYearsLaw" (238 : Nat) ({ cls := "BiteYears", name := "warlike", desc := "()I" } : MethodName)) ∈ gW := gW_tb 589 (by decide +kernel) rfl
theorem w_590 : (Cond.instanceMethod ({ cls := "BiteYears", name := "warlike", desc := "()I" } : MethodName)) ∈ gW := gW_tb 590 (by decide +kernel) rfl
theorem w_591 : (Cond.selects "BiteYears" ({ cls := "BiteYears", name := "warlike", desc := "()I" } : MethodName) ({ cls := "BiteYears", name := "warlike", desc := "()I" } : MethodName)) ∈ gW := gW_tb 591 (by decide +kernel) rfl
theorem w_592 : (Cond.code ({ cls := "BiteYears", name := "warlike", desc := "()I" } : MethodName) prog_1_method_46_code (1 : Nat) (Option.some FieldType.int)) ∈ gW := gW_tb 592 (by decide +kernel) rfl
theorem w_593 : (Cond.methodLink "BiteYears" (347 : Nat) ({ cls := "BiteYears$Dishes", name := "firstIn", desc := "(II)I" } : MethodName)) ∈ gW := gW_tb 593 (by decide +kernel) rfl
theorem w_594 : (Cond.methodLink "BiteYearsLaw" (264 : Nat) ({ cls := "BiteYears", name := "seed", desc := "(I)I" } : MethodName)) ∈ gW := gW_tb 594 (by decide +kernel) rfl
theorem w_595 : (Cond.instanceMethod ({ cls := "BiteYears", name := "seed", desc := "(I)I" } : MethodName)) ∈ gW := gW_tb 595 (by decide +kernel) rfl
theorem w_596 : (Cond.selects "BiteYears" ({ cls := "BiteYears", name := "seed", desc := "(I)I" } : MethodName) ({ cls := "BiteYears", name := "seed", desc := "(I)I" } : MethodName)) ∈ gW := gW_tb 596 (by decide +kernel) rfl
theorem w_597 : (Cond.code ({ cls := "BiteYears", name := "seed", desc := "(I)I" } : MethodName) prog_1_method_56_code (3 : Nat) (Option.some FieldType.int)) ∈ gW := gW_tb 597 (by decide +kernel) rfl
theorem w_598 : (Cond.methodLink "BiteYearsLaw" (268 : Nat) ({ cls := "BiteYears", name := "undo", desc := "()Z" } : MethodName)) ∈ gW := gW_tb 598 (by decide +kernel) rfl
theorem w_599 : (Cond.instanceMethod ({ cls := "BiteYears", name := "undo", desc := "()Z" } : MethodName)) ∈ gW := gW_tb 599 (by decide +kernel) rfl
theorem w_600 : (Cond.selects "BiteYears" ({ cls := "BiteYears", name := "undo", desc := "()Z" } : MethodName) ({ cls := "BiteYears", name := "undo", desc := "()Z" } : MethodName)) ∈ gW := gW_tb 600 (by decide +kernel) rfl
theorem w_601 : (Cond.code ({ cls := "BiteYears", name := "undo", desc := "()Z" } : MethodName) prog_1_method_57_code (1 : Nat) (Option.some FieldType.boolean)) ∈ gW := gW_tb 601 (by decide +kernel) rfl
theorem w_602 : (Cond.methodLink "BiteYears" (413 : Nat) ({ cls := "BiteYears$Acts", name := "recall", desc := "(LBiteYears$Lady;LBiteYears$Log;)Z" } : MethodName)) ∈ gW := gW_tb 602 (by decide +kernel) rfl
theorem w_603 : (Cond.instanceMethod ({ cls := "BiteYears$Acts", name := "recall", desc := "(LBiteYears$Lady;LBiteYears$Log;)Z" } : MethodName)) ∈ gW := gW_tb 603 (by decide +kernel) rfl
theorem w_604 : (Cond.selects "BiteYears$Acts" ({ cls := "BiteYears$Acts", name := "recall", desc := "(LBiteYears$Lady;LBiteYears$Log;)Z" } : MethodName) ({ cls := "BiteYears$Acts", name := "recall", desc := "(LBiteYears$Lady;LBiteYears$Log;)Z" } : MethodName)) ∈ gW := gW_tb 604 (by decide +kernel) rfl
theorem w_605 : (Cond.code ({ cls := "BiteYears$Acts", name := "recall", desc := "(LBiteYears$Lady;LBiteYears$Log;)Z" } : MethodName) prog_2_method_3_code (3 : Nat) (Option.some FieldType.boolean)) ∈ gW := gW_tb 605 (by decide +kernel) rfl
theorem w_606 : (Cond.methodLink "BiteYearsLaw" (273 : Nat) ({ cls := "BiteYears", name := "image", desc := "()V" } : MethodName)) ∈ gW := gW_tb 606 (by decide +kernel) rfl
theorem w_607 : (Cond.instanceMethod ({ cls := "BiteYears", name := "image", desc := "()V" } : MethodName)) ∈ gW := gW_tb 607 (by decide +kernel) rfl
theorem w_608 : (Cond.selects "BiteYears" ({ cls := "BiteYears", name := "image", desc := "()V" } : MethodName) ({ cls := "BiteYears", name := "image", desc := "()V" } : MethodName)) ∈ gW := gW_tb 608 (by decide +kernel) rfl
theorem w_609 : (Cond.code ({ cls := "BiteYears", name := "image", desc := "()V" } : MethodName) prog_1_method_58_code (1 : Nat) (Option.none : Option FieldType)) ∈ gW := gW_tb 609 (by decide +kernel) rfl
theorem w_610 : (Cond.methodLink "BiteYears" (106 : Nat) ({ cls := "BiteYears$Lady", name := "copy", desc := "(LBiteYears$Lady;)V" } : MethodName)) ∈ gW := gW_tb 610 (by decide +kernel) rfl
theorem w_611 : (Cond.methodLink "BiteYears" (142 : Nat) ({ cls := "BiteYears$Law", name := "copy", desc := "(LBiteYears$Law;)V" } : MethodName)) ∈ gW := gW_tb 611 (by decide +kernel) rfl
theorem w_612 : (Cond.instanceMethod ({ cls := "BiteYears$Law", name := "copy", desc := "(LBiteYears$Law;)V" } : MethodName)) ∈ gW := gW_tb 612 (by decide +kernel) rfl
theorem w_613 : (Cond.selects "BiteYears$Law" ({ cls := "BiteYears$Law", name := "copy", desc := "(LBiteYears$Law;)V" } : MethodName) ({ cls := "BiteYears$Law", name := "copy", desc := "(LBiteYears$Law;)V" } : MethodName)) ∈ gW := gW_tb 613 (by decide +kernel) rfl
theorem w_614 : (Cond.code ({ cls := "BiteYears$Law", name := "copy", desc := "(LBiteYears$Law;)V" } : MethodName) prog_6_method_10_code (2 : Nat) (Option.none : Option FieldType)) ∈ gW := gW_tb 614 (by decide +kernel) rfl
theorem w_615 : (Cond.methodLink "BiteYears$Law" (60 : Nat) ({ cls := "java/lang/System", name := "arraycopy", desc := "(Ljava/lang/Object;ILjava/lang/Object;II)V" } : MethodName)) ∈ gW := gW_tb 615 (by decide +kernel) rfl
theorem w_616 : (Cond.methodLink "BiteYears" (417 : Nat) ({ cls := "BiteYears$Log", name := "copy", desc := "(LBiteYears$Log;)V" } : MethodName)) ∈ gW := gW_tb 616 (by decide +kernel) rfl
theorem w_617 : (Cond.methodLink "BiteYearsLaw" (277 : Nat) ({ cls := "BiteYears", name := "back", desc := "()Z" } : MethodName)) ∈ gW := gW_tb 617 (by decide +kernel) rfl
theorem w_618 : (Cond.instanceMethod ({ cls := "BiteYears", name := "back", desc := "()Z" } : MethodName)) ∈ gW := gW_tb 618 (by decide +kernel) rfl
theorem w_619 : (Cond.selects "BiteYears" ({ cls := "BiteYears", name := "back", desc := "()Z" } : MethodName) ({ cls := "BiteYears", name := "back", desc := "()Z" } : MethodName)) ∈ gW := gW_tb 619 (by decide +kernel) rfl
theorem w_620 : (Cond.code ({ cls := "BiteYears", name := "back", desc := "()Z" } : MethodName) prog_1_method_59_code (1 : Nat) (Option.some FieldType.boolean)) ∈ gW := gW_tb 620 (by decide +kernel) rfl
theorem w_621 : (Cond.methodLink "BiteYears" (133 : Nat) ({ cls := "BiteYears$Acts", name := "clear", desc := "()V" } : MethodName)) ∈ gW := gW_tb 621 (by decide +kernel) rfl
theorem w_622 : (Cond.instanceMethod ({ cls := "BiteYears$Acts", name := "clear", desc := "()V" } : MethodName)) ∈ gW := gW_tb 622 (by decide +kernel) rfl
theorem w_623 : (Cond.selects "BiteYears$Acts" ({ cls := "BiteYears$Acts", name := "clear", desc := "()V" } : MethodName) ({ cls := "BiteYears$Acts", name := "clear", desc := "()V" } : MethodName)) ∈ gW := gW_tb 623 (by decide +kernel) rfl
theorem w_624 : (Cond.code ({ cls := "BiteYears$Acts", name := "clear", desc := "()V" } : MethodName) prog_2_method_4_code (1 : Nat) (Option.none : Option FieldType)) ∈ gW := gW_tb 624 (by decide +kernel) rfl
theorem w_625 : (Cond.methodLink "BiteYearsLaw" (281 : Nat) ({ cls := "BiteYears", name := "count", desc := "(I)I" } : MethodName)) ∈ gW := gW_tb 625 (by decide +kernel) rfl
theorem w_626 : (Cond.instanceMethod ({ cls := "BiteYears", name := "count", desc := "(I)I" } : MethodName)) ∈ gW := gW_tb 626 (by decide +kernel) rfl
theorem w_627 : (Cond.selects "BiteYears" ({ cls := "BiteYears", name := "count", desc := "(I)I" } : MethodName) ({ cls := "BiteYears", name := "count", desc := "(I)I" } : MethodName)) ∈ gW := gW_tb 627 (by decide +kernel) rfl
theorem w_628 : (Cond.code ({ cls := "BiteYears", name := "count", desc := "(I)I" } : MethodName) prog_1_method_60_code (2 : Nat) (Option.some FieldType.int)) ∈ gW := gW_tb 628 (by decide +kernel) rfl
theorem w_629 : (Cond.methodLink "BiteYearsLaw" (122 : Nat) ({ cls := "BiteYearsLaw", name := "life", desc := "(LBiteYears;[J)I" } : MethodName)) ∈ gW := gW_tb 629 (by decide +kernel) rfl
theorem w_630 : (Cond.static ({ cls := "BiteYearsLaw", name := "life", desc := "(LBiteYears;[J)I" } : MethodName)) ∈ gW := gW_tb 630 (by decide +kernel) rfl
theorem w_631 : (Cond.codeWith ({ cls := "BiteYearsLaw", name := "life", desc := "(LBiteYears;[J)I" } : MethodName) method_3_code (3 : Nat) (Option.some FieldType.int) [((0 : Nat), (8 : Nat), (11 : Nat), (13 : Nat)), ((0 : Nat), (8 : Nat), (14 : Nat), (15 : Nat))]) ∈ gW := gW_tb 631 (by decide +kernel) rfl
theorem w_632 : (Cond.classLink "BiteYearsLaw" (13 : Nat) "java/lang/IllegalArgumentException") ∈ gW := gW_tb 632 (by decide +kernel) rfl
theorem w_633 : (Cond.classLink "BiteYearsLaw" (15 : Nat) "java/lang/UnsupportedOperationException") ∈ gW := gW_tb 633 (by decide +kernel) rfl
theorem w_634 : (Cond.methodLink "BiteYearsLaw" (7 : Nat) ({ cls := "BiteYears", name := "life", desc := "()I" } : MethodName)) ∈ gW := gW_tb 634 (by decide +kernel) rfl
theorem w_635 : (Cond.instanceMethod ({ cls := "BiteYears", name := "life", desc := "()I" } : MethodName)) ∈ gW := gW_tb 635 (by decide +kernel) rfl
theorem w_636 : (Cond.selects "BiteYears" ({ cls := "BiteYears", name := "life", desc := "()I" } : MethodName) ({ cls := "BiteYears", name := "life", desc := "()I" } : MethodName)) ∈ gW := gW_tb 636 (by decide +kernel) rfl
theorem w_637 : (Cond.code ({ cls := "BiteYears", name := "life", desc := "()I" } : MethodName) prog_1_method_7_code (1 : Nat) (Option.some FieldType.int)) ∈ gW := gW_tb 637 (by decide +kernel) rfl
theorem w_638 : (Cond.methodLink "BiteYears" (110 : Nat) ({ cls := "BiteYears", name := "takeTape", desc := "()I" } : MethodName)) ∈ gW := gW_tb 638 (by decide +kernel) rfl
theorem w_640 : (Cond.instanceMethod ({ cls := "BiteYears", name := "takeTape", desc := "()I" } : MethodName)) ∈ gW := gW_tb 640 (by decide +kernel) rfl
theorem w_641 : (Cond.code ({ cls := "BiteYears", name := "takeTape", desc := "()I" } : MethodName) prog_1_method_5_code (2 : Nat) (Option.some FieldType.int)) ∈ gW := gW_tb 641 (by decide +kernel) rfl
theorem w_642 : (Cond.methodLink "BiteYears" (114 : Nat) ({ cls := "BiteYears$LifeText", name := "firstWrong", desc := "([III)I" } : MethodName)) ∈ gW := gW_tb 642 (by decide +kernel) rfl
theorem w_643 : (Cond.sameMethod "BiteYears$LifeText" "BiteYears$Text" "firstWrong" "([III)I") ∈ gW := gW_tb 643 (by decide +kernel) rfl
theorem w_645 : (Cond.selects "BiteYears$LifeText" ({ cls := "BiteYears$LifeText", name := "firstWrong", desc := "([III)I" } : MethodName) ({ cls := "BiteYears$Text", name := "firstWrong", desc := "([III)I" } : MethodName)) ∈ gW := gW_tb 645 (by decide +kernel) rfl
theorem w_646 : (Cond.instanceMethod ({ cls := "BiteYears$Text", name := "firstWrong", desc := "([III)I" } : MethodName)) ∈ gW := gW_tb 646 (by decide +kernel) rfl
theorem w_647 : (Cond.code ({ cls := "BiteYears$Text", name := "firstWrong", desc := "([III)I" } : MethodName) prog_12_method_3_code (5 : Nat) (Option.some FieldType.int)) ∈ gW := gW_tb 647 (by decide +kernel) rfl
theorem w_648 : (Cond.methodLink "BiteYears$Text" (28 : Nat) ({ cls := "java/lang/Math", name := "min", desc := "(II)I" } : MethodName)) ∈ gW := gW_tb 648 (by decide +kernel) rfl
theorem w_649 : (Cond.methodLink "BiteYears$Text" (34 : Nat) ({ cls := "java/lang/Math", name := "max", desc := "(II)I" } : MethodName)) ∈ gW := gW_tb 649 (by decide +kernel) rfl
theorem w_650 : (Cond.methodLink "BiteYears$Text" (37 : Nat) ({ cls := "BiteYears$Text", name := "advance", desc := "()V" } : MethodName)) ∈ gW := gW_tb 650 (by decide +kernel) rfl
theorem w_651 : (Cond.instanceMethod ({ cls := "BiteYears$Text", name := "advance", desc := "()V" } : MethodName)) ∈ gW := gW_tb 651 (by decide +kernel) rfl
theorem w_652 : (Cond.sameMethod "BiteYears$Text" "BiteYears$Text" "advance" "()V") ∈ gW := gW_tb 652 (by decide +kernel) rfl
theorem w_653 : (Cond.selects "BiteYears$LawText" ({ cls := "BiteYears$Text", name := "advance", desc := "()V" } : MethodName) ({ cls := "BiteYears$Text", name := "advance", desc := "()V" } : MethodName)) ∈ gW := gW_tb 653 (by decide +kernel) rfl
theorem w_654 : (Cond.selects "BiteYears$LifeText" ({ cls := "BiteYears$Text", name := "advance", desc := "()V" } : MethodName) ({ cls := "BiteYears$Text", name := "advance", desc := "()V" } : MethodName)) ∈ gW := gW_tb 654 (by decide +kernel) rfl
theorem w_655 : (Cond.code ({ cls := "BiteYears$Text", name := "advance", desc := "()V" } : MethodName) prog_12_method_4_code (2 : Nat) (Option.none : Option FieldType)) ∈ gW := gW_tb 655 (by decide +kernel) rfl
theorem w_656 : (Cond.methodLink "BiteYears$Text" (48 : Nat) ({ cls := "BiteYears$Text", name := "kindAt", desc := "(I)I" } : MethodName)) ∈ gW := gW_tb 656 (by decide +kernel) rfl
theorem w_658 : (Cond.instanceMethod ({ cls := "BiteYears$Text", name := "kindAt", desc := "(I)I" } : MethodName)) ∈ gW := gW_tb 658 (by decide +kernel) rfl
theorem w_659 : (Cond.code ({ cls := "BiteYears$Text", name := "kindAt", desc := "(I)I" } : MethodName) prog_12_method_5_code (2 : Nat) (Option.some FieldType.int)) ∈ gW := gW_tb 659 (by decide +kernel) rfl
theorem w_660 : (Cond.methodLink "BiteYears$Text" (40 : Nat) ({ cls := "BiteYears$Text", name := "readLine", desc := "()Z" } : MethodName)) ∈ gW := gW_tb 660 (by decide +kernel) rfl
theorem w_662 : (Cond.sameMethod "BiteYears$Text" "BiteYears$Text" "readLine" "()Z") ∈ gW := gW_tb 662 (by decide +kernel) rfl
theorem w_663 : (Cond.selects "BiteYears$LawText" ({ cls := "BiteYears$Text", name := "readLine", desc := "()Z" } : MethodName) ({ cls := "BiteYears$LawText", name := "readLine", desc := "()Z" } : MethodName)) ∈ gW := gW_tb 663 (by decide +kernel) rfl
theorem w_664 : (Cond.instanceMethod ({ cls := "BiteYears$LawText", name := "readLine", desc := "()Z" } : MethodName)) ∈ gW := gW_tb 664 (by decide +kernel) rfl
theorem w_665 : (Cond.code ({ cls := "BiteYears$LawText", name := "readLine", desc := "()Z" } : MethodName) prog_7_method_2_code (3 : Nat) (Option.some FieldType.boolean)) ∈ gW := gW_tb 665 (by decide +kernel) rfl
theorem w_666 : (Cond.methodLink "BiteYears$LawText" (29 : Nat) ({ cls := "BiteYears$LawText", name := "kindHere", desc := "()I" } : MethodName)) ∈ gW := gW_tb 666 (by decide +kernel) rfl
theorem w_668 : (Cond.instanceMethod ({ cls := "BiteYears$LawText", name := "kindHere", desc := "()I" } : MethodName)) ∈ gW := gW_tb 668 (by decide +kernel) rfl
theorem w_669 : (Cond.code ({ cls := "BiteYears$LawText", name := "kindHere", desc := "()I" } : MethodName) prog_7_method_3_code (1 : Nat) (Option.some FieldType.int)) ∈ gW := gW_tb 669 (by decide +kernel) rfl
theorem w_671 : (Cond.methodLink "BiteYears$LawText" (39 : Nat) ({ cls := "BiteYears$LawText", name := "isWord", desc := "(Ljava/lang/String;)Z" } : MethodName)) ∈ gW := gW_tb 671 (by decide +kernel) rfl
theorem w_672 : (Cond.sameMethod "BiteYears$LawText" "BiteYears$Text" "isWord" "(Ljava/lang/String;)Z") ∈ gW := gW_tb 672 (by decide +kernel) rfl
theorem w_674 : (Cond.selects "BiteYears$LawText" ({ cls := "BiteYears$LawText", name := "isWord", desc := "(Ljava/lang/String;)Z" } : MethodName) ({ cls := "BiteYears$Text", name := "isWord", desc := "(Ljava/lang/String;)Z" } : MethodName)) ∈ gW := gW_tb 674 (by decide +kernel) rfl
theorem w_675 : (Cond.instanceMethod ({ cls := "BiteYears$Text", name := "isWord", desc := "(Ljava/lang/String;)Z" } : MethodName)) ∈ gW := gW_tb 675 (by decide +kernel) rfl
theorem w_676 : (Cond.code ({ cls := "BiteYears$Text", name := "isWord", desc := "(Ljava/lang/String;)Z" } : MethodName) prog_12_method_7_code (3 : Nat) (Option.some FieldType.boolean)) ∈ gW := gW_tb 676 (by decide +kernel) rfl
theorem w_677 : (Cond.methodLink "BiteYears$Text" (52 : Nat) ({ cls := "java/lang/String", name := "length", desc := "()I" } : MethodName)) ∈ gW := gW_tb 677 (by decide +kernel) rfl
theorem w_678 : (Cond.instanceMethod ({ cls := "java/lang/String", name := "length", desc := "()I" } : MethodName)) ∈ gW := gW_tb 678 (by decide +kernel) rfl
theorem w_679 : (Cond.selects "java/lang/String" ({ cls := "java/lang/String", name := "length", desc := "()I" } : MethodName) ({ cls := "java/lang/String", name := "length", desc := "()I" } : MethodName)) ∈ gW := gW_tb 679 (by decide +kernel) rfl
theorem w_680 : (Cond.code ({ cls := "java/lang/String", name := "length", desc := "()I" } : MethodName) prog_25_method_54_code (1 : Nat) (Option.some FieldType.int)) ∈ gW := gW_tb 680 (by decide +kernel) rfl
theorem w_681 : (Cond.methodLink "java/lang/String" (335 : Nat) ({ cls := "java/lang/String", name := "coder", desc := "()B" } : MethodName)) ∈ gW := gW_tb 681 (by decide +kernel) rfl
theorem w_682 : (Cond.instanceMethod ({ cls := "java/lang/String", name := "coder", desc := "()B" } : MethodName)) ∈ gW := gW_tb 682 (by decide +kernel) rfl
theorem w_683 : (Cond.selects "java/lang/String" ({ cls := "java/lang/String", name := "coder", desc := "()B" } : MethodName) ({ cls := "java/lang/String", name := "coder", desc := "()B" } : MethodName)) ∈ gW := gW_tb 683 (by decide +kernel) rfl
theorem w_684 : (Cond.code ({ cls := "java/lang/String", name := "coder", desc := "()B" } : MethodName) prog_25_method_152_code (1 : Nat) (Option.some FieldType.byte)) ∈ gW := gW_tb 684 (by decide +kernel) rfl
theorem w_685 : (Cond.fieldLink "java/lang/String" (38 : Nat) "java/lang/String" "COMPACT_STRINGS" "Z") ∈ gW := gW_tb 685 (by decide +kernel) rfl
theorem w_687 : (Cond.methodLink "BiteYears$Text" (57 : Nat) ({ cls := "java/lang/String", name := "charAt", desc := "(I)C" } : MethodName)) ∈ gW := gW_tb 687 (by decide +kernel) rfl
theorem w_688 : (Cond.instanceMethod ({ cls := "java/lang/String", name := "charAt", desc := "(I)C" } : MethodName)) ∈ gW := gW_tb 688 (by decide +kernel) rfl
theorem w_689 : (Cond.selects "java/lang/String" ({ cls := "java/lang/String", name := "charAt", desc := "(I)C" } : MethodName) ({ cls := "java/lang/String", name := "charAt", desc := "(I)C" } : MethodName)) ∈ gW := gW_tb 689 (by decide +kernel) rfl
theorem w_690 : (Cond.code ({ cls := "java/lang/String", name := "charAt", desc := "(I)C" } : MethodName) prog_25_method_56_code (2 : Nat) (Option.some FieldType.char)) ∈ gW := gW_tb 690 (by decide +kernel) rfl
theorem w_691 : (Cond.methodLink "java/lang/String" (492 : Nat) ({ cls := "java/lang/String", name := "isLatin1", desc := "()Z" } : MethodName)) ∈ gW := gW_tb 691 (by decide +kernel) rfl
theorem w_692 : (Cond.instanceMethod ({ cls := "java/lang/String", name := "isLatin1", desc := "()Z" } : MethodName)) ∈ gW := gW_tb 692 (by decide +kernel) rfl
theorem w_693 : (Cond.selects "java/lang/String" ({ cls := "java/lang/String", name := "isLatin1", desc := "()Z" } : MethodName) ({ cls := "java/lang/String", name := "isLatin1", desc := "()Z" } : MethodName)) ∈ gW := gW_tb 693 (by decide +kernel) rfl
theorem w_694 : (Cond.code ({ cls := "java/lang/String", name := "isLatin1", desc := "()Z" } : MethodName) prog_25_method_154_code (1 : Nat) (Option.some FieldType.boolean)) ∈ gW := gW_tb 694 (by decide +kernel) rfl
theorem w_695 : (Cond.methodLink "java/lang/String" (495 : Nat) ({ cls := "java/lang/StringLatin1", name := "charAt", desc := "([BI)C" } : MethodName)) ∈ gW := gW_tb 695 (by decide +kernel) rfl
theorem w_696 : (Cond.static ({ cls := "java/lang/StringLatin1", name := "charAt", desc := "([BI)C" } : MethodName)) ∈ gW := gW_tb 696 (by decide +kernel) rfl
theorem w_697 : (Cond.code ({ cls := "java/lang/StringLatin1", name := "charAt", desc := "([BI)C" } : MethodName) prog_26_method_2_code (2 : Nat) (Option.some FieldType.char)) ∈ gW := gW_tb 697 (by decide +kernel) rfl
theorem w_698 : (Cond.methodLink "java/lang/StringLatin1" (9 : Nat) ({ cls := "java/lang/String", name := "checkIndex", desc := "(II)V" } : MethodName)) ∈ gW := gW_tb 698 (by decide +kernel) rfl
theorem w_699 : (Cond.static ({ cls := "java/lang/String", name := "checkIndex", desc := "(II)V" } : MethodName)) ∈ gW := gW_tb 699 (by decide +kernel) rfl
theorem w_700 : (Cond.code ({ cls := "java/lang/String", name := "checkIndex", desc := "(II)V" } : MethodName) prog_25_method_155_code (2 : Nat) (Option.none : Option FieldType)) ∈ gW := gW_tb 700 (by decide +kernel) rfl
theorem w_701 : (Cond.fieldLink "java/lang/String" (1053 : Nat) "jdk/internal/util/Preconditions" "SIOOBE_FORMATTER" "Ljava/util/function/BiFunction;") ∈ gW := gW_tb 701 (by decide +kernel) rfl
theorem w_703 : (Cond.methodLink "java/lang/String" (1059 : Nat) ({ cls := "jdk/internal/util/Preconditions", name := "checkIndex", desc := "(IILjava/util/function/BiFunction;)I" } : MethodName)) ∈ gW := gW_tb 703 (by decide +kernel) rfl
theorem w_704 : (Cond.static ({ cls := "jdk/internal/util/Preconditions", name := "checkIndex", desc := "(IILjava/util/function/BiFunction;)I" } : MethodName)) ∈ gW := gW_tb 704 (by decide +kernel) rfl
theorem w_705 : (Cond.code ({ cls := "jdk/internal/util/Preconditions", name := "checkIndex", desc := "(IILjava/util/function/BiFunction;)I" } : MethodName) prog_34_method_11_code (3 : Nat) (Option.some FieldType.int)) ∈ gW := gW_tb 705 (by decide +kernel) rfl
theorem w_706 : (Cond.methodLink "java/lang/String" (498 : Nat) ({ cls := "java/lang/StringUTF16", name := "charAt", desc := "([BI)C" } : MethodName)) ∈ gW := gW_tb 706 (by decide +kernel) rfl
theorem w_707 : (Cond.static ({ cls := "java/lang/StringUTF16", name := "charAt", desc := "([BI)C" } : MethodName)) ∈ gW := gW_tb 707 (by decide +kernel) rfl
theorem w_708 : (Cond.code ({ cls := "java/lang/StringUTF16", name := "charAt", desc := "([BI)C" } : MethodName) prog_27_method_83_code (2 : Nat) (Option.some FieldType.char)) ∈ gW := gW_tb 708 (by decide +kernel) rfl
theorem w_709 : (Cond.methodLink "java/lang/StringUTF16" (67 : Nat) ({ cls := "java/lang/StringUTF16", name := "checkIndex", desc := "(I[B)V" } : MethodName)) ∈ gW := gW_tb 709 (by decide +kernel) rfl
theorem w_710 : (Cond.static ({ cls := "java/lang/StringUTF16", name := "checkIndex", desc := "(I[B)V" } : MethodName)) ∈ gW := gW_tb 710 (by decide +kernel) rfl
theorem w_711 : (Cond.code ({ cls := "java/lang/StringUTF16", name := "checkIndex", desc := "(I[B)V" } : MethodName) prog_27_method_91_code (2 : Nat) (Option.none : Option FieldType)) ∈ gW := gW_tb 711 (by decide +kernel) rfl
theorem w_712 : (Cond.methodLink "java/lang/StringUTF16" (48 : Nat) ({ cls := "java/lang/StringUTF16", name := "length", desc := "([B)I" } : MethodName)) ∈ gW := gW_tb 712 (by decide +kernel) rfl
theorem w_713 : (Cond.static ({ cls := "java/lang/StringUTF16", name := "length", desc := "([B)I" } : MethodName)) ∈ gW := gW_tb 713 (by decide +kernel) rfl
theorem w_714 : (Cond.code ({ cls := "java/lang/StringUTF16", name := "length", desc := "([B)I" } : MethodName) prog_27_method_6_code (1 : Nat) (Option.some FieldType.int)) ∈ gW := gW_tb 714 (by decide +kernel) rfl
theorem w_715 : (Cond.methodLink "java/lang/StringUTF16" (414 : Nat) ({ cls := "java/lang/String", name := "checkIndex", desc := "(II)V" } : MethodName)) ∈ gW := gW_tb 715 (by decide +kernel) rfl
theorem w_716 : (Cond.methodLink "java/lang/StringUTF16" (71 : Nat) ({ cls := "java/lang/StringUTF16", name := "getChar", desc := "([BI)C" } : MethodName)) ∈ gW := gW_tb 716 (by decide +kernel) rfl
theorem w_717 : (Cond.static ({ cls := "java/lang/StringUTF16", name := "getChar", desc := "([BI)C" } : MethodName)) ∈ gW := gW_tb 717 (by decide +kernel) rfl
theorem w_718 : (Cond.code ({ cls := "java/lang/StringUTF16", name := "getChar", desc := "([BI)C" } : MethodName) prog_27_method_5_code (2 : Nat) (Option.some FieldType.char)) ∈ gW := gW_tb 718 (by decide +kernel) rfl
theorem w_719 : (Cond.fieldLink "java/lang/StringUTF16" (44 : Nat) "java/lang/StringUTF16" "$assertionsDisabled" "Z") ∈ gW := gW_tb 719 (by decide +kernel) rfl
theorem w_721 : (Cond.fieldLink "java/lang/StringUTF16" (59 : Nat) "java/lang/StringUTF16" "HI_BYTE_SHIFT" "I") ∈ gW := gW_tb 721 (by decide +kernel) rfl
theorem w_723 : (Cond.fieldLink "java/lang/StringUTF16" (63 : Nat) "java/lang/StringUTF16" "LO_BYTE_SHIFT" "I") ∈ gW := gW_tb 723 (by decide +kernel) rfl
theorem w_727 : (Cond.methodLink "BiteYears$LawText" (33 : Nat) ({ cls := "BiteYears$LawText", name := "numberBehind", desc := "(II)I" } : MethodName)) ∈ gW := gW_tb 727 (by decide +kernel) rfl
theorem w_728 : (Cond.sameMethod "BiteYears$LawText" "BiteYears$Text" "numberBehind" "(II)I") ∈ gW := gW_tb 728 (by decide +kernel) rfl
theorem w_730 : (Cond.selects "BiteYears$LawText" ({ cls := "BiteYears$LawText", name := "numberBehind", desc := "(II)I" } : MethodName) ({ cls := "BiteYears$Text", name := "numberBehind", desc := "(II)I" } : MethodName)) ∈ gW := gW_tb 730 (by decide +kernel) rfl
theorem w_731 : (Cond.instanceMethod ({ cls := "BiteYears$Text", name := "numberBehind", desc := "(II)I" } : MethodName)) ∈ gW := gW_tb 731 (by decide +kernel) rfl
theorem w_732 : (Cond.code ({ cls := "BiteYears$Text", name := "numberBehind", desc := "(II)I" } : MethodName) prog_12_method_11_code (4 : Nat) (Option.some FieldType.int)) ∈ gW := gW_tb 732 (by decide +kernel) rfl
theorem w_733 : (Cond.methodLink "BiteYears$Text" (61 : Nat) ({ cls := "BiteYears$Text", name := "number", desc := "(II)I" } : MethodName)) ∈ gW := gW_tb 733 (by decide +kernel) rfl
theorem w_734 : (Cond.instanceMethod ({ cls := "BiteYears$Text", name := "number", desc := "(II)I" } : MethodName)) ∈ gW := gW_tb 734 (by decide +kernel) rfl
theorem w_735 : (Cond.sameMethod "BiteYears$Text" "BiteYears$Text" "number" "(II)I") ∈ gW := gW_tb 735 (by decide +kernel) rfl
theorem w_736 : (Cond.selects "BiteYears$LawText" ({ cls := "BiteYears$Text", name := "number", desc := "(II)I" } : MethodName) ({ cls := "BiteYears$Text", name := "number", desc := "(II)I" } : MethodName)) ∈ gW := gW_tb 736 (by decide +kernel) rfl
theorem w_737 : (Cond.selects "BiteYears$LifeText" ({ cls := "BiteYears$Text", name := "number", desc := "(II)I" } : MethodName) ({ cls := "BiteYears$Text", name := "number", desc := "(II)I" } : MethodName)) ∈ gW := gW_tb 737 (by decide +kernel) rfl
theorem w_738 : (Cond.code ({ cls := "BiteYears$Text", name := "number", desc := "(II)I" } : MethodName) prog_12_method_10_code (5 : Nat) (Option.some FieldType.int)) ∈ gW := gW_tb 738 (by decide +kernel) rfl
theorem w_740 : (Cond.methodLink "BiteYears$LawText" (43 : Nat) ({ cls := "BiteYears$LawText", name := "advance", desc := "()V" } : MethodName)) ∈ gW := gW_tb 740 (by decide +kernel) rfl
theorem w_741 : (Cond.sameMethod "BiteYears$LawText" "BiteYears$Text" "advance" "()V") ∈ gW := gW_tb 741 (by decide +kernel) rfl
theorem w_743 : (Cond.selects "BiteYears$LawText" ({ cls := "BiteYears$LawText", name := "advance", desc := "()V" } : MethodName) ({ cls := "BiteYears$Text", name := "advance", desc := "()V" } : MethodName)) ∈ gW := gW_tb 743 (by decide +kernel) rfl
theorem w_744 : (Cond.methodLink "BiteYears$LawText" (46 : Nat) ({ cls := "BiteYears$LawText", name := "readCondition", desc := "()Z" } : MethodName)) ∈ gW := gW_tb 744 (by decide +kernel) rfl
theorem w_746 : (Cond.instanceMethod ({ cls := "BiteYears$LawText", name := "readCondition", desc := "()Z" } : MethodName)) ∈ gW := gW_tb 746 (by decide +kernel) rfl
theorem w_747 : (Cond.code ({ cls := "BiteYears$LawText", name := "readCondition", desc := "()Z" } : MethodName) prog_7_method_4_code (4 : Nat) (Option.some FieldType.boolean)) ∈ gW := gW_tb 747 (by decide +kernel) rfl
theorem w_748 : (Cond.methodLink "BiteYears$LawText" (60 : Nat) ({ cls := "BiteYears$LawText", name := "openingHere", desc := "()I" } : MethodName)) ∈ gW := gW_tb 748 (by decide +kernel) rfl
theorem w_750 : (Cond.instanceMethod ({ cls := "BiteYears$LawText", name := "openingHere", desc := "()I" } : MethodName)) ∈ gW := gW_tb 750 (by decide +kernel) rfl
theorem w_751 : (Cond.code ({ cls := "BiteYears$LawText", name := "openingHere", desc := "()I" } : MethodName) prog_7_method_5_code (1 : Nat) (Option.some FieldType.int)) ∈ gW := gW_tb 751 (by decide +kernel) rfl
theorem w_753 : (Cond.methodLink "BiteYears$LawText" (84 : Nat) ({ cls := "BiteYears$LawText", name := "isSign", desc := "(C)Z" } : MethodName)) ∈ gW := gW_tb 753 (by decide +kernel) rfl
theorem w_754 : (Cond.sameMethod "BiteYears$LawText" "BiteYears$Text" "isSign" "(C)Z") ∈ gW := gW_tb 754 (by decide +kernel) rfl
theorem w_756 : (Cond.selects "BiteYears$LawText" ({ cls := "BiteYears$LawText", name := "isSign", desc := "(C)Z" } : MethodName) ({ cls := "BiteYears$Text", name := "isSign", desc := "(C)Z" } : MethodName)) ∈ gW := gW_tb 756 (by decide +kernel) rfl
theorem w_757 : (Cond.instanceMethod ({ cls := "BiteYears$Text", name := "isSign", desc := "(C)Z" } : MethodName)) ∈ gW := gW_tb 757 (by decide +kernel) rfl
theorem w_758 : (Cond.code ({ cls := "BiteYears$Text", name := "isSign", desc := "(C)Z" } : MethodName) prog_12_method_6_code (2 : Nat) (Option.some FieldType.boolean)) ∈ gW := gW_tb 758 (by decide +kernel) rfl
theorem w_759 : (Cond.methodLink "BiteYears$LawText" (63 : Nat) ({ cls := "BiteYears$LawText", name := "putOff", desc := "(I)V" } : MethodName)) ∈ gW := gW_tb 759 (by decide +kernel) rfl
theorem w_761 : (Cond.instanceMethod ({ cls := "BiteYears$LawText", name := "putOff", desc := "(I)V" } : MethodName)) ∈ gW := gW_tb 761 (by decide +kernel) rfl
theorem w_762 : (Cond.code ({ cls := "BiteYears$LawText", name := "putOff", desc := "(I)V" } : MethodName) prog_7_method_7_code (2 : Nat) (Option.none : Option FieldType)) ∈ gW := gW_tb 762 (by decide +kernel) rfl
theorem w_763 : (Cond.methodLink "BiteYears$LawText" (67 : Nat) ({ cls := "BiteYears$LawText", name := "readState", desc := "()Z" } : MethodName)) ∈ gW := gW_tb 763 (by decide +kernel) rfl
theorem w_765 : (Cond.instanceMethod ({ cls := "BiteYears$LawText", name := "readState", desc := "()Z" } : MethodName)) ∈ gW := gW_tb 765 (by decide +kernel) rfl
theorem w_766 : (Cond.code ({ cls := "BiteYears$LawText", name := "readState", desc := "()Z" } : MethodName) prog_7_method_10_code (2 : Nat) (Option.some FieldType.boolean)) ∈ gW := gW_tb 766 (by decide +kernel) rfl
theorem w_767 : (Cond.methodLink "BiteYears$LawText" (95 : Nat) ({ cls := "BiteYears$LawText", name := "stateHere", desc := "()I" } : MethodName)) ∈ gW := gW_tb 767 (by decide +kernel) rfl
theorem w_769 : (Cond.instanceMethod ({ cls := "BiteYears$LawText", name := "stateHere", desc := "()I" } : MethodName)) ∈ gW := gW_tb 769 (by decide +kernel) rfl
theorem w_770 : (Cond.code ({ cls := "BiteYears$LawText", name := "stateHere", desc := "()I" } : MethodName) prog_7_method_11_code (1 : Nat) (Option.some FieldType.int)) ∈ gW := gW_tb 770 (by decide +kernel) rfl
theorem w_774 : (Cond.methodLink "BiteYears$LawText" (92 : Nat) ({ cls := "BiteYears$Law", name := "add", desc := "(I)V" } : MethodName)) ∈ gW := gW_tb 774 (by decide +kernel) rfl
theorem w_775 : (Cond.instanceMethod ({ cls := "BiteYears$Law", name := "add", desc := "(I)V" } : MethodName)) ∈ gW := gW_tb 775 (by decide +kernel) rfl
theorem w_776 : (Cond.selects "BiteYears$Law" ({ cls := "BiteYears$Law", name := "add", desc := "(I)V" } : MethodName) ({ cls := "BiteYears$Law", name := "add", desc := "(I)V" } : MethodName)) ∈ gW := gW_tb 776 (by decide +kernel) rfl
theorem w_777 : (Cond.code ({ cls := "BiteYears$Law", name := "add", desc := "(I)V" } : MethodName) prog_6_method_3_code (2 : Nat) (Option.none : Option FieldType)) ∈ gW := gW_tb 777 (by decide +kernel) rfl
theorem w_778 : (Cond.methodLink "BiteYears$LawText" (70 : Nat) ({ cls := "BiteYears$LawText", name := "readComparison", desc := "()Z" } : MethodName)) ∈ gW := gW_tb 778 (by decide +kernel) rfl
theorem w_780 : (Cond.instanceMethod ({ cls := "BiteYears$LawText", name := "readComparison", desc := "()Z" } : MethodName)) ∈ gW := gW_tb 780 (by decide +kernel) rfl
theorem w_781 : (Cond.code ({ cls := "BiteYears$LawText", name := "readComparison", desc := "()Z" } : MethodName) prog_7_method_12_code (2 : Nat) (Option.some FieldType.boolean)) ∈ gW := gW_tb 781 (by decide +kernel) rfl
theorem w_782 : (Cond.methodLink "BiteYears$LawText" (106 : Nat) ({ cls := "BiteYears$LawText", name := "readSum", desc := "()Z" } : MethodName)) ∈ gW := gW_tb 782 (by decide +kernel) rfl
theorem w_784 : (Cond.instanceMethod ({ cls := "BiteYears$LawText", name := "readSum", desc := "()Z" } : MethodName)) ∈ gW := gW_tb 784 (by decide +kernel) rfl
theorem w_785 : (Cond.code ({ cls := "BiteYears$LawText", name := "readSum", desc := "()Z" } : MethodName) prog_7_method_13_code (4 : Nat) (Option.some FieldType.boolean)) ∈ gW := gW_tb 785 (by decide +kernel) rfl
theorem w_786 : (Cond.methodLink "BiteYears$LawText" (109 : Nat) ({ cls := "BiteYears$LawText", name := "number", desc := "(II)I" } : MethodName)) ∈ gW := gW_tb 786 (by decide +kernel) rfl
theorem w_787 : (Cond.sameMethod "BiteYears$LawText" "BiteYears$Text" "number" "(II)I") ∈ gW := gW_tb 787 (by decide +kernel) rfl
theorem w_789 : (Cond.selects "BiteYears$LawText" ({ cls := "BiteYears$LawText", name := "number", desc := "(II)I" } : MethodName) ({ cls := "BiteYears$Text", name := "number", desc := "(II)I" } : MethodName)) ∈ gW := gW_tb 789 (by decide +kernel) rfl
theorem w_790 : (Cond.methodLink "BiteYears$LawText" (112 : Nat) ({ cls := "BiteYears$LawText", name := "valueHere", desc := "()I" } : MethodName)) ∈ gW := gW_tb 790 (by decide +kernel) rfl
theorem w_792 : (Cond.instanceMethod ({ cls := "BiteYears$LawText", name := "valueHere", desc := "()I" } : MethodName)) ∈ gW := gW_tb 792 (by decide +kernel) rfl
theorem w_793 : (Cond.code ({ cls := "BiteYears$LawText", name := "valueHere", desc := "()I" } : MethodName) prog_7_method_14_code (1 : Nat) (Option.some FieldType.int)) ∈ gW := gW_tb 793 (by decide +kernel) rfl
theorem w_800 : (Cond.methodLink "BiteYears$LawText" (73 : Nat) ({ cls := "BiteYears$LawText", name := "closeBrackets", desc := "()V" } : MethodName)) ∈ gW := gW_tb 800 (by decide +kernel) rfl
theorem w_802 : (Cond.instanceMethod ({ cls := "BiteYears$LawText", name := "closeBrackets", desc := "()V" } : MethodName)) ∈ gW := gW_tb 802 (by decide +kernel) rfl
theorem w_803 : (Cond.code ({ cls := "BiteYears$LawText", name := "closeBrackets", desc := "()V" } : MethodName) prog_7_method_9_code (2 : Nat) (Option.none : Option FieldType)) ∈ gW := gW_tb 803 (by decide +kernel) rfl
theorem w_804 : (Cond.methodLink "BiteYears$LawText" (79 : Nat) ({ cls := "BiteYears$LawText", name := "settle", desc := "(I)V" } : MethodName)) ∈ gW := gW_tb 804 (by decide +kernel) rfl
theorem w_806 : (Cond.instanceMethod ({ cls := "BiteYears$LawText", name := "settle", desc := "(I)V" } : MethodName)) ∈ gW := gW_tb 806 (by decide +kernel) rfl
theorem w_807 : (Cond.code ({ cls := "BiteYears$LawText", name := "settle", desc := "(I)V" } : MethodName) prog_7_method_8_code (3 : Nat) (Option.none : Option FieldType)) ∈ gW := gW_tb 807 (by decide +kernel) rfl
theorem w_808 : (Cond.methodLink "BiteYears$LawText" (76 : Nat) ({ cls := "BiteYears$LawText", name := "joiningHere", desc := "()I" } : MethodName)) ∈ gW := gW_tb 808 (by decide +kernel) rfl
theorem w_810 : (Cond.instanceMethod ({ cls := "BiteYears$LawText", name := "joiningHere", desc := "()I" } : MethodName)) ∈ gW := gW_tb 810 (by decide +kernel) rfl
theorem w_811 : (Cond.code ({ cls := "BiteYears$LawText", name := "joiningHere", desc := "()I" } : MethodName) prog_7_method_6_code (1 : Nat) (Option.some FieldType.int)) ∈ gW := gW_tb 811 (by decide +kernel) rfl
theorem w_814 : (Cond.methodLink "BiteYears$LawText" (50 : Nat) ({ cls := "BiteYears$Law", name := "endLine", desc := "(II)V" } : MethodName)) ∈ gW := gW_tb 814 (by decide +kernel) rfl
theorem w_815 : (Cond.instanceMethod ({ cls := "BiteYears$Law", name := "endLine", desc := "(II)V" } : MethodName)) ∈ gW := gW_tb 815 (by decide +kernel) rfl
theorem w_816 : (Cond.selects "BiteYears$Law" ({ cls := "BiteYears$Law", name := "endLine", desc := "(II)V" } : MethodName) ({ cls := "BiteYears$Law", name := "endLine", desc := "(II)V" } : MethodName)) ∈ gW := gW_tb 816 (by decide +kernel) rfl
theorem w_817 : (Cond.code ({ cls := "BiteYears$Law", name := "endLine", desc := "(II)V" } : MethodName) prog_6_method_4_code (3 : Nat) (Option.none : Option FieldType)) ∈ gW := gW_tb 817 (by decide +kernel) rfl
theorem w_818 : (Cond.selects "BiteYears$LifeText" ({ cls := "BiteYears$Text", name := "readLine", desc := "()Z" } : MethodName) ({ cls := "BiteYears$LifeText", name := "readLine", desc := "()Z" } : MethodName)) ∈ gW := gW_tb 818 (by decide +kernel) rfl
theorem w_819 : (Cond.instanceMethod ({ cls := "BiteYears$LifeText", name := "readLine", desc := "()Z" } : MethodName)) ∈ gW := gW_tb 819 (by decide +kernel) rfl
theorem w_820 : (Cond.code ({ cls := "BiteYears$LifeText", name := "readLine", desc := "()Z" } : MethodName) prog_8_method_2_code (1 : Nat) (Option.some FieldType.boolean)) ∈ gW := gW_tb 820 (by decide +kernel) rfl
theorem w_822 : (Cond.methodLink "BiteYears$LifeText" (20 : Nat) ({ cls := "BiteYears$LifeText", name := "isWord", desc := "(Ljava/lang/String;)Z" } : MethodName)) ∈ gW := gW_tb 822 (by decide +kernel) rfl
theorem w_823 : (Cond.sameMethod "BiteYears$LifeText" "BiteYears$Text" "isWord" "(Ljava/lang/String;)Z") ∈ gW := gW_tb 823 (by decide +kernel) rfl
theorem w_824 : (Cond.selects "BiteYears$LifeText" ({ cls := "BiteYears$LifeText", name := "isWord", desc := "(Ljava/lang/String;)Z" } : MethodName) ({ cls := "BiteYears$Text", name := "isWord", desc := "(Ljava/lang/String;)Z" } : MethodName)) ∈ gW := gW_tb 824 (by decide +kernel) rfl
theorem w_825 : (Cond.methodLink "BiteYears$LifeText" (34 : Nat) ({ cls := "BiteYears$LifeText", name := "readDish", desc := "()Z" } : MethodName)) ∈ gW := gW_tb 825 (by decide +kernel) rfl
theorem w_827 : (Cond.instanceMethod ({ cls := "BiteYears$LifeText", name := "readDish", desc := "()Z" } : MethodName)) ∈ gW := gW_tb 827 (by decide +kernel) rfl
theorem w_828 : (Cond.code ({ cls := "BiteYears$LifeText", name := "readDish", desc := "()Z" } : MethodName) prog_8_method_4_code (3 : Nat) (Option.some FieldType.boolean)) ∈ gW := gW_tb 828 (by decide +kernel) rfl
theorem w_829 : (Cond.methodLink "BiteYears$LifeText" (78 : Nat) ({ cls := "BiteYears$LifeText", name := "advance", desc := "()V" } : MethodName)) ∈ gW := gW_tb 829 (by decide +kernel) rfl
theorem w_830 : (Cond.sameMethod "BiteYears$LifeText" "BiteYears$Text" "advance" "()V") ∈ gW := gW_tb 830 (by decide +kernel) rfl
theorem w_831 : (Cond.selects "BiteYears$LifeText" ({ cls := "BiteYears$LifeText", name := "advance", desc := "()V" } : MethodName) ({ cls := "BiteYears$Text", name := "advance", desc := "()V" } : MethodName)) ∈ gW := gW_tb 831 (by decide +kernel) rfl
theorem w_832 : (Cond.methodLink "BiteYears$LifeText" (81 : Nat) ({ cls := "BiteYears$LifeText", name := "isFigures", desc := "(I)Z" } : MethodName)) ∈ gW := gW_tb 832 (by decide +kernel) rfl
theorem w_833 : (Cond.sameMethod "BiteYears$LifeText" "BiteYears$Text" "isFigures" "(I)Z") ∈ gW := gW_tb 833 (by decide +kernel) rfl
theorem w_835 : (Cond.selects "BiteYears$LifeText" ({ cls := "BiteYears$LifeText", name := "isFigures", desc := "(I)Z" } : MethodName) ({ cls := "BiteYears$Text", name := "isFigures", desc := "(I)Z" } : MethodName)) ∈ gW := gW_tb 835 (by decide +kernel) rfl
theorem w_836 : (Cond.instanceMethod ({ cls := "BiteYears$Text", name := "isFigures", desc := "(I)Z" } : MethodName)) ∈ gW := gW_tb 836 (by decide +kernel) rfl
theorem w_837 : (Cond.code ({ cls := "BiteYears$Text", name := "isFigures", desc := "(I)Z" } : MethodName) prog_12_method_8_code (2 : Nat) (Option.some FieldType.boolean)) ∈ gW := gW_tb 837 (by decide +kernel) rfl
theorem w_838 : (Cond.methodLink "BiteYears$LifeText" (89 : Nat) ({ cls := "BiteYears$LifeText", name := "figure", desc := "(I)I" } : MethodName)) ∈ gW := gW_tb 838 (by decide +kernel) rfl
theorem w_839 : (Cond.sameMethod "BiteYears$LifeText" "BiteYears$Text" "figure" "(I)I") ∈ gW := gW_tb 839 (by decide +kernel) rfl
theorem w_841 : (Cond.selects "BiteYears$LifeText" ({ cls := "BiteYears$LifeText", name := "figure", desc := "(I)I" } : MethodName) ({ cls := "BiteYears$Text", name := "figure", desc := "(I)I" } : MethodName)) ∈ gW := gW_tb 841 (by decide +kernel) rfl
theorem w_842 : (Cond.instanceMethod ({ cls := "BiteYears$Text", name := "figure", desc := "(I)I" } : MethodName)) ∈ gW := gW_tb 842 (by decide +kernel) rfl
theorem w_843 : (Cond.code ({ cls := "BiteYears$Text", name := "figure", desc := "(I)I" } : MethodName) prog_12_method_9_code (2 : Nat) (Option.some FieldType.int)) ∈ gW := gW_tb 843 (by decide +kernel) rfl
theorem w_845 : (Cond.methodLink "BiteYears$LifeText" (95 : Nat) ({ cls := "BiteYears$LifeText", name := "readFirst", desc := "()Z" } : MethodName)) ∈ gW := gW_tb 845 (by decide +kernel) rfl
theorem w_847 : (Cond.instanceMethod ({ cls := "BiteYears$LifeText", name := "readFirst", desc := "()Z" } : MethodName)) ∈ gW := gW_tb 847 (by decide +kernel) rfl
theorem w_848 : (Cond.code ({ cls := "BiteYears$LifeText", name := "readFirst", desc := "()Z" } : MethodName) prog_8_method_5_code (4 : Nat) (Option.some FieldType.boolean)) ∈ gW := gW_tb 848 (by decide +kernel) rfl
theorem w_849 : (Cond.methodLink "BiteYears$LifeText" (45 : Nat) ({ cls := "BiteYears$LifeText", name := "numberBehind", desc := "(II)I" } : MethodName)) ∈ gW := gW_tb 849 (by decide +kernel) rfl
theorem w_850 : (Cond.sameMethod "BiteYears$LifeText" "BiteYears$Text" "numberBehind" "(II)I") ∈ gW := gW_tb 850 (by decide +kernel) rfl
theorem w_851 : (Cond.selects "BiteYears$LifeText" ({ cls := "BiteYears$LifeText", name := "numberBehind", desc := "(II)I" } : MethodName) ({ cls := "BiteYears$Text", name := "numberBehind", desc := "(II)I" } : MethodName)) ∈ gW := gW_tb 851 (by decide +kernel) rfl
theorem w_854 : (Cond.methodLink "BiteYears$LifeText" (98 : Nat) ({ cls := "BiteYears$Dishes", name := "add", desc := "(III)V" } : MethodName)) ∈ gW := gW_tb 854 (by decide +kernel) rfl
theorem w_855 : (Cond.instanceMethod ({ cls := "BiteYears$Dishes", name := "add", desc := "(III)V" } : MethodName)) ∈ gW := gW_tb 855 (by decide +kernel) rfl
theorem w_856 : (Cond.selects "BiteYears$Dishes" ({ cls := "BiteYears$Dishes", name := "add", desc := "(III)V" } : MethodName) ({ cls := "BiteYears$Dishes", name := "add", desc := "(III)V" } : MethodName)) ∈ gW := gW_tb 856 (by decide +kernel) rfl
theorem w_857 : (Cond.code ({ cls := "BiteYears$Dishes", name := "add", desc := "(III)V" } : MethodName) prog_3_method_17_code (4 : Nat) (Option.none : Option FieldType)) ∈ gW := gW_tb 857 (by decide +kernel) rfl
theorem w_858 : (Cond.methodLink "BiteYears$Dishes" (49 : Nat) ({ cls := "BiteYears$Dishes", name := "tell", desc := "(IIII)V" } : MethodName)) ∈ gW := gW_tb 858 (by decide +kernel) rfl
theorem w_859 : (Cond.instanceMethod ({ cls := "BiteYears$Dishes", name := "tell", desc := "(IIII)V" } : MethodName)) ∈ gW := gW_tb 859 (by decide +kernel) rfl
theorem w_860 : (Cond.selects "BiteYears$Dishes" ({ cls := "BiteYears$Dishes", name := "tell", desc := "(IIII)V" } : MethodName) ({ cls := "BiteYears$Dishes", name := "tell", desc := "(IIII)V" } : MethodName)) ∈ gW := gW_tb 860 (by decide +kernel) rfl
theorem w_861 : (Cond.code ({ cls := "BiteYears$Dishes", name := "tell", desc := "(IIII)V" } : MethodName) prog_3_method_16_code (5 : Nat) (Option.none : Option FieldType)) ∈ gW := gW_tb 861 (by decide +kernel) rfl
theorem w_863 : (Cond.methodLink "BiteYears$LifeText" (40 : Nat) ({ cls := "BiteYears$LifeText", name := "readWar", desc := "()Z" } : MethodName)) ∈ gW := gW_tb 863 (by decide +kernel) rfl
theorem w_865 : (Cond.instanceMethod ({ cls := "BiteYears$LifeText", name := "readWar", desc := "()Z" } : MethodName)) ∈ gW := gW_tb 865 (by decide +kernel) rfl
theorem w_866 : (Cond.code ({ cls := "BiteYears$LifeText", name := "readWar", desc := "()Z" } : MethodName) prog_8_method_3_code (2 : Nat) (Option.some FieldType.boolean)) ∈ gW := gW_tb 866 (by decide +kernel) rfl
theorem w_873 : (Cond.methodLink "BiteYears$Text" (44 : Nat) ({ cls := "BiteYears$Text", name := "isSign", desc := "(C)Z" } : MethodName)) ∈ gW := gW_tb 873 (by decide +kernel) rfl
theorem w_874 : (Cond.classLink "BiteYears" (118 : Nat) "java/lang/IllegalArgumentException") ∈ gW := gW_tb 874 (by decide +kernel) rfl
theorem w_875 : (Cond.instantiable "java/lang/IllegalArgumentException" (6 : Nat)) ∈ gW := gW_tb 875 (by decide +kernel) rfl
theorem w_883 : (Cond.selects "java/lang/IllegalArgumentException" ({ cls := "java/lang/Throwable", name := "fillInStackTrace", desc := "(I)Ljava/lang/Throwable;" } : MethodName) ({ cls := "java/lang/Throwable", name := "fillInStackTrace", desc := "(I)Ljava/lang/Throwable;" } : MethodName)) ∈ gW := gW_tb 883 (by decide +kernel) rfl
theorem w_884 : (Cond.selects "java/lang/IllegalArgumentException" ({ cls := "java/lang/Throwable", name := "fillInStackTrace", desc := "()Ljava/lang/Throwable;" } : MethodName) ({ cls := "java/lang/Throwable", name := "fillInStackTrace", desc := "()Ljava/lang/Throwable;" } : MethodName)) ∈ gW := gW_tb 884 (by decide +kernel) rfl
theorem w_885 : (Cond.lays "java/lang/IllegalArgumentException" "java/lang/Throwable" "cause" "Ljava/lang/Throwable;") ∈ gW := gW_tb 885 (by decide +kernel) rfl
theorem w_886 : (Cond.lays "java/lang/Throwable" "java/lang/Throwable" "cause" "Ljava/lang/Throwable;") ∈ gW := gW_tb 886 (by decide +kernel) rfl
theorem w_887 : (Cond.lays "java/lang/IllegalArgumentException" "java/lang/Throwable" "stackTrace" "[Ljava/lang/StackTraceElement;") ∈ gW := gW_tb 887 (by decide +kernel) rfl
theorem w_888 : (Cond.lays "java/lang/Throwable" "java/lang/Throwable" "stackTrace" "[Ljava/lang/StackTraceElement;") ∈ gW := gW_tb 888 (by decide +kernel) rfl
theorem w_889 : (Cond.lays "java/lang/IllegalArgumentException" "java/lang/Throwable" "suppressedExceptions" "Ljava/util/List;") ∈ gW := gW_tb 889 (by decide +kernel) rfl
theorem w_890 : (Cond.lays "java/lang/Throwable" "java/lang/Throwable" "suppressedExceptions" "Ljava/util/List;") ∈ gW := gW_tb 890 (by decide +kernel) rfl
theorem w_891 : (Cond.lays "java/lang/IllegalArgumentException" "java/lang/Throwable" "detailMessage" "Ljava/lang/String;") ∈ gW := gW_tb 891 (by decide +kernel) rfl
theorem w_892 : (Cond.lays "java/lang/Throwable" "java/lang/Throwable" "detailMessage" "Ljava/lang/String;") ∈ gW := gW_tb 892 (by decide +kernel) rfl
theorem w_893 : (Cond.lays "java/lang/IllegalArgumentException" "java/lang/Throwable" "backtrace" "Ljava/lang/Object;") ∈ gW := gW_tb 893 (by decide +kernel) rfl
theorem w_894 : (Cond.lays "java/lang/Throwable" "java/lang/Throwable" "backtrace" "Ljava/lang/Object;") ∈ gW := gW_tb 894 (by decide +kernel) rfl
theorem w_895 : (Cond.fieldLink "java/lang/Throwable" (198 : Nat) "java/lang/Throwable" "backtrace" "Ljava/lang/Object;") ∈ gW := gW_tb 895 (by decide +kernel) rfl
theorem w_896 : (Cond.superclass "java/lang/Throwable" "java/lang/Object") ∈ gW := gW_tb 896 (by decide +kernel) rfl
theorem w_897 : (Cond.instanceMethod ({ cls := "java/lang/Throwable", name := "<init>", desc := "()V" } : MethodName)) ∈ gW := gW_tb 897 (by decide +kernel) rfl
theorem w_898 : (Cond.code ({ cls := "java/lang/Throwable", name := "<init>", desc := "()V" } : MethodName) prog_29_method_1_code (1 : Nat) (Option.none : Option FieldType)) ∈ gW := gW_tb 898 (by decide +kernel) rfl
theorem w_899 : (Cond.methodLink "java/lang/Throwable" (1 : Nat) ({ cls := "java/lang/Object", name := "<init>", desc := "()V" } : MethodName)) ∈ gW := gW_tb 899 (by decide +kernel) rfl
theorem w_900 : (Cond.fieldLink "java/lang/Throwable" (13 : Nat) "java/lang/Throwable" "UNASSIGNED_STACK" "[Ljava/lang/StackTraceElement;") ∈ gW := gW_tb 900 (by decide +kernel) rfl
theorem w_902 : (Cond.fieldLink "java/lang/Throwable" (20 : Nat) "java/lang/Throwable" "SUPPRESSED_SENTINEL" "Ljava/util/List;") ∈ gW := gW_tb 902 (by decide +kernel) rfl
theorem w_904 : (Cond.methodLink "java/lang/Throwable" (27 : Nat) ({ cls := "java/lang/Throwable", name := "fillInStackTrace", desc := "()Ljava/lang/Throwable;" } : MethodName)) ∈ gW := gW_tb 904 (by decide +kernel) rfl
theorem w_905 : (Cond.instanceMethod ({ cls := "java/lang/Throwable", name := "fillInStackTrace", desc := "()Ljava/lang/Throwable;" } : MethodName)) ∈ gW := gW_tb 905 (by decide +kernel) rfl
theorem w_906 : (Cond.sameMethod "java/lang/Throwable" "java/lang/Throwable" "fillInStackTrace" "()Ljava/lang/Throwable;") ∈ gW := gW_tb 906 (by decide +kernel) rfl
theorem w_907 : (Cond.selects "java/lang/IllegalStateException" ({ cls := "java/lang/Throwable", name := "fillInStackTrace", desc := "()Ljava/lang/Throwable;" } : MethodName) ({ cls := "java/lang/Throwable", name := "fillInStackTrace", desc := "()Ljava/lang/Throwable;" } : MethodName)) ∈ gW := gW_tb 907 (by decide +kernel) rfl
theorem w_908 : (Cond.selects "java/lang/IndexOutOfBoundsException" ({ cls := "java/lang/Throwable", name := "fillInStackTrace", desc := "()Ljava/lang/Throwable;" } : MethodName) ({ cls := "java/lang/Throwable", name := "fillInStackTrace", desc := "()Ljava/lang/Throwable;" } : MethodName)) ∈ gW := gW_tb 908 (by decide +kernel) rfl
theorem w_909 : (Cond.selects "java/lang/UnsupportedOperationException" ({ cls := "java/lang/Throwable", name := "fillInStackTrace", desc := "()Ljava/lang/Throwable;" } : MethodName) ({ cls := "java/lang/Throwable", name := "fillInStackTrace", desc := "()Ljava/lang/Throwable;" } : MethodName)) ∈ gW := gW_tb 909 (by decide +kernel) rfl
theorem w_910 : (Cond.selects "java/util/NoSuchElementException" ({ cls := "java/lang/Throwable", name := "fillInStackTrace", desc := "()Ljava/lang/Throwable;" } : MethodName) ({ cls := "java/lang/Throwable", name := "fillInStackTrace", desc := "()Ljava/lang/Throwable;" } : MethodName)) ∈ gW := gW_tb 910 (by decide +kernel) rfl
theorem w_911 : (Cond.codeSync ({ cls := "java/lang/Throwable", name := "fillInStackTrace", desc := "()Ljava/lang/Throwable;" } : MethodName) prog_29_method_18_code (1 : Nat) (Option.some (FieldType.object "java/lang/Throwable"))) ∈ gW := gW_tb 911 (by decide +kernel) rfl
theorem w_912 : (Cond.methodLink "java/lang/Throwable" (202 : Nat) ({ cls := "java/lang/Throwable", name := "fillInStackTrace", desc := "(I)Ljava/lang/Throwable;" } : MethodName)) ∈ gW := gW_tb 912 (by decide +kernel) rfl
theorem w_914 : (Cond.instanceMethod ({ cls := "java/lang/Throwable", name := "fillInStackTrace", desc := "(I)Ljava/lang/Throwable;" } : MethodName)) ∈ gW := gW_tb 914 (by decide +kernel) rfl
theorem w_915 : (Cond.instantiable "java/lang/Throwable" (6 : Nat)) ∈ gW := gW_tb 915 (by decide +kernel) rfl
theorem w_916 : (Cond.native ({ cls := "java/lang/Throwable", name := "fillInStackTrace", desc := "(I)Ljava/lang/Throwable;" } : MethodName)) ∈ gW := gW_tb 916 (by decide +kernel) rfl
theorem w_918 : (Cond.methodLink "BiteYears" (122 : Nat) ({ cls := "java/lang/IllegalArgumentException", name := "<init>", desc := "(Ljava/lang/String;)V" } : MethodName)) ∈ gW := gW_tb 918 (by decide +kernel) rfl
theorem w_919 : (Cond.instanceMethod ({ cls := "java/lang/IllegalArgumentException", name := "<init>", desc := "(Ljava/lang/String;)V" } : MethodName)) ∈ gW := gW_tb 919 (by decide +kernel) rfl
theorem w_920 : (Cond.code ({ cls := "java/lang/IllegalArgumentException", name := "<init>", desc := "(Ljava/lang/String;)V" } : MethodName) prog_19_method_2_code (2 : Nat) (Option.none : Option FieldType)) ∈ gW := gW_tb 920 (by decide +kernel) rfl
theorem w_921 : (Cond.methodLink "java/lang/IllegalArgumentException" (7 : Nat) ({ cls := "java/lang/RuntimeException", name := "<init>", desc := "(Ljava/lang/String;)V" } : MethodName)) ∈ gW := gW_tb 921 (by decide +kernel) rfl
theorem w_922 : (Cond.instanceMethod ({ cls := "java/lang/RuntimeException", name := "<init>", desc := "(Ljava/lang/String;)V" } : MethodName)) ∈ gW := gW_tb 922 (by decide +kernel) rfl
theorem w_923 : (Cond.code ({ cls := "java/lang/RuntimeException", name := "<init>", desc := "(Ljava/lang/String;)V" } : MethodName) prog_24_method_2_code (2 : Nat) (Option.none : Option FieldType)) ∈ gW := gW_tb 923 (by decide +kernel) rfl
theorem w_924 : (Cond.methodLink "java/lang/RuntimeException" (7 : Nat) ({ cls := "java/lang/Exception", name := "<init>", desc := "(Ljava/lang/String;)V" } : MethodName)) ∈ gW := gW_tb 924 (by decide +kernel) rfl
theorem w_925 : (Cond.instanceMethod ({ cls := "java/lang/Exception", name := "<init>", desc := "(Ljava/lang/String;)V" } : MethodName)) ∈ gW := gW_tb 925 (by decide +kernel) rfl
theorem w_926 : (Cond.code ({ cls := "java/lang/Exception", name := "<init>", desc := "(Ljava/lang/String;)V" } : MethodName) prog_18_method_2_code (2 : Nat) (Option.none : Option FieldType)) ∈ gW := gW_tb 926 (by decide +kernel) rfl
theorem w_927 : (Cond.methodLink "java/lang/Exception" (7 : Nat) ({ cls := "java/lang/Throwable", name := "<init>", desc := "(Ljava/lang/String;)V" } : MethodName)) ∈ gW := gW_tb 927 (by decide +kernel) rfl
theorem w_928 : (Cond.instanceMethod ({ cls := "java/lang/Throwable", name := "<init>", desc := "(Ljava/lang/String;)V" } : MethodName)) ∈ gW := gW_tb 928 (by decide +kernel) rfl
theorem w_929 : (Cond.code ({ cls := "java/lang/Throwable", name := "<init>", desc := "(Ljava/lang/String;)V" } : MethodName) prog_29_method_2_code (2 : Nat) (Option.none : Option FieldType)) ∈ gW := gW_tb 929 (by decide +kernel) rfl
theorem w_930 : (Cond.fieldLink "java/lang/Throwable" (198 : Nat) "java/lang/Throwable" "backtrace" "Ljava/lang/Object;") ∈ gW := gW_tb 930 (by decide +kernel) rfl
theorem w_931 : (Cond.fieldLink "java/lang/Throwable" (31 : Nat) "java/lang/Throwable" "detailMessage" "Ljava/lang/String;") ∈ gW := gW_tb 931 (by decide +kernel) rfl
theorem w_932 : (Cond.fieldLink "java/lang/Throwable" (7 : Nat) "java/lang/Throwable" "cause" "Ljava/lang/Throwable;") ∈ gW := gW_tb 932 (by decide +kernel) rfl
theorem w_933 : (Cond.fieldLink "java/lang/Throwable" (17 : Nat) "java/lang/Throwable" "stackTrace" "[Ljava/lang/StackTraceElement;") ∈ gW := gW_tb 933 (by decide +kernel) rfl
theorem w_934 : (Cond.fieldLink "java/lang/Throwable" (24 : Nat) "java/lang/Throwable" "suppressedExceptions" "Ljava/util/List;") ∈ gW := gW_tb 934 (by decide +kernel) rfl
theorem w_939 : (Cond.lays "java/lang/IllegalArgumentException" "java/lang/Throwable" "depth" "I") ∈ gW := gW_tb 939 (by decide +kernel) rfl
theorem w_942 : (Cond.superclass "java/lang/IllegalArgumentException" "java/lang/RuntimeException") ∈ gW := gW_tb 942 (by decide +kernel) rfl
theorem w_943 : (Cond.arrayClass FieldType.byte) ∈ gW := gW_tb 943 (by decide +kernel) rfl
theorem w_944 : (Cond.classLink "BiteYears" (128 : Nat) "java/lang/UnsupportedOperationException") ∈ gW := gW_tb 944 (by decide +kernel) rfl
theorem w_945 : (Cond.instantiable "java/lang/UnsupportedOperationException" (6 : Nat)) ∈ gW := gW_tb 945 (by decide +kernel) rfl
theorem w_947 : (Cond.selects "java/lang/UnsupportedOperationException" ({ cls := "java/lang/Throwable", name := "fillInStackTrace", desc := "(I)Ljava/lang/Throwable;" } : MethodName) ({ cls := "java/lang/Throwable", name := "fillInStackTrace", desc := "(I)Ljava/lang/Throwable;" } : MethodName)) ∈ gW := gW_tb 947 (by decide +kernel) rfl
theorem w_948 : (Cond.lays "java/lang/UnsupportedOperationException" "java/lang/Throwable" "cause" "Ljava/lang/Throwable;") ∈ gW := gW_tb 948 (by decide +kernel) rfl
theorem w_949 : (Cond.lays "java/lang/UnsupportedOperationException" "java/lang/Throwable" "stackTrace" "[Ljava/lang/StackTraceElement;") ∈ gW := gW_tb 949 (by decide +kernel) rfl
theorem w_950 : (Cond.lays "java/lang/UnsupportedOperationException" "java/lang/Throwable" "suppressedExceptions" "Ljava/util/List;") ∈ gW := gW_tb 950 (by decide +kernel) rfl
theorem w_951 : (Cond.lays "java/lang/UnsupportedOperationException" "java/lang/Throwable" "detailMessage" "Ljava/lang/String;") ∈ gW := gW_tb 951 (by decide +kernel) rfl
theorem w_952 : (Cond.lays "java/lang/UnsupportedOperationException" "java/lang/Throwable" "backtrace" "Ljava/lang/Object;") ∈ gW := gW_tb 952 (by decide +kernel) rfl
theorem w_954 : (Cond.methodLink "BiteYears" (132 : Nat) ({ cls := "java/lang/UnsupportedOperationException", name := "<init>", desc := "(Ljava/lang/String;)V" } : MethodName)) ∈ gW := gW_tb 954 (by decide +kernel) rfl
theorem w_955 : (Cond.instanceMethod ({ cls := "java/lang/UnsupportedOperationException", name := "<init>", desc := "(Ljava/lang/String;)V" } : MethodName)) ∈ gW := gW_tb 955 (by decide +kernel) rfl
theorem w_956 : (Cond.code ({ cls := "java/lang/UnsupportedOperationException", name := "<init>", desc := "(Ljava/lang/String;)V" } : MethodName) prog_30_method_2_code (2 : Nat) (Option.none : Option FieldType)) ∈ gW := gW_tb 956 (by decide +kernel) rfl
theorem w_957 : (Cond.methodLink "java/lang/UnsupportedOperationException" (7 : Nat) ({ cls := "java/lang/RuntimeException", name := "<init>", desc := "(Ljava/lang/String;)V" } : MethodName)) ∈ gW := gW_tb 957 (by decide +kernel) rfl
theorem w_958 : (Cond.lays "java/lang/UnsupportedOperationException" "java/lang/Throwable" "depth" "I") ∈ gW := gW_tb 958 (by decide +kernel) rfl
theorem w_959 : (Cond.superclass "java/lang/UnsupportedOperationException" "java/lang/RuntimeException") ∈ gW := gW_tb 959 (by decide +kernel) rfl
theorem w_960 : (Cond.methodLink "BiteYearsLaw" (131 : Nat) ({ cls := "BiteYearsLaw", name := "law", desc := "(LBiteYears;[J)I" } : MethodName)) ∈ gW := gW_tb 960 (by decide +kernel) rfl
theorem w_961 : (Cond.static ({ cls := "BiteYearsLaw", name := "law", desc := "(LBiteYears;[J)I" } : MethodName)) ∈ gW := gW_tb 961 (by decide +kernel) rfl
theorem w_962 : (Cond.codeWith ({ cls := "BiteYearsLaw", name := "law", desc := "(LBiteYears;[J)I" } : MethodName) method_4_code (3 : Nat) (Option.some FieldType.int) [((0 : Nat), (8 : Nat), (11 : Nat), (13 : Nat))]) ∈ gW := gW_tb 962 (by decide +kernel) rfl
theorem w_963 : (Cond.methodLink "BiteYearsLaw" (17 : Nat) ({ cls := "BiteYears", name := "law", desc := "()I" } : MethodName)) ∈ gW := gW_tb 963 (by decide +kernel) rfl
theorem w_964 : (Cond.instanceMethod ({ cls := "BiteYears", name := "law", desc := "()I" } : MethodName)) ∈ gW := gW_tb 964 (by decide +kernel) rfl
theorem w_965 : (Cond.selects "BiteYears" ({ cls := "BiteYears", name := "law", desc := "()I" } : MethodName) ({ cls := "BiteYears", name := "law", desc := "()I" } : MethodName)) ∈ gW := gW_tb 965 (by decide +kernel) rfl
theorem w_966 : (Cond.code ({ cls := "BiteYears", name := "law", desc := "()I" } : MethodName) prog_1_method_8_code (1 : Nat) (Option.some FieldType.int)) ∈ gW := gW_tb 966 (by decide +kernel) rfl
theorem w_967 : (Cond.methodLink "BiteYears" (138 : Nat) ({ cls := "BiteYears$Law", name := "clear", desc := "()V" } : MethodName)) ∈ gW := gW_tb 967 (by decide +kernel) rfl
theorem w_968 : (Cond.instanceMethod ({ cls := "BiteYears$Law", name := "clear", desc := "()V" } : MethodName)) ∈ gW := gW_tb 968 (by decide +kernel) rfl
theorem w_969 : (Cond.selects "BiteYears$Law" ({ cls := "BiteYears$Law", name := "clear", desc := "()V" } : MethodName) ({ cls := "BiteYears$Law", name := "clear", desc := "()V" } : MethodName)) ∈ gW := gW_tb 969 (by decide +kernel) rfl
theorem w_970 : (Cond.code ({ cls := "BiteYears$Law", name := "clear", desc := "()V" } : MethodName) prog_6_method_2_code (1 : Nat) (Option.none : Option FieldType)) ∈ gW := gW_tb 970 (by decide +kernel) rfl
theorem w_971 : (Cond.methodLink "BiteYears" (139 : Nat) ({ cls := "BiteYears$LawText", name := "firstWrong", desc := "([III)I" } : MethodName)) ∈ gW := gW_tb 971 (by decide +kernel) rfl
theorem w_972 : (Cond.sameMethod "BiteYears$LawText" "BiteYears$Text" "firstWrong" "([III)I") ∈ gW := gW_tb 972 (by decide +kernel) rfl
theorem w_973 : (Cond.selects "BiteYears$LawText" ({ cls := "BiteYears$LawText", name := "firstWrong", desc := "([III)I" } : MethodName) ({ cls := "BiteYears$Text", name := "firstWrong", desc := "([III)I" } : MethodName)) ∈ gW := gW_tb 973 (by decide +kernel) rfl
theorem w_975 : (Cond.methodLink "BiteYearsLaw" (138 : Nat) ({ cls := "BiteYearsLaw", name := "dish", desc := "(LBiteYears;II[J)I" } : MethodName)) ∈ gW := gW_tb 975 (by decide +kernel) rfl
theorem w_976 : (Cond.static ({ cls := "BiteYearsLaw", name := "dish", desc := "(LBiteYears;II[J)I" } : MethodName)) ∈ gW := gW_tb 976 (by decide +kernel) rfl
theorem w_977 : (Cond.codeWith ({ cls := "BiteYearsLaw", name := "dish", desc := "(LBiteYears;II[J)I" } : MethodName) method_5_code (5 : Nat) (Option.some FieldType.int) [((0 : Nat), (10 : Nat), (13 : Nat), (24 : Nat)), ((0 : Nat), (10 : Nat), (17 : Nat), (26 : Nat))]) ∈ gW := gW_tb 977 (by decide +kernel) rfl
theorem w_978 : (Cond.classLink "BiteYearsLaw" (24 : Nat) "java/lang/IndexOutOfBoundsException") ∈ gW := gW_tb 978 (by decide +kernel) rfl
theorem w_979 : (Cond.classLink "BiteYearsLaw" (26 : Nat) "java/util/NoSuchElementException") ∈ gW := gW_tb 979 (by decide +kernel) rfl
theorem w_980 : (Cond.methodLink "BiteYearsLaw" (20 : Nat) ({ cls := "BiteYears", name := "dish", desc := "(II)I" } : MethodName)) ∈ gW := gW_tb 980 (by decide +kernel) rfl
theorem w_981 : (Cond.instanceMethod ({ cls := "BiteYears", name := "dish", desc := "(II)I" } : MethodName)) ∈ gW := gW_tb 981 (by decide +kernel) rfl
theorem w_982 : (Cond.selects "BiteYears" ({ cls := "BiteYears", name := "dish", desc := "(II)I" } : MethodName) ({ cls := "BiteYears", name := "dish", desc := "(II)I" } : MethodName)) ∈ gW := gW_tb 982 (by decide +kernel) rfl
theorem w_983 : (Cond.code ({ cls := "BiteYears", name := "dish", desc := "(II)I" } : MethodName) prog_1_method_10_code (3 : Nat) (Option.some FieldType.int)) ∈ gW := gW_tb 983 (by decide +kernel) rfl
theorem w_984 : (Cond.methodLink "BiteYears" (152 : Nat) ({ cls := "BiteYears$Dishes", name := "has", desc := "(I)Z" } : MethodName)) ∈ gW := gW_tb 984 (by decide +kernel) rfl
theorem w_985 : (Cond.classLink "BiteYears" (158 : Nat) "java/lang/IndexOutOfBoundsException") ∈ gW := gW_tb 985 (by decide +kernel) rfl
theorem w_986 : (Cond.instantiable "java/lang/IndexOutOfBoundsException" (6 : Nat)) ∈ gW := gW_tb 986 (by decide +kernel) rfl
theorem w_988 : (Cond.selects "java/lang/IndexOutOfBoundsException" ({ cls := "java/lang/Throwable", name := "fillInStackTrace", desc := "(I)Ljava/lang/Throwable;" } : MethodName) ({ cls := "java/lang/Throwable", name := "fillInStackTrace", desc := "(I)Ljava/lang/Throwable;" } : MethodName)) ∈ gW := gW_tb 988 (by decide +kernel) rfl
theorem w_989 : (Cond.lays "java/lang/IndexOutOfBoundsException" "java/lang/Throwable" "cause" "Ljava/lang/Throwable;") ∈ gW := gW_tb 989 (by decide +kernel) rfl
theorem w_990 : (Cond.lays "java/lang/IndexOutOfBoundsException" "java/lang/Throwable" "stackTrace" "[Ljava/lang/StackTraceElement;") ∈ gW := gW_tb 990 (by decide +kernel) rfl
theorem w_991 : (Cond.lays "java/lang/IndexOutOfBoundsException" "java/lang/Throwable" "suppressedExceptions" "Ljava/util/List;") ∈ gW := gW_tb 991 (by decide +kernel) rfl
theorem w_992 : (Cond.lays "java/lang/IndexOutOfBoundsException" "java/lang/Throwable" "detailMessage" "Ljava/lang/String;") ∈ gW := gW_tb 992 (by decide +kernel) rfl
theorem w_993 : (Cond.lays "java/lang/IndexOutOfBoundsException" "java/lang/Throwable" "backtrace" "Ljava/lang/Object;") ∈ gW := gW_tb 993 (by decide +kernel) rfl
theorem w_995 : (Cond.methodLink "BiteYears" (162 : Nat) ({ cls := "java/lang/IndexOutOfBoundsException", name := "<init>", desc := "(Ljava/lang/String;)V" } : MethodName)) ∈ gW := gW_tb 995 (by decide +kernel) rfl
theorem w_996 : (Cond.instanceMethod ({ cls := "java/lang/IndexOutOfBoundsException", name := "<init>", desc := "(Ljava/lang/String;)V" } : MethodName)) ∈ gW := gW_tb 996 (by decide +kernel) rfl
theorem w_997 : (Cond.code ({ cls := "java/lang/IndexOutOfBoundsException", name := "<init>", desc := "(Ljava/lang/String;)V" } : MethodName) prog_21_method_2_code (2 : Nat) (Option.none : Option FieldType)) ∈ gW := gW_tb 997 (by decide +kernel) rfl
theorem w_998 : (Cond.methodLink "java/lang/IndexOutOfBoundsException" (7 : Nat) ({ cls := "java/lang/RuntimeException", name := "<init>", desc := "(Ljava/lang/String;)V" } : MethodName)) ∈ gW := gW_tb 998 (by decide +kernel) rfl
theorem w_999 : (Cond.lays "java/lang/IndexOutOfBoundsException" "java/lang/Throwable" "depth" "I") ∈ gW := gW_tb 999 (by decide +kernel) rfl
theorem w_1000 : (Cond.superclass "java/lang/IndexOutOfBoundsException" "java/lang/RuntimeException") ∈ gW := gW_tb 1000 (by decide +kernel) rfl
theorem w_1001 : (Cond.classLink "BiteYears" (163 : Nat) "java/util/NoSuchElementException") ∈ gW := gW_tb 1001 (by decide +kernel) rfl
theorem w_1002 : (Cond.instantiable "java/util/NoSuchElementException" (6 : Nat)) ∈ gW := gW_tb 1002 (by decide +kernel) rfl
theorem w_1004 : (Cond.selects "java/util/NoSuchElementException" ({ cls := "java/lang/Throwable", name := "fillInStackTrace", desc := "(I)Ljava/lang/Throwable;" } : MethodName) ({ cls := "java/lang/Throwable", name := "fillInStackTrace", desc := "(I)Ljava/lang/Throwable;" } : MethodName)) ∈ gW := gW_tb 1004 (by decide +kernel) rfl
theorem w_1005 : (Cond.lays "java/util/NoSuchElementException" "java/lang/Throwable" "cause" "Ljava/lang/Throwable;") ∈ gW := gW_tb 1005 (by decide +kernel) rfl
theorem w_1006 : (Cond.lays "java/util/NoSuchElementException" "java/lang/Throwable" "stackTrace" "[Ljava/lang/StackTraceElement;") ∈ gW := gW_tb 1006 (by decide +kernel) rfl
theorem w_1007 : (Cond.lays "java/util/NoSuchElementException" "java/lang/Throwable" "suppressedExceptions" "Ljava/util/List;") ∈ gW := gW_tb 1007 (by decide +kernel) rfl
theorem w_1008 : (Cond.lays "java/util/NoSuchElementException" "java/lang/Throwable" "detailMessage" "Ljava/lang/String;") ∈ gW := gW_tb 1008 (by decide +kernel) rfl
theorem w_1009 : (Cond.lays "java/util/NoSuchElementException" "java/lang/Throwable" "backtrace" "Ljava/lang/Object;") ∈ gW := gW_tb 1009 (by decide +kernel) rfl
theorem w_1011 : (Cond.methodLink "BiteYears" (167 : Nat) ({ cls := "java/util/NoSuchElementException", name := "<init>", desc := "(Ljava/lang/String;)V" } : MethodName)) ∈ gW := gW_tb 1011 (by decide +kernel) rfl
theorem w_1012 : (Cond.instanceMethod ({ cls := "java/util/NoSuchElementException", name := "<init>", desc := "(Ljava/lang/String;)V" } : MethodName)) ∈ gW := gW_tb 1012 (by decide +kernel) rfl
theorem w_1013 : (Cond.code ({ cls := "java/util/NoSuchElementException", name := "<init>", desc := "(Ljava/lang/String;)V" } : MethodName) prog_33_method_4_code (2 : Nat) (Option.none : Option FieldType)) ∈ gW := gW_tb 1013 (by decide +kernel) rfl
theorem w_1014 : (Cond.methodLink "java/util/NoSuchElementException" (13 : Nat) ({ cls := "java/lang/RuntimeException", name := "<init>", desc := "(Ljava/lang/String;)V" } : MethodName)) ∈ gW := gW_tb 1014 (by decide +kernel) rfl
theorem w_1015 : (Cond.lays "java/util/NoSuchElementException" "java/lang/Throwable" "depth" "I") ∈ gW := gW_tb 1015 (by decide +kernel) rfl
theorem w_1016 : (Cond.superclass "java/util/NoSuchElementException" "java/lang/RuntimeException") ∈ gW := gW_tb 1016 (by decide +kernel) rfl
theorem w_1017 : (Cond.methodLink "BiteYears" (183 : Nat) ({ cls := "BiteYears$Dishes", name := "calledUp", desc := "(II)I" } : MethodName)) ∈ gW := gW_tb 1017 (by decide +kernel) rfl
theorem w_1018 : (Cond.methodLink "BiteYears" (191 : Nat) ({ cls := "BiteYears", name := "paysNow", desc := "(I)I" } : MethodName)) ∈ gW := gW_tb 1018 (by decide +kernel) rfl
theorem w_1020 : (Cond.instanceMethod ({ cls := "BiteYears", name := "paysNow", desc := "(I)I" } : MethodName)) ∈ gW := gW_tb 1020 (by decide +kernel) rfl
theorem w_1021 : (Cond.code ({ cls := "BiteYears", name := "paysNow", desc := "(I)I" } : MethodName) prog_1_method_12_code (2 : Nat) (Option.some FieldType.int)) ∈ gW := gW_tb 1021 (by decide +kernel) rfl
theorem w_1022 : (Cond.methodLink "BiteYearsLaw" (142 : Nat) ({ cls := "BiteYearsLaw", name := "far", desc := "(LBiteYears;II[J)I" } : MethodName)) ∈ gW := gW_tb 1022 (by decide +kernel) rfl
theorem w_1023 : (Cond.static ({ cls := "BiteYearsLaw", name := "far", desc := "(LBiteYears;II[J)I" } : MethodName)) ∈ gW := gW_tb 1023 (by decide +kernel) rfl
theorem w_1024 : (Cond.codeWith ({ cls := "BiteYearsLaw", name := "far", desc := "(LBiteYears;II[J)I" } : MethodName) method_6_code (5 : Nat) (Option.some FieldType.int) [((0 : Nat), (10 : Nat), (13 : Nat), (24 : Nat))]) ∈ gW := gW_tb 1024 (by decide +kernel) rfl
theorem w_1025 : (Cond.methodLink "BiteYearsLaw" (28 : Nat) ({ cls := "BiteYears", name := "far", desc := "(II)I" } : MethodName)) ∈ gW := gW_tb 1025 (by decide +kernel) rfl
theorem w_1026 : (Cond.instanceMethod ({ cls := "BiteYears", name := "far", desc := "(II)I" } : MethodName)) ∈ gW := gW_tb 1026 (by decide +kernel) rfl
theorem w_1027 : (Cond.selects "BiteYears" ({ cls := "BiteYears", name := "far", desc := "(II)I" } : MethodName) ({ cls := "BiteYears", name := "far", desc := "(II)I" } : MethodName)) ∈ gW := gW_tb 1027 (by decide +kernel) rfl
theorem w_1028 : (Cond.code ({ cls := "BiteYears", name := "far", desc := "(II)I" } : MethodName) prog_1_method_13_code (3 : Nat) (Option.some FieldType.int)) ∈ gW := gW_tb 1028 (by decide +kernel) rfl
theorem w_1029 : (Cond.methodLink "BiteYearsLaw" (145 : Nat) ({ cls := "BiteYearsLaw", name := "near", desc := "(LBiteYears;I[J)I" } : MethodName)) ∈ gW := gW_tb 1029 (by decide +kernel) rfl
theorem w_1030 : (Cond.static ({ cls := "BiteYearsLaw", name := "near", desc := "(LBiteYears;I[J)I" } : MethodName)) ∈ gW := gW_tb 1030 (by decide +kernel) rfl
theorem w_1031 : (Cond.codeWith ({ cls := "BiteYearsLaw", name := "near", desc := "(LBiteYears;I[J)I" } : MethodName) method_7_code (4 : Nat) (Option.some FieldType.int) [((0 : Nat), (9 : Nat), (12 : Nat), (24 : Nat))]) ∈ gW := gW_tb 1031 (by decide +kernel) rfl
theorem w_1032 : (Cond.methodLink "BiteYearsLaw" (31 : Nat) ({ cls := "BiteYears", name := "near", desc := "(I)I" } : MethodName)) ∈ gW := gW_tb 1032 (by decide +kernel) rfl
theorem w_1033 : (Cond.instanceMethod ({ cls := "BiteYears", name := "near", desc := "(I)I" } : MethodName)) ∈ gW := gW_tb 1033 (by decide +kernel) rfl
theorem w_1034 : (Cond.selects "BiteYears" ({ cls := "BiteYears", name := "near", desc := "(I)I" } : MethodName) ({ cls := "BiteYears", name := "near", desc := "(I)I" } : MethodName)) ∈ gW := gW_tb 1034 (by decide +kernel) rfl
theorem w_1035 : (Cond.code ({ cls := "BiteYears", name := "near", desc := "(I)I" } : MethodName) prog_1_method_14_code (4 : Nat) (Option.some FieldType.int)) ∈ gW := gW_tb 1035 (by decide +kernel) rfl
theorem w_1036 : (Cond.methodLink "BiteYearsLaw" (153 : Nat) ({ cls := "BiteYearsLaw", name := "spoon", desc := "(LBiteYears;I[J)I" } : MethodName)) ∈ gW := gW_tb 1036 (by decide +kernel) rfl
theorem w_1037 : (Cond.static ({ cls := "BiteYearsLaw", name := "spoon", desc := "(LBiteYears;I[J)I" } : MethodName)) ∈ gW := gW_tb 1037 (by decide +kernel) rfl
theorem w_1038 : (Cond.codeWith ({ cls := "BiteYearsLaw", name := "spoon", desc := "(LBiteYears;I[J)I" } : MethodName) method_8_code (4 : Nat) (Option.some FieldType.int) [((0 : Nat), (9 : Nat), (12 : Nat), (24 : Nat)), ((0 : Nat), (9 : Nat), (15 : Nat), (38 : Nat))]) ∈ gW := gW_tb 1038 (by decide +kernel) rfl
theorem w_1039 : (Cond.classLink "BiteYearsLaw" (38 : Nat) "java/lang/IllegalStateException") ∈ gW := gW_tb 1039 (by decide +kernel) rfl
theorem w_1040 : (Cond.methodLink "BiteYearsLaw" (35 : Nat) ({ cls := "BiteYears", name := "spoon", desc := "(I)I" } : MethodName)) ∈ gW := gW_tb 1040 (by decide +kernel) rfl
theorem w_1041 : (Cond.instanceMethod ({ cls := "BiteYears", name := "spoon", desc := "(I)I" } : MethodName)) ∈ gW := gW_tb 1041 (by decide +kernel) rfl
theorem w_1042 : (Cond.selects "BiteYears" ({ cls := "BiteYears", name := "spoon", desc := "(I)I" } : MethodName) ({ cls := "BiteYears", name := "spoon", desc := "(I)I" } : MethodName)) ∈ gW := gW_tb 1042 (by decide +kernel) rfl
theorem w_1043 : (Cond.code ({ cls := "BiteYears", name := "spoon", desc := "(I)I" } : MethodName) prog_1_method_16_code (2 : Nat) (Option.some FieldType.int)) ∈ gW := gW_tb 1043 (by decide +kernel) rfl
theorem w_1044 : (Cond.classLink "BiteYears" (223 : Nat) "java/lang/IllegalStateException") ∈ gW := gW_tb 1044 (by decide +kernel) rfl
theorem w_1045 : (Cond.instantiable "java/lang/IllegalStateException" (6 : Nat)) ∈ gW := gW_tb 1045 (by decide +kernel) rfl
theorem w_1047 : (Cond.selects "java/lang/IllegalStateException" ({ cls := "java/lang/Throwable", name := "fillInStackTrace", desc := "(I)Ljava/lang/Throwable;" } : MethodName) ({ cls := "java/lang/Throwable", name := "fillInStackTrace", desc := "(I)Ljava/lang/Throwable;" } : MethodName)) ∈ gW := gW_tb 1047 (by decide +kernel) rfl
theorem w_1048 : (Cond.lays "java/lang/IllegalStateException" "java/lang/Throwable" "cause" "Ljava/lang/Throwable;") ∈ gW := gW_tb 1048 (by decide +kernel) rfl
theorem w_1049 : (Cond.lays "java/lang/IllegalStateException" "java/lang/Throwable" "stackTrace" "[Ljava/lang/StackTraceElement;") ∈ gW := gW_tb 1049 (by decide +kernel) rfl
theorem w_1050 : (Cond.lays "java/lang/IllegalStateException" "java/lang/Throwable" "suppressedExceptions" "Ljava/util/List;") ∈ gW := gW_tb 1050 (by decide +kernel) rfl
theorem w_1051 : (Cond.lays "java/lang/IllegalStateException" "java/lang/Throwable" "detailMessage" "Ljava/lang/String;") ∈ gW := gW_tb 1051 (by decide +kernel) rfl
theorem w_1052 : (Cond.lays "java/lang/IllegalStateException" "java/lang/Throwable" "backtrace" "Ljava/lang/Object;") ∈ gW := gW_tb 1052 (by decide +kernel) rfl
theorem w_1054 : (Cond.methodLink "BiteYears" (227 : Nat) ({ cls := "java/lang/IllegalStateException", name := "<init>", desc := "(Ljava/lang/String;)V" } : MethodName)) ∈ gW := gW_tb 1054 (by decide +kernel) rfl
theorem w_1055 : (Cond.instanceMethod ({ cls := "java/lang/IllegalStateException", name := "<init>", desc := "(Ljava/lang/String;)V" } : MethodName)) ∈ gW := gW_tb 1055 (by decide +kernel) rfl
theorem w_1056 : (Cond.code ({ cls := "java/lang/IllegalStateException", name := "<init>", desc := "(Ljava/lang/String;)V" } : MethodName) prog_20_method_2_code (2 : Nat) (Option.none : Option FieldType)) ∈ gW := gW_tb 1056 (by decide +kernel) rfl
theorem w_1057 : (Cond.methodLink "java/lang/IllegalStateException" (7 : Nat) ({ cls := "java/lang/RuntimeException", name := "<init>", desc := "(Ljava/lang/String;)V" } : MethodName)) ∈ gW := gW_tb 1057 (by decide +kernel) rfl
theorem w_1058 : (Cond.lays "java/lang/IllegalStateException" "java/lang/Throwable" "depth" "I") ∈ gW := gW_tb 1058 (by decide +kernel) rfl
theorem w_1059 : (Cond.superclass "java/lang/IllegalStateException" "java/lang/RuntimeException") ∈ gW := gW_tb 1059 (by decide +kernel) rfl
theorem w_1060 : (Cond.methodLink "BiteYears" (232 : Nat) ({ cls := "BiteYears$Lady", name := "bite", desc := "(ILBiteYears$Law;LBiteYears$Served;)V" } : MethodName)) ∈ gW := gW_tb 1060 (by decide +kernel) rfl
theorem w_1061 : (Cond.instanceMethod ({ cls := "BiteYears$Lady", name := "bite", desc := "(ILBiteYears$Law;LBiteYears$Served;)V" } : MethodName)) ∈ gW := gW_tb 1061 (by decide +kernel) rfl
theorem w_1062 : (Cond.selects "BiteYears$Lady" ({ cls := "BiteYears$Lady", name := "bite", desc := "(ILBiteYears$Law;LBiteYears$Served;)V" } : MethodName) ({ cls := "BiteYears$Lady", name := "bite", desc := "(ILBiteYears$Law;LBiteYears$Served;)V" } : MethodName)) ∈ gW := gW_tb 1062 (by decide +kernel) rfl
theorem w_1063 : (Cond.code ({ cls := "BiteYears$Lady", name := "bite", desc := "(ILBiteYears$Law;LBiteYears$Served;)V" } : MethodName) prog_5_method_3_code (4 : Nat) (Option.none : Option FieldType)) ∈ gW := gW_tb 1063 (by decide +kernel) rfl
theorem w_1064 : (Cond.methodLink "BiteYears$Lady" (65 : Nat) ({ cls := "BiteYears$Served", name := "put", desc := "(LBiteYears$Lady;I)V" } : MethodName)) ∈ gW := gW_tb 1064 (by decide +kernel) rfl
theorem w_1065 : (Cond.methodLink "BiteYears$Lady" (71 : Nat) ({ cls := "BiteYears$Law", name := "weigh", desc := "(LBiteYears$Served;)V" } : MethodName)) ∈ gW := gW_tb 1065 (by decide +kernel) rfl
theorem w_1066 : (Cond.methodLink "BiteYears$Lady" (89 : Nat) ({ cls := "java/lang/Math", name := "max", desc := "(II)I" } : MethodName)) ∈ gW := gW_tb 1066 (by decide +kernel) rfl
theorem w_1067 : (Cond.methodLink "BiteYears$Lady" (96 : Nat) ({ cls := "BiteYears$Dishes", name := "isHad", desc := "(I)Z" } : MethodName)) ∈ gW := gW_tb 1067 (by decide +kernel) rfl
theorem w_1068 : (Cond.methodLink "BiteYears$Lady" (99 : Nat) ({ cls := "BiteYears$Dishes", name := "tell", desc := "(IIII)V" } : MethodName)) ∈ gW := gW_tb 1068 (by decide +kernel) rfl
theorem w_1069 : (Cond.methodLink "BiteYears" (245 : Nat) ({ cls := "BiteYears$Log", name := "write", desc := "(IIII)V" } : MethodName)) ∈ gW := gW_tb 1069 (by decide +kernel) rfl
theorem w_1070 : (Cond.instanceMethod ({ cls := "BiteYears$Log", name := "write", desc := "(IIII)V" } : MethodName)) ∈ gW := gW_tb 1070 (by decide +kernel) rfl
theorem w_1071 : (Cond.selects "BiteYears$Log" ({ cls := "BiteYears$Log", name := "write", desc := "(IIII)V" } : MethodName) ({ cls := "BiteYears$Log", name := "write", desc := "(IIII)V" } : MethodName)) ∈ gW := gW_tb 1071 (by decide +kernel) rfl
theorem w_1072 : (Cond.code ({ cls := "BiteYears$Log", name := "write", desc := "(IIII)V" } : MethodName) prog_9_method_2_code (6 : Nat) (Option.none : Option FieldType)) ∈ gW := gW_tb 1072 (by decide +kernel) rfl
theorem w_1073 : (Cond.methodLink "BiteYears$Log" (22 : Nat) ({ cls := "java/lang/Math", name := "min", desc := "(II)I" } : MethodName)) ∈ gW := gW_tb 1073 (by decide +kernel) rfl
theorem w_1074 : (Cond.methodLink "BiteYearsLaw" (160 : Nat) ({ cls := "BiteYearsLaw", name := "had", desc := "(LBiteYears;IIII[J)I" } : MethodName)) ∈ gW := gW_tb 1074 (by decide +kernel) rfl
theorem w_1075 : (Cond.static ({ cls := "BiteYearsLaw", name := "had", desc := "(LBiteYears;IIII[J)I" } : MethodName)) ∈ gW := gW_tb 1075 (by decide +kernel) rfl
theorem w_1076 : (Cond.codeWith ({ cls := "BiteYearsLaw", name := "had", desc := "(LBiteYears;IIII[J)I" } : MethodName) method_9_code (7 : Nat) (Option.some FieldType.int) [((0 : Nat), (14 : Nat), (17 : Nat), (24 : Nat)), ((0 : Nat), (14 : Nat), (21 : Nat), (13 : Nat))]) ∈ gW := gW_tb 1076 (by decide +kernel) rfl
theorem w_1077 : (Cond.methodLink "BiteYearsLaw" (40 : Nat) ({ cls := "BiteYears", name := "had", desc := "(IIII)I" } : MethodName)) ∈ gW := gW_tb 1077 (by decide +kernel) rfl
theorem w_1078 : (Cond.instanceMethod ({ cls := "BiteYears", name := "had", desc := "(IIII)I" } : MethodName)) ∈ gW := gW_tb 1078 (by decide +kernel) rfl
theorem w_1079 : (Cond.selects "BiteYears" ({ cls := "BiteYears", name := "had", desc := "(IIII)I" } : MethodName) ({ cls := "BiteYears", name := "had", desc := "(IIII)I" } : MethodName)) ∈ gW := gW_tb 1079 (by decide +kernel) rfl
theorem w_1080 : (Cond.code ({ cls := "BiteYears", name := "had", desc := "(IIII)I" } : MethodName) prog_1_method_18_code (6 : Nat) (Option.some FieldType.int)) ∈ gW := gW_tb 1080 (by decide +kernel) rfl
theorem w_1081 : (Cond.methodLink "BiteYears" (255 : Nat) ({ cls := "BiteYears", name := "isPlace", desc := "(I)Z" } : MethodName)) ∈ gW := gW_tb 1081 (by decide +kernel) rfl
theorem w_1082 : (Cond.static ({ cls := "BiteYears", name := "isPlace", desc := "(I)Z" } : MethodName)) ∈ gW := gW_tb 1082 (by decide +kernel) rfl
theorem w_1083 : (Cond.code ({ cls := "BiteYears", name := "isPlace", desc := "(I)Z" } : MethodName) prog_1_method_22_code (1 : Nat) (Option.some FieldType.boolean)) ∈ gW := gW_tb 1083 (by decide +kernel) rfl
theorem w_1086 : (Cond.methodLink "BiteYears" (262 : Nat) ({ cls := "BiteYears$Dishes", name := "tell", desc := "(IIII)V" } : MethodName)) ∈ gW := gW_tb 1086 (by decide +kernel) rfl
theorem w_1087 : (Cond.methodLink "BiteYearsLaw" (164 : Nat) ({ cls := "BiteYearsLaw", name := "forget", desc := "(LBiteYears;I[J)I" } : MethodName)) ∈ gW := gW_tb 1087 (by decide +kernel) rfl
theorem w_1088 : (Cond.static ({ cls := "BiteYearsLaw", name := "forget", desc := "(LBiteYears;I[J)I" } : MethodName)) ∈ gW := gW_tb 1088 (by decide +kernel) rfl
theorem w_1089 : (Cond.codeWith ({ cls := "BiteYearsLaw", name := "forget", desc := "(LBiteYears;I[J)I" } : MethodName) method_10_code (4 : Nat) (Option.some FieldType.int) [((0 : Nat), (9 : Nat), (12 : Nat), (24 : Nat)), ((0 : Nat), (9 : Nat), (15 : Nat), (38 : Nat))]) ∈ gW := gW_tb 1089 (by decide +kernel) rfl
theorem w_1090 : (Cond.methodLink "BiteYearsLaw" (44 : Nat) ({ cls := "BiteYears", name := "forget", desc := "(I)I" } : MethodName)) ∈ gW := gW_tb 1090 (by decide +kernel) rfl
theorem w_1091 : (Cond.instanceMethod ({ cls := "BiteYears", name := "forget", desc := "(I)I" } : MethodName)) ∈ gW := gW_tb 1091 (by decide +kernel) rfl
theorem w_1092 : (Cond.selects "BiteYears" ({ cls := "BiteYears", name := "forget", desc := "(I)I" } : MethodName) ({ cls := "BiteYears", name := "forget", desc := "(I)I" } : MethodName)) ∈ gW := gW_tb 1092 (by decide +kernel) rfl
theorem w_1093 : (Cond.code ({ cls := "BiteYears", name := "forget", desc := "(I)I" } : MethodName) prog_1_method_19_code (3 : Nat) (Option.some FieldType.int)) ∈ gW := gW_tb 1093 (by decide +kernel) rfl
theorem w_1095 : (Cond.methodLink "BiteYearsLaw" (167 : Nat) ({ cls := "BiteYearsLaw", name := "reach", desc := "(LBiteYears;I[J)I" } : MethodName)) ∈ gW := gW_tb 1095 (by decide +kernel) rfl
theorem w_1096 : (Cond.static ({ cls := "BiteYearsLaw", name := "reach", desc := "(LBiteYears;I[J)I" } : MethodName)) ∈ gW := gW_tb 1096 (by decide +kernel) rfl
theorem w_1097 : (Cond.codeWith ({ cls := "BiteYearsLaw", name := "reach", desc := "(LBiteYears;I[J)I" } : MethodName) method_11_code (4 : Nat) (Option.some FieldType.int) [((0 : Nat), (9 : Nat), (12 : Nat), (13 : Nat))]) ∈ gW := gW_tb 1097 (by decide +kernel) rfl
theorem w_1098 : (Cond.methodLink "BiteYearsLaw" (47 : Nat) ({ cls := "BiteYears", name := "reach", desc := "(I)I" } : MethodName)) ∈ gW := gW_tb 1098 (by decide +kernel) rfl
theorem w_1099 : (Cond.instanceMethod ({ cls := "BiteYears", name := "reach", desc := "(I)I" } : MethodName)) ∈ gW := gW_tb 1099 (by decide +kernel) rfl
theorem w_1100 : (Cond.selects "BiteYears" ({ cls := "BiteYears", name := "reach", desc := "(I)I" } : MethodName) ({ cls := "BiteYears", name := "reach", desc := "(I)I" } : MethodName)) ∈ gW := gW_tb 1100 (by decide +kernel) rfl
theorem w_1101 : (Cond.code ({ cls := "BiteYears", name := "reach", desc := "(I)I" } : MethodName) prog_1_method_20_code (3 : Nat) (Option.some FieldType.int)) ∈ gW := gW_tb 1101 (by decide +kernel) rfl
theorem w_1103 : (Cond.methodLink "BiteYearsLaw" (170 : Nat) ({ cls := "BiteYearsLaw", name := "house", desc := "(LBiteYears;I[J)I" } : MethodName)) ∈ gW := gW_tb 1103 (by decide +kernel) rfl
theorem w_1104 : (Cond.static ({ cls := "BiteYearsLaw", name := "house", desc := "(LBiteYears;I[J)I" } : MethodName)) ∈ gW := gW_tb 1104 (by decide +kernel) rfl
theorem w_1105 : (Cond.codeWith ({ cls := "BiteYearsLaw", name := "house", desc := "(LBiteYears;I[J)I" } : MethodName) method_12_code (4 : Nat) (Option.some FieldType.int) [((0 : Nat), (9 : Nat), (12 : Nat), (24 : Nat))]) ∈ gW := gW_tb 1105 (by decide +kernel) rfl
theorem w_1106 : (Cond.methodLink "BiteYearsLaw" (50 : Nat) ({ cls := "BiteYears", name := "house", desc := "(I)I" } : MethodName)) ∈ gW := gW_tb 1106 (by decide +kernel) rfl
theorem w_1107 : (Cond.instanceMethod ({ cls := "BiteYears", name := "house", desc := "(I)I" } : MethodName)) ∈ gW := gW_tb 1107 (by decide +kernel) rfl
theorem w_1108 : (Cond.selects "BiteYears" ({ cls := "BiteYears", name := "house", desc := "(I)I" } : MethodName) ({ cls := "BiteYears", name := "house", desc := "(I)I" } : MethodName)) ∈ gW := gW_tb 1108 (by decide +kernel) rfl
theorem w_1109 : (Cond.code ({ cls := "BiteYears", name := "house", desc := "(I)I" } : MethodName) prog_1_method_21_code (3 : Nat) (Option.some FieldType.int)) ∈ gW := gW_tb 1109 (by decide +kernel) rfl
theorem w_1111 : (Cond.methodLink "BiteYearsLaw" (177 : Nat) ({ cls := "BiteYearsLaw", name := "evenings", desc := "(LBiteYears;I[J)I" } : MethodName)) ∈ gW := gW_tb 1111 (by decide +kernel) rfl
theorem w_1112 : (Cond.static ({ cls := "BiteYearsLaw", name := "evenings", desc := "(LBiteYears;I[J)I" } : MethodName)) ∈ gW := gW_tb 1112 (by decide +kernel) rfl
theorem w_1113 : (Cond.codeWith ({ cls := "BiteYearsLaw", name := "evenings", desc := "(LBiteYears;I[J)I" } : MethodName) method_13_code (4 : Nat) (Option.some FieldType.int) [((0 : Nat), (9 : Nat), (12 : Nat), (13 : Nat))]) ∈ gW := gW_tb 1113 (by decide +kernel) rfl
theorem w_1114 : (Cond.methodLink "BiteYearsLaw" (53 : Nat) ({ cls := "BiteYears", name := "evenings", desc := "(I)I" } : MethodName)) ∈ gW := gW_tb 1114 (by decide +kernel) rfl
theorem w_1115 : (Cond.instanceMethod ({ cls := "BiteYears", name := "evenings", desc := "(I)I" } : MethodName)) ∈ gW := gW_tb 1115 (by decide +kernel) rfl
theorem w_1116 : (Cond.selects "BiteYears" ({ cls := "BiteYears", name := "evenings", desc := "(I)I" } : MethodName) ({ cls := "BiteYears", name := "evenings", desc := "(I)I" } : MethodName)) ∈ gW := gW_tb 1116 (by decide +kernel) rfl
theorem w_1117 : (Cond.code ({ cls := "BiteYears", name := "evenings", desc := "(I)I" } : MethodName) prog_1_method_24_code (4 : Nat) (Option.some FieldType.int)) ∈ gW := gW_tb 1117 (by decide +kernel) rfl
theorem w_1119 : (Cond.methodLink "BiteYears" (285 : Nat) ({ cls := "BiteYears", name := "passEvening", desc := "(LBiteYears$Lady;Z)I" } : MethodName)) ∈ gW := gW_tb 1119 (by decide +kernel) rfl
theorem w_1121 : (Cond.instanceMethod ({ cls := "BiteYears", name := "passEvening", desc := "(LBiteYears$Lady;Z)I" } : MethodName)) ∈ gW := gW_tb 1121 (by decide +kernel) rfl
theorem w_1122 : (Cond.code ({ cls := "BiteYears", name := "passEvening", desc := "(LBiteYears$Lady;Z)I" } : MethodName) prog_1_method_25_code (7 : Nat) (Option.some FieldType.int)) ∈ gW := gW_tb 1122 (by decide +kernel) rfl
theorem w_1123 : (Cond.methodLink "BiteYears" (289 : Nat) ({ cls := "BiteYears$Lady", name := "drawSpoons", desc := "()I" } : MethodName)) ∈ gW := gW_tb 1123 (by decide +kernel) rfl
theorem w_1124 : (Cond.instanceMethod ({ cls := "BiteYears$Lady", name := "drawSpoons", desc := "()I" } : MethodName)) ∈ gW := gW_tb 1124 (by decide +kernel) rfl
theorem w_1125 : (Cond.selects "BiteYears$Lady" ({ cls := "BiteYears$Lady", name := "drawSpoons", desc := "()I" } : MethodName) ({ cls := "BiteYears$Lady", name := "drawSpoons", desc := "()I" } : MethodName)) ∈ gW := gW_tb 1125 (by decide +kernel) rfl
theorem w_1126 : (Cond.code ({ cls := "BiteYears$Lady", name := "drawSpoons", desc := "()I" } : MethodName) prog_5_method_6_code (2 : Nat) (Option.some FieldType.int)) ∈ gW := gW_tb 1126 (by decide +kernel) rfl
theorem w_1127 : (Cond.methodLink "BiteYears$Lady" (104 : Nat) ({ cls := "BiteYears$Lady", name := "draw", desc := "()I" } : MethodName)) ∈ gW := gW_tb 1127 (by decide +kernel) rfl
theorem w_1128 : (Cond.methodLink "BiteYears" (292 : Nat) ({ cls := "BiteYears$Lady", name := "drawDish", desc := "()I" } : MethodName)) ∈ gW := gW_tb 1128 (by decide +kernel) rfl
theorem w_1129 : (Cond.instanceMethod ({ cls := "BiteYears$Lady", name := "drawDish", desc := "()I" } : MethodName)) ∈ gW := gW_tb 1129 (by decide +kernel) rfl
theorem w_1130 : (Cond.selects "BiteYears$Lady" ({ cls := "BiteYears$Lady", name := "drawDish", desc := "()I" } : MethodName) ({ cls := "BiteYears$Lady", name := "drawDish", desc := "()I" } : MethodName)) ∈ gW := gW_tb 1130 (by decide +kernel) rfl
theorem w_1131 : (Cond.code ({ cls := "BiteYears$Lady", name := "drawDish", desc := "()I" } : MethodName) prog_5_method_7_code (1 : Nat) (Option.some FieldType.int)) ∈ gW := gW_tb 1131 (by decide +kernel) rfl
theorem w_1132 : (Cond.methodLink "BiteYears" (295 : Nat) ({ cls := "BiteYears$Lady", name := "takes", desc := "(I)Z" } : MethodName)) ∈ gW := gW_tb 1132 (by decide +kernel) rfl
theorem w_1133 : (Cond.instanceMethod ({ cls := "BiteYears$Lady", name := "takes", desc := "(I)Z" } : MethodName)) ∈ gW := gW_tb 1133 (by decide +kernel) rfl
theorem w_1134 : (Cond.selects "BiteYears$Lady" ({ cls := "BiteYears$Lady", name := "takes", desc := "(I)Z" } : MethodName) ({ cls := "BiteYears$Lady", name := "takes", desc := "(I)Z" } : MethodName)) ∈ gW := gW_tb 1134 (by decide +kernel) rfl
theorem w_1135 : (Cond.code ({ cls := "BiteYears$Lady", name := "takes", desc := "(I)Z" } : MethodName) prog_5_method_2_code (2 : Nat) (Option.some FieldType.boolean)) ∈ gW := gW_tb 1135 (by decide +kernel) rfl
theorem w_1136 : (Cond.methodLink "BiteYears$Lady" (61 : Nat) ({ cls := "BiteYears$Dishes", name := "has", desc := "(I)Z" } : MethodName)) ∈ gW := gW_tb 1136 (by decide +kernel) rfl
theorem w_1137 : (Cond.methodLink "BiteYearsLaw" (180 : Nat) ({ cls := "BiteYearsLaw", name := "menu", desc := "(LBiteYears;I[J)I" } : MethodName)) ∈ gW := gW_tb 1137 (by decide +kernel) rfl
theorem w_1138 : (Cond.static ({ cls := "BiteYearsLaw", name := "menu", desc := "(LBiteYears;I[J)I" } : MethodName)) ∈ gW := gW_tb 1138 (by decide +kernel) rfl
theorem w_1139 : (Cond.codeWith ({ cls := "BiteYearsLaw", name := "menu", desc := "(LBiteYears;I[J)I" } : MethodName) method_14_code (4 : Nat) (Option.some FieldType.int) [((0 : Nat), (9 : Nat), (12 : Nat), (13 : Nat)), ((0 : Nat), (9 : Nat), (15 : Nat), (26 : Nat))]) ∈ gW := gW_tb 1139 (by decide +kernel) rfl
theorem w_1140 : (Cond.methodLink "BiteYearsLaw" (56 : Nat) ({ cls := "BiteYears", name := "menu", desc := "(I)I" } : MethodName)) ∈ gW := gW_tb 1140 (by decide +kernel) rfl
theorem w_1141 : (Cond.instanceMethod ({ cls := "BiteYears", name := "menu", desc := "(I)I" } : MethodName)) ∈ gW := gW_tb 1141 (by decide +kernel) rfl
theorem w_1142 : (Cond.selects "BiteYears" ({ cls := "BiteYears", name := "menu", desc := "(I)I" } : MethodName) ({ cls := "BiteYears", name := "menu", desc := "(I)I" } : MethodName)) ∈ gW := gW_tb 1142 (by decide +kernel) rfl
theorem w_1143 : (Cond.code ({ cls := "BiteYears", name := "menu", desc := "(I)I" } : MethodName) prog_1_method_26_code (6 : Nat) (Option.some FieldType.int)) ∈ gW := gW_tb 1143 (by decide +kernel) rfl
theorem w_1144 : (Cond.methodLink "BiteYears" (298 : Nat) ({ cls := "BiteYears", name := "toldAtMost", desc := "(II)Z" } : MethodName)) ∈ gW := gW_tb 1144 (by decide +kernel) rfl
theorem w_1146 : (Cond.instanceMethod ({ cls := "BiteYears", name := "toldAtMost", desc := "(II)Z" } : MethodName)) ∈ gW := gW_tb 1146 (by decide +kernel) rfl
theorem w_1147 : (Cond.code ({ cls := "BiteYears", name := "toldAtMost", desc := "(II)Z" } : MethodName) prog_1_method_6_code (4 : Nat) (Option.some FieldType.boolean)) ∈ gW := gW_tb 1147 (by decide +kernel) rfl
theorem w_1150 : (Cond.methodLink "BiteYearsLaw" (183 : Nat) ({ cls := "BiteYearsLaw", name := "fewest", desc := "(LBiteYears;II[J)I" } : MethodName)) ∈ gW := gW_tb 1150 (by decide +kernel) rfl
theorem w_1151 : (Cond.static ({ cls := "BiteYearsLaw", name := "fewest", desc := "(LBiteYears;II[J)I" } : MethodName)) ∈ gW := gW_tb 1151 (by decide +kernel) rfl
theorem w_1152 : (Cond.codeWith ({ cls := "BiteYearsLaw", name := "fewest", desc := "(LBiteYears;II[J)I" } : MethodName) method_15_code (5 : Nat) (Option.some FieldType.int) [((0 : Nat), (10 : Nat), (13 : Nat), (13 : Nat))]) ∈ gW := gW_tb 1152 (by decide +kernel) rfl
theorem w_1153 : (Cond.methodLink "BiteYearsLaw" (59 : Nat) ({ cls := "BiteYears", name := "fewest", desc := "(II)I" } : MethodName)) ∈ gW := gW_tb 1153 (by decide +kernel) rfl
theorem w_1154 : (Cond.instanceMethod ({ cls := "BiteYears", name := "fewest", desc := "(II)I" } : MethodName)) ∈ gW := gW_tb 1154 (by decide +kernel) rfl
theorem w_1155 : (Cond.selects "BiteYears" ({ cls := "BiteYears", name := "fewest", desc := "(II)I" } : MethodName) ({ cls := "BiteYears", name := "fewest", desc := "(II)I" } : MethodName)) ∈ gW := gW_tb 1155 (by decide +kernel) rfl
theorem w_1156 : (Cond.code ({ cls := "BiteYears", name := "fewest", desc := "(II)I" } : MethodName) prog_1_method_27_code (6 : Nat) (Option.some FieldType.int)) ∈ gW := gW_tb 1156 (by decide +kernel) rfl
theorem w_1158 : (Cond.methodLink "BiteYears" (308 : Nat) ({ cls := "BiteYears$Dishes", name := "leastOfAge", desc := "(I)I" } : MethodName)) ∈ gW := gW_tb 1158 (by decide +kernel) rfl
theorem w_1159 : (Cond.instanceMethod ({ cls := "BiteYears$Dishes", name := "leastOfAge", desc := "(I)I" } : MethodName)) ∈ gW := gW_tb 1159 (by decide +kernel) rfl
theorem w_1160 : (Cond.selects "BiteYears$Dishes" ({ cls := "BiteYears$Dishes", name := "leastOfAge", desc := "(I)I" } : MethodName) ({ cls := "BiteYears$Dishes", name := "leastOfAge", desc := "(I)I" } : MethodName)) ∈ gW := gW_tb 1160 (by decide +kernel) rfl
theorem w_1161 : (Cond.code ({ cls := "BiteYears$Dishes", name := "leastOfAge", desc := "(I)I" } : MethodName) prog_3_method_12_code (4 : Nat) (Option.some FieldType.int)) ∈ gW := gW_tb 1161 (by decide +kernel) rfl
theorem w_1162 : (Cond.methodLink "BiteYears$Dishes" (42 : Nat) ({ cls := "BiteYears$Dishes", name := "inAge", desc := "(I)I" } : MethodName)) ∈ gW := gW_tb 1162 (by decide +kernel) rfl
theorem w_1163 : (Cond.instanceMethod ({ cls := "BiteYears$Dishes", name := "inAge", desc := "(I)I" } : MethodName)) ∈ gW := gW_tb 1163 (by decide +kernel) rfl
theorem w_1164 : (Cond.selects "BiteYears$Dishes" ({ cls := "BiteYears$Dishes", name := "inAge", desc := "(I)I" } : MethodName) ({ cls := "BiteYears$Dishes", name := "inAge", desc := "(I)I" } : MethodName)) ∈ gW := gW_tb 1164 (by decide +kernel) rfl
theorem w_1165 : (Cond.code ({ cls := "BiteYears$Dishes", name := "inAge", desc := "(I)I" } : MethodName) prog_3_method_11_code (2 : Nat) (Option.some FieldType.int)) ∈ gW := gW_tb 1165 (by decide +kernel) rfl
theorem w_1166 : (Cond.methodLink "BiteYearsLaw" (186 : Nat) ({ cls := "BiteYearsLaw", name := "order", desc := "(LBiteYears;II[J)I" } : MethodName)) ∈ gW := gW_tb 1166 (by decide +kernel) rfl
theorem w_1167 : (Cond.static ({ cls := "BiteYearsLaw", name := "order", desc := "(LBiteYears;II[J)I" } : MethodName)) ∈ gW := gW_tb 1167 (by decide +kernel) rfl
theorem w_1168 : (Cond.codeWith ({ cls := "BiteYearsLaw", name := "order", desc := "(LBiteYears;II[J)I" } : MethodName) method_16_code (5 : Nat) (Option.some FieldType.int) [((0 : Nat), (10 : Nat), (13 : Nat), (13 : Nat))]) ∈ gW := gW_tb 1168 (by decide +kernel) rfl
theorem w_1169 : (Cond.methodLink "BiteYearsLaw" (62 : Nat) ({ cls := "BiteYears", name := "order", desc := "(II)I" } : MethodName)) ∈ gW := gW_tb 1169 (by decide +kernel) rfl
theorem w_1170 : (Cond.instanceMethod ({ cls := "BiteYears", name := "order", desc := "(II)I" } : MethodName)) ∈ gW := gW_tb 1170 (by decide +kernel) rfl
theorem w_1171 : (Cond.selects "BiteYears" ({ cls := "BiteYears", name := "order", desc := "(II)I" } : MethodName) ({ cls := "BiteYears", name := "order", desc := "(II)I" } : MethodName)) ∈ gW := gW_tb 1171 (by decide +kernel) rfl
theorem w_1172 : (Cond.code ({ cls := "BiteYears", name := "order", desc := "(II)I" } : MethodName) prog_1_method_28_code (4 : Nat) (Option.some FieldType.int)) ∈ gW := gW_tb 1172 (by decide +kernel) rfl
theorem w_1174 : (Cond.methodLink "BiteYears" (318 : Nat) ({ cls := "BiteYears$Orders", name := "search", desc := "(LBiteYears$Lady;ILBiteYears$Law;LBiteYears$Served;)V" } : MethodName)) ∈ gW := gW_tb 1174 (by decide +kernel) rfl
theorem w_1175 : (Cond.instanceMethod ({ cls := "BiteYears$Orders", name := "search", desc := "(LBiteYears$Lady;ILBiteYears$Law;LBiteYears$Served;)V" } : MethodName)) ∈ gW := gW_tb 1175 (by decide +kernel) rfl
theorem w_1176 : (Cond.selects "BiteYears$Orders" ({ cls := "BiteYears$Orders", name := "search", desc := "(LBiteYears$Lady;ILBiteYears$Law;LBiteYears$Served;)V" } : MethodName) ({ cls := "BiteYears$Orders", name := "search", desc := "(LBiteYears$Lady;ILBiteYears$Law;LBiteYears$Served;)V" } : MethodName)) ∈ gW := gW_tb 1176 (by decide +kernel) rfl
theorem w_1177 : (Cond.code ({ cls := "BiteYears$Orders", name := "search", desc := "(LBiteYears$Lady;ILBiteYears$Law;LBiteYears$Served;)V" } : MethodName) prog_10_method_2_code (5 : Nat) (Option.none : Option FieldType)) ∈ gW := gW_tb 1177 (by decide +kernel) rfl
theorem w_1178 : (Cond.methodLink "BiteYears$Orders" (32 : Nat) ({ cls := "java/lang/Integer", name := "bitCount", desc := "(I)I" } : MethodName)) ∈ gW := gW_tb 1178 (by decide +kernel) rfl
theorem w_1179 : (Cond.methodLink "BiteYears$Orders" (38 : Nat) ({ cls := "java/lang/Math", name := "min", desc := "(II)I" } : MethodName)) ∈ gW := gW_tb 1179 (by decide +kernel) rfl
theorem w_1180 : (Cond.methodLink "BiteYears$Orders" (44 : Nat) ({ cls := "BiteYears$Lady", name := "copy", desc := "(LBiteYears$Lady;)V" } : MethodName)) ∈ gW := gW_tb 1180 (by decide +kernel) rfl
theorem w_1181 : (Cond.methodLink "BiteYears$Orders" (51 : Nat) ({ cls := "BiteYears$Orders", name := "goOn", desc := "(IIILBiteYears$Law;LBiteYears$Served;)V" } : MethodName)) ∈ gW := gW_tb 1181 (by decide +kernel) rfl
theorem w_1183 : (Cond.instanceMethod ({ cls := "BiteYears$Orders", name := "goOn", desc := "(IIILBiteYears$Law;LBiteYears$Served;)V" } : MethodName)) ∈ gW := gW_tb 1183 (by decide +kernel) rfl
theorem w_1184 : (Cond.code ({ cls := "BiteYears$Orders", name := "goOn", desc := "(IIILBiteYears$Law;LBiteYears$Served;)V" } : MethodName) prog_10_method_3_code (8 : Nat) (Option.none : Option FieldType)) ∈ gW := gW_tb 1184 (by decide +kernel) rfl
theorem w_1185 : (Cond.methodLink "BiteYears$Orders" (55 : Nat) ({ cls := "java/lang/System", name := "arraycopy", desc := "(Ljava/lang/Object;ILjava/lang/Object;II)V" } : MethodName)) ∈ gW := gW_tb 1185 (by decide +kernel) rfl
theorem w_1186 : (Cond.methodLink "BiteYears$Orders" (61 : Nat) ({ cls := "BiteYears$Lady", name := "takes", desc := "(I)Z" } : MethodName)) ∈ gW := gW_tb 1186 (by decide +kernel) rfl
theorem w_1187 : (Cond.methodLink "BiteYears$Orders" (65 : Nat) ({ cls := "BiteYears$Lady", name := "bite", desc := "(ILBiteYears$Law;LBiteYears$Served;)V" } : MethodName)) ∈ gW := gW_tb 1187 (by decide +kernel) rfl
theorem w_1188 : (Cond.methodLink "BiteYears$Orders" (69 : Nat) ({ cls := "java/lang/Math", name := "max", desc := "(II)I" } : MethodName)) ∈ gW := gW_tb 1188 (by decide +kernel) rfl
theorem w_1189 : (Cond.methodLink "BiteYears" (325 : Nat) ({ cls := "BiteYears$Orders", name := "nth", desc := "(I)I" } : MethodName)) ∈ gW := gW_tb 1189 (by decide +kernel) rfl
theorem w_1190 : (Cond.instanceMethod ({ cls := "BiteYears$Orders", name := "nth", desc := "(I)I" } : MethodName)) ∈ gW := gW_tb 1190 (by decide +kernel) rfl
theorem w_1191 : (Cond.selects "BiteYears$Orders" ({ cls := "BiteYears$Orders", name := "nth", desc := "(I)I" } : MethodName) ({ cls := "BiteYears$Orders", name := "nth", desc := "(I)I" } : MethodName)) ∈ gW := gW_tb 1191 (by decide +kernel) rfl
theorem w_1192 : (Cond.code ({ cls := "BiteYears$Orders", name := "nth", desc := "(I)I" } : MethodName) prog_10_method_4_code (2 : Nat) (Option.some FieldType.int)) ∈ gW := gW_tb 1192 (by decide +kernel) rfl
theorem w_1193 : (Cond.methodLink "BiteYearsLaw" (189 : Nat) ({ cls := "BiteYearsLaw", name := "he", desc := "(LBiteYears;[J)I" } : MethodName)) ∈ gW := gW_tb 1193 (by decide +kernel) rfl
theorem w_1194 : (Cond.static ({ cls := "BiteYearsLaw", name := "he", desc := "(LBiteYears;[J)I" } : MethodName)) ∈ gW := gW_tb 1194 (by decide +kernel) rfl
theorem w_1195 : (Cond.codeWith ({ cls := "BiteYearsLaw", name := "he", desc := "(LBiteYears;[J)I" } : MethodName) method_17_code (3 : Nat) (Option.some FieldType.int) [((0 : Nat), (8 : Nat), (11 : Nat), (13 : Nat))]) ∈ gW := gW_tb 1195 (by decide +kernel) rfl
theorem w_1196 : (Cond.methodLink "BiteYearsLaw" (65 : Nat) ({ cls := "BiteYears", name := "he", desc := "()I" } : MethodName)) ∈ gW := gW_tb 1196 (by decide +kernel) rfl
theorem w_1197 : (Cond.instanceMethod ({ cls := "BiteYears", name := "he", desc := "()I" } : MethodName)) ∈ gW := gW_tb 1197 (by decide +kernel) rfl
theorem w_1198 : (Cond.selects "BiteYears" ({ cls := "BiteYears", name := "he", desc := "()I" } : MethodName) ({ cls := "BiteYears", name := "he", desc := "()I" } : MethodName)) ∈ gW := gW_tb 1198 (by decide +kernel) rfl
theorem w_1199 : (Cond.code ({ cls := "BiteYears", name := "he", desc := "()I" } : MethodName) prog_1_method_29_code (4 : Nat) (Option.some FieldType.int)) ∈ gW := gW_tb 1199 (by decide +kernel) rfl
theorem w_1200 : (Cond.methodLink "BiteYears" (328 : Nat) ({ cls := "BiteYears", name := "arePairs", desc := "(I)Z" } : MethodName)) ∈ gW := gW_tb 1200 (by decide +kernel) rfl
theorem w_1202 : (Cond.instanceMethod ({ cls := "BiteYears", name := "arePairs", desc := "(I)Z" } : MethodName)) ∈ gW := gW_tb 1202 (by decide +kernel) rfl
theorem w_1203 : (Cond.code ({ cls := "BiteYears", name := "arePairs", desc := "(I)Z" } : MethodName) prog_1_method_30_code (3 : Nat) (Option.some FieldType.boolean)) ∈ gW := gW_tb 1203 (by decide +kernel) rfl
theorem w_1205 : (Cond.methodLink "BiteYears" (333 : Nat) ({ cls := "BiteYears$Dishes", name := "companyIn", desc := "(II)I" } : MethodName)) ∈ gW := gW_tb 1205 (by decide +kernel) rfl
theorem w_1206 : (Cond.instanceMethod ({ cls := "BiteYears$Dishes", name := "companyIn", desc := "(II)I" } : MethodName)) ∈ gW := gW_tb 1206 (by decide +kernel) rfl
theorem w_1207 : (Cond.selects "BiteYears$Dishes" ({ cls := "BiteYears$Dishes", name := "companyIn", desc := "(II)I" } : MethodName) ({ cls := "BiteYears$Dishes", name := "companyIn", desc := "(II)I" } : MethodName)) ∈ gW := gW_tb 1207 (by decide +kernel) rfl
theorem w_1208 : (Cond.code ({ cls := "BiteYears$Dishes", name := "companyIn", desc := "(II)I" } : MethodName) prog_3_method_15_code (6 : Nat) (Option.some FieldType.int)) ∈ gW := gW_tb 1208 (by decide +kernel) rfl
theorem w_1209 : (Cond.methodLink "BiteYears$Dishes" (46 : Nat) ({ cls := "BiteYears$Dishes", name := "hadAt", desc := "(I)I" } : MethodName)) ∈ gW := gW_tb 1209 (by decide +kernel) rfl
theorem w_1210 : (Cond.instanceMethod ({ cls := "BiteYears$Dishes", name := "hadAt", desc := "(I)I" } : MethodName)) ∈ gW := gW_tb 1210 (by decide +kernel) rfl
theorem w_1211 : (Cond.selects "BiteYears$Dishes" ({ cls := "BiteYears$Dishes", name := "hadAt", desc := "(I)I" } : MethodName) ({ cls := "BiteYears$Dishes", name := "hadAt", desc := "(I)I" } : MethodName)) ∈ gW := gW_tb 1211 (by decide +kernel) rfl
theorem w_1212 : (Cond.code ({ cls := "BiteYears$Dishes", name := "hadAt", desc := "(I)I" } : MethodName) prog_3_method_13_code (4 : Nat) (Option.some FieldType.int)) ∈ gW := gW_tb 1212 (by decide +kernel) rfl
theorem w_1213 : (Cond.methodLink "BiteYearsLaw" (192 : Nat) ({ cls := "BiteYearsLaw", name := "unknown", desc := "(LBiteYears;[J)I" } : MethodName)) ∈ gW := gW_tb 1213 (by decide +kernel) rfl
theorem w_1214 : (Cond.static ({ cls := "BiteYearsLaw", name := "unknown", desc := "(LBiteYears;[J)I" } : MethodName)) ∈ gW := gW_tb 1214 (by decide +kernel) rfl
theorem w_1215 : (Cond.codeWith ({ cls := "BiteYearsLaw", name := "unknown", desc := "(LBiteYears;[J)I" } : MethodName) method_18_code (3 : Nat) (Option.some FieldType.int) [((0 : Nat), (8 : Nat), (11 : Nat), (13 : Nat))]) ∈ gW := gW_tb 1215 (by decide +kernel) rfl
theorem w_1216 : (Cond.methodLink "BiteYearsLaw" (68 : Nat) ({ cls := "BiteYears", name := "unknown", desc := "()I" } : MethodName)) ∈ gW := gW_tb 1216 (by decide +kernel) rfl
theorem w_1217 : (Cond.instanceMethod ({ cls := "BiteYears", name := "unknown", desc := "()I" } : MethodName)) ∈ gW := gW_tb 1217 (by decide +kernel) rfl
theorem w_1218 : (Cond.selects "BiteYears" ({ cls := "BiteYears", name := "unknown", desc := "()I" } : MethodName) ({ cls := "BiteYears", name := "unknown", desc := "()I" } : MethodName)) ∈ gW := gW_tb 1218 (by decide +kernel) rfl
theorem w_1219 : (Cond.code ({ cls := "BiteYears", name := "unknown", desc := "()I" } : MethodName) prog_1_method_31_code (2 : Nat) (Option.some FieldType.int)) ∈ gW := gW_tb 1219 (by decide +kernel) rfl
theorem w_1221 : (Cond.methodLink "BiteYears" (338 : Nat) ({ cls := "BiteYears", name := "fitting", desc := "(I)I" } : MethodName)) ∈ gW := gW_tb 1221 (by decide +kernel) rfl
theorem w_1223 : (Cond.instanceMethod ({ cls := "BiteYears", name := "fitting", desc := "(I)I" } : MethodName)) ∈ gW := gW_tb 1223 (by decide +kernel) rfl
theorem w_1224 : (Cond.code ({ cls := "BiteYears", name := "fitting", desc := "(I)I" } : MethodName) prog_1_method_32_code (4 : Nat) (Option.some FieldType.int)) ∈ gW := gW_tb 1224 (by decide +kernel) rfl
theorem w_1225 : (Cond.methodLink "BiteYears" (341 : Nat) ({ cls := "BiteYears$Dishes", name := "inDecade", desc := "(I)I" } : MethodName)) ∈ gW := gW_tb 1225 (by decide +kernel) rfl
theorem w_1226 : (Cond.instanceMethod ({ cls := "BiteYears$Dishes", name := "inDecade", desc := "(I)I" } : MethodName)) ∈ gW := gW_tb 1226 (by decide +kernel) rfl
theorem w_1227 : (Cond.selects "BiteYears$Dishes" ({ cls := "BiteYears$Dishes", name := "inDecade", desc := "(I)I" } : MethodName) ({ cls := "BiteYears$Dishes", name := "inDecade", desc := "(I)I" } : MethodName)) ∈ gW := gW_tb 1227 (by decide +kernel) rfl
theorem w_1228 : (Cond.code ({ cls := "BiteYears$Dishes", name := "inDecade", desc := "(I)I" } : MethodName) prog_3_method_10_code (2 : Nat) (Option.some FieldType.int)) ∈ gW := gW_tb 1228 (by decide +kernel) rfl
theorem w_1229 : (Cond.methodLink "BiteYearsLaw" (195 : Nat) ({ cls := "BiteYearsLaw", name := "serve", desc := "(LBiteYears;[J)I" } : MethodName)) ∈ gW := gW_tb 1229 (by decide +kernel) rfl
theorem w_1230 : (Cond.static ({ cls := "BiteYearsLaw", name := "serve", desc := "(LBiteYears;[J)I" } : MethodName)) ∈ gW := gW_tb 1230 (by decide +kernel) rfl
theorem w_1231 : (Cond.codeWith ({ cls := "BiteYearsLaw", name := "serve", desc := "(LBiteYears;[J)I" } : MethodName) method_19_code (3 : Nat) (Option.some FieldType.int) [((0 : Nat), (8 : Nat), (11 : Nat), (13 : Nat))]) ∈ gW := gW_tb 1231 (by decide +kernel) rfl
theorem w_1232 : (Cond.methodLink "BiteYearsLaw" (71 : Nat) ({ cls := "BiteYears", name := "serve", desc := "()I" } : MethodName)) ∈ gW := gW_tb 1232 (by decide +kernel) rfl
theorem w_1233 : (Cond.instanceMethod ({ cls := "BiteYears", name := "serve", desc := "()I" } : MethodName)) ∈ gW := gW_tb 1233 (by decide +kernel) rfl
theorem w_1234 : (Cond.selects "BiteYears" ({ cls := "BiteYears", name := "serve", desc := "()I" } : MethodName) ({ cls := "BiteYears", name := "serve", desc := "()I" } : MethodName)) ∈ gW := gW_tb 1234 (by decide +kernel) rfl
theorem w_1235 : (Cond.code ({ cls := "BiteYears", name := "serve", desc := "()I" } : MethodName) prog_1_method_33_code (7 : Nat) (Option.some FieldType.int)) ∈ gW := gW_tb 1235 (by decide +kernel) rfl
theorem w_1236 : (Cond.methodLink "BiteYears" (344 : Nat) ({ cls := "BiteYears", name := "greaterPart", desc := "(II)I" } : MethodName)) ∈ gW := gW_tb 1236 (by decide +kernel) rfl
theorem w_1238 : (Cond.instanceMethod ({ cls := "BiteYears", name := "greaterPart", desc := "(II)I" } : MethodName)) ∈ gW := gW_tb 1238 (by decide +kernel) rfl
theorem w_1239 : (Cond.code ({ cls := "BiteYears", name := "greaterPart", desc := "(II)I" } : MethodName) prog_1_method_34_code (4 : Nat) (Option.some FieldType.int)) ∈ gW := gW_tb 1239 (by decide +kernel) rfl
theorem w_1240 : (Cond.methodLink "BiteYearsLaw" (198 : Nat) ({ cls := "BiteYearsLaw", name := "jars", desc := "(LBiteYears;I[J)I" } : MethodName)) ∈ gW := gW_tb 1240 (by decide +kernel) rfl
theorem w_1241 : (Cond.static ({ cls := "BiteYearsLaw", name := "jars", desc := "(LBiteYears;I[J)I" } : MethodName)) ∈ gW := gW_tb 1241 (by decide +kernel) rfl
theorem w_1242 : (Cond.codeWith ({ cls := "BiteYearsLaw", name := "jars", desc := "(LBiteYears;I[J)I" } : MethodName) method_20_code (4 : Nat) (Option.some FieldType.int) [((0 : Nat), (9 : Nat), (12 : Nat), (13 : Nat))]) ∈ gW := gW_tb 1242 (by decide +kernel) rfl
theorem w_1243 : (Cond.methodLink "BiteYearsLaw" (74 : Nat) ({ cls := "BiteYears", name := "jars", desc := "(I)I" } : MethodName)) ∈ gW := gW_tb 1243 (by decide +kernel) rfl
theorem w_1244 : (Cond.instanceMethod ({ cls := "BiteYears", name := "jars", desc := "(I)I" } : MethodName)) ∈ gW := gW_tb 1244 (by decide +kernel) rfl
theorem w_1245 : (Cond.selects "BiteYears" ({ cls := "BiteYears", name := "jars", desc := "(I)I" } : MethodName) ({ cls := "BiteYears", name := "jars", desc := "(I)I" } : MethodName)) ∈ gW := gW_tb 1245 (by decide +kernel) rfl
theorem w_1246 : (Cond.code ({ cls := "BiteYears", name := "jars", desc := "(I)I" } : MethodName) prog_1_method_35_code (3 : Nat) (Option.some FieldType.int)) ∈ gW := gW_tb 1246 (by decide +kernel) rfl
theorem w_1248 : (Cond.methodLink "BiteYears" (357 : Nat) ({ cls := "BiteYears$Jars", name := "search", desc := "([IILBiteYears$Dishes;)V" } : MethodName)) ∈ gW := gW_tb 1248 (by decide +kernel) rfl
theorem w_1249 : (Cond.instanceMethod ({ cls := "BiteYears$Jars", name := "search", desc := "([IILBiteYears$Dishes;)V" } : MethodName)) ∈ gW := gW_tb 1249 (by decide +kernel) rfl
theorem w_1250 : (Cond.selects "BiteYears$Jars" ({ cls := "BiteYears$Jars", name := "search", desc := "([IILBiteYears$Dishes;)V" } : MethodName) ({ cls := "BiteYears$Jars", name := "search", desc := "([IILBiteYears$Dishes;)V" } : MethodName)) ∈ gW := gW_tb 1250 (by decide +kernel) rfl
theorem w_1251 : (Cond.code ({ cls := "BiteYears$Jars", name := "search", desc := "([IILBiteYears$Dishes;)V" } : MethodName) prog_4_method_2_code (6 : Nat) (Option.none : Option FieldType)) ∈ gW := gW_tb 1251 (by decide +kernel) rfl
theorem w_1252 : (Cond.methodLink "BiteYears$Jars" (31 : Nat) ({ cls := "java/lang/Math", name := "min", desc := "(II)I" } : MethodName)) ∈ gW := gW_tb 1252 (by decide +kernel) rfl
theorem w_1253 : (Cond.methodLink "BiteYears$Jars" (42 : Nat) ({ cls := "BiteYears$Jars", name := "farFrom", desc := "([IILBiteYears$Dishes;I)I" } : MethodName)) ∈ gW := gW_tb 1253 (by decide +kernel) rfl
theorem w_1254 : (Cond.static ({ cls := "BiteYears$Jars", name := "farFrom", desc := "([IILBiteYears$Dishes;I)I" } : MethodName)) ∈ gW := gW_tb 1254 (by decide +kernel) rfl
theorem w_1255 : (Cond.code ({ cls := "BiteYears$Jars", name := "farFrom", desc := "([IILBiteYears$Dishes;I)I" } : MethodName) prog_4_method_3_code (7 : Nat) (Option.some FieldType.int)) ∈ gW := gW_tb 1255 (by decide +kernel) rfl
theorem w_1256 : (Cond.methodLink "BiteYears$Jars" (46 : Nat) ({ cls := "BiteYears$Jars", name := "goOn", desc := "(III)V" } : MethodName)) ∈ gW := gW_tb 1256 (by decide +kernel) rfl
theorem w_1258 : (Cond.instanceMethod ({ cls := "BiteYears$Jars", name := "goOn", desc := "(III)V" } : MethodName)) ∈ gW := gW_tb 1258 (by decide +kernel) rfl
theorem w_1259 : (Cond.code ({ cls := "BiteYears$Jars", name := "goOn", desc := "(III)V" } : MethodName) prog_4_method_4_code (5 : Nat) (Option.none : Option FieldType)) ∈ gW := gW_tb 1259 (by decide +kernel) rfl
theorem w_1260 : (Cond.methodLink "BiteYears$Jars" (53 : Nat) ({ cls := "java/lang/System", name := "arraycopy", desc := "(Ljava/lang/Object;ILjava/lang/Object;II)V" } : MethodName)) ∈ gW := gW_tb 1260 (by decide +kernel) rfl
theorem w_1261 : (Cond.methodLink "BiteYears$Jars" (59 : Nat) ({ cls := "BiteYears$Jars", name := "isWorthwhile", desc := "(II)Z" } : MethodName)) ∈ gW := gW_tb 1261 (by decide +kernel) rfl
theorem w_1263 : (Cond.instanceMethod ({ cls := "BiteYears$Jars", name := "isWorthwhile", desc := "(II)Z" } : MethodName)) ∈ gW := gW_tb 1263 (by decide +kernel) rfl
theorem w_1264 : (Cond.code ({ cls := "BiteYears$Jars", name := "isWorthwhile", desc := "(II)Z" } : MethodName) prog_4_method_5_code (7 : Nat) (Option.some FieldType.boolean)) ∈ gW := gW_tb 1264 (by decide +kernel) rfl
theorem w_1265 : (Cond.methodLink "BiteYears" (361 : Nat) ({ cls := "BiteYears$Jars", name := "nth", desc := "(I)I" } : MethodName)) ∈ gW := gW_tb 1265 (by decide +kernel) rfl
theorem w_1266 : (Cond.instanceMethod ({ cls := "BiteYears$Jars", name := "nth", desc := "(I)I" } : MethodName)) ∈ gW := gW_tb 1266 (by decide +kernel) rfl
theorem w_1267 : (Cond.selects "BiteYears$Jars" ({ cls := "BiteYears$Jars", name := "nth", desc := "(I)I" } : MethodName) ({ cls := "BiteYears$Jars", name := "nth", desc := "(I)I" } : MethodName)) ∈ gW := gW_tb 1267 (by decide +kernel) rfl
theorem w_1268 : (Cond.code ({ cls := "BiteYears$Jars", name := "nth", desc := "(I)I" } : MethodName) prog_4_method_6_code (2 : Nat) (Option.some FieldType.int)) ∈ gW := gW_tb 1268 (by decide +kernel) rfl
theorem w_1269 : (Cond.methodLink "BiteYearsLaw" (201 : Nat) ({ cls := "BiteYearsLaw", name := "kitchen", desc := "(LBiteYears;I[J)I" } : MethodName)) ∈ gW := gW_tb 1269 (by decide +kernel) rfl
theorem w_1270 : (Cond.static ({ cls := "BiteYearsLaw", name := "kitchen", desc := "(LBiteYears;I[J)I" } : MethodName)) ∈ gW := gW_tb 1270 (by decide +kernel) rfl
theorem w_1271 : (Cond.codeWith ({ cls := "BiteYearsLaw", name := "kitchen", desc := "(LBiteYears;I[J)I" } : MethodName) method_21_code (4 : Nat) (Option.some FieldType.int) [((0 : Nat), (9 : Nat), (12 : Nat), (24 : Nat))]) ∈ gW := gW_tb 1271 (by decide +kernel) rfl
theorem w_1272 : (Cond.methodLink "BiteYearsLaw" (77 : Nat) ({ cls := "BiteYears", name := "kitchen", desc := "(I)I" } : MethodName)) ∈ gW := gW_tb 1272 (by decide +kernel) rfl
theorem w_1273 : (Cond.instanceMethod ({ cls := "BiteYears", name := "kitchen", desc := "(I)I" } : MethodName)) ∈ gW := gW_tb 1273 (by decide +kernel) rfl
theorem w_1274 : (Cond.selects "BiteYears" ({ cls := "BiteYears", name := "kitchen", desc := "(I)I" } : MethodName) ({ cls := "BiteYears", name := "kitchen", desc := "(I)I" } : MethodName)) ∈ gW := gW_tb 1274 (by decide +kernel) rfl
theorem w_1275 : (Cond.code ({ cls := "BiteYears", name := "kitchen", desc := "(I)I" } : MethodName) prog_1_method_36_code (2 : Nat) (Option.some FieldType.int)) ∈ gW := gW_tb 1275 (by decide +kernel) rfl
theorem w_1276 : (Cond.methodLink "BiteYears" (362 : Nat) ({ cls := "BiteYears$Dishes", name := "hadAt", desc := "(I)I" } : MethodName)) ∈ gW := gW_tb 1276 (by decide +kernel) rfl
theorem w_1277 : (Cond.methodLink "BiteYearsLaw" (224 : Nat) ({ cls := "BiteYearsLaw", name := "hosts", desc := "(LBiteYears;II[J)I" } : MethodName)) ∈ gW := gW_tb 1277 (by decide +kernel) rfl
theorem w_1278 : (Cond.static ({ cls := "BiteYearsLaw", name := "hosts", desc := "(LBiteYears;II[J)I" } : MethodName)) ∈ gW := gW_tb 1278 (by decide +kernel) rfl
theorem w_1279 : (Cond.codeWith ({ cls := "BiteYearsLaw", name := "hosts", desc := "(LBiteYears;II[J)I" } : MethodName) method_22_code (5 : Nat) (Option.some FieldType.int) [((0 : Nat), (10 : Nat), (13 : Nat), (24 : Nat)), ((0 : Nat), (10 : Nat), (17 : Nat), (13 : Nat))]) ∈ gW := gW_tb 1279 (by decide +kernel) rfl
theorem w_1280 : (Cond.methodLink "BiteYearsLaw" (80 : Nat) ({ cls := "BiteYears", name := "hosts", desc := "(II)I" } : MethodName)) ∈ gW := gW_tb 1280 (by decide +kernel) rfl
theorem w_1281 : (Cond.instanceMethod ({ cls := "BiteYears", name := "hosts", desc := "(II)I" } : MethodName)) ∈ gW := gW_tb 1281 (by decide +kernel) rfl
theorem w_1282 : (Cond.selects "BiteYears" ({ cls := "BiteYears", name := "hosts", desc := "(II)I" } : MethodName) ({ cls := "BiteYears", name := "hosts", desc := "(II)I" } : MethodName)) ∈ gW := gW_tb 1282 (by decide +kernel) rfl
theorem w_1283 : (Cond.code ({ cls := "BiteYears", name := "hosts", desc := "(II)I" } : MethodName) prog_1_method_42_code (9 : Nat) (Option.some FieldType.int)) ∈ gW := gW_tb 1283 (by decide +kernel) rfl
theorem w_1285 : (Cond.methodLink "BiteYearsLaw" (227 : Nat) ({ cls := "BiteYearsLaw", name := "breaks", desc := "(LBiteYears;I[J)I" } : MethodName)) ∈ gW := gW_tb 1285 (by decide +kernel) rfl
theorem w_1286 : (Cond.static ({ cls := "BiteYearsLaw", name := "breaks", desc := "(LBiteYears;I[J)I" } : MethodName)) ∈ gW := gW_tb 1286 (by decide +kernel) rfl
theorem w_1287 : (Cond.codeWith ({ cls := "BiteYearsLaw", name := "breaks", desc := "(LBiteYears;I[J)I" } : MethodName) method_23_code (4 : Nat) (Option.some FieldType.int) [((0 : Nat), (9 : Nat), (12 : Nat), (24 : Nat))]) ∈ gW := gW_tb 1287 (by decide +kernel) rfl
theorem w_1288 : (Cond.methodLink "BiteYearsLaw" (83 : Nat) ({ cls := "BiteYears", name := "breaks", desc := "(I)I" } : MethodName)) ∈ gW := gW_tb 1288 (by decide +kernel) rfl
theorem w_1289 : (Cond.instanceMethod ({ cls := "BiteYears", name := "breaks", desc := "(I)I" } : MethodName)) ∈ gW := gW_tb 1289 (by decide +kernel) rfl
theorem w_1290 : (Cond.selects "BiteYears" ({ cls := "BiteYears", name := "breaks", desc := "(I)I" } : MethodName) ({ cls := "BiteYears", name := "breaks", desc := "(I)I" } : MethodName)) ∈ gW := gW_tb 1290 (by decide +kernel) rfl
theorem w_1291 : (Cond.code ({ cls := "BiteYears", name := "breaks", desc := "(I)I" } : MethodName) prog_1_method_43_code (3 : Nat) (Option.some FieldType.int)) ∈ gW := gW_tb 1291 (by decide +kernel) rfl
theorem w_1292 : (Cond.methodLink "BiteYearsLaw" (242 : Nat) ({ cls := "BiteYearsLaw", name := "company", desc := "(LBiteYears;I[J)I" } : MethodName)) ∈ gW := gW_tb 1292 (by decide +kernel) rfl
theorem w_1293 : (Cond.static ({ cls := "BiteYearsLaw", name := "company", desc := "(LBiteYears;I[J)I" } : MethodName)) ∈ gW := gW_tb 1293 (by decide +kernel) rfl
theorem w_1294 : (Cond.codeWith ({ cls := "BiteYearsLaw", name := "company", desc := "(LBiteYears;I[J)I" } : MethodName) method_24_code (4 : Nat) (Option.some FieldType.int) [((0 : Nat), (9 : Nat), (12 : Nat), (13 : Nat))]) ∈ gW := gW_tb 1294 (by decide +kernel) rfl
theorem w_1295 : (Cond.methodLink "BiteYearsLaw" (86 : Nat) ({ cls := "BiteYears", name := "company", desc := "(I)I" } : MethodName)) ∈ gW := gW_tb 1295 (by decide +kernel) rfl
theorem w_1296 : (Cond.instanceMethod ({ cls := "BiteYears", name := "company", desc := "(I)I" } : MethodName)) ∈ gW := gW_tb 1296 (by decide +kernel) rfl
theorem w_1297 : (Cond.selects "BiteYears" ({ cls := "BiteYears", name := "company", desc := "(I)I" } : MethodName) ({ cls := "BiteYears", name := "company", desc := "(I)I" } : MethodName)) ∈ gW := gW_tb 1297 (by decide +kernel) rfl
theorem w_1298 : (Cond.code ({ cls := "BiteYears", name := "company", desc := "(I)I" } : MethodName) prog_1_method_47_code (2 : Nat) (Option.some FieldType.int)) ∈ gW := gW_tb 1298 (by decide +kernel) rfl
theorem w_1300 : (Cond.methodLink "BiteYearsLaw" (245 : Nat) ({ cls := "BiteYearsLaw", name := "odds", desc := "(LBiteYears;II[J)I" } : MethodName)) ∈ gW := gW_tb 1300 (by decide +kernel) rfl
theorem w_1301 : (Cond.static ({ cls := "BiteYearsLaw", name := "odds", desc := "(LBiteYears;II[J)I" } : MethodName)) ∈ gW := gW_tb 1301 (by decide +kernel) rfl
theorem w_1302 : (Cond.codeWith ({ cls := "BiteYearsLaw", name := "odds", desc := "(LBiteYears;II[J)I" } : MethodName) method_25_code (5 : Nat) (Option.some FieldType.int) [((0 : Nat), (10 : Nat), (13 : Nat), (13 : Nat))]) ∈ gW := gW_tb 1302 (by decide +kernel) rfl
theorem w_1303 : (Cond.methodLink "BiteYearsLaw" (89 : Nat) ({ cls := "BiteYears", name := "odds", desc := "(II)I" } : MethodName)) ∈ gW := gW_tb 1303 (by decide +kernel) rfl
theorem w_1304 : (Cond.instanceMethod ({ cls := "BiteYears", name := "odds", desc := "(II)I" } : MethodName)) ∈ gW := gW_tb 1304 (by decide +kernel) rfl
theorem w_1305 : (Cond.selects "BiteYears" ({ cls := "BiteYears", name := "odds", desc := "(II)I" } : MethodName) ({ cls := "BiteYears", name := "odds", desc := "(II)I" } : MethodName)) ∈ gW := gW_tb 1305 (by decide +kernel) rfl
theorem w_1306 : (Cond.code ({ cls := "BiteYears", name := "odds", desc := "(II)I" } : MethodName) prog_1_method_48_code (6 : Nat) (Option.some FieldType.int)) ∈ gW := gW_tb 1306 (by decide +kernel) rfl
theorem w_1308 : (Cond.methodLink "BiteYears" (383 : Nat) ({ cls := "BiteYears", name := "slipParts", desc := "(III)J" } : MethodName)) ∈ gW := gW_tb 1308 (by decide +kernel) rfl
theorem w_1309 : (Cond.static ({ cls := "BiteYears", name := "slipParts", desc := "(III)J" } : MethodName)) ∈ gW := gW_tb 1309 (by decide +kernel) rfl
theorem w_1310 : (Cond.code ({ cls := "BiteYears", name := "slipParts", desc := "(III)J" } : MethodName) prog_1_method_49_code (3 : Nat) (Option.some FieldType.long)) ∈ gW := gW_tb 1310 (by decide +kernel) rfl
theorem w_1311 : (Cond.constantLong "BiteYears" (387 : Nat) (100 : Int64)) ∈ gW := gW_tb 1311 (by decide +kernel) rfl
theorem w_1312 : (Cond.methodLink "BiteYearsLaw" (248 : Nat) ({ cls := "BiteYearsLaw", name := "share", desc := "(LBiteYears;I[J)I" } : MethodName)) ∈ gW := gW_tb 1312 (by decide +kernel) rfl
theorem w_1313 : (Cond.static ({ cls := "BiteYearsLaw", name := "share", desc := "(LBiteYears;I[J)I" } : MethodName)) ∈ gW := gW_tb 1313 (by decide +kernel) rfl
theorem w_1314 : (Cond.codeWith ({ cls := "BiteYearsLaw", name := "share", desc := "(LBiteYears;I[J)I" } : MethodName) method_26_code (4 : Nat) (Option.some FieldType.int) [((0 : Nat), (9 : Nat), (12 : Nat), (24 : Nat))]) ∈ gW := gW_tb 1314 (by decide +kernel) rfl
theorem w_1315 : (Cond.methodLink "BiteYearsLaw" (92 : Nat) ({ cls := "BiteYears", name := "share", desc := "(I)I" } : MethodName)) ∈ gW := gW_tb 1315 (by decide +kernel) rfl
theorem w_1316 : (Cond.instanceMethod ({ cls := "BiteYears", name := "share", desc := "(I)I" } : MethodName)) ∈ gW := gW_tb 1316 (by decide +kernel) rfl
theorem w_1317 : (Cond.selects "BiteYears" ({ cls := "BiteYears", name := "share", desc := "(I)I" } : MethodName) ({ cls := "BiteYears", name := "share", desc := "(I)I" } : MethodName)) ∈ gW := gW_tb 1317 (by decide +kernel) rfl
theorem w_1318 : (Cond.code ({ cls := "BiteYears", name := "share", desc := "(I)I" } : MethodName) prog_1_method_50_code (3 : Nat) (Option.some FieldType.int)) ∈ gW := gW_tb 1318 (by decide +kernel) rfl
theorem w_1319 : (Cond.methodLink "BiteYearsLaw" (251 : Nat) ({ cls := "BiteYearsLaw", name := "trial", desc := "(LBiteYears;IZ[J)I" } : MethodName)) ∈ gW := gW_tb 1319 (by decide +kernel) rfl
theorem w_1320 : (Cond.static ({ cls := "BiteYearsLaw", name := "trial", desc := "(LBiteYears;IZ[J)I" } : MethodName)) ∈ gW := gW_tb 1320 (by decide +kernel) rfl
theorem w_1321 : (Cond.codeWith ({ cls := "BiteYearsLaw", name := "trial", desc := "(LBiteYears;IZ[J)I" } : MethodName) method_27_code (5 : Nat) (Option.some FieldType.int) [((0 : Nat), (10 : Nat), (13 : Nat), (13 : Nat))]) ∈ gW := gW_tb 1321 (by decide +kernel) rfl
theorem w_1322 : (Cond.methodLink "BiteYearsLaw" (95 : Nat) ({ cls := "BiteYears", name := "trial", desc := "(IZ)I" } : MethodName)) ∈ gW := gW_tb 1322 (by decide +kernel) rfl
theorem w_1323 : (Cond.instanceMethod ({ cls := "BiteYears", name := "trial", desc := "(IZ)I" } : MethodName)) ∈ gW := gW_tb 1323 (by decide +kernel) rfl
theorem w_1324 : (Cond.selects "BiteYears" ({ cls := "BiteYears", name := "trial", desc := "(IZ)I" } : MethodName) ({ cls := "BiteYears", name := "trial", desc := "(IZ)I" } : MethodName)) ∈ gW := gW_tb 1324 (by decide +kernel) rfl
theorem w_1325 : (Cond.code ({ cls := "BiteYears", name := "trial", desc := "(IZ)I" } : MethodName) prog_1_method_51_code (3 : Nat) (Option.some FieldType.int)) ∈ gW := gW_tb 1325 (by decide +kernel) rfl
theorem w_1326 : (Cond.methodLink "BiteYears" (392 : Nat) ({ cls := "BiteYears", name := "tryEvenings", desc := "(II)V" } : MethodName)) ∈ gW := gW_tb 1326 (by decide +kernel) rfl
theorem w_1328 : (Cond.instanceMethod ({ cls := "BiteYears", name := "tryEvenings", desc := "(II)V" } : MethodName)) ∈ gW := gW_tb 1328 (by decide +kernel) rfl
theorem w_1329 : (Cond.code ({ cls := "BiteYears", name := "tryEvenings", desc := "(II)V" } : MethodName) prog_1_method_52_code (4 : Nat) (Option.none : Option FieldType)) ∈ gW := gW_tb 1329 (by decide +kernel) rfl
theorem w_1330 : (Cond.methodLink "BiteYearsLaw" (255 : Nat) ({ cls := "BiteYearsLaw", name := "span", desc := "(LBiteYears;IZ[J)I" } : MethodName)) ∈ gW := gW_tb 1330 (by decide +kernel) rfl
theorem w_1331 : (Cond.static ({ cls := "BiteYearsLaw", name := "span", desc := "(LBiteYears;IZ[J)I" } : MethodName)) ∈ gW := gW_tb 1331 (by decide +kernel) rfl
theorem w_1332 : (Cond.codeWith ({ cls := "BiteYearsLaw", name := "span", desc := "(LBiteYears;IZ[J)I" } : MethodName) method_28_code (5 : Nat) (Option.some FieldType.int) [((0 : Nat), (10 : Nat), (13 : Nat), (13 : Nat))]) ∈ gW := gW_tb 1332 (by decide +kernel) rfl
theorem w_1333 : (Cond.methodLink "BiteYearsLaw" (99 : Nat) ({ cls := "BiteYears", name := "span", desc := "(IZ)I" } : MethodName)) ∈ gW := gW_tb 1333 (by decide +kernel) rfl
theorem w_1334 : (Cond.instanceMethod ({ cls := "BiteYears", name := "span", desc := "(IZ)I" } : MethodName)) ∈ gW := gW_tb 1334 (by decide +kernel) rfl
theorem w_1335 : (Cond.selects "BiteYears" ({ cls := "BiteYears", name := "span", desc := "(IZ)I" } : MethodName) ({ cls := "BiteYears", name := "span", desc := "(IZ)I" } : MethodName)) ∈ gW := gW_tb 1335 (by decide +kernel) rfl
theorem w_1336 : (Cond.code ({ cls := "BiteYears", name := "span", desc := "(IZ)I" } : MethodName) prog_1_method_53_code (6 : Nat) (Option.some FieldType.int)) ∈ gW := gW_tb 1336 (by decide +kernel) rfl
theorem w_1337 : (Cond.methodLink "BiteYears" (399 : Nat) ({ cls := "java/lang/Math", name := "min", desc := "(II)I" } : MethodName)) ∈ gW := gW_tb 1337 (by decide +kernel) rfl
theorem w_1338 : (Cond.methodLink "BiteYearsLaw" (258 : Nat) ({ cls := "BiteYearsLaw", name := "led", desc := "(LBiteYears;IZ[J)I" } : MethodName)) ∈ gW := gW_tb 1338 (by decide +kernel) rfl
theorem w_1339 : (Cond.static ({ cls := "BiteYearsLaw", name := "led", desc := "(LBiteYears;IZ[J)I" } : MethodName)) ∈ gW := gW_tb 1339 (by decide +kernel) rfl
theorem w_1340 : (Cond.codeWith ({ cls := "BiteYearsLaw", name := "led", desc := "(LBiteYears;IZ[J)I" } : MethodName) method_29_code (5 : Nat) (Option.some FieldType.int) [((0 : Nat), (10 : Nat), (13 : Nat), (24 : Nat))]) ∈ gW := gW_tb 1340 (by decide +kernel) rfl
theorem w_1341 : (Cond.methodLink "BiteYearsLaw" (102 : Nat) ({ cls := "BiteYears", name := "led", desc := "(IZ)I" } : MethodName)) ∈ gW := gW_tb 1341 (by decide +kernel) rfl
theorem w_1342 : (Cond.instanceMethod ({ cls := "BiteYears", name := "led", desc := "(IZ)I" } : MethodName)) ∈ gW := gW_tb 1342 (by decide +kernel) rfl
theorem w_1343 : (Cond.selects "BiteYears" ({ cls := "BiteYears", name := "led", desc := "(IZ)I" } : MethodName) ({ cls := "BiteYears", name := "led", desc := "(IZ)I" } : MethodName)) ∈ gW := gW_tb 1343 (by decide +kernel) rfl
theorem w_1344 : (Cond.code ({ cls := "BiteYears", name := "led", desc := "(IZ)I" } : MethodName) prog_1_method_54_code (3 : Nat) (Option.some FieldType.int)) ∈ gW := gW_tb 1344 (by decide +kernel) rfl
theorem w_1345 : (Cond.methodLink "BiteYears" (402 : Nat) ({ cls := "BiteYears$Log", name := "latestEvening", desc := "(I)I" } : MethodName)) ∈ gW := gW_tb 1345 (by decide +kernel) rfl
theorem w_1346 : (Cond.instanceMethod ({ cls := "BiteYears$Log", name := "latestEvening", desc := "(I)I" } : MethodName)) ∈ gW := gW_tb 1346 (by decide +kernel) rfl
theorem w_1347 : (Cond.selects "BiteYears$Log" ({ cls := "BiteYears$Log", name := "latestEvening", desc := "(I)I" } : MethodName) ({ cls := "BiteYears$Log", name := "latestEvening", desc := "(I)I" } : MethodName)) ∈ gW := gW_tb 1347 (by decide +kernel) rfl
theorem w_1348 : (Cond.code ({ cls := "BiteYears$Log", name := "latestEvening", desc := "(I)I" } : MethodName) prog_9_method_5_code (3 : Nat) (Option.some FieldType.int)) ∈ gW := gW_tb 1348 (by decide +kernel) rfl
theorem w_1349 : (Cond.methodLink "BiteYears$Log" (28 : Nat) ({ cls := "BiteYears$Log", name := "read", desc := "(II)I" } : MethodName)) ∈ gW := gW_tb 1349 (by decide +kernel) rfl
theorem w_1350 : (Cond.instanceMethod ({ cls := "BiteYears$Log", name := "read", desc := "(II)I" } : MethodName)) ∈ gW := gW_tb 1350 (by decide +kernel) rfl
theorem w_1351 : (Cond.selects "BiteYears$Log" ({ cls := "BiteYears$Log", name := "read", desc := "(II)I" } : MethodName) ({ cls := "BiteYears$Log", name := "read", desc := "(II)I" } : MethodName)) ∈ gW := gW_tb 1351 (by decide +kernel) rfl
theorem w_1352 : (Cond.code ({ cls := "BiteYears$Log", name := "read", desc := "(II)I" } : MethodName) prog_9_method_3_code (3 : Nat) (Option.some FieldType.int)) ∈ gW := gW_tb 1352 (by decide +kernel) rfl
theorem w_1353 : (Cond.methodLink "BiteYears" (405 : Nat) ({ cls := "BiteYears$Log", name := "rowsOf", desc := "(I)I" } : MethodName)) ∈ gW := gW_tb 1353 (by decide +kernel) rfl
theorem w_1354 : (Cond.instanceMethod ({ cls := "BiteYears$Log", name := "rowsOf", desc := "(I)I" } : MethodName)) ∈ gW := gW_tb 1354 (by decide +kernel) rfl
theorem w_1355 : (Cond.selects "BiteYears$Log" ({ cls := "BiteYears$Log", name := "rowsOf", desc := "(I)I" } : MethodName) ({ cls := "BiteYears$Log", name := "rowsOf", desc := "(I)I" } : MethodName)) ∈ gW := gW_tb 1355 (by decide +kernel) rfl
theorem w_1356 : (Cond.code ({ cls := "BiteYears$Log", name := "rowsOf", desc := "(I)I" } : MethodName) prog_9_method_4_code (4 : Nat) (Option.some FieldType.int)) ∈ gW := gW_tb 1356 (by decide +kernel) rfl
theorem w_1357 : (Cond.methodLink "BiteYearsLaw" (261 : Nat) ({ cls := "BiteYearsLaw", name := "log", desc := "(LBiteYears;II[J)I" } : MethodName)) ∈ gW := gW_tb 1357 (by decide +kernel) rfl
theorem w_1358 : (Cond.static ({ cls := "BiteYearsLaw", name := "log", desc := "(LBiteYears;II[J)I" } : MethodName)) ∈ gW := gW_tb 1358 (by decide +kernel) rfl
theorem w_1359 : (Cond.codeWith ({ cls := "BiteYearsLaw", name := "log", desc := "(LBiteYears;II[J)I" } : MethodName) method_30_code (5 : Nat) (Option.some FieldType.int) [((0 : Nat), (10 : Nat), (13 : Nat), (26 : Nat))]) ∈ gW := gW_tb 1359 (by decide +kernel) rfl
theorem w_1360 : (Cond.methodLink "BiteYearsLaw" (105 : Nat) ({ cls := "BiteYears", name := "log", desc := "(II)I" } : MethodName)) ∈ gW := gW_tb 1360 (by decide +kernel) rfl
theorem w_1361 : (Cond.instanceMethod ({ cls := "BiteYears", name := "log", desc := "(II)I" } : MethodName)) ∈ gW := gW_tb 1361 (by decide +kernel) rfl
theorem w_1362 : (Cond.selects "BiteYears" ({ cls := "BiteYears", name := "log", desc := "(II)I" } : MethodName) ({ cls := "BiteYears", name := "log", desc := "(II)I" } : MethodName)) ∈ gW := gW_tb 1362 (by decide +kernel) rfl
theorem w_1363 : (Cond.code ({ cls := "BiteYears", name := "log", desc := "(II)I" } : MethodName) prog_1_method_55_code (3 : Nat) (Option.some FieldType.int)) ∈ gW := gW_tb 1363 (by decide +kernel) rfl
theorem w_1365 : (Cond.methodLink "BiteYears" (410 : Nat) ({ cls := "BiteYears$Log", name := "read", desc := "(II)I" } : MethodName)) ∈ gW := gW_tb 1365 (by decide +kernel) rfl
theorem w_1366 : (Cond.methodLink "BiteYearsLaw" (128 : Nat) ({ cls := "BiteYearsModel", name := "thrown", desc := "()I" } : MethodName)) ∈ gW := gW_tb 1366 (by decide +kernel) rfl
theorem w_1367 : (Cond.instanceMethod ({ cls := "BiteYearsModel", name := "thrown", desc := "()I" } : MethodName)) ∈ gW := gW_tb 1367 (by decide +kernel) rfl
theorem w_1368 : (Cond.selects "BiteYearsModel" ({ cls := "BiteYearsModel", name := "thrown", desc := "()I" } : MethodName) ({ cls := "BiteYearsModel", name := "thrown", desc := "()I" } : MethodName)) ∈ gW := gW_tb 1368 (by decide +kernel) rfl
theorem w_1369 : (Cond.code ({ cls := "BiteYearsModel", name := "thrown", desc := "()I" } : MethodName) prog_14_method_1_code (1 : Nat) (Option.some FieldType.int)) ∈ gW := gW_tb 1369 (by decide +kernel) rfl
theorem w_1370 : (Cond.classLink "BiteYearsLaw" (109 : Nat) "BiteYearsModel") ∈ gW := gW_tb 1370 (by decide +kernel) rfl
theorem w_1371 : (Cond.instantiable "BiteYearsModel" (22 : Nat)) ∈ gW := gW_tb 1371 (by decide +kernel) rfl
theorem w_1372 : (Cond.methodLink "BiteYearsLaw" (111 : Nat) ({ cls := "BiteYearsModel", name := "<init>", desc := "()V" } : MethodName)) ∈ gW := gW_tb 1372 (by decide +kernel) rfl
theorem w_1373 : (Cond.instanceMethod ({ cls := "BiteYearsModel", name := "<init>", desc := "()V" } : MethodName)) ∈ gW := gW_tb 1373 (by decide +kernel) rfl
theorem w_1374 : (Cond.code ({ cls := "BiteYearsModel", name := "<init>", desc := "()V" } : MethodName) prog_14_method_5_code (1 : Nat) (Option.none : Option FieldType)) ∈ gW := gW_tb 1374 (by decide +kernel) rfl
theorem w_1375 : (Cond.methodLink "BiteYearsModel" (7 : Nat) ({ cls := "java/lang/Object", name := "<init>", desc := "()V" } : MethodName)) ∈ gW := gW_tb 1375 (by decide +kernel) rfl
theorem w_1376 : (Cond.fieldLink "BiteYearsModel" (3 : Nat) "BiteYearsModel" "thrown" "I") ∈ gW := gW_tb 1376 (by decide +kernel) rfl
theorem w_1377 : (Cond.fieldLink "BiteYearsModel" (13 : Nat) "BiteYearsModel" "world" "[I") ∈ gW := gW_tb 1377 (by decide +kernel) rfl
theorem w_1378 : (Cond.fieldLink "BiteYearsModel" (17 : Nat) "BiteYearsModel" "image" "[I") ∈ gW := gW_tb 1378 (by decide +kernel) rfl
theorem w_1379 : (Cond.fieldLink "BiteYearsModel" (20 : Nat) "BiteYearsModel" "before" "[I") ∈ gW := gW_tb 1379 (by decide +kernel) rfl
theorem w_1380 : (Cond.fieldLink "BiteYearsModel" (23 : Nat) "BiteYearsModel" "trial" "[I") ∈ gW := gW_tb 1380 (by decide +kernel) rfl
theorem w_1381 : (Cond.fieldLink "BiteYearsModel" (26 : Nat) "BiteYearsModel" "acts" "[I") ∈ gW := gW_tb 1381 (by decide +kernel) rfl
theorem w_1382 : (Cond.fieldLink "BiteYearsModel" (55 : Nat) "BiteYearsModel" "hasImage" "Z") ∈ gW := gW_tb 1382 (by decide +kernel) rfl
theorem w_1383 : (Cond.fieldLink "BiteYearsModel" (59 : Nat) "BiteYearsModel" "remembered" "I") ∈ gW := gW_tb 1383 (by decide +kernel) rfl
theorem w_1384 : (Cond.fieldLink "BiteYearsModel" (29 : Nat) "BiteYearsModel" "tape" "[B") ∈ gW := gW_tb 1384 (by decide +kernel) rfl
theorem w_1385 : (Cond.fieldLink "BiteYearsModel" (78 : Nat) "BiteYearsModel" "taped" "I") ∈ gW := gW_tb 1385 (by decide +kernel) rfl
theorem w_1386 : (Cond.fieldLink "BiteYearsModel" (81 : Nat) "BiteYearsModel" "point" "I") ∈ gW := gW_tb 1386 (by decide +kernel) rfl
theorem w_1387 : (Cond.fieldLink "BiteYearsModel" (84 : Nat) "BiteYearsModel" "end" "I") ∈ gW := gW_tb 1387 (by decide +kernel) rfl
theorem w_1388 : (Cond.fieldLink "BiteYearsModel" (91 : Nat) "BiteYearsModel" "begin" "I") ∈ gW := gW_tb 1388 (by decide +kernel) rfl
theorem w_1389 : (Cond.fieldLink "BiteYearsModel" (194 : Nat) "BiteYearsModel" "deep" "I") ∈ gW := gW_tb 1389 (by decide +kernel) rfl
theorem w_1390 : (Cond.fieldLink "BiteYearsModel" (33 : Nat) "BiteYearsModel" "faultAt" "I") ∈ gW := gW_tb 1390 (by decide +kernel) rfl
theorem w_1391 : (Cond.fieldLink "BiteYearsModel" (36 : Nat) "BiteYearsModel" "five" "[I") ∈ gW := gW_tb 1391 (by decide +kernel) rfl
theorem w_1392 : (Cond.fieldLink "BiteYearsModel" (164 : Nat) "BiteYearsModel" "steps" "I") ∈ gW := gW_tb 1392 (by decide +kernel) rfl
theorem w_1393 : (Cond.fieldLink "BiteYearsModel" (39 : Nat) "BiteYearsModel" "value" "[I") ∈ gW := gW_tb 1393 (by decide +kernel) rfl
theorem w_1394 : (Cond.fieldLink "BiteYearsModel" (42 : Nat) "BiteYearsModel" "row" "[I") ∈ gW := gW_tb 1394 (by decide +kernel) rfl
theorem w_1395 : (Cond.fieldLink "BiteYearsModel" (45 : Nat) "BiteYearsModel" "best" "[I") ∈ gW := gW_tb 1395 (by decide +kernel) rfl
theorem w_1396 : (Cond.fieldLink "BiteYearsModel" (48 : Nat) "BiteYearsModel" "least" "[I") ∈ gW := gW_tb 1396 (by decide +kernel) rfl
theorem w_1397 : (Cond.fieldLink "BiteYearsModel" (51 : Nat) "BiteYearsModel" "ways" "[J") ∈ gW := gW_tb 1397 (by decide +kernel) rfl
theorem w_1398 : (Cond.lays "BiteYearsModel" "BiteYearsModel" "thrown" "I") ∈ gW := gW_tb 1398 (by decide +kernel) rfl
theorem w_1400 : (Cond.laysFinal "BiteYearsModel" "BiteYearsModel" "world" "[I") ∈ gW := gW_tb 1400 (by decide +kernel) rfl
theorem w_1402 : (Cond.laysFinal "BiteYearsModel" "BiteYearsModel" "image" "[I") ∈ gW := gW_tb 1402 (by decide +kernel) rfl
theorem w_1404 : (Cond.laysFinal "BiteYearsModel" "BiteYearsModel" "before" "[I") ∈ gW := gW_tb 1404 (by decide +kernel) rfl
theorem w_1406 : (Cond.laysFinal "BiteYearsModel" "BiteYearsModel" "trial" "[I") ∈ gW := gW_tb 1406 (by decide +kernel) rfl
theorem w_1408 : (Cond.laysFinal "BiteYearsModel" "BiteYearsModel" "acts" "[I") ∈ gW := gW_tb 1408 (by decide +kernel) rfl
theorem w_1410 : (Cond.lays "BiteYearsModel" "BiteYearsModel" "hasImage" "Z") ∈ gW := gW_tb 1410 (by decide +kernel) rfl
theorem w_1412 : (Cond.lays "BiteYearsModel" "BiteYearsModel" "remembered" "I") ∈ gW := gW_tb 1412 (by decide +kernel) rfl
theorem w_1414 : (Cond.laysFinal "BiteYearsModel" "BiteYearsModel" "tape" "[B") ∈ gW := gW_tb 1414 (by decide +kernel) rfl
theorem w_1416 : (Cond.lays "BiteYearsModel" "BiteYearsModel" "taped" "I") ∈ gW := gW_tb 1416 (by decide +kernel) rfl
theorem w_1418 : (Cond.lays "BiteYearsModel" "BiteYearsModel" "point" "I") ∈ gW := gW_tb 1418 (by decide +kernel) rfl
theorem w_1420 : (Cond.lays "BiteYearsModel" "BiteYearsModel" "end" "I") ∈ gW := gW_tb 1420 (by decide +kernel) rfl
theorem w_1422 : (Cond.lays "BiteYearsModel" "BiteYearsModel" "begin" "I") ∈ gW := gW_tb 1422 (by decide +kernel) rfl
theorem w_1424 : (Cond.lays "BiteYearsModel" "BiteYearsModel" "deep" "I") ∈ gW := gW_tb 1424 (by decide +kernel) rfl
theorem w_1426 : (Cond.lays "BiteYearsModel" "BiteYearsModel" "faultAt" "I") ∈ gW := gW_tb 1426 (by decide +kernel) rfl
theorem w_1428 : (Cond.laysFinal "BiteYearsModel" "BiteYearsModel" "five" "[I") ∈ gW := gW_tb 1428 (by decide +kernel) rfl
theorem w_1430 : (Cond.lays "BiteYearsModel" "BiteYearsModel" "steps" "I") ∈ gW := gW_tb 1430 (by decide +kernel) rfl
theorem w_1432 : (Cond.laysFinal "BiteYearsModel" "BiteYearsModel" "value" "[I") ∈ gW := gW_tb 1432 (by decide +kernel) rfl
theorem w_1434 : (Cond.laysFinal "BiteYearsModel" "BiteYearsModel" "row" "[I") ∈ gW := gW_tb 1434 (by decide +kernel) rfl
theorem w_1436 : (Cond.laysFinal "BiteYearsModel" "BiteYearsModel" "best" "[I") ∈ gW := gW_tb 1436 (by decide +kernel) rfl
theorem w_1438 : (Cond.laysFinal "BiteYearsModel" "BiteYearsModel" "least" "[I") ∈ gW := gW_tb 1438 (by decide +kernel) rfl
theorem w_1440 : (Cond.laysFinal "BiteYearsModel" "BiteYearsModel" "ways" "[J") ∈ gW := gW_tb 1440 (by decide +kernel) rfl
theorem w_1442 : (Cond.superclass "BiteYearsModel" "java/lang/Object") ∈ gW := gW_tb 1442 (by decide +kernel) rfl
theorem w_1443 : (Cond.arrayClass FieldType.long) ∈ gW := gW_tb 1443 (by decide +kernel) rfl
theorem w_1444 : (Cond.methodLink "BiteYearsLaw" (276 : Nat) ({ cls := "BiteYearsModel", name := "image", desc := "()V" } : MethodName)) ∈ gW := gW_tb 1444 (by decide +kernel) rfl
theorem w_1445 : (Cond.instanceMethod ({ cls := "BiteYearsModel", name := "image", desc := "()V" } : MethodName)) ∈ gW := gW_tb 1445 (by decide +kernel) rfl
theorem w_1446 : (Cond.selects "BiteYearsModel" ({ cls := "BiteYearsModel", name := "image", desc := "()V" } : MethodName) ({ cls := "BiteYearsModel", name := "image", desc := "()V" } : MethodName)) ∈ gW := gW_tb 1446 (by decide +kernel) rfl
theorem w_1447 : (Cond.code ({ cls := "BiteYearsModel", name := "image", desc := "()V" } : MethodName) prog_14_method_6_code (2 : Nat) (Option.none : Option FieldType)) ∈ gW := gW_tb 1447 (by decide +kernel) rfl
theorem w_1448 : (Cond.methodLink "BiteYearsLaw" (280 : Nat) ({ cls := "BiteYearsModel", name := "back", desc := "()Z" } : MethodName)) ∈ gW := gW_tb 1448 (by decide +kernel) rfl
theorem w_1449 : (Cond.instanceMethod ({ cls := "BiteYearsModel", name := "back", desc := "()Z" } : MethodName)) ∈ gW := gW_tb 1449 (by decide +kernel) rfl
theorem w_1450 : (Cond.selects "BiteYearsModel" ({ cls := "BiteYearsModel", name := "back", desc := "()Z" } : MethodName) ({ cls := "BiteYearsModel", name := "back", desc := "()Z" } : MethodName)) ∈ gW := gW_tb 1450 (by decide +kernel) rfl
theorem w_1451 : (Cond.code ({ cls := "BiteYearsModel", name := "back", desc := "()Z" } : MethodName) prog_14_method_7_code (2 : Nat) (Option.some FieldType.boolean)) ∈ gW := gW_tb 1451 (by decide +kernel) rfl
theorem w_1452 : (Cond.methodLink "BiteYearsLaw" (272 : Nat) ({ cls := "BiteYearsModel", name := "undo", desc := "()Z" } : MethodName)) ∈ gW := gW_tb 1452 (by decide +kernel) rfl
theorem w_1453 : (Cond.instanceMethod ({ cls := "BiteYearsModel", name := "undo", desc := "()Z" } : MethodName)) ∈ gW := gW_tb 1453 (by decide +kernel) rfl
theorem w_1454 : (Cond.selects "BiteYearsModel" ({ cls := "BiteYearsModel", name := "undo", desc := "()Z" } : MethodName) ({ cls := "BiteYearsModel", name := "undo", desc := "()Z" } : MethodName)) ∈ gW := gW_tb 1454 (by decide +kernel) rfl
theorem w_1455 : (Cond.code ({ cls := "BiteYearsModel", name := "undo", desc := "()Z" } : MethodName) prog_14_method_9_code (2 : Nat) (Option.some FieldType.boolean)) ∈ gW := gW_tb 1455 (by decide +kernel) rfl
theorem w_1456 : (Cond.methodLink "BiteYearsLaw" (116 : Nat) ({ cls := "BiteYearsModel", name := "feed", desc := "(IIIII)I" } : MethodName)) ∈ gW := gW_tb 1456 (by decide +kernel) rfl
theorem w_1457 : (Cond.instanceMethod ({ cls := "BiteYearsModel", name := "feed", desc := "(IIIII)I" } : MethodName)) ∈ gW := gW_tb 1457 (by decide +kernel) rfl
theorem w_1458 : (Cond.selects "BiteYearsModel" ({ cls := "BiteYearsModel", name := "feed", desc := "(IIIII)I" } : MethodName) ({ cls := "BiteYearsModel", name := "feed", desc := "(IIIII)I" } : MethodName)) ∈ gW := gW_tb 1458 (by decide +kernel) rfl
theorem w_1459 : (Cond.code ({ cls := "BiteYearsModel", name := "feed", desc := "(IIIII)I" } : MethodName) prog_14_method_18_code (7 : Nat) (Option.some FieldType.int)) ∈ gW := gW_tb 1459 (by decide +kernel) rfl
theorem w_1460 : (Cond.methodLink "BiteYearsLaw" (121 : Nat) ({ cls := "BiteYearsModel", name := "end", desc := "(I)Z" } : MethodName)) ∈ gW := gW_tb 1460 (by decide +kernel) rfl
theorem w_1461 : (Cond.instanceMethod ({ cls := "BiteYearsModel", name := "end", desc := "(I)Z" } : MethodName)) ∈ gW := gW_tb 1461 (by decide +kernel) rfl
theorem w_1462 : (Cond.selects "BiteYearsModel" ({ cls := "BiteYearsModel", name := "end", desc := "(I)Z" } : MethodName) ({ cls := "BiteYearsModel", name := "end", desc := "(I)Z" } : MethodName)) ∈ gW := gW_tb 1462 (by decide +kernel) rfl
theorem w_1463 : (Cond.code ({ cls := "BiteYearsModel", name := "end", desc := "(I)Z" } : MethodName) prog_14_method_19_code (2 : Nat) (Option.some FieldType.boolean)) ∈ gW := gW_tb 1463 (by decide +kernel) rfl
theorem w_1464 : (Cond.methodLink "BiteYearsLaw" (137 : Nat) ({ cls := "BiteYearsModel", name := "fault", desc := "()I" } : MethodName)) ∈ gW := gW_tb 1464 (by decide +kernel) rfl
theorem w_1465 : (Cond.instanceMethod ({ cls := "BiteYearsModel", name := "fault", desc := "()I" } : MethodName)) ∈ gW := gW_tb 1465 (by decide +kernel) rfl
theorem w_1466 : (Cond.selects "BiteYearsModel" ({ cls := "BiteYearsModel", name := "fault", desc := "()I" } : MethodName) ({ cls := "BiteYearsModel", name := "fault", desc := "()I" } : MethodName)) ∈ gW := gW_tb 1466 (by decide +kernel) rfl
theorem w_1467 : (Cond.code ({ cls := "BiteYearsModel", name := "fault", desc := "()I" } : MethodName) prog_14_method_28_code (1 : Nat) (Option.some FieldType.int)) ∈ gW := gW_tb 1467 (by decide +kernel) rfl
theorem w_1468 : (Cond.methodLink "BiteYearsLaw" (127 : Nat) ({ cls := "BiteYearsModel", name := "life", desc := "()I" } : MethodName)) ∈ gW := gW_tb 1468 (by decide +kernel) rfl
theorem w_1469 : (Cond.instanceMethod ({ cls := "BiteYearsModel", name := "life", desc := "()I" } : MethodName)) ∈ gW := gW_tb 1469 (by decide +kernel) rfl
theorem w_1470 : (Cond.selects "BiteYearsModel" ({ cls := "BiteYearsModel", name := "life", desc := "()I" } : MethodName) ({ cls := "BiteYearsModel", name := "life", desc := "()I" } : MethodName)) ∈ gW := gW_tb 1470 (by decide +kernel) rfl
theorem w_1471 : (Cond.code ({ cls := "BiteYearsModel", name := "life", desc := "()I" } : MethodName) prog_14_method_48_code (3 : Nat) (Option.some FieldType.int)) ∈ gW := gW_tb 1471 (by decide +kernel) rfl
theorem w_1472 : (Cond.methodLink "BiteYearsModel" (239 : Nat) ({ cls := "BiteYearsModel", name := "readAll", desc := "(Z)I" } : MethodName)) ∈ gW := gW_tb 1472 (by decide +kernel) rfl
theorem w_1474 : (Cond.instanceMethod ({ cls := "BiteYearsModel", name := "readAll", desc := "(Z)I" } : MethodName)) ∈ gW := gW_tb 1474 (by decide +kernel) rfl
theorem w_1475 : (Cond.code ({ cls := "BiteYearsModel", name := "readAll", desc := "(Z)I" } : MethodName) prog_14_method_47_code (3 : Nat) (Option.some FieldType.int)) ∈ gW := gW_tb 1475 (by decide +kernel) rfl
theorem w_1476 : (Cond.methodLink "BiteYearsModel" (232 : Nat) ({ cls := "BiteYearsModel", name := "uses", desc := "()V" } : MethodName)) ∈ gW := gW_tb 1476 (by decide +kernel) rfl
theorem w_1478 : (Cond.instanceMethod ({ cls := "BiteYearsModel", name := "uses", desc := "()V" } : MethodName)) ∈ gW := gW_tb 1478 (by decide +kernel) rfl
theorem w_1479 : (Cond.code ({ cls := "BiteYearsModel", name := "uses", desc := "()V" } : MethodName) prog_14_method_29_code (1 : Nat) (Option.none : Option FieldType)) ∈ gW := gW_tb 1479 (by decide +kernel) rfl
theorem w_1480 : (Cond.methodLink "BiteYearsModel" (94 : Nat) ({ cls := "BiteYearsModel", name := "blanks", desc := "()V" } : MethodName)) ∈ gW := gW_tb 1480 (by decide +kernel) rfl
theorem w_1482 : (Cond.instanceMethod ({ cls := "BiteYearsModel", name := "blanks", desc := "()V" } : MethodName)) ∈ gW := gW_tb 1482 (by decide +kernel) rfl
theorem w_1483 : (Cond.code ({ cls := "BiteYearsModel", name := "blanks", desc := "()V" } : MethodName) prog_14_method_21_code (1 : Nat) (Option.none : Option FieldType)) ∈ gW := gW_tb 1483 (by decide +kernel) rfl
theorem w_1484 : (Cond.methodLink "BiteYearsModel" (87 : Nat) ({ cls := "BiteYearsModel", name := "isAt", desc := "(II)Z" } : MethodName)) ∈ gW := gW_tb 1484 (by decide +kernel) rfl
theorem w_1486 : (Cond.instanceMethod ({ cls := "BiteYearsModel", name := "isAt", desc := "(II)Z" } : MethodName)) ∈ gW := gW_tb 1486 (by decide +kernel) rfl
theorem w_1487 : (Cond.code ({ cls := "BiteYearsModel", name := "isAt", desc := "(II)Z" } : MethodName) prog_14_method_20_code (3 : Nat) (Option.some FieldType.boolean)) ∈ gW := gW_tb 1487 (by decide +kernel) rfl
theorem w_1488 : (Cond.methodLink "BiteYearsModel" (235 : Nat) ({ cls := "BiteYearsModel", name := "readLine", desc := "(ZI)Z" } : MethodName)) ∈ gW := gW_tb 1488 (by decide +kernel) rfl
theorem w_1490 : (Cond.instanceMethod ({ cls := "BiteYearsModel", name := "readLine", desc := "(ZI)Z" } : MethodName)) ∈ gW := gW_tb 1490 (by decide +kernel) rfl
theorem w_1491 : (Cond.code ({ cls := "BiteYearsModel", name := "readLine", desc := "(ZI)Z" } : MethodName) prog_14_method_46_code (3 : Nat) (Option.some FieldType.boolean)) ∈ gW := gW_tb 1491 (by decide +kernel) rfl
theorem w_1492 : (Cond.methodLink "BiteYearsModel" (106 : Nat) ({ cls := "BiteYearsModel", name := "letters", desc := "()V" } : MethodName)) ∈ gW := gW_tb 1492 (by decide +kernel) rfl
theorem w_1494 : (Cond.instanceMethod ({ cls := "BiteYearsModel", name := "letters", desc := "()V" } : MethodName)) ∈ gW := gW_tb 1494 (by decide +kernel) rfl
theorem w_1495 : (Cond.code ({ cls := "BiteYearsModel", name := "letters", desc := "()V" } : MethodName) prog_14_method_22_code (1 : Nat) (Option.none : Option FieldType)) ∈ gW := gW_tb 1495 (by decide +kernel) rfl
theorem w_1496 : (Cond.methodLink "BiteYearsModel" (226 : Nat) ({ cls := "BiteYearsModel", name := "readLifeLine", desc := "()Z" } : MethodName)) ∈ gW := gW_tb 1496 (by decide +kernel) rfl
theorem w_1498 : (Cond.instanceMethod ({ cls := "BiteYearsModel", name := "readLifeLine", desc := "()Z" } : MethodName)) ∈ gW := gW_tb 1498 (by decide +kernel) rfl
theorem w_1499 : (Cond.code ({ cls := "BiteYearsModel", name := "readLifeLine", desc := "()Z" } : MethodName) prog_14_method_36_code (1 : Nat) (Option.some FieldType.boolean)) ∈ gW := gW_tb 1499 (by decide +kernel) rfl
theorem w_1501 : (Cond.methodLink "BiteYearsModel" (109 : Nat) ({ cls := "BiteYearsModel", name := "isWord", desc := "(Ljava/lang/String;)Z" } : MethodName)) ∈ gW := gW_tb 1501 (by decide +kernel) rfl
theorem w_1503 : (Cond.instanceMethod ({ cls := "BiteYearsModel", name := "isWord", desc := "(Ljava/lang/String;)Z" } : MethodName)) ∈ gW := gW_tb 1503 (by decide +kernel) rfl
theorem w_1504 : (Cond.code ({ cls := "BiteYearsModel", name := "isWord", desc := "(Ljava/lang/String;)Z" } : MethodName) prog_14_method_23_code (4 : Nat) (Option.some FieldType.boolean)) ∈ gW := gW_tb 1504 (by decide +kernel) rfl
theorem w_1505 : (Cond.methodLink "BiteYearsModel" (97 : Nat) ({ cls := "java/lang/String", name := "length", desc := "()I" } : MethodName)) ∈ gW := gW_tb 1505 (by decide +kernel) rfl
theorem w_1506 : (Cond.methodLink "BiteYearsModel" (102 : Nat) ({ cls := "java/lang/String", name := "charAt", desc := "(I)C" } : MethodName)) ∈ gW := gW_tb 1506 (by decide +kernel) rfl
theorem w_1507 : (Cond.methodLink "BiteYearsModel" (142 : Nat) ({ cls := "BiteYearsModel", name := "readDish", desc := "()Z" } : MethodName)) ∈ gW := gW_tb 1507 (by decide +kernel) rfl
theorem w_1509 : (Cond.instanceMethod ({ cls := "BiteYearsModel", name := "readDish", desc := "()Z" } : MethodName)) ∈ gW := gW_tb 1509 (by decide +kernel) rfl
theorem w_1510 : (Cond.code ({ cls := "BiteYearsModel", name := "readDish", desc := "()Z" } : MethodName) prog_14_method_33_code (3 : Nat) (Option.some FieldType.boolean)) ∈ gW := gW_tb 1510 (by decide +kernel) rfl
theorem w_1511 : (Cond.methodLink "BiteYearsModel" (62 : Nat) ({ cls := "BiteYearsModel", name := "dishes", desc := "()I" } : MethodName)) ∈ gW := gW_tb 1511 (by decide +kernel) rfl
theorem w_1513 : (Cond.instanceMethod ({ cls := "BiteYearsModel", name := "dishes", desc := "()I" } : MethodName)) ∈ gW := gW_tb 1513 (by decide +kernel) rfl
theorem w_1514 : (Cond.code ({ cls := "BiteYearsModel", name := "dishes", desc := "()I" } : MethodName) prog_14_method_10_code (1 : Nat) (Option.some FieldType.int)) ∈ gW := gW_tb 1514 (by decide +kernel) rfl
theorem w_1515 : (Cond.methodLink "BiteYearsModel" (128 : Nat) ({ cls := "BiteYearsModel", name := "readTastes", desc := "(I)Z" } : MethodName)) ∈ gW := gW_tb 1515 (by decide +kernel) rfl
theorem w_1517 : (Cond.instanceMethod ({ cls := "BiteYearsModel", name := "readTastes", desc := "(I)Z" } : MethodName)) ∈ gW := gW_tb 1517 (by decide +kernel) rfl
theorem w_1518 : (Cond.code ({ cls := "BiteYearsModel", name := "readTastes", desc := "(I)Z" } : MethodName) prog_14_method_31_code (2 : Nat) (Option.some FieldType.boolean)) ∈ gW := gW_tb 1518 (by decide +kernel) rfl
theorem w_1519 : (Cond.methodLink "BiteYearsModel" (66 : Nat) ({ cls := "BiteYearsModel", name := "at", desc := "(II)I" } : MethodName)) ∈ gW := gW_tb 1519 (by decide +kernel) rfl
theorem w_1520 : (Cond.static ({ cls := "BiteYearsModel", name := "at", desc := "(II)I" } : MethodName)) ∈ gW := gW_tb 1520 (by decide +kernel) rfl
theorem w_1521 : (Cond.code ({ cls := "BiteYearsModel", name := "at", desc := "(II)I" } : MethodName) prog_14_method_12_code (2 : Nat) (Option.some FieldType.int)) ∈ gW := gW_tb 1521 (by decide +kernel) rfl
theorem w_1522 : (Cond.methodLink "BiteYearsModel" (132 : Nat) ({ cls := "BiteYearsModel", name := "readFirst", desc := "(I)Z" } : MethodName)) ∈ gW := gW_tb 1522 (by decide +kernel) rfl
theorem w_1524 : (Cond.instanceMethod ({ cls := "BiteYearsModel", name := "readFirst", desc := "(I)Z" } : MethodName)) ∈ gW := gW_tb 1524 (by decide +kernel) rfl
theorem w_1525 : (Cond.code ({ cls := "BiteYearsModel", name := "readFirst", desc := "(I)Z" } : MethodName) prog_14_method_32_code (6 : Nat) (Option.some FieldType.boolean)) ∈ gW := gW_tb 1525 (by decide +kernel) rfl
theorem w_1527 : (Cond.methodLink "BiteYearsModel" (118 : Nat) ({ cls := "BiteYearsModel", name := "passes", desc := "(Ljava/lang/String;)Z" } : MethodName)) ∈ gW := gW_tb 1527 (by decide +kernel) rfl
theorem w_1529 : (Cond.instanceMethod ({ cls := "BiteYearsModel", name := "passes", desc := "(Ljava/lang/String;)Z" } : MethodName)) ∈ gW := gW_tb 1529 (by decide +kernel) rfl
theorem w_1530 : (Cond.code ({ cls := "BiteYearsModel", name := "passes", desc := "(Ljava/lang/String;)Z" } : MethodName) prog_14_method_24_code (2 : Nat) (Option.some FieldType.boolean)) ∈ gW := gW_tb 1530 (by decide +kernel) rfl
theorem w_1531 : (Cond.methodLink "BiteYearsModel" (113 : Nat) ({ cls := "BiteYearsModel", name := "number", desc := "(II)I" } : MethodName)) ∈ gW := gW_tb 1531 (by decide +kernel) rfl
theorem w_1533 : (Cond.instanceMethod ({ cls := "BiteYearsModel", name := "number", desc := "(II)I" } : MethodName)) ∈ gW := gW_tb 1533 (by decide +kernel) rfl
theorem w_1534 : (Cond.code ({ cls := "BiteYearsModel", name := "number", desc := "(II)I" } : MethodName) prog_14_method_26_code (4 : Nat) (Option.some FieldType.int)) ∈ gW := gW_tb 1534 (by decide +kernel) rfl
theorem w_1536 : (Cond.methodLink "BiteYearsModel" (122 : Nat) ({ cls := "BiteYearsModel", name := "after", desc := "(Ljava/lang/String;II)I" } : MethodName)) ∈ gW := gW_tb 1536 (by decide +kernel) rfl
theorem w_1538 : (Cond.instanceMethod ({ cls := "BiteYearsModel", name := "after", desc := "(Ljava/lang/String;II)I" } : MethodName)) ∈ gW := gW_tb 1538 (by decide +kernel) rfl
theorem w_1539 : (Cond.code ({ cls := "BiteYearsModel", name := "after", desc := "(Ljava/lang/String;II)I" } : MethodName) prog_14_method_27_code (4 : Nat) (Option.some FieldType.int)) ∈ gW := gW_tb 1539 (by decide +kernel) rfl
theorem w_1542 : (Cond.methodLink "BiteYearsModel" (148 : Nat) ({ cls := "BiteYearsModel", name := "readToday", desc := "()Z" } : MethodName)) ∈ gW := gW_tb 1542 (by decide +kernel) rfl
theorem w_1544 : (Cond.instanceMethod ({ cls := "BiteYearsModel", name := "readToday", desc := "()Z" } : MethodName)) ∈ gW := gW_tb 1544 (by decide +kernel) rfl
theorem w_1545 : (Cond.code ({ cls := "BiteYearsModel", name := "readToday", desc := "()Z" } : MethodName) prog_14_method_34_code (1 : Nat) (Option.some FieldType.boolean)) ∈ gW := gW_tb 1545 (by decide +kernel) rfl
theorem w_1546 : (Cond.methodLink "BiteYearsModel" (135 : Nat) ({ cls := "BiteYearsModel", name := "readNumber", desc := "(III)Z" } : MethodName)) ∈ gW := gW_tb 1546 (by decide +kernel) rfl
theorem w_1548 : (Cond.instanceMethod ({ cls := "BiteYearsModel", name := "readNumber", desc := "(III)Z" } : MethodName)) ∈ gW := gW_tb 1548 (by decide +kernel) rfl
theorem w_1549 : (Cond.code ({ cls := "BiteYearsModel", name := "readNumber", desc := "(III)Z" } : MethodName) prog_14_method_30_code (5 : Nat) (Option.some FieldType.boolean)) ∈ gW := gW_tb 1549 (by decide +kernel) rfl
theorem w_1551 : (Cond.methodLink "BiteYearsModel" (153 : Nat) ({ cls := "BiteYearsModel", name := "readWar", desc := "()Z" } : MethodName)) ∈ gW := gW_tb 1551 (by decide +kernel) rfl
theorem w_1553 : (Cond.instanceMethod ({ cls := "BiteYearsModel", name := "readWar", desc := "()Z" } : MethodName)) ∈ gW := gW_tb 1553 (by decide +kernel) rfl
theorem w_1554 : (Cond.code ({ cls := "BiteYearsModel", name := "readWar", desc := "()Z" } : MethodName) prog_14_method_35_code (3 : Nat) (Option.some FieldType.boolean)) ∈ gW := gW_tb 1554 (by decide +kernel) rfl
theorem w_1560 : (Cond.methodLink "BiteYearsModel" (229 : Nat) ({ cls := "BiteYearsModel", name := "readLawLine", desc := "(I)Z" } : MethodName)) ∈ gW := gW_tb 1560 (by decide +kernel) rfl
theorem w_1562 : (Cond.instanceMethod ({ cls := "BiteYearsModel", name := "readLawLine", desc := "(I)Z" } : MethodName)) ∈ gW := gW_tb 1562 (by decide +kernel) rfl
theorem w_1563 : (Cond.code ({ cls := "BiteYearsModel", name := "readLawLine", desc := "(I)Z" } : MethodName) prog_14_method_45_code (3 : Nat) (Option.some FieldType.boolean)) ∈ gW := gW_tb 1563 (by decide +kernel) rfl
theorem w_1568 : (Cond.methodLink "BiteYearsModel" (197 : Nat) ({ cls := "BiteYearsModel", name := "readCond", desc := "()Z" } : MethodName)) ∈ gW := gW_tb 1568 (by decide +kernel) rfl
theorem w_1570 : (Cond.instanceMethod ({ cls := "BiteYearsModel", name := "readCond", desc := "()Z" } : MethodName)) ∈ gW := gW_tb 1570 (by decide +kernel) rfl
theorem w_1571 : (Cond.code ({ cls := "BiteYearsModel", name := "readCond", desc := "()Z" } : MethodName) prog_14_method_44_code (1 : Nat) (Option.some FieldType.boolean)) ∈ gW := gW_tb 1571 (by decide +kernel) rfl
theorem w_1572 : (Cond.methodLink "BiteYearsModel" (213 : Nat) ({ cls := "BiteYearsModel", name := "readAllOf", desc := "()Z" } : MethodName)) ∈ gW := gW_tb 1572 (by decide +kernel) rfl
theorem w_1574 : (Cond.instanceMethod ({ cls := "BiteYearsModel", name := "readAllOf", desc := "()Z" } : MethodName)) ∈ gW := gW_tb 1574 (by decide +kernel) rfl
theorem w_1575 : (Cond.code ({ cls := "BiteYearsModel", name := "readAllOf", desc := "()Z" } : MethodName) prog_14_method_43_code (1 : Nat) (Option.some FieldType.boolean)) ∈ gW := gW_tb 1575 (by decide +kernel) rfl
theorem w_1576 : (Cond.methodLink "BiteYearsModel" (202 : Nat) ({ cls := "BiteYearsModel", name := "readAtom", desc := "()Z" } : MethodName)) ∈ gW := gW_tb 1576 (by decide +kernel) rfl
theorem w_1578 : (Cond.instanceMethod ({ cls := "BiteYearsModel", name := "readAtom", desc := "()Z" } : MethodName)) ∈ gW := gW_tb 1578 (by decide +kernel) rfl
theorem w_1579 : (Cond.code ({ cls := "BiteYearsModel", name := "readAtom", desc := "()Z" } : MethodName) prog_14_method_42_code (2 : Nat) (Option.some FieldType.boolean)) ∈ gW := gW_tb 1579 (by decide +kernel) rfl
theorem w_1580 : (Cond.methodLink "BiteYearsModel" (187 : Nat) ({ cls := "BiteYearsModel", name := "sign", desc := "(I)Z" } : MethodName)) ∈ gW := gW_tb 1580 (by decide +kernel) rfl
theorem w_1582 : (Cond.instanceMethod ({ cls := "BiteYearsModel", name := "sign", desc := "(I)Z" } : MethodName)) ∈ gW := gW_tb 1582 (by decide +kernel) rfl
theorem w_1583 : (Cond.code ({ cls := "BiteYearsModel", name := "sign", desc := "(I)Z" } : MethodName) prog_14_method_25_code (2 : Nat) (Option.some FieldType.boolean)) ∈ gW := gW_tb 1583 (by decide +kernel) rfl
theorem w_1585 : (Cond.methodLink "BiteYearsModel" (180 : Nat) ({ cls := "BiteYearsModel", name := "emits", desc := "(II)V" } : MethodName)) ∈ gW := gW_tb 1585 (by decide +kernel) rfl
theorem w_1587 : (Cond.instanceMethod ({ cls := "BiteYearsModel", name := "emits", desc := "(II)V" } : MethodName)) ∈ gW := gW_tb 1587 (by decide +kernel) rfl
theorem w_1588 : (Cond.code ({ cls := "BiteYearsModel", name := "emits", desc := "(II)V" } : MethodName) prog_14_method_37_code (3 : Nat) (Option.none : Option FieldType)) ∈ gW := gW_tb 1588 (by decide +kernel) rfl
theorem w_1589 : (Cond.methodLink "BiteYearsModel" (205 : Nat) ({ cls := "BiteYearsModel", name := "readTag", desc := "()Z" } : MethodName)) ∈ gW := gW_tb 1589 (by decide +kernel) rfl
theorem w_1591 : (Cond.instanceMethod ({ cls := "BiteYearsModel", name := "readTag", desc := "()Z" } : MethodName)) ∈ gW := gW_tb 1591 (by decide +kernel) rfl
theorem w_1592 : (Cond.code ({ cls := "BiteYearsModel", name := "readTag", desc := "()Z" } : MethodName) prog_14_method_41_code (2 : Nat) (Option.some FieldType.boolean)) ∈ gW := gW_tb 1592 (by decide +kernel) rfl
theorem w_1595 : (Cond.methodLink "BiteYearsModel" (208 : Nat) ({ cls := "BiteYearsModel", name := "readSum", desc := "()Z" } : MethodName)) ∈ gW := gW_tb 1595 (by decide +kernel) rfl
theorem w_1597 : (Cond.instanceMethod ({ cls := "BiteYearsModel", name := "readSum", desc := "()Z" } : MethodName)) ∈ gW := gW_tb 1597 (by decide +kernel) rfl
theorem w_1598 : (Cond.code ({ cls := "BiteYearsModel", name := "readSum", desc := "()Z" } : MethodName) prog_14_method_40_code (1 : Nat) (Option.some FieldType.boolean)) ∈ gW := gW_tb 1598 (by decide +kernel) rfl
theorem w_1599 : (Cond.methodLink "BiteYearsModel" (184 : Nat) ({ cls := "BiteYearsModel", name := "readPart", desc := "()Z" } : MethodName)) ∈ gW := gW_tb 1599 (by decide +kernel) rfl
theorem w_1601 : (Cond.instanceMethod ({ cls := "BiteYearsModel", name := "readPart", desc := "()Z" } : MethodName)) ∈ gW := gW_tb 1601 (by decide +kernel) rfl
theorem w_1602 : (Cond.code ({ cls := "BiteYearsModel", name := "readPart", desc := "()Z" } : MethodName) prog_14_method_39_code (3 : Nat) (Option.some FieldType.boolean)) ∈ gW := gW_tb 1602 (by decide +kernel) rfl
theorem w_1603 : (Cond.methodLink "BiteYearsModel" (177 : Nat) ({ cls := "BiteYearsModel", name := "wordOfPart", desc := "()I" } : MethodName)) ∈ gW := gW_tb 1603 (by decide +kernel) rfl
theorem w_1605 : (Cond.instanceMethod ({ cls := "BiteYearsModel", name := "wordOfPart", desc := "()I" } : MethodName)) ∈ gW := gW_tb 1605 (by decide +kernel) rfl
theorem w_1606 : (Cond.code ({ cls := "BiteYearsModel", name := "wordOfPart", desc := "()I" } : MethodName) prog_14_method_38_code (1 : Nat) (Option.some FieldType.int)) ∈ gW := gW_tb 1606 (by decide +kernel) rfl
theorem w_1614 : (Cond.methodLink "BiteYearsModel" (243 : Nat) ({ cls := "BiteYearsModel", name := "throwsIf", desc := "(ZI)Z" } : MethodName)) ∈ gW := gW_tb 1614 (by decide +kernel) rfl
theorem w_1616 : (Cond.instanceMethod ({ cls := "BiteYearsModel", name := "throwsIf", desc := "(ZI)Z" } : MethodName)) ∈ gW := gW_tb 1616 (by decide +kernel) rfl
theorem w_1617 : (Cond.code ({ cls := "BiteYearsModel", name := "throwsIf", desc := "(ZI)Z" } : MethodName) prog_14_method_2_code (3 : Nat) (Option.some FieldType.boolean)) ∈ gW := gW_tb 1617 (by decide +kernel) rfl
theorem w_1618 : (Cond.methodLink "BiteYearsLaw" (133 : Nat) ({ cls := "BiteYearsModel", name := "law", desc := "()I" } : MethodName)) ∈ gW := gW_tb 1618 (by decide +kernel) rfl
theorem w_1619 : (Cond.instanceMethod ({ cls := "BiteYearsModel", name := "law", desc := "()I" } : MethodName)) ∈ gW := gW_tb 1619 (by decide +kernel) rfl
theorem w_1620 : (Cond.selects "BiteYearsModel" ({ cls := "BiteYearsModel", name := "law", desc := "()I" } : MethodName) ({ cls := "BiteYearsModel", name := "law", desc := "()I" } : MethodName)) ∈ gW := gW_tb 1620 (by decide +kernel) rfl
theorem w_1621 : (Cond.code ({ cls := "BiteYearsModel", name := "law", desc := "()I" } : MethodName) prog_14_method_49_code (3 : Nat) (Option.some FieldType.int)) ∈ gW := gW_tb 1621 (by decide +kernel) rfl
theorem w_1622 : (Cond.methodLink "BiteYearsLaw" (141 : Nat) ({ cls := "BiteYearsModel", name := "dish", desc := "(II)I" } : MethodName)) ∈ gW := gW_tb 1622 (by decide +kernel) rfl
theorem w_1623 : (Cond.instanceMethod ({ cls := "BiteYearsModel", name := "dish", desc := "(II)I" } : MethodName)) ∈ gW := gW_tb 1623 (by decide +kernel) rfl
theorem w_1624 : (Cond.selects "BiteYearsModel" ({ cls := "BiteYearsModel", name := "dish", desc := "(II)I" } : MethodName) ({ cls := "BiteYearsModel", name := "dish", desc := "(II)I" } : MethodName)) ∈ gW := gW_tb 1624 (by decide +kernel) rfl
theorem w_1625 : (Cond.code ({ cls := "BiteYearsModel", name := "dish", desc := "(II)I" } : MethodName) prog_14_method_58_code (3 : Nat) (Option.some FieldType.int)) ∈ gW := gW_tb 1625 (by decide +kernel) rfl
theorem w_1626 : (Cond.methodLink "BiteYearsModel" (278 : Nat) ({ cls := "BiteYearsModel", name := "noDish", desc := "(I)Z" } : MethodName)) ∈ gW := gW_tb 1626 (by decide +kernel) rfl
theorem w_1628 : (Cond.instanceMethod ({ cls := "BiteYearsModel", name := "noDish", desc := "(I)Z" } : MethodName)) ∈ gW := gW_tb 1628 (by decide +kernel) rfl
theorem w_1629 : (Cond.code ({ cls := "BiteYearsModel", name := "noDish", desc := "(I)Z" } : MethodName) prog_14_method_15_code (2 : Nat) (Option.some FieldType.boolean)) ∈ gW := gW_tb 1629 (by decide +kernel) rfl
theorem w_1630 : (Cond.methodLink "BiteYearsModel" (73 : Nat) ({ cls := "BiteYearsModel", name := "in", desc := "(III)Z" } : MethodName)) ∈ gW := gW_tb 1630 (by decide +kernel) rfl
theorem w_1631 : (Cond.static ({ cls := "BiteYearsModel", name := "in", desc := "(III)Z" } : MethodName)) ∈ gW := gW_tb 1631 (by decide +kernel) rfl
theorem w_1632 : (Cond.code ({ cls := "BiteYearsModel", name := "in", desc := "(III)Z" } : MethodName) prog_14_method_3_code (3 : Nat) (Option.some FieldType.boolean)) ∈ gW := gW_tb 1632 (by decide +kernel) rfl
theorem w_1633 : (Cond.methodLink "BiteYearsModel" (269 : Nat) ({ cls := "BiteYearsModel", name := "callsBy", desc := "(I)I" } : MethodName)) ∈ gW := gW_tb 1633 (by decide +kernel) rfl
theorem w_1635 : (Cond.instanceMethod ({ cls := "BiteYearsModel", name := "callsBy", desc := "(I)I" } : MethodName)) ∈ gW := gW_tb 1635 (by decide +kernel) rfl
theorem w_1636 : (Cond.code ({ cls := "BiteYearsModel", name := "callsBy", desc := "(I)I" } : MethodName) prog_14_method_51_code (6 : Nat) (Option.some FieldType.int)) ∈ gW := gW_tb 1636 (by decide +kernel) rfl
theorem w_1637 : (Cond.methodLink "BiteYearsModel" (252 : Nat) ({ cls := "BiteYearsModel", name := "isNew", desc := "(I)Z" } : MethodName)) ∈ gW := gW_tb 1637 (by decide +kernel) rfl
theorem w_1639 : (Cond.instanceMethod ({ cls := "BiteYearsModel", name := "isNew", desc := "(I)Z" } : MethodName)) ∈ gW := gW_tb 1639 (by decide +kernel) rfl
theorem w_1640 : (Cond.code ({ cls := "BiteYearsModel", name := "isNew", desc := "(I)Z" } : MethodName) prog_14_method_14_code (2 : Nat) (Option.some FieldType.boolean)) ∈ gW := gW_tb 1640 (by decide +kernel) rfl
theorem w_1641 : (Cond.methodLink "BiteYearsModel" (70 : Nat) ({ cls := "BiteYearsModel", name := "of", desc := "(II)I" } : MethodName)) ∈ gW := gW_tb 1641 (by decide +kernel) rfl
theorem w_1643 : (Cond.instanceMethod ({ cls := "BiteYearsModel", name := "of", desc := "(II)I" } : MethodName)) ∈ gW := gW_tb 1643 (by decide +kernel) rfl
theorem w_1644 : (Cond.code ({ cls := "BiteYearsModel", name := "of", desc := "(II)I" } : MethodName) prog_14_method_13_code (3 : Nat) (Option.some FieldType.int)) ∈ gW := gW_tb 1644 (by decide +kernel) rfl
theorem w_1645 : (Cond.constant "BiteYearsModel" (255 : Nat) (1000000 : Int32)) ∈ gW := gW_tb 1645 (by decide +kernel) rfl
theorem w_1646 : (Cond.methodLink "BiteYearsModel" (256 : Nat) ({ cls := "BiteYearsModel", name := "farOf", desc := "(II)I" } : MethodName)) ∈ gW := gW_tb 1646 (by decide +kernel) rfl
theorem w_1648 : (Cond.instanceMethod ({ cls := "BiteYearsModel", name := "farOf", desc := "(II)I" } : MethodName)) ∈ gW := gW_tb 1648 (by decide +kernel) rfl
theorem w_1649 : (Cond.code ({ cls := "BiteYearsModel", name := "farOf", desc := "(II)I" } : MethodName) prog_14_method_50_code (5 : Nat) (Option.some FieldType.int)) ∈ gW := gW_tb 1649 (by decide +kernel) rfl
theorem w_1650 : (Cond.methodLink "BiteYearsModel" (246 : Nat) ({ cls := "java/lang/Math", name := "abs", desc := "(I)I" } : MethodName)) ∈ gW := gW_tb 1650 (by decide +kernel) rfl
theorem w_1651 : (Cond.static ({ cls := "java/lang/Math", name := "abs", desc := "(I)I" } : MethodName)) ∈ gW := gW_tb 1651 (by decide +kernel) rfl
theorem w_1652 : (Cond.code ({ cls := "java/lang/Math", name := "abs", desc := "(I)I" } : MethodName) prog_23_method_59_code (1 : Nat) (Option.some FieldType.int)) ∈ gW := gW_tb 1652 (by decide +kernel) rfl
theorem w_1653 : (Cond.methodLink "BiteYearsModel" (259 : Nat) ({ cls := "java/lang/Math", name := "min", desc := "(II)I" } : MethodName)) ∈ gW := gW_tb 1653 (by decide +kernel) rfl
theorem w_1654 : (Cond.methodLink "BiteYearsModel" (281 : Nat) ({ cls := "BiteYearsModel", name := "turnsBy", desc := "(I)I" } : MethodName)) ∈ gW := gW_tb 1654 (by decide +kernel) rfl
theorem w_1656 : (Cond.instanceMethod ({ cls := "BiteYearsModel", name := "turnsBy", desc := "(I)I" } : MethodName)) ∈ gW := gW_tb 1656 (by decide +kernel) rfl
theorem w_1657 : (Cond.code ({ cls := "BiteYearsModel", name := "turnsBy", desc := "(I)I" } : MethodName) prog_14_method_56_code (2 : Nat) (Option.some FieldType.int)) ∈ gW := gW_tb 1657 (by decide +kernel) rfl
theorem w_1658 : (Cond.methodLink "BiteYearsModel" (275 : Nat) ({ cls := "BiteYearsModel", name := "sumOf", desc := "(II)I" } : MethodName)) ∈ gW := gW_tb 1658 (by decide +kernel) rfl
theorem w_1660 : (Cond.instanceMethod ({ cls := "BiteYearsModel", name := "sumOf", desc := "(II)I" } : MethodName)) ∈ gW := gW_tb 1660 (by decide +kernel) rfl
theorem w_1661 : (Cond.code ({ cls := "BiteYearsModel", name := "sumOf", desc := "(II)I" } : MethodName) prog_14_method_55_code (6 : Nat) (Option.some FieldType.int)) ∈ gW := gW_tb 1661 (by decide +kernel) rfl
theorem w_1662 : (Cond.methodLink "BiteYearsModel" (272 : Nat) ({ cls := "BiteYearsModel", name := "holdsLine", desc := "(III)Z" } : MethodName)) ∈ gW := gW_tb 1662 (by decide +kernel) rfl
theorem w_1664 : (Cond.instanceMethod ({ cls := "BiteYearsModel", name := "holdsLine", desc := "(III)Z" } : MethodName)) ∈ gW := gW_tb 1664 (by decide +kernel) rfl
theorem w_1665 : (Cond.code ({ cls := "BiteYearsModel", name := "holdsLine", desc := "(III)Z" } : MethodName) prog_14_method_54_code (11 : Nat) (Option.some FieldType.boolean)) ∈ gW := gW_tb 1665 (by decide +kernel) rfl
theorem w_1666 : (Cond.methodLink "BiteYearsModel" (265 : Nat) ({ cls := "BiteYearsModel", name := "factOf", desc := "(IIII)I" } : MethodName)) ∈ gW := gW_tb 1666 (by decide +kernel) rfl
theorem w_1668 : (Cond.instanceMethod ({ cls := "BiteYearsModel", name := "factOf", desc := "(IIII)I" } : MethodName)) ∈ gW := gW_tb 1668 (by decide +kernel) rfl
theorem w_1669 : (Cond.code ({ cls := "BiteYearsModel", name := "factOf", desc := "(IIII)I" } : MethodName) prog_14_method_53_code (5 : Nat) (Option.some FieldType.int)) ∈ gW := gW_tb 1669 (by decide +kernel) rfl
theorem w_1670 : (Cond.methodLink "BiteYearsModel" (262 : Nat) ({ cls := "BiteYearsModel", name := "isInWar", desc := "(I)Z" } : MethodName)) ∈ gW := gW_tb 1670 (by decide +kernel) rfl
theorem w_1672 : (Cond.instanceMethod ({ cls := "BiteYearsModel", name := "isInWar", desc := "(I)Z" } : MethodName)) ∈ gW := gW_tb 1672 (by decide +kernel) rfl
theorem w_1673 : (Cond.code ({ cls := "BiteYearsModel", name := "isInWar", desc := "(I)Z" } : MethodName) prog_14_method_52_code (2 : Nat) (Option.some FieldType.boolean)) ∈ gW := gW_tb 1673 (by decide +kernel) rfl
theorem w_1674 : (Cond.methodLink "BiteYearsModel" (284 : Nat) ({ cls := "BiteYearsModel", name := "paysBy", desc := "(I)I" } : MethodName)) ∈ gW := gW_tb 1674 (by decide +kernel) rfl
theorem w_1676 : (Cond.instanceMethod ({ cls := "BiteYearsModel", name := "paysBy", desc := "(I)I" } : MethodName)) ∈ gW := gW_tb 1676 (by decide +kernel) rfl
theorem w_1677 : (Cond.code ({ cls := "BiteYearsModel", name := "paysBy", desc := "(I)I" } : MethodName) prog_14_method_57_code (2 : Nat) (Option.some FieldType.int)) ∈ gW := gW_tb 1677 (by decide +kernel) rfl
theorem w_1678 : (Cond.methodLink "BiteYearsLaw" (144 : Nat) ({ cls := "BiteYearsModel", name := "far", desc := "(II)I" } : MethodName)) ∈ gW := gW_tb 1678 (by decide +kernel) rfl
theorem w_1679 : (Cond.instanceMethod ({ cls := "BiteYearsModel", name := "far", desc := "(II)I" } : MethodName)) ∈ gW := gW_tb 1679 (by decide +kernel) rfl
theorem w_1680 : (Cond.selects "BiteYearsModel" ({ cls := "BiteYearsModel", name := "far", desc := "(II)I" } : MethodName) ({ cls := "BiteYearsModel", name := "far", desc := "(II)I" } : MethodName)) ∈ gW := gW_tb 1680 (by decide +kernel) rfl
theorem w_1681 : (Cond.code ({ cls := "BiteYearsModel", name := "far", desc := "(II)I" } : MethodName) prog_14_method_59_code (3 : Nat) (Option.some FieldType.int)) ∈ gW := gW_tb 1681 (by decide +kernel) rfl
theorem w_1682 : (Cond.methodLink "BiteYearsLaw" (148 : Nat) ({ cls := "BiteYearsModel", name := "near", desc := "(I)I" } : MethodName)) ∈ gW := gW_tb 1682 (by decide +kernel) rfl
theorem w_1683 : (Cond.instanceMethod ({ cls := "BiteYearsModel", name := "near", desc := "(I)I" } : MethodName)) ∈ gW := gW_tb 1683 (by decide +kernel) rfl
theorem w_1684 : (Cond.selects "BiteYearsModel" ({ cls := "BiteYearsModel", name := "near", desc := "(I)I" } : MethodName) ({ cls := "BiteYearsModel", name := "near", desc := "(I)I" } : MethodName)) ∈ gW := gW_tb 1684 (by decide +kernel) rfl
theorem w_1685 : (Cond.code ({ cls := "BiteYearsModel", name := "near", desc := "(I)I" } : MethodName) prog_14_method_60_code (4 : Nat) (Option.some FieldType.int)) ∈ gW := gW_tb 1685 (by decide +kernel) rfl
theorem w_1686 : (Cond.methodLink "BiteYearsLaw" (152 : Nat) ({ cls := "BiteYearsModel", name := "left", desc := "()I" } : MethodName)) ∈ gW := gW_tb 1686 (by decide +kernel) rfl
theorem w_1687 : (Cond.instanceMethod ({ cls := "BiteYearsModel", name := "left", desc := "()I" } : MethodName)) ∈ gW := gW_tb 1687 (by decide +kernel) rfl
theorem w_1688 : (Cond.selects "BiteYearsModel" ({ cls := "BiteYearsModel", name := "left", desc := "()I" } : MethodName) ({ cls := "BiteYearsModel", name := "left", desc := "()I" } : MethodName)) ∈ gW := gW_tb 1688 (by decide +kernel) rfl
theorem w_1689 : (Cond.code ({ cls := "BiteYearsModel", name := "left", desc := "()I" } : MethodName) prog_14_method_62_code (1 : Nat) (Option.some FieldType.int)) ∈ gW := gW_tb 1689 (by decide +kernel) rfl
theorem w_1690 : (Cond.methodLink "BiteYearsModel" (287 : Nat) ({ cls := "BiteYearsModel", name := "newOnes", desc := "()I" } : MethodName)) ∈ gW := gW_tb 1690 (by decide +kernel) rfl
theorem w_1692 : (Cond.instanceMethod ({ cls := "BiteYearsModel", name := "newOnes", desc := "()I" } : MethodName)) ∈ gW := gW_tb 1692 (by decide +kernel) rfl
theorem w_1693 : (Cond.code ({ cls := "BiteYearsModel", name := "newOnes", desc := "()I" } : MethodName) prog_14_method_61_code (3 : Nat) (Option.some FieldType.int)) ∈ gW := gW_tb 1693 (by decide +kernel) rfl
theorem w_1694 : (Cond.methodLink "BiteYearsLaw" (155 : Nat) ({ cls := "BiteYearsModel", name := "spoon", desc := "(I)I" } : MethodName)) ∈ gW := gW_tb 1694 (by decide +kernel) rfl
theorem w_1695 : (Cond.instanceMethod ({ cls := "BiteYearsModel", name := "spoon", desc := "(I)I" } : MethodName)) ∈ gW := gW_tb 1695 (by decide +kernel) rfl
theorem w_1696 : (Cond.selects "BiteYearsModel" ({ cls := "BiteYearsModel", name := "spoon", desc := "(I)I" } : MethodName) ({ cls := "BiteYearsModel", name := "spoon", desc := "(I)I" } : MethodName)) ∈ gW := gW_tb 1696 (by decide +kernel) rfl
theorem w_1697 : (Cond.code ({ cls := "BiteYearsModel", name := "spoon", desc := "(I)I" } : MethodName) prog_14_method_69_code (2 : Nat) (Option.some FieldType.int)) ∈ gW := gW_tb 1697 (by decide +kernel) rfl
theorem w_1698 : (Cond.methodLink "BiteYearsModel" (290 : Nat) ({ cls := "BiteYearsModel", name := "takesNone", desc := "()Z" } : MethodName)) ∈ gW := gW_tb 1698 (by decide +kernel) rfl
theorem w_1700 : (Cond.instanceMethod ({ cls := "BiteYearsModel", name := "takesNone", desc := "()Z" } : MethodName)) ∈ gW := gW_tb 1700 (by decide +kernel) rfl
theorem w_1701 : (Cond.code ({ cls := "BiteYearsModel", name := "takesNone", desc := "()Z" } : MethodName) prog_14_method_64_code (1 : Nat) (Option.some FieldType.boolean)) ∈ gW := gW_tb 1701 (by decide +kernel) rfl
theorem w_1702 : (Cond.methodLink "BiteYearsModel" (311 : Nat) ({ cls := "BiteYearsModel", name := "remembers", desc := "()V" } : MethodName)) ∈ gW := gW_tb 1702 (by decide +kernel) rfl
theorem w_1704 : (Cond.instanceMethod ({ cls := "BiteYearsModel", name := "remembers", desc := "()V" } : MethodName)) ∈ gW := gW_tb 1704 (by decide +kernel) rfl
theorem w_1705 : (Cond.code ({ cls := "BiteYearsModel", name := "remembers", desc := "()V" } : MethodName) prog_14_method_8_code (2 : Nat) (Option.none : Option FieldType)) ∈ gW := gW_tb 1705 (by decide +kernel) rfl
theorem w_1706 : (Cond.methodLink "BiteYearsModel" (302 : Nat) ({ cls := "BiteYearsModel", name := "takes", desc := "(I)I" } : MethodName)) ∈ gW := gW_tb 1706 (by decide +kernel) rfl
theorem w_1708 : (Cond.instanceMethod ({ cls := "BiteYearsModel", name := "takes", desc := "(I)I" } : MethodName)) ∈ gW := gW_tb 1708 (by decide +kernel) rfl
theorem w_1709 : (Cond.code ({ cls := "BiteYearsModel", name := "takes", desc := "(I)I" } : MethodName) prog_14_method_65_code (5 : Nat) (Option.some FieldType.int)) ∈ gW := gW_tb 1709 (by decide +kernel) rfl
theorem w_1710 : (Cond.methodLink "BiteYearsModel" (293 : Nat) ({ cls := "java/lang/Math", name := "max", desc := "(II)I" } : MethodName)) ∈ gW := gW_tb 1710 (by decide +kernel) rfl
theorem w_1711 : (Cond.methodLink "BiteYearsModel" (296 : Nat) ({ cls := "BiteYearsModel", name := "tells", desc := "(II)V" } : MethodName)) ∈ gW := gW_tb 1711 (by decide +kernel) rfl
theorem w_1713 : (Cond.instanceMethod ({ cls := "BiteYearsModel", name := "tells", desc := "(II)V" } : MethodName)) ∈ gW := gW_tb 1713 (by decide +kernel) rfl
theorem w_1714 : (Cond.code ({ cls := "BiteYearsModel", name := "tells", desc := "(II)V" } : MethodName) prog_14_method_63_code (4 : Nat) (Option.none : Option FieldType)) ∈ gW := gW_tb 1714 (by decide +kernel) rfl
theorem w_1715 : (Cond.methodLink "BiteYearsLaw" (159 : Nat) ({ cls := "BiteYearsModel", name := "crust", desc := "()I" } : MethodName)) ∈ gW := gW_tb 1715 (by decide +kernel) rfl
theorem w_1716 : (Cond.instanceMethod ({ cls := "BiteYearsModel", name := "crust", desc := "()I" } : MethodName)) ∈ gW := gW_tb 1716 (by decide +kernel) rfl
theorem w_1717 : (Cond.selects "BiteYearsModel" ({ cls := "BiteYearsModel", name := "crust", desc := "()I" } : MethodName) ({ cls := "BiteYearsModel", name := "crust", desc := "()I" } : MethodName)) ∈ gW := gW_tb 1717 (by decide +kernel) rfl
theorem w_1718 : (Cond.code ({ cls := "BiteYearsModel", name := "crust", desc := "()I" } : MethodName) prog_14_method_70_code (1 : Nat) (Option.some FieldType.int)) ∈ gW := gW_tb 1718 (by decide +kernel) rfl
theorem w_1719 : (Cond.methodLink "BiteYearsModel" (305 : Nat) ({ cls := "BiteYearsModel", name := "crusts", desc := "()V" } : MethodName)) ∈ gW := gW_tb 1719 (by decide +kernel) rfl
theorem w_1721 : (Cond.instanceMethod ({ cls := "BiteYearsModel", name := "crusts", desc := "()V" } : MethodName)) ∈ gW := gW_tb 1721 (by decide +kernel) rfl
theorem w_1722 : (Cond.code ({ cls := "BiteYearsModel", name := "crusts", desc := "()V" } : MethodName) prog_14_method_66_code (1 : Nat) (Option.none : Option FieldType)) ∈ gW := gW_tb 1722 (by decide +kernel) rfl
theorem w_1723 : (Cond.methodLink "BiteYearsLaw" (163 : Nat) ({ cls := "BiteYearsModel", name := "had", desc := "(IIII)I" } : MethodName)) ∈ gW := gW_tb 1723 (by decide +kernel) rfl
theorem w_1724 : (Cond.instanceMethod ({ cls := "BiteYearsModel", name := "had", desc := "(IIII)I" } : MethodName)) ∈ gW := gW_tb 1724 (by decide +kernel) rfl
theorem w_1725 : (Cond.selects "BiteYearsModel" ({ cls := "BiteYearsModel", name := "had", desc := "(IIII)I" } : MethodName) ({ cls := "BiteYearsModel", name := "had", desc := "(IIII)I" } : MethodName)) ∈ gW := gW_tb 1725 (by decide +kernel) rfl
theorem w_1726 : (Cond.code ({ cls := "BiteYearsModel", name := "had", desc := "(IIII)I" } : MethodName) prog_14_method_71_code (6 : Nat) (Option.some FieldType.int)) ∈ gW := gW_tb 1726 (by decide +kernel) rfl
theorem w_1727 : (Cond.methodLink "BiteYearsModel" (314 : Nat) ({ cls := "BiteYearsModel", name := "noPlace", desc := "(I)Z" } : MethodName)) ∈ gW := gW_tb 1727 (by decide +kernel) rfl
theorem w_1728 : (Cond.static ({ cls := "BiteYearsModel", name := "noPlace", desc := "(I)Z" } : MethodName)) ∈ gW := gW_tb 1728 (by decide +kernel) rfl
theorem w_1729 : (Cond.code ({ cls := "BiteYearsModel", name := "noPlace", desc := "(I)Z" } : MethodName) prog_14_method_16_code (1 : Nat) (Option.some FieldType.boolean)) ∈ gW := gW_tb 1729 (by decide +kernel) rfl
theorem w_1730 : (Cond.methodLink "BiteYearsLaw" (166 : Nat) ({ cls := "BiteYearsModel", name := "forget", desc := "(I)I" } : MethodName)) ∈ gW := gW_tb 1730 (by decide +kernel) rfl
theorem w_1731 : (Cond.instanceMethod ({ cls := "BiteYearsModel", name := "forget", desc := "(I)I" } : MethodName)) ∈ gW := gW_tb 1731 (by decide +kernel) rfl
theorem w_1732 : (Cond.selects "BiteYearsModel" ({ cls := "BiteYearsModel", name := "forget", desc := "(I)I" } : MethodName) ({ cls := "BiteYearsModel", name := "forget", desc := "(I)I" } : MethodName)) ∈ gW := gW_tb 1732 (by decide +kernel) rfl
theorem w_1733 : (Cond.code ({ cls := "BiteYearsModel", name := "forget", desc := "(I)I" } : MethodName) prog_14_method_72_code (4 : Nat) (Option.some FieldType.int)) ∈ gW := gW_tb 1733 (by decide +kernel) rfl
theorem w_1734 : (Cond.methodLink "BiteYearsLaw" (169 : Nat) ({ cls := "BiteYearsModel", name := "reach", desc := "(I)I" } : MethodName)) ∈ gW := gW_tb 1734 (by decide +kernel) rfl
theorem w_1735 : (Cond.instanceMethod ({ cls := "BiteYearsModel", name := "reach", desc := "(I)I" } : MethodName)) ∈ gW := gW_tb 1735 (by decide +kernel) rfl
theorem w_1736 : (Cond.selects "BiteYearsModel" ({ cls := "BiteYearsModel", name := "reach", desc := "(I)I" } : MethodName) ({ cls := "BiteYearsModel", name := "reach", desc := "(I)I" } : MethodName)) ∈ gW := gW_tb 1736 (by decide +kernel) rfl
theorem w_1737 : (Cond.code ({ cls := "BiteYearsModel", name := "reach", desc := "(I)I" } : MethodName) prog_14_method_73_code (3 : Nat) (Option.some FieldType.int)) ∈ gW := gW_tb 1737 (by decide +kernel) rfl
theorem w_1738 : (Cond.methodLink "BiteYearsLaw" (172 : Nat) ({ cls := "BiteYearsModel", name := "house", desc := "(I)I" } : MethodName)) ∈ gW := gW_tb 1738 (by decide +kernel) rfl
theorem w_1739 : (Cond.instanceMethod ({ cls := "BiteYearsModel", name := "house", desc := "(I)I" } : MethodName)) ∈ gW := gW_tb 1739 (by decide +kernel) rfl
theorem w_1740 : (Cond.selects "BiteYearsModel" ({ cls := "BiteYearsModel", name := "house", desc := "(I)I" } : MethodName) ({ cls := "BiteYearsModel", name := "house", desc := "(I)I" } : MethodName)) ∈ gW := gW_tb 1740 (by decide +kernel) rfl
theorem w_1741 : (Cond.code ({ cls := "BiteYearsModel", name := "house", desc := "(I)I" } : MethodName) prog_14_method_74_code (3 : Nat) (Option.some FieldType.int)) ∈ gW := gW_tb 1741 (by decide +kernel) rfl
theorem w_1742 : (Cond.methodLink "BiteYearsLaw" (176 : Nat) ({ cls := "BiteYearsModel", name := "look", desc := "()I" } : MethodName)) ∈ gW := gW_tb 1742 (by decide +kernel) rfl
theorem w_1743 : (Cond.instanceMethod ({ cls := "BiteYearsModel", name := "look", desc := "()I" } : MethodName)) ∈ gW := gW_tb 1743 (by decide +kernel) rfl
theorem w_1744 : (Cond.selects "BiteYearsModel" ({ cls := "BiteYearsModel", name := "look", desc := "()I" } : MethodName) ({ cls := "BiteYearsModel", name := "look", desc := "()I" } : MethodName)) ∈ gW := gW_tb 1744 (by decide +kernel) rfl
theorem w_1745 : (Cond.code ({ cls := "BiteYearsModel", name := "look", desc := "()I" } : MethodName) prog_14_method_75_code (1 : Nat) (Option.some FieldType.int)) ∈ gW := gW_tb 1745 (by decide +kernel) rfl
theorem w_1746 : (Cond.methodLink "BiteYearsModel" (299 : Nat) ({ cls := "BiteYearsModel", name := "drawn", desc := "(I)I" } : MethodName)) ∈ gW := gW_tb 1746 (by decide +kernel) rfl
theorem w_1748 : (Cond.instanceMethod ({ cls := "BiteYearsModel", name := "drawn", desc := "(I)I" } : MethodName)) ∈ gW := gW_tb 1748 (by decide +kernel) rfl
theorem w_1749 : (Cond.code ({ cls := "BiteYearsModel", name := "drawn", desc := "(I)I" } : MethodName) prog_14_method_17_code (2 : Nat) (Option.some FieldType.int)) ∈ gW := gW_tb 1749 (by decide +kernel) rfl
theorem w_1750 : (Cond.constant "BiteYearsModel" (77 : Nat) (1103515245 : Int32)) ∈ gW := gW_tb 1750 (by decide +kernel) rfl
theorem w_1751 : (Cond.methodLink "BiteYearsLaw" (179 : Nat) ({ cls := "BiteYearsModel", name := "evenings", desc := "(I)I" } : MethodName)) ∈ gW := gW_tb 1751 (by decide +kernel) rfl
theorem w_1752 : (Cond.instanceMethod ({ cls := "BiteYearsModel", name := "evenings", desc := "(I)I" } : MethodName)) ∈ gW := gW_tb 1752 (by decide +kernel) rfl
theorem w_1753 : (Cond.selects "BiteYearsModel" ({ cls := "BiteYearsModel", name := "evenings", desc := "(I)I" } : MethodName) ({ cls := "BiteYearsModel", name := "evenings", desc := "(I)I" } : MethodName)) ∈ gW := gW_tb 1753 (by decide +kernel) rfl
theorem w_1754 : (Cond.code ({ cls := "BiteYearsModel", name := "evenings", desc := "(I)I" } : MethodName) prog_14_method_76_code (2 : Nat) (Option.some FieldType.int)) ∈ gW := gW_tb 1754 (by decide +kernel) rfl
theorem w_1755 : (Cond.methodLink "BiteYearsModel" (317 : Nat) ({ cls := "BiteYearsModel", name := "goesOn", desc := "(I)I" } : MethodName)) ∈ gW := gW_tb 1755 (by decide +kernel) rfl
theorem w_1757 : (Cond.instanceMethod ({ cls := "BiteYearsModel", name := "goesOn", desc := "(I)I" } : MethodName)) ∈ gW := gW_tb 1757 (by decide +kernel) rfl
theorem w_1758 : (Cond.code ({ cls := "BiteYearsModel", name := "goesOn", desc := "(I)I" } : MethodName) prog_14_method_68_code (4 : Nat) (Option.some FieldType.int)) ∈ gW := gW_tb 1758 (by decide +kernel) rfl
theorem w_1759 : (Cond.methodLink "BiteYearsModel" (308 : Nat) ({ cls := "BiteYearsModel", name := "oneEvening", desc := "()I" } : MethodName)) ∈ gW := gW_tb 1759 (by decide +kernel) rfl
theorem w_1761 : (Cond.instanceMethod ({ cls := "BiteYearsModel", name := "oneEvening", desc := "()I" } : MethodName)) ∈ gW := gW_tb 1761 (by decide +kernel) rfl
theorem w_1762 : (Cond.code ({ cls := "BiteYearsModel", name := "oneEvening", desc := "()I" } : MethodName) prog_14_method_67_code (4 : Nat) (Option.some FieldType.int)) ∈ gW := gW_tb 1762 (by decide +kernel) rfl
theorem w_1763 : (Cond.methodLink "BiteYearsLaw" (182 : Nat) ({ cls := "BiteYearsModel", name := "menu", desc := "(I)I" } : MethodName)) ∈ gW := gW_tb 1763 (by decide +kernel) rfl
theorem w_1764 : (Cond.instanceMethod ({ cls := "BiteYearsModel", name := "menu", desc := "(I)I" } : MethodName)) ∈ gW := gW_tb 1764 (by decide +kernel) rfl
theorem w_1765 : (Cond.selects "BiteYearsModel" ({ cls := "BiteYearsModel", name := "menu", desc := "(I)I" } : MethodName) ({ cls := "BiteYearsModel", name := "menu", desc := "(I)I" } : MethodName)) ∈ gW := gW_tb 1765 (by decide +kernel) rfl
theorem w_1766 : (Cond.code ({ cls := "BiteYearsModel", name := "menu", desc := "(I)I" } : MethodName) prog_14_method_80_code (6 : Nat) (Option.some FieldType.int)) ∈ gW := gW_tb 1766 (by decide +kernel) rfl
theorem w_1767 : (Cond.methodLink "BiteYearsModel" (320 : Nat) ({ cls := "BiteYearsModel", name := "isMenu", desc := "()Z" } : MethodName)) ∈ gW := gW_tb 1767 (by decide +kernel) rfl
theorem w_1769 : (Cond.instanceMethod ({ cls := "BiteYearsModel", name := "isMenu", desc := "()Z" } : MethodName)) ∈ gW := gW_tb 1769 (by decide +kernel) rfl
theorem w_1770 : (Cond.code ({ cls := "BiteYearsModel", name := "isMenu", desc := "()Z" } : MethodName) prog_14_method_79_code (3 : Nat) (Option.some FieldType.boolean)) ∈ gW := gW_tb 1770 (by decide +kernel) rfl
theorem w_1771 : (Cond.methodLink "BiteYearsModel" (323 : Nat) ({ cls := "BiteYearsModel", name := "keepsAll", desc := "()V" } : MethodName)) ∈ gW := gW_tb 1771 (by decide +kernel) rfl
theorem w_1773 : (Cond.instanceMethod ({ cls := "BiteYearsModel", name := "keepsAll", desc := "()V" } : MethodName)) ∈ gW := gW_tb 1773 (by decide +kernel) rfl
theorem w_1774 : (Cond.code ({ cls := "BiteYearsModel", name := "keepsAll", desc := "()V" } : MethodName) prog_14_method_77_code (2 : Nat) (Option.none : Option FieldType)) ∈ gW := gW_tb 1774 (by decide +kernel) rfl
theorem w_1775 : (Cond.methodLink "BiteYearsModel" (326 : Nat) ({ cls := "BiteYearsModel", name := "bringsBack", desc := "()V" } : MethodName)) ∈ gW := gW_tb 1775 (by decide +kernel) rfl
theorem w_1777 : (Cond.instanceMethod ({ cls := "BiteYearsModel", name := "bringsBack", desc := "()V" } : MethodName)) ∈ gW := gW_tb 1777 (by decide +kernel) rfl
theorem w_1778 : (Cond.code ({ cls := "BiteYearsModel", name := "bringsBack", desc := "()V" } : MethodName) prog_14_method_78_code (2 : Nat) (Option.none : Option FieldType)) ∈ gW := gW_tb 1778 (by decide +kernel) rfl
theorem w_1779 : (Cond.methodLink "BiteYearsLaw" (229 : Nat) ({ cls := "BiteYearsModel", name := "breaks", desc := "(I)I" } : MethodName)) ∈ gW := gW_tb 1779 (by decide +kernel) rfl
theorem w_1780 : (Cond.instanceMethod ({ cls := "BiteYearsModel", name := "breaks", desc := "(I)I" } : MethodName)) ∈ gW := gW_tb 1780 (by decide +kernel) rfl
theorem w_1781 : (Cond.selects "BiteYearsModel" ({ cls := "BiteYearsModel", name := "breaks", desc := "(I)I" } : MethodName) ({ cls := "BiteYearsModel", name := "breaks", desc := "(I)I" } : MethodName)) ∈ gW := gW_tb 1781 (by decide +kernel) rfl
theorem w_1782 : (Cond.code ({ cls := "BiteYearsModel", name := "breaks", desc := "(I)I" } : MethodName) prog_14_method_81_code (4 : Nat) (Option.some FieldType.int)) ∈ gW := gW_tb 1782 (by decide +kernel) rfl
theorem w_1783 : (Cond.methodLink "BiteYearsLaw" (188 : Nat) ({ cls := "BiteYearsModel", name := "order", desc := "(II)I" } : MethodName)) ∈ gW := gW_tb 1783 (by decide +kernel) rfl
theorem w_1784 : (Cond.instanceMethod ({ cls := "BiteYearsModel", name := "order", desc := "(II)I" } : MethodName)) ∈ gW := gW_tb 1784 (by decide +kernel) rfl
theorem w_1785 : (Cond.selects "BiteYearsModel" ({ cls := "BiteYearsModel", name := "order", desc := "(II)I" } : MethodName) ({ cls := "BiteYearsModel", name := "order", desc := "(II)I" } : MethodName)) ∈ gW := gW_tb 1785 (by decide +kernel) rfl
theorem w_1786 : (Cond.code ({ cls := "BiteYearsModel", name := "order", desc := "(II)I" } : MethodName) prog_14_method_85_code (9 : Nat) (Option.some FieldType.int)) ∈ gW := gW_tb 1786 (by decide +kernel) rfl
theorem w_1787 : (Cond.methodLink "BiteYearsModel" (340 : Nat) ({ cls := "BiteYearsModel", name := "allDishes", desc := "()I" } : MethodName)) ∈ gW := gW_tb 1787 (by decide +kernel) rfl
theorem w_1789 : (Cond.instanceMethod ({ cls := "BiteYearsModel", name := "allDishes", desc := "()I" } : MethodName)) ∈ gW := gW_tb 1789 (by decide +kernel) rfl
theorem w_1790 : (Cond.code ({ cls := "BiteYearsModel", name := "allDishes", desc := "()I" } : MethodName) prog_14_method_11_code (1 : Nat) (Option.some FieldType.int)) ∈ gW := gW_tb 1790 (by decide +kernel) rfl
theorem w_1791 : (Cond.methodLink "BiteYearsModel" (329 : Nat) ({ cls := "java/lang/Integer", name := "bitCount", desc := "(I)I" } : MethodName)) ∈ gW := gW_tb 1791 (by decide +kernel) rfl
theorem w_1792 : (Cond.methodLink "BiteYearsModel" (334 : Nat) ({ cls := "BiteYearsModel", name := "ordersOf", desc := "(I)I" } : MethodName)) ∈ gW := gW_tb 1792 (by decide +kernel) rfl
theorem w_1793 : (Cond.static ({ cls := "BiteYearsModel", name := "ordersOf", desc := "(I)I" } : MethodName)) ∈ gW := gW_tb 1793 (by decide +kernel) rfl
theorem w_1794 : (Cond.code ({ cls := "BiteYearsModel", name := "ordersOf", desc := "(I)I" } : MethodName) prog_14_method_82_code (3 : Nat) (Option.some FieldType.int)) ∈ gW := gW_tb 1794 (by decide +kernel) rfl
theorem w_1795 : (Cond.methodLink "BiteYearsModel" (343 : Nat) ({ cls := "BiteYearsModel", name := "laysRow", desc := "(II)V" } : MethodName)) ∈ gW := gW_tb 1795 (by decide +kernel) rfl
theorem w_1797 : (Cond.instanceMethod ({ cls := "BiteYearsModel", name := "laysRow", desc := "(II)V" } : MethodName)) ∈ gW := gW_tb 1797 (by decide +kernel) rfl
theorem w_1798 : (Cond.code ({ cls := "BiteYearsModel", name := "laysRow", desc := "(II)V" } : MethodName) prog_14_method_83_code (10 : Nat) (Option.none : Option FieldType)) ∈ gW := gW_tb 1798 (by decide +kernel) rfl
theorem w_1799 : (Cond.methodLink "BiteYearsModel" (337 : Nat) ({ cls := "BiteYearsModel", name := "has", desc := "(II)Z" } : MethodName)) ∈ gW := gW_tb 1799 (by decide +kernel) rfl
theorem w_1800 : (Cond.static ({ cls := "BiteYearsModel", name := "has", desc := "(II)Z" } : MethodName)) ∈ gW := gW_tb 1800 (by decide +kernel) rfl
theorem w_1801 : (Cond.code ({ cls := "BiteYearsModel", name := "has", desc := "(II)Z" } : MethodName) prog_14_method_4_code (2 : Nat) (Option.some FieldType.boolean)) ∈ gW := gW_tb 1801 (by decide +kernel) rfl
theorem w_1802 : (Cond.methodLink "BiteYearsModel" (346 : Nat) ({ cls := "BiteYearsModel", name := "saddest", desc := "(I)I" } : MethodName)) ∈ gW := gW_tb 1802 (by decide +kernel) rfl
theorem w_1804 : (Cond.instanceMethod ({ cls := "BiteYearsModel", name := "saddest", desc := "(I)I" } : MethodName)) ∈ gW := gW_tb 1804 (by decide +kernel) rfl
theorem w_1805 : (Cond.code ({ cls := "BiteYearsModel", name := "saddest", desc := "(I)I" } : MethodName) prog_14_method_84_code (4 : Nat) (Option.some FieldType.int)) ∈ gW := gW_tb 1805 (by decide +kernel) rfl
theorem w_1806 : (Cond.methodLink "BiteYearsLaw" (185 : Nat) ({ cls := "BiteYearsModel", name := "fewest", desc := "(II)I" } : MethodName)) ∈ gW := gW_tb 1806 (by decide +kernel) rfl
theorem w_1807 : (Cond.instanceMethod ({ cls := "BiteYearsModel", name := "fewest", desc := "(II)I" } : MethodName)) ∈ gW := gW_tb 1807 (by decide +kernel) rfl
theorem w_1808 : (Cond.selects "BiteYearsModel" ({ cls := "BiteYearsModel", name := "fewest", desc := "(II)I" } : MethodName) ({ cls := "BiteYearsModel", name := "fewest", desc := "(II)I" } : MethodName)) ∈ gW := gW_tb 1808 (by decide +kernel) rfl
theorem w_1809 : (Cond.code ({ cls := "BiteYearsModel", name := "fewest", desc := "(II)I" } : MethodName) prog_14_method_89_code (7 : Nat) (Option.some FieldType.int)) ∈ gW := gW_tb 1809 (by decide +kernel) rfl
theorem w_1810 : (Cond.methodLink "BiteYearsModel" (352 : Nat) ({ cls := "BiteYearsModel", name := "noAges", desc := "(I)Z" } : MethodName)) ∈ gW := gW_tb 1810 (by decide +kernel) rfl
theorem w_1811 : (Cond.static ({ cls := "BiteYearsModel", name := "noAges", desc := "(I)Z" } : MethodName)) ∈ gW := gW_tb 1811 (by decide +kernel) rfl
theorem w_1812 : (Cond.code ({ cls := "BiteYearsModel", name := "noAges", desc := "(I)Z" } : MethodName) prog_14_method_88_code (1 : Nat) (Option.some FieldType.boolean)) ∈ gW := gW_tb 1812 (by decide +kernel) rfl
theorem w_1813 : (Cond.methodLink "BiteYearsModel" (355 : Nat) ({ cls := "BiteYearsModel", name := "agesOf", desc := "(I)I" } : MethodName)) ∈ gW := gW_tb 1813 (by decide +kernel) rfl
theorem w_1815 : (Cond.instanceMethod ({ cls := "BiteYearsModel", name := "agesOf", desc := "(I)I" } : MethodName)) ∈ gW := gW_tb 1815 (by decide +kernel) rfl
theorem w_1816 : (Cond.code ({ cls := "BiteYearsModel", name := "agesOf", desc := "(I)I" } : MethodName) prog_14_method_87_code (4 : Nat) (Option.some FieldType.int)) ∈ gW := gW_tb 1816 (by decide +kernel) rfl
theorem w_1817 : (Cond.methodLink "BiteYearsModel" (349 : Nat) ({ cls := "BiteYearsModel", name := "ageOf", desc := "(I)I" } : MethodName)) ∈ gW := gW_tb 1817 (by decide +kernel) rfl
theorem w_1819 : (Cond.instanceMethod ({ cls := "BiteYearsModel", name := "ageOf", desc := "(I)I" } : MethodName)) ∈ gW := gW_tb 1819 (by decide +kernel) rfl
theorem w_1820 : (Cond.code ({ cls := "BiteYearsModel", name := "ageOf", desc := "(I)I" } : MethodName) prog_14_method_86_code (2 : Nat) (Option.some FieldType.int)) ∈ gW := gW_tb 1820 (by decide +kernel) rfl
theorem w_1821 : (Cond.methodLink "BiteYearsLaw" (191 : Nat) ({ cls := "BiteYearsModel", name := "he", desc := "()I" } : MethodName)) ∈ gW := gW_tb 1821 (by decide +kernel) rfl
theorem w_1822 : (Cond.instanceMethod ({ cls := "BiteYearsModel", name := "he", desc := "()I" } : MethodName)) ∈ gW := gW_tb 1822 (by decide +kernel) rfl
theorem w_1823 : (Cond.selects "BiteYearsModel" ({ cls := "BiteYearsModel", name := "he", desc := "()I" } : MethodName) ({ cls := "BiteYearsModel", name := "he", desc := "()I" } : MethodName)) ∈ gW := gW_tb 1823 (by decide +kernel) rfl
theorem w_1824 : (Cond.code ({ cls := "BiteYearsModel", name := "he", desc := "()I" } : MethodName) prog_14_method_91_code (8 : Nat) (Option.some FieldType.int)) ∈ gW := gW_tb 1824 (by decide +kernel) rfl
theorem w_1825 : (Cond.methodLink "BiteYearsModel" (358 : Nat) ({ cls := "BiteYearsModel", name := "wasHad", desc := "(IIII)Z" } : MethodName)) ∈ gW := gW_tb 1825 (by decide +kernel) rfl
theorem w_1827 : (Cond.instanceMethod ({ cls := "BiteYearsModel", name := "wasHad", desc := "(IIII)Z" } : MethodName)) ∈ gW := gW_tb 1827 (by decide +kernel) rfl
theorem w_1828 : (Cond.code ({ cls := "BiteYearsModel", name := "wasHad", desc := "(IIII)Z" } : MethodName) prog_14_method_90_code (5 : Nat) (Option.some FieldType.boolean)) ∈ gW := gW_tb 1828 (by decide +kernel) rfl
theorem w_1829 : (Cond.methodLink "BiteYearsLaw" (194 : Nat) ({ cls := "BiteYearsModel", name := "unknown", desc := "()I" } : MethodName)) ∈ gW := gW_tb 1829 (by decide +kernel) rfl
theorem w_1830 : (Cond.instanceMethod ({ cls := "BiteYearsModel", name := "unknown", desc := "()I" } : MethodName)) ∈ gW := gW_tb 1830 (by decide +kernel) rfl
theorem w_1831 : (Cond.selects "BiteYearsModel" ({ cls := "BiteYearsModel", name := "unknown", desc := "()I" } : MethodName) ({ cls := "BiteYearsModel", name := "unknown", desc := "()I" } : MethodName)) ∈ gW := gW_tb 1831 (by decide +kernel) rfl
theorem w_1832 : (Cond.code ({ cls := "BiteYearsModel", name := "unknown", desc := "()I" } : MethodName) prog_14_method_94_code (1 : Nat) (Option.some FieldType.int)) ∈ gW := gW_tb 1832 (by decide +kernel) rfl
theorem w_1833 : (Cond.methodLink "BiteYearsModel" (365 : Nat) ({ cls := "BiteYearsModel", name := "allThatFit", desc := "()I" } : MethodName)) ∈ gW := gW_tb 1833 (by decide +kernel) rfl
theorem w_1835 : (Cond.instanceMethod ({ cls := "BiteYearsModel", name := "allThatFit", desc := "()I" } : MethodName)) ∈ gW := gW_tb 1835 (by decide +kernel) rfl
theorem w_1836 : (Cond.code ({ cls := "BiteYearsModel", name := "allThatFit", desc := "()I" } : MethodName) prog_14_method_93_code (3 : Nat) (Option.some FieldType.int)) ∈ gW := gW_tb 1836 (by decide +kernel) rfl
theorem w_1837 : (Cond.methodLink "BiteYearsModel" (362 : Nat) ({ cls := "BiteYearsModel", name := "fits", desc := "(I)Z" } : MethodName)) ∈ gW := gW_tb 1837 (by decide +kernel) rfl
theorem w_1839 : (Cond.instanceMethod ({ cls := "BiteYearsModel", name := "fits", desc := "(I)Z" } : MethodName)) ∈ gW := gW_tb 1839 (by decide +kernel) rfl
theorem w_1840 : (Cond.code ({ cls := "BiteYearsModel", name := "fits", desc := "(I)Z" } : MethodName) prog_14_method_92_code (4 : Nat) (Option.some FieldType.boolean)) ∈ gW := gW_tb 1840 (by decide +kernel) rfl
theorem w_1841 : (Cond.methodLink "BiteYearsLaw" (197 : Nat) ({ cls := "BiteYearsModel", name := "serve", desc := "()I" } : MethodName)) ∈ gW := gW_tb 1841 (by decide +kernel) rfl
theorem w_1842 : (Cond.instanceMethod ({ cls := "BiteYearsModel", name := "serve", desc := "()I" } : MethodName)) ∈ gW := gW_tb 1842 (by decide +kernel) rfl
theorem w_1843 : (Cond.selects "BiteYearsModel" ({ cls := "BiteYearsModel", name := "serve", desc := "()I" } : MethodName) ({ cls := "BiteYearsModel", name := "serve", desc := "()I" } : MethodName)) ∈ gW := gW_tb 1843 (by decide +kernel) rfl
theorem w_1844 : (Cond.code ({ cls := "BiteYearsModel", name := "serve", desc := "()I" } : MethodName) prog_14_method_95_code (8 : Nat) (Option.some FieldType.int)) ∈ gW := gW_tb 1844 (by decide +kernel) rfl
theorem w_1845 : (Cond.methodLink "BiteYearsLaw" (200 : Nat) ({ cls := "BiteYearsModel", name := "jars", desc := "(I)I" } : MethodName)) ∈ gW := gW_tb 1845 (by decide +kernel) rfl
theorem w_1846 : (Cond.instanceMethod ({ cls := "BiteYearsModel", name := "jars", desc := "(I)I" } : MethodName)) ∈ gW := gW_tb 1846 (by decide +kernel) rfl
theorem w_1847 : (Cond.selects "BiteYearsModel" ({ cls := "BiteYearsModel", name := "jars", desc := "(I)I" } : MethodName) ({ cls := "BiteYearsModel", name := "jars", desc := "(I)I" } : MethodName)) ∈ gW := gW_tb 1847 (by decide +kernel) rfl
theorem w_1848 : (Cond.code ({ cls := "BiteYearsModel", name := "jars", desc := "(I)I" } : MethodName) prog_14_method_100_code (6 : Nat) (Option.some FieldType.int)) ∈ gW := gW_tb 1848 (by decide +kernel) rfl
theorem w_1849 : (Cond.methodLink "BiteYearsModel" (375 : Nat) ({ cls := "BiteYearsModel", name := "areJars", desc := "()Z" } : MethodName)) ∈ gW := gW_tb 1849 (by decide +kernel) rfl
theorem w_1851 : (Cond.instanceMethod ({ cls := "BiteYearsModel", name := "areJars", desc := "()Z" } : MethodName)) ∈ gW := gW_tb 1851 (by decide +kernel) rfl
theorem w_1852 : (Cond.code ({ cls := "BiteYearsModel", name := "areJars", desc := "()Z" } : MethodName) prog_14_method_97_code (3 : Nat) (Option.some FieldType.boolean)) ∈ gW := gW_tb 1852 (by decide +kernel) rfl
theorem w_1853 : (Cond.methodLink "BiteYearsModel" (378 : Nat) ({ cls := "BiteYearsModel", name := "laysLeast", desc := "(I)V" } : MethodName)) ∈ gW := gW_tb 1853 (by decide +kernel) rfl
theorem w_1855 : (Cond.instanceMethod ({ cls := "BiteYearsModel", name := "laysLeast", desc := "(I)V" } : MethodName)) ∈ gW := gW_tb 1855 (by decide +kernel) rfl
theorem w_1856 : (Cond.code ({ cls := "BiteYearsModel", name := "laysLeast", desc := "(I)V" } : MethodName) prog_14_method_99_code (5 : Nat) (Option.none : Option FieldType)) ∈ gW := gW_tb 1856 (by decide +kernel) rfl
theorem w_1857 : (Cond.methodLink "BiteYearsModel" (371 : Nat) ({ cls := "BiteYearsModel", name := "farBy", desc := "(III)I" } : MethodName)) ∈ gW := gW_tb 1857 (by decide +kernel) rfl
theorem w_1859 : (Cond.instanceMethod ({ cls := "BiteYearsModel", name := "farBy", desc := "(III)I" } : MethodName)) ∈ gW := gW_tb 1859 (by decide +kernel) rfl
theorem w_1860 : (Cond.code ({ cls := "BiteYearsModel", name := "farBy", desc := "(III)I" } : MethodName) prog_14_method_98_code (4 : Nat) (Option.some FieldType.int)) ∈ gW := gW_tb 1860 (by decide +kernel) rfl
theorem w_1861 : (Cond.methodLink "BiteYearsModel" (368 : Nat) ({ cls := "BiteYearsModel", name := "jarFrom", desc := "(II)I" } : MethodName)) ∈ gW := gW_tb 1861 (by decide +kernel) rfl
theorem w_1863 : (Cond.instanceMethod ({ cls := "BiteYearsModel", name := "jarFrom", desc := "(II)I" } : MethodName)) ∈ gW := gW_tb 1863 (by decide +kernel) rfl
theorem w_1864 : (Cond.code ({ cls := "BiteYearsModel", name := "jarFrom", desc := "(II)I" } : MethodName) prog_14_method_96_code (5 : Nat) (Option.some FieldType.int)) ∈ gW := gW_tb 1864 (by decide +kernel) rfl
theorem w_1865 : (Cond.methodLink "BiteYearsLaw" (203 : Nat) ({ cls := "BiteYearsModel", name := "kitchen", desc := "(I)I" } : MethodName)) ∈ gW := gW_tb 1865 (by decide +kernel) rfl
theorem w_1866 : (Cond.instanceMethod ({ cls := "BiteYearsModel", name := "kitchen", desc := "(I)I" } : MethodName)) ∈ gW := gW_tb 1866 (by decide +kernel) rfl
theorem w_1867 : (Cond.selects "BiteYearsModel" ({ cls := "BiteYearsModel", name := "kitchen", desc := "(I)I" } : MethodName) ({ cls := "BiteYearsModel", name := "kitchen", desc := "(I)I" } : MethodName)) ∈ gW := gW_tb 1867 (by decide +kernel) rfl
theorem w_1868 : (Cond.code ({ cls := "BiteYearsModel", name := "kitchen", desc := "(I)I" } : MethodName) prog_14_method_101_code (2 : Nat) (Option.some FieldType.int)) ∈ gW := gW_tb 1868 (by decide +kernel) rfl
theorem w_1869 : (Cond.methodLink "BiteYearsModel" (382 : Nat) ({ cls := "BiteYearsModel", name := "hadAt", desc := "(II)I" } : MethodName)) ∈ gW := gW_tb 1869 (by decide +kernel) rfl
theorem w_1871 : (Cond.instanceMethod ({ cls := "BiteYearsModel", name := "hadAt", desc := "(II)I" } : MethodName)) ∈ gW := gW_tb 1871 (by decide +kernel) rfl
theorem w_1872 : (Cond.code ({ cls := "BiteYearsModel", name := "hadAt", desc := "(II)I" } : MethodName) prog_14_method_102_code (5 : Nat) (Option.some FieldType.int)) ∈ gW := gW_tb 1872 (by decide +kernel) rfl
theorem w_1873 : (Cond.methodLink "BiteYearsLaw" (207 : Nat) ({ cls := "BiteYearsModel", name := "dated", desc := "(I)I" } : MethodName)) ∈ gW := gW_tb 1873 (by decide +kernel) rfl
theorem w_1874 : (Cond.instanceMethod ({ cls := "BiteYearsModel", name := "dated", desc := "(I)I" } : MethodName)) ∈ gW := gW_tb 1874 (by decide +kernel) rfl
theorem w_1875 : (Cond.selects "BiteYearsModel" ({ cls := "BiteYearsModel", name := "dated", desc := "(I)I" } : MethodName) ({ cls := "BiteYearsModel", name := "dated", desc := "(I)I" } : MethodName)) ∈ gW := gW_tb 1875 (by decide +kernel) rfl
theorem w_1876 : (Cond.code ({ cls := "BiteYearsModel", name := "dated", desc := "(I)I" } : MethodName) prog_14_method_103_code (5 : Nat) (Option.some FieldType.int)) ∈ gW := gW_tb 1876 (by decide +kernel) rfl
theorem w_1877 : (Cond.methodLink "BiteYearsLaw" (211 : Nat) ({ cls := "BiteYearsModel", name := "gap", desc := "()I" } : MethodName)) ∈ gW := gW_tb 1877 (by decide +kernel) rfl
theorem w_1878 : (Cond.instanceMethod ({ cls := "BiteYearsModel", name := "gap", desc := "()I" } : MethodName)) ∈ gW := gW_tb 1878 (by decide +kernel) rfl
theorem w_1879 : (Cond.selects "BiteYearsModel" ({ cls := "BiteYearsModel", name := "gap", desc := "()I" } : MethodName) ({ cls := "BiteYearsModel", name := "gap", desc := "()I" } : MethodName)) ∈ gW := gW_tb 1879 (by decide +kernel) rfl
theorem w_1880 : (Cond.code ({ cls := "BiteYearsModel", name := "gap", desc := "()I" } : MethodName) prog_14_method_105_code (4 : Nat) (Option.some FieldType.int)) ∈ gW := gW_tb 1880 (by decide +kernel) rfl
theorem w_1881 : (Cond.methodLink "BiteYearsModel" (385 : Nat) ({ cls := "BiteYearsModel", name := "nextFrom", desc := "(I)I" } : MethodName)) ∈ gW := gW_tb 1881 (by decide +kernel) rfl
theorem w_1883 : (Cond.instanceMethod ({ cls := "BiteYearsModel", name := "nextFrom", desc := "(I)I" } : MethodName)) ∈ gW := gW_tb 1883 (by decide +kernel) rfl
theorem w_1884 : (Cond.code ({ cls := "BiteYearsModel", name := "nextFrom", desc := "(I)I" } : MethodName) prog_14_method_104_code (4 : Nat) (Option.some FieldType.int)) ∈ gW := gW_tb 1884 (by decide +kernel) rfl
theorem w_1885 : (Cond.methodLink "BiteYearsLaw" (219 : Nat) ({ cls := "BiteYearsModel", name := "oldest", desc := "()I" } : MethodName)) ∈ gW := gW_tb 1885 (by decide +kernel) rfl
theorem w_1886 : (Cond.instanceMethod ({ cls := "BiteYearsModel", name := "oldest", desc := "()I" } : MethodName)) ∈ gW := gW_tb 1886 (by decide +kernel) rfl
theorem w_1887 : (Cond.selects "BiteYearsModel" ({ cls := "BiteYearsModel", name := "oldest", desc := "()I" } : MethodName) ({ cls := "BiteYearsModel", name := "oldest", desc := "()I" } : MethodName)) ∈ gW := gW_tb 1887 (by decide +kernel) rfl
theorem w_1888 : (Cond.code ({ cls := "BiteYearsModel", name := "oldest", desc := "()I" } : MethodName) prog_14_method_106_code (1 : Nat) (Option.some FieldType.int)) ∈ gW := gW_tb 1888 (by decide +kernel) rfl
theorem w_1889 : (Cond.methodLink "BiteYearsLaw" (237 : Nat) ({ cls := "BiteYearsModel", name := "next", desc := "()I" } : MethodName)) ∈ gW := gW_tb 1889 (by decide +kernel) rfl
theorem w_1890 : (Cond.instanceMethod ({ cls := "BiteYearsModel", name := "next", desc := "()I" } : MethodName)) ∈ gW := gW_tb 1890 (by decide +kernel) rfl
theorem w_1891 : (Cond.selects "BiteYearsModel" ({ cls := "BiteYearsModel", name := "next", desc := "()I" } : MethodName) ({ cls := "BiteYearsModel", name := "next", desc := "()I" } : MethodName)) ∈ gW := gW_tb 1891 (by decide +kernel) rfl
theorem w_1892 : (Cond.code ({ cls := "BiteYearsModel", name := "next", desc := "()I" } : MethodName) prog_14_method_107_code (1 : Nat) (Option.some FieldType.int)) ∈ gW := gW_tb 1892 (by decide +kernel) rfl
theorem w_1893 : (Cond.methodLink "BiteYearsLaw" (215 : Nat) ({ cls := "BiteYearsModel", name := "lover", desc := "()I" } : MethodName)) ∈ gW := gW_tb 1893 (by decide +kernel) rfl
theorem w_1894 : (Cond.instanceMethod ({ cls := "BiteYearsModel", name := "lover", desc := "()I" } : MethodName)) ∈ gW := gW_tb 1894 (by decide +kernel) rfl
theorem w_1895 : (Cond.selects "BiteYearsModel" ({ cls := "BiteYearsModel", name := "lover", desc := "()I" } : MethodName) ({ cls := "BiteYearsModel", name := "lover", desc := "()I" } : MethodName)) ∈ gW := gW_tb 1895 (by decide +kernel) rfl
theorem w_1896 : (Cond.code ({ cls := "BiteYearsModel", name := "lover", desc := "()I" } : MethodName) prog_14_method_108_code (5 : Nat) (Option.some FieldType.int)) ∈ gW := gW_tb 1896 (by decide +kernel) rfl
theorem w_1897 : (Cond.methodLink "BiteYearsLaw" (223 : Nat) ({ cls := "BiteYearsModel", name := "sad", desc := "()I" } : MethodName)) ∈ gW := gW_tb 1897 (by decide +kernel) rfl
theorem w_1898 : (Cond.instanceMethod ({ cls := "BiteYearsModel", name := "sad", desc := "()I" } : MethodName)) ∈ gW := gW_tb 1898 (by decide +kernel) rfl
theorem w_1899 : (Cond.selects "BiteYearsModel" ({ cls := "BiteYearsModel", name := "sad", desc := "()I" } : MethodName) ({ cls := "BiteYearsModel", name := "sad", desc := "()I" } : MethodName)) ∈ gW := gW_tb 1899 (by decide +kernel) rfl
theorem w_1900 : (Cond.code ({ cls := "BiteYearsModel", name := "sad", desc := "()I" } : MethodName) prog_14_method_109_code (5 : Nat) (Option.some FieldType.int)) ∈ gW := gW_tb 1900 (by decide +kernel) rfl
theorem w_1901 : (Cond.constant "BiteYearsModel" (388 : Nat) (-1000000 : Int32)) ∈ gW := gW_tb 1901 (by decide +kernel) rfl
theorem w_1902 : (Cond.methodLink "BiteYearsLaw" (226 : Nat) ({ cls := "BiteYearsModel", name := "hosts", desc := "(II)I" } : MethodName)) ∈ gW := gW_tb 1902 (by decide +kernel) rfl
theorem w_1903 : (Cond.instanceMethod ({ cls := "BiteYearsModel", name := "hosts", desc := "(II)I" } : MethodName)) ∈ gW := gW_tb 1903 (by decide +kernel) rfl
theorem w_1904 : (Cond.selects "BiteYearsModel" ({ cls := "BiteYearsModel", name := "hosts", desc := "(II)I" } : MethodName) ({ cls := "BiteYearsModel", name := "hosts", desc := "(II)I" } : MethodName)) ∈ gW := gW_tb 1904 (by decide +kernel) rfl
theorem w_1905 : (Cond.code ({ cls := "BiteYearsModel", name := "hosts", desc := "(II)I" } : MethodName) prog_14_method_111_code (8 : Nat) (Option.some FieldType.int)) ∈ gW := gW_tb 1905 (by decide +kernel) rfl
theorem w_1906 : (Cond.methodLink "BiteYearsModel" (389 : Nat) ({ cls := "BiteYearsModel", name := "hostHas", desc := "(II)I" } : MethodName)) ∈ gW := gW_tb 1906 (by decide +kernel) rfl
theorem w_1908 : (Cond.instanceMethod ({ cls := "BiteYearsModel", name := "hostHas", desc := "(II)I" } : MethodName)) ∈ gW := gW_tb 1908 (by decide +kernel) rfl
theorem w_1909 : (Cond.code ({ cls := "BiteYearsModel", name := "hostHas", desc := "(II)I" } : MethodName) prog_14_method_110_code (3 : Nat) (Option.some FieldType.int)) ∈ gW := gW_tb 1909 (by decide +kernel) rfl
theorem w_1910 : (Cond.methodLink "BiteYearsLaw" (233 : Nat) ({ cls := "BiteYearsModel", name := "twins", desc := "()I" } : MethodName)) ∈ gW := gW_tb 1910 (by decide +kernel) rfl
theorem w_1911 : (Cond.instanceMethod ({ cls := "BiteYearsModel", name := "twins", desc := "()I" } : MethodName)) ∈ gW := gW_tb 1911 (by decide +kernel) rfl
theorem w_1912 : (Cond.selects "BiteYearsModel" ({ cls := "BiteYearsModel", name := "twins", desc := "()I" } : MethodName) ({ cls := "BiteYearsModel", name := "twins", desc := "()I" } : MethodName)) ∈ gW := gW_tb 1912 (by decide +kernel) rfl
theorem w_1913 : (Cond.code ({ cls := "BiteYearsModel", name := "twins", desc := "()I" } : MethodName) prog_14_method_112_code (4 : Nat) (Option.some FieldType.int)) ∈ gW := gW_tb 1913 (by decide +kernel) rfl
theorem w_1914 : (Cond.methodLink "BiteYearsLaw" (241 : Nat) ({ cls := "BiteYearsModel", name := "warlike", desc := "()I" } : MethodName)) ∈ gW := gW_tb 1914 (by decide +kernel) rfl
theorem w_1915 : (Cond.instanceMethod ({ cls := "BiteYearsModel", name := "warlike", desc := "()I" } : MethodName)) ∈ gW := gW_tb 1915 (by decide +kernel) rfl
theorem w_1916 : (Cond.selects "BiteYearsModel" ({ cls := "BiteYearsModel", name := "warlike", desc := "()I" } : MethodName) ({ cls := "BiteYearsModel", name := "warlike", desc := "()I" } : MethodName)) ∈ gW := gW_tb 1916 (by decide +kernel) rfl
theorem w_1917 : (Cond.code ({ cls := "BiteYearsModel", name := "warlike", desc := "()I" } : MethodName) prog_14_method_113_code (3 : Nat) (Option.some FieldType.int)) ∈ gW := gW_tb 1917 (by decide +kernel) rfl
theorem w_1918 : (Cond.methodLink "BiteYearsLaw" (244 : Nat) ({ cls := "BiteYearsModel", name := "company", desc := "(I)I" } : MethodName)) ∈ gW := gW_tb 1918 (by decide +kernel) rfl
theorem w_1919 : (Cond.instanceMethod ({ cls := "BiteYearsModel", name := "company", desc := "(I)I" } : MethodName)) ∈ gW := gW_tb 1919 (by decide +kernel) rfl
theorem w_1920 : (Cond.selects "BiteYearsModel" ({ cls := "BiteYearsModel", name := "company", desc := "(I)I" } : MethodName) ({ cls := "BiteYearsModel", name := "company", desc := "(I)I" } : MethodName)) ∈ gW := gW_tb 1920 (by decide +kernel) rfl
theorem w_1921 : (Cond.code ({ cls := "BiteYearsModel", name := "company", desc := "(I)I" } : MethodName) prog_14_method_114_code (2 : Nat) (Option.some FieldType.int)) ∈ gW := gW_tb 1921 (by decide +kernel) rfl
theorem w_1922 : (Cond.methodLink "BiteYearsLaw" (247 : Nat) ({ cls := "BiteYearsModel", name := "odds", desc := "(II)I" } : MethodName)) ∈ gW := gW_tb 1922 (by decide +kernel) rfl
theorem w_1923 : (Cond.instanceMethod ({ cls := "BiteYearsModel", name := "odds", desc := "(II)I" } : MethodName)) ∈ gW := gW_tb 1923 (by decide +kernel) rfl
theorem w_1924 : (Cond.selects "BiteYearsModel" ({ cls := "BiteYearsModel", name := "odds", desc := "(II)I" } : MethodName) ({ cls := "BiteYearsModel", name := "odds", desc := "(II)I" } : MethodName)) ∈ gW := gW_tb 1924 (by decide +kernel) rfl
theorem w_1925 : (Cond.code ({ cls := "BiteYearsModel", name := "odds", desc := "(II)I" } : MethodName) prog_14_method_115_code (8 : Nat) (Option.some FieldType.int)) ∈ gW := gW_tb 1925 (by decide +kernel) rfl
theorem w_1926 : (Cond.constantLong "BiteYearsModel" (392 : Nat) (100 : Int64)) ∈ gW := gW_tb 1926 (by decide +kernel) rfl
theorem w_1927 : (Cond.constantLong "BiteYearsModel" (394 : Nat) (10000 : Int64)) ∈ gW := gW_tb 1927 (by decide +kernel) rfl
theorem w_1928 : (Cond.methodLink "BiteYearsLaw" (250 : Nat) ({ cls := "BiteYearsModel", name := "share", desc := "(I)I" } : MethodName)) ∈ gW := gW_tb 1928 (by decide +kernel) rfl
theorem w_1929 : (Cond.instanceMethod ({ cls := "BiteYearsModel", name := "share", desc := "(I)I" } : MethodName)) ∈ gW := gW_tb 1929 (by decide +kernel) rfl
theorem w_1930 : (Cond.selects "BiteYearsModel" ({ cls := "BiteYearsModel", name := "share", desc := "(I)I" } : MethodName) ({ cls := "BiteYearsModel", name := "share", desc := "(I)I" } : MethodName)) ∈ gW := gW_tb 1930 (by decide +kernel) rfl
theorem w_1931 : (Cond.code ({ cls := "BiteYearsModel", name := "share", desc := "(I)I" } : MethodName) prog_14_method_116_code (3 : Nat) (Option.some FieldType.int)) ∈ gW := gW_tb 1931 (by decide +kernel) rfl
theorem w_1932 : (Cond.methodLink "BiteYearsLaw" (254 : Nat) ({ cls := "BiteYearsModel", name := "trial", desc := "(IZ)I" } : MethodName)) ∈ gW := gW_tb 1932 (by decide +kernel) rfl
theorem w_1933 : (Cond.instanceMethod ({ cls := "BiteYearsModel", name := "trial", desc := "(IZ)I" } : MethodName)) ∈ gW := gW_tb 1933 (by decide +kernel) rfl
theorem w_1934 : (Cond.selects "BiteYearsModel" ({ cls := "BiteYearsModel", name := "trial", desc := "(IZ)I" } : MethodName) ({ cls := "BiteYearsModel", name := "trial", desc := "(IZ)I" } : MethodName)) ∈ gW := gW_tb 1934 (by decide +kernel) rfl
theorem w_1935 : (Cond.code ({ cls := "BiteYearsModel", name := "trial", desc := "(IZ)I" } : MethodName) prog_14_method_117_code (4 : Nat) (Option.some FieldType.int)) ∈ gW := gW_tb 1935 (by decide +kernel) rfl
theorem w_1936 : (Cond.methodLink "BiteYearsLaw" (257 : Nat) ({ cls := "BiteYearsModel", name := "span", desc := "(IZ)I" } : MethodName)) ∈ gW := gW_tb 1936 (by decide +kernel) rfl
theorem w_1937 : (Cond.instanceMethod ({ cls := "BiteYearsModel", name := "span", desc := "(IZ)I" } : MethodName)) ∈ gW := gW_tb 1937 (by decide +kernel) rfl
theorem w_1938 : (Cond.selects "BiteYearsModel" ({ cls := "BiteYearsModel", name := "span", desc := "(IZ)I" } : MethodName) ({ cls := "BiteYearsModel", name := "span", desc := "(IZ)I" } : MethodName)) ∈ gW := gW_tb 1938 (by decide +kernel) rfl
theorem w_1939 : (Cond.code ({ cls := "BiteYearsModel", name := "span", desc := "(IZ)I" } : MethodName) prog_14_method_118_code (6 : Nat) (Option.some FieldType.int)) ∈ gW := gW_tb 1939 (by decide +kernel) rfl
theorem w_1940 : (Cond.methodLink "BiteYearsLaw" (260 : Nat) ({ cls := "BiteYearsModel", name := "led", desc := "(IZ)I" } : MethodName)) ∈ gW := gW_tb 1940 (by decide +kernel) rfl
theorem w_1941 : (Cond.instanceMethod ({ cls := "BiteYearsModel", name := "led", desc := "(IZ)I" } : MethodName)) ∈ gW := gW_tb 1941 (by decide +kernel) rfl
theorem w_1942 : (Cond.selects "BiteYearsModel" ({ cls := "BiteYearsModel", name := "led", desc := "(IZ)I" } : MethodName) ({ cls := "BiteYearsModel", name := "led", desc := "(IZ)I" } : MethodName)) ∈ gW := gW_tb 1942 (by decide +kernel) rfl
theorem w_1943 : (Cond.code ({ cls := "BiteYearsModel", name := "led", desc := "(IZ)I" } : MethodName) prog_14_method_120_code (6 : Nat) (Option.some FieldType.int)) ∈ gW := gW_tb 1943 (by decide +kernel) rfl
theorem w_1944 : (Cond.methodLink "BiteYearsModel" (396 : Nat) ({ cls := "BiteYearsModel", name := "ofLog", desc := "(II)I" } : MethodName)) ∈ gW := gW_tb 1944 (by decide +kernel) rfl
theorem w_1946 : (Cond.instanceMethod ({ cls := "BiteYearsModel", name := "ofLog", desc := "(II)I" } : MethodName)) ∈ gW := gW_tb 1946 (by decide +kernel) rfl
theorem w_1947 : (Cond.code ({ cls := "BiteYearsModel", name := "ofLog", desc := "(II)I" } : MethodName) prog_14_method_119_code (3 : Nat) (Option.some FieldType.int)) ∈ gW := gW_tb 1947 (by decide +kernel) rfl
theorem w_1948 : (Cond.methodLink "BiteYearsLaw" (263 : Nat) ({ cls := "BiteYearsModel", name := "log", desc := "(II)I" } : MethodName)) ∈ gW := gW_tb 1948 (by decide +kernel) rfl
theorem w_1949 : (Cond.instanceMethod ({ cls := "BiteYearsModel", name := "log", desc := "(II)I" } : MethodName)) ∈ gW := gW_tb 1949 (by decide +kernel) rfl
theorem w_1950 : (Cond.selects "BiteYearsModel" ({ cls := "BiteYearsModel", name := "log", desc := "(II)I" } : MethodName) ({ cls := "BiteYearsModel", name := "log", desc := "(II)I" } : MethodName)) ∈ gW := gW_tb 1950 (by decide +kernel) rfl
theorem w_1951 : (Cond.code ({ cls := "BiteYearsModel", name := "log", desc := "(II)I" } : MethodName) prog_14_method_121_code (3 : Nat) (Option.some FieldType.int)) ∈ gW := gW_tb 1951 (by decide +kernel) rfl
theorem w_1952 : (Cond.methodLink "BiteYearsLaw" (267 : Nat) ({ cls := "BiteYearsModel", name := "seed", desc := "(I)I" } : MethodName)) ∈ gW := gW_tb 1952 (by decide +kernel) rfl
theorem w_1953 : (Cond.instanceMethod ({ cls := "BiteYearsModel", name := "seed", desc := "(I)I" } : MethodName)) ∈ gW := gW_tb 1953 (by decide +kernel) rfl
theorem w_1954 : (Cond.selects "BiteYearsModel" ({ cls := "BiteYearsModel", name := "seed", desc := "(I)I" } : MethodName) ({ cls := "BiteYearsModel", name := "seed", desc := "(I)I" } : MethodName)) ∈ gW := gW_tb 1954 (by decide +kernel) rfl
theorem w_1955 : (Cond.code ({ cls := "BiteYearsModel", name := "seed", desc := "(I)I" } : MethodName) prog_14_method_122_code (3 : Nat) (Option.some FieldType.int)) ∈ gW := gW_tb 1955 (by decide +kernel) rfl
theorem w_1956 : (Cond.methodLink "BiteYearsLaw" (284 : Nat) ({ cls := "BiteYearsModel", name := "count", desc := "(I)I" } : MethodName)) ∈ gW := gW_tb 1956 (by decide +kernel) rfl
theorem w_1957 : (Cond.instanceMethod ({ cls := "BiteYearsModel", name := "count", desc := "(I)I" } : MethodName)) ∈ gW := gW_tb 1957 (by decide +kernel) rfl
theorem w_1958 : (Cond.selects "BiteYearsModel" ({ cls := "BiteYearsModel", name := "count", desc := "(I)I" } : MethodName) ({ cls := "BiteYearsModel", name := "count", desc := "(I)I" } : MethodName)) ∈ gW := gW_tb 1958 (by decide +kernel) rfl
theorem w_1959 : (Cond.code ({ cls := "BiteYearsModel", name := "count", desc := "(I)I" } : MethodName) prog_14_method_123_code (2 : Nat) (Option.some FieldType.int)) ∈ gW := gW_tb 1959 (by decide +kernel) rfl
theorem w_1960 : (Cond.sameMethod "BiteYears$Text" "BiteYears$Text" "kindAt" "(I)I") ∈ gW := gW_tb 1960 (by decide +kernel) rfl
theorem w_1961 : (Cond.sameMethod "BiteYears$Text" "BiteYears$Text" "isSign" "(C)Z") ∈ gW := gW_tb 1961 (by decide +kernel) rfl
theorem w_1962 : (Cond.selects "BiteYears$LawText" ({ cls := "BiteYears$Text", name := "isSign", desc := "(C)Z" } : MethodName) ({ cls := "BiteYears$Text", name := "isSign", desc := "(C)Z" } : MethodName)) ∈ gW := gW_tb 1962 (by decide +kernel) rfl
theorem w_1963 : (Cond.selects "BiteYears$LifeText" ({ cls := "BiteYears$Text", name := "isSign", desc := "(C)Z" } : MethodName) ({ cls := "BiteYears$Text", name := "isSign", desc := "(C)Z" } : MethodName)) ∈ gW := gW_tb 1963 (by decide +kernel) rfl
theorem w_1964 : (Cond.sameMethod "java/lang/Throwable" "java/lang/Throwable" "fillInStackTrace" "(I)Ljava/lang/Throwable;") ∈ gW := gW_tb 1964 (by decide +kernel) rfl
theorem w_1984 : (Cond.fieldLink "java/lang/String" (9 : Nat) "java/lang/String" "value" "[B") ∈ gW := gW_tb 1984 (by decide +kernel) rfl
theorem w_1985 : (Cond.fieldLink "java/lang/String" (15 : Nat) "java/lang/String" "coder" "B") ∈ gW := gW_tb 1985 (by decide +kernel) rfl
theorem sp_0 : Cond.selects "BiteYears" ⟨"BiteYears", "putBytes", "(I)V"⟩ ⟨"BiteYears", "putBytes", "(I)V"⟩ ∈ gW := gW_at 0 (by decide +kernel) rfl
theorem sp_1 : Cond.selects "BiteYears" ⟨"BiteYears", "turnsNow", "(I)I"⟩ ⟨"BiteYears", "turnsNow", "(I)I"⟩ ∈ gW := gW_at 1 (by decide +kernel) rfl
theorem sp_2 : Cond.selects "BiteYears$Served" ⟨"BiteYears$Served", "putCalled", "(LBiteYears$Lady;)V"⟩ ⟨"BiteYears$Served", "putCalled", "(LBiteYears$Lady;)V"⟩ ∈ gW := gW_at 2 (by decide +kernel) rfl
theorem sp_3 : Cond.selects "BiteYears$Law" ⟨"BiteYears$Law", "holds", "(ILBiteYears$Served;)Z"⟩ ⟨"BiteYears$Law", "holds", "(ILBiteYears$Served;)Z"⟩ ∈ gW := gW_at 3 (by decide +kernel) rfl
theorem sp_4 : Cond.selects "BiteYears$Law" ⟨"BiteYears$Law", "step", "(IILBiteYears$Served;)I"⟩ ⟨"BiteYears$Law", "step", "(IILBiteYears$Served;)I"⟩ ∈ gW := gW_at 4 (by decide +kernel) rfl
theorem sp_5 : Cond.selects "BiteYears$Law" ⟨"BiteYears$Law", "push", "(IILBiteYears$Served;)I"⟩ ⟨"BiteYears$Law", "push", "(IILBiteYears$Served;)I"⟩ ∈ gW := gW_at 5 (by decide +kernel) rfl
theorem sp_6 : Cond.selects "BiteYears" ⟨"BiteYears", "takeTape", "()I"⟩ ⟨"BiteYears", "takeTape", "()I"⟩ ∈ gW := gW_at 6 (by decide +kernel) rfl
theorem sp_7 : Cond.selects "BiteYears$LawText" ⟨"BiteYears$LawText", "kindHere", "()I"⟩ ⟨"BiteYears$LawText", "kindHere", "()I"⟩ ∈ gW := gW_at 7 (by decide +kernel) rfl
theorem sp_8 : Cond.selects "BiteYears$LawText" ⟨"BiteYears$LawText", "readCondition", "()Z"⟩ ⟨"BiteYears$LawText", "readCondition", "()Z"⟩ ∈ gW := gW_at 8 (by decide +kernel) rfl
theorem sp_9 : Cond.selects "BiteYears$LawText" ⟨"BiteYears$LawText", "openingHere", "()I"⟩ ⟨"BiteYears$LawText", "openingHere", "()I"⟩ ∈ gW := gW_at 9 (by decide +kernel) rfl
theorem sp_10 : Cond.selects "BiteYears$LawText" ⟨"BiteYears$LawText", "putOff", "(I)V"⟩ ⟨"BiteYears$LawText", "putOff", "(I)V"⟩ ∈ gW := gW_at 10 (by decide +kernel) rfl
theorem sp_11 : Cond.selects "BiteYears$LawText" ⟨"BiteYears$LawText", "readState", "()Z"⟩ ⟨"BiteYears$LawText", "readState", "()Z"⟩ ∈ gW := gW_at 11 (by decide +kernel) rfl
theorem sp_12 : Cond.selects "BiteYears$LawText" ⟨"BiteYears$LawText", "stateHere", "()I"⟩ ⟨"BiteYears$LawText", "stateHere", "()I"⟩ ∈ gW := gW_at 12 (by decide +kernel) rfl
theorem sp_13 : Cond.selects "BiteYears$LawText" ⟨"BiteYears$LawText", "readComparison", "()Z"⟩ ⟨"BiteYears$LawText", "readComparison", "()Z"⟩ ∈ gW := gW_at 13 (by decide +kernel) rfl
theorem sp_14 : Cond.selects "BiteYears$LawText" ⟨"BiteYears$LawText", "readSum", "()Z"⟩ ⟨"BiteYears$LawText", "readSum", "()Z"⟩ ∈ gW := gW_at 14 (by decide +kernel) rfl
theorem sp_15 : Cond.selects "BiteYears$LawText" ⟨"BiteYears$LawText", "valueHere", "()I"⟩ ⟨"BiteYears$LawText", "valueHere", "()I"⟩ ∈ gW := gW_at 15 (by decide +kernel) rfl
theorem sp_16 : Cond.selects "BiteYears$LawText" ⟨"BiteYears$LawText", "closeBrackets", "()V"⟩ ⟨"BiteYears$LawText", "closeBrackets", "()V"⟩ ∈ gW := gW_at 16 (by decide +kernel) rfl
theorem sp_17 : Cond.selects "BiteYears$LawText" ⟨"BiteYears$LawText", "settle", "(I)V"⟩ ⟨"BiteYears$LawText", "settle", "(I)V"⟩ ∈ gW := gW_at 17 (by decide +kernel) rfl
theorem sp_18 : Cond.selects "BiteYears$LawText" ⟨"BiteYears$LawText", "joiningHere", "()I"⟩ ⟨"BiteYears$LawText", "joiningHere", "()I"⟩ ∈ gW := gW_at 18 (by decide +kernel) rfl
theorem sp_19 : Cond.selects "BiteYears$LifeText" ⟨"BiteYears$LifeText", "readDish", "()Z"⟩ ⟨"BiteYears$LifeText", "readDish", "()Z"⟩ ∈ gW := gW_at 19 (by decide +kernel) rfl
theorem sp_20 : Cond.selects "BiteYears$LifeText" ⟨"BiteYears$LifeText", "readFirst", "()Z"⟩ ⟨"BiteYears$LifeText", "readFirst", "()Z"⟩ ∈ gW := gW_at 20 (by decide +kernel) rfl
theorem sp_21 : Cond.selects "BiteYears$LifeText" ⟨"BiteYears$LifeText", "readWar", "()Z"⟩ ⟨"BiteYears$LifeText", "readWar", "()Z"⟩ ∈ gW := gW_at 21 (by decide +kernel) rfl
theorem sp_22 : Cond.selects "java/lang/Throwable" ⟨"java/lang/Throwable", "fillInStackTrace", "(I)Ljava/lang/Throwable;"⟩ ⟨"java/lang/Throwable", "fillInStackTrace", "(I)Ljava/lang/Throwable;"⟩ ∈ gW := gW_at 22 (by decide +kernel) rfl
theorem sp_23 : Cond.selects "BiteYears" ⟨"BiteYears", "paysNow", "(I)I"⟩ ⟨"BiteYears", "paysNow", "(I)I"⟩ ∈ gW := gW_at 23 (by decide +kernel) rfl
theorem sp_24 : Cond.selects "BiteYears" ⟨"BiteYears", "passEvening", "(LBiteYears$Lady;Z)I"⟩ ⟨"BiteYears", "passEvening", "(LBiteYears$Lady;Z)I"⟩ ∈ gW := gW_at 24 (by decide +kernel) rfl
theorem sp_25 : Cond.selects "BiteYears" ⟨"BiteYears", "toldAtMost", "(II)Z"⟩ ⟨"BiteYears", "toldAtMost", "(II)Z"⟩ ∈ gW := gW_at 25 (by decide +kernel) rfl
theorem sp_26 : Cond.selects "BiteYears$Orders" ⟨"BiteYears$Orders", "goOn", "(IIILBiteYears$Law;LBiteYears$Served;)V"⟩ ⟨"BiteYears$Orders", "goOn", "(IIILBiteYears$Law;LBiteYears$Served;)V"⟩ ∈ gW := gW_at 26 (by decide +kernel) rfl
theorem sp_27 : Cond.selects "BiteYears" ⟨"BiteYears", "arePairs", "(I)Z"⟩ ⟨"BiteYears", "arePairs", "(I)Z"⟩ ∈ gW := gW_at 27 (by decide +kernel) rfl
theorem sp_28 : Cond.selects "BiteYears" ⟨"BiteYears", "fitting", "(I)I"⟩ ⟨"BiteYears", "fitting", "(I)I"⟩ ∈ gW := gW_at 28 (by decide +kernel) rfl
theorem sp_29 : Cond.selects "BiteYears" ⟨"BiteYears", "greaterPart", "(II)I"⟩ ⟨"BiteYears", "greaterPart", "(II)I"⟩ ∈ gW := gW_at 29 (by decide +kernel) rfl
theorem sp_30 : Cond.selects "BiteYears$Jars" ⟨"BiteYears$Jars", "goOn", "(III)V"⟩ ⟨"BiteYears$Jars", "goOn", "(III)V"⟩ ∈ gW := gW_at 30 (by decide +kernel) rfl
theorem sp_31 : Cond.selects "BiteYears$Jars" ⟨"BiteYears$Jars", "isWorthwhile", "(II)Z"⟩ ⟨"BiteYears$Jars", "isWorthwhile", "(II)Z"⟩ ∈ gW := gW_at 31 (by decide +kernel) rfl
theorem sp_32 : Cond.selects "BiteYears" ⟨"BiteYears", "tryEvenings", "(II)V"⟩ ⟨"BiteYears", "tryEvenings", "(II)V"⟩ ∈ gW := gW_at 32 (by decide +kernel) rfl
theorem sp_33 : Cond.selects "BiteYearsModel" ⟨"BiteYearsModel", "readAll", "(Z)I"⟩ ⟨"BiteYearsModel", "readAll", "(Z)I"⟩ ∈ gW := gW_at 33 (by decide +kernel) rfl
theorem sp_34 : Cond.selects "BiteYearsModel" ⟨"BiteYearsModel", "uses", "()V"⟩ ⟨"BiteYearsModel", "uses", "()V"⟩ ∈ gW := gW_at 34 (by decide +kernel) rfl
theorem sp_35 : Cond.selects "BiteYearsModel" ⟨"BiteYearsModel", "blanks", "()V"⟩ ⟨"BiteYearsModel", "blanks", "()V"⟩ ∈ gW := gW_at 35 (by decide +kernel) rfl
theorem sp_36 : Cond.selects "BiteYearsModel" ⟨"BiteYearsModel", "isAt", "(II)Z"⟩ ⟨"BiteYearsModel", "isAt", "(II)Z"⟩ ∈ gW := gW_at 36 (by decide +kernel) rfl
theorem sp_37 : Cond.selects "BiteYearsModel" ⟨"BiteYearsModel", "readLine", "(ZI)Z"⟩ ⟨"BiteYearsModel", "readLine", "(ZI)Z"⟩ ∈ gW := gW_at 37 (by decide +kernel) rfl
theorem sp_38 : Cond.selects "BiteYearsModel" ⟨"BiteYearsModel", "letters", "()V"⟩ ⟨"BiteYearsModel", "letters", "()V"⟩ ∈ gW := gW_at 38 (by decide +kernel) rfl
theorem sp_39 : Cond.selects "BiteYearsModel" ⟨"BiteYearsModel", "readLifeLine", "()Z"⟩ ⟨"BiteYearsModel", "readLifeLine", "()Z"⟩ ∈ gW := gW_at 39 (by decide +kernel) rfl
theorem sp_40 : Cond.selects "BiteYearsModel" ⟨"BiteYearsModel", "isWord", "(Ljava/lang/String;)Z"⟩ ⟨"BiteYearsModel", "isWord", "(Ljava/lang/String;)Z"⟩ ∈ gW := gW_at 40 (by decide +kernel) rfl
theorem sp_41 : Cond.selects "BiteYearsModel" ⟨"BiteYearsModel", "readDish", "()Z"⟩ ⟨"BiteYearsModel", "readDish", "()Z"⟩ ∈ gW := gW_at 41 (by decide +kernel) rfl
theorem sp_42 : Cond.selects "BiteYearsModel" ⟨"BiteYearsModel", "dishes", "()I"⟩ ⟨"BiteYearsModel", "dishes", "()I"⟩ ∈ gW := gW_at 42 (by decide +kernel) rfl
theorem sp_43 : Cond.selects "BiteYearsModel" ⟨"BiteYearsModel", "readTastes", "(I)Z"⟩ ⟨"BiteYearsModel", "readTastes", "(I)Z"⟩ ∈ gW := gW_at 43 (by decide +kernel) rfl
theorem sp_44 : Cond.selects "BiteYearsModel" ⟨"BiteYearsModel", "readFirst", "(I)Z"⟩ ⟨"BiteYearsModel", "readFirst", "(I)Z"⟩ ∈ gW := gW_at 44 (by decide +kernel) rfl
theorem sp_45 : Cond.selects "BiteYearsModel" ⟨"BiteYearsModel", "passes", "(Ljava/lang/String;)Z"⟩ ⟨"BiteYearsModel", "passes", "(Ljava/lang/String;)Z"⟩ ∈ gW := gW_at 45 (by decide +kernel) rfl
theorem sp_46 : Cond.selects "BiteYearsModel" ⟨"BiteYearsModel", "number", "(II)I"⟩ ⟨"BiteYearsModel", "number", "(II)I"⟩ ∈ gW := gW_at 46 (by decide +kernel) rfl
theorem sp_47 : Cond.selects "BiteYearsModel" ⟨"BiteYearsModel", "after", "(Ljava/lang/String;II)I"⟩ ⟨"BiteYearsModel", "after", "(Ljava/lang/String;II)I"⟩ ∈ gW := gW_at 47 (by decide +kernel) rfl
theorem sp_48 : Cond.selects "BiteYearsModel" ⟨"BiteYearsModel", "readToday", "()Z"⟩ ⟨"BiteYearsModel", "readToday", "()Z"⟩ ∈ gW := gW_at 48 (by decide +kernel) rfl
theorem sp_49 : Cond.selects "BiteYearsModel" ⟨"BiteYearsModel", "readNumber", "(III)Z"⟩ ⟨"BiteYearsModel", "readNumber", "(III)Z"⟩ ∈ gW := gW_at 49 (by decide +kernel) rfl
theorem sp_50 : Cond.selects "BiteYearsModel" ⟨"BiteYearsModel", "readWar", "()Z"⟩ ⟨"BiteYearsModel", "readWar", "()Z"⟩ ∈ gW := gW_at 50 (by decide +kernel) rfl
theorem sp_51 : Cond.selects "BiteYearsModel" ⟨"BiteYearsModel", "readLawLine", "(I)Z"⟩ ⟨"BiteYearsModel", "readLawLine", "(I)Z"⟩ ∈ gW := gW_at 51 (by decide +kernel) rfl
theorem sp_52 : Cond.selects "BiteYearsModel" ⟨"BiteYearsModel", "readCond", "()Z"⟩ ⟨"BiteYearsModel", "readCond", "()Z"⟩ ∈ gW := gW_at 52 (by decide +kernel) rfl
theorem sp_53 : Cond.selects "BiteYearsModel" ⟨"BiteYearsModel", "readAllOf", "()Z"⟩ ⟨"BiteYearsModel", "readAllOf", "()Z"⟩ ∈ gW := gW_at 53 (by decide +kernel) rfl
theorem sp_54 : Cond.selects "BiteYearsModel" ⟨"BiteYearsModel", "readAtom", "()Z"⟩ ⟨"BiteYearsModel", "readAtom", "()Z"⟩ ∈ gW := gW_at 54 (by decide +kernel) rfl
theorem sp_55 : Cond.selects "BiteYearsModel" ⟨"BiteYearsModel", "sign", "(I)Z"⟩ ⟨"BiteYearsModel", "sign", "(I)Z"⟩ ∈ gW := gW_at 55 (by decide +kernel) rfl
theorem sp_56 : Cond.selects "BiteYearsModel" ⟨"BiteYearsModel", "emits", "(II)V"⟩ ⟨"BiteYearsModel", "emits", "(II)V"⟩ ∈ gW := gW_at 56 (by decide +kernel) rfl
theorem sp_57 : Cond.selects "BiteYearsModel" ⟨"BiteYearsModel", "readTag", "()Z"⟩ ⟨"BiteYearsModel", "readTag", "()Z"⟩ ∈ gW := gW_at 57 (by decide +kernel) rfl
theorem sp_58 : Cond.selects "BiteYearsModel" ⟨"BiteYearsModel", "readSum", "()Z"⟩ ⟨"BiteYearsModel", "readSum", "()Z"⟩ ∈ gW := gW_at 58 (by decide +kernel) rfl
theorem sp_59 : Cond.selects "BiteYearsModel" ⟨"BiteYearsModel", "readPart", "()Z"⟩ ⟨"BiteYearsModel", "readPart", "()Z"⟩ ∈ gW := gW_at 59 (by decide +kernel) rfl
theorem sp_60 : Cond.selects "BiteYearsModel" ⟨"BiteYearsModel", "wordOfPart", "()I"⟩ ⟨"BiteYearsModel", "wordOfPart", "()I"⟩ ∈ gW := gW_at 60 (by decide +kernel) rfl
theorem sp_61 : Cond.selects "BiteYearsModel" ⟨"BiteYearsModel", "throwsIf", "(ZI)Z"⟩ ⟨"BiteYearsModel", "throwsIf", "(ZI)Z"⟩ ∈ gW := gW_at 61 (by decide +kernel) rfl
theorem sp_62 : Cond.selects "BiteYearsModel" ⟨"BiteYearsModel", "noDish", "(I)Z"⟩ ⟨"BiteYearsModel", "noDish", "(I)Z"⟩ ∈ gW := gW_at 62 (by decide +kernel) rfl
theorem sp_63 : Cond.selects "BiteYearsModel" ⟨"BiteYearsModel", "callsBy", "(I)I"⟩ ⟨"BiteYearsModel", "callsBy", "(I)I"⟩ ∈ gW := gW_at 63 (by decide +kernel) rfl
theorem sp_64 : Cond.selects "BiteYearsModel" ⟨"BiteYearsModel", "isNew", "(I)Z"⟩ ⟨"BiteYearsModel", "isNew", "(I)Z"⟩ ∈ gW := gW_at 64 (by decide +kernel) rfl
theorem sp_65 : Cond.selects "BiteYearsModel" ⟨"BiteYearsModel", "of", "(II)I"⟩ ⟨"BiteYearsModel", "of", "(II)I"⟩ ∈ gW := gW_at 65 (by decide +kernel) rfl
theorem sp_66 : Cond.selects "BiteYearsModel" ⟨"BiteYearsModel", "farOf", "(II)I"⟩ ⟨"BiteYearsModel", "farOf", "(II)I"⟩ ∈ gW := gW_at 66 (by decide +kernel) rfl
theorem sp_67 : Cond.selects "BiteYearsModel" ⟨"BiteYearsModel", "turnsBy", "(I)I"⟩ ⟨"BiteYearsModel", "turnsBy", "(I)I"⟩ ∈ gW := gW_at 67 (by decide +kernel) rfl
theorem sp_68 : Cond.selects "BiteYearsModel" ⟨"BiteYearsModel", "sumOf", "(II)I"⟩ ⟨"BiteYearsModel", "sumOf", "(II)I"⟩ ∈ gW := gW_at 68 (by decide +kernel) rfl
theorem sp_69 : Cond.selects "BiteYearsModel" ⟨"BiteYearsModel", "holdsLine", "(III)Z"⟩ ⟨"BiteYearsModel", "holdsLine", "(III)Z"⟩ ∈ gW := gW_at 69 (by decide +kernel) rfl
theorem sp_70 : Cond.selects "BiteYearsModel" ⟨"BiteYearsModel", "factOf", "(IIII)I"⟩ ⟨"BiteYearsModel", "factOf", "(IIII)I"⟩ ∈ gW := gW_at 70 (by decide +kernel) rfl
theorem sp_71 : Cond.selects "BiteYearsModel" ⟨"BiteYearsModel", "isInWar", "(I)Z"⟩ ⟨"BiteYearsModel", "isInWar", "(I)Z"⟩ ∈ gW := gW_at 71 (by decide +kernel) rfl
theorem sp_72 : Cond.selects "BiteYearsModel" ⟨"BiteYearsModel", "paysBy", "(I)I"⟩ ⟨"BiteYearsModel", "paysBy", "(I)I"⟩ ∈ gW := gW_at 72 (by decide +kernel) rfl
theorem sp_73 : Cond.selects "BiteYearsModel" ⟨"BiteYearsModel", "newOnes", "()I"⟩ ⟨"BiteYearsModel", "newOnes", "()I"⟩ ∈ gW := gW_at 73 (by decide +kernel) rfl
theorem sp_74 : Cond.selects "BiteYearsModel" ⟨"BiteYearsModel", "takesNone", "()Z"⟩ ⟨"BiteYearsModel", "takesNone", "()Z"⟩ ∈ gW := gW_at 74 (by decide +kernel) rfl
theorem sp_75 : Cond.selects "BiteYearsModel" ⟨"BiteYearsModel", "remembers", "()V"⟩ ⟨"BiteYearsModel", "remembers", "()V"⟩ ∈ gW := gW_at 75 (by decide +kernel) rfl
theorem sp_76 : Cond.selects "BiteYearsModel" ⟨"BiteYearsModel", "takes", "(I)I"⟩ ⟨"BiteYearsModel", "takes", "(I)I"⟩ ∈ gW := gW_at 76 (by decide +kernel) rfl
theorem sp_77 : Cond.selects "BiteYearsModel" ⟨"BiteYearsModel", "tells", "(II)V"⟩ ⟨"BiteYearsModel", "tells", "(II)V"⟩ ∈ gW := gW_at 77 (by decide +kernel) rfl
theorem sp_78 : Cond.selects "BiteYearsModel" ⟨"BiteYearsModel", "crusts", "()V"⟩ ⟨"BiteYearsModel", "crusts", "()V"⟩ ∈ gW := gW_at 78 (by decide +kernel) rfl
theorem sp_79 : Cond.selects "BiteYearsModel" ⟨"BiteYearsModel", "drawn", "(I)I"⟩ ⟨"BiteYearsModel", "drawn", "(I)I"⟩ ∈ gW := gW_at 79 (by decide +kernel) rfl
theorem sp_80 : Cond.selects "BiteYearsModel" ⟨"BiteYearsModel", "goesOn", "(I)I"⟩ ⟨"BiteYearsModel", "goesOn", "(I)I"⟩ ∈ gW := gW_at 80 (by decide +kernel) rfl
theorem sp_81 : Cond.selects "BiteYearsModel" ⟨"BiteYearsModel", "oneEvening", "()I"⟩ ⟨"BiteYearsModel", "oneEvening", "()I"⟩ ∈ gW := gW_at 81 (by decide +kernel) rfl
theorem sp_82 : Cond.selects "BiteYearsModel" ⟨"BiteYearsModel", "isMenu", "()Z"⟩ ⟨"BiteYearsModel", "isMenu", "()Z"⟩ ∈ gW := gW_at 82 (by decide +kernel) rfl
theorem sp_83 : Cond.selects "BiteYearsModel" ⟨"BiteYearsModel", "keepsAll", "()V"⟩ ⟨"BiteYearsModel", "keepsAll", "()V"⟩ ∈ gW := gW_at 83 (by decide +kernel) rfl
theorem sp_84 : Cond.selects "BiteYearsModel" ⟨"BiteYearsModel", "bringsBack", "()V"⟩ ⟨"BiteYearsModel", "bringsBack", "()V"⟩ ∈ gW := gW_at 84 (by decide +kernel) rfl
theorem sp_85 : Cond.selects "BiteYearsModel" ⟨"BiteYearsModel", "allDishes", "()I"⟩ ⟨"BiteYearsModel", "allDishes", "()I"⟩ ∈ gW := gW_at 85 (by decide +kernel) rfl
theorem sp_86 : Cond.selects "BiteYearsModel" ⟨"BiteYearsModel", "laysRow", "(II)V"⟩ ⟨"BiteYearsModel", "laysRow", "(II)V"⟩ ∈ gW := gW_at 86 (by decide +kernel) rfl
theorem sp_87 : Cond.selects "BiteYearsModel" ⟨"BiteYearsModel", "saddest", "(I)I"⟩ ⟨"BiteYearsModel", "saddest", "(I)I"⟩ ∈ gW := gW_at 87 (by decide +kernel) rfl
theorem sp_88 : Cond.selects "BiteYearsModel" ⟨"BiteYearsModel", "agesOf", "(I)I"⟩ ⟨"BiteYearsModel", "agesOf", "(I)I"⟩ ∈ gW := gW_at 88 (by decide +kernel) rfl
theorem sp_89 : Cond.selects "BiteYearsModel" ⟨"BiteYearsModel", "ageOf", "(I)I"⟩ ⟨"BiteYearsModel", "ageOf", "(I)I"⟩ ∈ gW := gW_at 89 (by decide +kernel) rfl
theorem sp_90 : Cond.selects "BiteYearsModel" ⟨"BiteYearsModel", "wasHad", "(IIII)Z"⟩ ⟨"BiteYearsModel", "wasHad", "(IIII)Z"⟩ ∈ gW := gW_at 90 (by decide +kernel) rfl
theorem sp_91 : Cond.selects "BiteYearsModel" ⟨"BiteYearsModel", "allThatFit", "()I"⟩ ⟨"BiteYearsModel", "allThatFit", "()I"⟩ ∈ gW := gW_at 91 (by decide +kernel) rfl
theorem sp_92 : Cond.selects "BiteYearsModel" ⟨"BiteYearsModel", "fits", "(I)Z"⟩ ⟨"BiteYearsModel", "fits", "(I)Z"⟩ ∈ gW := gW_at 92 (by decide +kernel) rfl
theorem sp_93 : Cond.selects "BiteYearsModel" ⟨"BiteYearsModel", "areJars", "()Z"⟩ ⟨"BiteYearsModel", "areJars", "()Z"⟩ ∈ gW := gW_at 93 (by decide +kernel) rfl
theorem sp_94 : Cond.selects "BiteYearsModel" ⟨"BiteYearsModel", "laysLeast", "(I)V"⟩ ⟨"BiteYearsModel", "laysLeast", "(I)V"⟩ ∈ gW := gW_at 94 (by decide +kernel) rfl
theorem sp_95 : Cond.selects "BiteYearsModel" ⟨"BiteYearsModel", "farBy", "(III)I"⟩ ⟨"BiteYearsModel", "farBy", "(III)I"⟩ ∈ gW := gW_at 95 (by decide +kernel) rfl
theorem sp_96 : Cond.selects "BiteYearsModel" ⟨"BiteYearsModel", "jarFrom", "(II)I"⟩ ⟨"BiteYearsModel", "jarFrom", "(II)I"⟩ ∈ gW := gW_at 96 (by decide +kernel) rfl
theorem sp_97 : Cond.selects "BiteYearsModel" ⟨"BiteYearsModel", "hadAt", "(II)I"⟩ ⟨"BiteYearsModel", "hadAt", "(II)I"⟩ ∈ gW := gW_at 97 (by decide +kernel) rfl
theorem sp_98 : Cond.selects "BiteYearsModel" ⟨"BiteYearsModel", "nextFrom", "(I)I"⟩ ⟨"BiteYearsModel", "nextFrom", "(I)I"⟩ ∈ gW := gW_at 98 (by decide +kernel) rfl
theorem sp_99 : Cond.selects "BiteYearsModel" ⟨"BiteYearsModel", "hostHas", "(II)I"⟩ ⟨"BiteYearsModel", "hostHas", "(II)I"⟩ ∈ gW := gW_at 99 (by decide +kernel) rfl
theorem sp_100 : Cond.selects "BiteYearsModel" ⟨"BiteYearsModel", "ofLog", "(II)I"⟩ ⟨"BiteYearsModel", "ofLog", "(II)I"⟩ ∈ gW := gW_at 100 (by decide +kernel) rfl
def isNw : Cond → Bool
  | .methodLinkNest .. => true
  | .declares _ => true
  | .castable .. => true
  | .arrayOver _ => true
  | _ => false
def nW : List Cond := tables_1.filter isNw
theorem nW_tb {w : Cond} (i : Nat) (h : tables_1[i]? = some w) (g : isNw w = true) : w ∈ nW := List.mem_filter.mpr ⟨List.mem_of_getElem? h, g⟩
theorem nw_39 : (Cond.methodLinkNest "BiteYears" (22 : Nat) ({ cls := "BiteYears$Lady", name := "<init>", desc := "()V" } : MethodName) "BiteYears") ∈ nW := nW_tb 39 (by decide +kernel) rfl
theorem nw_45 : (Cond.methodLinkNest "BiteYears$Lady" (11 : Nat) ({ cls := "BiteYears$Dishes", name := "<init>", desc := "()V" } : MethodName) "BiteYears") ∈ nW := nW_tb 45 (by decide +kernel) rfl
theorem nw_161 : (Cond.methodLinkNest "BiteYears" (29 : Nat) ({ cls := "BiteYears$Law", name := "<init>", desc := "()V" } : MethodName) "BiteYears") ∈ nW := nW_tb 161 (by decide +kernel) rfl
theorem nw_190 : (Cond.methodLinkNest "BiteYears" (36 : Nat) ({ cls := "BiteYears$Log", name := "<init>", desc := "()V" } : MethodName) "BiteYears") ∈ nW := nW_tb 190 (by decide +kernel) rfl
theorem nw_212 : (Cond.arrayOver (FieldType.object "BiteYears$Lady")) ∈ nW := nW_tb 212 (by decide +kernel) rfl
theorem nw_214 : (Cond.arrayOver (FieldType.object "BiteYears$Log")) ∈ nW := nW_tb 214 (by decide +kernel) rfl
theorem nw_215 : (Cond.methodLinkNest "BiteYears$Acts" (28 : Nat) ({ cls := "BiteYears$Lady", name := "<init>", desc := "()V" } : MethodName) "BiteYears") ∈ nW := nW_tb 215 (by decide +kernel) rfl
theorem nw_216 : (Cond.methodLinkNest "BiteYears$Acts" (29 : Nat) ({ cls := "BiteYears$Log", name := "<init>", desc := "()V" } : MethodName) "BiteYears") ∈ nW := nW_tb 216 (by decide +kernel) rfl
theorem nw_233 : (Cond.methodLinkNest "BiteYears" (66 : Nat) ({ cls := "BiteYears$Served", name := "<init>", desc := "()V" } : MethodName) "BiteYears") ∈ nW := nW_tb 233 (by decide +kernel) rfl
theorem nw_261 : (Cond.methodLinkNest "BiteYears" (73 : Nat) ({ cls := "BiteYears$LifeText", name := "<init>", desc := "()V" } : MethodName) "BiteYears") ∈ nW := nW_tb 261 (by decide +kernel) rfl
theorem nw_264 : (Cond.methodLinkNest "BiteYears$LifeText" (3 : Nat) ({ cls := "BiteYears$Text", name := "<init>", desc := "()V" } : MethodName) "BiteYears") ∈ nW := nW_tb 264 (by decide +kernel) rfl
theorem nw_269 : (Cond.methodLinkNest "BiteYears$LifeText" (11 : Nat) ({ cls := "BiteYears$Lady", name := "<init>", desc := "()V" } : MethodName) "BiteYears") ∈ nW := nW_tb 269 (by decide +kernel) rfl
theorem nw_292 : (Cond.methodLinkNest "BiteYears" (80 : Nat) ({ cls := "BiteYears$LawText", name := "<init>", desc := "()V" } : MethodName) "BiteYears") ∈ nW := nW_tb 292 (by decide +kernel) rfl
theorem nw_295 : (Cond.methodLinkNest "BiteYears$LawText" (5 : Nat) ({ cls := "BiteYears$Text", name := "<init>", desc := "()V" } : MethodName) "BiteYears") ∈ nW := nW_tb 295 (by decide +kernel) rfl
theorem nw_297 : (Cond.methodLinkNest "BiteYears$LawText" (13 : Nat) ({ cls := "BiteYears$Law", name := "<init>", desc := "()V" } : MethodName) "BiteYears") ∈ nW := nW_tb 297 (by decide +kernel) rfl
theorem nw_324 : (Cond.methodLinkNest "BiteYears$Orders" (31 : Nat) ({ cls := "BiteYears$Lady", name := "<init>", desc := "()V" } : MethodName) "BiteYears") ∈ nW := nW_tb 324 (by decide +kernel) rfl
theorem nw_344 : (Cond.methodLinkNest "BiteYears" (94 : Nat) ({ cls := "BiteYears$Jars", name := "<init>", desc := "()V" } : MethodName) "BiteYears") ∈ nW := nW_tb 344 (by decide +kernel) rfl
theorem nw_644 : (Cond.declares ({ cls := "BiteYears$Text", name := "firstWrong", desc := "([III)I" } : MethodName)) ∈ nW := nW_tb 644 (by decide +kernel) rfl
theorem nw_661 : (Cond.declares ({ cls := "BiteYears$Text", name := "readLine", desc := "()Z" } : MethodName)) ∈ nW := nW_tb 661 (by decide +kernel) rfl
theorem nw_673 : (Cond.declares ({ cls := "BiteYears$Text", name := "isWord", desc := "(Ljava/lang/String;)Z" } : MethodName)) ∈ nW := nW_tb 673 (by decide +kernel) rfl
theorem nw_729 : (Cond.declares ({ cls := "BiteYears$Text", name := "numberBehind", desc := "(II)I" } : MethodName)) ∈ nW := nW_tb 729 (by decide +kernel) rfl
theorem nw_742 : (Cond.declares ({ cls := "BiteYears$Text", name := "advance", desc := "()V" } : MethodName)) ∈ nW := nW_tb 742 (by decide +kernel) rfl
theorem nw_755 : (Cond.declares ({ cls := "BiteYears$Text", name := "isSign", desc := "(C)Z" } : MethodName)) ∈ nW := nW_tb 755 (by decide +kernel) rfl
theorem nw_788 : (Cond.declares ({ cls := "BiteYears$Text", name := "number", desc := "(II)I" } : MethodName)) ∈ nW := nW_tb 788 (by decide +kernel) rfl
theorem nw_834 : (Cond.declares ({ cls := "BiteYears$Text", name := "isFigures", desc := "(I)Z" } : MethodName)) ∈ nW := nW_tb 834 (by decide +kernel) rfl
theorem nw_840 : (Cond.declares ({ cls := "BiteYears$Text", name := "figure", desc := "(I)I" } : MethodName)) ∈ nW := nW_tb 840 (by decide +kernel) rfl
theorem nw_876 : (Cond.castable "java/lang/IllegalArgumentException" "java/lang/IllegalArgumentException") ∈ nW := nW_tb 876 (by decide +kernel) rfl
theorem nw_877 : (Cond.declares ({ cls := "java/lang/RuntimeException", name := "<init>", desc := "()V" } : MethodName)) ∈ nW := nW_tb 877 (by decide +kernel) rfl
theorem nw_878 : (Cond.declares ({ cls := "java/lang/RuntimeException", name := "<init>", desc := "(Ljava/lang/String;)V" } : MethodName)) ∈ nW := nW_tb 878 (by decide +kernel) rfl
theorem nw_879 : (Cond.declares ({ cls := "java/lang/Exception", name := "<init>", desc := "()V" } : MethodName)) ∈ nW := nW_tb 879 (by decide +kernel) rfl
theorem nw_880 : (Cond.declares ({ cls := "java/lang/Exception", name := "<init>", desc := "(Ljava/lang/String;)V" } : MethodName)) ∈ nW := nW_tb 880 (by decide +kernel) rfl
theorem nw_881 : (Cond.declares ({ cls := "java/lang/Throwable", name := "<init>", desc := "()V" } : MethodName)) ∈ nW := nW_tb 881 (by decide +kernel) rfl
theorem nw_882 : (Cond.declares ({ cls := "java/lang/Throwable", name := "<init>", desc := "(Ljava/lang/String;)V" } : MethodName)) ∈ nW := nW_tb 882 (by decide +kernel) rfl
theorem nw_946 : (Cond.castable "java/lang/UnsupportedOperationException" "java/lang/UnsupportedOperationException") ∈ nW := nW_tb 946 (by decide +kernel) rfl
theorem nw_987 : (Cond.castable "java/lang/IndexOutOfBoundsException" "java/lang/IndexOutOfBoundsException") ∈ nW := nW_tb 987 (by decide +kernel) rfl
theorem nw_1003 : (Cond.castable "java/util/NoSuchElementException" "java/util/NoSuchElementException") ∈ nW := nW_tb 1003 (by decide +kernel) rfl
theorem nw_1046 : (Cond.castable "java/lang/IllegalStateException" "java/lang/IllegalStateException") ∈ nW := nW_tb 1046 (by decide +kernel) rfl
theorem nw_1965 : (Cond.castable "BiteYears" "java/lang/Object") ∈ nW := nW_tb 1965 (by decide +kernel) rfl
theorem nw_1966 : (Cond.castable "BiteYears$Lady" "java/lang/Object") ∈ nW := nW_tb 1966 (by decide +kernel) rfl
theorem nw_1967 : (Cond.castable "BiteYears$Dishes" "java/lang/Object") ∈ nW := nW_tb 1967 (by decide +kernel) rfl
theorem nw_1968 : (Cond.castable "BiteYears$Law" "java/lang/Object") ∈ nW := nW_tb 1968 (by decide +kernel) rfl
theorem nw_1969 : (Cond.castable "BiteYears$Log" "java/lang/Object") ∈ nW := nW_tb 1969 (by decide +kernel) rfl
theorem nw_1970 : (Cond.castable "BiteYears$Acts" "java/lang/Object") ∈ nW := nW_tb 1970 (by decide +kernel) rfl
theorem nw_1971 : (Cond.castable "BiteYears$Served" "java/lang/Object") ∈ nW := nW_tb 1971 (by decide +kernel) rfl
theorem nw_1972 : (Cond.castable "BiteYears$LifeText" "java/lang/Object") ∈ nW := nW_tb 1972 (by decide +kernel) rfl
theorem nw_1973 : (Cond.castable "BiteYears$LawText" "java/lang/Object") ∈ nW := nW_tb 1973 (by decide +kernel) rfl
theorem nw_1974 : (Cond.castable "BiteYears$Orders" "java/lang/Object") ∈ nW := nW_tb 1974 (by decide +kernel) rfl
theorem nw_1975 : (Cond.castable "BiteYears$Jars" "java/lang/Object") ∈ nW := nW_tb 1975 (by decide +kernel) rfl
theorem nw_1976 : (Cond.castable "BiteYearsModel" "java/lang/Object") ∈ nW := nW_tb 1976 (by decide +kernel) rfl
theorem nw_1977 : (Cond.castable "java/lang/IllegalArgumentException" "java/lang/Object") ∈ nW := nW_tb 1977 (by decide +kernel) rfl
theorem nw_1978 : (Cond.castable "java/lang/UnsupportedOperationException" "java/lang/Object") ∈ nW := nW_tb 1978 (by decide +kernel) rfl
theorem nw_1979 : (Cond.castable "java/lang/IndexOutOfBoundsException" "java/lang/Object") ∈ nW := nW_tb 1979 (by decide +kernel) rfl
theorem nw_1980 : (Cond.castable "java/util/NoSuchElementException" "java/lang/Object") ∈ nW := nW_tb 1980 (by decide +kernel) rfl
theorem nw_1981 : (Cond.castable "java/lang/IllegalStateException" "java/lang/Object") ∈ nW := nW_tb 1981 (by decide +kernel) rfl
theorem nw_1982 : (Cond.castable "java/lang/Throwable" "java/lang/Object") ∈ nW := nW_tb 1982 (by decide +kernel) rfl
theorem nw_1983 : (Cond.castable "java/lang/String" "java/lang/Object") ∈ nW := nW_tb 1983 (by decide +kernel) rfl
