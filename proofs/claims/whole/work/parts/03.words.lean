def okW : Cond → Bool
  | .fieldLinkNest .. => true
  | .methodLinkNest .. => true
  | w => w.onTables && w.keeps
def KW (U : State) : Prop := ∀ w ∈ lw_tbl, okW w = true → va_Nw w U
theorem okW_tab {w : Cond} (h : okW w = true) : w.onTables = true := by
  cases w <;> first | rfl | (simp only [okW, Bool.and_eq_true] at h; exact h.1)
theorem KW.at {U : State} {A : Array Value} (h : KW U) (i : Nat) {w : Cond} (hm : lw_tbl[i]? = some w) (ho : okW w = true) : w.before A U = true := va_Nw.use (okW_tab ho) (h w (List.mem_of_getElem? hm) ho)
theorem kw_0 {U : State} {A : Array Value} (h : KW U) : (Cond.selects RX6 yX6_refuse yX6_refuse).before A U = true := h.at 0 (by decide +kernel) rfl
theorem kw_1 {U : State} {A : Array Value} (h : KW U) : (Cond.selects RX4 yX4_letterAt yX4_letterAt).before A U = true := h.at 1 (by decide +kernel) rfl
theorem kw_2 {U : State} {A : Array Value} (h : KW U) : (Cond.selects RX4 yX4_readWords yX4_readWords).before A U = true := h.at 2 (by decide +kernel) rfl
theorem kw_3 {U : State} {A : Array Value} (h : KW U) : (Cond.selects RX6 yX6_firstThatMayNot yX6_firstThatMayNot).before A U = true := h.at 3 (by decide +kernel) rfl
theorem kw_4 {U : State} {A : Array Value} (h : KW U) : (Cond.selects RX6 yX6_fewestOf yX6_fewestOf).before A U = true := h.at 4 (by decide +kernel) rfl
theorem kw_5 {U : State} {A : Array Value} (h : KW U) : (Cond.selects RX2 yX2_look yX2_look).before A U = true := h.at 5 (by decide +kernel) rfl
theorem kw_6 {U : State} {A : Array Value} (h : KW U) : (Cond.selects RX2 yX2_note yX2_note).before A U = true := h.at 6 (by decide +kernel) rfl
theorem kw_7 {U : State} {A : Array Value} (h : KW U) : (Cond.selects RX2 yX2_lighter yX2_lighter).before A U = true := h.at 7 (by decide +kernel) rfl
theorem kw_8 {U : State} {A : Array Value} (h : KW U) : (Cond.selects RX6 yX6_fewestWordsAfter yX6_fewestWordsAfter).before A U = true := h.at 8 (by decide +kernel) rfl
theorem kw_9 {U : State} {A : Array Value} (h : KW U) : (Cond.selects RX0 yX0_wrongAmong yX0_wrongAmong).before A U = true := h.at 9 (by decide +kernel) rfl
theorem kw_10 {U : State} {A : Array Value} (h : KW U) : (Cond.selects RX0 yX0_learntBy yX0_learntBy).before A U = true := h.at 10 (by decide +kernel) rfl
theorem kw_11 {U : State} {A : Array Value} (h : KW U) : (Cond.selects RX7 yX7_refuse yX7_refuse).before A U = true := h.at 11 (by decide +kernel) rfl
theorem kw_12 {U : State} {A : Array Value} (h : KW U) : (Cond.selects RX7 yX7_fault yX7_fault).before A U = true := h.at 12 (by decide +kernel) rfl
theorem kw_13 {U : State} {A : Array Value} (h : KW U) : (Cond.selects RX7 yX7_reads yX7_reads).before A U = true := h.at 13 (by decide +kernel) rfl
theorem kw_14 {U : State} {A : Array Value} (h : KW U) : (Cond.selects RX7 yX7_isWord yX7_isWord).before A U = true := h.at 14 (by decide +kernel) rfl
theorem kw_15 {U : State} {A : Array Value} (h : KW U) : (Cond.selects RX7 yX7_sign yX7_sign).before A U = true := h.at 15 (by decide +kernel) rfl
theorem kw_16 {U : State} {A : Array Value} (h : KW U) : (Cond.selects RX7 yX7_tellingsOf yX7_tellingsOf).before A U = true := h.at 16 (by decide +kernel) rfl
theorem kw_17 {U : State} {A : Array Value} (h : KW U) : (Cond.selects RX7 yX7_get yX7_get).before A U = true := h.at 17 (by decide +kernel) rfl
theorem kw_18 {U : State} {A : Array Value} (h : KW U) : (Cond.selects RX7 yX7_isTelling yX7_isTelling).before A U = true := h.at 18 (by decide +kernel) rfl
theorem kw_19 {U : State} {A : Array Value} (h : KW U) : (Cond.selects RX7 yX7_next yX7_next).before A U = true := h.at 19 (by decide +kernel) rfl
theorem kw_20 {U : State} {A : Array Value} (h : KW U) : (Cond.selects RX7 yX7_teaches yX7_teaches).before A U = true := h.at 20 (by decide +kernel) rfl
theorem kw_21 {U : State} {A : Array Value} (h : KW U) : (Cond.selects RX7 yX7_learntBy yX7_learntBy).before A U = true := h.at 21 (by decide +kernel) rfl
theorem kw_22 {U : State} {A : Array Value} (h : KW U) : (Cond.selects RX7 yX7_neededBy yX7_neededBy).before A U = true := h.at 22 (by decide +kernel) rfl
theorem kw_23 {U : State} {A : Array Value} (h : KW U) : (Cond.selects RX7 yX7_leadsBy yX7_leadsBy).before A U = true := h.at 23 (by decide +kernel) rfl
theorem kw_24 {U : State} {A : Array Value} (h : KW U) : (Cond.selects RX7 yX7_knotBy yX7_knotBy).before A U = true := h.at 24 (by decide +kernel) rfl
theorem kw_25 {U : State} {A : Array Value} (h : KW U) : (Cond.selects RX7 yX7_fewestOf yX7_fewestOf).before A U = true := h.at 25 (by decide +kernel) rfl
theorem kw_26 {U : State} {A : Array Value} (h : KW U) : (Cond.selects RX7 yX7_isFoundation yX7_isFoundation).before A U = true := h.at 26 (by decide +kernel) rfl
theorem kw_27 {U : State} {A : Array Value} (h : KW U) : (Cond.selects RX7 yX7_hardOf yX7_hardOf).before A U = true := h.at 27 (by decide +kernel) rfl
theorem kw_28 {U : State} {A : Array Value} (h : KW U) : (Cond.selects RX7 yX7_findSoonest yX7_findSoonest).before A U = true := h.at 28 (by decide +kernel) rfl
theorem kw_29 {U : State} {A : Array Value} (h : KW U) : (Cond.selects RX7 yX7_wrongSpread yX7_wrongSpread).before A U = true := h.at 29 (by decide +kernel) rfl
theorem kw_30 {U : State} {A : Array Value} (h : KW U) : (Cond.selects RX7 yX7_spreads yX7_spreads).before A U = true := h.at 30 (by decide +kernel) rfl
theorem kw_31 {U : State} {A : Array Value} (h : KW U) : (Cond.selects RX7 yX7_isWrong yX7_isWrong).before A U = true := h.at 31 (by decide +kernel) rfl
theorem kw_32 {U : State} {A : Array Value} (h : KW U) : (Cond.initialized RL).before A U = true := h.at 32 (by decide +kernel) rfl
theorem kw_33 {U : State} {A : Array Value} (h : KW U) : (Cond.initialized RX6).before A U = true := h.at 33 (by decide +kernel) rfl
theorem kw_34 {U : State} {A : Array Value} (h : KW U) : (Cond.initialized RX3).before A U = true := h.at 34 (by decide +kernel) rfl
theorem kw_35 {U : State} {A : Array Value} (h : KW U) : (Cond.initialized RX0).before A U = true := h.at 35 (by decide +kernel) rfl
theorem kw_36 {U : State} {A : Array Value} (h : KW U) : (Cond.initialized RX5).before A U = true := h.at 36 (by decide +kernel) rfl
theorem kw_37 {U : State} {A : Array Value} (h : KW U) : (Cond.initialized RJ9).before A U = true := h.at 37 (by decide +kernel) rfl
theorem kw_38 {U : State} {A : Array Value} (h : KW U) : (Cond.initialized RX1).before A U = true := h.at 38 (by decide +kernel) rfl
theorem kw_39 {U : State} {A : Array Value} (h : KW U) : (Cond.initialized RX4).before A U = true := h.at 39 (by decide +kernel) rfl
theorem kw_40 {U : State} {A : Array Value} (h : KW U) : (Cond.initialized RX2).before A U = true := h.at 40 (by decide +kernel) rfl
theorem kw_41 {U : State} {A : Array Value} (h : KW U) : (Cond.initialized RX7).before A U = true := h.at 41 (by decide +kernel) rfl
theorem kw_42 {U : State} {A : Array Value} (h : KW U) : (Cond.initialized RJ0).before A U = true := h.at 42 (by decide +kernel) rfl
theorem kw_43 {U : State} {A : Array Value} (h : KW U) : (Cond.initialized RJ1).before A U = true := h.at 43 (by decide +kernel) rfl
theorem kw_44 {U : State} {A : Array Value} (h : KW U) : (Cond.initialized RJ2).before A U = true := h.at 44 (by decide +kernel) rfl
theorem kw_45 {U : State} {A : Array Value} (h : KW U) : (Cond.initialized RJ3).before A U = true := h.at 45 (by decide +kernel) rfl
theorem kw_46 {U : State} {A : Array Value} (h : KW U) : (Cond.initialized RJ11).before A U = true := h.at 46 (by decide +kernel) rfl
theorem kw_47 {U : State} {A : Array Value} (h : KW U) : (Cond.initialized RJ6).before A U = true := h.at 47 (by decide +kernel) rfl
theorem kw_48 {U : State} {A : Array Value} (h : KW U) : (Cond.classLink RL 7 RX6).before A U = true := h.at 48 (by decide +kernel) rfl
theorem kw_49 {U : State} {A : Array Value} (h : KW U) : (Cond.instantiable RX6 9).before A U = true := h.at 49 (by decide +kernel) rfl
theorem kw_50 {U : State} {A : Array Value} (h : KW U) : (Cond.methodLink RL 9 yX6_init).before A U = true := h.at 50 (by decide +kernel) rfl
theorem kw_51 {U : State} {A : Array Value} (h : KW U) : (Cond.instanceMethod yX6_init).before A U = true := h.at 51 (by decide +kernel) rfl
theorem kw_52 {U : State} {A : Array Value} (h : KW U) : (Cond.code yX6_init cX6_init 1 (Option.none : Option Jvm.ClassFile.FieldType)).before A U = true := h.at 52 (by decide +kernel) rfl
theorem kw_53 {U : State} {A : Array Value} (h : KW U) : (Cond.methodLink RX6 3 (⟨"java/lang/Object", "<init>", "()V"⟩ : MethodName)).before A U = true := h.at 53 (by decide +kernel) rfl
theorem kw_54 {U : State} {A : Array Value} (h : KW U) : (Cond.instanceMethod (⟨"java/lang/Object", "<init>", "()V"⟩ : MethodName)).before A U = true := h.at 54 (by decide +kernel) rfl
theorem kw_55 {U : State} {A : Array Value} (h : KW U) : (Cond.code (⟨"java/lang/Object", "<init>", "()V"⟩ : MethodName) object_method_1_code 1 (Option.none : Option Jvm.ClassFile.FieldType)).before A U = true := h.at 55 (by decide +kernel) rfl
theorem kw_56 {U : State} {A : Array Value} (h : KW U) : (Cond.classLink RX6 9 RX3).before A U = true := h.at 56 (by decide +kernel) rfl
theorem kw_57 {U : State} {A : Array Value} (h : KW U) : (Cond.instantiable RX3 3).before A U = true := h.at 57 (by decide +kernel) rfl
theorem kw_58 {U : State} {A : Array Value} (h : KW U) : (Cond.methodLinkNest RX6 11 yX3_init RX6).before A U = true := h.at 58 (by decide +kernel) rfl
theorem kw_59 {U : State} {A : Array Value} (h : KW U) : (Cond.instanceMethod yX3_init).before A U = true := h.at 59 (by decide +kernel) rfl
theorem kw_60 {U : State} {A : Array Value} (h : KW U) : (Cond.code yX3_init cX3_init 1 (Option.none : Option Jvm.ClassFile.FieldType)).before A U = true := h.at 60 (by decide +kernel) rfl
theorem kw_61 {U : State} {A : Array Value} (h : KW U) : (Cond.methodLink RX3 1 (⟨"java/lang/Object", "<init>", "()V"⟩ : MethodName)).before A U = true := h.at 61 (by decide +kernel) rfl
theorem kw_62 {U : State} {A : Array Value} (h : KW U) : (Cond.classLink RX3 7 RX0).before A U = true := h.at 62 (by decide +kernel) rfl
theorem kw_63 {U : State} {A : Array Value} (h : KW U) : (Cond.instantiable RX0 4).before A U = true := h.at 63 (by decide +kernel) rfl
theorem kw_64 {U : State} {A : Array Value} (h : KW U) : (Cond.methodLink RX3 9 yX0_init).before A U = true := h.at 64 (by decide +kernel) rfl
theorem kw_65 {U : State} {A : Array Value} (h : KW U) : (Cond.instanceMethod yX0_init).before A U = true := h.at 65 (by decide +kernel) rfl
theorem kw_66 {U : State} {A : Array Value} (h : KW U) : (Cond.code yX0_init cX0_init 2 (Option.none : Option Jvm.ClassFile.FieldType)).before A U = true := h.at 66 (by decide +kernel) rfl
theorem kw_67 {U : State} {A : Array Value} (h : KW U) : (Cond.methodLink RX0 3 (⟨"java/lang/Object", "<init>", "()V"⟩ : MethodName)).before A U = true := h.at 67 (by decide +kernel) rfl
theorem kw_68 {U : State} {A : Array Value} (h : KW U) : (Cond.classLink RX0 9 RX5).before A U = true := h.at 68 (by decide +kernel) rfl
theorem kw_69 {U : State} {A : Array Value} (h : KW U) : (Cond.instantiable RX5 5).before A U = true := h.at 69 (by decide +kernel) rfl
theorem kw_70 {U : State} {A : Array Value} (h : KW U) : (Cond.methodLink RX0 11 yX5_init).before A U = true := h.at 70 (by decide +kernel) rfl
theorem kw_71 {U : State} {A : Array Value} (h : KW U) : (Cond.instanceMethod yX5_init).before A U = true := h.at 71 (by decide +kernel) rfl
theorem kw_72 {U : State} {A : Array Value} (h : KW U) : (Cond.code yX5_init cX5_init 3 (Option.none : Option Jvm.ClassFile.FieldType)).before A U = true := h.at 72 (by decide +kernel) rfl
theorem kw_73 {U : State} {A : Array Value} (h : KW U) : (Cond.methodLink RX5 3 (⟨"java/lang/Object", "<init>", "()V"⟩ : MethodName)).before A U = true := h.at 73 (by decide +kernel) rfl
theorem kw_74 {U : State} {A : Array Value} (h : KW U) : (Cond.methodLink RX5 15 yJ9_max_7cf53).before A U = true := h.at 74 (by decide +kernel) rfl
theorem kw_75 {U : State} {A : Array Value} (h : KW U) : (Cond.static yJ9_max_7cf53).before A U = true := h.at 75 (by decide +kernel) rfl
theorem kw_76 {U : State} {A : Array Value} (h : KW U) : (Cond.code yJ9_max_7cf53 cJ9_max_7cf53 2 (Option.some Jvm.ClassFile.FieldType.int)).before A U = true := h.at 76 (by decide +kernel) rfl
theorem kw_77 {U : State} {A : Array Value} (h : KW U) : (Cond.fieldLink RX5 21 RX5 "words" "[I").before A U = true := h.at 77 (by decide +kernel) rfl
theorem kw_78 {U : State} {A : Array Value} (h : KW U) : (Cond.fieldLinkNest RX0 38 RX5 "words" "[I" RX6).before A U = true := h.at 78 (by decide +kernel) rfl
theorem kw_79 {U : State} {A : Array Value} (h : KW U) : (Cond.fieldLinkNest RX6 101 RX5 "words" "[I" RX6).before A U = true := h.at 79 (by decide +kernel) rfl
theorem kw_80 {U : State} {A : Array Value} (h : KW U) : (Cond.fieldLink RX5 25 RX5 "kinds" "[I").before A U = true := h.at 80 (by decide +kernel) rfl
theorem kw_81 {U : State} {A : Array Value} (h : KW U) : (Cond.fieldLinkNest RX6 104 RX5 "kinds" "[I" RX6).before A U = true := h.at 81 (by decide +kernel) rfl
theorem kw_82 {U : State} {A : Array Value} (h : KW U) : (Cond.fieldLink RX5 28 RX5 "needs" "[I").before A U = true := h.at 82 (by decide +kernel) rfl
theorem kw_83 {U : State} {A : Array Value} (h : KW U) : (Cond.fieldLinkNest RX6 107 RX5 "needs" "[I" RX6).before A U = true := h.at 83 (by decide +kernel) rfl
theorem kw_84 {U : State} {A : Array Value} (h : KW U) : (Cond.fieldLinkNest RX0 63 RX5 "needs" "[I" RX6).before A U = true := h.at 84 (by decide +kernel) rfl
theorem kw_85 {U : State} {A : Array Value} (h : KW U) : (Cond.fieldLink RX5 31 RX5 "firsts" "[I").before A U = true := h.at 85 (by decide +kernel) rfl
theorem kw_86 {U : State} {A : Array Value} (h : KW U) : (Cond.fieldLinkNest RX6 110 RX5 "firsts" "[I" RX6).before A U = true := h.at 86 (by decide +kernel) rfl
theorem kw_87 {U : State} {A : Array Value} (h : KW U) : (Cond.fieldLink RX5 9 RX5 "size" "I").before A U = true := h.at 87 (by decide +kernel) rfl
theorem kw_88 {U : State} {A : Array Value} (h : KW U) : (Cond.fieldLinkNest RX3 30 RX5 "size" "I" RX6).before A U = true := h.at 88 (by decide +kernel) rfl
theorem kw_89 {U : State} {A : Array Value} (h : KW U) : (Cond.fieldLinkNest RX1 31 RX5 "size" "I" RX6).before A U = true := h.at 89 (by decide +kernel) rfl
theorem kw_90 {U : State} {A : Array Value} (h : KW U) : (Cond.fieldLinkNest RX0 35 RX5 "size" "I" RX6).before A U = true := h.at 90 (by decide +kernel) rfl
theorem kw_91 {U : State} {A : Array Value} (h : KW U) : (Cond.fieldLinkNest RX6 223 RX5 "size" "I" RX6).before A U = true := h.at 91 (by decide +kernel) rfl
theorem kw_104 {U : State} {A : Array Value} (h : KW U) : (Cond.fieldLink RX0 14 RX0 "tellings" "LWordsTold$Tellings;").before A U = true := h.at 104 (by decide +kernel) rfl
theorem kw_105 {U : State} {A : Array Value} (h : KW U) : (Cond.fieldLinkNest RX3 26 RX0 "tellings" "LWordsTold$Tellings;" RX6).before A U = true := h.at 105 (by decide +kernel) rfl
theorem kw_106 {U : State} {A : Array Value} (h : KW U) : (Cond.fieldLinkNest RX6 74 RX0 "tellings" "LWordsTold$Tellings;" RX6).before A U = true := h.at 106 (by decide +kernel) rfl
theorem kw_107 {U : State} {A : Array Value} (h : KW U) : (Cond.fieldLinkNest RX1 39 RX0 "tellings" "LWordsTold$Tellings;" RX6).before A U = true := h.at 107 (by decide +kernel) rfl
theorem kw_108 {U : State} {A : Array Value} (h : KW U) : (Cond.fieldLink RX0 20 RX0 "hardness" "[I").before A U = true := h.at 108 (by decide +kernel) rfl
theorem kw_109 {U : State} {A : Array Value} (h : KW U) : (Cond.fieldLinkNest RX6 116 RX0 "hardness" "[I" RX6).before A U = true := h.at 109 (by decide +kernel) rfl
theorem kw_110 {U : State} {A : Array Value} (h : KW U) : (Cond.fieldLink RX0 24 RX0 "met" "[I").before A U = true := h.at 110 (by decide +kernel) rfl
theorem kw_111 {U : State} {A : Array Value} (h : KW U) : (Cond.fieldLinkNest RX6 119 RX0 "met" "[I" RX6).before A U = true := h.at 111 (by decide +kernel) rfl
theorem kw_112 {U : State} {A : Array Value} (h : KW U) : (Cond.fieldLink RX0 27 RX0 "byAll" "I").before A U = true := h.at 112 (by decide +kernel) rfl
theorem kw_113 {U : State} {A : Array Value} (h : KW U) : (Cond.fieldLinkNest RX6 122 RX0 "byAll" "I" RX6).before A U = true := h.at 113 (by decide +kernel) rfl
theorem kw_123 {U : State} {A : Array Value} (h : KW U) : (Cond.classLink RX3 19 RX1).before A U = true := h.at 123 (by decide +kernel) rfl
theorem kw_124 {U : State} {A : Array Value} (h : KW U) : (Cond.instantiable RX1 3).before A U = true := h.at 124 (by decide +kernel) rfl
theorem kw_125 {U : State} {A : Array Value} (h : KW U) : (Cond.methodLinkNest RX3 21 yX1_init RX6).before A U = true := h.at 125 (by decide +kernel) rfl
theorem kw_126 {U : State} {A : Array Value} (h : KW U) : (Cond.instanceMethod yX1_init).before A U = true := h.at 126 (by decide +kernel) rfl
theorem kw_127 {U : State} {A : Array Value} (h : KW U) : (Cond.code yX1_init cX1_init 1 (Option.none : Option Jvm.ClassFile.FieldType)).before A U = true := h.at 127 (by decide +kernel) rfl
theorem kw_128 {U : State} {A : Array Value} (h : KW U) : (Cond.methodLink RX1 3 (⟨"java/lang/Object", "<init>", "()V"⟩ : MethodName)).before A U = true := h.at 128 (by decide +kernel) rfl
theorem kw_129 {U : State} {A : Array Value} (h : KW U) : (Cond.classLink RX1 9 RX5).before A U = true := h.at 129 (by decide +kernel) rfl
theorem kw_130 {U : State} {A : Array Value} (h : KW U) : (Cond.methodLink RX1 11 yX5_init).before A U = true := h.at 130 (by decide +kernel) rfl
theorem kw_131 {U : State} {A : Array Value} (h : KW U) : (Cond.fieldLink RX1 14 RX1 "texts" "LWordsTold$Tellings;").before A U = true := h.at 131 (by decide +kernel) rfl
theorem kw_132 {U : State} {A : Array Value} (h : KW U) : (Cond.fieldLinkNest RX6 185 RX1 "texts" "LWordsTold$Tellings;" RX6).before A U = true := h.at 132 (by decide +kernel) rfl
theorem kw_133 {U : State} {A : Array Value} (h : KW U) : (Cond.fieldLink RX1 20 RX1 "books" "[I").before A U = true := h.at 133 (by decide +kernel) rfl
theorem kw_134 {U : State} {A : Array Value} (h : KW U) : (Cond.fieldLink RX1 24 RX1 "numbers" "[I").before A U = true := h.at 134 (by decide +kernel) rfl
theorem kw_142 {U : State} {A : Array Value} (h : KW U) : (Cond.fieldLink RX3 10 RX3 "zeroth" "LWordsTold$Book;").before A U = true := h.at 142 (by decide +kernel) rfl
theorem kw_143 {U : State} {A : Array Value} (h : KW U) : (Cond.fieldLink RX3 16 RX3 "first" "LWordsTold$Book;").before A U = true := h.at 143 (by decide +kernel) rfl
theorem kw_144 {U : State} {A : Array Value} (h : KW U) : (Cond.fieldLink RX3 22 RX3 "changes" "LWordsTold$Changes;").before A U = true := h.at 144 (by decide +kernel) rfl
theorem kw_145 {U : State} {A : Array Value} (h : KW U) : (Cond.fieldLinkNest RX6 181 RX3 "changes" "LWordsTold$Changes;" RX6).before A U = true := h.at 145 (by decide +kernel) rfl
theorem kw_153 {U : State} {A : Array Value} (h : KW U) : (Cond.classLink RX6 23 RX4).before A U = true := h.at 153 (by decide +kernel) rfl
theorem kw_154 {U : State} {A : Array Value} (h : KW U) : (Cond.instantiable RX4 6).before A U = true := h.at 154 (by decide +kernel) rfl
theorem kw_155 {U : State} {A : Array Value} (h : KW U) : (Cond.methodLinkNest RX6 25 yX4_init RX6).before A U = true := h.at 155 (by decide +kernel) rfl
theorem kw_156 {U : State} {A : Array Value} (h : KW U) : (Cond.instanceMethod yX4_init).before A U = true := h.at 156 (by decide +kernel) rfl
theorem kw_157 {U : State} {A : Array Value} (h : KW U) : (Cond.code yX4_init cX4_init 1 (Option.none : Option Jvm.ClassFile.FieldType)).before A U = true := h.at 157 (by decide +kernel) rfl
theorem kw_158 {U : State} {A : Array Value} (h : KW U) : (Cond.methodLink RX4 3 (⟨"java/lang/Object", "<init>", "()V"⟩ : MethodName)).before A U = true := h.at 158 (by decide +kernel) rfl
theorem kw_159 {U : State} {A : Array Value} (h : KW U) : (Cond.fieldLink RX4 9 RX4 "bytes" "[I").before A U = true := h.at 159 (by decide +kernel) rfl
theorem kw_160 {U : State} {A : Array Value} (h : KW U) : (Cond.fieldLink RX4 15 RX4 "size" "I").before A U = true := h.at 160 (by decide +kernel) rfl
theorem kw_161 {U : State} {A : Array Value} (h : KW U) : (Cond.fieldLinkNest RX6 59 RX4 "size" "I" RX6).before A U = true := h.at 161 (by decide +kernel) rfl
theorem kw_162 {U : State} {A : Array Value} (h : KW U) : (Cond.fieldLink RX4 19 RX4 "word" "I").before A U = true := h.at 162 (by decide +kernel) rfl
theorem kw_163 {U : State} {A : Array Value} (h : KW U) : (Cond.fieldLinkNest RX6 88 RX4 "word" "I" RX6).before A U = true := h.at 163 (by decide +kernel) rfl
theorem kw_164 {U : State} {A : Array Value} (h : KW U) : (Cond.fieldLinkNest RX5 38 RX4 "word" "I" RX6).before A U = true := h.at 164 (by decide +kernel) rfl
theorem kw_165 {U : State} {A : Array Value} (h : KW U) : (Cond.fieldLink RX4 22 RX4 "kind" "I").before A U = true := h.at 165 (by decide +kernel) rfl
theorem kw_166 {U : State} {A : Array Value} (h : KW U) : (Cond.fieldLinkNest RX5 43 RX4 "kind" "I" RX6).before A U = true := h.at 166 (by decide +kernel) rfl
theorem kw_167 {U : State} {A : Array Value} (h : KW U) : (Cond.fieldLink RX4 25 RX4 "needs" "I").before A U = true := h.at 167 (by decide +kernel) rfl
theorem kw_168 {U : State} {A : Array Value} (h : KW U) : (Cond.fieldLinkNest RX5 46 RX4 "needs" "I" RX6).before A U = true := h.at 168 (by decide +kernel) rfl
theorem kw_169 {U : State} {A : Array Value} (h : KW U) : (Cond.fieldLink RX4 28 RX4 "first" "I").before A U = true := h.at 169 (by decide +kernel) rfl
theorem kw_170 {U : State} {A : Array Value} (h : KW U) : (Cond.fieldLinkNest RX5 48 RX4 "first" "I" RX6).before A U = true := h.at 170 (by decide +kernel) rfl
theorem kw_184 {U : State} {A : Array Value} (h : KW U) : (Cond.classLink RX6 41 RX0).before A U = true := h.at 184 (by decide +kernel) rfl
theorem kw_185 {U : State} {A : Array Value} (h : KW U) : (Cond.methodLink RX6 43 yX0_init).before A U = true := h.at 185 (by decide +kernel) rfl
theorem kw_186 {U : State} {A : Array Value} (h : KW U) : (Cond.classLink RX6 48 RX2).before A U = true := h.at 186 (by decide +kernel) rfl
theorem kw_187 {U : State} {A : Array Value} (h : KW U) : (Cond.instantiable RX2 8).before A U = true := h.at 187 (by decide +kernel) rfl
theorem kw_188 {U : State} {A : Array Value} (h : KW U) : (Cond.methodLinkNest RX6 50 yX2_init RX6).before A U = true := h.at 188 (by decide +kernel) rfl
theorem kw_189 {U : State} {A : Array Value} (h : KW U) : (Cond.instanceMethod yX2_init).before A U = true := h.at 189 (by decide +kernel) rfl
theorem kw_190 {U : State} {A : Array Value} (h : KW U) : (Cond.code yX2_init cX2_init 1 (Option.none : Option Jvm.ClassFile.FieldType)).before A U = true := h.at 190 (by decide +kernel) rfl
theorem kw_191 {U : State} {A : Array Value} (h : KW U) : (Cond.methodLink RX2 3 (⟨"java/lang/Object", "<init>", "()V"⟩ : MethodName)).before A U = true := h.at 191 (by decide +kernel) rfl
theorem kw_192 {U : State} {A : Array Value} (h : KW U) : (Cond.fieldLink RX2 9 RX2 "founded" "[Z").before A U = true := h.at 192 (by decide +kernel) rfl
theorem kw_193 {U : State} {A : Array Value} (h : KW U) : (Cond.fieldLink RX2 15 RX2 "core" "I").before A U = true := h.at 193 (by decide +kernel) rfl
theorem kw_194 {U : State} {A : Array Value} (h : KW U) : (Cond.fieldLink RX2 19 RX2 "ground" "I").before A U = true := h.at 194 (by decide +kernel) rfl
theorem kw_195 {U : State} {A : Array Value} (h : KW U) : (Cond.fieldLink RX2 22 RX2 "fewest" "I").before A U = true := h.at 195 (by decide +kernel) rfl
theorem kw_196 {U : State} {A : Array Value} (h : KW U) : (Cond.fieldLinkNest RX6 213 RX2 "fewest" "I" RX6).before A U = true := h.at 196 (by decide +kernel) rfl
theorem kw_197 {U : State} {A : Array Value} (h : KW U) : (Cond.fieldLink RX2 25 RX2 "fewestWords" "I").before A U = true := h.at 197 (by decide +kernel) rfl
theorem kw_198 {U : State} {A : Array Value} (h : KW U) : (Cond.fieldLinkNest RX6 233 RX2 "fewestWords" "I" RX6).before A U = true := h.at 198 (by decide +kernel) rfl
theorem kw_199 {U : State} {A : Array Value} (h : KW U) : (Cond.fieldLink RX2 28 RX2 "many" "I").before A U = true := h.at 199 (by decide +kernel) rfl
theorem kw_200 {U : State} {A : Array Value} (h : KW U) : (Cond.fieldLinkNest RX6 169 RX2 "many" "I" RX6).before A U = true := h.at 200 (by decide +kernel) rfl
theorem kw_201 {U : State} {A : Array Value} (h : KW U) : (Cond.fieldLink RX2 31 RX2 "inAll" "I").before A U = true := h.at 201 (by decide +kernel) rfl
theorem kw_202 {U : State} {A : Array Value} (h : KW U) : (Cond.fieldLinkNest RX6 172 RX2 "inAll" "I" RX6).before A U = true := h.at 202 (by decide +kernel) rfl
theorem kw_203 {U : State} {A : Array Value} (h : KW U) : (Cond.fieldLink RX2 34 RX2 "inSome" "I").before A U = true := h.at 203 (by decide +kernel) rfl
theorem kw_204 {U : State} {A : Array Value} (h : KW U) : (Cond.fieldLinkNest RX6 175 RX2 "inSome" "I" RX6).before A U = true := h.at 204 (by decide +kernel) rfl
theorem kw_223 {U : State} {A : Array Value} (h : KW U) : (Cond.fieldLink RX6 12 RX6 "now" "LWordsTold$Shelf;").before A U = true := h.at 223 (by decide +kernel) rfl
theorem kw_224 {U : State} {A : Array Value} (h : KW U) : (Cond.fieldLink RX6 16 RX6 "then" "LWordsTold$Shelf;").before A U = true := h.at 224 (by decide +kernel) rfl
theorem kw_225 {U : State} {A : Array Value} (h : KW U) : (Cond.fieldLink RX6 19 RX6 "imaged" "Z").before A U = true := h.at 225 (by decide +kernel) rfl
theorem kw_226 {U : State} {A : Array Value} (h : KW U) : (Cond.fieldLink RX6 26 RX6 "tape" "LWordsTold$Tape;").before A U = true := h.at 226 (by decide +kernel) rfl
theorem kw_227 {U : State} {A : Array Value} (h : KW U) : (Cond.fieldLink RX6 30 RX6 "row" "[I").before A U = true := h.at 227 (by decide +kernel) rfl
theorem kw_228 {U : State} {A : Array Value} (h : KW U) : (Cond.fieldLink RX6 34 RX6 "rowSize" "I").before A U = true := h.at 228 (by decide +kernel) rfl
theorem kw_229 {U : State} {A : Array Value} (h : KW U) : (Cond.fieldLink RX6 38 RX6 "refusals" "[I").before A U = true := h.at 229 (by decide +kernel) rfl
theorem kw_230 {U : State} {A : Array Value} (h : KW U) : (Cond.fieldLink RX6 44 RX6 "trial" "LWordsTold$Book;").before A U = true := h.at 230 (by decide +kernel) rfl
theorem kw_231 {U : State} {A : Array Value} (h : KW U) : (Cond.fieldLink RX6 51 RX6 "foundations" "LWordsTold$Foundations;").before A U = true := h.at 231 (by decide +kernel) rfl
theorem kw_251 {U : State} {A : Array Value} (h : KW U) : (Cond.methodLink RL 15 yX6_feed).before A U = true := h.at 251 (by decide +kernel) rfl
theorem kw_252 {U : State} {A : Array Value} (h : KW U) : (Cond.instanceMethod yX6_feed).before A U = true := h.at 252 (by decide +kernel) rfl
theorem kw_253 {U : State} {A : Array Value} (h : KW U) : (Cond.selects RX6 yX6_feed yX6_feed).before A U = true := h.at 253 (by decide +kernel) rfl
theorem kw_254 {U : State} {A : Array Value} (h : KW U) : (Cond.code yX6_feed cX6_feed 4 (Option.some Jvm.ClassFile.FieldType.int)).before A U = true := h.at 254 (by decide +kernel) rfl
theorem kw_255 {U : State} {A : Array Value} (h : KW U) : (Cond.methodLink RX6 55 yX6_refuse).before A U = true := h.at 255 (by decide +kernel) rfl
theorem kw_257 {U : State} {A : Array Value} (h : KW U) : (Cond.instanceMethod yX6_refuse).before A U = true := h.at 257 (by decide +kernel) rfl
theorem kw_258 {U : State} {A : Array Value} (h : KW U) : (Cond.code yX6_refuse cX6_refuse 3 (Option.some Jvm.ClassFile.FieldType.int)).before A U = true := h.at 258 (by decide +kernel) rfl
theorem kw_259 {U : State} {A : Array Value} (h : KW U) : (Cond.methodLink RX6 62 yX4_append).before A U = true := h.at 259 (by decide +kernel) rfl
theorem kw_260 {U : State} {A : Array Value} (h : KW U) : (Cond.instanceMethod yX4_append).before A U = true := h.at 260 (by decide +kernel) rfl
theorem kw_261 {U : State} {A : Array Value} (h : KW U) : (Cond.selects RX4 yX4_append yX4_append).before A U = true := h.at 261 (by decide +kernel) rfl
theorem kw_262 {U : State} {A : Array Value} (h : KW U) : (Cond.code yX4_append cX4_append 5 (Option.none : Option Jvm.ClassFile.FieldType)).before A U = true := h.at 262 (by decide +kernel) rfl
theorem kw_263 {U : State} {A : Array Value} (h : KW U) : (Cond.methodLink RL 20 yX6_telling).before A U = true := h.at 263 (by decide +kernel) rfl
theorem kw_264 {U : State} {A : Array Value} (h : KW U) : (Cond.instanceMethod yX6_telling).before A U = true := h.at 264 (by decide +kernel) rfl
theorem kw_265 {U : State} {A : Array Value} (h : KW U) : (Cond.selects RX6 yX6_telling yX6_telling).before A U = true := h.at 265 (by decide +kernel) rfl
theorem kw_266 {U : State} {A : Array Value} (h : KW U) : (Cond.code yX6_telling cX6_telling 4 (Option.some Jvm.ClassFile.FieldType.int)).before A U = true := h.at 266 (by decide +kernel) rfl
theorem kw_267 {U : State} {A : Array Value} (h : KW U) : (Cond.methodLink RX6 66 yX6_isBook).before A U = true := h.at 267 (by decide +kernel) rfl
theorem kw_268 {U : State} {A : Array Value} (h : KW U) : (Cond.static yX6_isBook).before A U = true := h.at 268 (by decide +kernel) rfl
theorem kw_269 {U : State} {A : Array Value} (h : KW U) : (Cond.code yX6_isBook cX6_isBook 1 (Option.some Jvm.ClassFile.FieldType.boolean)).before A U = true := h.at 269 (by decide +kernel) rfl
theorem kw_270 {U : State} {A : Array Value} (h : KW U) : (Cond.methodLink RX6 70 yX3_bookAt).before A U = true := h.at 270 (by decide +kernel) rfl
theorem kw_271 {U : State} {A : Array Value} (h : KW U) : (Cond.instanceMethod yX3_bookAt).before A U = true := h.at 271 (by decide +kernel) rfl
theorem kw_272 {U : State} {A : Array Value} (h : KW U) : (Cond.selects RX3 yX3_bookAt yX3_bookAt).before A U = true := h.at 272 (by decide +kernel) rfl
theorem kw_273 {U : State} {A : Array Value} (h : KW U) : (Cond.code yX3_bookAt cX3_bookAt 2 (Option.some (Jvm.ClassFile.FieldType.object RX0))).before A U = true := h.at 273 (by decide +kernel) rfl
theorem kw_274 {U : State} {A : Array Value} (h : KW U) : (Cond.methodLink RX6 78 yX5_isFull).before A U = true := h.at 274 (by decide +kernel) rfl
theorem kw_275 {U : State} {A : Array Value} (h : KW U) : (Cond.instanceMethod yX5_isFull).before A U = true := h.at 275 (by decide +kernel) rfl
theorem kw_276 {U : State} {A : Array Value} (h : KW U) : (Cond.selects RX5 yX5_isFull yX5_isFull).before A U = true := h.at 276 (by decide +kernel) rfl
theorem kw_277 {U : State} {A : Array Value} (h : KW U) : (Cond.code yX5_isFull cX5_isFull 1 (Option.some Jvm.ClassFile.FieldType.boolean)).before A U = true := h.at 277 (by decide +kernel) rfl
theorem kw_278 {U : State} {A : Array Value} (h : KW U) : (Cond.methodLink RX6 84 yX4_read).before A U = true := h.at 278 (by decide +kernel) rfl
theorem kw_279 {U : State} {A : Array Value} (h : KW U) : (Cond.instanceMethod yX4_read).before A U = true := h.at 279 (by decide +kernel) rfl
theorem kw_280 {U : State} {A : Array Value} (h : KW U) : (Cond.selects RX4 yX4_read yX4_read).before A U = true := h.at 280 (by decide +kernel) rfl
theorem kw_281 {U : State} {A : Array Value} (h : KW U) : (Cond.code yX4_read cX4_read 1 (Option.some Jvm.ClassFile.FieldType.int)).before A U = true := h.at 281 (by decide +kernel) rfl
theorem kw_282 {U : State} {A : Array Value} (h : KW U) : (Cond.methodLink RX4 31 yX4_letterAt).before A U = true := h.at 282 (by decide +kernel) rfl
theorem kw_284 {U : State} {A : Array Value} (h : KW U) : (Cond.instanceMethod yX4_letterAt).before A U = true := h.at 284 (by decide +kernel) rfl
theorem kw_285 {U : State} {A : Array Value} (h : KW U) : (Cond.code yX4_letterAt cX4_letterAt 3 (Option.some Jvm.ClassFile.FieldType.int)).before A U = true := h.at 285 (by decide +kernel) rfl
theorem kw_286 {U : State} {A : Array Value} (h : KW U) : (Cond.methodLinkNest RX4 50 yX6_isWord RX6).before A U = true := h.at 286 (by decide +kernel) rfl
theorem kw_287 {U : State} {A : Array Value} (h : KW U) : (Cond.static yX6_isWord).before A U = true := h.at 287 (by decide +kernel) rfl
theorem kw_288 {U : State} {A : Array Value} (h : KW U) : (Cond.code yX6_isWord cX6_isWord 1 (Option.some Jvm.ClassFile.FieldType.boolean)).before A U = true := h.at 288 (by decide +kernel) rfl
theorem kw_290 {U : State} {A : Array Value} (h : KW U) : (Cond.methodLink RX4 37 yJ0_indexOf_0f7a4).before A U = true := h.at 290 (by decide +kernel) rfl
theorem kw_291 {U : State} {A : Array Value} (h : KW U) : (Cond.instanceMethod yJ0_indexOf_0f7a4).before A U = true := h.at 291 (by decide +kernel) rfl
theorem kw_292 {U : State} {A : Array Value} (h : KW U) : (Cond.selects RJ0 yJ0_indexOf_0f7a4 yJ0_indexOf_0f7a4).before A U = true := h.at 292 (by decide +kernel) rfl
theorem kw_293 {U : State} {A : Array Value} (h : KW U) : (Cond.code yJ0_indexOf_0f7a4 cJ0_indexOf_0f7a4 2 (Option.some Jvm.ClassFile.FieldType.int)).before A U = true := h.at 293 (by decide +kernel) rfl
theorem kw_294 {U : State} {A : Array Value} (h : KW U) : (Cond.methodLink RJ0 633 yJ0_indexOf_7cf53).before A U = true := h.at 294 (by decide +kernel) rfl
theorem kw_295 {U : State} {A : Array Value} (h : KW U) : (Cond.instanceMethod yJ0_indexOf_7cf53).before A U = true := h.at 295 (by decide +kernel) rfl
theorem kw_296 {U : State} {A : Array Value} (h : KW U) : (Cond.selects RJ0 yJ0_indexOf_7cf53 yJ0_indexOf_7cf53).before A U = true := h.at 296 (by decide +kernel) rfl
theorem kw_297 {U : State} {A : Array Value} (h : KW U) : (Cond.code yJ0_indexOf_7cf53 cJ0_indexOf_7cf53 3 (Option.some Jvm.ClassFile.FieldType.int)).before A U = true := h.at 297 (by decide +kernel) rfl
theorem kw_298 {U : State} {A : Array Value} (h : KW U) : (Cond.methodLink RJ0 492 yJ0_isLatin1_aae02).before A U = true := h.at 298 (by decide +kernel) rfl
theorem kw_299 {U : State} {A : Array Value} (h : KW U) : (Cond.instanceMethod yJ0_isLatin1_aae02).before A U = true := h.at 299 (by decide +kernel) rfl
theorem kw_300 {U : State} {A : Array Value} (h : KW U) : (Cond.selects RJ0 yJ0_isLatin1_aae02 yJ0_isLatin1_aae02).before A U = true := h.at 300 (by decide +kernel) rfl
theorem kw_301 {U : State} {A : Array Value} (h : KW U) : (Cond.code yJ0_isLatin1_aae02 cJ0_isLatin1_aae02 1 (Option.some Jvm.ClassFile.FieldType.boolean)).before A U = true := h.at 301 (by decide +kernel) rfl
theorem kw_302 {U : State} {A : Array Value} (h : KW U) : (Cond.fieldLink RJ0 38 RJ0 "COMPACT_STRINGS" "Z").before A U = true := h.at 302 (by decide +kernel) rfl
theorem kw_304 {U : State} {A : Array Value} (h : KW U) : (Cond.methodLink RJ0 505 yJ0_length_8abf5).before A U = true := h.at 304 (by decide +kernel) rfl
theorem kw_305 {U : State} {A : Array Value} (h : KW U) : (Cond.instanceMethod yJ0_length_8abf5).before A U = true := h.at 305 (by decide +kernel) rfl
theorem kw_306 {U : State} {A : Array Value} (h : KW U) : (Cond.selects RJ0 yJ0_length_8abf5 yJ0_length_8abf5).before A U = true := h.at 306 (by decide +kernel) rfl
theorem kw_307 {U : State} {A : Array Value} (h : KW U) : (Cond.code yJ0_length_8abf5 cJ0_length_8abf5 1 (Option.some Jvm.ClassFile.FieldType.int)).before A U = true := h.at 307 (by decide +kernel) rfl
theorem kw_308 {U : State} {A : Array Value} (h : KW U) : (Cond.methodLink RJ0 335 yJ0_coder_7d493).before A U = true := h.at 308 (by decide +kernel) rfl
theorem kw_309 {U : State} {A : Array Value} (h : KW U) : (Cond.instanceMethod yJ0_coder_7d493).before A U = true := h.at 309 (by decide +kernel) rfl
theorem kw_310 {U : State} {A : Array Value} (h : KW U) : (Cond.selects RJ0 yJ0_coder_7d493 yJ0_coder_7d493).before A U = true := h.at 310 (by decide +kernel) rfl
theorem kw_311 {U : State} {A : Array Value} (h : KW U) : (Cond.code yJ0_coder_7d493 cJ0_coder_7d493 1 (Option.some Jvm.ClassFile.FieldType.byte)).before A U = true := h.at 311 (by decide +kernel) rfl
theorem kw_312 {U : State} {A : Array Value} (h : KW U) : (Cond.methodLink RJ0 637 yJ1_indexOf_4cfef).before A U = true := h.at 312 (by decide +kernel) rfl
theorem kw_313 {U : State} {A : Array Value} (h : KW U) : (Cond.static yJ1_indexOf_4cfef).before A U = true := h.at 313 (by decide +kernel) rfl
theorem kw_314 {U : State} {A : Array Value} (h : KW U) : (Cond.code yJ1_indexOf_4cfef cJ1_indexOf_4cfef 4 (Option.some Jvm.ClassFile.FieldType.int)).before A U = true := h.at 314 (by decide +kernel) rfl
theorem kw_315 {U : State} {A : Array Value} (h : KW U) : (Cond.methodLink RJ1 88 yJ1_canEncode_9a6ad).before A U = true := h.at 315 (by decide +kernel) rfl
theorem kw_316 {U : State} {A : Array Value} (h : KW U) : (Cond.static yJ1_canEncode_9a6ad).before A U = true := h.at 316 (by decide +kernel) rfl
theorem kw_317 {U : State} {A : Array Value} (h : KW U) : (Cond.code yJ1_canEncode_9a6ad cJ1_canEncode_9a6ad 1 (Option.some Jvm.ClassFile.FieldType.boolean)).before A U = true := h.at 317 (by decide +kernel) rfl
theorem kw_318 {U : State} {A : Array Value} (h : KW U) : (Cond.methodLink RJ1 92 yJ9_max_7cf53).before A U = true := h.at 318 (by decide +kernel) rfl
theorem kw_319 {U : State} {A : Array Value} (h : KW U) : (Cond.methodLink RJ1 38 yJ9_min_7cf53).before A U = true := h.at 319 (by decide +kernel) rfl
theorem kw_320 {U : State} {A : Array Value} (h : KW U) : (Cond.static yJ9_min_7cf53).before A U = true := h.at 320 (by decide +kernel) rfl
theorem kw_321 {U : State} {A : Array Value} (h : KW U) : (Cond.code yJ9_min_7cf53 cJ9_min_7cf53 2 (Option.some Jvm.ClassFile.FieldType.int)).before A U = true := h.at 321 (by decide +kernel) rfl
theorem kw_322 {U : State} {A : Array Value} (h : KW U) : (Cond.methodLink RJ1 95 yJ1_indexOfChar_4cfef).before A U = true := h.at 322 (by decide +kernel) rfl
theorem kw_323 {U : State} {A : Array Value} (h : KW U) : (Cond.static yJ1_indexOfChar_4cfef).before A U = true := h.at 323 (by decide +kernel) rfl
theorem kw_324 {U : State} {A : Array Value} (h : KW U) : (Cond.code yJ1_indexOfChar_4cfef cJ1_indexOfChar_4cfef 6 (Option.some Jvm.ClassFile.FieldType.int)).before A U = true := h.at 324 (by decide +kernel) rfl
theorem kw_325 {U : State} {A : Array Value} (h : KW U) : (Cond.methodLink RJ0 640 yJ2_indexOf_4cfef).before A U = true := h.at 325 (by decide +kernel) rfl
theorem kw_326 {U : State} {A : Array Value} (h : KW U) : (Cond.static yJ2_indexOf_4cfef).before A U = true := h.at 326 (by decide +kernel) rfl
theorem kw_327 {U : State} {A : Array Value} (h : KW U) : (Cond.code yJ2_indexOf_4cfef cJ2_indexOf_4cfef 4 (Option.some Jvm.ClassFile.FieldType.int)).before A U = true := h.at 327 (by decide +kernel) rfl
theorem kw_328 {U : State} {A : Array Value} (h : KW U) : (Cond.methodLink RJ2 224 yJ9_max_7cf53).before A U = true := h.at 328 (by decide +kernel) rfl
theorem kw_329 {U : State} {A : Array Value} (h : KW U) : (Cond.methodLink RJ2 183 yJ9_min_7cf53).before A U = true := h.at 329 (by decide +kernel) rfl
theorem kw_330 {U : State} {A : Array Value} (h : KW U) : (Cond.constant RJ2 227 (65536)).before A U = true := h.at 330 (by decide +kernel) rfl
theorem kw_331 {U : State} {A : Array Value} (h : KW U) : (Cond.methodLink RJ2 228 yJ2_indexOfChar_4cfef).before A U = true := h.at 331 (by decide +kernel) rfl
theorem kw_332 {U : State} {A : Array Value} (h : KW U) : (Cond.static yJ2_indexOfChar_4cfef).before A U = true := h.at 332 (by decide +kernel) rfl
theorem kw_333 {U : State} {A : Array Value} (h : KW U) : (Cond.code yJ2_indexOfChar_4cfef cJ2_indexOfChar_4cfef 4 (Option.some Jvm.ClassFile.FieldType.int)).before A U = true := h.at 333 (by decide +kernel) rfl
theorem kw_334 {U : State} {A : Array Value} (h : KW U) : (Cond.methodLink RJ2 96 yJ2_checkBoundsBeginEnd_d044e).before A U = true := h.at 334 (by decide +kernel) rfl
theorem kw_335 {U : State} {A : Array Value} (h : KW U) : (Cond.static yJ2_checkBoundsBeginEnd_d044e).before A U = true := h.at 335 (by decide +kernel) rfl
theorem kw_336 {U : State} {A : Array Value} (h : KW U) : (Cond.code yJ2_checkBoundsBeginEnd_d044e cJ2_checkBoundsBeginEnd_d044e 3 (Option.none : Option Jvm.ClassFile.FieldType)).before A U = true := h.at 336 (by decide +kernel) rfl
theorem kw_337 {U : State} {A : Array Value} (h : KW U) : (Cond.methodLink RJ2 48 yJ2_length_9d52b).before A U = true := h.at 337 (by decide +kernel) rfl
theorem kw_338 {U : State} {A : Array Value} (h : KW U) : (Cond.static yJ2_length_9d52b).before A U = true := h.at 338 (by decide +kernel) rfl
theorem kw_339 {U : State} {A : Array Value} (h : KW U) : (Cond.code yJ2_length_9d52b cJ2_length_9d52b 1 (Option.some Jvm.ClassFile.FieldType.int)).before A U = true := h.at 339 (by decide +kernel) rfl
theorem kw_340 {U : State} {A : Array Value} (h : KW U) : (Cond.methodLink RJ2 241 yJ0_checkBoundsBeginEnd_23922).before A U = true := h.at 340 (by decide +kernel) rfl
theorem kw_341 {U : State} {A : Array Value} (h : KW U) : (Cond.static yJ0_checkBoundsBeginEnd_23922).before A U = true := h.at 341 (by decide +kernel) rfl
theorem kw_342 {U : State} {A : Array Value} (h : KW U) : (Cond.code yJ0_checkBoundsBeginEnd_23922 cJ0_checkBoundsBeginEnd_23922 3 (Option.none : Option Jvm.ClassFile.FieldType)).before A U = true := h.at 342 (by decide +kernel) rfl
theorem kw_343 {U : State} {A : Array Value} (h : KW U) : (Cond.fieldLink RJ0 1053 RJ3 "SIOOBE_FORMATTER" "Ljava/util/function/BiFunction;").before A U = true := h.at 343 (by decide +kernel) rfl
theorem kw_345 {U : State} {A : Array Value} (h : KW U) : (Cond.methodLink RJ0 1062 yJ3_checkFromToIndex_8c36e).before A U = true := h.at 345 (by decide +kernel) rfl
theorem kw_346 {U : State} {A : Array Value} (h : KW U) : (Cond.static yJ3_checkFromToIndex_8c36e).before A U = true := h.at 346 (by decide +kernel) rfl
theorem kw_347 {U : State} {A : Array Value} (h : KW U) : (Cond.code yJ3_checkFromToIndex_8c36e cJ3_checkFromToIndex_8c36e 4 (Option.some Jvm.ClassFile.FieldType.int)).before A U = true := h.at 347 (by decide +kernel) rfl
theorem kw_348 {U : State} {A : Array Value} (h : KW U) : (Cond.methodLink RJ2 244 yJ2_indexOfCharUnsafe_4cfef).before A U = true := h.at 348 (by decide +kernel) rfl
theorem kw_349 {U : State} {A : Array Value} (h : KW U) : (Cond.static yJ2_indexOfCharUnsafe_4cfef).before A U = true := h.at 349 (by decide +kernel) rfl
theorem kw_350 {U : State} {A : Array Value} (h : KW U) : (Cond.code yJ2_indexOfCharUnsafe_4cfef cJ2_indexOfCharUnsafe_4cfef 5 (Option.some Jvm.ClassFile.FieldType.int)).before A U = true := h.at 350 (by decide +kernel) rfl
theorem kw_351 {U : State} {A : Array Value} (h : KW U) : (Cond.methodLink RJ2 71 yJ2_getChar_3b067).before A U = true := h.at 351 (by decide +kernel) rfl
theorem kw_352 {U : State} {A : Array Value} (h : KW U) : (Cond.static yJ2_getChar_3b067).before A U = true := h.at 352 (by decide +kernel) rfl
theorem kw_353 {U : State} {A : Array Value} (h : KW U) : (Cond.code yJ2_getChar_3b067 cJ2_getChar_3b067 2 (Option.some Jvm.ClassFile.FieldType.char)).before A U = true := h.at 353 (by decide +kernel) rfl
theorem kw_354 {U : State} {A : Array Value} (h : KW U) : (Cond.fieldLink RJ2 44 RJ2 "$assertionsDisabled" "Z").before A U = true := h.at 354 (by decide +kernel) rfl
theorem kw_356 {U : State} {A : Array Value} (h : KW U) : (Cond.fieldLink RJ2 59 RJ2 "HI_BYTE_SHIFT" "I").before A U = true := h.at 356 (by decide +kernel) rfl
theorem kw_358 {U : State} {A : Array Value} (h : KW U) : (Cond.fieldLink RJ2 63 RJ2 "LO_BYTE_SHIFT" "I").before A U = true := h.at 358 (by decide +kernel) rfl
theorem kw_360 {U : State} {A : Array Value} (h : KW U) : (Cond.methodLink RJ2 232 yJ2_indexOfSupplementary_4cfef).before A U = true := h.at 360 (by decide +kernel) rfl
theorem kw_361 {U : State} {A : Array Value} (h : KW U) : (Cond.static yJ2_indexOfSupplementary_4cfef).before A U = true := h.at 361 (by decide +kernel) rfl
theorem kw_362 {U : State} {A : Array Value} (h : KW U) : (Cond.code yJ2_indexOfSupplementary_4cfef cJ2_indexOfSupplementary_4cfef 7 (Option.some Jvm.ClassFile.FieldType.int)).before A U = true := h.at 362 (by decide +kernel) rfl
theorem kw_363 {U : State} {A : Array Value} (h : KW U) : (Cond.methodLink RJ2 164 yJ11_isValidCodePoint_9a6ad).before A U = true := h.at 363 (by decide +kernel) rfl
theorem kw_364 {U : State} {A : Array Value} (h : KW U) : (Cond.static yJ11_isValidCodePoint_9a6ad).before A U = true := h.at 364 (by decide +kernel) rfl
theorem kw_365 {U : State} {A : Array Value} (h : KW U) : (Cond.code yJ11_isValidCodePoint_9a6ad cJ11_isValidCodePoint_9a6ad 2 (Option.some Jvm.ClassFile.FieldType.boolean)).before A U = true := h.at 365 (by decide +kernel) rfl
theorem kw_366 {U : State} {A : Array Value} (h : KW U) : (Cond.methodLink RJ2 157 yJ11_highSurrogate_5068e).before A U = true := h.at 366 (by decide +kernel) rfl
theorem kw_367 {U : State} {A : Array Value} (h : KW U) : (Cond.static yJ11_highSurrogate_5068e).before A U = true := h.at 367 (by decide +kernel) rfl
theorem kw_368 {U : State} {A : Array Value} (h : KW U) : (Cond.code yJ11_highSurrogate_5068e cJ11_highSurrogate_5068e 1 (Option.some Jvm.ClassFile.FieldType.char)).before A U = true := h.at 368 (by decide +kernel) rfl
theorem kw_369 {U : State} {A : Array Value} (h : KW U) : (Cond.constant RJ11 110 (55232)).before A U = true := h.at 369 (by decide +kernel) rfl
theorem kw_370 {U : State} {A : Array Value} (h : KW U) : (Cond.methodLink RJ2 161 yJ11_lowSurrogate_5068e).before A U = true := h.at 370 (by decide +kernel) rfl
theorem kw_371 {U : State} {A : Array Value} (h : KW U) : (Cond.static yJ11_lowSurrogate_5068e).before A U = true := h.at 371 (by decide +kernel) rfl
theorem kw_372 {U : State} {A : Array Value} (h : KW U) : (Cond.code yJ11_lowSurrogate_5068e cJ11_lowSurrogate_5068e 1 (Option.some Jvm.ClassFile.FieldType.char)).before A U = true := h.at 372 (by decide +kernel) rfl
theorem kw_373 {U : State} {A : Array Value} (h : KW U) : (Cond.constant RJ11 76 (56320)).before A U = true := h.at 373 (by decide +kernel) rfl
theorem kw_374 {U : State} {A : Array Value} (h : KW U) : (Cond.methodLink RX4 42 yX4_readWords).before A U = true := h.at 374 (by decide +kernel) rfl
theorem kw_376 {U : State} {A : Array Value} (h : KW U) : (Cond.instanceMethod yX4_readWords).before A U = true := h.at 376 (by decide +kernel) rfl
theorem kw_377 {U : State} {A : Array Value} (h : KW U) : (Cond.code yX4_readWords cX4_readWords 3 (Option.some Jvm.ClassFile.FieldType.int)).before A U = true := h.at 377 (by decide +kernel) rfl
theorem kw_378 {U : State} {A : Array Value} (h : KW U) : (Cond.methodLinkNest RX4 46 yX6_hasWord RX6).before A U = true := h.at 378 (by decide +kernel) rfl
theorem kw_379 {U : State} {A : Array Value} (h : KW U) : (Cond.static yX6_hasWord).before A U = true := h.at 379 (by decide +kernel) rfl
theorem kw_380 {U : State} {A : Array Value} (h : KW U) : (Cond.code yX6_hasWord cX6_hasWord 2 (Option.some Jvm.ClassFile.FieldType.boolean)).before A U = true := h.at 380 (by decide +kernel) rfl
theorem kw_381 {U : State} {A : Array Value} (h : KW U) : (Cond.methodLink RX6 91 yX5_howManyOf).before A U = true := h.at 381 (by decide +kernel) rfl
theorem kw_382 {U : State} {A : Array Value} (h : KW U) : (Cond.instanceMethod yX5_howManyOf).before A U = true := h.at 382 (by decide +kernel) rfl
theorem kw_383 {U : State} {A : Array Value} (h : KW U) : (Cond.selects RX5 yX5_howManyOf yX5_howManyOf).before A U = true := h.at 383 (by decide +kernel) rfl
theorem kw_384 {U : State} {A : Array Value} (h : KW U) : (Cond.code yX5_howManyOf cX5_howManyOf 4 (Option.some Jvm.ClassFile.FieldType.int)).before A U = true := h.at 384 (by decide +kernel) rfl
theorem kw_385 {U : State} {A : Array Value} (h : KW U) : (Cond.methodLink RX6 94 yX5_add).before A U = true := h.at 385 (by decide +kernel) rfl
theorem kw_386 {U : State} {A : Array Value} (h : KW U) : (Cond.instanceMethod yX5_add).before A U = true := h.at 386 (by decide +kernel) rfl
theorem kw_387 {U : State} {A : Array Value} (h : KW U) : (Cond.selects RX5 yX5_add yX5_add).before A U = true := h.at 387 (by decide +kernel) rfl
theorem kw_388 {U : State} {A : Array Value} (h : KW U) : (Cond.code yX5_add cX5_add 2 (Option.some Jvm.ClassFile.FieldType.int)).before A U = true := h.at 388 (by decide +kernel) rfl
theorem kw_389 {U : State} {A : Array Value} (h : KW U) : (Cond.methodLink RX5 34 yX5_isFull).before A U = true := h.at 389 (by decide +kernel) rfl
theorem kw_391 {U : State} {A : Array Value} (h : KW U) : (Cond.methodLink RL 25 yX6_tellingOf).before A U = true := h.at 391 (by decide +kernel) rfl
theorem kw_392 {U : State} {A : Array Value} (h : KW U) : (Cond.instanceMethod yX6_tellingOf).before A U = true := h.at 392 (by decide +kernel) rfl
theorem kw_393 {U : State} {A : Array Value} (h : KW U) : (Cond.selects RX6 yX6_tellingOf yX6_tellingOf).before A U = true := h.at 393 (by decide +kernel) rfl
theorem kw_394 {U : State} {A : Array Value} (h : KW U) : (Cond.code yX6_tellingOf cX6_tellingOf 5 (Option.some Jvm.ClassFile.FieldType.int)).before A U = true := h.at 394 (by decide +kernel) rfl
theorem kw_395 {U : State} {A : Array Value} (h : KW U) : (Cond.methodLink RX6 98 yX5_has).before A U = true := h.at 395 (by decide +kernel) rfl
theorem kw_396 {U : State} {A : Array Value} (h : KW U) : (Cond.instanceMethod yX5_has).before A U = true := h.at 396 (by decide +kernel) rfl
theorem kw_397 {U : State} {A : Array Value} (h : KW U) : (Cond.selects RX5 yX5_has yX5_has).before A U = true := h.at 397 (by decide +kernel) rfl
theorem kw_398 {U : State} {A : Array Value} (h : KW U) : (Cond.code yX5_has cX5_has 2 (Option.some Jvm.ClassFile.FieldType.boolean)).before A U = true := h.at 398 (by decide +kernel) rfl
theorem kw_399 {U : State} {A : Array Value} (h : KW U) : (Cond.methodLink RL 30 yX6_word).before A U = true := h.at 399 (by decide +kernel) rfl
theorem kw_400 {U : State} {A : Array Value} (h : KW U) : (Cond.instanceMethod yX6_word).before A U = true := h.at 400 (by decide +kernel) rfl
theorem kw_401 {U : State} {A : Array Value} (h : KW U) : (Cond.selects RX6 yX6_word yX6_word).before A U = true := h.at 401 (by decide +kernel) rfl
theorem kw_402 {U : State} {A : Array Value} (h : KW U) : (Cond.code yX6_word cX6_word 7 (Option.some Jvm.ClassFile.FieldType.int)).before A U = true := h.at 402 (by decide +kernel) rfl
theorem kw_403 {U : State} {A : Array Value} (h : KW U) : (Cond.methodLink RX6 113 yX6_isWord).before A U = true := h.at 403 (by decide +kernel) rfl
theorem kw_404 {U : State} {A : Array Value} (h : KW U) : (Cond.methodLink RL 35 yX6_all).before A U = true := h.at 404 (by decide +kernel) rfl
theorem kw_405 {U : State} {A : Array Value} (h : KW U) : (Cond.instanceMethod yX6_all).before A U = true := h.at 405 (by decide +kernel) rfl
theorem kw_406 {U : State} {A : Array Value} (h : KW U) : (Cond.selects RX6 yX6_all yX6_all).before A U = true := h.at 406 (by decide +kernel) rfl
theorem kw_407 {U : State} {A : Array Value} (h : KW U) : (Cond.code yX6_all cX6_all 5 (Option.some Jvm.ClassFile.FieldType.int)).before A U = true := h.at 407 (by decide +kernel) rfl
theorem kw_408 {U : State} {A : Array Value} (h : KW U) : (Cond.methodLink RX6 125 yX6_hasWord).before A U = true := h.at 408 (by decide +kernel) rfl
theorem kw_409 {U : State} {A : Array Value} (h : KW U) : (Cond.methodLink RL 40 yX6_depth).before A U = true := h.at 409 (by decide +kernel) rfl
theorem kw_410 {U : State} {A : Array Value} (h : KW U) : (Cond.instanceMethod yX6_depth).before A U = true := h.at 410 (by decide +kernel) rfl
theorem kw_411 {U : State} {A : Array Value} (h : KW U) : (Cond.selects RX6 yX6_depth yX6_depth).before A U = true := h.at 411 (by decide +kernel) rfl
theorem kw_412 {U : State} {A : Array Value} (h : KW U) : (Cond.code yX6_depth cX6_depth 4 (Option.some Jvm.ClassFile.FieldType.int)).before A U = true := h.at 412 (by decide +kernel) rfl
theorem kw_413 {U : State} {A : Array Value} (h : KW U) : (Cond.methodLink RX6 129 yX6_isSet).before A U = true := h.at 413 (by decide +kernel) rfl
theorem kw_414 {U : State} {A : Array Value} (h : KW U) : (Cond.static yX6_isSet).before A U = true := h.at 414 (by decide +kernel) rfl
theorem kw_415 {U : State} {A : Array Value} (h : KW U) : (Cond.code yX6_isSet cX6_isSet 1 (Option.some Jvm.ClassFile.FieldType.boolean)).before A U = true := h.at 415 (by decide +kernel) rfl
theorem kw_416 {U : State} {A : Array Value} (h : KW U) : (Cond.methodLink RX6 132 yX0_roundOf).before A U = true := h.at 416 (by decide +kernel) rfl
theorem kw_417 {U : State} {A : Array Value} (h : KW U) : (Cond.instanceMethod yX0_roundOf).before A U = true := h.at 417 (by decide +kernel) rfl
theorem kw_418 {U : State} {A : Array Value} (h : KW U) : (Cond.selects RX0 yX0_roundOf yX0_roundOf).before A U = true := h.at 418 (by decide +kernel) rfl
theorem kw_419 {U : State} {A : Array Value} (h : KW U) : (Cond.code yX0_roundOf cX0_roundOf 6 (Option.some Jvm.ClassFile.FieldType.int)).before A U = true := h.at 419 (by decide +kernel) rfl
theorem kw_420 {U : State} {A : Array Value} (h : KW U) : (Cond.methodLinkNest RX0 49 yX6_hasWord RX6).before A U = true := h.at 420 (by decide +kernel) rfl
theorem kw_421 {U : State} {A : Array Value} (h : KW U) : (Cond.methodLink RX0 45 yX0_taughtNext).before A U = true := h.at 421 (by decide +kernel) rfl
theorem kw_422 {U : State} {A : Array Value} (h : KW U) : (Cond.instanceMethod yX0_taughtNext).before A U = true := h.at 422 (by decide +kernel) rfl
theorem kw_423 {U : State} {A : Array Value} (h : KW U) : (Cond.selects RX0 yX0_taughtNext yX0_taughtNext).before A U = true := h.at 423 (by decide +kernel) rfl
theorem kw_424 {U : State} {A : Array Value} (h : KW U) : (Cond.code yX0_taughtNext cX0_taughtNext 6 (Option.some Jvm.ClassFile.FieldType.int)).before A U = true := h.at 424 (by decide +kernel) rfl
theorem kw_425 {U : State} {A : Array Value} (h : KW U) : (Cond.methodLink RX0 41 yX5_teaches).before A U = true := h.at 425 (by decide +kernel) rfl
theorem kw_426 {U : State} {A : Array Value} (h : KW U) : (Cond.instanceMethod yX5_teaches).before A U = true := h.at 426 (by decide +kernel) rfl
theorem kw_427 {U : State} {A : Array Value} (h : KW U) : (Cond.selects RX5 yX5_teaches yX5_teaches).before A U = true := h.at 427 (by decide +kernel) rfl
theorem kw_428 {U : State} {A : Array Value} (h : KW U) : (Cond.code yX5_teaches cX5_teaches 6 (Option.some Jvm.ClassFile.FieldType.boolean)).before A U = true := h.at 428 (by decide +kernel) rfl
theorem kw_429 {U : State} {A : Array Value} (h : KW U) : (Cond.methodLink RX5 62 yJ6_bitCount_0f7a4).before A U = true := h.at 429 (by decide +kernel) rfl
theorem kw_430 {U : State} {A : Array Value} (h : KW U) : (Cond.static yJ6_bitCount_0f7a4).before A U = true := h.at 430 (by decide +kernel) rfl
theorem kw_431 {U : State} {A : Array Value} (h : KW U) : (Cond.code yJ6_bitCount_0f7a4 cJ6_bitCount_0f7a4 1 (Option.some Jvm.ClassFile.FieldType.int)).before A U = true := h.at 431 (by decide +kernel) rfl
theorem kw_432 {U : State} {A : Array Value} (h : KW U) : (Cond.constant RJ6 265 (1431655765)).before A U = true := h.at 432 (by decide +kernel) rfl
theorem kw_433 {U : State} {A : Array Value} (h : KW U) : (Cond.constant RJ6 266 (858993459)).before A U = true := h.at 433 (by decide +kernel) rfl
theorem kw_434 {U : State} {A : Array Value} (h : KW U) : (Cond.constant RJ6 267 (252645135)).before A U = true := h.at 434 (by decide +kernel) rfl
theorem kw_435 {U : State} {A : Array Value} (h : KW U) : (Cond.methodLink RL 44 yX6_learnt).before A U = true := h.at 435 (by decide +kernel) rfl
theorem kw_436 {U : State} {A : Array Value} (h : KW U) : (Cond.instanceMethod yX6_learnt).before A U = true := h.at 436 (by decide +kernel) rfl
theorem kw_437 {U : State} {A : Array Value} (h : KW U) : (Cond.selects RX6 yX6_learnt yX6_learnt).before A U = true := h.at 437 (by decide +kernel) rfl
theorem kw_438 {U : State} {A : Array Value} (h : KW U) : (Cond.code yX6_learnt cX6_learnt 3 (Option.some Jvm.ClassFile.FieldType.int)).before A U = true := h.at 438 (by decide +kernel) rfl
theorem kw_439 {U : State} {A : Array Value} (h : KW U) : (Cond.methodLink RX6 136 yX0_learntFrom).before A U = true := h.at 439 (by decide +kernel) rfl
theorem kw_440 {U : State} {A : Array Value} (h : KW U) : (Cond.instanceMethod yX0_learntFrom).before A U = true := h.at 440 (by decide +kernel) rfl
theorem kw_441 {U : State} {A : Array Value} (h : KW U) : (Cond.selects RX0 yX0_learntFrom yX0_learntFrom).before A U = true := h.at 441 (by decide +kernel) rfl
theorem kw_442 {U : State} {A : Array Value} (h : KW U) : (Cond.code yX0_learntFrom cX0_learntFrom 5 (Option.some Jvm.ClassFile.FieldType.int)).before A U = true := h.at 442 (by decide +kernel) rfl
theorem kw_443 {U : State} {A : Array Value} (h : KW U) : (Cond.methodLink RL 49 yX6_put).before A U = true := h.at 443 (by decide +kernel) rfl
theorem kw_444 {U : State} {A : Array Value} (h : KW U) : (Cond.instanceMethod yX6_put).before A U = true := h.at 444 (by decide +kernel) rfl
theorem kw_445 {U : State} {A : Array Value} (h : KW U) : (Cond.selects RX6 yX6_put yX6_put).before A U = true := h.at 445 (by decide +kernel) rfl
theorem kw_446 {U : State} {A : Array Value} (h : KW U) : (Cond.code yX6_put cX6_put 2 (Option.some Jvm.ClassFile.FieldType.int)).before A U = true := h.at 446 (by decide +kernel) rfl
theorem kw_447 {U : State} {A : Array Value} (h : KW U) : (Cond.methodLink RL 53 yX6_judge).before A U = true := h.at 447 (by decide +kernel) rfl
theorem kw_448 {U : State} {A : Array Value} (h : KW U) : (Cond.instanceMethod yX6_judge).before A U = true := h.at 448 (by decide +kernel) rfl
theorem kw_449 {U : State} {A : Array Value} (h : KW U) : (Cond.selects RX6 yX6_judge yX6_judge).before A U = true := h.at 449 (by decide +kernel) rfl
theorem kw_450 {U : State} {A : Array Value} (h : KW U) : (Cond.code yX6_judge cX6_judge 4 (Option.some Jvm.ClassFile.FieldType.int)).before A U = true := h.at 450 (by decide +kernel) rfl
theorem kw_451 {U : State} {A : Array Value} (h : KW U) : (Cond.methodLink RX6 139 yX6_firstThatMayNot).before A U = true := h.at 451 (by decide +kernel) rfl
theorem kw_453 {U : State} {A : Array Value} (h : KW U) : (Cond.instanceMethod yX6_firstThatMayNot).before A U = true := h.at 453 (by decide +kernel) rfl
theorem kw_454 {U : State} {A : Array Value} (h : KW U) : (Cond.code yX6_firstThatMayNot cX6_firstThatMayNot 6 (Option.some Jvm.ClassFile.FieldType.int)).before A U = true := h.at 454 (by decide +kernel) rfl
theorem kw_455 {U : State} {A : Array Value} (h : KW U) : (Cond.methodLink RX6 224 yX0_taughtNext).before A U = true := h.at 455 (by decide +kernel) rfl
theorem kw_456 {U : State} {A : Array Value} (h : KW U) : (Cond.methodLink RL 57 yX6_needed).before A U = true := h.at 456 (by decide +kernel) rfl
theorem kw_457 {U : State} {A : Array Value} (h : KW U) : (Cond.instanceMethod yX6_needed).before A U = true := h.at 457 (by decide +kernel) rfl
theorem kw_458 {U : State} {A : Array Value} (h : KW U) : (Cond.selects RX6 yX6_needed yX6_needed).before A U = true := h.at 458 (by decide +kernel) rfl
theorem kw_459 {U : State} {A : Array Value} (h : KW U) : (Cond.code yX6_needed cX6_needed 3 (Option.some Jvm.ClassFile.FieldType.int)).before A U = true := h.at 459 (by decide +kernel) rfl
theorem kw_460 {U : State} {A : Array Value} (h : KW U) : (Cond.methodLink RX6 143 yX5_neededBy).before A U = true := h.at 460 (by decide +kernel) rfl
theorem kw_461 {U : State} {A : Array Value} (h : KW U) : (Cond.instanceMethod yX5_neededBy).before A U = true := h.at 461 (by decide +kernel) rfl
theorem kw_462 {U : State} {A : Array Value} (h : KW U) : (Cond.selects RX5 yX5_neededBy yX5_neededBy).before A U = true := h.at 462 (by decide +kernel) rfl
theorem kw_463 {U : State} {A : Array Value} (h : KW U) : (Cond.code yX5_neededBy cX5_neededBy 4 (Option.some Jvm.ClassFile.FieldType.int)).before A U = true := h.at 463 (by decide +kernel) rfl
theorem kw_464 {U : State} {A : Array Value} (h : KW U) : (Cond.methodLink RL 61 yX6_idle).before A U = true := h.at 464 (by decide +kernel) rfl
theorem kw_465 {U : State} {A : Array Value} (h : KW U) : (Cond.instanceMethod yX6_idle).before A U = true := h.at 465 (by decide +kernel) rfl
theorem kw_466 {U : State} {A : Array Value} (h : KW U) : (Cond.selects RX6 yX6_idle yX6_idle).before A U = true := h.at 466 (by decide +kernel) rfl
theorem kw_467 {U : State} {A : Array Value} (h : KW U) : (Cond.code yX6_idle cX6_idle 2 (Option.some Jvm.ClassFile.FieldType.int)).before A U = true := h.at 467 (by decide +kernel) rfl
theorem kw_468 {U : State} {A : Array Value} (h : KW U) : (Cond.methodLink RX6 146 yX5_neededByAny).before A U = true := h.at 468 (by decide +kernel) rfl
theorem kw_469 {U : State} {A : Array Value} (h : KW U) : (Cond.instanceMethod yX5_neededByAny).before A U = true := h.at 469 (by decide +kernel) rfl
theorem kw_470 {U : State} {A : Array Value} (h : KW U) : (Cond.selects RX5 yX5_neededByAny yX5_neededByAny).before A U = true := h.at 470 (by decide +kernel) rfl
theorem kw_471 {U : State} {A : Array Value} (h : KW U) : (Cond.code yX5_neededByAny cX5_neededByAny 3 (Option.some Jvm.ClassFile.FieldType.int)).before A U = true := h.at 471 (by decide +kernel) rfl
theorem kw_472 {U : State} {A : Array Value} (h : KW U) : (Cond.methodLink RL 65 yX6_leads).before A U = true := h.at 472 (by decide +kernel) rfl
theorem kw_473 {U : State} {A : Array Value} (h : KW U) : (Cond.instanceMethod yX6_leads).before A U = true := h.at 473 (by decide +kernel) rfl
theorem kw_474 {U : State} {A : Array Value} (h : KW U) : (Cond.selects RX6 yX6_leads yX6_leads).before A U = true := h.at 474 (by decide +kernel) rfl
theorem kw_475 {U : State} {A : Array Value} (h : KW U) : (Cond.code yX6_leads cX6_leads 3 (Option.some Jvm.ClassFile.FieldType.int)).before A U = true := h.at 475 (by decide +kernel) rfl
theorem kw_476 {U : State} {A : Array Value} (h : KW U) : (Cond.methodLink RX6 149 yX5_reachedFrom).before A U = true := h.at 476 (by decide +kernel) rfl
theorem kw_477 {U : State} {A : Array Value} (h : KW U) : (Cond.instanceMethod yX5_reachedFrom).before A U = true := h.at 477 (by decide +kernel) rfl
theorem kw_478 {U : State} {A : Array Value} (h : KW U) : (Cond.selects RX5 yX5_reachedFrom yX5_reachedFrom).before A U = true := h.at 478 (by decide +kernel) rfl
theorem kw_479 {U : State} {A : Array Value} (h : KW U) : (Cond.code yX5_reachedFrom cX5_reachedFrom 6 (Option.some Jvm.ClassFile.FieldType.int)).before A U = true := h.at 479 (by decide +kernel) rfl
theorem kw_480 {U : State} {A : Array Value} (h : KW U) : (Cond.methodLink RX5 68 yX5_neededBy).before A U = true := h.at 480 (by decide +kernel) rfl
theorem kw_481 {U : State} {A : Array Value} (h : KW U) : (Cond.methodLinkNest RX5 71 yX6_hasWord RX6).before A U = true := h.at 481 (by decide +kernel) rfl
theorem kw_482 {U : State} {A : Array Value} (h : KW U) : (Cond.methodLink RL 69 yX6_knot).before A U = true := h.at 482 (by decide +kernel) rfl
theorem kw_483 {U : State} {A : Array Value} (h : KW U) : (Cond.instanceMethod yX6_knot).before A U = true := h.at 483 (by decide +kernel) rfl
theorem kw_484 {U : State} {A : Array Value} (h : KW U) : (Cond.selects RX6 yX6_knot yX6_knot).before A U = true := h.at 484 (by decide +kernel) rfl
theorem kw_485 {U : State} {A : Array Value} (h : KW U) : (Cond.code yX6_knot cX6_knot 3 (Option.some Jvm.ClassFile.FieldType.int)).before A U = true := h.at 485 (by decide +kernel) rfl
theorem kw_486 {U : State} {A : Array Value} (h : KW U) : (Cond.methodLink RX6 152 yX5_knotOf).before A U = true := h.at 486 (by decide +kernel) rfl
theorem kw_487 {U : State} {A : Array Value} (h : KW U) : (Cond.instanceMethod yX5_knotOf).before A U = true := h.at 487 (by decide +kernel) rfl
theorem kw_488 {U : State} {A : Array Value} (h : KW U) : (Cond.selects RX5 yX5_knotOf yX5_knotOf).before A U = true := h.at 488 (by decide +kernel) rfl
theorem kw_489 {U : State} {A : Array Value} (h : KW U) : (Cond.code yX5_knotOf cX5_knotOf 5 (Option.some Jvm.ClassFile.FieldType.int)).before A U = true := h.at 489 (by decide +kernel) rfl
theorem kw_490 {U : State} {A : Array Value} (h : KW U) : (Cond.methodLink RX5 75 yX5_reachedFrom).before A U = true := h.at 490 (by decide +kernel) rfl
theorem kw_491 {U : State} {A : Array Value} (h : KW U) : (Cond.methodLink RL 73 yX6_knots).before A U = true := h.at 491 (by decide +kernel) rfl
theorem kw_492 {U : State} {A : Array Value} (h : KW U) : (Cond.instanceMethod yX6_knots).before A U = true := h.at 492 (by decide +kernel) rfl
theorem kw_493 {U : State} {A : Array Value} (h : KW U) : (Cond.selects RX6 yX6_knots yX6_knots).before A U = true := h.at 493 (by decide +kernel) rfl
theorem kw_494 {U : State} {A : Array Value} (h : KW U) : (Cond.code yX6_knots cX6_knots 2 (Option.some Jvm.ClassFile.FieldType.int)).before A U = true := h.at 494 (by decide +kernel) rfl
theorem kw_495 {U : State} {A : Array Value} (h : KW U) : (Cond.methodLink RX6 155 yX5_howManyKnots).before A U = true := h.at 495 (by decide +kernel) rfl
theorem kw_496 {U : State} {A : Array Value} (h : KW U) : (Cond.instanceMethod yX5_howManyKnots).before A U = true := h.at 496 (by decide +kernel) rfl
theorem kw_497 {U : State} {A : Array Value} (h : KW U) : (Cond.selects RX5 yX5_howManyKnots yX5_howManyKnots).before A U = true := h.at 497 (by decide +kernel) rfl
theorem kw_498 {U : State} {A : Array Value} (h : KW U) : (Cond.code yX5_howManyKnots cX5_howManyKnots 4 (Option.some Jvm.ClassFile.FieldType.int)).before A U = true := h.at 498 (by decide +kernel) rfl
theorem kw_499 {U : State} {A : Array Value} (h : KW U) : (Cond.methodLink RX5 78 yX5_knotOf).before A U = true := h.at 499 (by decide +kernel) rfl
theorem kw_500 {U : State} {A : Array Value} (h : KW U) : (Cond.methodLinkNest RX5 81 yX6_leastWord RX6).before A U = true := h.at 500 (by decide +kernel) rfl
theorem kw_501 {U : State} {A : Array Value} (h : KW U) : (Cond.static yX6_leastWord).before A U = true := h.at 501 (by decide +kernel) rfl
theorem kw_502 {U : State} {A : Array Value} (h : KW U) : (Cond.code yX6_leastWord cX6_leastWord 2 (Option.some Jvm.ClassFile.FieldType.int)).before A U = true := h.at 502 (by decide +kernel) rfl
theorem kw_503 {U : State} {A : Array Value} (h : KW U) : (Cond.methodLink RL 77 yX6_fewest).before A U = true := h.at 503 (by decide +kernel) rfl
theorem kw_504 {U : State} {A : Array Value} (h : KW U) : (Cond.instanceMethod yX6_fewest).before A U = true := h.at 504 (by decide +kernel) rfl
theorem kw_505 {U : State} {A : Array Value} (h : KW U) : (Cond.selects RX6 yX6_fewest yX6_fewest).before A U = true := h.at 505 (by decide +kernel) rfl
theorem kw_506 {U : State} {A : Array Value} (h : KW U) : (Cond.code yX6_fewest cX6_fewest 2 (Option.some Jvm.ClassFile.FieldType.int)).before A U = true := h.at 506 (by decide +kernel) rfl
theorem kw_507 {U : State} {A : Array Value} (h : KW U) : (Cond.methodLink RX6 158 yX6_fewestOf).before A U = true := h.at 507 (by decide +kernel) rfl
theorem kw_509 {U : State} {A : Array Value} (h : KW U) : (Cond.instanceMethod yX6_fewestOf).before A U = true := h.at 509 (by decide +kernel) rfl
theorem kw_510 {U : State} {A : Array Value} (h : KW U) : (Cond.code yX6_fewestOf cX6_fewestOf 2 (Option.some Jvm.ClassFile.FieldType.int)).before A U = true := h.at 510 (by decide +kernel) rfl
theorem kw_511 {U : State} {A : Array Value} (h : KW U) : (Cond.methodLink RX6 162 yX2_find).before A U = true := h.at 511 (by decide +kernel) rfl
theorem kw_512 {U : State} {A : Array Value} (h : KW U) : (Cond.instanceMethod yX2_find).before A U = true := h.at 512 (by decide +kernel) rfl
theorem kw_513 {U : State} {A : Array Value} (h : KW U) : (Cond.selects RX2 yX2_find yX2_find).before A U = true := h.at 513 (by decide +kernel) rfl
theorem kw_514 {U : State} {A : Array Value} (h : KW U) : (Cond.code yX2_find cX2_find 5 (Option.none : Option Jvm.ClassFile.FieldType)).before A U = true := h.at 514 (by decide +kernel) rfl
theorem kw_515 {U : State} {A : Array Value} (h : KW U) : (Cond.methodLink RX2 37 yX0_neverTaught).before A U = true := h.at 515 (by decide +kernel) rfl
theorem kw_516 {U : State} {A : Array Value} (h : KW U) : (Cond.instanceMethod yX0_neverTaught).before A U = true := h.at 516 (by decide +kernel) rfl
theorem kw_517 {U : State} {A : Array Value} (h : KW U) : (Cond.selects RX0 yX0_neverTaught yX0_neverTaught).before A U = true := h.at 517 (by decide +kernel) rfl
theorem kw_518 {U : State} {A : Array Value} (h : KW U) : (Cond.code yX0_neverTaught cX0_neverTaught 3 (Option.some Jvm.ClassFile.FieldType.int)).before A U = true := h.at 518 (by decide +kernel) rfl
theorem kw_519 {U : State} {A : Array Value} (h : KW U) : (Cond.methodLink RX2 43 yX0_learntFrom).before A U = true := h.at 519 (by decide +kernel) rfl
theorem kw_520 {U : State} {A : Array Value} (h : KW U) : (Cond.methodLink RX2 47 yX2_look).before A U = true := h.at 520 (by decide +kernel) rfl
theorem kw_522 {U : State} {A : Array Value} (h : KW U) : (Cond.instanceMethod yX2_look).before A U = true := h.at 522 (by decide +kernel) rfl
theorem kw_523 {U : State} {A : Array Value} (h : KW U) : (Cond.code yX2_look cX2_look 6 (Option.none : Option Jvm.ClassFile.FieldType)).before A U = true := h.at 523 (by decide +kernel) rfl
theorem kw_524 {U : State} {A : Array Value} (h : KW U) : (Cond.methodLink RX2 51 yX0_someTaughtNext).before A U = true := h.at 524 (by decide +kernel) rfl
theorem kw_525 {U : State} {A : Array Value} (h : KW U) : (Cond.instanceMethod yX0_someTaughtNext).before A U = true := h.at 525 (by decide +kernel) rfl
theorem kw_526 {U : State} {A : Array Value} (h : KW U) : (Cond.selects RX0 yX0_someTaughtNext yX0_someTaughtNext).before A U = true := h.at 526 (by decide +kernel) rfl
theorem kw_527 {U : State} {A : Array Value} (h : KW U) : (Cond.code yX0_someTaughtNext cX0_someTaughtNext 5 (Option.some Jvm.ClassFile.FieldType.int)).before A U = true := h.at 527 (by decide +kernel) rfl
theorem kw_528 {U : State} {A : Array Value} (h : KW U) : (Cond.methodLink RX2 54 yX2_note).before A U = true := h.at 528 (by decide +kernel) rfl
theorem kw_530 {U : State} {A : Array Value} (h : KW U) : (Cond.instanceMethod yX2_note).before A U = true := h.at 530 (by decide +kernel) rfl
theorem kw_531 {U : State} {A : Array Value} (h : KW U) : (Cond.code yX2_note cX2_note 3 (Option.none : Option Jvm.ClassFile.FieldType)).before A U = true := h.at 531 (by decide +kernel) rfl
theorem kw_532 {U : State} {A : Array Value} (h : KW U) : (Cond.methodLink RX2 58 yJ6_bitCount_0f7a4).before A U = true := h.at 532 (by decide +kernel) rfl
theorem kw_533 {U : State} {A : Array Value} (h : KW U) : (Cond.methodLink RX2 63 yJ9_min_7cf53).before A U = true := h.at 533 (by decide +kernel) rfl
theorem kw_534 {U : State} {A : Array Value} (h : KW U) : (Cond.methodLink RL 81 yX6_lightest).before A U = true := h.at 534 (by decide +kernel) rfl
theorem kw_535 {U : State} {A : Array Value} (h : KW U) : (Cond.instanceMethod yX6_lightest).before A U = true := h.at 535 (by decide +kernel) rfl
theorem kw_536 {U : State} {A : Array Value} (h : KW U) : (Cond.selects RX6 yX6_lightest yX6_lightest).before A U = true := h.at 536 (by decide +kernel) rfl
theorem kw_537 {U : State} {A : Array Value} (h : KW U) : (Cond.code yX6_lightest cX6_lightest 2 (Option.some Jvm.ClassFile.FieldType.int)).before A U = true := h.at 537 (by decide +kernel) rfl
theorem kw_538 {U : State} {A : Array Value} (h : KW U) : (Cond.methodLink RX6 166 yX2_leastHard).before A U = true := h.at 538 (by decide +kernel) rfl
theorem kw_539 {U : State} {A : Array Value} (h : KW U) : (Cond.instanceMethod yX2_leastHard).before A U = true := h.at 539 (by decide +kernel) rfl
theorem kw_540 {U : State} {A : Array Value} (h : KW U) : (Cond.selects RX2 yX2_leastHard yX2_leastHard).before A U = true := h.at 540 (by decide +kernel) rfl
theorem kw_541 {U : State} {A : Array Value} (h : KW U) : (Cond.code yX2_leastHard cX2_leastHard 5 (Option.some Jvm.ClassFile.FieldType.int)).before A U = true := h.at 541 (by decide +kernel) rfl
theorem kw_542 {U : State} {A : Array Value} (h : KW U) : (Cond.methodLink RX2 69 yX2_lighter).before A U = true := h.at 542 (by decide +kernel) rfl
theorem kw_544 {U : State} {A : Array Value} (h : KW U) : (Cond.instanceMethod yX2_lighter).before A U = true := h.at 544 (by decide +kernel) rfl
theorem kw_545 {U : State} {A : Array Value} (h : KW U) : (Cond.code yX2_lighter cX2_lighter 6 (Option.some Jvm.ClassFile.FieldType.int)).before A U = true := h.at 545 (by decide +kernel) rfl
theorem kw_546 {U : State} {A : Array Value} (h : KW U) : (Cond.methodLink RX2 73 yX0_hardnessOf).before A U = true := h.at 546 (by decide +kernel) rfl
theorem kw_547 {U : State} {A : Array Value} (h : KW U) : (Cond.instanceMethod yX0_hardnessOf).before A U = true := h.at 547 (by decide +kernel) rfl
theorem kw_548 {U : State} {A : Array Value} (h : KW U) : (Cond.selects RX0 yX0_hardnessOf yX0_hardnessOf).before A U = true := h.at 548 (by decide +kernel) rfl
theorem kw_549 {U : State} {A : Array Value} (h : KW U) : (Cond.code yX0_hardnessOf cX0_hardnessOf 4 (Option.some Jvm.ClassFile.FieldType.int)).before A U = true := h.at 549 (by decide +kernel) rfl
theorem kw_550 {U : State} {A : Array Value} (h : KW U) : (Cond.methodLink RX2 76 yJ6_compare_7cf53).before A U = true := h.at 550 (by decide +kernel) rfl
theorem kw_551 {U : State} {A : Array Value} (h : KW U) : (Cond.static yJ6_compare_7cf53).before A U = true := h.at 551 (by decide +kernel) rfl
theorem kw_552 {U : State} {A : Array Value} (h : KW U) : (Cond.code yJ6_compare_7cf53 cJ6_compare_7cf53 2 (Option.some Jvm.ClassFile.FieldType.int)).before A U = true := h.at 552 (by decide +kernel) rfl
theorem kw_553 {U : State} {A : Array Value} (h : KW U) : (Cond.methodLink RL 85 yX6_sets).before A U = true := h.at 553 (by decide +kernel) rfl
theorem kw_554 {U : State} {A : Array Value} (h : KW U) : (Cond.instanceMethod yX6_sets).before A U = true := h.at 554 (by decide +kernel) rfl
theorem kw_555 {U : State} {A : Array Value} (h : KW U) : (Cond.selects RX6 yX6_sets yX6_sets).before A U = true := h.at 555 (by decide +kernel) rfl
theorem kw_556 {U : State} {A : Array Value} (h : KW U) : (Cond.code yX6_sets cX6_sets 3 (Option.some Jvm.ClassFile.FieldType.int)).before A U = true := h.at 556 (by decide +kernel) rfl
theorem kw_557 {U : State} {A : Array Value} (h : KW U) : (Cond.methodLink RL 89 yX6_soonest).before A U = true := h.at 557 (by decide +kernel) rfl
theorem kw_558 {U : State} {A : Array Value} (h : KW U) : (Cond.instanceMethod yX6_soonest).before A U = true := h.at 558 (by decide +kernel) rfl
theorem kw_559 {U : State} {A : Array Value} (h : KW U) : (Cond.selects RX6 yX6_soonest yX6_soonest).before A U = true := h.at 559 (by decide +kernel) rfl
theorem kw_560 {U : State} {A : Array Value} (h : KW U) : (Cond.code yX6_soonest cX6_soonest 7 (Option.some Jvm.ClassFile.FieldType.int)).before A U = true := h.at 560 (by decide +kernel) rfl
theorem kw_561 {U : State} {A : Array Value} (h : KW U) : (Cond.methodLink RX6 178 yX0_metMostAfter).before A U = true := h.at 561 (by decide +kernel) rfl
theorem kw_562 {U : State} {A : Array Value} (h : KW U) : (Cond.instanceMethod yX0_metMostAfter).before A U = true := h.at 562 (by decide +kernel) rfl
theorem kw_563 {U : State} {A : Array Value} (h : KW U) : (Cond.selects RX0 yX0_metMostAfter yX0_metMostAfter).before A U = true := h.at 563 (by decide +kernel) rfl
theorem kw_564 {U : State} {A : Array Value} (h : KW U) : (Cond.code yX0_metMostAfter cX0_metMostAfter 6 (Option.some Jvm.ClassFile.FieldType.int)).before A U = true := h.at 564 (by decide +kernel) rfl
theorem kw_565 {U : State} {A : Array Value} (h : KW U) : (Cond.methodLink RL 93 yX6_waits).before A U = true := h.at 565 (by decide +kernel) rfl
theorem kw_566 {U : State} {A : Array Value} (h : KW U) : (Cond.instanceMethod yX6_waits).before A U = true := h.at 566 (by decide +kernel) rfl
theorem kw_567 {U : State} {A : Array Value} (h : KW U) : (Cond.selects RX6 yX6_waits yX6_waits).before A U = true := h.at 567 (by decide +kernel) rfl
theorem kw_568 {U : State} {A : Array Value} (h : KW U) : (Cond.code yX6_waits cX6_waits 7 (Option.some Jvm.ClassFile.FieldType.int)).before A U = true := h.at 568 (by decide +kernel) rfl
theorem kw_569 {U : State} {A : Array Value} (h : KW U) : (Cond.methodLink RL 97 yX6_change).before A U = true := h.at 569 (by decide +kernel) rfl
theorem kw_570 {U : State} {A : Array Value} (h : KW U) : (Cond.instanceMethod yX6_change).before A U = true := h.at 570 (by decide +kernel) rfl
theorem kw_571 {U : State} {A : Array Value} (h : KW U) : (Cond.selects RX6 yX6_change yX6_change).before A U = true := h.at 571 (by decide +kernel) rfl
theorem kw_572 {U : State} {A : Array Value} (h : KW U) : (Cond.code yX6_change cX6_change 4 (Option.some Jvm.ClassFile.FieldType.int)).before A U = true := h.at 572 (by decide +kernel) rfl
theorem kw_573 {U : State} {A : Array Value} (h : KW U) : (Cond.methodLink RX6 190 yX1_add).before A U = true := h.at 573 (by decide +kernel) rfl
theorem kw_574 {U : State} {A : Array Value} (h : KW U) : (Cond.instanceMethod yX1_add).before A U = true := h.at 574 (by decide +kernel) rfl
theorem kw_575 {U : State} {A : Array Value} (h : KW U) : (Cond.selects RX1 yX1_add yX1_add).before A U = true := h.at 575 (by decide +kernel) rfl
theorem kw_576 {U : State} {A : Array Value} (h : KW U) : (Cond.code yX1_add cX1_add 5 (Option.some Jvm.ClassFile.FieldType.int)).before A U = true := h.at 576 (by decide +kernel) rfl
theorem kw_577 {U : State} {A : Array Value} (h : KW U) : (Cond.methodLink RX1 27 yX5_add).before A U = true := h.at 577 (by decide +kernel) rfl
theorem kw_578 {U : State} {A : Array Value} (h : KW U) : (Cond.methodLink RL 101 yX6_mend).before A U = true := h.at 578 (by decide +kernel) rfl
theorem kw_579 {U : State} {A : Array Value} (h : KW U) : (Cond.instanceMethod yX6_mend).before A U = true := h.at 579 (by decide +kernel) rfl
theorem kw_580 {U : State} {A : Array Value} (h : KW U) : (Cond.selects RX6 yX6_mend yX6_mend).before A U = true := h.at 580 (by decide +kernel) rfl
theorem kw_581 {U : State} {A : Array Value} (h : KW U) : (Cond.code yX6_mend cX6_mend 8 (Option.some Jvm.ClassFile.FieldType.int)).before A U = true := h.at 581 (by decide +kernel) rfl
theorem kw_582 {U : State} {A : Array Value} (h : KW U) : (Cond.methodLink RX6 193 yX1_ofBook).before A U = true := h.at 582 (by decide +kernel) rfl
theorem kw_583 {U : State} {A : Array Value} (h : KW U) : (Cond.instanceMethod yX1_ofBook).before A U = true := h.at 583 (by decide +kernel) rfl
theorem kw_584 {U : State} {A : Array Value} (h : KW U) : (Cond.selects RX1 yX1_ofBook yX1_ofBook).before A U = true := h.at 584 (by decide +kernel) rfl
theorem kw_585 {U : State} {A : Array Value} (h : KW U) : (Cond.code yX1_ofBook cX1_ofBook 4 (Option.some Jvm.ClassFile.FieldType.int)).before A U = true := h.at 585 (by decide +kernel) rfl
theorem kw_586 {U : State} {A : Array Value} (h : KW U) : (Cond.methodLink RX6 196 yX6_fewestWordsAfter).before A U = true := h.at 586 (by decide +kernel) rfl
theorem kw_588 {U : State} {A : Array Value} (h : KW U) : (Cond.instanceMethod yX6_fewestWordsAfter).before A U = true := h.at 588 (by decide +kernel) rfl
theorem kw_589 {U : State} {A : Array Value} (h : KW U) : (Cond.code yX6_fewestWordsAfter cX6_fewestWordsAfter 3 (Option.some Jvm.ClassFile.FieldType.int)).before A U = true := h.at 589 (by decide +kernel) rfl
theorem kw_590 {U : State} {A : Array Value} (h : KW U) : (Cond.methodLink RX6 227 yX0_copyFrom).before A U = true := h.at 590 (by decide +kernel) rfl
theorem kw_591 {U : State} {A : Array Value} (h : KW U) : (Cond.instanceMethod yX0_copyFrom).before A U = true := h.at 591 (by decide +kernel) rfl
theorem kw_592 {U : State} {A : Array Value} (h : KW U) : (Cond.selects RX0 yX0_copyFrom yX0_copyFrom).before A U = true := h.at 592 (by decide +kernel) rfl
theorem kw_593 {U : State} {A : Array Value} (h : KW U) : (Cond.code yX0_copyFrom cX0_copyFrom 3 (Option.none : Option Jvm.ClassFile.FieldType)).before A U = true := h.at 593 (by decide +kernel) rfl
theorem kw_594 {U : State} {A : Array Value} (h : KW U) : (Cond.methodLink RX0 31 yX5_copyFrom).before A U = true := h.at 594 (by decide +kernel) rfl
theorem kw_595 {U : State} {A : Array Value} (h : KW U) : (Cond.instanceMethod yX5_copyFrom).before A U = true := h.at 595 (by decide +kernel) rfl
theorem kw_596 {U : State} {A : Array Value} (h : KW U) : (Cond.selects RX5 yX5_copyFrom yX5_copyFrom).before A U = true := h.at 596 (by decide +kernel) rfl
theorem kw_597 {U : State} {A : Array Value} (h : KW U) : (Cond.code yX5_copyFrom cX5_copyFrom 3 (Option.none : Option Jvm.ClassFile.FieldType)).before A U = true := h.at 597 (by decide +kernel) rfl
theorem kw_598 {U : State} {A : Array Value} (h : KW U) : (Cond.methodLink RX5 55 yJ9_min_7cf53).before A U = true := h.at 598 (by decide +kernel) rfl
theorem kw_599 {U : State} {A : Array Value} (h : KW U) : (Cond.methodLink RX5 58 yX5_replace).before A U = true := h.at 599 (by decide +kernel) rfl
theorem kw_600 {U : State} {A : Array Value} (h : KW U) : (Cond.instanceMethod yX5_replace).before A U = true := h.at 600 (by decide +kernel) rfl
theorem kw_601 {U : State} {A : Array Value} (h : KW U) : (Cond.selects RX5 yX5_replace yX5_replace).before A U = true := h.at 601 (by decide +kernel) rfl
theorem kw_602 {U : State} {A : Array Value} (h : KW U) : (Cond.code yX5_replace cX5_replace 4 (Option.none : Option Jvm.ClassFile.FieldType)).before A U = true := h.at 602 (by decide +kernel) rfl
theorem kw_603 {U : State} {A : Array Value} (h : KW U) : (Cond.methodLink RX5 51 yX5_has).before A U = true := h.at 603 (by decide +kernel) rfl
theorem kw_604 {U : State} {A : Array Value} (h : KW U) : (Cond.methodLink RX6 230 yX1_makeIn).before A U = true := h.at 604 (by decide +kernel) rfl
theorem kw_605 {U : State} {A : Array Value} (h : KW U) : (Cond.instanceMethod yX1_makeIn).before A U = true := h.at 605 (by decide +kernel) rfl
theorem kw_606 {U : State} {A : Array Value} (h : KW U) : (Cond.selects RX1 yX1_makeIn yX1_makeIn).before A U = true := h.at 606 (by decide +kernel) rfl
theorem kw_607 {U : State} {A : Array Value} (h : KW U) : (Cond.code yX1_makeIn cX1_makeIn 4 (Option.none : Option Jvm.ClassFile.FieldType)).before A U = true := h.at 607 (by decide +kernel) rfl
theorem kw_608 {U : State} {A : Array Value} (h : KW U) : (Cond.methodLinkNest RX1 35 yX6_hasWord RX6).before A U = true := h.at 608 (by decide +kernel) rfl
theorem kw_609 {U : State} {A : Array Value} (h : KW U) : (Cond.methodLink RX1 44 yX5_replace).before A U = true := h.at 609 (by decide +kernel) rfl
theorem kw_610 {U : State} {A : Array Value} (h : KW U) : (Cond.methodLink RX6 199 yJ6_bitCount_0f7a4).before A U = true := h.at 610 (by decide +kernel) rfl
theorem kw_611 {U : State} {A : Array Value} (h : KW U) : (Cond.methodLink RL 105 yX6_spread).before A U = true := h.at 611 (by decide +kernel) rfl
theorem kw_612 {U : State} {A : Array Value} (h : KW U) : (Cond.instanceMethod yX6_spread).before A U = true := h.at 612 (by decide +kernel) rfl
theorem kw_613 {U : State} {A : Array Value} (h : KW U) : (Cond.selects RX6 yX6_spread yX6_spread).before A U = true := h.at 613 (by decide +kernel) rfl
theorem kw_614 {U : State} {A : Array Value} (h : KW U) : (Cond.code yX6_spread cX6_spread 4 (Option.some Jvm.ClassFile.FieldType.int)).before A U = true := h.at 614 (by decide +kernel) rfl
theorem kw_615 {U : State} {A : Array Value} (h : KW U) : (Cond.methodLink RX6 204 yX0_wrongBy).before A U = true := h.at 615 (by decide +kernel) rfl
theorem kw_616 {U : State} {A : Array Value} (h : KW U) : (Cond.instanceMethod yX0_wrongBy).before A U = true := h.at 616 (by decide +kernel) rfl
theorem kw_617 {U : State} {A : Array Value} (h : KW U) : (Cond.selects RX0 yX0_wrongBy yX0_wrongBy).before A U = true := h.at 617 (by decide +kernel) rfl
theorem kw_618 {U : State} {A : Array Value} (h : KW U) : (Cond.code yX0_wrongBy cX0_wrongBy 7 (Option.some Jvm.ClassFile.FieldType.int)).before A U = true := h.at 618 (by decide +kernel) rfl
theorem kw_619 {U : State} {A : Array Value} (h : KW U) : (Cond.methodLink RX0 52 yX0_wrongAmong).before A U = true := h.at 619 (by decide +kernel) rfl
theorem kw_621 {U : State} {A : Array Value} (h : KW U) : (Cond.instanceMethod yX0_wrongAmong).before A U = true := h.at 621 (by decide +kernel) rfl
theorem kw_622 {U : State} {A : Array Value} (h : KW U) : (Cond.code yX0_wrongAmong cX0_wrongAmong 6 (Option.some Jvm.ClassFile.FieldType.int)).before A U = true := h.at 622 (by decide +kernel) rfl
theorem kw_623 {U : State} {A : Array Value} (h : KW U) : (Cond.methodLink RX0 56 yX0_learntBy).before A U = true := h.at 623 (by decide +kernel) rfl
theorem kw_625 {U : State} {A : Array Value} (h : KW U) : (Cond.instanceMethod yX0_learntBy).before A U = true := h.at 625 (by decide +kernel) rfl
theorem kw_626 {U : State} {A : Array Value} (h : KW U) : (Cond.code yX0_learntBy cX0_learntBy 4 (Option.some Jvm.ClassFile.FieldType.int)).before A U = true := h.at 626 (by decide +kernel) rfl
theorem kw_627 {U : State} {A : Array Value} (h : KW U) : (Cond.methodLink RX0 60 yX5_neededBy).before A U = true := h.at 627 (by decide +kernel) rfl
theorem kw_628 {U : State} {A : Array Value} (h : KW U) : (Cond.methodLink RL 109 yX6_shows).before A U = true := h.at 628 (by decide +kernel) rfl
theorem kw_629 {U : State} {A : Array Value} (h : KW U) : (Cond.instanceMethod yX6_shows).before A U = true := h.at 629 (by decide +kernel) rfl
theorem kw_630 {U : State} {A : Array Value} (h : KW U) : (Cond.selects RX6 yX6_shows yX6_shows).before A U = true := h.at 630 (by decide +kernel) rfl
theorem kw_631 {U : State} {A : Array Value} (h : KW U) : (Cond.code yX6_shows cX6_shows 5 (Option.some Jvm.ClassFile.FieldType.int)).before A U = true := h.at 631 (by decide +kernel) rfl
theorem kw_632 {U : State} {A : Array Value} (h : KW U) : (Cond.methodLink RX6 207 yX5_shownWords).before A U = true := h.at 632 (by decide +kernel) rfl
theorem kw_633 {U : State} {A : Array Value} (h : KW U) : (Cond.instanceMethod yX5_shownWords).before A U = true := h.at 633 (by decide +kernel) rfl
theorem kw_634 {U : State} {A : Array Value} (h : KW U) : (Cond.selects RX5 yX5_shownWords yX5_shownWords).before A U = true := h.at 634 (by decide +kernel) rfl
theorem kw_635 {U : State} {A : Array Value} (h : KW U) : (Cond.code yX5_shownWords cX5_shownWords 3 (Option.some Jvm.ClassFile.FieldType.int)).before A U = true := h.at 635 (by decide +kernel) rfl
theorem kw_636 {U : State} {A : Array Value} (h : KW U) : (Cond.methodLink RX6 210 yX6_leastWord).before A U = true := h.at 636 (by decide +kernel) rfl
theorem kw_637 {U : State} {A : Array Value} (h : KW U) : (Cond.methodLink RL 113 yX6_carries).before A U = true := h.at 637 (by decide +kernel) rfl
theorem kw_638 {U : State} {A : Array Value} (h : KW U) : (Cond.instanceMethod yX6_carries).before A U = true := h.at 638 (by decide +kernel) rfl
theorem kw_639 {U : State} {A : Array Value} (h : KW U) : (Cond.selects RX6 yX6_carries yX6_carries).before A U = true := h.at 639 (by decide +kernel) rfl
theorem kw_640 {U : State} {A : Array Value} (h : KW U) : (Cond.code yX6_carries cX6_carries 3 (Option.some Jvm.ClassFile.FieldType.int)).before A U = true := h.at 640 (by decide +kernel) rfl
theorem kw_641 {U : State} {A : Array Value} (h : KW U) : (Cond.methodLink RL 117 yX6_lacks).before A U = true := h.at 641 (by decide +kernel) rfl
theorem kw_642 {U : State} {A : Array Value} (h : KW U) : (Cond.instanceMethod yX6_lacks).before A U = true := h.at 642 (by decide +kernel) rfl
theorem kw_643 {U : State} {A : Array Value} (h : KW U) : (Cond.selects RX6 yX6_lacks yX6_lacks).before A U = true := h.at 643 (by decide +kernel) rfl
theorem kw_644 {U : State} {A : Array Value} (h : KW U) : (Cond.code yX6_lacks cX6_lacks 3 (Option.some Jvm.ClassFile.FieldType.int)).before A U = true := h.at 644 (by decide +kernel) rfl
theorem kw_645 {U : State} {A : Array Value} (h : KW U) : (Cond.methodLink RL 121 yX6_image).before A U = true := h.at 645 (by decide +kernel) rfl
theorem kw_646 {U : State} {A : Array Value} (h : KW U) : (Cond.instanceMethod yX6_image).before A U = true := h.at 646 (by decide +kernel) rfl
theorem kw_647 {U : State} {A : Array Value} (h : KW U) : (Cond.selects RX6 yX6_image yX6_image).before A U = true := h.at 647 (by decide +kernel) rfl
theorem kw_648 {U : State} {A : Array Value} (h : KW U) : (Cond.code yX6_image cX6_image 1 (Option.some Jvm.ClassFile.FieldType.int)).before A U = true := h.at 648 (by decide +kernel) rfl
theorem kw_649 {U : State} {A : Array Value} (h : KW U) : (Cond.methodLink RX6 216 yX3_copyFrom).before A U = true := h.at 649 (by decide +kernel) rfl
theorem kw_650 {U : State} {A : Array Value} (h : KW U) : (Cond.instanceMethod yX3_copyFrom).before A U = true := h.at 650 (by decide +kernel) rfl
theorem kw_651 {U : State} {A : Array Value} (h : KW U) : (Cond.selects RX3 yX3_copyFrom yX3_copyFrom).before A U = true := h.at 651 (by decide +kernel) rfl
theorem kw_652 {U : State} {A : Array Value} (h : KW U) : (Cond.code yX3_copyFrom cX3_copyFrom 2 (Option.none : Option Jvm.ClassFile.FieldType)).before A U = true := h.at 652 (by decide +kernel) rfl
theorem kw_653 {U : State} {A : Array Value} (h : KW U) : (Cond.methodLink RX3 36 yX0_copyFrom).before A U = true := h.at 653 (by decide +kernel) rfl
theorem kw_654 {U : State} {A : Array Value} (h : KW U) : (Cond.methodLink RX3 40 yX1_copyFrom).before A U = true := h.at 654 (by decide +kernel) rfl
theorem kw_655 {U : State} {A : Array Value} (h : KW U) : (Cond.instanceMethod yX1_copyFrom).before A U = true := h.at 655 (by decide +kernel) rfl
theorem kw_656 {U : State} {A : Array Value} (h : KW U) : (Cond.selects RX1 yX1_copyFrom yX1_copyFrom).before A U = true := h.at 656 (by decide +kernel) rfl
theorem kw_657 {U : State} {A : Array Value} (h : KW U) : (Cond.code yX1_copyFrom cX1_copyFrom 3 (Option.none : Option Jvm.ClassFile.FieldType)).before A U = true := h.at 657 (by decide +kernel) rfl
theorem kw_658 {U : State} {A : Array Value} (h : KW U) : (Cond.methodLink RX1 48 yX5_copyFrom).before A U = true := h.at 658 (by decide +kernel) rfl
theorem kw_659 {U : State} {A : Array Value} (h : KW U) : (Cond.methodLink RX6 220 yX3_howManyTellings).before A U = true := h.at 659 (by decide +kernel) rfl
theorem kw_660 {U : State} {A : Array Value} (h : KW U) : (Cond.instanceMethod yX3_howManyTellings).before A U = true := h.at 660 (by decide +kernel) rfl
theorem kw_661 {U : State} {A : Array Value} (h : KW U) : (Cond.selects RX3 yX3_howManyTellings yX3_howManyTellings).before A U = true := h.at 661 (by decide +kernel) rfl
theorem kw_662 {U : State} {A : Array Value} (h : KW U) : (Cond.code yX3_howManyTellings cX3_howManyTellings 1 (Option.some Jvm.ClassFile.FieldType.int)).before A U = true := h.at 662 (by decide +kernel) rfl
theorem kw_663 {U : State} {A : Array Value} (h : KW U) : (Cond.methodLink RL 126 yX6_on).before A U = true := h.at 663 (by decide +kernel) rfl
theorem kw_664 {U : State} {A : Array Value} (h : KW U) : (Cond.instanceMethod yX6_on).before A U = true := h.at 664 (by decide +kernel) rfl
theorem kw_665 {U : State} {A : Array Value} (h : KW U) : (Cond.selects RX6 yX6_on yX6_on).before A U = true := h.at 665 (by decide +kernel) rfl
theorem kw_666 {U : State} {A : Array Value} (h : KW U) : (Cond.code yX6_on cX6_on 1 (Option.some Jvm.ClassFile.FieldType.int)).before A U = true := h.at 666 (by decide +kernel) rfl
theorem kw_667 {U : State} {A : Array Value} (h : KW U) : (Cond.methodLink RL 130 yX6_count).before A U = true := h.at 667 (by decide +kernel) rfl
theorem kw_668 {U : State} {A : Array Value} (h : KW U) : (Cond.instanceMethod yX6_count).before A U = true := h.at 668 (by decide +kernel) rfl
theorem kw_669 {U : State} {A : Array Value} (h : KW U) : (Cond.selects RX6 yX6_count yX6_count).before A U = true := h.at 669 (by decide +kernel) rfl
theorem kw_670 {U : State} {A : Array Value} (h : KW U) : (Cond.code yX6_count cX6_count 2 (Option.some Jvm.ClassFile.FieldType.int)).before A U = true := h.at 670 (by decide +kernel) rfl
theorem kw_671 {U : State} {A : Array Value} (h : KW U) : (Cond.classLink RL 10 RX7).before A U = true := h.at 671 (by decide +kernel) rfl
theorem kw_672 {U : State} {A : Array Value} (h : KW U) : (Cond.instantiable RX7 12).before A U = true := h.at 672 (by decide +kernel) rfl
theorem kw_673 {U : State} {A : Array Value} (h : KW U) : (Cond.methodLink RL 12 yX7_init).before A U = true := h.at 673 (by decide +kernel) rfl
theorem kw_674 {U : State} {A : Array Value} (h : KW U) : (Cond.instanceMethod yX7_init).before A U = true := h.at 674 (by decide +kernel) rfl
theorem kw_675 {U : State} {A : Array Value} (h : KW U) : (Cond.code yX7_init cX7_init 2 (Option.none : Option Jvm.ClassFile.FieldType)).before A U = true := h.at 675 (by decide +kernel) rfl
theorem kw_676 {U : State} {A : Array Value} (h : KW U) : (Cond.methodLink RX7 1 (⟨"java/lang/Object", "<init>", "()V"⟩ : MethodName)).before A U = true := h.at 676 (by decide +kernel) rfl
theorem kw_677 {U : State} {A : Array Value} (h : KW U) : (Cond.fieldLink RX7 7 RX7 "refusals" "[I").before A U = true := h.at 677 (by decide +kernel) rfl
theorem kw_678 {U : State} {A : Array Value} (h : KW U) : (Cond.fieldLink RX7 13 RX7 "s" "[I").before A U = true := h.at 678 (by decide +kernel) rfl
theorem kw_679 {U : State} {A : Array Value} (h : KW U) : (Cond.fieldLink RX7 16 RX7 "image" "[I").before A U = true := h.at 679 (by decide +kernel) rfl
theorem kw_680 {U : State} {A : Array Value} (h : KW U) : (Cond.fieldLink RX7 19 RX7 "saved" "[I").before A U = true := h.at 680 (by decide +kernel) rfl
theorem kw_681 {U : State} {A : Array Value} (h : KW U) : (Cond.fieldLink RX7 133 RX7 "isImage" "Z").before A U = true := h.at 681 (by decide +kernel) rfl
theorem kw_682 {U : State} {A : Array Value} (h : KW U) : (Cond.fieldLink RX7 22 RX7 "tape" "[I").before A U = true := h.at 682 (by decide +kernel) rfl
theorem kw_683 {U : State} {A : Array Value} (h : KW U) : (Cond.fieldLink RX7 25 RX7 "read" "[I").before A U = true := h.at 683 (by decide +kernel) rfl
theorem kw_684 {U : State} {A : Array Value} (h : KW U) : (Cond.fieldLink RX7 42 RX7 "taped" "I").before A U = true := h.at 684 (by decide +kernel) rfl
theorem kw_685 {U : State} {A : Array Value} (h : KW U) : (Cond.fieldLink RX7 48 RX7 "at" "I").before A U = true := h.at 685 (by decide +kernel) rfl
theorem kw_686 {U : State} {A : Array Value} (h : KW U) : (Cond.fieldLink RX7 28 RX7 "row" "[I").before A U = true := h.at 686 (by decide +kernel) rfl
theorem kw_687 {U : State} {A : Array Value} (h : KW U) : (Cond.fieldLink RX7 99 RX7 "rowed" "I").before A U = true := h.at 687 (by decide +kernel) rfl
theorem kw_688 {U : State} {A : Array Value} (h : KW U) : (Cond.fieldLink RX7 31 RX7 "soon" "[I").before A U = true := h.at 688 (by decide +kernel) rfl
theorem kw_714 {U : State} {A : Array Value} (h : KW U) : (Cond.methodLink RL 19 yX7_feed).before A U = true := h.at 714 (by decide +kernel) rfl
theorem kw_715 {U : State} {A : Array Value} (h : KW U) : (Cond.instanceMethod yX7_feed).before A U = true := h.at 715 (by decide +kernel) rfl
theorem kw_716 {U : State} {A : Array Value} (h : KW U) : (Cond.selects RX7 yX7_feed yX7_feed).before A U = true := h.at 716 (by decide +kernel) rfl
theorem kw_717 {U : State} {A : Array Value} (h : KW U) : (Cond.code yX7_feed cX7_feed 5 (Option.some Jvm.ClassFile.FieldType.int)).before A U = true := h.at 717 (by decide +kernel) rfl
theorem kw_718 {U : State} {A : Array Value} (h : KW U) : (Cond.methodLink RX7 38 yX7_refuse).before A U = true := h.at 718 (by decide +kernel) rfl
theorem kw_720 {U : State} {A : Array Value} (h : KW U) : (Cond.instanceMethod yX7_refuse).before A U = true := h.at 720 (by decide +kernel) rfl
theorem kw_721 {U : State} {A : Array Value} (h : KW U) : (Cond.code yX7_refuse cX7_refuse 2 (Option.some Jvm.ClassFile.FieldType.int)).before A U = true := h.at 721 (by decide +kernel) rfl
theorem kw_722 {U : State} {A : Array Value} (h : KW U) : (Cond.constantLong RX7 46 (255)).before A U = true := h.at 722 (by decide +kernel) rfl
theorem kw_723 {U : State} {A : Array Value} (h : KW U) : (Cond.methodLink RL 24 yX7_telling).before A U = true := h.at 723 (by decide +kernel) rfl
theorem kw_724 {U : State} {A : Array Value} (h : KW U) : (Cond.instanceMethod yX7_telling).before A U = true := h.at 724 (by decide +kernel) rfl
theorem kw_725 {U : State} {A : Array Value} (h : KW U) : (Cond.selects RX7 yX7_telling yX7_telling).before A U = true := h.at 725 (by decide +kernel) rfl
theorem kw_726 {U : State} {A : Array Value} (h : KW U) : (Cond.code yX7_telling cX7_telling 4 (Option.some Jvm.ClassFile.FieldType.int)).before A U = true := h.at 726 (by decide +kernel) rfl
theorem kw_727 {U : State} {A : Array Value} (h : KW U) : (Cond.methodLink RX7 69 yX7_isBook).before A U = true := h.at 727 (by decide +kernel) rfl
theorem kw_728 {U : State} {A : Array Value} (h : KW U) : (Cond.static yX7_isBook).before A U = true := h.at 728 (by decide +kernel) rfl
theorem kw_729 {U : State} {A : Array Value} (h : KW U) : (Cond.code yX7_isBook cX7_isBook 1 (Option.some Jvm.ClassFile.FieldType.boolean)).before A U = true := h.at 729 (by decide +kernel) rfl
theorem kw_730 {U : State} {A : Array Value} (h : KW U) : (Cond.methodLink RX7 34 yX7_isIn).before A U = true := h.at 730 (by decide +kernel) rfl
theorem kw_731 {U : State} {A : Array Value} (h : KW U) : (Cond.static yX7_isIn).before A U = true := h.at 731 (by decide +kernel) rfl
theorem kw_732 {U : State} {A : Array Value} (h : KW U) : (Cond.code yX7_isIn cX7_isIn 2 (Option.some Jvm.ClassFile.FieldType.boolean)).before A U = true := h.at 732 (by decide +kernel) rfl
theorem kw_733 {U : State} {A : Array Value} (h : KW U) : (Cond.methodLink RX7 73 yX7_fault).before A U = true := h.at 733 (by decide +kernel) rfl
theorem kw_735 {U : State} {A : Array Value} (h : KW U) : (Cond.instanceMethod yX7_fault).before A U = true := h.at 735 (by decide +kernel) rfl
theorem kw_736 {U : State} {A : Array Value} (h : KW U) : (Cond.code yX7_fault cX7_fault 2 (Option.some Jvm.ClassFile.FieldType.int)).before A U = true := h.at 736 (by decide +kernel) rfl
theorem kw_737 {U : State} {A : Array Value} (h : KW U) : (Cond.methodLink RX7 55 yX7_reads).before A U = true := h.at 737 (by decide +kernel) rfl
theorem kw_739 {U : State} {A : Array Value} (h : KW U) : (Cond.instanceMethod yX7_reads).before A U = true := h.at 739 (by decide +kernel) rfl
theorem kw_740 {U : State} {A : Array Value} (h : KW U) : (Cond.code yX7_reads cX7_reads 3 (Option.some Jvm.ClassFile.FieldType.boolean)).before A U = true := h.at 740 (by decide +kernel) rfl
theorem kw_741 {U : State} {A : Array Value} (h : KW U) : (Cond.methodLink RX7 59 yX7_isWord).before A U = true := h.at 741 (by decide +kernel) rfl
theorem kw_743 {U : State} {A : Array Value} (h : KW U) : (Cond.instanceMethod yX7_isWord).before A U = true := h.at 743 (by decide +kernel) rfl
theorem kw_744 {U : State} {A : Array Value} (h : KW U) : (Cond.code yX7_isWord cX7_isWord 1 (Option.some Jvm.ClassFile.FieldType.boolean)).before A U = true := h.at 744 (by decide +kernel) rfl
theorem kw_745 {U : State} {A : Array Value} (h : KW U) : (Cond.methodLink RX7 51 yX7_sign).before A U = true := h.at 745 (by decide +kernel) rfl
theorem kw_747 {U : State} {A : Array Value} (h : KW U) : (Cond.instanceMethod yX7_sign).before A U = true := h.at 747 (by decide +kernel) rfl
theorem kw_748 {U : State} {A : Array Value} (h : KW U) : (Cond.code yX7_sign cX7_sign 1 (Option.some Jvm.ClassFile.FieldType.int)).before A U = true := h.at 748 (by decide +kernel) rfl
theorem kw_749 {U : State} {A : Array Value} (h : KW U) : (Cond.methodLink RX7 62 yX7_kindOf).before A U = true := h.at 749 (by decide +kernel) rfl
theorem kw_750 {U : State} {A : Array Value} (h : KW U) : (Cond.static yX7_kindOf).before A U = true := h.at 750 (by decide +kernel) rfl
theorem kw_751 {U : State} {A : Array Value} (h : KW U) : (Cond.code yX7_kindOf cX7_kindOf 1 (Option.some Jvm.ClassFile.FieldType.int)).before A U = true := h.at 751 (by decide +kernel) rfl
theorem kw_752 {U : State} {A : Array Value} (h : KW U) : (Cond.methodLink RX7 76 yX7_tellingsOf).before A U = true := h.at 752 (by decide +kernel) rfl
theorem kw_754 {U : State} {A : Array Value} (h : KW U) : (Cond.instanceMethod yX7_tellingsOf).before A U = true := h.at 754 (by decide +kernel) rfl
theorem kw_755 {U : State} {A : Array Value} (h : KW U) : (Cond.code yX7_tellingsOf cX7_tellingsOf 5 (Option.some Jvm.ClassFile.FieldType.int)).before A U = true := h.at 755 (by decide +kernel) rfl
theorem kw_756 {U : State} {A : Array Value} (h : KW U) : (Cond.methodLink RX7 65 yX7_get).before A U = true := h.at 756 (by decide +kernel) rfl
theorem kw_758 {U : State} {A : Array Value} (h : KW U) : (Cond.instanceMethod yX7_get).before A U = true := h.at 758 (by decide +kernel) rfl
theorem kw_759 {U : State} {A : Array Value} (h : KW U) : (Cond.code yX7_get cX7_get 4 (Option.some Jvm.ClassFile.FieldType.int)).before A U = true := h.at 759 (by decide +kernel) rfl
theorem kw_760 {U : State} {A : Array Value} (h : KW U) : (Cond.methodLink RL 29 yX7_tellingOf).before A U = true := h.at 760 (by decide +kernel) rfl
theorem kw_761 {U : State} {A : Array Value} (h : KW U) : (Cond.instanceMethod yX7_tellingOf).before A U = true := h.at 761 (by decide +kernel) rfl
theorem kw_762 {U : State} {A : Array Value} (h : KW U) : (Cond.selects RX7 yX7_tellingOf yX7_tellingOf).before A U = true := h.at 762 (by decide +kernel) rfl
theorem kw_763 {U : State} {A : Array Value} (h : KW U) : (Cond.code yX7_tellingOf cX7_tellingOf 4 (Option.some Jvm.ClassFile.FieldType.int)).before A U = true := h.at 763 (by decide +kernel) rfl
theorem kw_764 {U : State} {A : Array Value} (h : KW U) : (Cond.methodLink RX7 80 yX7_isTelling).before A U = true := h.at 764 (by decide +kernel) rfl
theorem kw_766 {U : State} {A : Array Value} (h : KW U) : (Cond.instanceMethod yX7_isTelling).before A U = true := h.at 766 (by decide +kernel) rfl
theorem kw_767 {U : State} {A : Array Value} (h : KW U) : (Cond.code yX7_isTelling cX7_isTelling 3 (Option.some Jvm.ClassFile.FieldType.boolean)).before A U = true := h.at 767 (by decide +kernel) rfl
theorem kw_768 {U : State} {A : Array Value} (h : KW U) : (Cond.methodLink RL 34 yX7_word).before A U = true := h.at 768 (by decide +kernel) rfl
theorem kw_769 {U : State} {A : Array Value} (h : KW U) : (Cond.instanceMethod yX7_word).before A U = true := h.at 769 (by decide +kernel) rfl
theorem kw_770 {U : State} {A : Array Value} (h : KW U) : (Cond.selects RX7 yX7_word yX7_word).before A U = true := h.at 770 (by decide +kernel) rfl
theorem kw_771 {U : State} {A : Array Value} (h : KW U) : (Cond.code yX7_word cX7_word 8 (Option.some Jvm.ClassFile.FieldType.int)).before A U = true := h.at 771 (by decide +kernel) rfl
theorem kw_772 {U : State} {A : Array Value} (h : KW U) : (Cond.methodLink RX7 83 yX7_within).before A U = true := h.at 772 (by decide +kernel) rfl
theorem kw_773 {U : State} {A : Array Value} (h : KW U) : (Cond.static yX7_within).before A U = true := h.at 773 (by decide +kernel) rfl
theorem kw_774 {U : State} {A : Array Value} (h : KW U) : (Cond.code yX7_within cX7_within 3 (Option.some Jvm.ClassFile.FieldType.int)).before A U = true := h.at 774 (by decide +kernel) rfl
theorem kw_775 {U : State} {A : Array Value} (h : KW U) : (Cond.methodLink RL 39 yX7_all).before A U = true := h.at 775 (by decide +kernel) rfl
theorem kw_776 {U : State} {A : Array Value} (h : KW U) : (Cond.instanceMethod yX7_all).before A U = true := h.at 776 (by decide +kernel) rfl
theorem kw_777 {U : State} {A : Array Value} (h : KW U) : (Cond.selects RX7 yX7_all yX7_all).before A U = true := h.at 777 (by decide +kernel) rfl
theorem kw_778 {U : State} {A : Array Value} (h : KW U) : (Cond.code yX7_all cX7_all 6 (Option.some Jvm.ClassFile.FieldType.int)).before A U = true := h.at 778 (by decide +kernel) rfl
theorem kw_779 {U : State} {A : Array Value} (h : KW U) : (Cond.methodLink RL 43 yX7_depth).before A U = true := h.at 779 (by decide +kernel) rfl
theorem kw_780 {U : State} {A : Array Value} (h : KW U) : (Cond.instanceMethod yX7_depth).before A U = true := h.at 780 (by decide +kernel) rfl
theorem kw_781 {U : State} {A : Array Value} (h : KW U) : (Cond.selects RX7 yX7_depth yX7_depth).before A U = true := h.at 781 (by decide +kernel) rfl
theorem kw_782 {U : State} {A : Array Value} (h : KW U) : (Cond.code yX7_depth cX7_depth 6 (Option.some Jvm.ClassFile.FieldType.int)).before A U = true := h.at 782 (by decide +kernel) rfl
theorem kw_783 {U : State} {A : Array Value} (h : KW U) : (Cond.methodLink RX7 93 yX7_next).before A U = true := h.at 783 (by decide +kernel) rfl
theorem kw_785 {U : State} {A : Array Value} (h : KW U) : (Cond.instanceMethod yX7_next).before A U = true := h.at 785 (by decide +kernel) rfl
theorem kw_786 {U : State} {A : Array Value} (h : KW U) : (Cond.code yX7_next cX7_next 6 (Option.some Jvm.ClassFile.FieldType.int)).before A U = true := h.at 786 (by decide +kernel) rfl
theorem kw_787 {U : State} {A : Array Value} (h : KW U) : (Cond.methodLink RX7 89 yX7_teaches).before A U = true := h.at 787 (by decide +kernel) rfl
theorem kw_789 {U : State} {A : Array Value} (h : KW U) : (Cond.instanceMethod yX7_teaches).before A U = true := h.at 789 (by decide +kernel) rfl
theorem kw_790 {U : State} {A : Array Value} (h : KW U) : (Cond.code yX7_teaches cX7_teaches 6 (Option.some Jvm.ClassFile.FieldType.boolean)).before A U = true := h.at 790 (by decide +kernel) rfl
theorem kw_791 {U : State} {A : Array Value} (h : KW U) : (Cond.methodLink RX7 86 yX7_bits).before A U = true := h.at 791 (by decide +kernel) rfl
theorem kw_792 {U : State} {A : Array Value} (h : KW U) : (Cond.static yX7_bits).before A U = true := h.at 792 (by decide +kernel) rfl
theorem kw_793 {U : State} {A : Array Value} (h : KW U) : (Cond.code yX7_bits cX7_bits 3 (Option.some Jvm.ClassFile.FieldType.int)).before A U = true := h.at 793 (by decide +kernel) rfl
theorem kw_794 {U : State} {A : Array Value} (h : KW U) : (Cond.methodLink RL 48 yX7_learnt).before A U = true := h.at 794 (by decide +kernel) rfl
theorem kw_795 {U : State} {A : Array Value} (h : KW U) : (Cond.instanceMethod yX7_learnt).before A U = true := h.at 795 (by decide +kernel) rfl
theorem kw_796 {U : State} {A : Array Value} (h : KW U) : (Cond.selects RX7 yX7_learnt yX7_learnt).before A U = true := h.at 796 (by decide +kernel) rfl
theorem kw_797 {U : State} {A : Array Value} (h : KW U) : (Cond.code yX7_learnt cX7_learnt 3 (Option.some Jvm.ClassFile.FieldType.int)).before A U = true := h.at 797 (by decide +kernel) rfl
theorem kw_798 {U : State} {A : Array Value} (h : KW U) : (Cond.methodLink RX7 96 yX7_learntBy).before A U = true := h.at 798 (by decide +kernel) rfl
theorem kw_800 {U : State} {A : Array Value} (h : KW U) : (Cond.instanceMethod yX7_learntBy).before A U = true := h.at 800 (by decide +kernel) rfl
theorem kw_801 {U : State} {A : Array Value} (h : KW U) : (Cond.code yX7_learntBy cX7_learntBy 5 (Option.some Jvm.ClassFile.FieldType.int)).before A U = true := h.at 801 (by decide +kernel) rfl
theorem kw_802 {U : State} {A : Array Value} (h : KW U) : (Cond.methodLink RL 52 yX7_put).before A U = true := h.at 802 (by decide +kernel) rfl
theorem kw_803 {U : State} {A : Array Value} (h : KW U) : (Cond.instanceMethod yX7_put).before A U = true := h.at 803 (by decide +kernel) rfl
theorem kw_804 {U : State} {A : Array Value} (h : KW U) : (Cond.selects RX7 yX7_put yX7_put).before A U = true := h.at 804 (by decide +kernel) rfl
theorem kw_805 {U : State} {A : Array Value} (h : KW U) : (Cond.code yX7_put cX7_put 3 (Option.some Jvm.ClassFile.FieldType.int)).before A U = true := h.at 805 (by decide +kernel) rfl
theorem kw_806 {U : State} {A : Array Value} (h : KW U) : (Cond.methodLink RL 56 yX7_judge).before A U = true := h.at 806 (by decide +kernel) rfl
theorem kw_807 {U : State} {A : Array Value} (h : KW U) : (Cond.instanceMethod yX7_judge).before A U = true := h.at 807 (by decide +kernel) rfl
theorem kw_808 {U : State} {A : Array Value} (h : KW U) : (Cond.selects RX7 yX7_judge yX7_judge).before A U = true := h.at 808 (by decide +kernel) rfl
theorem kw_809 {U : State} {A : Array Value} (h : KW U) : (Cond.code yX7_judge cX7_judge 7 (Option.some Jvm.ClassFile.FieldType.int)).before A U = true := h.at 809 (by decide +kernel) rfl
theorem kw_810 {U : State} {A : Array Value} (h : KW U) : (Cond.methodLink RL 60 yX7_needed).before A U = true := h.at 810 (by decide +kernel) rfl
theorem kw_811 {U : State} {A : Array Value} (h : KW U) : (Cond.instanceMethod yX7_needed).before A U = true := h.at 811 (by decide +kernel) rfl
theorem kw_812 {U : State} {A : Array Value} (h : KW U) : (Cond.selects RX7 yX7_needed yX7_needed).before A U = true := h.at 812 (by decide +kernel) rfl
theorem kw_813 {U : State} {A : Array Value} (h : KW U) : (Cond.code yX7_needed cX7_needed 3 (Option.some Jvm.ClassFile.FieldType.int)).before A U = true := h.at 813 (by decide +kernel) rfl
theorem kw_814 {U : State} {A : Array Value} (h : KW U) : (Cond.methodLink RX7 102 yX7_neededBy).before A U = true := h.at 814 (by decide +kernel) rfl
theorem kw_816 {U : State} {A : Array Value} (h : KW U) : (Cond.instanceMethod yX7_neededBy).before A U = true := h.at 816 (by decide +kernel) rfl
theorem kw_817 {U : State} {A : Array Value} (h : KW U) : (Cond.code yX7_neededBy cX7_neededBy 5 (Option.some Jvm.ClassFile.FieldType.int)).before A U = true := h.at 817 (by decide +kernel) rfl
theorem kw_818 {U : State} {A : Array Value} (h : KW U) : (Cond.methodLink RL 64 yX7_idle).before A U = true := h.at 818 (by decide +kernel) rfl
theorem kw_819 {U : State} {A : Array Value} (h : KW U) : (Cond.instanceMethod yX7_idle).before A U = true := h.at 819 (by decide +kernel) rfl
theorem kw_820 {U : State} {A : Array Value} (h : KW U) : (Cond.selects RX7 yX7_idle yX7_idle).before A U = true := h.at 820 (by decide +kernel) rfl
theorem kw_821 {U : State} {A : Array Value} (h : KW U) : (Cond.code yX7_idle cX7_idle 4 (Option.some Jvm.ClassFile.FieldType.int)).before A U = true := h.at 821 (by decide +kernel) rfl
theorem kw_822 {U : State} {A : Array Value} (h : KW U) : (Cond.methodLink RL 68 yX7_leads).before A U = true := h.at 822 (by decide +kernel) rfl
theorem kw_823 {U : State} {A : Array Value} (h : KW U) : (Cond.instanceMethod yX7_leads).before A U = true := h.at 823 (by decide +kernel) rfl
theorem kw_824 {U : State} {A : Array Value} (h : KW U) : (Cond.selects RX7 yX7_leads yX7_leads).before A U = true := h.at 824 (by decide +kernel) rfl
theorem kw_825 {U : State} {A : Array Value} (h : KW U) : (Cond.code yX7_leads cX7_leads 3 (Option.some Jvm.ClassFile.FieldType.int)).before A U = true := h.at 825 (by decide +kernel) rfl
theorem kw_826 {U : State} {A : Array Value} (h : KW U) : (Cond.methodLink RX7 105 yX7_leadsBy).before A U = true := h.at 826 (by decide +kernel) rfl
theorem kw_828 {U : State} {A : Array Value} (h : KW U) : (Cond.instanceMethod yX7_leadsBy).before A U = true := h.at 828 (by decide +kernel) rfl
theorem kw_829 {U : State} {A : Array Value} (h : KW U) : (Cond.code yX7_leadsBy cX7_leadsBy 6 (Option.some Jvm.ClassFile.FieldType.int)).before A U = true := h.at 829 (by decide +kernel) rfl
theorem kw_830 {U : State} {A : Array Value} (h : KW U) : (Cond.methodLink RL 72 yX7_knot).before A U = true := h.at 830 (by decide +kernel) rfl
theorem kw_831 {U : State} {A : Array Value} (h : KW U) : (Cond.instanceMethod yX7_knot).before A U = true := h.at 831 (by decide +kernel) rfl
theorem kw_832 {U : State} {A : Array Value} (h : KW U) : (Cond.selects RX7 yX7_knot yX7_knot).before A U = true := h.at 832 (by decide +kernel) rfl
theorem kw_833 {U : State} {A : Array Value} (h : KW U) : (Cond.code yX7_knot cX7_knot 3 (Option.some Jvm.ClassFile.FieldType.int)).before A U = true := h.at 833 (by decide +kernel) rfl
theorem kw_834 {U : State} {A : Array Value} (h : KW U) : (Cond.methodLink RX7 108 yX7_knotBy).before A U = true := h.at 834 (by decide +kernel) rfl
theorem kw_836 {U : State} {A : Array Value} (h : KW U) : (Cond.instanceMethod yX7_knotBy).before A U = true := h.at 836 (by decide +kernel) rfl
theorem kw_837 {U : State} {A : Array Value} (h : KW U) : (Cond.code yX7_knotBy cX7_knotBy 6 (Option.some Jvm.ClassFile.FieldType.int)).before A U = true := h.at 837 (by decide +kernel) rfl
theorem kw_838 {U : State} {A : Array Value} (h : KW U) : (Cond.methodLink RL 76 yX7_knots).before A U = true := h.at 838 (by decide +kernel) rfl
theorem kw_839 {U : State} {A : Array Value} (h : KW U) : (Cond.instanceMethod yX7_knots).before A U = true := h.at 839 (by decide +kernel) rfl
theorem kw_840 {U : State} {A : Array Value} (h : KW U) : (Cond.selects RX7 yX7_knots yX7_knots).before A U = true := h.at 840 (by decide +kernel) rfl
theorem kw_841 {U : State} {A : Array Value} (h : KW U) : (Cond.code yX7_knots cX7_knots 5 (Option.some Jvm.ClassFile.FieldType.int)).before A U = true := h.at 841 (by decide +kernel) rfl
theorem kw_842 {U : State} {A : Array Value} (h : KW U) : (Cond.methodLink RL 80 yX7_fewest).before A U = true := h.at 842 (by decide +kernel) rfl
theorem kw_843 {U : State} {A : Array Value} (h : KW U) : (Cond.instanceMethod yX7_fewest).before A U = true := h.at 843 (by decide +kernel) rfl
theorem kw_844 {U : State} {A : Array Value} (h : KW U) : (Cond.selects RX7 yX7_fewest yX7_fewest).before A U = true := h.at 844 (by decide +kernel) rfl
theorem kw_845 {U : State} {A : Array Value} (h : KW U) : (Cond.code yX7_fewest cX7_fewest 2 (Option.some Jvm.ClassFile.FieldType.int)).before A U = true := h.at 845 (by decide +kernel) rfl
theorem kw_846 {U : State} {A : Array Value} (h : KW U) : (Cond.methodLink RX7 114 yX7_fewestOf).before A U = true := h.at 846 (by decide +kernel) rfl
theorem kw_848 {U : State} {A : Array Value} (h : KW U) : (Cond.instanceMethod yX7_fewestOf).before A U = true := h.at 848 (by decide +kernel) rfl
theorem kw_849 {U : State} {A : Array Value} (h : KW U) : (Cond.code yX7_fewestOf cX7_fewestOf 4 (Option.some Jvm.ClassFile.FieldType.int)).before A U = true := h.at 849 (by decide +kernel) rfl
theorem kw_850 {U : State} {A : Array Value} (h : KW U) : (Cond.methodLink RX7 111 yX7_isFoundation).before A U = true := h.at 850 (by decide +kernel) rfl
theorem kw_852 {U : State} {A : Array Value} (h : KW U) : (Cond.instanceMethod yX7_isFoundation).before A U = true := h.at 852 (by decide +kernel) rfl
theorem kw_853 {U : State} {A : Array Value} (h : KW U) : (Cond.code yX7_isFoundation cX7_isFoundation 3 (Option.some Jvm.ClassFile.FieldType.boolean)).before A U = true := h.at 853 (by decide +kernel) rfl
theorem kw_854 {U : State} {A : Array Value} (h : KW U) : (Cond.methodLink RL 84 yX7_lightest).before A U = true := h.at 854 (by decide +kernel) rfl
theorem kw_855 {U : State} {A : Array Value} (h : KW U) : (Cond.instanceMethod yX7_lightest).before A U = true := h.at 855 (by decide +kernel) rfl
theorem kw_856 {U : State} {A : Array Value} (h : KW U) : (Cond.selects RX7 yX7_lightest yX7_lightest).before A U = true := h.at 856 (by decide +kernel) rfl
theorem kw_857 {U : State} {A : Array Value} (h : KW U) : (Cond.code yX7_lightest cX7_lightest 6 (Option.some Jvm.ClassFile.FieldType.int)).before A U = true := h.at 857 (by decide +kernel) rfl
theorem kw_858 {U : State} {A : Array Value} (h : KW U) : (Cond.methodLink RX7 117 yX7_hardOf).before A U = true := h.at 858 (by decide +kernel) rfl
theorem kw_860 {U : State} {A : Array Value} (h : KW U) : (Cond.instanceMethod yX7_hardOf).before A U = true := h.at 860 (by decide +kernel) rfl
theorem kw_861 {U : State} {A : Array Value} (h : KW U) : (Cond.code yX7_hardOf cX7_hardOf 5 (Option.some Jvm.ClassFile.FieldType.int)).before A U = true := h.at 861 (by decide +kernel) rfl
theorem kw_862 {U : State} {A : Array Value} (h : KW U) : (Cond.methodLink RL 88 yX7_sets).before A U = true := h.at 862 (by decide +kernel) rfl
theorem kw_863 {U : State} {A : Array Value} (h : KW U) : (Cond.instanceMethod yX7_sets).before A U = true := h.at 863 (by decide +kernel) rfl
theorem kw_864 {U : State} {A : Array Value} (h : KW U) : (Cond.selects RX7 yX7_sets yX7_sets).before A U = true := h.at 864 (by decide +kernel) rfl
theorem kw_865 {U : State} {A : Array Value} (h : KW U) : (Cond.code yX7_sets cX7_sets 8 (Option.some Jvm.ClassFile.FieldType.int)).before A U = true := h.at 865 (by decide +kernel) rfl
theorem kw_866 {U : State} {A : Array Value} (h : KW U) : (Cond.methodLink RL 92 yX7_soonest).before A U = true := h.at 866 (by decide +kernel) rfl
theorem kw_867 {U : State} {A : Array Value} (h : KW U) : (Cond.instanceMethod yX7_soonest).before A U = true := h.at 867 (by decide +kernel) rfl
theorem kw_868 {U : State} {A : Array Value} (h : KW U) : (Cond.selects RX7 yX7_soonest yX7_soonest).before A U = true := h.at 868 (by decide +kernel) rfl
theorem kw_869 {U : State} {A : Array Value} (h : KW U) : (Cond.code yX7_soonest cX7_soonest 3 (Option.some Jvm.ClassFile.FieldType.int)).before A U = true := h.at 869 (by decide +kernel) rfl
theorem kw_870 {U : State} {A : Array Value} (h : KW U) : (Cond.methodLink RX7 120 yX7_findSoonest).before A U = true := h.at 870 (by decide +kernel) rfl
theorem kw_872 {U : State} {A : Array Value} (h : KW U) : (Cond.instanceMethod yX7_findSoonest).before A U = true := h.at 872 (by decide +kernel) rfl
theorem kw_873 {U : State} {A : Array Value} (h : KW U) : (Cond.code yX7_findSoonest cX7_findSoonest 7 (Option.some Jvm.ClassFile.FieldType.int)).before A U = true := h.at 873 (by decide +kernel) rfl
theorem kw_874 {U : State} {A : Array Value} (h : KW U) : (Cond.methodLink RL 96 yX7_waits).before A U = true := h.at 874 (by decide +kernel) rfl
theorem kw_875 {U : State} {A : Array Value} (h : KW U) : (Cond.instanceMethod yX7_waits).before A U = true := h.at 875 (by decide +kernel) rfl
theorem kw_876 {U : State} {A : Array Value} (h : KW U) : (Cond.selects RX7 yX7_waits yX7_waits).before A U = true := h.at 876 (by decide +kernel) rfl
theorem kw_877 {U : State} {A : Array Value} (h : KW U) : (Cond.code yX7_waits cX7_waits 5 (Option.some Jvm.ClassFile.FieldType.int)).before A U = true := h.at 877 (by decide +kernel) rfl
theorem kw_878 {U : State} {A : Array Value} (h : KW U) : (Cond.methodLink RL 100 yX7_change).before A U = true := h.at 878 (by decide +kernel) rfl
theorem kw_879 {U : State} {A : Array Value} (h : KW U) : (Cond.instanceMethod yX7_change).before A U = true := h.at 879 (by decide +kernel) rfl
theorem kw_880 {U : State} {A : Array Value} (h : KW U) : (Cond.selects RX7 yX7_change yX7_change).before A U = true := h.at 880 (by decide +kernel) rfl
theorem kw_881 {U : State} {A : Array Value} (h : KW U) : (Cond.code yX7_change cX7_change 6 (Option.some Jvm.ClassFile.FieldType.int)).before A U = true := h.at 881 (by decide +kernel) rfl
theorem kw_882 {U : State} {A : Array Value} (h : KW U) : (Cond.methodLink RL 104 yX7_mend).before A U = true := h.at 882 (by decide +kernel) rfl
theorem kw_883 {U : State} {A : Array Value} (h : KW U) : (Cond.instanceMethod yX7_mend).before A U = true := h.at 883 (by decide +kernel) rfl
theorem kw_884 {U : State} {A : Array Value} (h : KW U) : (Cond.selects RX7 yX7_mend yX7_mend).before A U = true := h.at 884 (by decide +kernel) rfl
theorem kw_885 {U : State} {A : Array Value} (h : KW U) : (Cond.code yX7_mend cX7_mend 9 (Option.some Jvm.ClassFile.FieldType.int)).before A U = true := h.at 885 (by decide +kernel) rfl
theorem kw_886 {U : State} {A : Array Value} (h : KW U) : (Cond.methodLink RL 108 yX7_spread).before A U = true := h.at 886 (by decide +kernel) rfl
theorem kw_887 {U : State} {A : Array Value} (h : KW U) : (Cond.instanceMethod yX7_spread).before A U = true := h.at 887 (by decide +kernel) rfl
theorem kw_888 {U : State} {A : Array Value} (h : KW U) : (Cond.selects RX7 yX7_spread yX7_spread).before A U = true := h.at 888 (by decide +kernel) rfl
theorem kw_889 {U : State} {A : Array Value} (h : KW U) : (Cond.code yX7_spread cX7_spread 5 (Option.some Jvm.ClassFile.FieldType.int)).before A U = true := h.at 889 (by decide +kernel) rfl
theorem kw_890 {U : State} {A : Array Value} (h : KW U) : (Cond.methodLink RX7 127 yX7_wrongSpread).before A U = true := h.at 890 (by decide +kernel) rfl
theorem kw_892 {U : State} {A : Array Value} (h : KW U) : (Cond.instanceMethod yX7_wrongSpread).before A U = true := h.at 892 (by decide +kernel) rfl
theorem kw_893 {U : State} {A : Array Value} (h : KW U) : (Cond.code yX7_wrongSpread cX7_wrongSpread 4 (Option.some Jvm.ClassFile.FieldType.int)).before A U = true := h.at 893 (by decide +kernel) rfl
theorem kw_894 {U : State} {A : Array Value} (h : KW U) : (Cond.methodLink RX7 130 yX7_spreads).before A U = true := h.at 894 (by decide +kernel) rfl
theorem kw_896 {U : State} {A : Array Value} (h : KW U) : (Cond.instanceMethod yX7_spreads).before A U = true := h.at 896 (by decide +kernel) rfl
theorem kw_897 {U : State} {A : Array Value} (h : KW U) : (Cond.code yX7_spreads cX7_spreads 9 (Option.some Jvm.ClassFile.FieldType.int)).before A U = true := h.at 897 (by decide +kernel) rfl
theorem kw_898 {U : State} {A : Array Value} (h : KW U) : (Cond.methodLink RX7 123 yX7_isWrong).before A U = true := h.at 898 (by decide +kernel) rfl
theorem kw_900 {U : State} {A : Array Value} (h : KW U) : (Cond.instanceMethod yX7_isWrong).before A U = true := h.at 900 (by decide +kernel) rfl
theorem kw_901 {U : State} {A : Array Value} (h : KW U) : (Cond.code yX7_isWrong cX7_isWrong 7 (Option.some Jvm.ClassFile.FieldType.boolean)).before A U = true := h.at 901 (by decide +kernel) rfl
theorem kw_902 {U : State} {A : Array Value} (h : KW U) : (Cond.methodLink RL 112 yX7_shows).before A U = true := h.at 902 (by decide +kernel) rfl
theorem kw_903 {U : State} {A : Array Value} (h : KW U) : (Cond.instanceMethod yX7_shows).before A U = true := h.at 903 (by decide +kernel) rfl
theorem kw_904 {U : State} {A : Array Value} (h : KW U) : (Cond.selects RX7 yX7_shows yX7_shows).before A U = true := h.at 904 (by decide +kernel) rfl
theorem kw_905 {U : State} {A : Array Value} (h : KW U) : (Cond.code yX7_shows cX7_shows 8 (Option.some Jvm.ClassFile.FieldType.int)).before A U = true := h.at 905 (by decide +kernel) rfl
theorem kw_906 {U : State} {A : Array Value} (h : KW U) : (Cond.methodLink RL 116 yX7_carries).before A U = true := h.at 906 (by decide +kernel) rfl
theorem kw_907 {U : State} {A : Array Value} (h : KW U) : (Cond.instanceMethod yX7_carries).before A U = true := h.at 907 (by decide +kernel) rfl
theorem kw_908 {U : State} {A : Array Value} (h : KW U) : (Cond.selects RX7 yX7_carries yX7_carries).before A U = true := h.at 908 (by decide +kernel) rfl
theorem kw_909 {U : State} {A : Array Value} (h : KW U) : (Cond.code yX7_carries cX7_carries 2 (Option.some Jvm.ClassFile.FieldType.int)).before A U = true := h.at 909 (by decide +kernel) rfl
theorem kw_910 {U : State} {A : Array Value} (h : KW U) : (Cond.methodLink RL 120 yX7_lacks).before A U = true := h.at 910 (by decide +kernel) rfl
theorem kw_911 {U : State} {A : Array Value} (h : KW U) : (Cond.instanceMethod yX7_lacks).before A U = true := h.at 911 (by decide +kernel) rfl
theorem kw_912 {U : State} {A : Array Value} (h : KW U) : (Cond.selects RX7 yX7_lacks yX7_lacks).before A U = true := h.at 912 (by decide +kernel) rfl
theorem kw_913 {U : State} {A : Array Value} (h : KW U) : (Cond.code yX7_lacks cX7_lacks 5 (Option.some Jvm.ClassFile.FieldType.int)).before A U = true := h.at 913 (by decide +kernel) rfl
theorem kw_914 {U : State} {A : Array Value} (h : KW U) : (Cond.methodLink RL 125 yX7_image).before A U = true := h.at 914 (by decide +kernel) rfl
theorem kw_915 {U : State} {A : Array Value} (h : KW U) : (Cond.instanceMethod yX7_image).before A U = true := h.at 915 (by decide +kernel) rfl
theorem kw_916 {U : State} {A : Array Value} (h : KW U) : (Cond.selects RX7 yX7_image yX7_image).before A U = true := h.at 916 (by decide +kernel) rfl
theorem kw_917 {U : State} {A : Array Value} (h : KW U) : (Cond.code yX7_image cX7_image 2 (Option.some Jvm.ClassFile.FieldType.int)).before A U = true := h.at 917 (by decide +kernel) rfl
theorem kw_918 {U : State} {A : Array Value} (h : KW U) : (Cond.methodLink RL 129 yX7_on).before A U = true := h.at 918 (by decide +kernel) rfl
theorem kw_919 {U : State} {A : Array Value} (h : KW U) : (Cond.instanceMethod yX7_on).before A U = true := h.at 919 (by decide +kernel) rfl
theorem kw_920 {U : State} {A : Array Value} (h : KW U) : (Cond.selects RX7 yX7_on yX7_on).before A U = true := h.at 920 (by decide +kernel) rfl
theorem kw_921 {U : State} {A : Array Value} (h : KW U) : (Cond.code yX7_on cX7_on 2 (Option.some Jvm.ClassFile.FieldType.int)).before A U = true := h.at 921 (by decide +kernel) rfl
theorem kw_922 {U : State} {A : Array Value} (h : KW U) : (Cond.methodLink RL 133 yX7_count).before A U = true := h.at 922 (by decide +kernel) rfl
theorem kw_923 {U : State} {A : Array Value} (h : KW U) : (Cond.instanceMethod yX7_count).before A U = true := h.at 923 (by decide +kernel) rfl
theorem kw_924 {U : State} {A : Array Value} (h : KW U) : (Cond.selects RX7 yX7_count yX7_count).before A U = true := h.at 924 (by decide +kernel) rfl
theorem kw_925 {U : State} {A : Array Value} (h : KW U) : (Cond.code yX7_count cX7_count 2 (Option.some Jvm.ClassFile.FieldType.int)).before A U = true := h.at 925 (by decide +kernel) rfl
theorem kw_926 {U : State} {A : Array Value} (h : KW U) : (Cond.constantLong RL 13 (4294967295)).before A U = true := h.at 926 (by decide +kernel) rfl
theorem kw_927 {U : State} {A : Array Value} (h : KW U) : (Cond.fieldLink RJ0 15 RJ0 "coder" "B").before A U = true := h.at 927 (by decide +kernel) rfl
theorem kw_928 {U : State} {A : Array Value} (h : KW U) : (Cond.fieldLink RJ0 9 RJ0 "value" "[B").before A U = true := h.at 928 (by decide +kernel) rfl
