/-! the words that every method has: the good ones of the tables, each by its place -/
def gw : List Cond := lw_tbl.filter goodWord
theorem gw_mem {w : Cond} (i : Nat) (h : lw_tbl[i]? = some w) (hg : goodWord w = true) : w ∈ gw := List.mem_filter.mpr ⟨List.mem_of_getElem? h, hg⟩
theorem gw_good : GoodIn gw gw := fun w h => ⟨h, good_of_word (List.mem_filter.mp h).2⟩
set_option maxRecDepth 20000 in
theorem kw_0 : (Cond.selects "java/lang/Throwable" ⟨"java/lang/Throwable", "fillInStackTrace", "(I)Ljava/lang/Throwable;"⟩ ⟨"java/lang/Throwable", "fillInStackTrace", "(I)Ljava/lang/Throwable;"⟩) ∈ gw := gw_mem 0 (by decide +kernel) rfl
set_option maxRecDepth 20000 in
theorem kw_1 : (Cond.selects RX2 yX2_giveOrder yX2_giveOrder) ∈ gw := gw_mem 1 (by decide +kernel) rfl
set_option maxRecDepth 20000 in
theorem kw_2 : (Cond.selects RX2 yX2_labelOf yX2_labelOf) ∈ gw := gw_mem 2 (by decide +kernel) rfl
set_option maxRecDepth 20000 in
theorem kw_3 : (Cond.selects RX2 yX2_passOneMinute yX2_passOneMinute) ∈ gw := gw_mem 3 (by decide +kernel) rfl
set_option maxRecDepth 20000 in
theorem kw_4 : (Cond.selects RX0 yX0_redraw yX0_redraw) ∈ gw := gw_mem 4 (by decide +kernel) rfl
set_option maxRecDepth 20000 in
theorem kw_5 : (Cond.selects RX0 yX0_answer yX0_answer) ∈ gw := gw_mem 5 (by decide +kernel) rfl
set_option maxRecDepth 20000 in
theorem kw_6 : (Cond.selects RX2 yX2_endMinute yX2_endMinute) ∈ gw := gw_mem 6 (by decide +kernel) rfl
set_option maxRecDepth 20000 in
theorem kw_7 : (Cond.selects RX2 yX2_leastShownNow yX2_leastShownNow) ∈ gw := gw_mem 7 (by decide +kernel) rfl
set_option maxRecDepth 20000 in
theorem kw_8 : (Cond.selects RX3 yX3_holds yX3_holds) ∈ gw := gw_mem 8 (by decide +kernel) rfl
set_option maxRecDepth 20000 in
theorem kw_9 : (Cond.selects RX3 yX3_gets yX3_gets) ∈ gw := gw_mem 9 (by decide +kernel) rfl
set_option maxRecDepth 20000 in
theorem kw_10 : (Cond.selects RX3 yX3_isLabel yX3_isLabel) ∈ gw := gw_mem 10 (by decide +kernel) rfl
set_option maxRecDepth 20000 in
theorem kw_11 : (Cond.selects RX3 yX3_goes yX3_goes) ∈ gw := gw_mem 11 (by decide +kernel) rfl
set_option maxRecDepth 20000 in
theorem kw_12 : (Cond.selects RX3 yX3_longest yX3_longest) ∈ gw := gw_mem 12 (by decide +kernel) rfl
set_option maxRecDepth 20000 in
theorem kw_13 : (Cond.selects RX3 yX3_sends yX3_sends) ∈ gw := gw_mem 13 (by decide +kernel) rfl
set_option maxRecDepth 20000 in
theorem kw_14 : (Cond.selects RX3 yX3_redraws yX3_redraws) ∈ gw := gw_mem 14 (by decide +kernel) rfl
set_option maxRecDepth 20000 in
theorem kw_15 : (Cond.selects RX3 yX3_leastNow yX3_leastNow) ∈ gw := gw_mem 15 (by decide +kernel) rfl
set_option maxRecDepth 20000 in
theorem kw_16 : (Cond.initialized RL) ∈ gw := gw_mem 16 (by decide +kernel) rfl
set_option maxRecDepth 20000 in
theorem kw_17 : (Cond.initialized RX2) ∈ gw := gw_mem 17 (by decide +kernel) rfl
set_option maxRecDepth 20000 in
theorem kw_18 : (Cond.initialized RX1) ∈ gw := gw_mem 18 (by decide +kernel) rfl
set_option maxRecDepth 20000 in
theorem kw_19 : (Cond.initialized "java/util/Arrays") ∈ gw := gw_mem 19 (by decide +kernel) rfl
set_option maxRecDepth 20000 in
theorem kw_20 : (Cond.initialized RX0) ∈ gw := gw_mem 20 (by decide +kernel) rfl
set_option maxRecDepth 20000 in
theorem kw_21 : (Cond.initialized RX3) ∈ gw := gw_mem 21 (by decide +kernel) rfl
set_option maxRecDepth 20000 in
theorem kw_22 : (Cond.initialized "java/lang/Throwable") ∈ gw := gw_mem 22 (by decide +kernel) rfl
set_option maxRecDepth 20000 in
theorem kw_23 : (Cond.initialized "java/lang/Exception") ∈ gw := gw_mem 23 (by decide +kernel) rfl
set_option maxRecDepth 20000 in
theorem kw_24 : (Cond.initialized "java/lang/RuntimeException") ∈ gw := gw_mem 24 (by decide +kernel) rfl
set_option maxRecDepth 20000 in
theorem kw_25 : (Cond.initialized "java/lang/IndexOutOfBoundsException") ∈ gw := gw_mem 25 (by decide +kernel) rfl
set_option maxRecDepth 20000 in
theorem kw_26 : (Cond.initialized "java/lang/IllegalArgumentException") ∈ gw := gw_mem 26 (by decide +kernel) rfl
set_option maxRecDepth 20000 in
theorem kw_27 : (Cond.initialized "java/lang/IllegalStateException") ∈ gw := gw_mem 27 (by decide +kernel) rfl
set_option maxRecDepth 20000 in
theorem kw_28 : (Cond.initialized "java/lang/Math") ∈ gw := gw_mem 28 (by decide +kernel) rfl
set_option maxRecDepth 20000 in
theorem kw_29 : (Cond.classLink RL 8 RX2) ∈ gw := gw_mem 29 (by decide +kernel) rfl
set_option maxRecDepth 20000 in
theorem kw_30 : (Cond.instantiable RX2 6) ∈ gw := gw_mem 30 (by decide +kernel) rfl
set_option maxRecDepth 20000 in
theorem kw_31 : (Cond.methodLink RL 60 yX2_init) ∈ gw := gw_mem 31 (by decide +kernel) rfl
set_option maxRecDepth 20000 in
theorem kw_32 : (Cond.instanceMethod yX2_init) ∈ gw := gw_mem 32 (by decide +kernel) rfl
set_option maxRecDepth 20000 in
theorem kw_33 : (Cond.code yX2_init cX2_init 2 none) ∈ gw := gw_mem 33 (by decide +kernel) rfl
set_option maxRecDepth 20000 in
theorem kw_34 : (Cond.methodLink RX2 1 objectInit) ∈ gw := gw_mem 34 (by decide +kernel) rfl
set_option maxRecDepth 20000 in
theorem kw_35 : (Cond.instanceMethod objectInit) ∈ gw := gw_mem 35 (by decide +kernel) rfl
set_option maxRecDepth 20000 in
theorem kw_36 : (Cond.code objectInit ⟨#[0xb1]⟩ 1 none) ∈ gw := gw_mem 36 (by decide +kernel) rfl
set_option maxRecDepth 20000 in
theorem kw_37 : (Cond.classLink RX2 13 RX0) ∈ gw := gw_mem 37 (by decide +kernel) rfl
set_option maxRecDepth 20000 in
theorem kw_39 : (Cond.classLink RX2 19 RX1) ∈ gw := gw_mem 39 (by decide +kernel) rfl
set_option maxRecDepth 20000 in
theorem kw_40 : (Cond.instantiable RX1 2) ∈ gw := gw_mem 40 (by decide +kernel) rfl
set_option maxRecDepth 20000 in
theorem kw_41 : (Cond.methodLink RX2 21 yX1_init) ∈ gw := gw_mem 41 (by decide +kernel) rfl
set_option maxRecDepth 20000 in
theorem kw_42 : (Cond.instanceMethod yX1_init) ∈ gw := gw_mem 42 (by decide +kernel) rfl
set_option maxRecDepth 20000 in
theorem kw_43 : (Cond.code yX1_init cX1_init 2 none) ∈ gw := gw_mem 43 (by decide +kernel) rfl
set_option maxRecDepth 20000 in
theorem kw_44 : (Cond.methodLink RX1 3 objectInit) ∈ gw := gw_mem 44 (by decide +kernel) rfl
set_option maxRecDepth 20000 in
theorem kw_45 : (Cond.classLink RX1 11 "[[I") ∈ gw := gw_mem 45 (by decide +kernel) rfl
set_option maxRecDepth 20000 in
theorem kw_47 : (Cond.methodLink RX1 20 yJ7_fill_53178) ∈ gw := gw_mem 47 (by decide +kernel) rfl
set_option maxRecDepth 20000 in
theorem kw_48 : (Cond.static yJ7_fill_53178) ∈ gw := gw_mem 48 (by decide +kernel) rfl
set_option maxRecDepth 20000 in
theorem kw_49 : (Cond.code yJ7_fill_53178 cJ7_fill_53178 4 none) ∈ gw := gw_mem 49 (by decide +kernel) rfl
set_option maxRecDepth 20000 in
theorem kw_50 : (Cond.fieldLink RX1 13 "GlassLabels$Memory" "leastAtEnd" "[[I") ∈ gw := gw_mem 50 (by decide +kernel) rfl
set_option maxRecDepth 20000 in
theorem kw_51 : (Cond.fieldLink RX1 16 "GlassLabels$Memory" "leastEnded" "[I") ∈ gw := gw_mem 51 (by decide +kernel) rfl
set_option maxRecDepth 20000 in
theorem kw_52 : (Cond.laysFinal "GlassLabels$Memory" "GlassLabels$Memory" "leastAtEnd" "[[I") ∈ gw := gw_mem 52 (by decide +kernel) rfl
set_option maxRecDepth 20000 in
theorem kw_53 : (Cond.soleField "GlassLabels$Memory" "leastAtEnd") ∈ gw := gw_mem 53 (by decide +kernel) rfl
set_option maxRecDepth 20000 in
theorem kw_54 : (Cond.laysFinal "GlassLabels$Memory" "GlassLabels$Memory" "leastEnded" "[I") ∈ gw := gw_mem 54 (by decide +kernel) rfl
set_option maxRecDepth 20000 in
theorem kw_55 : (Cond.soleField "GlassLabels$Memory" "leastEnded") ∈ gw := gw_mem 55 (by decide +kernel) rfl
set_option maxRecDepth 20000 in
theorem kw_56 : (Cond.superclass "GlassLabels$Memory" "java/lang/Object") ∈ gw := gw_mem 56 (by decide +kernel) rfl
set_option maxRecDepth 20000 in
theorem kw_57 : (Cond.arrayClass FieldType.int) ∈ gw := gw_mem 57 (by decide +kernel) rfl
set_option maxRecDepth 20000 in
theorem kw_58 : (Cond.instantiable RX0 8) ∈ gw := gw_mem 58 (by decide +kernel) rfl
set_option maxRecDepth 20000 in
theorem kw_60 : (Cond.instanceMethod yX0_init) ∈ gw := gw_mem 60 (by decide +kernel) rfl
set_option maxRecDepth 20000 in
theorem kw_61 : (Cond.code yX0_init cX0_init 1 none) ∈ gw := gw_mem 61 (by decide +kernel) rfl
set_option maxRecDepth 20000 in
theorem kw_62 : (Cond.methodLink RX0 3 objectInit) ∈ gw := gw_mem 62 (by decide +kernel) rfl
set_option maxRecDepth 20000 in
theorem kw_63 : (Cond.fieldLink RX0 9 "GlassLabels$Label" "ware" "I") ∈ gw := gw_mem 63 (by decide +kernel) rfl
set_option maxRecDepth 20000 in
theorem kw_64 : (Cond.fieldLink RX2 45 "GlassLabels$Label" "ware" "I") ∈ gw := gw_mem 64 (by decide +kernel) rfl
set_option maxRecDepth 20000 in
theorem kw_65 : (Cond.fieldLink RX0 15 "GlassLabels$Label" "shown" "I") ∈ gw := gw_mem 65 (by decide +kernel) rfl
set_option maxRecDepth 20000 in
theorem kw_66 : (Cond.fieldLink RX2 59 "GlassLabels$Label" "shown" "I") ∈ gw := gw_mem 66 (by decide +kernel) rfl
set_option maxRecDepth 20000 in
theorem kw_67 : (Cond.fieldLink RX0 18 "GlassLabels$Label" "ghosts" "I") ∈ gw := gw_mem 67 (by decide +kernel) rfl
set_option maxRecDepth 20000 in
theorem kw_68 : (Cond.fieldLink RX2 94 "GlassLabels$Label" "ghosts" "I") ∈ gw := gw_mem 68 (by decide +kernel) rfl
set_option maxRecDepth 20000 in
theorem kw_69 : (Cond.fieldLink RX0 21 "GlassLabels$Label" "battery" "I") ∈ gw := gw_mem 69 (by decide +kernel) rfl
set_option maxRecDepth 20000 in
theorem kw_70 : (Cond.fieldLink RX2 71 "GlassLabels$Label" "battery" "I") ∈ gw := gw_mem 70 (by decide +kernel) rfl
set_option maxRecDepth 20000 in
theorem kw_71 : (Cond.fieldLink RX0 24 "GlassLabels$Label" "order" "I") ∈ gw := gw_mem 71 (by decide +kernel) rfl
set_option maxRecDepth 20000 in
theorem kw_72 : (Cond.fieldLink RX2 68 "GlassLabels$Label" "order" "I") ∈ gw := gw_mem 72 (by decide +kernel) rfl
set_option maxRecDepth 20000 in
theorem kw_73 : (Cond.fieldLink RX0 27 "GlassLabels$Label" "dueSince" "I") ∈ gw := gw_mem 73 (by decide +kernel) rfl
set_option maxRecDepth 20000 in
theorem kw_74 : (Cond.fieldLink RX2 125 "GlassLabels$Label" "dueSince" "I") ∈ gw := gw_mem 74 (by decide +kernel) rfl
set_option maxRecDepth 20000 in
theorem kw_75 : (Cond.fieldLink RX0 30 "GlassLabels$Label" "sendingsToLose" "I") ∈ gw := gw_mem 75 (by decide +kernel) rfl
set_option maxRecDepth 20000 in
theorem kw_76 : (Cond.fieldLink RX2 74 "GlassLabels$Label" "sendingsToLose" "I") ∈ gw := gw_mem 76 (by decide +kernel) rfl
set_option maxRecDepth 20000 in
theorem kw_77 : (Cond.fieldLink RX0 33 "GlassLabels$Label" "answersToLose" "I") ∈ gw := gw_mem 77 (by decide +kernel) rfl
set_option maxRecDepth 20000 in
theorem kw_78 : (Cond.fieldLink RX2 77 "GlassLabels$Label" "answersToLose" "I") ∈ gw := gw_mem 78 (by decide +kernel) rfl
set_option maxRecDepth 20000 in
theorem kw_79 : (Cond.lays "GlassLabels$Label" "GlassLabels$Label" "ware" "I") ∈ gw := gw_mem 79 (by decide +kernel) rfl
set_option maxRecDepth 20000 in
theorem kw_80 : (Cond.soleField "GlassLabels$Label" "ware") ∈ gw := gw_mem 80 (by decide +kernel) rfl
set_option maxRecDepth 20000 in
theorem kw_81 : (Cond.lays "GlassLabels$Label" "GlassLabels$Label" "shown" "I") ∈ gw := gw_mem 81 (by decide +kernel) rfl
set_option maxRecDepth 20000 in
theorem kw_82 : (Cond.soleField "GlassLabels$Label" "shown") ∈ gw := gw_mem 82 (by decide +kernel) rfl
set_option maxRecDepth 20000 in
theorem kw_83 : (Cond.lays "GlassLabels$Label" "GlassLabels$Label" "ghosts" "I") ∈ gw := gw_mem 83 (by decide +kernel) rfl
set_option maxRecDepth 20000 in
theorem kw_84 : (Cond.soleField "GlassLabels$Label" "ghosts") ∈ gw := gw_mem 84 (by decide +kernel) rfl
set_option maxRecDepth 20000 in
theorem kw_85 : (Cond.lays "GlassLabels$Label" "GlassLabels$Label" "battery" "I") ∈ gw := gw_mem 85 (by decide +kernel) rfl
set_option maxRecDepth 20000 in
theorem kw_86 : (Cond.soleField "GlassLabels$Label" "battery") ∈ gw := gw_mem 86 (by decide +kernel) rfl
set_option maxRecDepth 20000 in
theorem kw_87 : (Cond.lays "GlassLabels$Label" "GlassLabels$Label" "order" "I") ∈ gw := gw_mem 87 (by decide +kernel) rfl
set_option maxRecDepth 20000 in
theorem kw_88 : (Cond.soleField "GlassLabels$Label" "order") ∈ gw := gw_mem 88 (by decide +kernel) rfl
set_option maxRecDepth 20000 in
theorem kw_89 : (Cond.lays "GlassLabels$Label" "GlassLabels$Label" "dueSince" "I") ∈ gw := gw_mem 89 (by decide +kernel) rfl
set_option maxRecDepth 20000 in
theorem kw_90 : (Cond.soleField "GlassLabels$Label" "dueSince") ∈ gw := gw_mem 90 (by decide +kernel) rfl
set_option maxRecDepth 20000 in
theorem kw_91 : (Cond.lays "GlassLabels$Label" "GlassLabels$Label" "sendingsToLose" "I") ∈ gw := gw_mem 91 (by decide +kernel) rfl
set_option maxRecDepth 20000 in
theorem kw_92 : (Cond.soleField "GlassLabels$Label" "sendingsToLose") ∈ gw := gw_mem 92 (by decide +kernel) rfl
set_option maxRecDepth 20000 in
theorem kw_93 : (Cond.lays "GlassLabels$Label" "GlassLabels$Label" "answersToLose" "I") ∈ gw := gw_mem 93 (by decide +kernel) rfl
set_option maxRecDepth 20000 in
theorem kw_94 : (Cond.soleField "GlassLabels$Label" "answersToLose") ∈ gw := gw_mem 94 (by decide +kernel) rfl
set_option maxRecDepth 20000 in
theorem kw_95 : (Cond.superclass "GlassLabels$Label" "java/lang/Object") ∈ gw := gw_mem 95 (by decide +kernel) rfl
set_option maxRecDepth 20000 in
theorem kw_96 : (Cond.fieldLink RX2 9 "GlassLabels" "prices" "[I") ∈ gw := gw_mem 96 (by decide +kernel) rfl
set_option maxRecDepth 20000 in
theorem kw_97 : (Cond.fieldLink RX2 15 "GlassLabels" "labels" "[LGlassLabels$Label;") ∈ gw := gw_mem 97 (by decide +kernel) rfl
set_option maxRecDepth 20000 in
theorem kw_98 : (Cond.fieldLink RX2 22 "GlassLabels" "memory" "LGlassLabels$Memory;") ∈ gw := gw_mem 98 (by decide +kernel) rfl
set_option maxRecDepth 20000 in
theorem kw_99 : (Cond.fieldLink RX2 26 "GlassLabels" "hung" "I") ∈ gw := gw_mem 99 (by decide +kernel) rfl
set_option maxRecDepth 20000 in
theorem kw_100 : (Cond.fieldLink RX2 30 "GlassLabels" "now" "I") ∈ gw := gw_mem 100 (by decide +kernel) rfl
set_option maxRecDepth 20000 in
theorem kw_101 : (Cond.fieldLink RX2 33 "GlassLabels" "lastOrder" "I") ∈ gw := gw_mem 101 (by decide +kernel) rfl
set_option maxRecDepth 20000 in
theorem kw_102 : (Cond.laysFinal "GlassLabels" "GlassLabels" "prices" "[I") ∈ gw := gw_mem 102 (by decide +kernel) rfl
set_option maxRecDepth 20000 in
theorem kw_103 : (Cond.soleField "GlassLabels" "prices") ∈ gw := gw_mem 103 (by decide +kernel) rfl
set_option maxRecDepth 20000 in
theorem kw_104 : (Cond.laysFinal "GlassLabels" "GlassLabels" "labels" "[LGlassLabels$Label;") ∈ gw := gw_mem 104 (by decide +kernel) rfl
set_option maxRecDepth 20000 in
theorem kw_105 : (Cond.soleField "GlassLabels" "labels") ∈ gw := gw_mem 105 (by decide +kernel) rfl
set_option maxRecDepth 20000 in
theorem kw_106 : (Cond.laysFinal "GlassLabels" "GlassLabels" "memory" "LGlassLabels$Memory;") ∈ gw := gw_mem 106 (by decide +kernel) rfl
set_option maxRecDepth 20000 in
theorem kw_107 : (Cond.soleField "GlassLabels" "memory") ∈ gw := gw_mem 107 (by decide +kernel) rfl
set_option maxRecDepth 20000 in
theorem kw_108 : (Cond.lays "GlassLabels" "GlassLabels" "hung" "I") ∈ gw := gw_mem 108 (by decide +kernel) rfl
set_option maxRecDepth 20000 in
theorem kw_109 : (Cond.soleField "GlassLabels" "hung") ∈ gw := gw_mem 109 (by decide +kernel) rfl
set_option maxRecDepth 20000 in
theorem kw_110 : (Cond.lays "GlassLabels" "GlassLabels" "now" "I") ∈ gw := gw_mem 110 (by decide +kernel) rfl
set_option maxRecDepth 20000 in
theorem kw_111 : (Cond.soleField "GlassLabels" "now") ∈ gw := gw_mem 111 (by decide +kernel) rfl
set_option maxRecDepth 20000 in
theorem kw_112 : (Cond.lays "GlassLabels" "GlassLabels" "lastOrder" "I") ∈ gw := gw_mem 112 (by decide +kernel) rfl
set_option maxRecDepth 20000 in
theorem kw_113 : (Cond.soleField "GlassLabels" "lastOrder") ∈ gw := gw_mem 113 (by decide +kernel) rfl
set_option maxRecDepth 20000 in
theorem kw_114 : (Cond.superclass "GlassLabels" "java/lang/Object") ∈ gw := gw_mem 114 (by decide +kernel) rfl
set_option maxRecDepth 20000 in
theorem kw_115 : (Cond.methodLink RL 96 yX2_time) ∈ gw := gw_mem 115 (by decide +kernel) rfl
set_option maxRecDepth 20000 in
theorem kw_116 : (Cond.instanceMethod yX2_time) ∈ gw := gw_mem 116 (by decide +kernel) rfl
set_option maxRecDepth 20000 in
theorem kw_117 : (Cond.selects RX2 yX2_time yX2_time) ∈ gw := gw_mem 117 (by decide +kernel) rfl
set_option maxRecDepth 20000 in
theorem kw_118 : (Cond.code yX2_time cX2_time 1 (some FieldType.int)) ∈ gw := gw_mem 118 (by decide +kernel) rfl
set_option maxRecDepth 20000 in
theorem kw_119 : (Cond.methodLink RL 103 yX2_orders) ∈ gw := gw_mem 119 (by decide +kernel) rfl
set_option maxRecDepth 20000 in
theorem kw_120 : (Cond.instanceMethod yX2_orders) ∈ gw := gw_mem 120 (by decide +kernel) rfl
set_option maxRecDepth 20000 in
theorem kw_121 : (Cond.selects RX2 yX2_orders yX2_orders) ∈ gw := gw_mem 121 (by decide +kernel) rfl
set_option maxRecDepth 20000 in
theorem kw_122 : (Cond.code yX2_orders cX2_orders 3 (some FieldType.int)) ∈ gw := gw_mem 122 (by decide +kernel) rfl
set_option maxRecDepth 20000 in
theorem kw_123 : (Cond.methodLink RL 107 yX2_nextToSend) ∈ gw := gw_mem 123 (by decide +kernel) rfl
set_option maxRecDepth 20000 in
theorem kw_124 : (Cond.instanceMethod yX2_nextToSend) ∈ gw := gw_mem 124 (by decide +kernel) rfl
set_option maxRecDepth 20000 in
theorem kw_125 : (Cond.selects RX2 yX2_nextToSend yX2_nextToSend) ∈ gw := gw_mem 125 (by decide +kernel) rfl
set_option maxRecDepth 20000 in
theorem kw_126 : (Cond.code yX2_nextToSend cX2_nextToSend 3 (some FieldType.int)) ∈ gw := gw_mem 126 (by decide +kernel) rfl
set_option maxRecDepth 20000 in
theorem kw_127 : (Cond.methodLink RX2 86 yX0_isDue) ∈ gw := gw_mem 127 (by decide +kernel) rfl
set_option maxRecDepth 20000 in
theorem kw_128 : (Cond.instanceMethod yX0_isDue) ∈ gw := gw_mem 128 (by decide +kernel) rfl
set_option maxRecDepth 20000 in
theorem kw_129 : (Cond.selects RX0 yX0_isDue yX0_isDue) ∈ gw := gw_mem 129 (by decide +kernel) rfl
set_option maxRecDepth 20000 in
theorem kw_130 : (Cond.code yX0_isDue cX0_isDue 2 (some FieldType.boolean)) ∈ gw := gw_mem 130 (by decide +kernel) rfl
set_option maxRecDepth 20000 in
theorem kw_131 : (Cond.methodLink RX2 90 yX0_isSentBefore) ∈ gw := gw_mem 131 (by decide +kernel) rfl
set_option maxRecDepth 20000 in
theorem kw_132 : (Cond.instanceMethod yX0_isSentBefore) ∈ gw := gw_mem 132 (by decide +kernel) rfl
set_option maxRecDepth 20000 in
theorem kw_133 : (Cond.selects RX0 yX0_isSentBefore yX0_isSentBefore) ∈ gw := gw_mem 133 (by decide +kernel) rfl
set_option maxRecDepth 20000 in
theorem kw_134 : (Cond.code yX0_isSentBefore cX0_isSentBefore 2 (some FieldType.boolean)) ∈ gw := gw_mem 134 (by decide +kernel) rfl
set_option maxRecDepth 20000 in
theorem kw_135 : (Cond.methodLink RL 120 yX2_lies) ∈ gw := gw_mem 135 (by decide +kernel) rfl
set_option maxRecDepth 20000 in
theorem kw_136 : (Cond.instanceMethod yX2_lies) ∈ gw := gw_mem 136 (by decide +kernel) rfl
set_option maxRecDepth 20000 in
theorem kw_137 : (Cond.selects RX2 yX2_lies yX2_lies) ∈ gw := gw_mem 137 (by decide +kernel) rfl
set_option maxRecDepth 20000 in
theorem kw_138 : (Cond.code yX2_lies cX2_lies 3 (some FieldType.int)) ∈ gw := gw_mem 138 (by decide +kernel) rfl
set_option maxRecDepth 20000 in
theorem kw_139 : (Cond.methodLink RL 64 yL_setPrice) ∈ gw := gw_mem 139 (by decide +kernel) rfl
set_option maxRecDepth 20000 in
theorem kw_140 : (Cond.static yL_setPrice) ∈ gw := gw_mem 140 (by decide +kernel) rfl
set_option maxRecDepth 20000 in
theorem kw_141 : (Cond.codeWith yL_setPrice cL_setPrice 5 (some FieldType.int) [(0, 10, 13, 13), (0, 10, 17, 15)]) ∈ gw := gw_mem 141 (by decide +kernel) rfl
set_option maxRecDepth 20000 in
theorem kw_142 : (Cond.classLink RL 13 "java/lang/IndexOutOfBoundsException") ∈ gw := gw_mem 142 (by decide +kernel) rfl
set_option maxRecDepth 20000 in
theorem kw_143 : (Cond.classLink RL 15 "java/lang/IllegalArgumentException") ∈ gw := gw_mem 143 (by decide +kernel) rfl
set_option maxRecDepth 20000 in
theorem kw_144 : (Cond.methodLink RL 7 yX2_setPrice) ∈ gw := gw_mem 144 (by decide +kernel) rfl
set_option maxRecDepth 20000 in
theorem kw_145 : (Cond.instanceMethod yX2_setPrice) ∈ gw := gw_mem 145 (by decide +kernel) rfl
set_option maxRecDepth 20000 in
theorem kw_146 : (Cond.selects RX2 yX2_setPrice yX2_setPrice) ∈ gw := gw_mem 146 (by decide +kernel) rfl
set_option maxRecDepth 20000 in
theorem kw_147 : (Cond.code yX2_setPrice cX2_setPrice 5 (some FieldType.int)) ∈ gw := gw_mem 147 (by decide +kernel) rfl
set_option maxRecDepth 20000 in
theorem kw_148 : (Cond.methodLink RX2 37 yX2_needWare) ∈ gw := gw_mem 148 (by decide +kernel) rfl
set_option maxRecDepth 20000 in
theorem kw_149 : (Cond.static yX2_needWare) ∈ gw := gw_mem 149 (by decide +kernel) rfl
set_option maxRecDepth 20000 in
theorem kw_150 : (Cond.code yX2_needWare cX2_needWare 1 none) ∈ gw := gw_mem 150 (by decide +kernel) rfl
set_option maxRecDepth 20000 in
theorem kw_151 : (Cond.classLink RX2 113 "java/lang/IndexOutOfBoundsException") ∈ gw := gw_mem 151 (by decide +kernel) rfl
set_option maxRecDepth 20000 in
theorem kw_152 : (Cond.instantiable "java/lang/IndexOutOfBoundsException" 6) ∈ gw := gw_mem 152 (by decide +kernel) rfl
set_option maxRecDepth 20000 in
theorem kw_160 : (Cond.selects "java/lang/IndexOutOfBoundsException" ⟨"java/lang/Throwable", "fillInStackTrace", "(I)Ljava/lang/Throwable;"⟩ ⟨"java/lang/Throwable", "fillInStackTrace", "(I)Ljava/lang/Throwable;"⟩) ∈ gw := gw_mem 160 (by decide +kernel) rfl
set_option maxRecDepth 20000 in
theorem kw_161 : (Cond.selects "java/lang/IndexOutOfBoundsException" ⟨"java/lang/Throwable", "fillInStackTrace", "()Ljava/lang/Throwable;"⟩ ⟨"java/lang/Throwable", "fillInStackTrace", "()Ljava/lang/Throwable;"⟩) ∈ gw := gw_mem 161 (by decide +kernel) rfl
set_option maxRecDepth 20000 in
theorem kw_162 : (Cond.lays "java/lang/IndexOutOfBoundsException" "java/lang/Throwable" "cause" "Ljava/lang/Throwable;") ∈ gw := gw_mem 162 (by decide +kernel) rfl
set_option maxRecDepth 20000 in
theorem kw_163 : (Cond.lays "java/lang/Throwable" "java/lang/Throwable" "cause" "Ljava/lang/Throwable;") ∈ gw := gw_mem 163 (by decide +kernel) rfl
set_option maxRecDepth 20000 in
theorem kw_164 : (Cond.lays "java/lang/IndexOutOfBoundsException" "java/lang/Throwable" "stackTrace" "[Ljava/lang/StackTraceElement;") ∈ gw := gw_mem 164 (by decide +kernel) rfl
set_option maxRecDepth 20000 in
theorem kw_165 : (Cond.lays "java/lang/Throwable" "java/lang/Throwable" "stackTrace" "[Ljava/lang/StackTraceElement;") ∈ gw := gw_mem 165 (by decide +kernel) rfl
set_option maxRecDepth 20000 in
theorem kw_166 : (Cond.lays "java/lang/IndexOutOfBoundsException" "java/lang/Throwable" "suppressedExceptions" "Ljava/util/List;") ∈ gw := gw_mem 166 (by decide +kernel) rfl
set_option maxRecDepth 20000 in
theorem kw_167 : (Cond.lays "java/lang/Throwable" "java/lang/Throwable" "suppressedExceptions" "Ljava/util/List;") ∈ gw := gw_mem 167 (by decide +kernel) rfl
set_option maxRecDepth 20000 in
theorem kw_168 : (Cond.lays "java/lang/IndexOutOfBoundsException" "java/lang/Throwable" "detailMessage" "Ljava/lang/String;") ∈ gw := gw_mem 168 (by decide +kernel) rfl
set_option maxRecDepth 20000 in
theorem kw_169 : (Cond.lays "java/lang/Throwable" "java/lang/Throwable" "detailMessage" "Ljava/lang/String;") ∈ gw := gw_mem 169 (by decide +kernel) rfl
set_option maxRecDepth 20000 in
theorem kw_170 : (Cond.lays "java/lang/IndexOutOfBoundsException" "java/lang/Throwable" "backtrace" "Ljava/lang/Object;") ∈ gw := gw_mem 170 (by decide +kernel) rfl
set_option maxRecDepth 20000 in
theorem kw_171 : (Cond.lays "java/lang/Throwable" "java/lang/Throwable" "backtrace" "Ljava/lang/Object;") ∈ gw := gw_mem 171 (by decide +kernel) rfl
set_option maxRecDepth 20000 in
theorem kw_172 : (Cond.fieldLink "java/lang/Throwable" 198 "java/lang/Throwable" "backtrace" "Ljava/lang/Object;") ∈ gw := gw_mem 172 (by decide +kernel) rfl
set_option maxRecDepth 20000 in
theorem kw_173 : (Cond.superclass "java/lang/Throwable" "java/lang/Object") ∈ gw := gw_mem 173 (by decide +kernel) rfl
set_option maxRecDepth 20000 in
theorem kw_174 : (Cond.instanceMethod ⟨"java/lang/Throwable", "<init>", "()V"⟩) ∈ gw := gw_mem 174 (by decide +kernel) rfl
set_option maxRecDepth 20000 in
theorem kw_175 : (Cond.code ⟨"java/lang/Throwable", "<init>", "()V"⟩ prog_13_method_1_code 1 none) ∈ gw := gw_mem 175 (by decide +kernel) rfl
set_option maxRecDepth 20000 in
theorem kw_176 : (Cond.methodLink "java/lang/Throwable" 1 objectInit) ∈ gw := gw_mem 176 (by decide +kernel) rfl
set_option maxRecDepth 20000 in
theorem kw_177 : (Cond.fieldLink "java/lang/Throwable" 13 "java/lang/Throwable" "UNASSIGNED_STACK" "[Ljava/lang/StackTraceElement;") ∈ gw := gw_mem 177 (by decide +kernel) rfl
set_option maxRecDepth 20000 in
theorem kw_179 : (Cond.fieldLink "java/lang/Throwable" 20 "java/lang/Throwable" "SUPPRESSED_SENTINEL" "Ljava/util/List;") ∈ gw := gw_mem 179 (by decide +kernel) rfl
set_option maxRecDepth 20000 in
theorem kw_181 : (Cond.methodLink "java/lang/Throwable" 27 ⟨"java/lang/Throwable", "fillInStackTrace", "()Ljava/lang/Throwable;"⟩) ∈ gw := gw_mem 181 (by decide +kernel) rfl
set_option maxRecDepth 20000 in
theorem kw_182 : (Cond.instanceMethod ⟨"java/lang/Throwable", "fillInStackTrace", "()Ljava/lang/Throwable;"⟩) ∈ gw := gw_mem 182 (by decide +kernel) rfl
set_option maxRecDepth 20000 in
theorem kw_183 : (Cond.sameMethod "java/lang/Throwable" "java/lang/Throwable" "fillInStackTrace" "()Ljava/lang/Throwable;") ∈ gw := gw_mem 183 (by decide +kernel) rfl
set_option maxRecDepth 20000 in
theorem kw_184 : (Cond.selects "java/lang/IllegalArgumentException" ⟨"java/lang/Throwable", "fillInStackTrace", "()Ljava/lang/Throwable;"⟩ ⟨"java/lang/Throwable", "fillInStackTrace", "()Ljava/lang/Throwable;"⟩) ∈ gw := gw_mem 184 (by decide +kernel) rfl
set_option maxRecDepth 20000 in
theorem kw_185 : (Cond.selects "java/lang/IllegalStateException" ⟨"java/lang/Throwable", "fillInStackTrace", "()Ljava/lang/Throwable;"⟩ ⟨"java/lang/Throwable", "fillInStackTrace", "()Ljava/lang/Throwable;"⟩) ∈ gw := gw_mem 185 (by decide +kernel) rfl
set_option maxRecDepth 20000 in
theorem kw_186 : (Cond.codeSync ⟨"java/lang/Throwable", "fillInStackTrace", "()Ljava/lang/Throwable;"⟩ prog_13_method_18_code 1 (some (FieldType.object "java/lang/Throwable"))) ∈ gw := gw_mem 186 (by decide +kernel) rfl
set_option maxRecDepth 20000 in
theorem kw_187 : (Cond.methodLink "java/lang/Throwable" 202 ⟨"java/lang/Throwable", "fillInStackTrace", "(I)Ljava/lang/Throwable;"⟩) ∈ gw := gw_mem 187 (by decide +kernel) rfl
set_option maxRecDepth 20000 in
theorem kw_189 : (Cond.instanceMethod ⟨"java/lang/Throwable", "fillInStackTrace", "(I)Ljava/lang/Throwable;"⟩) ∈ gw := gw_mem 189 (by decide +kernel) rfl
set_option maxRecDepth 20000 in
theorem kw_190 : (Cond.instantiable "java/lang/Throwable" 6) ∈ gw := gw_mem 190 (by decide +kernel) rfl
set_option maxRecDepth 20000 in
theorem kw_191 : (Cond.native ⟨"java/lang/Throwable", "fillInStackTrace", "(I)Ljava/lang/Throwable;"⟩) ∈ gw := gw_mem 191 (by decide +kernel) rfl
set_option maxRecDepth 20000 in
theorem kw_193 : (Cond.methodLink RX2 117 ⟨"java/lang/IndexOutOfBoundsException", "<init>", "(Ljava/lang/String;)V"⟩) ∈ gw := gw_mem 193 (by decide +kernel) rfl
set_option maxRecDepth 20000 in
theorem kw_194 : (Cond.instanceMethod ⟨"java/lang/IndexOutOfBoundsException", "<init>", "(Ljava/lang/String;)V"⟩) ∈ gw := gw_mem 194 (by decide +kernel) rfl
set_option maxRecDepth 20000 in
theorem kw_195 : (Cond.code ⟨"java/lang/IndexOutOfBoundsException", "<init>", "(Ljava/lang/String;)V"⟩ prog_9_method_2_code 2 none) ∈ gw := gw_mem 195 (by decide +kernel) rfl
set_option maxRecDepth 20000 in
theorem kw_196 : (Cond.methodLink "java/lang/IndexOutOfBoundsException" 7 ⟨"java/lang/RuntimeException", "<init>", "(Ljava/lang/String;)V"⟩) ∈ gw := gw_mem 196 (by decide +kernel) rfl
set_option maxRecDepth 20000 in
theorem kw_197 : (Cond.instanceMethod ⟨"java/lang/RuntimeException", "<init>", "(Ljava/lang/String;)V"⟩) ∈ gw := gw_mem 197 (by decide +kernel) rfl
set_option maxRecDepth 20000 in
theorem kw_198 : (Cond.code ⟨"java/lang/RuntimeException", "<init>", "(Ljava/lang/String;)V"⟩ prog_11_method_2_code 2 none) ∈ gw := gw_mem 198 (by decide +kernel) rfl
set_option maxRecDepth 20000 in
theorem kw_199 : (Cond.methodLink "java/lang/RuntimeException" 7 ⟨"java/lang/Exception", "<init>", "(Ljava/lang/String;)V"⟩) ∈ gw := gw_mem 199 (by decide +kernel) rfl
set_option maxRecDepth 20000 in
theorem kw_200 : (Cond.instanceMethod ⟨"java/lang/Exception", "<init>", "(Ljava/lang/String;)V"⟩) ∈ gw := gw_mem 200 (by decide +kernel) rfl
set_option maxRecDepth 20000 in
theorem kw_201 : (Cond.code ⟨"java/lang/Exception", "<init>", "(Ljava/lang/String;)V"⟩ prog_6_method_2_code 2 none) ∈ gw := gw_mem 201 (by decide +kernel) rfl
set_option maxRecDepth 20000 in
theorem kw_202 : (Cond.methodLink "java/lang/Exception" 7 ⟨"java/lang/Throwable", "<init>", "(Ljava/lang/String;)V"⟩) ∈ gw := gw_mem 202 (by decide +kernel) rfl
set_option maxRecDepth 20000 in
theorem kw_203 : (Cond.instanceMethod ⟨"java/lang/Throwable", "<init>", "(Ljava/lang/String;)V"⟩) ∈ gw := gw_mem 203 (by decide +kernel) rfl
set_option maxRecDepth 20000 in
theorem kw_204 : (Cond.code ⟨"java/lang/Throwable", "<init>", "(Ljava/lang/String;)V"⟩ prog_13_method_2_code 2 none) ∈ gw := gw_mem 204 (by decide +kernel) rfl
set_option maxRecDepth 20000 in
theorem kw_206 : (Cond.fieldLink "java/lang/Throwable" 31 "java/lang/Throwable" "detailMessage" "Ljava/lang/String;") ∈ gw := gw_mem 206 (by decide +kernel) rfl
set_option maxRecDepth 20000 in
theorem kw_207 : (Cond.fieldLink "java/lang/Throwable" 7 "java/lang/Throwable" "cause" "Ljava/lang/Throwable;") ∈ gw := gw_mem 207 (by decide +kernel) rfl
set_option maxRecDepth 20000 in
theorem kw_208 : (Cond.fieldLink "java/lang/Throwable" 17 "java/lang/Throwable" "stackTrace" "[Ljava/lang/StackTraceElement;") ∈ gw := gw_mem 208 (by decide +kernel) rfl
set_option maxRecDepth 20000 in
theorem kw_209 : (Cond.fieldLink "java/lang/Throwable" 24 "java/lang/Throwable" "suppressedExceptions" "Ljava/util/List;") ∈ gw := gw_mem 209 (by decide +kernel) rfl
set_option maxRecDepth 20000 in
theorem kw_210 : (Cond.soleField "java/lang/Throwable" "backtrace") ∈ gw := gw_mem 210 (by decide +kernel) rfl
set_option maxRecDepth 20000 in
theorem kw_211 : (Cond.soleField "java/lang/Throwable" "detailMessage") ∈ gw := gw_mem 211 (by decide +kernel) rfl
set_option maxRecDepth 20000 in
theorem kw_212 : (Cond.soleField "java/lang/Throwable" "cause") ∈ gw := gw_mem 212 (by decide +kernel) rfl
set_option maxRecDepth 20000 in
theorem kw_213 : (Cond.soleField "java/lang/Throwable" "stackTrace") ∈ gw := gw_mem 213 (by decide +kernel) rfl
set_option maxRecDepth 20000 in
theorem kw_214 : (Cond.lays "java/lang/IndexOutOfBoundsException" "java/lang/Throwable" "depth" "I") ∈ gw := gw_mem 214 (by decide +kernel) rfl
set_option maxRecDepth 20000 in
theorem kw_215 : (Cond.soleField "java/lang/Throwable" "depth") ∈ gw := gw_mem 215 (by decide +kernel) rfl
set_option maxRecDepth 20000 in
theorem kw_216 : (Cond.soleField "java/lang/Throwable" "suppressedExceptions") ∈ gw := gw_mem 216 (by decide +kernel) rfl
set_option maxRecDepth 20000 in
theorem kw_217 : (Cond.superclass "java/lang/IndexOutOfBoundsException" "java/lang/RuntimeException") ∈ gw := gw_mem 217 (by decide +kernel) rfl
set_option maxRecDepth 20000 in
theorem kw_218 : (Cond.arrayClass FieldType.byte) ∈ gw := gw_mem 218 (by decide +kernel) rfl
set_option maxRecDepth 20000 in
theorem kw_219 : (Cond.methodLink RX2 41 yX2_needWithin) ∈ gw := gw_mem 219 (by decide +kernel) rfl
set_option maxRecDepth 20000 in
theorem kw_220 : (Cond.static yX2_needWithin) ∈ gw := gw_mem 220 (by decide +kernel) rfl
set_option maxRecDepth 20000 in
theorem kw_221 : (Cond.code yX2_needWithin cX2_needWithin 3 none) ∈ gw := gw_mem 221 (by decide +kernel) rfl
set_option maxRecDepth 20000 in
theorem kw_222 : (Cond.classLink RX2 118 "java/lang/IllegalArgumentException") ∈ gw := gw_mem 222 (by decide +kernel) rfl
set_option maxRecDepth 20000 in
theorem kw_223 : (Cond.instantiable "java/lang/IllegalArgumentException" 6) ∈ gw := gw_mem 223 (by decide +kernel) rfl
set_option maxRecDepth 20000 in
theorem kw_225 : (Cond.selects "java/lang/IllegalArgumentException" ⟨"java/lang/Throwable", "fillInStackTrace", "(I)Ljava/lang/Throwable;"⟩ ⟨"java/lang/Throwable", "fillInStackTrace", "(I)Ljava/lang/Throwable;"⟩) ∈ gw := gw_mem 225 (by decide +kernel) rfl
set_option maxRecDepth 20000 in
theorem kw_226 : (Cond.lays "java/lang/IllegalArgumentException" "java/lang/Throwable" "cause" "Ljava/lang/Throwable;") ∈ gw := gw_mem 226 (by decide +kernel) rfl
set_option maxRecDepth 20000 in
theorem kw_227 : (Cond.lays "java/lang/IllegalArgumentException" "java/lang/Throwable" "stackTrace" "[Ljava/lang/StackTraceElement;") ∈ gw := gw_mem 227 (by decide +kernel) rfl
set_option maxRecDepth 20000 in
theorem kw_228 : (Cond.lays "java/lang/IllegalArgumentException" "java/lang/Throwable" "suppressedExceptions" "Ljava/util/List;") ∈ gw := gw_mem 228 (by decide +kernel) rfl
set_option maxRecDepth 20000 in
theorem kw_229 : (Cond.lays "java/lang/IllegalArgumentException" "java/lang/Throwable" "detailMessage" "Ljava/lang/String;") ∈ gw := gw_mem 229 (by decide +kernel) rfl
set_option maxRecDepth 20000 in
theorem kw_230 : (Cond.lays "java/lang/IllegalArgumentException" "java/lang/Throwable" "backtrace" "Ljava/lang/Object;") ∈ gw := gw_mem 230 (by decide +kernel) rfl
set_option maxRecDepth 20000 in
theorem kw_232 : (Cond.methodLink RX2 122 ⟨"java/lang/IllegalArgumentException", "<init>", "(Ljava/lang/String;)V"⟩) ∈ gw := gw_mem 232 (by decide +kernel) rfl
set_option maxRecDepth 20000 in
theorem kw_233 : (Cond.instanceMethod ⟨"java/lang/IllegalArgumentException", "<init>", "(Ljava/lang/String;)V"⟩) ∈ gw := gw_mem 233 (by decide +kernel) rfl
set_option maxRecDepth 20000 in
theorem kw_234 : (Cond.code ⟨"java/lang/IllegalArgumentException", "<init>", "(Ljava/lang/String;)V"⟩ prog_7_method_2_code 2 none) ∈ gw := gw_mem 234 (by decide +kernel) rfl
set_option maxRecDepth 20000 in
theorem kw_235 : (Cond.methodLink "java/lang/IllegalArgumentException" 7 ⟨"java/lang/RuntimeException", "<init>", "(Ljava/lang/String;)V"⟩) ∈ gw := gw_mem 235 (by decide +kernel) rfl
set_option maxRecDepth 20000 in
theorem kw_236 : (Cond.lays "java/lang/IllegalArgumentException" "java/lang/Throwable" "depth" "I") ∈ gw := gw_mem 236 (by decide +kernel) rfl
set_option maxRecDepth 20000 in
theorem kw_237 : (Cond.superclass "java/lang/IllegalArgumentException" "java/lang/RuntimeException") ∈ gw := gw_mem 237 (by decide +kernel) rfl
set_option maxRecDepth 20000 in
theorem kw_238 : (Cond.methodLink RX2 48 yX2_giveOrder) ∈ gw := gw_mem 238 (by decide +kernel) rfl
set_option maxRecDepth 20000 in
theorem kw_240 : (Cond.instanceMethod yX2_giveOrder) ∈ gw := gw_mem 240 (by decide +kernel) rfl
set_option maxRecDepth 20000 in
theorem kw_241 : (Cond.code yX2_giveOrder cX2_giveOrder 2 none) ∈ gw := gw_mem 241 (by decide +kernel) rfl
set_option maxRecDepth 20000 in
theorem kw_242 : (Cond.methodLink RL 74 yL_price) ∈ gw := gw_mem 242 (by decide +kernel) rfl
set_option maxRecDepth 20000 in
theorem kw_243 : (Cond.static yL_price) ∈ gw := gw_mem 243 (by decide +kernel) rfl
set_option maxRecDepth 20000 in
theorem kw_244 : (Cond.codeWith yL_price cL_price 4 (some FieldType.int) [(0, 9, 12, 13)]) ∈ gw := gw_mem 244 (by decide +kernel) rfl
set_option maxRecDepth 20000 in
theorem kw_245 : (Cond.methodLink RL 17 yX2_price) ∈ gw := gw_mem 245 (by decide +kernel) rfl
set_option maxRecDepth 20000 in
theorem kw_246 : (Cond.instanceMethod yX2_price) ∈ gw := gw_mem 246 (by decide +kernel) rfl
set_option maxRecDepth 20000 in
theorem kw_247 : (Cond.selects RX2 yX2_price yX2_price) ∈ gw := gw_mem 247 (by decide +kernel) rfl
set_option maxRecDepth 20000 in
theorem kw_248 : (Cond.code yX2_price cX2_price 2 (some FieldType.int)) ∈ gw := gw_mem 248 (by decide +kernel) rfl
set_option maxRecDepth 20000 in
theorem kw_249 : (Cond.methodLink RL 78 yL_hang) ∈ gw := gw_mem 249 (by decide +kernel) rfl
set_option maxRecDepth 20000 in
theorem kw_250 : (Cond.static yL_hang) ∈ gw := gw_mem 250 (by decide +kernel) rfl
set_option maxRecDepth 20000 in
theorem kw_251 : (Cond.codeWith yL_hang cL_hang 4 (some FieldType.int) [(0, 9, 12, 13), (0, 9, 15, 24)]) ∈ gw := gw_mem 251 (by decide +kernel) rfl
set_option maxRecDepth 20000 in
theorem kw_252 : (Cond.classLink RL 24 "java/lang/IllegalStateException") ∈ gw := gw_mem 252 (by decide +kernel) rfl
set_option maxRecDepth 20000 in
theorem kw_253 : (Cond.methodLink RL 21 yX2_hang) ∈ gw := gw_mem 253 (by decide +kernel) rfl
set_option maxRecDepth 20000 in
theorem kw_254 : (Cond.instanceMethod yX2_hang) ∈ gw := gw_mem 254 (by decide +kernel) rfl
set_option maxRecDepth 20000 in
theorem kw_255 : (Cond.selects RX2 yX2_hang yX2_hang) ∈ gw := gw_mem 255 (by decide +kernel) rfl
set_option maxRecDepth 20000 in
theorem kw_256 : (Cond.code yX2_hang cX2_hang 2 (some FieldType.int)) ∈ gw := gw_mem 256 (by decide +kernel) rfl
set_option maxRecDepth 20000 in
theorem kw_257 : (Cond.classLink RX2 52 "java/lang/IllegalStateException") ∈ gw := gw_mem 257 (by decide +kernel) rfl
set_option maxRecDepth 20000 in
theorem kw_258 : (Cond.instantiable "java/lang/IllegalStateException" 6) ∈ gw := gw_mem 258 (by decide +kernel) rfl
set_option maxRecDepth 20000 in
theorem kw_260 : (Cond.selects "java/lang/IllegalStateException" ⟨"java/lang/Throwable", "fillInStackTrace", "(I)Ljava/lang/Throwable;"⟩ ⟨"java/lang/Throwable", "fillInStackTrace", "(I)Ljava/lang/Throwable;"⟩) ∈ gw := gw_mem 260 (by decide +kernel) rfl
set_option maxRecDepth 20000 in
theorem kw_261 : (Cond.lays "java/lang/IllegalStateException" "java/lang/Throwable" "cause" "Ljava/lang/Throwable;") ∈ gw := gw_mem 261 (by decide +kernel) rfl
set_option maxRecDepth 20000 in
theorem kw_262 : (Cond.lays "java/lang/IllegalStateException" "java/lang/Throwable" "stackTrace" "[Ljava/lang/StackTraceElement;") ∈ gw := gw_mem 262 (by decide +kernel) rfl
set_option maxRecDepth 20000 in
theorem kw_263 : (Cond.lays "java/lang/IllegalStateException" "java/lang/Throwable" "suppressedExceptions" "Ljava/util/List;") ∈ gw := gw_mem 263 (by decide +kernel) rfl
set_option maxRecDepth 20000 in
theorem kw_264 : (Cond.lays "java/lang/IllegalStateException" "java/lang/Throwable" "detailMessage" "Ljava/lang/String;") ∈ gw := gw_mem 264 (by decide +kernel) rfl
set_option maxRecDepth 20000 in
theorem kw_265 : (Cond.lays "java/lang/IllegalStateException" "java/lang/Throwable" "backtrace" "Ljava/lang/Object;") ∈ gw := gw_mem 265 (by decide +kernel) rfl
set_option maxRecDepth 20000 in
theorem kw_267 : (Cond.methodLink RX2 56 ⟨"java/lang/IllegalStateException", "<init>", "(Ljava/lang/String;)V"⟩) ∈ gw := gw_mem 267 (by decide +kernel) rfl
set_option maxRecDepth 20000 in
theorem kw_268 : (Cond.instanceMethod ⟨"java/lang/IllegalStateException", "<init>", "(Ljava/lang/String;)V"⟩) ∈ gw := gw_mem 268 (by decide +kernel) rfl
set_option maxRecDepth 20000 in
theorem kw_269 : (Cond.code ⟨"java/lang/IllegalStateException", "<init>", "(Ljava/lang/String;)V"⟩ prog_8_method_2_code 2 none) ∈ gw := gw_mem 269 (by decide +kernel) rfl
set_option maxRecDepth 20000 in
theorem kw_270 : (Cond.methodLink "java/lang/IllegalStateException" 7 ⟨"java/lang/RuntimeException", "<init>", "(Ljava/lang/String;)V"⟩) ∈ gw := gw_mem 270 (by decide +kernel) rfl
set_option maxRecDepth 20000 in
theorem kw_271 : (Cond.lays "java/lang/IllegalStateException" "java/lang/Throwable" "depth" "I") ∈ gw := gw_mem 271 (by decide +kernel) rfl
set_option maxRecDepth 20000 in
theorem kw_272 : (Cond.superclass "java/lang/IllegalStateException" "java/lang/RuntimeException") ∈ gw := gw_mem 272 (by decide +kernel) rfl
set_option maxRecDepth 20000 in
theorem kw_273 : (Cond.methodLink RL 81 yL_carry) ∈ gw := gw_mem 273 (by decide +kernel) rfl
set_option maxRecDepth 20000 in
theorem kw_274 : (Cond.static yL_carry) ∈ gw := gw_mem 274 (by decide +kernel) rfl
set_option maxRecDepth 20000 in
theorem kw_275 : (Cond.codeWith yL_carry cL_carry 5 (some FieldType.int) [(0, 17, 20, 13), (0, 17, 24, 24)]) ∈ gw := gw_mem 275 (by decide +kernel) rfl
set_option maxRecDepth 20000 in
theorem kw_276 : (Cond.methodLink RL 26 yX2_carry) ∈ gw := gw_mem 276 (by decide +kernel) rfl
set_option maxRecDepth 20000 in
theorem kw_277 : (Cond.instanceMethod yX2_carry) ∈ gw := gw_mem 277 (by decide +kernel) rfl
set_option maxRecDepth 20000 in
theorem kw_278 : (Cond.selects RX2 yX2_carry yX2_carry) ∈ gw := gw_mem 278 (by decide +kernel) rfl
set_option maxRecDepth 20000 in
theorem kw_279 : (Cond.code yX2_carry cX2_carry 4 (some FieldType.boolean)) ∈ gw := gw_mem 279 (by decide +kernel) rfl
set_option maxRecDepth 20000 in
theorem kw_280 : (Cond.methodLink RX2 62 yX2_labelOf) ∈ gw := gw_mem 280 (by decide +kernel) rfl
set_option maxRecDepth 20000 in
theorem kw_282 : (Cond.instanceMethod yX2_labelOf) ∈ gw := gw_mem 282 (by decide +kernel) rfl
set_option maxRecDepth 20000 in
theorem kw_283 : (Cond.code yX2_labelOf cX2_labelOf 2 (some (FieldType.object "GlassLabels$Label"))) ∈ gw := gw_mem 283 (by decide +kernel) rfl
set_option maxRecDepth 20000 in
theorem kw_286 : (Cond.methodLink RL 84 yL_charge) ∈ gw := gw_mem 286 (by decide +kernel) rfl
set_option maxRecDepth 20000 in
theorem kw_287 : (Cond.static yL_charge) ∈ gw := gw_mem 287 (by decide +kernel) rfl
set_option maxRecDepth 20000 in
theorem kw_288 : (Cond.codeWith yL_charge cL_charge 4 (some FieldType.int) [(0, 9, 12, 13)]) ∈ gw := gw_mem 288 (by decide +kernel) rfl
set_option maxRecDepth 20000 in
theorem kw_289 : (Cond.methodLink RL 30 yX2_charge) ∈ gw := gw_mem 289 (by decide +kernel) rfl
set_option maxRecDepth 20000 in
theorem kw_290 : (Cond.instanceMethod yX2_charge) ∈ gw := gw_mem 290 (by decide +kernel) rfl
set_option maxRecDepth 20000 in
theorem kw_291 : (Cond.selects RX2 yX2_charge yX2_charge) ∈ gw := gw_mem 291 (by decide +kernel) rfl
set_option maxRecDepth 20000 in
theorem kw_292 : (Cond.code yX2_charge cX2_charge 4 (some FieldType.int)) ∈ gw := gw_mem 292 (by decide +kernel) rfl
set_option maxRecDepth 20000 in
theorem kw_293 : (Cond.methodLink RL 87 yL_loseSendings) ∈ gw := gw_mem 293 (by decide +kernel) rfl
set_option maxRecDepth 20000 in
theorem kw_294 : (Cond.static yL_loseSendings) ∈ gw := gw_mem 294 (by decide +kernel) rfl
set_option maxRecDepth 20000 in
theorem kw_295 : (Cond.codeWith yL_loseSendings cL_loseSendings 5 (some FieldType.int) [(0, 10, 13, 13), (0, 10, 17, 15)]) ∈ gw := gw_mem 295 (by decide +kernel) rfl
set_option maxRecDepth 20000 in
theorem kw_296 : (Cond.methodLink RL 33 yX2_loseSendings) ∈ gw := gw_mem 296 (by decide +kernel) rfl
set_option maxRecDepth 20000 in
theorem kw_297 : (Cond.instanceMethod yX2_loseSendings) ∈ gw := gw_mem 297 (by decide +kernel) rfl
set_option maxRecDepth 20000 in
theorem kw_298 : (Cond.selects RX2 yX2_loseSendings yX2_loseSendings) ∈ gw := gw_mem 298 (by decide +kernel) rfl
set_option maxRecDepth 20000 in
theorem kw_299 : (Cond.code yX2_loseSendings cX2_loseSendings 5 (some FieldType.int)) ∈ gw := gw_mem 299 (by decide +kernel) rfl
set_option maxRecDepth 20000 in
theorem kw_300 : (Cond.methodLink RL 90 yL_loseAnswers) ∈ gw := gw_mem 300 (by decide +kernel) rfl
set_option maxRecDepth 20000 in
theorem kw_301 : (Cond.static yL_loseAnswers) ∈ gw := gw_mem 301 (by decide +kernel) rfl
set_option maxRecDepth 20000 in
theorem kw_302 : (Cond.codeWith yL_loseAnswers cL_loseAnswers 5 (some FieldType.int) [(0, 10, 13, 13), (0, 10, 17, 15)]) ∈ gw := gw_mem 302 (by decide +kernel) rfl
set_option maxRecDepth 20000 in
theorem kw_303 : (Cond.methodLink RL 36 yX2_loseAnswers) ∈ gw := gw_mem 303 (by decide +kernel) rfl
set_option maxRecDepth 20000 in
theorem kw_304 : (Cond.instanceMethod yX2_loseAnswers) ∈ gw := gw_mem 304 (by decide +kernel) rfl
set_option maxRecDepth 20000 in
theorem kw_305 : (Cond.selects RX2 yX2_loseAnswers yX2_loseAnswers) ∈ gw := gw_mem 305 (by decide +kernel) rfl
set_option maxRecDepth 20000 in
theorem kw_306 : (Cond.code yX2_loseAnswers cX2_loseAnswers 5 (some FieldType.int)) ∈ gw := gw_mem 306 (by decide +kernel) rfl
set_option maxRecDepth 20000 in
theorem kw_307 : (Cond.methodLink RL 93 yL_pass) ∈ gw := gw_mem 307 (by decide +kernel) rfl
set_option maxRecDepth 20000 in
theorem kw_308 : (Cond.static yL_pass) ∈ gw := gw_mem 308 (by decide +kernel) rfl
set_option maxRecDepth 20000 in
theorem kw_309 : (Cond.codeWith yL_pass cL_pass 4 (some FieldType.int) [(0, 9, 12, 15), (0, 9, 15, 24)]) ∈ gw := gw_mem 309 (by decide +kernel) rfl
set_option maxRecDepth 20000 in
theorem kw_310 : (Cond.methodLink RL 39 yX2_pass) ∈ gw := gw_mem 310 (by decide +kernel) rfl
set_option maxRecDepth 20000 in
theorem kw_311 : (Cond.instanceMethod yX2_pass) ∈ gw := gw_mem 311 (by decide +kernel) rfl
set_option maxRecDepth 20000 in
theorem kw_312 : (Cond.selects RX2 yX2_pass yX2_pass) ∈ gw := gw_mem 312 (by decide +kernel) rfl
set_option maxRecDepth 20000 in
theorem kw_313 : (Cond.code yX2_pass cX2_pass 4 (some FieldType.int)) ∈ gw := gw_mem 313 (by decide +kernel) rfl
set_option maxRecDepth 20000 in
theorem kw_315 : (Cond.methodLink RX2 82 yX2_passOneMinute) ∈ gw := gw_mem 315 (by decide +kernel) rfl
set_option maxRecDepth 20000 in
theorem kw_317 : (Cond.instanceMethod yX2_passOneMinute) ∈ gw := gw_mem 317 (by decide +kernel) rfl
set_option maxRecDepth 20000 in
theorem kw_318 : (Cond.code yX2_passOneMinute cX2_passOneMinute 4 (some FieldType.int)) ∈ gw := gw_mem 318 (by decide +kernel) rfl
set_option maxRecDepth 20000 in
theorem kw_319 : (Cond.methodLink RX2 128 yX2_nextToSend) ∈ gw := gw_mem 319 (by decide +kernel) rfl
set_option maxRecDepth 20000 in
theorem kw_320 : (Cond.methodLink RX2 131 yX0_getSending) ∈ gw := gw_mem 320 (by decide +kernel) rfl
set_option maxRecDepth 20000 in
theorem kw_321 : (Cond.instanceMethod yX0_getSending) ∈ gw := gw_mem 321 (by decide +kernel) rfl
set_option maxRecDepth 20000 in
theorem kw_322 : (Cond.selects RX0 yX0_getSending yX0_getSending) ∈ gw := gw_mem 322 (by decide +kernel) rfl
set_option maxRecDepth 20000 in
theorem kw_323 : (Cond.code yX0_getSending cX0_getSending 3 none) ∈ gw := gw_mem 323 (by decide +kernel) rfl
set_option maxRecDepth 20000 in
theorem kw_324 : (Cond.methodLink RX0 36 yX0_redraw) ∈ gw := gw_mem 324 (by decide +kernel) rfl
set_option maxRecDepth 20000 in
theorem kw_326 : (Cond.instanceMethod yX0_redraw) ∈ gw := gw_mem 326 (by decide +kernel) rfl
set_option maxRecDepth 20000 in
theorem kw_327 : (Cond.code yX0_redraw cX0_redraw 3 none) ∈ gw := gw_mem 327 (by decide +kernel) rfl
set_option maxRecDepth 20000 in
theorem kw_328 : (Cond.methodLink RX0 43 yX0_changedDigits) ∈ gw := gw_mem 328 (by decide +kernel) rfl
set_option maxRecDepth 20000 in
theorem kw_329 : (Cond.static yX0_changedDigits) ∈ gw := gw_mem 329 (by decide +kernel) rfl
set_option maxRecDepth 20000 in
theorem kw_330 : (Cond.code yX0_changedDigits cX0_changedDigits 5 (some FieldType.int)) ∈ gw := gw_mem 330 (by decide +kernel) rfl
set_option maxRecDepth 20000 in
theorem kw_331 : (Cond.methodLink RX0 40 yX0_answer) ∈ gw := gw_mem 331 (by decide +kernel) rfl
set_option maxRecDepth 20000 in
theorem kw_333 : (Cond.instanceMethod yX0_answer) ∈ gw := gw_mem 333 (by decide +kernel) rfl
set_option maxRecDepth 20000 in
theorem kw_334 : (Cond.code yX0_answer cX0_answer 1 none) ∈ gw := gw_mem 334 (by decide +kernel) rfl
set_option maxRecDepth 20000 in
theorem kw_335 : (Cond.methodLink RX2 135 yX2_endMinute) ∈ gw := gw_mem 335 (by decide +kernel) rfl
set_option maxRecDepth 20000 in
theorem kw_337 : (Cond.instanceMethod yX2_endMinute) ∈ gw := gw_mem 337 (by decide +kernel) rfl
set_option maxRecDepth 20000 in
theorem kw_338 : (Cond.code yX2_endMinute cX2_endMinute 2 none) ∈ gw := gw_mem 338 (by decide +kernel) rfl
set_option maxRecDepth 20000 in
theorem kw_339 : (Cond.methodLink RX2 138 yX1_openMinute) ∈ gw := gw_mem 339 (by decide +kernel) rfl
set_option maxRecDepth 20000 in
theorem kw_340 : (Cond.instanceMethod yX1_openMinute) ∈ gw := gw_mem 340 (by decide +kernel) rfl
set_option maxRecDepth 20000 in
theorem kw_341 : (Cond.selects RX1 yX1_openMinute yX1_openMinute) ∈ gw := gw_mem 341 (by decide +kernel) rfl
set_option maxRecDepth 20000 in
theorem kw_342 : (Cond.code yX1_openMinute cX1_openMinute 2 none) ∈ gw := gw_mem 342 (by decide +kernel) rfl
set_option maxRecDepth 20000 in
theorem kw_343 : (Cond.methodLink RX2 141 yX0_listen) ∈ gw := gw_mem 343 (by decide +kernel) rfl
set_option maxRecDepth 20000 in
theorem kw_344 : (Cond.instanceMethod yX0_listen) ∈ gw := gw_mem 344 (by decide +kernel) rfl
set_option maxRecDepth 20000 in
theorem kw_345 : (Cond.selects RX0 yX0_listen yX0_listen) ∈ gw := gw_mem 345 (by decide +kernel) rfl
set_option maxRecDepth 20000 in
theorem kw_346 : (Cond.code yX0_listen cX0_listen 1 none) ∈ gw := gw_mem 346 (by decide +kernel) rfl
set_option maxRecDepth 20000 in
theorem kw_347 : (Cond.methodLink RX2 144 yX1_note) ∈ gw := gw_mem 347 (by decide +kernel) rfl
set_option maxRecDepth 20000 in
theorem kw_348 : (Cond.instanceMethod yX1_note) ∈ gw := gw_mem 348 (by decide +kernel) rfl
set_option maxRecDepth 20000 in
theorem kw_349 : (Cond.selects RX1 yX1_note yX1_note) ∈ gw := gw_mem 349 (by decide +kernel) rfl
set_option maxRecDepth 20000 in
theorem kw_350 : (Cond.code yX1_note cX1_note 5 none) ∈ gw := gw_mem 350 (by decide +kernel) rfl
set_option maxRecDepth 20000 in
theorem kw_351 : (Cond.methodLink RX1 26 Lib.Math.min.name) ∈ gw := gw_mem 351 (by decide +kernel) rfl
set_option maxRecDepth 20000 in
theorem kw_352 : (Cond.static Lib.Math.min.name) ∈ gw := gw_mem 352 (by decide +kernel) rfl
set_option maxRecDepth 20000 in
theorem kw_353 : (Cond.code Lib.Math.min.name Lib.Math.min.code 2 (some .int)) ∈ gw := gw_mem 353 (by decide +kernel) rfl
set_option maxRecDepth 20000 in
theorem kw_354 : (Cond.methodLink RL 100 yL_order) ∈ gw := gw_mem 354 (by decide +kernel) rfl
set_option maxRecDepth 20000 in
theorem kw_355 : (Cond.static yL_order) ∈ gw := gw_mem 355 (by decide +kernel) rfl
set_option maxRecDepth 20000 in
theorem kw_356 : (Cond.codeWith yL_order cL_order 4 (some FieldType.int) [(0, 9, 12, 13)]) ∈ gw := gw_mem 356 (by decide +kernel) rfl
set_option maxRecDepth 20000 in
theorem kw_357 : (Cond.methodLink RL 42 yX2_order) ∈ gw := gw_mem 357 (by decide +kernel) rfl
set_option maxRecDepth 20000 in
theorem kw_358 : (Cond.instanceMethod yX2_order) ∈ gw := gw_mem 358 (by decide +kernel) rfl
set_option maxRecDepth 20000 in
theorem kw_359 : (Cond.selects RX2 yX2_order yX2_order) ∈ gw := gw_mem 359 (by decide +kernel) rfl
set_option maxRecDepth 20000 in
theorem kw_360 : (Cond.code yX2_order cX2_order 2 (some FieldType.int)) ∈ gw := gw_mem 360 (by decide +kernel) rfl
set_option maxRecDepth 20000 in
theorem kw_361 : (Cond.methodLink RL 111 yL_shown) ∈ gw := gw_mem 361 (by decide +kernel) rfl
set_option maxRecDepth 20000 in
theorem kw_362 : (Cond.static yL_shown) ∈ gw := gw_mem 362 (by decide +kernel) rfl
set_option maxRecDepth 20000 in
theorem kw_363 : (Cond.codeWith yL_shown cL_shown 4 (some FieldType.int) [(0, 9, 12, 13)]) ∈ gw := gw_mem 363 (by decide +kernel) rfl
set_option maxRecDepth 20000 in
theorem kw_364 : (Cond.methodLink RL 45 yX2_shown) ∈ gw := gw_mem 364 (by decide +kernel) rfl
set_option maxRecDepth 20000 in
theorem kw_365 : (Cond.instanceMethod yX2_shown) ∈ gw := gw_mem 365 (by decide +kernel) rfl
set_option maxRecDepth 20000 in
theorem kw_366 : (Cond.selects RX2 yX2_shown yX2_shown) ∈ gw := gw_mem 366 (by decide +kernel) rfl
set_option maxRecDepth 20000 in
theorem kw_367 : (Cond.code yX2_shown cX2_shown 2 (some FieldType.int)) ∈ gw := gw_mem 367 (by decide +kernel) rfl
set_option maxRecDepth 20000 in
theorem kw_368 : (Cond.methodLink RL 114 yL_ghosts) ∈ gw := gw_mem 368 (by decide +kernel) rfl
set_option maxRecDepth 20000 in
theorem kw_369 : (Cond.static yL_ghosts) ∈ gw := gw_mem 369 (by decide +kernel) rfl
set_option maxRecDepth 20000 in
theorem kw_370 : (Cond.codeWith yL_ghosts cL_ghosts 4 (some FieldType.int) [(0, 9, 12, 13)]) ∈ gw := gw_mem 370 (by decide +kernel) rfl
set_option maxRecDepth 20000 in
theorem kw_371 : (Cond.methodLink RL 48 yX2_ghosts) ∈ gw := gw_mem 371 (by decide +kernel) rfl
set_option maxRecDepth 20000 in
theorem kw_372 : (Cond.instanceMethod yX2_ghosts) ∈ gw := gw_mem 372 (by decide +kernel) rfl
set_option maxRecDepth 20000 in
theorem kw_373 : (Cond.selects RX2 yX2_ghosts yX2_ghosts) ∈ gw := gw_mem 373 (by decide +kernel) rfl
set_option maxRecDepth 20000 in
theorem kw_374 : (Cond.code yX2_ghosts cX2_ghosts 2 (some FieldType.int)) ∈ gw := gw_mem 374 (by decide +kernel) rfl
set_option maxRecDepth 20000 in
theorem kw_375 : (Cond.methodLink RL 117 yL_battery) ∈ gw := gw_mem 375 (by decide +kernel) rfl
set_option maxRecDepth 20000 in
theorem kw_376 : (Cond.static yL_battery) ∈ gw := gw_mem 376 (by decide +kernel) rfl
set_option maxRecDepth 20000 in
theorem kw_377 : (Cond.codeWith yL_battery cL_battery 4 (some FieldType.int) [(0, 9, 12, 13)]) ∈ gw := gw_mem 377 (by decide +kernel) rfl
set_option maxRecDepth 20000 in
theorem kw_378 : (Cond.methodLink RL 51 yX2_battery) ∈ gw := gw_mem 378 (by decide +kernel) rfl
set_option maxRecDepth 20000 in
theorem kw_379 : (Cond.instanceMethod yX2_battery) ∈ gw := gw_mem 379 (by decide +kernel) rfl
set_option maxRecDepth 20000 in
theorem kw_380 : (Cond.selects RX2 yX2_battery yX2_battery) ∈ gw := gw_mem 380 (by decide +kernel) rfl
set_option maxRecDepth 20000 in
theorem kw_381 : (Cond.code yX2_battery cX2_battery 2 (some FieldType.int)) ∈ gw := gw_mem 381 (by decide +kernel) rfl
set_option maxRecDepth 20000 in
theorem kw_382 : (Cond.methodLink RL 124 yL_asked) ∈ gw := gw_mem 382 (by decide +kernel) rfl
set_option maxRecDepth 20000 in
theorem kw_383 : (Cond.static yL_asked) ∈ gw := gw_mem 383 (by decide +kernel) rfl
set_option maxRecDepth 20000 in
theorem kw_384 : (Cond.codeWith yL_asked cL_asked 4 (some FieldType.int) [(0, 9, 12, 13)]) ∈ gw := gw_mem 384 (by decide +kernel) rfl
set_option maxRecDepth 20000 in
theorem kw_385 : (Cond.methodLink RL 54 yX2_asked) ∈ gw := gw_mem 385 (by decide +kernel) rfl
set_option maxRecDepth 20000 in
theorem kw_386 : (Cond.instanceMethod yX2_asked) ∈ gw := gw_mem 386 (by decide +kernel) rfl
set_option maxRecDepth 20000 in
theorem kw_387 : (Cond.selects RX2 yX2_asked yX2_asked) ∈ gw := gw_mem 387 (by decide +kernel) rfl
set_option maxRecDepth 20000 in
theorem kw_388 : (Cond.code yX2_asked cX2_asked 3 (some FieldType.int)) ∈ gw := gw_mem 388 (by decide +kernel) rfl
set_option maxRecDepth 20000 in
theorem kw_389 : (Cond.methodLink RX2 97 yX2_leastShownNow) ∈ gw := gw_mem 389 (by decide +kernel) rfl
set_option maxRecDepth 20000 in
theorem kw_391 : (Cond.instanceMethod yX2_leastShownNow) ∈ gw := gw_mem 391 (by decide +kernel) rfl
set_option maxRecDepth 20000 in
theorem kw_392 : (Cond.code yX2_leastShownNow cX2_leastShownNow 4 (some FieldType.int)) ∈ gw := gw_mem 392 (by decide +kernel) rfl
set_option maxRecDepth 20000 in
theorem kw_393 : (Cond.methodLink RX2 104 Lib.Math.min.name) ∈ gw := gw_mem 393 (by decide +kernel) rfl
set_option maxRecDepth 20000 in
theorem kw_394 : (Cond.methodLink RX2 101 yX1_leastOfLastHour) ∈ gw := gw_mem 394 (by decide +kernel) rfl
set_option maxRecDepth 20000 in
theorem kw_395 : (Cond.instanceMethod yX1_leastOfLastHour) ∈ gw := gw_mem 395 (by decide +kernel) rfl
set_option maxRecDepth 20000 in
theorem kw_396 : (Cond.selects RX1 yX1_leastOfLastHour yX1_leastOfLastHour) ∈ gw := gw_mem 396 (by decide +kernel) rfl
set_option maxRecDepth 20000 in
theorem kw_397 : (Cond.code yX1_leastOfLastHour cX1_leastOfLastHour 4 (some FieldType.int)) ∈ gw := gw_mem 397 (by decide +kernel) rfl
set_option maxRecDepth 20000 in
theorem kw_398 : (Cond.methodLink RL 127 yL_leastEver) ∈ gw := gw_mem 398 (by decide +kernel) rfl
set_option maxRecDepth 20000 in
theorem kw_399 : (Cond.static yL_leastEver) ∈ gw := gw_mem 399 (by decide +kernel) rfl
set_option maxRecDepth 20000 in
theorem kw_400 : (Cond.codeWith yL_leastEver cL_leastEver 4 (some FieldType.int) [(0, 9, 12, 13)]) ∈ gw := gw_mem 400 (by decide +kernel) rfl
set_option maxRecDepth 20000 in
theorem kw_401 : (Cond.methodLink RL 57 yX2_leastEver) ∈ gw := gw_mem 401 (by decide +kernel) rfl
set_option maxRecDepth 20000 in
theorem kw_402 : (Cond.instanceMethod yX2_leastEver) ∈ gw := gw_mem 402 (by decide +kernel) rfl
set_option maxRecDepth 20000 in
theorem kw_403 : (Cond.selects RX2 yX2_leastEver yX2_leastEver) ∈ gw := gw_mem 403 (by decide +kernel) rfl
set_option maxRecDepth 20000 in
theorem kw_404 : (Cond.code yX2_leastEver cX2_leastEver 3 (some FieldType.int)) ∈ gw := gw_mem 404 (by decide +kernel) rfl
set_option maxRecDepth 20000 in
theorem kw_405 : (Cond.methodLink RX2 110 yX1_leastOfAllTime) ∈ gw := gw_mem 405 (by decide +kernel) rfl
set_option maxRecDepth 20000 in
theorem kw_406 : (Cond.instanceMethod yX1_leastOfAllTime) ∈ gw := gw_mem 406 (by decide +kernel) rfl
set_option maxRecDepth 20000 in
theorem kw_407 : (Cond.selects RX1 yX1_leastOfAllTime yX1_leastOfAllTime) ∈ gw := gw_mem 407 (by decide +kernel) rfl
set_option maxRecDepth 20000 in
theorem kw_408 : (Cond.code yX1_leastOfAllTime cX1_leastOfAllTime 2 (some FieldType.int)) ∈ gw := gw_mem 408 (by decide +kernel) rfl
set_option maxRecDepth 20000 in
theorem kw_409 : (Cond.classLink RL 61 RX3) ∈ gw := gw_mem 409 (by decide +kernel) rfl
set_option maxRecDepth 20000 in
theorem kw_410 : (Cond.instantiable RX3 15) ∈ gw := gw_mem 410 (by decide +kernel) rfl
set_option maxRecDepth 20000 in
theorem kw_411 : (Cond.methodLink RL 63 yX3_init) ∈ gw := gw_mem 411 (by decide +kernel) rfl
set_option maxRecDepth 20000 in
theorem kw_412 : (Cond.instanceMethod yX3_init) ∈ gw := gw_mem 412 (by decide +kernel) rfl
set_option maxRecDepth 20000 in
theorem kw_413 : (Cond.code yX3_init cX3_init 2 none) ∈ gw := gw_mem 413 (by decide +kernel) rfl
set_option maxRecDepth 20000 in
theorem kw_414 : (Cond.methodLink RX3 1 objectInit) ∈ gw := gw_mem 414 (by decide +kernel) rfl
set_option maxRecDepth 20000 in
theorem kw_415 : (Cond.fieldLink RX3 43 "GlassLabelsModel" "thrown" "I") ∈ gw := gw_mem 415 (by decide +kernel) rfl
set_option maxRecDepth 20000 in
theorem kw_416 : (Cond.fieldLink RX3 57 "GlassLabelsModel" "time" "I") ∈ gw := gw_mem 416 (by decide +kernel) rfl
set_option maxRecDepth 20000 in
theorem kw_417 : (Cond.fieldLink RX3 54 "GlassLabelsModel" "made" "I") ∈ gw := gw_mem 417 (by decide +kernel) rfl
set_option maxRecDepth 20000 in
theorem kw_418 : (Cond.fieldLink RX3 7 "GlassLabelsModel" "prices" "[I") ∈ gw := gw_mem 418 (by decide +kernel) rfl
set_option maxRecDepth 20000 in
theorem kw_419 : (Cond.fieldLink RX3 51 "GlassLabelsModel" "labels" "I") ∈ gw := gw_mem 419 (by decide +kernel) rfl
set_option maxRecDepth 20000 in
theorem kw_420 : (Cond.fieldLink RX3 13 "GlassLabelsModel" "wares" "[I") ∈ gw := gw_mem 420 (by decide +kernel) rfl
set_option maxRecDepth 20000 in
theorem kw_421 : (Cond.fieldLink RX3 16 "GlassLabelsModel" "shown" "[I") ∈ gw := gw_mem 421 (by decide +kernel) rfl
set_option maxRecDepth 20000 in
theorem kw_422 : (Cond.fieldLink RX3 19 "GlassLabelsModel" "ghosts" "[I") ∈ gw := gw_mem 422 (by decide +kernel) rfl
set_option maxRecDepth 20000 in
theorem kw_423 : (Cond.fieldLink RX3 22 "GlassLabelsModel" "batteries" "[I") ∈ gw := gw_mem 423 (by decide +kernel) rfl
set_option maxRecDepth 20000 in
theorem kw_424 : (Cond.fieldLink RX3 25 "GlassLabelsModel" "lostSendings" "[I") ∈ gw := gw_mem 424 (by decide +kernel) rfl
set_option maxRecDepth 20000 in
theorem kw_425 : (Cond.fieldLink RX3 28 "GlassLabelsModel" "lostAnswers" "[I") ∈ gw := gw_mem 425 (by decide +kernel) rfl
set_option maxRecDepth 20000 in
theorem kw_426 : (Cond.fieldLink RX3 31 "GlassLabelsModel" "orders" "[I") ∈ gw := gw_mem 426 (by decide +kernel) rfl
set_option maxRecDepth 20000 in
theorem kw_427 : (Cond.fieldLink RX3 34 "GlassLabelsModel" "dues" "[I") ∈ gw := gw_mem 427 (by decide +kernel) rfl
set_option maxRecDepth 20000 in
theorem kw_428 : (Cond.fieldLink RX3 37 "GlassLabelsModel" "least" "[I") ∈ gw := gw_mem 428 (by decide +kernel) rfl
set_option maxRecDepth 20000 in
theorem kw_429 : (Cond.fieldLink RX3 40 "GlassLabelsModel" "ever" "[I") ∈ gw := gw_mem 429 (by decide +kernel) rfl
set_option maxRecDepth 20000 in
theorem kw_430 : (Cond.lays "GlassLabelsModel" "GlassLabelsModel" "thrown" "I") ∈ gw := gw_mem 430 (by decide +kernel) rfl
set_option maxRecDepth 20000 in
theorem kw_431 : (Cond.soleField "GlassLabelsModel" "thrown") ∈ gw := gw_mem 431 (by decide +kernel) rfl
set_option maxRecDepth 20000 in
theorem kw_432 : (Cond.lays "GlassLabelsModel" "GlassLabelsModel" "time" "I") ∈ gw := gw_mem 432 (by decide +kernel) rfl
set_option maxRecDepth 20000 in
theorem kw_433 : (Cond.soleField "GlassLabelsModel" "time") ∈ gw := gw_mem 433 (by decide +kernel) rfl
set_option maxRecDepth 20000 in
theorem kw_434 : (Cond.lays "GlassLabelsModel" "GlassLabelsModel" "made" "I") ∈ gw := gw_mem 434 (by decide +kernel) rfl
set_option maxRecDepth 20000 in
theorem kw_435 : (Cond.soleField "GlassLabelsModel" "made") ∈ gw := gw_mem 435 (by decide +kernel) rfl
set_option maxRecDepth 20000 in
theorem kw_436 : (Cond.laysFinal "GlassLabelsModel" "GlassLabelsModel" "prices" "[I") ∈ gw := gw_mem 436 (by decide +kernel) rfl
set_option maxRecDepth 20000 in
theorem kw_437 : (Cond.soleField "GlassLabelsModel" "prices") ∈ gw := gw_mem 437 (by decide +kernel) rfl
set_option maxRecDepth 20000 in
theorem kw_438 : (Cond.lays "GlassLabelsModel" "GlassLabelsModel" "labels" "I") ∈ gw := gw_mem 438 (by decide +kernel) rfl
set_option maxRecDepth 20000 in
theorem kw_439 : (Cond.soleField "GlassLabelsModel" "labels") ∈ gw := gw_mem 439 (by decide +kernel) rfl
set_option maxRecDepth 20000 in
theorem kw_440 : (Cond.laysFinal "GlassLabelsModel" "GlassLabelsModel" "wares" "[I") ∈ gw := gw_mem 440 (by decide +kernel) rfl
set_option maxRecDepth 20000 in
theorem kw_441 : (Cond.soleField "GlassLabelsModel" "wares") ∈ gw := gw_mem 441 (by decide +kernel) rfl
set_option maxRecDepth 20000 in
theorem kw_442 : (Cond.laysFinal "GlassLabelsModel" "GlassLabelsModel" "shown" "[I") ∈ gw := gw_mem 442 (by decide +kernel) rfl
set_option maxRecDepth 20000 in
theorem kw_443 : (Cond.soleField "GlassLabelsModel" "shown") ∈ gw := gw_mem 443 (by decide +kernel) rfl
set_option maxRecDepth 20000 in
theorem kw_444 : (Cond.laysFinal "GlassLabelsModel" "GlassLabelsModel" "ghosts" "[I") ∈ gw := gw_mem 444 (by decide +kernel) rfl
set_option maxRecDepth 20000 in
theorem kw_445 : (Cond.soleField "GlassLabelsModel" "ghosts") ∈ gw := gw_mem 445 (by decide +kernel) rfl
set_option maxRecDepth 20000 in
theorem kw_446 : (Cond.laysFinal "GlassLabelsModel" "GlassLabelsModel" "batteries" "[I") ∈ gw := gw_mem 446 (by decide +kernel) rfl
set_option maxRecDepth 20000 in
theorem kw_447 : (Cond.soleField "GlassLabelsModel" "batteries") ∈ gw := gw_mem 447 (by decide +kernel) rfl
set_option maxRecDepth 20000 in
theorem kw_448 : (Cond.laysFinal "GlassLabelsModel" "GlassLabelsModel" "lostSendings" "[I") ∈ gw := gw_mem 448 (by decide +kernel) rfl
set_option maxRecDepth 20000 in
theorem kw_449 : (Cond.soleField "GlassLabelsModel" "lostSendings") ∈ gw := gw_mem 449 (by decide +kernel) rfl
set_option maxRecDepth 20000 in
theorem kw_450 : (Cond.laysFinal "GlassLabelsModel" "GlassLabelsModel" "lostAnswers" "[I") ∈ gw := gw_mem 450 (by decide +kernel) rfl
set_option maxRecDepth 20000 in
theorem kw_451 : (Cond.soleField "GlassLabelsModel" "lostAnswers") ∈ gw := gw_mem 451 (by decide +kernel) rfl
set_option maxRecDepth 20000 in
theorem kw_452 : (Cond.laysFinal "GlassLabelsModel" "GlassLabelsModel" "orders" "[I") ∈ gw := gw_mem 452 (by decide +kernel) rfl
set_option maxRecDepth 20000 in
theorem kw_453 : (Cond.soleField "GlassLabelsModel" "orders") ∈ gw := gw_mem 453 (by decide +kernel) rfl
set_option maxRecDepth 20000 in
theorem kw_454 : (Cond.laysFinal "GlassLabelsModel" "GlassLabelsModel" "dues" "[I") ∈ gw := gw_mem 454 (by decide +kernel) rfl
set_option maxRecDepth 20000 in
theorem kw_455 : (Cond.soleField "GlassLabelsModel" "dues") ∈ gw := gw_mem 455 (by decide +kernel) rfl
set_option maxRecDepth 20000 in
theorem kw_456 : (Cond.laysFinal "GlassLabelsModel" "GlassLabelsModel" "least" "[I") ∈ gw := gw_mem 456 (by decide +kernel) rfl
set_option maxRecDepth 20000 in
theorem kw_457 : (Cond.soleField "GlassLabelsModel" "least") ∈ gw := gw_mem 457 (by decide +kernel) rfl
set_option maxRecDepth 20000 in
theorem kw_458 : (Cond.laysFinal "GlassLabelsModel" "GlassLabelsModel" "ever" "[I") ∈ gw := gw_mem 458 (by decide +kernel) rfl
set_option maxRecDepth 20000 in
theorem kw_459 : (Cond.soleField "GlassLabelsModel" "ever") ∈ gw := gw_mem 459 (by decide +kernel) rfl
set_option maxRecDepth 20000 in
theorem kw_460 : (Cond.superclass "GlassLabelsModel" "java/lang/Object") ∈ gw := gw_mem 460 (by decide +kernel) rfl
set_option maxRecDepth 20000 in
theorem kw_461 : (Cond.methodLink RL 70 yX3_thrown) ∈ gw := gw_mem 461 (by decide +kernel) rfl
set_option maxRecDepth 20000 in
theorem kw_462 : (Cond.instanceMethod yX3_thrown) ∈ gw := gw_mem 462 (by decide +kernel) rfl
set_option maxRecDepth 20000 in
theorem kw_463 : (Cond.selects RX3 yX3_thrown yX3_thrown) ∈ gw := gw_mem 463 (by decide +kernel) rfl
set_option maxRecDepth 20000 in
theorem kw_464 : (Cond.code yX3_thrown cX3_thrown 1 (some FieldType.int)) ∈ gw := gw_mem 464 (by decide +kernel) rfl
set_option maxRecDepth 20000 in
theorem kw_465 : (Cond.methodLink RL 69 yX3_setPrice) ∈ gw := gw_mem 465 (by decide +kernel) rfl
set_option maxRecDepth 20000 in
theorem kw_466 : (Cond.instanceMethod yX3_setPrice) ∈ gw := gw_mem 466 (by decide +kernel) rfl
set_option maxRecDepth 20000 in
theorem kw_467 : (Cond.selects RX3 yX3_setPrice yX3_setPrice) ∈ gw := gw_mem 467 (by decide +kernel) rfl
set_option maxRecDepth 20000 in
theorem kw_468 : (Cond.code yX3_setPrice cX3_setPrice 5 (some FieldType.int)) ∈ gw := gw_mem 468 (by decide +kernel) rfl
set_option maxRecDepth 20000 in
theorem kw_469 : (Cond.methodLink RX3 60 yX3_isWare) ∈ gw := gw_mem 469 (by decide +kernel) rfl
set_option maxRecDepth 20000 in
theorem kw_470 : (Cond.static yX3_isWare) ∈ gw := gw_mem 470 (by decide +kernel) rfl
set_option maxRecDepth 20000 in
theorem kw_471 : (Cond.code yX3_isWare cX3_isWare 1 (some FieldType.boolean)) ∈ gw := gw_mem 471 (by decide +kernel) rfl
set_option maxRecDepth 20000 in
theorem kw_472 : (Cond.methodLink RX3 47 yX3_isIn) ∈ gw := gw_mem 472 (by decide +kernel) rfl
set_option maxRecDepth 20000 in
theorem kw_473 : (Cond.static yX3_isIn) ∈ gw := gw_mem 473 (by decide +kernel) rfl
set_option maxRecDepth 20000 in
theorem kw_474 : (Cond.code yX3_isIn cX3_isIn 3 (some FieldType.boolean)) ∈ gw := gw_mem 474 (by decide +kernel) rfl
set_option maxRecDepth 20000 in
theorem kw_475 : (Cond.methodLink RX3 64 yX3_holds) ∈ gw := gw_mem 475 (by decide +kernel) rfl
set_option maxRecDepth 20000 in
theorem kw_477 : (Cond.instanceMethod yX3_holds) ∈ gw := gw_mem 477 (by decide +kernel) rfl
set_option maxRecDepth 20000 in
theorem kw_478 : (Cond.code yX3_holds cX3_holds 2 (some FieldType.boolean)) ∈ gw := gw_mem 478 (by decide +kernel) rfl
set_option maxRecDepth 20000 in
theorem kw_479 : (Cond.methodLink RX3 67 yX3_gets) ∈ gw := gw_mem 479 (by decide +kernel) rfl
set_option maxRecDepth 20000 in
theorem kw_481 : (Cond.instanceMethod yX3_gets) ∈ gw := gw_mem 481 (by decide +kernel) rfl
set_option maxRecDepth 20000 in
theorem kw_482 : (Cond.code yX3_gets cX3_gets 2 none) ∈ gw := gw_mem 482 (by decide +kernel) rfl
set_option maxRecDepth 20000 in
theorem kw_483 : (Cond.methodLink RL 77 yX3_price) ∈ gw := gw_mem 483 (by decide +kernel) rfl
set_option maxRecDepth 20000 in
theorem kw_484 : (Cond.instanceMethod yX3_price) ∈ gw := gw_mem 484 (by decide +kernel) rfl
set_option maxRecDepth 20000 in
theorem kw_485 : (Cond.selects RX3 yX3_price yX3_price) ∈ gw := gw_mem 485 (by decide +kernel) rfl
set_option maxRecDepth 20000 in
theorem kw_486 : (Cond.code yX3_price cX3_price 2 (some FieldType.int)) ∈ gw := gw_mem 486 (by decide +kernel) rfl
set_option maxRecDepth 20000 in
theorem kw_487 : (Cond.methodLink RL 80 yX3_hang) ∈ gw := gw_mem 487 (by decide +kernel) rfl
set_option maxRecDepth 20000 in
theorem kw_488 : (Cond.instanceMethod yX3_hang) ∈ gw := gw_mem 488 (by decide +kernel) rfl
set_option maxRecDepth 20000 in
theorem kw_489 : (Cond.selects RX3 yX3_hang yX3_hang) ∈ gw := gw_mem 489 (by decide +kernel) rfl
set_option maxRecDepth 20000 in
theorem kw_490 : (Cond.code yX3_hang cX3_hang 3 (some FieldType.int)) ∈ gw := gw_mem 490 (by decide +kernel) rfl
set_option maxRecDepth 20000 in
theorem kw_491 : (Cond.methodLink RL 83 yX3_carry) ∈ gw := gw_mem 491 (by decide +kernel) rfl
set_option maxRecDepth 20000 in
theorem kw_492 : (Cond.instanceMethod yX3_carry) ∈ gw := gw_mem 492 (by decide +kernel) rfl
set_option maxRecDepth 20000 in
theorem kw_493 : (Cond.selects RX3 yX3_carry yX3_carry) ∈ gw := gw_mem 493 (by decide +kernel) rfl
set_option maxRecDepth 20000 in
theorem kw_494 : (Cond.code yX3_carry cX3_carry 4 (some FieldType.boolean)) ∈ gw := gw_mem 494 (by decide +kernel) rfl
set_option maxRecDepth 20000 in
theorem kw_495 : (Cond.methodLink RX3 71 yX3_isLabel) ∈ gw := gw_mem 495 (by decide +kernel) rfl
set_option maxRecDepth 20000 in
theorem kw_497 : (Cond.instanceMethod yX3_isLabel) ∈ gw := gw_mem 497 (by decide +kernel) rfl
set_option maxRecDepth 20000 in
theorem kw_498 : (Cond.code yX3_isLabel cX3_isLabel 2 (some FieldType.boolean)) ∈ gw := gw_mem 498 (by decide +kernel) rfl
set_option maxRecDepth 20000 in
theorem kw_499 : (Cond.methodLink RL 86 yX3_charge) ∈ gw := gw_mem 499 (by decide +kernel) rfl
set_option maxRecDepth 20000 in
theorem kw_500 : (Cond.instanceMethod yX3_charge) ∈ gw := gw_mem 500 (by decide +kernel) rfl
set_option maxRecDepth 20000 in
theorem kw_501 : (Cond.selects RX3 yX3_charge yX3_charge) ∈ gw := gw_mem 501 (by decide +kernel) rfl
set_option maxRecDepth 20000 in
theorem kw_502 : (Cond.code yX3_charge cX3_charge 3 (some FieldType.int)) ∈ gw := gw_mem 502 (by decide +kernel) rfl
set_option maxRecDepth 20000 in
theorem kw_503 : (Cond.methodLink RL 89 yX3_loseSendings) ∈ gw := gw_mem 503 (by decide +kernel) rfl
set_option maxRecDepth 20000 in
theorem kw_504 : (Cond.instanceMethod yX3_loseSendings) ∈ gw := gw_mem 504 (by decide +kernel) rfl
set_option maxRecDepth 20000 in
theorem kw_505 : (Cond.selects RX3 yX3_loseSendings yX3_loseSendings) ∈ gw := gw_mem 505 (by decide +kernel) rfl
set_option maxRecDepth 20000 in
theorem kw_506 : (Cond.code yX3_loseSendings cX3_loseSendings 4 (some FieldType.int)) ∈ gw := gw_mem 506 (by decide +kernel) rfl
set_option maxRecDepth 20000 in
theorem kw_507 : (Cond.methodLink RL 92 yX3_loseAnswers) ∈ gw := gw_mem 507 (by decide +kernel) rfl
set_option maxRecDepth 20000 in
theorem kw_508 : (Cond.instanceMethod yX3_loseAnswers) ∈ gw := gw_mem 508 (by decide +kernel) rfl
set_option maxRecDepth 20000 in
theorem kw_509 : (Cond.selects RX3 yX3_loseAnswers yX3_loseAnswers) ∈ gw := gw_mem 509 (by decide +kernel) rfl
set_option maxRecDepth 20000 in
theorem kw_510 : (Cond.code yX3_loseAnswers cX3_loseAnswers 4 (some FieldType.int)) ∈ gw := gw_mem 510 (by decide +kernel) rfl
set_option maxRecDepth 20000 in
theorem kw_511 : (Cond.methodLink RL 95 yX3_pass) ∈ gw := gw_mem 511 (by decide +kernel) rfl
set_option maxRecDepth 20000 in
theorem kw_512 : (Cond.instanceMethod yX3_pass) ∈ gw := gw_mem 512 (by decide +kernel) rfl
set_option maxRecDepth 20000 in
theorem kw_513 : (Cond.selects RX3 yX3_pass yX3_pass) ∈ gw := gw_mem 513 (by decide +kernel) rfl
set_option maxRecDepth 20000 in
theorem kw_514 : (Cond.code yX3_pass cX3_pass 4 (some FieldType.int)) ∈ gw := gw_mem 514 (by decide +kernel) rfl
set_option maxRecDepth 20000 in
theorem kw_515 : (Cond.methodLink RX3 95 yX3_goes) ∈ gw := gw_mem 515 (by decide +kernel) rfl
set_option maxRecDepth 20000 in
theorem kw_517 : (Cond.instanceMethod yX3_goes) ∈ gw := gw_mem 517 (by decide +kernel) rfl
set_option maxRecDepth 20000 in
theorem kw_518 : (Cond.code yX3_goes cX3_goes 4 (some FieldType.int)) ∈ gw := gw_mem 518 (by decide +kernel) rfl
set_option maxRecDepth 20000 in
theorem kw_519 : (Cond.methodLink RX3 81 yX3_longest) ∈ gw := gw_mem 519 (by decide +kernel) rfl
set_option maxRecDepth 20000 in
theorem kw_521 : (Cond.instanceMethod yX3_longest) ∈ gw := gw_mem 521 (by decide +kernel) rfl
set_option maxRecDepth 20000 in
theorem kw_522 : (Cond.code yX3_longest cX3_longest 5 (some FieldType.int)) ∈ gw := gw_mem 522 (by decide +kernel) rfl
set_option maxRecDepth 20000 in
theorem kw_523 : (Cond.methodLink RX3 85 yX3_sends) ∈ gw := gw_mem 523 (by decide +kernel) rfl
set_option maxRecDepth 20000 in
theorem kw_525 : (Cond.instanceMethod yX3_sends) ∈ gw := gw_mem 525 (by decide +kernel) rfl
set_option maxRecDepth 20000 in
theorem kw_526 : (Cond.code yX3_sends cX3_sends 2 none) ∈ gw := gw_mem 526 (by decide +kernel) rfl
set_option maxRecDepth 20000 in
theorem kw_527 : (Cond.methodLink RX3 78 yX3_redraws) ∈ gw := gw_mem 527 (by decide +kernel) rfl
set_option maxRecDepth 20000 in
theorem kw_529 : (Cond.instanceMethod yX3_redraws) ∈ gw := gw_mem 529 (by decide +kernel) rfl
set_option maxRecDepth 20000 in
theorem kw_530 : (Cond.code yX3_redraws cX3_redraws 5 none) ∈ gw := gw_mem 530 (by decide +kernel) rfl
set_option maxRecDepth 20000 in
theorem kw_531 : (Cond.methodLink RX3 74 yX3_changed) ∈ gw := gw_mem 531 (by decide +kernel) rfl
set_option maxRecDepth 20000 in
theorem kw_532 : (Cond.static yX3_changed) ∈ gw := gw_mem 532 (by decide +kernel) rfl
set_option maxRecDepth 20000 in
theorem kw_533 : (Cond.code yX3_changed cX3_changed 4 (some FieldType.int)) ∈ gw := gw_mem 533 (by decide +kernel) rfl
set_option maxRecDepth 20000 in
theorem kw_534 : (Cond.methodLink RX3 88 yX3_leastNow) ∈ gw := gw_mem 534 (by decide +kernel) rfl
set_option maxRecDepth 20000 in
theorem kw_536 : (Cond.instanceMethod yX3_leastNow) ∈ gw := gw_mem 536 (by decide +kernel) rfl
set_option maxRecDepth 20000 in
theorem kw_537 : (Cond.code yX3_leastNow cX3_leastNow 4 (some FieldType.int)) ∈ gw := gw_mem 537 (by decide +kernel) rfl
set_option maxRecDepth 20000 in
theorem kw_538 : (Cond.methodLink RX3 92 yX3_lesser) ∈ gw := gw_mem 538 (by decide +kernel) rfl
set_option maxRecDepth 20000 in
theorem kw_539 : (Cond.static yX3_lesser) ∈ gw := gw_mem 539 (by decide +kernel) rfl
set_option maxRecDepth 20000 in
theorem kw_540 : (Cond.code yX3_lesser cX3_lesser 2 (some FieldType.int)) ∈ gw := gw_mem 540 (by decide +kernel) rfl
set_option maxRecDepth 20000 in
theorem kw_541 : (Cond.methodLink RL 99 yX3_time) ∈ gw := gw_mem 541 (by decide +kernel) rfl
set_option maxRecDepth 20000 in
theorem kw_542 : (Cond.instanceMethod yX3_time) ∈ gw := gw_mem 542 (by decide +kernel) rfl
set_option maxRecDepth 20000 in
theorem kw_543 : (Cond.selects RX3 yX3_time yX3_time) ∈ gw := gw_mem 543 (by decide +kernel) rfl
set_option maxRecDepth 20000 in
theorem kw_544 : (Cond.code yX3_time cX3_time 1 (some FieldType.int)) ∈ gw := gw_mem 544 (by decide +kernel) rfl
set_option maxRecDepth 20000 in
theorem kw_545 : (Cond.methodLink RL 102 yX3_order) ∈ gw := gw_mem 545 (by decide +kernel) rfl
set_option maxRecDepth 20000 in
theorem kw_546 : (Cond.instanceMethod yX3_order) ∈ gw := gw_mem 546 (by decide +kernel) rfl
set_option maxRecDepth 20000 in
theorem kw_547 : (Cond.selects RX3 yX3_order yX3_order) ∈ gw := gw_mem 547 (by decide +kernel) rfl
set_option maxRecDepth 20000 in
theorem kw_548 : (Cond.code yX3_order cX3_order 2 (some FieldType.int)) ∈ gw := gw_mem 548 (by decide +kernel) rfl
set_option maxRecDepth 20000 in
theorem kw_549 : (Cond.methodLink RL 106 yX3_orders) ∈ gw := gw_mem 549 (by decide +kernel) rfl
set_option maxRecDepth 20000 in
theorem kw_550 : (Cond.instanceMethod yX3_orders) ∈ gw := gw_mem 550 (by decide +kernel) rfl
set_option maxRecDepth 20000 in
theorem kw_551 : (Cond.selects RX3 yX3_orders yX3_orders) ∈ gw := gw_mem 551 (by decide +kernel) rfl
set_option maxRecDepth 20000 in
theorem kw_552 : (Cond.code yX3_orders cX3_orders 3 (some FieldType.int)) ∈ gw := gw_mem 552 (by decide +kernel) rfl
set_option maxRecDepth 20000 in
theorem kw_553 : (Cond.methodLink RL 110 yX3_nextToSend) ∈ gw := gw_mem 553 (by decide +kernel) rfl
set_option maxRecDepth 20000 in
theorem kw_554 : (Cond.instanceMethod yX3_nextToSend) ∈ gw := gw_mem 554 (by decide +kernel) rfl
set_option maxRecDepth 20000 in
theorem kw_555 : (Cond.selects RX3 yX3_nextToSend yX3_nextToSend) ∈ gw := gw_mem 555 (by decide +kernel) rfl
set_option maxRecDepth 20000 in
theorem kw_556 : (Cond.code yX3_nextToSend cX3_nextToSend 1 (some FieldType.int)) ∈ gw := gw_mem 556 (by decide +kernel) rfl
set_option maxRecDepth 20000 in
theorem kw_557 : (Cond.methodLink RL 113 yX3_shown) ∈ gw := gw_mem 557 (by decide +kernel) rfl
set_option maxRecDepth 20000 in
theorem kw_558 : (Cond.instanceMethod yX3_shown) ∈ gw := gw_mem 558 (by decide +kernel) rfl
set_option maxRecDepth 20000 in
theorem kw_559 : (Cond.selects RX3 yX3_shown yX3_shown) ∈ gw := gw_mem 559 (by decide +kernel) rfl
set_option maxRecDepth 20000 in
theorem kw_560 : (Cond.code yX3_shown cX3_shown 2 (some FieldType.int)) ∈ gw := gw_mem 560 (by decide +kernel) rfl
set_option maxRecDepth 20000 in
theorem kw_561 : (Cond.methodLink RL 116 yX3_ghosts) ∈ gw := gw_mem 561 (by decide +kernel) rfl
set_option maxRecDepth 20000 in
theorem kw_562 : (Cond.instanceMethod yX3_ghosts) ∈ gw := gw_mem 562 (by decide +kernel) rfl
set_option maxRecDepth 20000 in
theorem kw_563 : (Cond.selects RX3 yX3_ghosts yX3_ghosts) ∈ gw := gw_mem 563 (by decide +kernel) rfl
set_option maxRecDepth 20000 in
theorem kw_564 : (Cond.code yX3_ghosts cX3_ghosts 2 (some FieldType.int)) ∈ gw := gw_mem 564 (by decide +kernel) rfl
set_option maxRecDepth 20000 in
theorem kw_565 : (Cond.methodLink RL 119 yX3_battery) ∈ gw := gw_mem 565 (by decide +kernel) rfl
set_option maxRecDepth 20000 in
theorem kw_566 : (Cond.instanceMethod yX3_battery) ∈ gw := gw_mem 566 (by decide +kernel) rfl
set_option maxRecDepth 20000 in
theorem kw_567 : (Cond.selects RX3 yX3_battery yX3_battery) ∈ gw := gw_mem 567 (by decide +kernel) rfl
set_option maxRecDepth 20000 in
theorem kw_568 : (Cond.code yX3_battery cX3_battery 2 (some FieldType.int)) ∈ gw := gw_mem 568 (by decide +kernel) rfl
set_option maxRecDepth 20000 in
theorem kw_569 : (Cond.methodLink RL 123 yX3_lies) ∈ gw := gw_mem 569 (by decide +kernel) rfl
set_option maxRecDepth 20000 in
theorem kw_570 : (Cond.instanceMethod yX3_lies) ∈ gw := gw_mem 570 (by decide +kernel) rfl
set_option maxRecDepth 20000 in
theorem kw_571 : (Cond.selects RX3 yX3_lies yX3_lies) ∈ gw := gw_mem 571 (by decide +kernel) rfl
set_option maxRecDepth 20000 in
theorem kw_572 : (Cond.code yX3_lies cX3_lies 3 (some FieldType.int)) ∈ gw := gw_mem 572 (by decide +kernel) rfl
set_option maxRecDepth 20000 in
theorem kw_573 : (Cond.methodLink RL 126 yX3_asked) ∈ gw := gw_mem 573 (by decide +kernel) rfl
set_option maxRecDepth 20000 in
theorem kw_574 : (Cond.instanceMethod yX3_asked) ∈ gw := gw_mem 574 (by decide +kernel) rfl
set_option maxRecDepth 20000 in
theorem kw_575 : (Cond.selects RX3 yX3_asked yX3_asked) ∈ gw := gw_mem 575 (by decide +kernel) rfl
set_option maxRecDepth 20000 in
theorem kw_576 : (Cond.code yX3_asked cX3_asked 4 (some FieldType.int)) ∈ gw := gw_mem 576 (by decide +kernel) rfl
set_option maxRecDepth 20000 in
theorem kw_577 : (Cond.methodLink RL 129 yX3_leastEver) ∈ gw := gw_mem 577 (by decide +kernel) rfl
set_option maxRecDepth 20000 in
theorem kw_578 : (Cond.instanceMethod yX3_leastEver) ∈ gw := gw_mem 578 (by decide +kernel) rfl
set_option maxRecDepth 20000 in
theorem kw_579 : (Cond.selects RX3 yX3_leastEver yX3_leastEver) ∈ gw := gw_mem 579 (by decide +kernel) rfl
set_option maxRecDepth 20000 in
theorem kw_580 : (Cond.code yX3_leastEver cX3_leastEver 2 (some FieldType.int)) ∈ gw := gw_mem 580 (by decide +kernel) rfl
set_option maxRecDepth 20000 in
theorem kw_581 : (Cond.arrayClass FieldType.long) ∈ gw := gw_mem 581 (by decide +kernel) rfl
set_option maxRecDepth 20000 in
theorem kw_582 : (Cond.sameMethod "java/lang/Throwable" "java/lang/Throwable" "fillInStackTrace" "(I)Ljava/lang/Throwable;") ∈ gw := gw_mem 582 (by decide +kernel) rfl
