/-! the words that every method has: the good ones of the tables, each by its place -/
def gw : List Cond := lw_tbl.filter goodWord
theorem gw_mem {w : Cond} (i : Nat) (h : lw_tbl[i]? = some w) (hg : goodWord w = true) : w ∈ gw := List.mem_filter.mpr ⟨List.mem_of_getElem? h, hg⟩
theorem gw_good : GoodIn gw gw := fun w h => ⟨h, good_of_word (List.mem_filter.mp h).2⟩
set_option maxRecDepth 20000 in
theorem kw_0 : (Cond.selects "java/lang/Throwable" ⟨"java/lang/Throwable", "fillInStackTrace", "(I)Ljava/lang/Throwable;"⟩ ⟨"java/lang/Throwable", "fillInStackTrace", "(I)Ljava/lang/Throwable;"⟩) ∈ gw := gw_mem 0 (by decide +kernel) rfl
set_option maxRecDepth 20000 in
theorem kw_1 : (Cond.selects RX2 yX2_leastShownNow yX2_leastShownNow) ∈ gw := gw_mem 1 (by decide +kernel) rfl
set_option maxRecDepth 20000 in
theorem kw_2 : (Cond.selects RX2 yX2_labelOf yX2_labelOf) ∈ gw := gw_mem 2 (by decide +kernel) rfl
set_option maxRecDepth 20000 in
theorem kw_3 : (Cond.selects RX2 yX2_giveOrder yX2_giveOrder) ∈ gw := gw_mem 3 (by decide +kernel) rfl
set_option maxRecDepth 20000 in
theorem kw_4 : (Cond.selects RX2 yX2_passOneMinute yX2_passOneMinute) ∈ gw := gw_mem 4 (by decide +kernel) rfl
set_option maxRecDepth 20000 in
theorem kw_5 : (Cond.selects RX0 yX0_redraw yX0_redraw) ∈ gw := gw_mem 5 (by decide +kernel) rfl
set_option maxRecDepth 20000 in
theorem kw_6 : (Cond.selects RX0 yX0_answer yX0_answer) ∈ gw := gw_mem 6 (by decide +kernel) rfl
set_option maxRecDepth 20000 in
theorem kw_7 : (Cond.selects RX2 yX2_endMinute yX2_endMinute) ∈ gw := gw_mem 7 (by decide +kernel) rfl
set_option maxRecDepth 20000 in
theorem kw_8 : (Cond.initialized RL) ∈ gw := gw_mem 8 (by decide +kernel) rfl
set_option maxRecDepth 20000 in
theorem kw_9 : (Cond.initialized RX2) ∈ gw := gw_mem 9 (by decide +kernel) rfl
set_option maxRecDepth 20000 in
theorem kw_10 : (Cond.initialized RX1) ∈ gw := gw_mem 10 (by decide +kernel) rfl
set_option maxRecDepth 20000 in
theorem kw_11 : (Cond.initialized "java/util/Arrays") ∈ gw := gw_mem 11 (by decide +kernel) rfl
set_option maxRecDepth 20000 in
theorem kw_12 : (Cond.initialized RX0) ∈ gw := gw_mem 12 (by decide +kernel) rfl
set_option maxRecDepth 20000 in
theorem kw_13 : (Cond.initialized "java/lang/Throwable") ∈ gw := gw_mem 13 (by decide +kernel) rfl
set_option maxRecDepth 20000 in
theorem kw_14 : (Cond.initialized "java/lang/Exception") ∈ gw := gw_mem 14 (by decide +kernel) rfl
set_option maxRecDepth 20000 in
theorem kw_15 : (Cond.initialized "java/lang/RuntimeException") ∈ gw := gw_mem 15 (by decide +kernel) rfl
set_option maxRecDepth 20000 in
theorem kw_16 : (Cond.initialized "java/lang/IndexOutOfBoundsException") ∈ gw := gw_mem 16 (by decide +kernel) rfl
set_option maxRecDepth 20000 in
theorem kw_17 : (Cond.initialized "java/lang/Math") ∈ gw := gw_mem 17 (by decide +kernel) rfl
set_option maxRecDepth 20000 in
theorem kw_18 : (Cond.initialized "java/lang/IllegalStateException") ∈ gw := gw_mem 18 (by decide +kernel) rfl
set_option maxRecDepth 20000 in
theorem kw_19 : (Cond.initialized "java/lang/IllegalArgumentException") ∈ gw := gw_mem 19 (by decide +kernel) rfl
set_option maxRecDepth 20000 in
theorem kw_20 : (Cond.classLink RL 11 RX2) ∈ gw := gw_mem 20 (by decide +kernel) rfl
set_option maxRecDepth 20000 in
theorem kw_21 : (Cond.instantiable RX2 6) ∈ gw := gw_mem 21 (by decide +kernel) rfl
set_option maxRecDepth 20000 in
theorem kw_22 : (Cond.methodLink RL 89 yX2_init) ∈ gw := gw_mem 22 (by decide +kernel) rfl
set_option maxRecDepth 20000 in
theorem kw_23 : (Cond.instanceMethod yX2_init) ∈ gw := gw_mem 23 (by decide +kernel) rfl
set_option maxRecDepth 20000 in
theorem kw_24 : (Cond.code yX2_init cX2_init 2 none) ∈ gw := gw_mem 24 (by decide +kernel) rfl
set_option maxRecDepth 20000 in
theorem kw_25 : (Cond.methodLink RX2 1 objectInit) ∈ gw := gw_mem 25 (by decide +kernel) rfl
set_option maxRecDepth 20000 in
theorem kw_26 : (Cond.instanceMethod objectInit) ∈ gw := gw_mem 26 (by decide +kernel) rfl
set_option maxRecDepth 20000 in
theorem kw_27 : (Cond.code objectInit ⟨#[0xb1]⟩ 1 none) ∈ gw := gw_mem 27 (by decide +kernel) rfl
set_option maxRecDepth 20000 in
theorem kw_28 : (Cond.classLink RX2 13 RX0) ∈ gw := gw_mem 28 (by decide +kernel) rfl
set_option maxRecDepth 20000 in
theorem kw_30 : (Cond.classLink RX2 19 RX1) ∈ gw := gw_mem 30 (by decide +kernel) rfl
set_option maxRecDepth 20000 in
theorem kw_31 : (Cond.instantiable RX1 2) ∈ gw := gw_mem 31 (by decide +kernel) rfl
set_option maxRecDepth 20000 in
theorem kw_32 : (Cond.methodLink RX2 21 yX1_init) ∈ gw := gw_mem 32 (by decide +kernel) rfl
set_option maxRecDepth 20000 in
theorem kw_33 : (Cond.instanceMethod yX1_init) ∈ gw := gw_mem 33 (by decide +kernel) rfl
set_option maxRecDepth 20000 in
theorem kw_34 : (Cond.code yX1_init cX1_init 2 none) ∈ gw := gw_mem 34 (by decide +kernel) rfl
set_option maxRecDepth 20000 in
theorem kw_35 : (Cond.methodLink RX1 3 objectInit) ∈ gw := gw_mem 35 (by decide +kernel) rfl
set_option maxRecDepth 20000 in
theorem kw_36 : (Cond.classLink RX1 11 "[[I") ∈ gw := gw_mem 36 (by decide +kernel) rfl
set_option maxRecDepth 20000 in
theorem kw_38 : (Cond.methodLink RX1 20 yJ7_fill_53178) ∈ gw := gw_mem 38 (by decide +kernel) rfl
set_option maxRecDepth 20000 in
theorem kw_39 : (Cond.static yJ7_fill_53178) ∈ gw := gw_mem 39 (by decide +kernel) rfl
set_option maxRecDepth 20000 in
theorem kw_40 : (Cond.code yJ7_fill_53178 cJ7_fill_53178 4 none) ∈ gw := gw_mem 40 (by decide +kernel) rfl
set_option maxRecDepth 20000 in
theorem kw_41 : (Cond.fieldLink RX1 13 "GlassLabels$Memory" "leastAtEnd" "[[I") ∈ gw := gw_mem 41 (by decide +kernel) rfl
set_option maxRecDepth 20000 in
theorem kw_42 : (Cond.fieldLink RX1 16 "GlassLabels$Memory" "leastEnded" "[I") ∈ gw := gw_mem 42 (by decide +kernel) rfl
set_option maxRecDepth 20000 in
theorem kw_43 : (Cond.laysFinal "GlassLabels$Memory" "GlassLabels$Memory" "leastAtEnd" "[[I") ∈ gw := gw_mem 43 (by decide +kernel) rfl
set_option maxRecDepth 20000 in
theorem kw_44 : (Cond.soleField "GlassLabels$Memory" "leastAtEnd") ∈ gw := gw_mem 44 (by decide +kernel) rfl
set_option maxRecDepth 20000 in
theorem kw_45 : (Cond.laysFinal "GlassLabels$Memory" "GlassLabels$Memory" "leastEnded" "[I") ∈ gw := gw_mem 45 (by decide +kernel) rfl
set_option maxRecDepth 20000 in
theorem kw_46 : (Cond.soleField "GlassLabels$Memory" "leastEnded") ∈ gw := gw_mem 46 (by decide +kernel) rfl
set_option maxRecDepth 20000 in
theorem kw_47 : (Cond.superclass "GlassLabels$Memory" "java/lang/Object") ∈ gw := gw_mem 47 (by decide +kernel) rfl
set_option maxRecDepth 20000 in
theorem kw_48 : (Cond.arrayClass FieldType.int) ∈ gw := gw_mem 48 (by decide +kernel) rfl
set_option maxRecDepth 20000 in
theorem kw_49 : (Cond.instantiable RX0 8) ∈ gw := gw_mem 49 (by decide +kernel) rfl
set_option maxRecDepth 20000 in
theorem kw_51 : (Cond.instanceMethod yX0_init) ∈ gw := gw_mem 51 (by decide +kernel) rfl
set_option maxRecDepth 20000 in
theorem kw_52 : (Cond.code yX0_init cX0_init 1 none) ∈ gw := gw_mem 52 (by decide +kernel) rfl
set_option maxRecDepth 20000 in
theorem kw_53 : (Cond.methodLink RX0 3 objectInit) ∈ gw := gw_mem 53 (by decide +kernel) rfl
set_option maxRecDepth 20000 in
theorem kw_54 : (Cond.fieldLink RX0 9 "GlassLabels$Label" "ware" "I") ∈ gw := gw_mem 54 (by decide +kernel) rfl
set_option maxRecDepth 20000 in
theorem kw_55 : (Cond.fieldLink RX2 45 "GlassLabels$Label" "ware" "I") ∈ gw := gw_mem 55 (by decide +kernel) rfl
set_option maxRecDepth 20000 in
theorem kw_56 : (Cond.fieldLink RX0 15 "GlassLabels$Label" "shown" "I") ∈ gw := gw_mem 56 (by decide +kernel) rfl
set_option maxRecDepth 20000 in
theorem kw_57 : (Cond.fieldLink RX2 59 "GlassLabels$Label" "shown" "I") ∈ gw := gw_mem 57 (by decide +kernel) rfl
set_option maxRecDepth 20000 in
theorem kw_58 : (Cond.fieldLink RX0 18 "GlassLabels$Label" "ghosts" "I") ∈ gw := gw_mem 58 (by decide +kernel) rfl
set_option maxRecDepth 20000 in
theorem kw_59 : (Cond.fieldLink RX2 94 "GlassLabels$Label" "ghosts" "I") ∈ gw := gw_mem 59 (by decide +kernel) rfl
set_option maxRecDepth 20000 in
theorem kw_60 : (Cond.fieldLink RX0 21 "GlassLabels$Label" "battery" "I") ∈ gw := gw_mem 60 (by decide +kernel) rfl
set_option maxRecDepth 20000 in
theorem kw_61 : (Cond.fieldLink RX2 71 "GlassLabels$Label" "battery" "I") ∈ gw := gw_mem 61 (by decide +kernel) rfl
set_option maxRecDepth 20000 in
theorem kw_62 : (Cond.fieldLink RX0 24 "GlassLabels$Label" "order" "I") ∈ gw := gw_mem 62 (by decide +kernel) rfl
set_option maxRecDepth 20000 in
theorem kw_63 : (Cond.fieldLink RX2 68 "GlassLabels$Label" "order" "I") ∈ gw := gw_mem 63 (by decide +kernel) rfl
set_option maxRecDepth 20000 in
theorem kw_64 : (Cond.fieldLink RX0 27 "GlassLabels$Label" "dueSince" "I") ∈ gw := gw_mem 64 (by decide +kernel) rfl
set_option maxRecDepth 20000 in
theorem kw_65 : (Cond.fieldLink RX2 125 "GlassLabels$Label" "dueSince" "I") ∈ gw := gw_mem 65 (by decide +kernel) rfl
set_option maxRecDepth 20000 in
theorem kw_66 : (Cond.fieldLink RX0 30 "GlassLabels$Label" "sendingsToLose" "I") ∈ gw := gw_mem 66 (by decide +kernel) rfl
set_option maxRecDepth 20000 in
theorem kw_67 : (Cond.fieldLink RX2 74 "GlassLabels$Label" "sendingsToLose" "I") ∈ gw := gw_mem 67 (by decide +kernel) rfl
set_option maxRecDepth 20000 in
theorem kw_68 : (Cond.fieldLink RX0 33 "GlassLabels$Label" "answersToLose" "I") ∈ gw := gw_mem 68 (by decide +kernel) rfl
set_option maxRecDepth 20000 in
theorem kw_69 : (Cond.fieldLink RX2 77 "GlassLabels$Label" "answersToLose" "I") ∈ gw := gw_mem 69 (by decide +kernel) rfl
set_option maxRecDepth 20000 in
theorem kw_70 : (Cond.lays "GlassLabels$Label" "GlassLabels$Label" "ware" "I") ∈ gw := gw_mem 70 (by decide +kernel) rfl
set_option maxRecDepth 20000 in
theorem kw_71 : (Cond.soleField "GlassLabels$Label" "ware") ∈ gw := gw_mem 71 (by decide +kernel) rfl
set_option maxRecDepth 20000 in
theorem kw_72 : (Cond.lays "GlassLabels$Label" "GlassLabels$Label" "shown" "I") ∈ gw := gw_mem 72 (by decide +kernel) rfl
set_option maxRecDepth 20000 in
theorem kw_73 : (Cond.soleField "GlassLabels$Label" "shown") ∈ gw := gw_mem 73 (by decide +kernel) rfl
set_option maxRecDepth 20000 in
theorem kw_74 : (Cond.lays "GlassLabels$Label" "GlassLabels$Label" "ghosts" "I") ∈ gw := gw_mem 74 (by decide +kernel) rfl
set_option maxRecDepth 20000 in
theorem kw_75 : (Cond.soleField "GlassLabels$Label" "ghosts") ∈ gw := gw_mem 75 (by decide +kernel) rfl
set_option maxRecDepth 20000 in
theorem kw_76 : (Cond.lays "GlassLabels$Label" "GlassLabels$Label" "battery" "I") ∈ gw := gw_mem 76 (by decide +kernel) rfl
set_option maxRecDepth 20000 in
theorem kw_77 : (Cond.soleField "GlassLabels$Label" "battery") ∈ gw := gw_mem 77 (by decide +kernel) rfl
set_option maxRecDepth 20000 in
theorem kw_78 : (Cond.lays "GlassLabels$Label" "GlassLabels$Label" "order" "I") ∈ gw := gw_mem 78 (by decide +kernel) rfl
set_option maxRecDepth 20000 in
theorem kw_79 : (Cond.soleField "GlassLabels$Label" "order") ∈ gw := gw_mem 79 (by decide +kernel) rfl
set_option maxRecDepth 20000 in
theorem kw_80 : (Cond.lays "GlassLabels$Label" "GlassLabels$Label" "dueSince" "I") ∈ gw := gw_mem 80 (by decide +kernel) rfl
set_option maxRecDepth 20000 in
theorem kw_81 : (Cond.soleField "GlassLabels$Label" "dueSince") ∈ gw := gw_mem 81 (by decide +kernel) rfl
set_option maxRecDepth 20000 in
theorem kw_82 : (Cond.lays "GlassLabels$Label" "GlassLabels$Label" "sendingsToLose" "I") ∈ gw := gw_mem 82 (by decide +kernel) rfl
set_option maxRecDepth 20000 in
theorem kw_83 : (Cond.soleField "GlassLabels$Label" "sendingsToLose") ∈ gw := gw_mem 83 (by decide +kernel) rfl
set_option maxRecDepth 20000 in
theorem kw_84 : (Cond.lays "GlassLabels$Label" "GlassLabels$Label" "answersToLose" "I") ∈ gw := gw_mem 84 (by decide +kernel) rfl
set_option maxRecDepth 20000 in
theorem kw_85 : (Cond.soleField "GlassLabels$Label" "answersToLose") ∈ gw := gw_mem 85 (by decide +kernel) rfl
set_option maxRecDepth 20000 in
theorem kw_86 : (Cond.superclass "GlassLabels$Label" "java/lang/Object") ∈ gw := gw_mem 86 (by decide +kernel) rfl
set_option maxRecDepth 20000 in
theorem kw_87 : (Cond.fieldLink RX2 9 "GlassLabels" "prices" "[I") ∈ gw := gw_mem 87 (by decide +kernel) rfl
set_option maxRecDepth 20000 in
theorem kw_88 : (Cond.fieldLink RX2 15 "GlassLabels" "labels" "[LGlassLabels$Label;") ∈ gw := gw_mem 88 (by decide +kernel) rfl
set_option maxRecDepth 20000 in
theorem kw_89 : (Cond.fieldLink RX2 22 "GlassLabels" "memory" "LGlassLabels$Memory;") ∈ gw := gw_mem 89 (by decide +kernel) rfl
set_option maxRecDepth 20000 in
theorem kw_90 : (Cond.fieldLink RX2 26 "GlassLabels" "hung" "I") ∈ gw := gw_mem 90 (by decide +kernel) rfl
set_option maxRecDepth 20000 in
theorem kw_91 : (Cond.fieldLink RX2 30 "GlassLabels" "now" "I") ∈ gw := gw_mem 91 (by decide +kernel) rfl
set_option maxRecDepth 20000 in
theorem kw_92 : (Cond.fieldLink RX2 33 "GlassLabels" "lastOrder" "I") ∈ gw := gw_mem 92 (by decide +kernel) rfl
set_option maxRecDepth 20000 in
theorem kw_93 : (Cond.laysFinal "GlassLabels" "GlassLabels" "prices" "[I") ∈ gw := gw_mem 93 (by decide +kernel) rfl
set_option maxRecDepth 20000 in
theorem kw_94 : (Cond.soleField "GlassLabels" "prices") ∈ gw := gw_mem 94 (by decide +kernel) rfl
set_option maxRecDepth 20000 in
theorem kw_95 : (Cond.laysFinal "GlassLabels" "GlassLabels" "labels" "[LGlassLabels$Label;") ∈ gw := gw_mem 95 (by decide +kernel) rfl
set_option maxRecDepth 20000 in
theorem kw_96 : (Cond.soleField "GlassLabels" "labels") ∈ gw := gw_mem 96 (by decide +kernel) rfl
set_option maxRecDepth 20000 in
theorem kw_97 : (Cond.laysFinal "GlassLabels" "GlassLabels" "memory" "LGlassLabels$Memory;") ∈ gw := gw_mem 97 (by decide +kernel) rfl
set_option maxRecDepth 20000 in
theorem kw_98 : (Cond.soleField "GlassLabels" "memory") ∈ gw := gw_mem 98 (by decide +kernel) rfl
set_option maxRecDepth 20000 in
theorem kw_99 : (Cond.lays "GlassLabels" "GlassLabels" "hung" "I") ∈ gw := gw_mem 99 (by decide +kernel) rfl
set_option maxRecDepth 20000 in
theorem kw_100 : (Cond.soleField "GlassLabels" "hung") ∈ gw := gw_mem 100 (by decide +kernel) rfl
set_option maxRecDepth 20000 in
theorem kw_101 : (Cond.lays "GlassLabels" "GlassLabels" "now" "I") ∈ gw := gw_mem 101 (by decide +kernel) rfl
set_option maxRecDepth 20000 in
theorem kw_102 : (Cond.soleField "GlassLabels" "now") ∈ gw := gw_mem 102 (by decide +kernel) rfl
set_option maxRecDepth 20000 in
theorem kw_103 : (Cond.lays "GlassLabels" "GlassLabels" "lastOrder" "I") ∈ gw := gw_mem 103 (by decide +kernel) rfl
set_option maxRecDepth 20000 in
theorem kw_104 : (Cond.soleField "GlassLabels" "lastOrder") ∈ gw := gw_mem 104 (by decide +kernel) rfl
set_option maxRecDepth 20000 in
theorem kw_105 : (Cond.superclass "GlassLabels" "java/lang/Object") ∈ gw := gw_mem 105 (by decide +kernel) rfl
set_option maxRecDepth 20000 in
theorem kw_106 : (Cond.methodLink RL 10 yX2_time) ∈ gw := gw_mem 106 (by decide +kernel) rfl
set_option maxRecDepth 20000 in
theorem kw_107 : (Cond.instanceMethod yX2_time) ∈ gw := gw_mem 107 (by decide +kernel) rfl
set_option maxRecDepth 20000 in
theorem kw_108 : (Cond.selects RX2 yX2_time yX2_time) ∈ gw := gw_mem 108 (by decide +kernel) rfl
set_option maxRecDepth 20000 in
theorem kw_109 : (Cond.code yX2_time cX2_time 1 (some FieldType.int)) ∈ gw := gw_mem 109 (by decide +kernel) rfl
set_option maxRecDepth 20000 in
theorem kw_110 : (Cond.methodLink RL 68 yX2_orders) ∈ gw := gw_mem 110 (by decide +kernel) rfl
set_option maxRecDepth 20000 in
theorem kw_111 : (Cond.instanceMethod yX2_orders) ∈ gw := gw_mem 111 (by decide +kernel) rfl
set_option maxRecDepth 20000 in
theorem kw_112 : (Cond.selects RX2 yX2_orders yX2_orders) ∈ gw := gw_mem 112 (by decide +kernel) rfl
set_option maxRecDepth 20000 in
theorem kw_113 : (Cond.code yX2_orders cX2_orders 3 (some FieldType.int)) ∈ gw := gw_mem 113 (by decide +kernel) rfl
set_option maxRecDepth 20000 in
theorem kw_114 : (Cond.methodLink RL 51 yX2_nextToSend) ∈ gw := gw_mem 114 (by decide +kernel) rfl
set_option maxRecDepth 20000 in
theorem kw_115 : (Cond.instanceMethod yX2_nextToSend) ∈ gw := gw_mem 115 (by decide +kernel) rfl
set_option maxRecDepth 20000 in
theorem kw_116 : (Cond.selects RX2 yX2_nextToSend yX2_nextToSend) ∈ gw := gw_mem 116 (by decide +kernel) rfl
set_option maxRecDepth 20000 in
theorem kw_117 : (Cond.code yX2_nextToSend cX2_nextToSend 3 (some FieldType.int)) ∈ gw := gw_mem 117 (by decide +kernel) rfl
set_option maxRecDepth 20000 in
theorem kw_118 : (Cond.methodLink RX2 86 yX0_isDue) ∈ gw := gw_mem 118 (by decide +kernel) rfl
set_option maxRecDepth 20000 in
theorem kw_119 : (Cond.instanceMethod yX0_isDue) ∈ gw := gw_mem 119 (by decide +kernel) rfl
set_option maxRecDepth 20000 in
theorem kw_120 : (Cond.selects RX0 yX0_isDue yX0_isDue) ∈ gw := gw_mem 120 (by decide +kernel) rfl
set_option maxRecDepth 20000 in
theorem kw_121 : (Cond.code yX0_isDue cX0_isDue 2 (some FieldType.boolean)) ∈ gw := gw_mem 121 (by decide +kernel) rfl
set_option maxRecDepth 20000 in
theorem kw_122 : (Cond.methodLink RX2 90 yX0_isSentBefore) ∈ gw := gw_mem 122 (by decide +kernel) rfl
set_option maxRecDepth 20000 in
theorem kw_123 : (Cond.instanceMethod yX0_isSentBefore) ∈ gw := gw_mem 123 (by decide +kernel) rfl
set_option maxRecDepth 20000 in
theorem kw_124 : (Cond.selects RX0 yX0_isSentBefore yX0_isSentBefore) ∈ gw := gw_mem 124 (by decide +kernel) rfl
set_option maxRecDepth 20000 in
theorem kw_125 : (Cond.code yX0_isSentBefore cX0_isSentBefore 2 (some FieldType.boolean)) ∈ gw := gw_mem 125 (by decide +kernel) rfl
set_option maxRecDepth 20000 in
theorem kw_126 : (Cond.methodLink RL 83 yX2_asked) ∈ gw := gw_mem 126 (by decide +kernel) rfl
set_option maxRecDepth 20000 in
theorem kw_127 : (Cond.instanceMethod yX2_asked) ∈ gw := gw_mem 127 (by decide +kernel) rfl
set_option maxRecDepth 20000 in
theorem kw_128 : (Cond.selects RX2 yX2_asked yX2_asked) ∈ gw := gw_mem 128 (by decide +kernel) rfl
set_option maxRecDepth 20000 in
theorem kw_129 : (Cond.code yX2_asked cX2_asked 3 (some FieldType.int)) ∈ gw := gw_mem 129 (by decide +kernel) rfl
set_option maxRecDepth 20000 in
theorem kw_130 : (Cond.methodLink RX2 37 yX2_needWare) ∈ gw := gw_mem 130 (by decide +kernel) rfl
set_option maxRecDepth 20000 in
theorem kw_131 : (Cond.static yX2_needWare) ∈ gw := gw_mem 131 (by decide +kernel) rfl
set_option maxRecDepth 20000 in
theorem kw_132 : (Cond.code yX2_needWare cX2_needWare 1 none) ∈ gw := gw_mem 132 (by decide +kernel) rfl
set_option maxRecDepth 20000 in
theorem kw_133 : (Cond.classLink RX2 113 "java/lang/IndexOutOfBoundsException") ∈ gw := gw_mem 133 (by decide +kernel) rfl
set_option maxRecDepth 20000 in
theorem kw_134 : (Cond.instantiable "java/lang/IndexOutOfBoundsException" 6) ∈ gw := gw_mem 134 (by decide +kernel) rfl
set_option maxRecDepth 20000 in
theorem kw_142 : (Cond.selects "java/lang/IndexOutOfBoundsException" ⟨"java/lang/Throwable", "fillInStackTrace", "(I)Ljava/lang/Throwable;"⟩ ⟨"java/lang/Throwable", "fillInStackTrace", "(I)Ljava/lang/Throwable;"⟩) ∈ gw := gw_mem 142 (by decide +kernel) rfl
set_option maxRecDepth 20000 in
theorem kw_143 : (Cond.selects "java/lang/IndexOutOfBoundsException" ⟨"java/lang/Throwable", "fillInStackTrace", "()Ljava/lang/Throwable;"⟩ ⟨"java/lang/Throwable", "fillInStackTrace", "()Ljava/lang/Throwable;"⟩) ∈ gw := gw_mem 143 (by decide +kernel) rfl
set_option maxRecDepth 20000 in
theorem kw_144 : (Cond.lays "java/lang/IndexOutOfBoundsException" "java/lang/Throwable" "cause" "Ljava/lang/Throwable;") ∈ gw := gw_mem 144 (by decide +kernel) rfl
set_option maxRecDepth 20000 in
theorem kw_145 : (Cond.lays "java/lang/Throwable" "java/lang/Throwable" "cause" "Ljava/lang/Throwable;") ∈ gw := gw_mem 145 (by decide +kernel) rfl
set_option maxRecDepth 20000 in
theorem kw_146 : (Cond.lays "java/lang/IndexOutOfBoundsException" "java/lang/Throwable" "stackTrace" "[Ljava/lang/StackTraceElement;") ∈ gw := gw_mem 146 (by decide +kernel) rfl
set_option maxRecDepth 20000 in
theorem kw_147 : (Cond.lays "java/lang/Throwable" "java/lang/Throwable" "stackTrace" "[Ljava/lang/StackTraceElement;") ∈ gw := gw_mem 147 (by decide +kernel) rfl
set_option maxRecDepth 20000 in
theorem kw_148 : (Cond.lays "java/lang/IndexOutOfBoundsException" "java/lang/Throwable" "suppressedExceptions" "Ljava/util/List;") ∈ gw := gw_mem 148 (by decide +kernel) rfl
set_option maxRecDepth 20000 in
theorem kw_149 : (Cond.lays "java/lang/Throwable" "java/lang/Throwable" "suppressedExceptions" "Ljava/util/List;") ∈ gw := gw_mem 149 (by decide +kernel) rfl
set_option maxRecDepth 20000 in
theorem kw_150 : (Cond.lays "java/lang/IndexOutOfBoundsException" "java/lang/Throwable" "detailMessage" "Ljava/lang/String;") ∈ gw := gw_mem 150 (by decide +kernel) rfl
set_option maxRecDepth 20000 in
theorem kw_151 : (Cond.lays "java/lang/Throwable" "java/lang/Throwable" "detailMessage" "Ljava/lang/String;") ∈ gw := gw_mem 151 (by decide +kernel) rfl
set_option maxRecDepth 20000 in
theorem kw_152 : (Cond.lays "java/lang/IndexOutOfBoundsException" "java/lang/Throwable" "backtrace" "Ljava/lang/Object;") ∈ gw := gw_mem 152 (by decide +kernel) rfl
set_option maxRecDepth 20000 in
theorem kw_153 : (Cond.lays "java/lang/Throwable" "java/lang/Throwable" "backtrace" "Ljava/lang/Object;") ∈ gw := gw_mem 153 (by decide +kernel) rfl
set_option maxRecDepth 20000 in
theorem kw_154 : (Cond.fieldLink "java/lang/Throwable" 198 "java/lang/Throwable" "backtrace" "Ljava/lang/Object;") ∈ gw := gw_mem 154 (by decide +kernel) rfl
set_option maxRecDepth 20000 in
theorem kw_155 : (Cond.superclass "java/lang/Throwable" "java/lang/Object") ∈ gw := gw_mem 155 (by decide +kernel) rfl
set_option maxRecDepth 20000 in
theorem kw_156 : (Cond.instanceMethod ⟨"java/lang/Throwable", "<init>", "()V"⟩) ∈ gw := gw_mem 156 (by decide +kernel) rfl
set_option maxRecDepth 20000 in
theorem kw_157 : (Cond.code ⟨"java/lang/Throwable", "<init>", "()V"⟩ prog_13_method_1_code 1 none) ∈ gw := gw_mem 157 (by decide +kernel) rfl
set_option maxRecDepth 20000 in
theorem kw_158 : (Cond.methodLink "java/lang/Throwable" 1 objectInit) ∈ gw := gw_mem 158 (by decide +kernel) rfl
set_option maxRecDepth 20000 in
theorem kw_159 : (Cond.fieldLink "java/lang/Throwable" 13 "java/lang/Throwable" "UNASSIGNED_STACK" "[Ljava/lang/StackTraceElement;") ∈ gw := gw_mem 159 (by decide +kernel) rfl
set_option maxRecDepth 20000 in
theorem kw_161 : (Cond.fieldLink "java/lang/Throwable" 20 "java/lang/Throwable" "SUPPRESSED_SENTINEL" "Ljava/util/List;") ∈ gw := gw_mem 161 (by decide +kernel) rfl
set_option maxRecDepth 20000 in
theorem kw_163 : (Cond.methodLink "java/lang/Throwable" 27 ⟨"java/lang/Throwable", "fillInStackTrace", "()Ljava/lang/Throwable;"⟩) ∈ gw := gw_mem 163 (by decide +kernel) rfl
set_option maxRecDepth 20000 in
theorem kw_164 : (Cond.instanceMethod ⟨"java/lang/Throwable", "fillInStackTrace", "()Ljava/lang/Throwable;"⟩) ∈ gw := gw_mem 164 (by decide +kernel) rfl
set_option maxRecDepth 20000 in
theorem kw_165 : (Cond.sameMethod "java/lang/Throwable" "java/lang/Throwable" "fillInStackTrace" "()Ljava/lang/Throwable;") ∈ gw := gw_mem 165 (by decide +kernel) rfl
set_option maxRecDepth 20000 in
theorem kw_166 : (Cond.selects "java/lang/IllegalArgumentException" ⟨"java/lang/Throwable", "fillInStackTrace", "()Ljava/lang/Throwable;"⟩ ⟨"java/lang/Throwable", "fillInStackTrace", "()Ljava/lang/Throwable;"⟩) ∈ gw := gw_mem 166 (by decide +kernel) rfl
set_option maxRecDepth 20000 in
theorem kw_167 : (Cond.selects "java/lang/IllegalStateException" ⟨"java/lang/Throwable", "fillInStackTrace", "()Ljava/lang/Throwable;"⟩ ⟨"java/lang/Throwable", "fillInStackTrace", "()Ljava/lang/Throwable;"⟩) ∈ gw := gw_mem 167 (by decide +kernel) rfl
set_option maxRecDepth 20000 in
theorem kw_168 : (Cond.codeSync ⟨"java/lang/Throwable", "fillInStackTrace", "()Ljava/lang/Throwable;"⟩ prog_13_method_18_code 1 (some (FieldType.object "java/lang/Throwable"))) ∈ gw := gw_mem 168 (by decide +kernel) rfl
set_option maxRecDepth 20000 in
theorem kw_169 : (Cond.methodLink "java/lang/Throwable" 202 ⟨"java/lang/Throwable", "fillInStackTrace", "(I)Ljava/lang/Throwable;"⟩) ∈ gw := gw_mem 169 (by decide +kernel) rfl
set_option maxRecDepth 20000 in
theorem kw_171 : (Cond.instanceMethod ⟨"java/lang/Throwable", "fillInStackTrace", "(I)Ljava/lang/Throwable;"⟩) ∈ gw := gw_mem 171 (by decide +kernel) rfl
set_option maxRecDepth 20000 in
theorem kw_172 : (Cond.instantiable "java/lang/Throwable" 6) ∈ gw := gw_mem 172 (by decide +kernel) rfl
set_option maxRecDepth 20000 in
theorem kw_173 : (Cond.native ⟨"java/lang/Throwable", "fillInStackTrace", "(I)Ljava/lang/Throwable;"⟩) ∈ gw := gw_mem 173 (by decide +kernel) rfl
set_option maxRecDepth 20000 in
theorem kw_175 : (Cond.methodLink RX2 117 ⟨"java/lang/IndexOutOfBoundsException", "<init>", "(Ljava/lang/String;)V"⟩) ∈ gw := gw_mem 175 (by decide +kernel) rfl
set_option maxRecDepth 20000 in
theorem kw_176 : (Cond.instanceMethod ⟨"java/lang/IndexOutOfBoundsException", "<init>", "(Ljava/lang/String;)V"⟩) ∈ gw := gw_mem 176 (by decide +kernel) rfl
set_option maxRecDepth 20000 in
theorem kw_177 : (Cond.code ⟨"java/lang/IndexOutOfBoundsException", "<init>", "(Ljava/lang/String;)V"⟩ prog_9_method_2_code 2 none) ∈ gw := gw_mem 177 (by decide +kernel) rfl
set_option maxRecDepth 20000 in
theorem kw_178 : (Cond.methodLink "java/lang/IndexOutOfBoundsException" 7 ⟨"java/lang/RuntimeException", "<init>", "(Ljava/lang/String;)V"⟩) ∈ gw := gw_mem 178 (by decide +kernel) rfl
set_option maxRecDepth 20000 in
theorem kw_179 : (Cond.instanceMethod ⟨"java/lang/RuntimeException", "<init>", "(Ljava/lang/String;)V"⟩) ∈ gw := gw_mem 179 (by decide +kernel) rfl
set_option maxRecDepth 20000 in
theorem kw_180 : (Cond.code ⟨"java/lang/RuntimeException", "<init>", "(Ljava/lang/String;)V"⟩ prog_11_method_2_code 2 none) ∈ gw := gw_mem 180 (by decide +kernel) rfl
set_option maxRecDepth 20000 in
theorem kw_181 : (Cond.methodLink "java/lang/RuntimeException" 7 ⟨"java/lang/Exception", "<init>", "(Ljava/lang/String;)V"⟩) ∈ gw := gw_mem 181 (by decide +kernel) rfl
set_option maxRecDepth 20000 in
theorem kw_182 : (Cond.instanceMethod ⟨"java/lang/Exception", "<init>", "(Ljava/lang/String;)V"⟩) ∈ gw := gw_mem 182 (by decide +kernel) rfl
set_option maxRecDepth 20000 in
theorem kw_183 : (Cond.code ⟨"java/lang/Exception", "<init>", "(Ljava/lang/String;)V"⟩ prog_6_method_2_code 2 none) ∈ gw := gw_mem 183 (by decide +kernel) rfl
set_option maxRecDepth 20000 in
theorem kw_184 : (Cond.methodLink "java/lang/Exception" 7 ⟨"java/lang/Throwable", "<init>", "(Ljava/lang/String;)V"⟩) ∈ gw := gw_mem 184 (by decide +kernel) rfl
set_option maxRecDepth 20000 in
theorem kw_185 : (Cond.instanceMethod ⟨"java/lang/Throwable", "<init>", "(Ljava/lang/String;)V"⟩) ∈ gw := gw_mem 185 (by decide +kernel) rfl
set_option maxRecDepth 20000 in
theorem kw_186 : (Cond.code ⟨"java/lang/Throwable", "<init>", "(Ljava/lang/String;)V"⟩ prog_13_method_2_code 2 none) ∈ gw := gw_mem 186 (by decide +kernel) rfl
set_option maxRecDepth 20000 in
theorem kw_188 : (Cond.fieldLink "java/lang/Throwable" 31 "java/lang/Throwable" "detailMessage" "Ljava/lang/String;") ∈ gw := gw_mem 188 (by decide +kernel) rfl
set_option maxRecDepth 20000 in
theorem kw_189 : (Cond.fieldLink "java/lang/Throwable" 7 "java/lang/Throwable" "cause" "Ljava/lang/Throwable;") ∈ gw := gw_mem 189 (by decide +kernel) rfl
set_option maxRecDepth 20000 in
theorem kw_190 : (Cond.fieldLink "java/lang/Throwable" 17 "java/lang/Throwable" "stackTrace" "[Ljava/lang/StackTraceElement;") ∈ gw := gw_mem 190 (by decide +kernel) rfl
set_option maxRecDepth 20000 in
theorem kw_191 : (Cond.fieldLink "java/lang/Throwable" 24 "java/lang/Throwable" "suppressedExceptions" "Ljava/util/List;") ∈ gw := gw_mem 191 (by decide +kernel) rfl
set_option maxRecDepth 20000 in
theorem kw_192 : (Cond.soleField "java/lang/Throwable" "backtrace") ∈ gw := gw_mem 192 (by decide +kernel) rfl
set_option maxRecDepth 20000 in
theorem kw_193 : (Cond.soleField "java/lang/Throwable" "detailMessage") ∈ gw := gw_mem 193 (by decide +kernel) rfl
set_option maxRecDepth 20000 in
theorem kw_194 : (Cond.soleField "java/lang/Throwable" "cause") ∈ gw := gw_mem 194 (by decide +kernel) rfl
set_option maxRecDepth 20000 in
theorem kw_195 : (Cond.soleField "java/lang/Throwable" "stackTrace") ∈ gw := gw_mem 195 (by decide +kernel) rfl
set_option maxRecDepth 20000 in
theorem kw_196 : (Cond.lays "java/lang/IndexOutOfBoundsException" "java/lang/Throwable" "depth" "I") ∈ gw := gw_mem 196 (by decide +kernel) rfl
set_option maxRecDepth 20000 in
theorem kw_197 : (Cond.soleField "java/lang/Throwable" "depth") ∈ gw := gw_mem 197 (by decide +kernel) rfl
set_option maxRecDepth 20000 in
theorem kw_198 : (Cond.soleField "java/lang/Throwable" "suppressedExceptions") ∈ gw := gw_mem 198 (by decide +kernel) rfl
set_option maxRecDepth 20000 in
theorem kw_199 : (Cond.superclass "java/lang/IndexOutOfBoundsException" "java/lang/RuntimeException") ∈ gw := gw_mem 199 (by decide +kernel) rfl
set_option maxRecDepth 20000 in
theorem kw_200 : (Cond.arrayClass FieldType.byte) ∈ gw := gw_mem 200 (by decide +kernel) rfl
set_option maxRecDepth 20000 in
theorem kw_201 : (Cond.methodLink RX2 97 yX2_leastShownNow) ∈ gw := gw_mem 201 (by decide +kernel) rfl
set_option maxRecDepth 20000 in
theorem kw_203 : (Cond.instanceMethod yX2_leastShownNow) ∈ gw := gw_mem 203 (by decide +kernel) rfl
set_option maxRecDepth 20000 in
theorem kw_204 : (Cond.code yX2_leastShownNow cX2_leastShownNow 4 (some FieldType.int)) ∈ gw := gw_mem 204 (by decide +kernel) rfl
set_option maxRecDepth 20000 in
theorem kw_205 : (Cond.methodLink RX2 104 Lib.Math.min.name) ∈ gw := gw_mem 205 (by decide +kernel) rfl
set_option maxRecDepth 20000 in
theorem kw_206 : (Cond.static Lib.Math.min.name) ∈ gw := gw_mem 206 (by decide +kernel) rfl
set_option maxRecDepth 20000 in
theorem kw_207 : (Cond.code Lib.Math.min.name Lib.Math.min.code 2 (some .int)) ∈ gw := gw_mem 207 (by decide +kernel) rfl
set_option maxRecDepth 20000 in
theorem kw_208 : (Cond.methodLink RX2 101 yX1_leastOfLastHour) ∈ gw := gw_mem 208 (by decide +kernel) rfl
set_option maxRecDepth 20000 in
theorem kw_209 : (Cond.instanceMethod yX1_leastOfLastHour) ∈ gw := gw_mem 209 (by decide +kernel) rfl
set_option maxRecDepth 20000 in
theorem kw_210 : (Cond.selects RX1 yX1_leastOfLastHour yX1_leastOfLastHour) ∈ gw := gw_mem 210 (by decide +kernel) rfl
set_option maxRecDepth 20000 in
theorem kw_211 : (Cond.code yX1_leastOfLastHour cX1_leastOfLastHour 4 (some FieldType.int)) ∈ gw := gw_mem 211 (by decide +kernel) rfl
set_option maxRecDepth 20000 in
theorem kw_212 : (Cond.methodLink RX1 26 Lib.Math.min.name) ∈ gw := gw_mem 212 (by decide +kernel) rfl
set_option maxRecDepth 20000 in
theorem kw_213 : (Cond.methodLink RL 86 yX2_leastEver) ∈ gw := gw_mem 213 (by decide +kernel) rfl
set_option maxRecDepth 20000 in
theorem kw_214 : (Cond.instanceMethod yX2_leastEver) ∈ gw := gw_mem 214 (by decide +kernel) rfl
set_option maxRecDepth 20000 in
theorem kw_215 : (Cond.selects RX2 yX2_leastEver yX2_leastEver) ∈ gw := gw_mem 215 (by decide +kernel) rfl
set_option maxRecDepth 20000 in
theorem kw_216 : (Cond.code yX2_leastEver cX2_leastEver 3 (some FieldType.int)) ∈ gw := gw_mem 216 (by decide +kernel) rfl
set_option maxRecDepth 20000 in
theorem kw_217 : (Cond.methodLink RX2 110 yX1_leastOfAllTime) ∈ gw := gw_mem 217 (by decide +kernel) rfl
set_option maxRecDepth 20000 in
theorem kw_218 : (Cond.instanceMethod yX1_leastOfAllTime) ∈ gw := gw_mem 218 (by decide +kernel) rfl
set_option maxRecDepth 20000 in
theorem kw_219 : (Cond.selects RX1 yX1_leastOfAllTime yX1_leastOfAllTime) ∈ gw := gw_mem 219 (by decide +kernel) rfl
set_option maxRecDepth 20000 in
theorem kw_220 : (Cond.code yX1_leastOfAllTime cX1_leastOfAllTime 2 (some FieldType.int)) ∈ gw := gw_mem 220 (by decide +kernel) rfl
set_option maxRecDepth 20000 in
theorem kw_221 : (Cond.methodLink RL 90 yL_draw) ∈ gw := gw_mem 221 (by decide +kernel) rfl
set_option maxRecDepth 20000 in
theorem kw_222 : (Cond.static yL_draw) ∈ gw := gw_mem 222 (by decide +kernel) rfl
set_option maxRecDepth 20000 in
theorem kw_223 : (Cond.code yL_draw cL_draw 2 (some FieldType.int)) ∈ gw := gw_mem 223 rfl rfl
set_option maxRecDepth 20000 in
theorem kw_224 : (Cond.constant "GlassLabelsLaw" 7 (2147483647 : Int32)) ∈ gw := gw_mem 224 (by decide +kernel) rfl
set_option maxRecDepth 20000 in
theorem kw_225 : (Cond.constant "GlassLabelsLaw" 8 (104729 : Int32)) ∈ gw := gw_mem 225 (by decide +kernel) rfl
set_option maxRecDepth 20000 in
theorem kw_226 : (Cond.constant "GlassLabelsLaw" 9 (65521 : Int32)) ∈ gw := gw_mem 226 (by decide +kernel) rfl
set_option maxRecDepth 20000 in
theorem kw_227 : (Cond.methodLink RL 94 yL_step) ∈ gw := gw_mem 227 (by decide +kernel) rfl
set_option maxRecDepth 20000 in
theorem kw_228 : (Cond.static yL_step) ∈ gw := gw_mem 228 (by decide +kernel) rfl
set_option maxRecDepth 20000 in
theorem kw_229 : (Cond.code yL_step cL_step 13 (some FieldType.boolean)) ∈ gw := gw_mem 229 rfl rfl
set_option maxRecDepth 20000 in
theorem kw_230 : (Cond.methodLink RL 16 yX2_hang) ∈ gw := gw_mem 230 (by decide +kernel) rfl
set_option maxRecDepth 20000 in
theorem kw_231 : (Cond.instanceMethod yX2_hang) ∈ gw := gw_mem 231 (by decide +kernel) rfl
set_option maxRecDepth 20000 in
theorem kw_232 : (Cond.selects RX2 yX2_hang yX2_hang) ∈ gw := gw_mem 232 (by decide +kernel) rfl
set_option maxRecDepth 20000 in
theorem kw_233 : (Cond.code yX2_hang cX2_hang 2 (some FieldType.int)) ∈ gw := gw_mem 233 (by decide +kernel) rfl
set_option maxRecDepth 20000 in
theorem kw_234 : (Cond.classLink RX2 52 "java/lang/IllegalStateException") ∈ gw := gw_mem 234 (by decide +kernel) rfl
set_option maxRecDepth 20000 in
theorem kw_235 : (Cond.instantiable "java/lang/IllegalStateException" 6) ∈ gw := gw_mem 235 (by decide +kernel) rfl
set_option maxRecDepth 20000 in
theorem kw_237 : (Cond.selects "java/lang/IllegalStateException" ⟨"java/lang/Throwable", "fillInStackTrace", "(I)Ljava/lang/Throwable;"⟩ ⟨"java/lang/Throwable", "fillInStackTrace", "(I)Ljava/lang/Throwable;"⟩) ∈ gw := gw_mem 237 (by decide +kernel) rfl
set_option maxRecDepth 20000 in
theorem kw_238 : (Cond.lays "java/lang/IllegalStateException" "java/lang/Throwable" "cause" "Ljava/lang/Throwable;") ∈ gw := gw_mem 238 (by decide +kernel) rfl
set_option maxRecDepth 20000 in
theorem kw_239 : (Cond.lays "java/lang/IllegalStateException" "java/lang/Throwable" "stackTrace" "[Ljava/lang/StackTraceElement;") ∈ gw := gw_mem 239 (by decide +kernel) rfl
set_option maxRecDepth 20000 in
theorem kw_240 : (Cond.lays "java/lang/IllegalStateException" "java/lang/Throwable" "suppressedExceptions" "Ljava/util/List;") ∈ gw := gw_mem 240 (by decide +kernel) rfl
set_option maxRecDepth 20000 in
theorem kw_241 : (Cond.lays "java/lang/IllegalStateException" "java/lang/Throwable" "detailMessage" "Ljava/lang/String;") ∈ gw := gw_mem 241 (by decide +kernel) rfl
set_option maxRecDepth 20000 in
theorem kw_242 : (Cond.lays "java/lang/IllegalStateException" "java/lang/Throwable" "backtrace" "Ljava/lang/Object;") ∈ gw := gw_mem 242 (by decide +kernel) rfl
set_option maxRecDepth 20000 in
theorem kw_244 : (Cond.methodLink RX2 56 ⟨"java/lang/IllegalStateException", "<init>", "(Ljava/lang/String;)V"⟩) ∈ gw := gw_mem 244 (by decide +kernel) rfl
set_option maxRecDepth 20000 in
theorem kw_245 : (Cond.instanceMethod ⟨"java/lang/IllegalStateException", "<init>", "(Ljava/lang/String;)V"⟩) ∈ gw := gw_mem 245 (by decide +kernel) rfl
set_option maxRecDepth 20000 in
theorem kw_246 : (Cond.code ⟨"java/lang/IllegalStateException", "<init>", "(Ljava/lang/String;)V"⟩ prog_8_method_2_code 2 none) ∈ gw := gw_mem 246 (by decide +kernel) rfl
set_option maxRecDepth 20000 in
theorem kw_247 : (Cond.methodLink "java/lang/IllegalStateException" 7 ⟨"java/lang/RuntimeException", "<init>", "(Ljava/lang/String;)V"⟩) ∈ gw := gw_mem 247 (by decide +kernel) rfl
set_option maxRecDepth 20000 in
theorem kw_248 : (Cond.lays "java/lang/IllegalStateException" "java/lang/Throwable" "depth" "I") ∈ gw := gw_mem 248 (by decide +kernel) rfl
set_option maxRecDepth 20000 in
theorem kw_249 : (Cond.superclass "java/lang/IllegalStateException" "java/lang/RuntimeException") ∈ gw := gw_mem 249 (by decide +kernel) rfl
set_option maxRecDepth 20000 in
theorem kw_250 : (Cond.methodLink RL 20 yX2_shown) ∈ gw := gw_mem 250 (by decide +kernel) rfl
set_option maxRecDepth 20000 in
theorem kw_251 : (Cond.instanceMethod yX2_shown) ∈ gw := gw_mem 251 (by decide +kernel) rfl
set_option maxRecDepth 20000 in
theorem kw_252 : (Cond.selects RX2 yX2_shown yX2_shown) ∈ gw := gw_mem 252 (by decide +kernel) rfl
set_option maxRecDepth 20000 in
theorem kw_253 : (Cond.code yX2_shown cX2_shown 2 (some FieldType.int)) ∈ gw := gw_mem 253 (by decide +kernel) rfl
set_option maxRecDepth 20000 in
theorem kw_254 : (Cond.methodLink RX2 62 yX2_labelOf) ∈ gw := gw_mem 254 (by decide +kernel) rfl
set_option maxRecDepth 20000 in
theorem kw_256 : (Cond.instanceMethod yX2_labelOf) ∈ gw := gw_mem 256 (by decide +kernel) rfl
set_option maxRecDepth 20000 in
theorem kw_257 : (Cond.code yX2_labelOf cX2_labelOf 2 (some (FieldType.object "GlassLabels$Label"))) ∈ gw := gw_mem 257 (by decide +kernel) rfl
set_option maxRecDepth 20000 in
theorem kw_259 : (Cond.methodLink RL 23 yX2_price) ∈ gw := gw_mem 259 (by decide +kernel) rfl
set_option maxRecDepth 20000 in
theorem kw_260 : (Cond.instanceMethod yX2_price) ∈ gw := gw_mem 260 (by decide +kernel) rfl
set_option maxRecDepth 20000 in
theorem kw_261 : (Cond.selects RX2 yX2_price yX2_price) ∈ gw := gw_mem 261 (by decide +kernel) rfl
set_option maxRecDepth 20000 in
theorem kw_262 : (Cond.code yX2_price cX2_price 2 (some FieldType.int)) ∈ gw := gw_mem 262 (by decide +kernel) rfl
set_option maxRecDepth 20000 in
theorem kw_263 : (Cond.methodLink RL 26 yX2_battery) ∈ gw := gw_mem 263 (by decide +kernel) rfl
set_option maxRecDepth 20000 in
theorem kw_264 : (Cond.instanceMethod yX2_battery) ∈ gw := gw_mem 264 (by decide +kernel) rfl
set_option maxRecDepth 20000 in
theorem kw_265 : (Cond.selects RX2 yX2_battery yX2_battery) ∈ gw := gw_mem 265 (by decide +kernel) rfl
set_option maxRecDepth 20000 in
theorem kw_266 : (Cond.code yX2_battery cX2_battery 2 (some FieldType.int)) ∈ gw := gw_mem 266 (by decide +kernel) rfl
set_option maxRecDepth 20000 in
theorem kw_267 : (Cond.methodLink RL 29 yX2_ghosts) ∈ gw := gw_mem 267 (by decide +kernel) rfl
set_option maxRecDepth 20000 in
theorem kw_268 : (Cond.instanceMethod yX2_ghosts) ∈ gw := gw_mem 268 (by decide +kernel) rfl
set_option maxRecDepth 20000 in
theorem kw_269 : (Cond.selects RX2 yX2_ghosts yX2_ghosts) ∈ gw := gw_mem 269 (by decide +kernel) rfl
set_option maxRecDepth 20000 in
theorem kw_270 : (Cond.code yX2_ghosts cX2_ghosts 2 (some FieldType.int)) ∈ gw := gw_mem 270 (by decide +kernel) rfl
set_option maxRecDepth 20000 in
theorem kw_271 : (Cond.methodLink RL 32 yX2_order) ∈ gw := gw_mem 271 (by decide +kernel) rfl
set_option maxRecDepth 20000 in
theorem kw_272 : (Cond.instanceMethod yX2_order) ∈ gw := gw_mem 272 (by decide +kernel) rfl
set_option maxRecDepth 20000 in
theorem kw_273 : (Cond.selects RX2 yX2_order yX2_order) ∈ gw := gw_mem 273 (by decide +kernel) rfl
set_option maxRecDepth 20000 in
theorem kw_274 : (Cond.code yX2_order cX2_order 2 (some FieldType.int)) ∈ gw := gw_mem 274 (by decide +kernel) rfl
set_option maxRecDepth 20000 in
theorem kw_275 : (Cond.methodLink RL 37 yL_prices) ∈ gw := gw_mem 275 (by decide +kernel) rfl
set_option maxRecDepth 20000 in
theorem kw_276 : (Cond.static yL_prices) ∈ gw := gw_mem 276 (by decide +kernel) rfl
set_option maxRecDepth 20000 in
theorem kw_277 : (Cond.code yL_prices cL_prices 8 (some FieldType.boolean)) ∈ gw := gw_mem 277 rfl rfl
set_option maxRecDepth 20000 in
theorem kw_278 : (Cond.methodLink RL 65 yX2_setPrice) ∈ gw := gw_mem 278 (by decide +kernel) rfl
set_option maxRecDepth 20000 in
theorem kw_279 : (Cond.instanceMethod yX2_setPrice) ∈ gw := gw_mem 279 (by decide +kernel) rfl
set_option maxRecDepth 20000 in
theorem kw_280 : (Cond.selects RX2 yX2_setPrice yX2_setPrice) ∈ gw := gw_mem 280 (by decide +kernel) rfl
set_option maxRecDepth 20000 in
theorem kw_281 : (Cond.code yX2_setPrice cX2_setPrice 5 (some FieldType.int)) ∈ gw := gw_mem 281 (by decide +kernel) rfl
set_option maxRecDepth 20000 in
theorem kw_282 : (Cond.methodLink RX2 41 yX2_needWithin) ∈ gw := gw_mem 282 (by decide +kernel) rfl
set_option maxRecDepth 20000 in
theorem kw_283 : (Cond.static yX2_needWithin) ∈ gw := gw_mem 283 (by decide +kernel) rfl
set_option maxRecDepth 20000 in
theorem kw_284 : (Cond.code yX2_needWithin cX2_needWithin 3 none) ∈ gw := gw_mem 284 (by decide +kernel) rfl
set_option maxRecDepth 20000 in
theorem kw_285 : (Cond.classLink RX2 118 "java/lang/IllegalArgumentException") ∈ gw := gw_mem 285 (by decide +kernel) rfl
set_option maxRecDepth 20000 in
theorem kw_286 : (Cond.instantiable "java/lang/IllegalArgumentException" 6) ∈ gw := gw_mem 286 (by decide +kernel) rfl
set_option maxRecDepth 20000 in
theorem kw_288 : (Cond.selects "java/lang/IllegalArgumentException" ⟨"java/lang/Throwable", "fillInStackTrace", "(I)Ljava/lang/Throwable;"⟩ ⟨"java/lang/Throwable", "fillInStackTrace", "(I)Ljava/lang/Throwable;"⟩) ∈ gw := gw_mem 288 (by decide +kernel) rfl
set_option maxRecDepth 20000 in
theorem kw_289 : (Cond.lays "java/lang/IllegalArgumentException" "java/lang/Throwable" "cause" "Ljava/lang/Throwable;") ∈ gw := gw_mem 289 (by decide +kernel) rfl
set_option maxRecDepth 20000 in
theorem kw_290 : (Cond.lays "java/lang/IllegalArgumentException" "java/lang/Throwable" "stackTrace" "[Ljava/lang/StackTraceElement;") ∈ gw := gw_mem 290 (by decide +kernel) rfl
set_option maxRecDepth 20000 in
theorem kw_291 : (Cond.lays "java/lang/IllegalArgumentException" "java/lang/Throwable" "suppressedExceptions" "Ljava/util/List;") ∈ gw := gw_mem 291 (by decide +kernel) rfl
set_option maxRecDepth 20000 in
theorem kw_292 : (Cond.lays "java/lang/IllegalArgumentException" "java/lang/Throwable" "detailMessage" "Ljava/lang/String;") ∈ gw := gw_mem 292 (by decide +kernel) rfl
set_option maxRecDepth 20000 in
theorem kw_293 : (Cond.lays "java/lang/IllegalArgumentException" "java/lang/Throwable" "backtrace" "Ljava/lang/Object;") ∈ gw := gw_mem 293 (by decide +kernel) rfl
set_option maxRecDepth 20000 in
theorem kw_295 : (Cond.methodLink RX2 122 ⟨"java/lang/IllegalArgumentException", "<init>", "(Ljava/lang/String;)V"⟩) ∈ gw := gw_mem 295 (by decide +kernel) rfl
set_option maxRecDepth 20000 in
theorem kw_296 : (Cond.instanceMethod ⟨"java/lang/IllegalArgumentException", "<init>", "(Ljava/lang/String;)V"⟩) ∈ gw := gw_mem 296 (by decide +kernel) rfl
set_option maxRecDepth 20000 in
theorem kw_297 : (Cond.code ⟨"java/lang/IllegalArgumentException", "<init>", "(Ljava/lang/String;)V"⟩ prog_7_method_2_code 2 none) ∈ gw := gw_mem 297 (by decide +kernel) rfl
set_option maxRecDepth 20000 in
theorem kw_298 : (Cond.methodLink "java/lang/IllegalArgumentException" 7 ⟨"java/lang/RuntimeException", "<init>", "(Ljava/lang/String;)V"⟩) ∈ gw := gw_mem 298 (by decide +kernel) rfl
set_option maxRecDepth 20000 in
theorem kw_299 : (Cond.lays "java/lang/IllegalArgumentException" "java/lang/Throwable" "depth" "I") ∈ gw := gw_mem 299 (by decide +kernel) rfl
set_option maxRecDepth 20000 in
theorem kw_300 : (Cond.superclass "java/lang/IllegalArgumentException" "java/lang/RuntimeException") ∈ gw := gw_mem 300 (by decide +kernel) rfl
set_option maxRecDepth 20000 in
theorem kw_301 : (Cond.methodLink RX2 48 yX2_giveOrder) ∈ gw := gw_mem 301 (by decide +kernel) rfl
set_option maxRecDepth 20000 in
theorem kw_303 : (Cond.instanceMethod yX2_giveOrder) ∈ gw := gw_mem 303 (by decide +kernel) rfl
set_option maxRecDepth 20000 in
theorem kw_304 : (Cond.code yX2_giveOrder cX2_giveOrder 2 none) ∈ gw := gw_mem 304 (by decide +kernel) rfl
set_option maxRecDepth 20000 in
theorem kw_305 : (Cond.methodLink RL 41 yX2_lies) ∈ gw := gw_mem 305 (by decide +kernel) rfl
set_option maxRecDepth 20000 in
theorem kw_306 : (Cond.instanceMethod yX2_lies) ∈ gw := gw_mem 306 (by decide +kernel) rfl
set_option maxRecDepth 20000 in
theorem kw_307 : (Cond.selects RX2 yX2_lies yX2_lies) ∈ gw := gw_mem 307 (by decide +kernel) rfl
set_option maxRecDepth 20000 in
theorem kw_308 : (Cond.code yX2_lies cX2_lies 3 (some FieldType.int)) ∈ gw := gw_mem 308 (by decide +kernel) rfl
set_option maxRecDepth 20000 in
theorem kw_309 : (Cond.methodLink RL 44 yX2_carry) ∈ gw := gw_mem 309 (by decide +kernel) rfl
set_option maxRecDepth 20000 in
theorem kw_310 : (Cond.instanceMethod yX2_carry) ∈ gw := gw_mem 310 (by decide +kernel) rfl
set_option maxRecDepth 20000 in
theorem kw_311 : (Cond.selects RX2 yX2_carry yX2_carry) ∈ gw := gw_mem 311 (by decide +kernel) rfl
set_option maxRecDepth 20000 in
theorem kw_312 : (Cond.code yX2_carry cX2_carry 4 (some FieldType.boolean)) ∈ gw := gw_mem 312 (by decide +kernel) rfl
set_option maxRecDepth 20000 in
theorem kw_314 : (Cond.methodLink RL 48 yX2_charge) ∈ gw := gw_mem 314 (by decide +kernel) rfl
set_option maxRecDepth 20000 in
theorem kw_315 : (Cond.instanceMethod yX2_charge) ∈ gw := gw_mem 315 (by decide +kernel) rfl
set_option maxRecDepth 20000 in
theorem kw_316 : (Cond.selects RX2 yX2_charge yX2_charge) ∈ gw := gw_mem 316 (by decide +kernel) rfl
set_option maxRecDepth 20000 in
theorem kw_317 : (Cond.code yX2_charge cX2_charge 4 (some FieldType.int)) ∈ gw := gw_mem 317 (by decide +kernel) rfl
set_option maxRecDepth 20000 in
theorem kw_318 : (Cond.methodLink RL 54 yX2_loseSendings) ∈ gw := gw_mem 318 (by decide +kernel) rfl
set_option maxRecDepth 20000 in
theorem kw_319 : (Cond.instanceMethod yX2_loseSendings) ∈ gw := gw_mem 319 (by decide +kernel) rfl
set_option maxRecDepth 20000 in
theorem kw_320 : (Cond.selects RX2 yX2_loseSendings yX2_loseSendings) ∈ gw := gw_mem 320 (by decide +kernel) rfl
set_option maxRecDepth 20000 in
theorem kw_321 : (Cond.code yX2_loseSendings cX2_loseSendings 5 (some FieldType.int)) ∈ gw := gw_mem 321 (by decide +kernel) rfl
set_option maxRecDepth 20000 in
theorem kw_322 : (Cond.methodLink RL 58 yX2_loseAnswers) ∈ gw := gw_mem 322 (by decide +kernel) rfl
set_option maxRecDepth 20000 in
theorem kw_323 : (Cond.instanceMethod yX2_loseAnswers) ∈ gw := gw_mem 323 (by decide +kernel) rfl
set_option maxRecDepth 20000 in
theorem kw_324 : (Cond.selects RX2 yX2_loseAnswers yX2_loseAnswers) ∈ gw := gw_mem 324 (by decide +kernel) rfl
set_option maxRecDepth 20000 in
theorem kw_325 : (Cond.code yX2_loseAnswers cX2_loseAnswers 5 (some FieldType.int)) ∈ gw := gw_mem 325 (by decide +kernel) rfl
set_option maxRecDepth 20000 in
theorem kw_326 : (Cond.methodLink RL 61 yL_minute) ∈ gw := gw_mem 326 (by decide +kernel) rfl
set_option maxRecDepth 20000 in
theorem kw_327 : (Cond.static yL_minute) ∈ gw := gw_mem 327 (by decide +kernel) rfl
set_option maxRecDepth 20000 in
theorem kw_328 : (Cond.code yL_minute cL_minute 17 (some FieldType.boolean)) ∈ gw := gw_mem 328 rfl rfl
set_option maxRecDepth 20000 in
theorem kw_329 : (Cond.methodLink RL 71 yX2_pass) ∈ gw := gw_mem 329 (by decide +kernel) rfl
set_option maxRecDepth 20000 in
theorem kw_330 : (Cond.instanceMethod yX2_pass) ∈ gw := gw_mem 330 (by decide +kernel) rfl
set_option maxRecDepth 20000 in
theorem kw_331 : (Cond.selects RX2 yX2_pass yX2_pass) ∈ gw := gw_mem 331 (by decide +kernel) rfl
set_option maxRecDepth 20000 in
theorem kw_332 : (Cond.code yX2_pass cX2_pass 4 (some FieldType.int)) ∈ gw := gw_mem 332 (by decide +kernel) rfl
set_option maxRecDepth 20000 in
theorem kw_334 : (Cond.methodLink RX2 82 yX2_passOneMinute) ∈ gw := gw_mem 334 (by decide +kernel) rfl
set_option maxRecDepth 20000 in
theorem kw_336 : (Cond.instanceMethod yX2_passOneMinute) ∈ gw := gw_mem 336 (by decide +kernel) rfl
set_option maxRecDepth 20000 in
theorem kw_337 : (Cond.code yX2_passOneMinute cX2_passOneMinute 4 (some FieldType.int)) ∈ gw := gw_mem 337 (by decide +kernel) rfl
set_option maxRecDepth 20000 in
theorem kw_338 : (Cond.methodLink RX2 128 yX2_nextToSend) ∈ gw := gw_mem 338 (by decide +kernel) rfl
set_option maxRecDepth 20000 in
theorem kw_339 : (Cond.methodLink RX2 131 yX0_getSending) ∈ gw := gw_mem 339 (by decide +kernel) rfl
set_option maxRecDepth 20000 in
theorem kw_340 : (Cond.instanceMethod yX0_getSending) ∈ gw := gw_mem 340 (by decide +kernel) rfl
set_option maxRecDepth 20000 in
theorem kw_341 : (Cond.selects RX0 yX0_getSending yX0_getSending) ∈ gw := gw_mem 341 (by decide +kernel) rfl
set_option maxRecDepth 20000 in
theorem kw_342 : (Cond.code yX0_getSending cX0_getSending 3 none) ∈ gw := gw_mem 342 (by decide +kernel) rfl
set_option maxRecDepth 20000 in
theorem kw_343 : (Cond.methodLink RX0 36 yX0_redraw) ∈ gw := gw_mem 343 (by decide +kernel) rfl
set_option maxRecDepth 20000 in
theorem kw_345 : (Cond.instanceMethod yX0_redraw) ∈ gw := gw_mem 345 (by decide +kernel) rfl
set_option maxRecDepth 20000 in
theorem kw_346 : (Cond.code yX0_redraw cX0_redraw 3 none) ∈ gw := gw_mem 346 (by decide +kernel) rfl
set_option maxRecDepth 20000 in
theorem kw_347 : (Cond.methodLink RX0 43 yX0_changedDigits) ∈ gw := gw_mem 347 (by decide +kernel) rfl
set_option maxRecDepth 20000 in
theorem kw_348 : (Cond.static yX0_changedDigits) ∈ gw := gw_mem 348 (by decide +kernel) rfl
set_option maxRecDepth 20000 in
theorem kw_349 : (Cond.code yX0_changedDigits cX0_changedDigits 5 (some FieldType.int)) ∈ gw := gw_mem 349 (by decide +kernel) rfl
set_option maxRecDepth 20000 in
theorem kw_350 : (Cond.methodLink RX0 40 yX0_answer) ∈ gw := gw_mem 350 (by decide +kernel) rfl
set_option maxRecDepth 20000 in
theorem kw_352 : (Cond.instanceMethod yX0_answer) ∈ gw := gw_mem 352 (by decide +kernel) rfl
set_option maxRecDepth 20000 in
theorem kw_353 : (Cond.code yX0_answer cX0_answer 1 none) ∈ gw := gw_mem 353 (by decide +kernel) rfl
set_option maxRecDepth 20000 in
theorem kw_354 : (Cond.methodLink RX2 135 yX2_endMinute) ∈ gw := gw_mem 354 (by decide +kernel) rfl
set_option maxRecDepth 20000 in
theorem kw_356 : (Cond.instanceMethod yX2_endMinute) ∈ gw := gw_mem 356 (by decide +kernel) rfl
set_option maxRecDepth 20000 in
theorem kw_357 : (Cond.code yX2_endMinute cX2_endMinute 2 none) ∈ gw := gw_mem 357 (by decide +kernel) rfl
set_option maxRecDepth 20000 in
theorem kw_358 : (Cond.methodLink RX2 138 yX1_openMinute) ∈ gw := gw_mem 358 (by decide +kernel) rfl
set_option maxRecDepth 20000 in
theorem kw_359 : (Cond.instanceMethod yX1_openMinute) ∈ gw := gw_mem 359 (by decide +kernel) rfl
set_option maxRecDepth 20000 in
theorem kw_360 : (Cond.selects RX1 yX1_openMinute yX1_openMinute) ∈ gw := gw_mem 360 (by decide +kernel) rfl
set_option maxRecDepth 20000 in
theorem kw_361 : (Cond.code yX1_openMinute cX1_openMinute 2 none) ∈ gw := gw_mem 361 (by decide +kernel) rfl
set_option maxRecDepth 20000 in
theorem kw_362 : (Cond.methodLink RX2 141 yX0_listen) ∈ gw := gw_mem 362 (by decide +kernel) rfl
set_option maxRecDepth 20000 in
theorem kw_363 : (Cond.instanceMethod yX0_listen) ∈ gw := gw_mem 363 (by decide +kernel) rfl
set_option maxRecDepth 20000 in
theorem kw_364 : (Cond.selects RX0 yX0_listen yX0_listen) ∈ gw := gw_mem 364 (by decide +kernel) rfl
set_option maxRecDepth 20000 in
theorem kw_365 : (Cond.code yX0_listen cX0_listen 1 none) ∈ gw := gw_mem 365 (by decide +kernel) rfl
set_option maxRecDepth 20000 in
theorem kw_366 : (Cond.methodLink RX2 144 yX1_note) ∈ gw := gw_mem 366 (by decide +kernel) rfl
set_option maxRecDepth 20000 in
theorem kw_367 : (Cond.instanceMethod yX1_note) ∈ gw := gw_mem 367 (by decide +kernel) rfl
set_option maxRecDepth 20000 in
theorem kw_368 : (Cond.selects RX1 yX1_note yX1_note) ∈ gw := gw_mem 368 (by decide +kernel) rfl
set_option maxRecDepth 20000 in
theorem kw_369 : (Cond.code yX1_note cX1_note 5 none) ∈ gw := gw_mem 369 (by decide +kernel) rfl
set_option maxRecDepth 20000 in
theorem kw_370 : (Cond.methodLink RL 74 yL_changed) ∈ gw := gw_mem 370 (by decide +kernel) rfl
set_option maxRecDepth 20000 in
theorem kw_371 : (Cond.static yL_changed) ∈ gw := gw_mem 371 (by decide +kernel) rfl
set_option maxRecDepth 20000 in
theorem kw_372 : (Cond.code yL_changed cL_changed 2 (some FieldType.int)) ∈ gw := gw_mem 372 rfl rfl
set_option maxRecDepth 20000 in
theorem kw_373 : (Cond.methodLink RL 77 yL_leastNow) ∈ gw := gw_mem 373 (by decide +kernel) rfl
set_option maxRecDepth 20000 in
theorem kw_374 : (Cond.static yL_leastNow) ∈ gw := gw_mem 374 (by decide +kernel) rfl
set_option maxRecDepth 20000 in
theorem kw_375 : (Cond.code yL_leastNow cL_leastNow 6 (some FieldType.int)) ∈ gw := gw_mem 375 rfl rfl
set_option maxRecDepth 20000 in
theorem kw_376 : (Cond.methodLink RL 98 yL_isTill) ∈ gw := gw_mem 376 (by decide +kernel) rfl
set_option maxRecDepth 20000 in
theorem kw_377 : (Cond.static yL_isTill) ∈ gw := gw_mem 377 (by decide +kernel) rfl
set_option maxRecDepth 20000 in
theorem kw_378 : (Cond.code yL_isTill cL_isTill 12 (some FieldType.boolean)) ∈ gw := gw_mem 378 rfl rfl
set_option maxRecDepth 20000 in
theorem kw_379 : (Cond.constantLong "GlassLabelsLaw" 81 (16383 : Int64)) ∈ gw := gw_mem 379 (by decide +kernel) rfl
set_option maxRecDepth 20000 in
theorem kw_380 : (Cond.arrayClass FieldType.long) ∈ gw := gw_mem 380 (by decide +kernel) rfl
set_option maxRecDepth 20000 in
theorem kw_381 : (Cond.sameMethod "java/lang/Throwable" "java/lang/Throwable" "fillInStackTrace" "(I)Ljava/lang/Throwable;") ∈ gw := gw_mem 381 (by decide +kernel) rfl
