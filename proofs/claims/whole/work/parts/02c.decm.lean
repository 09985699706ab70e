/-! decode rows (printed): the reference -/
theorem dX3_init_0 : decode cX3_init 0 = .ok (.aload_n 0, 1) := by decide +kernel
theorem dX3_init_1 : decode cX3_init 1 = .ok (.invokespecial 1, 3) := by decide +kernel
theorem dX3_init_4 : decode cX3_init 4 = .ok (.aload_n 0, 1) := by decide +kernel
theorem dX3_init_5 : decode cX3_init 5 = .ok (.bipush 12, 2) := by decide +kernel
theorem dX3_init_7 : decode cX3_init 7 = .ok (.newarray .int, 2) := by decide +kernel
theorem dX3_init_9 : decode cX3_init 9 = .ok (.putfield 7, 3) := by decide +kernel
theorem dX3_init_12 : decode cX3_init 12 = .ok (.aload_n 0, 1) := by decide +kernel
theorem dX3_init_13 : decode cX3_init 13 = .ok (.bipush 12, 2) := by decide +kernel
theorem dX3_init_15 : decode cX3_init 15 = .ok (.newarray .int, 2) := by decide +kernel
theorem dX3_init_17 : decode cX3_init 17 = .ok (.putfield 13, 3) := by decide +kernel
theorem dX3_init_20 : decode cX3_init 20 = .ok (.aload_n 0, 1) := by decide +kernel
theorem dX3_init_21 : decode cX3_init 21 = .ok (.bipush 12, 2) := by decide +kernel
theorem dX3_init_23 : decode cX3_init 23 = .ok (.newarray .int, 2) := by decide +kernel
theorem dX3_init_25 : decode cX3_init 25 = .ok (.putfield 16, 3) := by decide +kernel
theorem dX3_init_28 : decode cX3_init 28 = .ok (.aload_n 0, 1) := by decide +kernel
theorem dX3_init_29 : decode cX3_init 29 = .ok (.bipush 12, 2) := by decide +kernel
theorem dX3_init_31 : decode cX3_init 31 = .ok (.newarray .int, 2) := by decide +kernel
theorem dX3_init_33 : decode cX3_init 33 = .ok (.putfield 19, 3) := by decide +kernel
theorem dX3_init_36 : decode cX3_init 36 = .ok (.aload_n 0, 1) := by decide +kernel
theorem dX3_init_37 : decode cX3_init 37 = .ok (.bipush 12, 2) := by decide +kernel
theorem dX3_init_39 : decode cX3_init 39 = .ok (.newarray .int, 2) := by decide +kernel
theorem dX3_init_41 : decode cX3_init 41 = .ok (.putfield 22, 3) := by decide +kernel
theorem dX3_init_44 : decode cX3_init 44 = .ok (.aload_n 0, 1) := by decide +kernel
theorem dX3_init_45 : decode cX3_init 45 = .ok (.bipush 12, 2) := by decide +kernel
theorem dX3_init_47 : decode cX3_init 47 = .ok (.newarray .int, 2) := by decide +kernel
theorem dX3_init_49 : decode cX3_init 49 = .ok (.putfield 25, 3) := by decide +kernel
theorem dX3_init_52 : decode cX3_init 52 = .ok (.aload_n 0, 1) := by decide +kernel
theorem dX3_init_53 : decode cX3_init 53 = .ok (.bipush 12, 2) := by decide +kernel
theorem dX3_init_55 : decode cX3_init 55 = .ok (.newarray .int, 2) := by decide +kernel
theorem dX3_init_57 : decode cX3_init 57 = .ok (.putfield 28, 3) := by decide +kernel
theorem dX3_init_60 : decode cX3_init 60 = .ok (.aload_n 0, 1) := by decide +kernel
theorem dX3_init_61 : decode cX3_init 61 = .ok (.bipush 12, 2) := by decide +kernel
theorem dX3_init_63 : decode cX3_init 63 = .ok (.newarray .int, 2) := by decide +kernel
theorem dX3_init_65 : decode cX3_init 65 = .ok (.putfield 31, 3) := by decide +kernel
theorem dX3_init_68 : decode cX3_init 68 = .ok (.aload_n 0, 1) := by decide +kernel
theorem dX3_init_69 : decode cX3_init 69 = .ok (.bipush 12, 2) := by decide +kernel
theorem dX3_init_71 : decode cX3_init 71 = .ok (.newarray .int, 2) := by decide +kernel
theorem dX3_init_73 : decode cX3_init 73 = .ok (.putfield 34, 3) := by decide +kernel
theorem dX3_init_76 : decode cX3_init 76 = .ok (.aload_n 0, 1) := by decide +kernel
theorem dX3_init_77 : decode cX3_init 77 = .ok (.sipush 720, 3) := by decide +kernel
theorem dX3_init_80 : decode cX3_init 80 = .ok (.newarray .int, 2) := by decide +kernel
theorem dX3_init_82 : decode cX3_init 82 = .ok (.putfield 37, 3) := by decide +kernel
theorem dX3_init_85 : decode cX3_init 85 = .ok (.aload_n 0, 1) := by decide +kernel
theorem dX3_init_86 : decode cX3_init 86 = .ok (.bipush 12, 2) := by decide +kernel
theorem dX3_init_88 : decode cX3_init 88 = .ok (.newarray .int, 2) := by decide +kernel
theorem dX3_init_90 : decode cX3_init 90 = .ok (.putfield 40, 3) := by decide +kernel
theorem dX3_init_93 : decode cX3_init 93 = .ok (.iconst 0, 1) := by decide +kernel
theorem dX3_init_94 : decode cX3_init 94 = .ok (.istore_n 1, 1) := by decide +kernel
theorem dX3_init_95 : decode cX3_init 95 = .ok (.iload_n 1, 1) := by decide +kernel
theorem dX3_init_96 : decode cX3_init 96 = .ok (.sipush 720, 3) := by decide +kernel
theorem dX3_init_99 : decode cX3_init 99 = .ok (.if_icmp .ge 16, 3) := by decide +kernel
theorem dX3_init_102 : decode cX3_init 102 = .ok (.aload_n 0, 1) := by decide +kernel
theorem dX3_init_103 : decode cX3_init 103 = .ok (.getfield 37, 3) := by decide +kernel
theorem dX3_init_106 : decode cX3_init 106 = .ok (.iload_n 1, 1) := by decide +kernel
theorem dX3_init_107 : decode cX3_init 107 = .ok (.iconst (-1), 1) := by decide +kernel
theorem dX3_init_108 : decode cX3_init 108 = .ok (.iastore, 1) := by decide +kernel
theorem dX3_init_109 : decode cX3_init 109 = .ok (.iinc 1 1, 3) := by decide +kernel
theorem dX3_init_112 : decode cX3_init 112 = .ok (.goto (-17), 3) := by decide +kernel
theorem dX3_init_115 : decode cX3_init 115 = .ok (.iconst 0, 1) := by decide +kernel
theorem dX3_init_116 : decode cX3_init 116 = .ok (.istore_n 1, 1) := by decide +kernel
theorem dX3_init_117 : decode cX3_init 117 = .ok (.iload_n 1, 1) := by decide +kernel
theorem dX3_init_118 : decode cX3_init 118 = .ok (.bipush 12, 2) := by decide +kernel
theorem dX3_init_120 : decode cX3_init 120 = .ok (.if_icmp .ge 16, 3) := by decide +kernel
theorem dX3_init_123 : decode cX3_init 123 = .ok (.aload_n 0, 1) := by decide +kernel
theorem dX3_init_124 : decode cX3_init 124 = .ok (.getfield 40, 3) := by decide +kernel
theorem dX3_init_127 : decode cX3_init 127 = .ok (.iload_n 1, 1) := by decide +kernel
theorem dX3_init_128 : decode cX3_init 128 = .ok (.iconst (-1), 1) := by decide +kernel
theorem dX3_init_129 : decode cX3_init 129 = .ok (.iastore, 1) := by decide +kernel
theorem dX3_init_130 : decode cX3_init 130 = .ok (.iinc 1 1, 3) := by decide +kernel
theorem dX3_init_133 : decode cX3_init 133 = .ok (.goto (-16), 3) := by decide +kernel
theorem dX3_init_136 : decode cX3_init 136 = .ok (.return_, 1) := by decide +kernel
theorem dX3_thrown_0 : decode cX3_thrown 0 = .ok (.aload_n 0, 1) := by decide +kernel
theorem dX3_thrown_1 : decode cX3_thrown 1 = .ok (.getfield 43, 3) := by decide +kernel
theorem dX3_thrown_4 : decode cX3_thrown 4 = .ok (.ireturn, 1) := by decide +kernel
theorem dX3_holds_0 : decode cX3_holds 0 = .ok (.aload_n 0, 1) := by decide +kernel
theorem dX3_holds_1 : decode cX3_holds 1 = .ok (.iload_n 1, 1) := by decide +kernel
theorem dX3_holds_2 : decode cX3_holds 2 = .ok (.putfield 43, 3) := by decide +kernel
theorem dX3_holds_5 : decode cX3_holds 5 = .ok (.iload_n 1, 1) := by decide +kernel
theorem dX3_holds_6 : decode cX3_holds 6 = .ok (.ifCond .ne 7, 3) := by decide +kernel
theorem dX3_holds_9 : decode cX3_holds 9 = .ok (.iconst 1, 1) := by decide +kernel
theorem dX3_holds_10 : decode cX3_holds 10 = .ok (.goto 4, 3) := by decide +kernel
theorem dX3_holds_13 : decode cX3_holds 13 = .ok (.iconst 0, 1) := by decide +kernel
theorem dX3_holds_14 : decode cX3_holds 14 = .ok (.ireturn, 1) := by decide +kernel
theorem dX3_isIn_0 : decode cX3_isIn 0 = .ok (.iload_n 0, 1) := by decide +kernel
theorem dX3_isIn_1 : decode cX3_isIn 1 = .ok (.iload_n 1, 1) := by decide +kernel
theorem dX3_isIn_2 : decode cX3_isIn 2 = .ok (.if_icmp .lt 12, 3) := by decide +kernel
theorem dX3_isIn_5 : decode cX3_isIn 5 = .ok (.iload_n 0, 1) := by decide +kernel
theorem dX3_isIn_6 : decode cX3_isIn 6 = .ok (.iload_n 2, 1) := by decide +kernel
theorem dX3_isIn_7 : decode cX3_isIn 7 = .ok (.if_icmp .gt 7, 3) := by decide +kernel
theorem dX3_isIn_10 : decode cX3_isIn 10 = .ok (.iconst 1, 1) := by decide +kernel
theorem dX3_isIn_11 : decode cX3_isIn 11 = .ok (.goto 4, 3) := by decide +kernel
theorem dX3_isIn_14 : decode cX3_isIn 14 = .ok (.iconst 0, 1) := by decide +kernel
theorem dX3_isIn_15 : decode cX3_isIn 15 = .ok (.ireturn, 1) := by decide +kernel
theorem dX3_isWare_0 : decode cX3_isWare 0 = .ok (.iload_n 0, 1) := by decide +kernel
theorem dX3_isWare_1 : decode cX3_isWare 1 = .ok (.iconst 0, 1) := by decide +kernel
theorem dX3_isWare_2 : decode cX3_isWare 2 = .ok (.bipush 11, 2) := by decide +kernel
theorem dX3_isWare_4 : decode cX3_isWare 4 = .ok (.invokestatic 47, 3) := by decide +kernel
theorem dX3_isWare_7 : decode cX3_isWare 7 = .ok (.ireturn, 1) := by decide +kernel
theorem dX3_isLabel_0 : decode cX3_isLabel 0 = .ok (.iload_n 1, 1) := by decide +kernel
theorem dX3_isLabel_1 : decode cX3_isLabel 1 = .ok (.iconst 0, 1) := by decide +kernel
theorem dX3_isLabel_2 : decode cX3_isLabel 2 = .ok (.aload_n 0, 1) := by decide +kernel
theorem dX3_isLabel_3 : decode cX3_isLabel 3 = .ok (.getfield 51, 3) := by decide +kernel
theorem dX3_isLabel_6 : decode cX3_isLabel 6 = .ok (.iconst 1, 1) := by decide +kernel
theorem dX3_isLabel_7 : decode cX3_isLabel 7 = .ok (.isub, 1) := by decide +kernel
theorem dX3_isLabel_8 : decode cX3_isLabel 8 = .ok (.invokestatic 47, 3) := by decide +kernel
theorem dX3_isLabel_11 : decode cX3_isLabel 11 = .ok (.ireturn, 1) := by decide +kernel
theorem dX3_gets_0 : decode cX3_gets 0 = .ok (.aload_n 0, 1) := by decide +kernel
theorem dX3_gets_1 : decode cX3_gets 1 = .ok (.dup, 1) := by decide +kernel
theorem dX3_gets_2 : decode cX3_gets 2 = .ok (.getfield 54, 3) := by decide +kernel
theorem dX3_gets_5 : decode cX3_gets 5 = .ok (.iconst 1, 1) := by decide +kernel
theorem dX3_gets_6 : decode cX3_gets 6 = .ok (.iadd, 1) := by decide +kernel
theorem dX3_gets_7 : decode cX3_gets 7 = .ok (.putfield 54, 3) := by decide +kernel
theorem dX3_gets_10 : decode cX3_gets 10 = .ok (.aload_n 0, 1) := by decide +kernel
theorem dX3_gets_11 : decode cX3_gets 11 = .ok (.getfield 31, 3) := by decide +kernel
theorem dX3_gets_14 : decode cX3_gets 14 = .ok (.iload_n 1, 1) := by decide +kernel
theorem dX3_gets_15 : decode cX3_gets 15 = .ok (.aload_n 0, 1) := by decide +kernel
theorem dX3_gets_16 : decode cX3_gets 16 = .ok (.getfield 54, 3) := by decide +kernel
theorem dX3_gets_19 : decode cX3_gets 19 = .ok (.iastore, 1) := by decide +kernel
theorem dX3_gets_20 : decode cX3_gets 20 = .ok (.aload_n 0, 1) := by decide +kernel
theorem dX3_gets_21 : decode cX3_gets 21 = .ok (.getfield 34, 3) := by decide +kernel
theorem dX3_gets_24 : decode cX3_gets 24 = .ok (.iload_n 1, 1) := by decide +kernel
theorem dX3_gets_25 : decode cX3_gets 25 = .ok (.aload_n 0, 1) := by decide +kernel
theorem dX3_gets_26 : decode cX3_gets 26 = .ok (.getfield 57, 3) := by decide +kernel
theorem dX3_gets_29 : decode cX3_gets 29 = .ok (.iastore, 1) := by decide +kernel
theorem dX3_gets_30 : decode cX3_gets 30 = .ok (.return_, 1) := by decide +kernel
theorem dX3_setPrice_0 : decode cX3_setPrice 0 = .ok (.aload_n 0, 1) := by decide +kernel
theorem dX3_setPrice_1 : decode cX3_setPrice 1 = .ok (.iload_n 1, 1) := by decide +kernel
theorem dX3_setPrice_2 : decode cX3_setPrice 2 = .ok (.invokestatic 60, 3) := by decide +kernel
theorem dX3_setPrice_5 : decode cX3_setPrice 5 = .ok (.ifCond .ne 7, 3) := by decide +kernel
theorem dX3_setPrice_8 : decode cX3_setPrice 8 = .ok (.iconst 1, 1) := by decide +kernel
theorem dX3_setPrice_9 : decode cX3_setPrice 9 = .ok (.goto 19, 3) := by decide +kernel
theorem dX3_setPrice_12 : decode cX3_setPrice 12 = .ok (.iload_n 2, 1) := by decide +kernel
theorem dX3_setPrice_13 : decode cX3_setPrice 13 = .ok (.iconst 0, 1) := by decide +kernel
theorem dX3_setPrice_14 : decode cX3_setPrice 14 = .ok (.sipush 9999, 3) := by decide +kernel
theorem dX3_setPrice_17 : decode cX3_setPrice 17 = .ok (.invokestatic 47, 3) := by decide +kernel
theorem dX3_setPrice_20 : decode cX3_setPrice 20 = .ok (.ifCond .eq 7, 3) := by decide +kernel
theorem dX3_setPrice_23 : decode cX3_setPrice 23 = .ok (.iconst 0, 1) := by decide +kernel
theorem dX3_setPrice_24 : decode cX3_setPrice 24 = .ok (.goto 4, 3) := by decide +kernel
theorem dX3_setPrice_27 : decode cX3_setPrice 27 = .ok (.iconst 2, 1) := by decide +kernel
theorem dX3_setPrice_28 : decode cX3_setPrice 28 = .ok (.invokevirtual 64, 3) := by decide +kernel
theorem dX3_setPrice_31 : decode cX3_setPrice 31 = .ok (.ifCond .ne 5, 3) := by decide +kernel
theorem dX3_setPrice_34 : decode cX3_setPrice 34 = .ok (.iconst 0, 1) := by decide +kernel
theorem dX3_setPrice_35 : decode cX3_setPrice 35 = .ok (.ireturn, 1) := by decide +kernel
theorem dX3_setPrice_36 : decode cX3_setPrice 36 = .ok (.aload_n 0, 1) := by decide +kernel
theorem dX3_setPrice_37 : decode cX3_setPrice 37 = .ok (.getfield 7, 3) := by decide +kernel
theorem dX3_setPrice_40 : decode cX3_setPrice 40 = .ok (.iload_n 1, 1) := by decide +kernel
theorem dX3_setPrice_41 : decode cX3_setPrice 41 = .ok (.iaload, 1) := by decide +kernel
theorem dX3_setPrice_42 : decode cX3_setPrice 42 = .ok (.iload_n 2, 1) := by decide +kernel
theorem dX3_setPrice_43 : decode cX3_setPrice 43 = .ok (.if_icmp .ne 5, 3) := by decide +kernel
theorem dX3_setPrice_46 : decode cX3_setPrice 46 = .ok (.iconst 0, 1) := by decide +kernel
theorem dX3_setPrice_47 : decode cX3_setPrice 47 = .ok (.ireturn, 1) := by decide +kernel
theorem dX3_setPrice_48 : decode cX3_setPrice 48 = .ok (.aload_n 0, 1) := by decide +kernel
theorem dX3_setPrice_49 : decode cX3_setPrice 49 = .ok (.getfield 7, 3) := by decide +kernel
theorem dX3_setPrice_52 : decode cX3_setPrice 52 = .ok (.iload_n 1, 1) := by decide +kernel
theorem dX3_setPrice_53 : decode cX3_setPrice 53 = .ok (.iload_n 2, 1) := by decide +kernel
theorem dX3_setPrice_54 : decode cX3_setPrice 54 = .ok (.iastore, 1) := by decide +kernel
theorem dX3_setPrice_55 : decode cX3_setPrice 55 = .ok (.iconst 0, 1) := by decide +kernel
theorem dX3_setPrice_56 : decode cX3_setPrice 56 = .ok (.istore_n 3, 1) := by decide +kernel
theorem dX3_setPrice_57 : decode cX3_setPrice 57 = .ok (.iconst 0, 1) := by decide +kernel
theorem dX3_setPrice_58 : decode cX3_setPrice 58 = .ok (.istore 4, 2) := by decide +kernel
theorem dX3_setPrice_60 : decode cX3_setPrice 60 = .ok (.iload 4, 2) := by decide +kernel
theorem dX3_setPrice_62 : decode cX3_setPrice 62 = .ok (.aload_n 0, 1) := by decide +kernel
theorem dX3_setPrice_63 : decode cX3_setPrice 63 = .ok (.getfield 51, 3) := by decide +kernel
theorem dX3_setPrice_66 : decode cX3_setPrice 66 = .ok (.if_icmp .ge 29, 3) := by decide +kernel
theorem dX3_setPrice_69 : decode cX3_setPrice 69 = .ok (.aload_n 0, 1) := by decide +kernel
theorem dX3_setPrice_70 : decode cX3_setPrice 70 = .ok (.getfield 13, 3) := by decide +kernel
theorem dX3_setPrice_73 : decode cX3_setPrice 73 = .ok (.iload 4, 2) := by decide +kernel
theorem dX3_setPrice_75 : decode cX3_setPrice 75 = .ok (.iaload, 1) := by decide +kernel
theorem dX3_setPrice_76 : decode cX3_setPrice 76 = .ok (.iload_n 1, 1) := by decide +kernel
theorem dX3_setPrice_77 : decode cX3_setPrice 77 = .ok (.if_icmp .ne 12, 3) := by decide +kernel
theorem dX3_setPrice_80 : decode cX3_setPrice 80 = .ok (.aload_n 0, 1) := by decide +kernel
theorem dX3_setPrice_81 : decode cX3_setPrice 81 = .ok (.iload 4, 2) := by decide +kernel
theorem dX3_setPrice_83 : decode cX3_setPrice 83 = .ok (.invokevirtual 67, 3) := by decide +kernel
theorem dX3_setPrice_86 : decode cX3_setPrice 86 = .ok (.iinc 3 1, 3) := by decide +kernel
theorem dX3_setPrice_89 : decode cX3_setPrice 89 = .ok (.iinc 4 1, 3) := by decide +kernel
theorem dX3_setPrice_92 : decode cX3_setPrice 92 = .ok (.goto (-32), 3) := by decide +kernel
theorem dX3_setPrice_95 : decode cX3_setPrice 95 = .ok (.iload_n 3, 1) := by decide +kernel
theorem dX3_setPrice_96 : decode cX3_setPrice 96 = .ok (.ireturn, 1) := by decide +kernel
theorem dX3_price_0 : decode cX3_price 0 = .ok (.aload_n 0, 1) := by decide +kernel
theorem dX3_price_1 : decode cX3_price 1 = .ok (.iload_n 1, 1) := by decide +kernel
theorem dX3_price_2 : decode cX3_price 2 = .ok (.invokestatic 60, 3) := by decide +kernel
theorem dX3_price_5 : decode cX3_price 5 = .ok (.ifCond .eq 7, 3) := by decide +kernel
theorem dX3_price_8 : decode cX3_price 8 = .ok (.iconst 0, 1) := by decide +kernel
theorem dX3_price_9 : decode cX3_price 9 = .ok (.goto 4, 3) := by decide +kernel
theorem dX3_price_12 : decode cX3_price 12 = .ok (.iconst 1, 1) := by decide +kernel
theorem dX3_price_13 : decode cX3_price 13 = .ok (.invokevirtual 64, 3) := by decide +kernel
theorem dX3_price_16 : decode cX3_price 16 = .ok (.ifCond .eq 12, 3) := by decide +kernel
theorem dX3_price_19 : decode cX3_price 19 = .ok (.aload_n 0, 1) := by decide +kernel
theorem dX3_price_20 : decode cX3_price 20 = .ok (.getfield 7, 3) := by decide +kernel
theorem dX3_price_23 : decode cX3_price 23 = .ok (.iload_n 1, 1) := by decide +kernel
theorem dX3_price_24 : decode cX3_price 24 = .ok (.iaload, 1) := by decide +kernel
theorem dX3_price_25 : decode cX3_price 25 = .ok (.goto 4, 3) := by decide +kernel
theorem dX3_price_28 : decode cX3_price 28 = .ok (.iconst 0, 1) := by decide +kernel
theorem dX3_price_29 : decode cX3_price 29 = .ok (.ireturn, 1) := by decide +kernel
theorem dX3_hang_0 : decode cX3_hang 0 = .ok (.iload_n 1, 1) := by decide +kernel
theorem dX3_hang_1 : decode cX3_hang 1 = .ok (.invokestatic 60, 3) := by decide +kernel
theorem dX3_hang_4 : decode cX3_hang 4 = .ok (.istore_n 2, 1) := by decide +kernel
theorem dX3_hang_5 : decode cX3_hang 5 = .ok (.aload_n 0, 1) := by decide +kernel
theorem dX3_hang_6 : decode cX3_hang 6 = .ok (.iload_n 2, 1) := by decide +kernel
theorem dX3_hang_7 : decode cX3_hang 7 = .ok (.ifCond .ne 7, 3) := by decide +kernel
theorem dX3_hang_10 : decode cX3_hang 10 = .ok (.iconst 1, 1) := by decide +kernel
theorem dX3_hang_11 : decode cX3_hang 11 = .ok (.goto 17, 3) := by decide +kernel
theorem dX3_hang_14 : decode cX3_hang 14 = .ok (.aload_n 0, 1) := by decide +kernel
theorem dX3_hang_15 : decode cX3_hang 15 = .ok (.getfield 51, 3) := by decide +kernel
theorem dX3_hang_18 : decode cX3_hang 18 = .ok (.bipush 12, 2) := by decide +kernel
theorem dX3_hang_20 : decode cX3_hang 20 = .ok (.if_icmp .ne 7, 3) := by decide +kernel
theorem dX3_hang_23 : decode cX3_hang 23 = .ok (.iconst 2, 1) := by decide +kernel
theorem dX3_hang_24 : decode cX3_hang 24 = .ok (.goto 4, 3) := by decide +kernel
theorem dX3_hang_27 : decode cX3_hang 27 = .ok (.iconst 0, 1) := by decide +kernel
theorem dX3_hang_28 : decode cX3_hang 28 = .ok (.invokevirtual 64, 3) := by decide +kernel
theorem dX3_hang_31 : decode cX3_hang 31 = .ok (.ifCond .ne 5, 3) := by decide +kernel
theorem dX3_hang_34 : decode cX3_hang 34 = .ok (.iconst 0, 1) := by decide +kernel
theorem dX3_hang_35 : decode cX3_hang 35 = .ok (.ireturn, 1) := by decide +kernel
theorem dX3_hang_36 : decode cX3_hang 36 = .ok (.aload_n 0, 1) := by decide +kernel
theorem dX3_hang_37 : decode cX3_hang 37 = .ok (.getfield 13, 3) := by decide +kernel
theorem dX3_hang_40 : decode cX3_hang 40 = .ok (.aload_n 0, 1) := by decide +kernel
theorem dX3_hang_41 : decode cX3_hang 41 = .ok (.getfield 51, 3) := by decide +kernel
theorem dX3_hang_44 : decode cX3_hang 44 = .ok (.iload_n 1, 1) := by decide +kernel
theorem dX3_hang_45 : decode cX3_hang 45 = .ok (.iastore, 1) := by decide +kernel
theorem dX3_hang_46 : decode cX3_hang 46 = .ok (.aload_n 0, 1) := by decide +kernel
theorem dX3_hang_47 : decode cX3_hang 47 = .ok (.getfield 16, 3) := by decide +kernel
theorem dX3_hang_50 : decode cX3_hang 50 = .ok (.aload_n 0, 1) := by decide +kernel
theorem dX3_hang_51 : decode cX3_hang 51 = .ok (.getfield 51, 3) := by decide +kernel
theorem dX3_hang_54 : decode cX3_hang 54 = .ok (.aload_n 0, 1) := by decide +kernel
theorem dX3_hang_55 : decode cX3_hang 55 = .ok (.getfield 7, 3) := by decide +kernel
theorem dX3_hang_58 : decode cX3_hang 58 = .ok (.iload_n 1, 1) := by decide +kernel
theorem dX3_hang_59 : decode cX3_hang 59 = .ok (.iaload, 1) := by decide +kernel
theorem dX3_hang_60 : decode cX3_hang 60 = .ok (.iastore, 1) := by decide +kernel
theorem dX3_hang_61 : decode cX3_hang 61 = .ok (.aload_n 0, 1) := by decide +kernel
theorem dX3_hang_62 : decode cX3_hang 62 = .ok (.getfield 22, 3) := by decide +kernel
theorem dX3_hang_65 : decode cX3_hang 65 = .ok (.aload_n 0, 1) := by decide +kernel
theorem dX3_hang_66 : decode cX3_hang 66 = .ok (.getfield 51, 3) := by decide +kernel
theorem dX3_hang_69 : decode cX3_hang 69 = .ok (.sipush 1000, 3) := by decide +kernel
theorem dX3_hang_72 : decode cX3_hang 72 = .ok (.iastore, 1) := by decide +kernel
theorem dX3_hang_73 : decode cX3_hang 73 = .ok (.aload_n 0, 1) := by decide +kernel
theorem dX3_hang_74 : decode cX3_hang 74 = .ok (.dup, 1) := by decide +kernel
theorem dX3_hang_75 : decode cX3_hang 75 = .ok (.getfield 51, 3) := by decide +kernel
theorem dX3_hang_78 : decode cX3_hang 78 = .ok (.iconst 1, 1) := by decide +kernel
theorem dX3_hang_79 : decode cX3_hang 79 = .ok (.iadd, 1) := by decide +kernel
theorem dX3_hang_80 : decode cX3_hang 80 = .ok (.putfield 51, 3) := by decide +kernel
theorem dX3_hang_83 : decode cX3_hang 83 = .ok (.aload_n 0, 1) := by decide +kernel
theorem dX3_hang_84 : decode cX3_hang 84 = .ok (.getfield 51, 3) := by decide +kernel
theorem dX3_hang_87 : decode cX3_hang 87 = .ok (.iconst 1, 1) := by decide +kernel
theorem dX3_hang_88 : decode cX3_hang 88 = .ok (.isub, 1) := by decide +kernel
theorem dX3_hang_89 : decode cX3_hang 89 = .ok (.ireturn, 1) := by decide +kernel
theorem dX3_carry_0 : decode cX3_carry 0 = .ok (.aload_n 0, 1) := by decide +kernel
theorem dX3_carry_1 : decode cX3_carry 1 = .ok (.iload_n 1, 1) := by decide +kernel
theorem dX3_carry_2 : decode cX3_carry 2 = .ok (.invokevirtual 71, 3) := by decide +kernel
theorem dX3_carry_5 : decode cX3_carry 5 = .ok (.ifCond .eq 14, 3) := by decide +kernel
theorem dX3_carry_8 : decode cX3_carry 8 = .ok (.iload_n 2, 1) := by decide +kernel
theorem dX3_carry_9 : decode cX3_carry 9 = .ok (.invokestatic 60, 3) := by decide +kernel
theorem dX3_carry_12 : decode cX3_carry 12 = .ok (.ifCond .eq 7, 3) := by decide +kernel
theorem dX3_carry_15 : decode cX3_carry 15 = .ok (.iconst 1, 1) := by decide +kernel
theorem dX3_carry_16 : decode cX3_carry 16 = .ok (.goto 4, 3) := by decide +kernel
theorem dX3_carry_19 : decode cX3_carry 19 = .ok (.iconst 0, 1) := by decide +kernel
theorem dX3_carry_20 : decode cX3_carry 20 = .ok (.istore_n 3, 1) := by decide +kernel
theorem dX3_carry_21 : decode cX3_carry 21 = .ok (.aload_n 0, 1) := by decide +kernel
theorem dX3_carry_22 : decode cX3_carry 22 = .ok (.iload_n 3, 1) := by decide +kernel
theorem dX3_carry_23 : decode cX3_carry 23 = .ok (.ifCond .ne 7, 3) := by decide +kernel
theorem dX3_carry_26 : decode cX3_carry 26 = .ok (.iconst 1, 1) := by decide +kernel
theorem dX3_carry_27 : decode cX3_carry 27 = .ok (.goto 18, 3) := by decide +kernel
theorem dX3_carry_30 : decode cX3_carry 30 = .ok (.aload_n 0, 1) := by decide +kernel
theorem dX3_carry_31 : decode cX3_carry 31 = .ok (.getfield 13, 3) := by decide +kernel
theorem dX3_carry_34 : decode cX3_carry 34 = .ok (.iload_n 1, 1) := by decide +kernel
theorem dX3_carry_35 : decode cX3_carry 35 = .ok (.iaload, 1) := by decide +kernel
theorem dX3_carry_36 : decode cX3_carry 36 = .ok (.iload_n 2, 1) := by decide +kernel
theorem dX3_carry_37 : decode cX3_carry 37 = .ok (.if_icmp .ne 7, 3) := by decide +kernel
theorem dX3_carry_40 : decode cX3_carry 40 = .ok (.iconst 2, 1) := by decide +kernel
theorem dX3_carry_41 : decode cX3_carry 41 = .ok (.goto 4, 3) := by decide +kernel
theorem dX3_carry_44 : decode cX3_carry 44 = .ok (.iconst 0, 1) := by decide +kernel
theorem dX3_carry_45 : decode cX3_carry 45 = .ok (.invokevirtual 64, 3) := by decide +kernel
theorem dX3_carry_48 : decode cX3_carry 48 = .ok (.ifCond .ne 5, 3) := by decide +kernel
theorem dX3_carry_51 : decode cX3_carry 51 = .ok (.iconst 0, 1) := by decide +kernel
theorem dX3_carry_52 : decode cX3_carry 52 = .ok (.ireturn, 1) := by decide +kernel
theorem dX3_carry_53 : decode cX3_carry 53 = .ok (.aload_n 0, 1) := by decide +kernel
theorem dX3_carry_54 : decode cX3_carry 54 = .ok (.getfield 13, 3) := by decide +kernel
theorem dX3_carry_57 : decode cX3_carry 57 = .ok (.iload_n 1, 1) := by decide +kernel
theorem dX3_carry_58 : decode cX3_carry 58 = .ok (.iload_n 2, 1) := by decide +kernel
theorem dX3_carry_59 : decode cX3_carry 59 = .ok (.iastore, 1) := by decide +kernel
theorem dX3_carry_60 : decode cX3_carry 60 = .ok (.aload_n 0, 1) := by decide +kernel
theorem dX3_carry_61 : decode cX3_carry 61 = .ok (.getfield 31, 3) := by decide +kernel
theorem dX3_carry_64 : decode cX3_carry 64 = .ok (.iload_n 1, 1) := by decide +kernel
theorem dX3_carry_65 : decode cX3_carry 65 = .ok (.iconst 0, 1) := by decide +kernel
theorem dX3_carry_66 : decode cX3_carry 66 = .ok (.iastore, 1) := by decide +kernel
theorem dX3_carry_67 : decode cX3_carry 67 = .ok (.aload_n 0, 1) := by decide +kernel
theorem dX3_carry_68 : decode cX3_carry 68 = .ok (.getfield 16, 3) := by decide +kernel
theorem dX3_carry_71 : decode cX3_carry 71 = .ok (.iload_n 1, 1) := by decide +kernel
theorem dX3_carry_72 : decode cX3_carry 72 = .ok (.iaload, 1) := by decide +kernel
theorem dX3_carry_73 : decode cX3_carry 73 = .ok (.aload_n 0, 1) := by decide +kernel
theorem dX3_carry_74 : decode cX3_carry 74 = .ok (.getfield 7, 3) := by decide +kernel
theorem dX3_carry_77 : decode cX3_carry 77 = .ok (.iload_n 2, 1) := by decide +kernel
theorem dX3_carry_78 : decode cX3_carry 78 = .ok (.iaload, 1) := by decide +kernel
theorem dX3_carry_79 : decode cX3_carry 79 = .ok (.if_icmp .eq 8, 3) := by decide +kernel
theorem dX3_carry_82 : decode cX3_carry 82 = .ok (.aload_n 0, 1) := by decide +kernel
theorem dX3_carry_83 : decode cX3_carry 83 = .ok (.iload_n 1, 1) := by decide +kernel
theorem dX3_carry_84 : decode cX3_carry 84 = .ok (.invokevirtual 67, 3) := by decide +kernel
theorem dX3_carry_87 : decode cX3_carry 87 = .ok (.aload_n 0, 1) := by decide +kernel
theorem dX3_carry_88 : decode cX3_carry 88 = .ok (.getfield 31, 3) := by decide +kernel
theorem dX3_carry_91 : decode cX3_carry 91 = .ok (.iload_n 1, 1) := by decide +kernel
theorem dX3_carry_92 : decode cX3_carry 92 = .ok (.iaload, 1) := by decide +kernel
theorem dX3_carry_93 : decode cX3_carry 93 = .ok (.ifCond .le 7, 3) := by decide +kernel
theorem dX3_carry_96 : decode cX3_carry 96 = .ok (.iconst 1, 1) := by decide +kernel
theorem dX3_carry_97 : decode cX3_carry 97 = .ok (.goto 4, 3) := by decide +kernel
theorem dX3_carry_100 : decode cX3_carry 100 = .ok (.iconst 0, 1) := by decide +kernel
theorem dX3_carry_101 : decode cX3_carry 101 = .ok (.ireturn, 1) := by decide +kernel
theorem dX3_charge_0 : decode cX3_charge 0 = .ok (.aload_n 0, 1) := by decide +kernel
theorem dX3_charge_1 : decode cX3_charge 1 = .ok (.aload_n 0, 1) := by decide +kernel
theorem dX3_charge_2 : decode cX3_charge 2 = .ok (.iload_n 1, 1) := by decide +kernel
theorem dX3_charge_3 : decode cX3_charge 3 = .ok (.invokevirtual 71, 3) := by decide +kernel
theorem dX3_charge_6 : decode cX3_charge 6 = .ok (.ifCond .eq 7, 3) := by decide +kernel
theorem dX3_charge_9 : decode cX3_charge 9 = .ok (.iconst 0, 1) := by decide +kernel
theorem dX3_charge_10 : decode cX3_charge 10 = .ok (.goto 4, 3) := by decide +kernel
theorem dX3_charge_13 : decode cX3_charge 13 = .ok (.iconst 1, 1) := by decide +kernel
theorem dX3_charge_14 : decode cX3_charge 14 = .ok (.invokevirtual 64, 3) := by decide +kernel
theorem dX3_charge_17 : decode cX3_charge 17 = .ok (.ifCond .ne 5, 3) := by decide +kernel
theorem dX3_charge_20 : decode cX3_charge 20 = .ok (.iconst 0, 1) := by decide +kernel
theorem dX3_charge_21 : decode cX3_charge 21 = .ok (.ireturn, 1) := by decide +kernel
theorem dX3_charge_22 : decode cX3_charge 22 = .ok (.aload_n 0, 1) := by decide +kernel
theorem dX3_charge_23 : decode cX3_charge 23 = .ok (.getfield 22, 3) := by decide +kernel
theorem dX3_charge_26 : decode cX3_charge 26 = .ok (.iload_n 1, 1) := by decide +kernel
theorem dX3_charge_27 : decode cX3_charge 27 = .ok (.iaload, 1) := by decide +kernel
theorem dX3_charge_28 : decode cX3_charge 28 = .ok (.istore_n 2, 1) := by decide +kernel
theorem dX3_charge_29 : decode cX3_charge 29 = .ok (.aload_n 0, 1) := by decide +kernel
theorem dX3_charge_30 : decode cX3_charge 30 = .ok (.getfield 22, 3) := by decide +kernel
theorem dX3_charge_33 : decode cX3_charge 33 = .ok (.iload_n 1, 1) := by decide +kernel
theorem dX3_charge_34 : decode cX3_charge 34 = .ok (.sipush 1000, 3) := by decide +kernel
theorem dX3_charge_37 : decode cX3_charge 37 = .ok (.iastore, 1) := by decide +kernel
theorem dX3_charge_38 : decode cX3_charge 38 = .ok (.iload_n 2, 1) := by decide +kernel
theorem dX3_charge_39 : decode cX3_charge 39 = .ok (.ireturn, 1) := by decide +kernel
theorem dX3_loseSendings_0 : decode cX3_loseSendings 0 = .ok (.aload_n 0, 1) := by decide +kernel
theorem dX3_loseSendings_1 : decode cX3_loseSendings 1 = .ok (.aload_n 0, 1) := by decide +kernel
theorem dX3_loseSendings_2 : decode cX3_loseSendings 2 = .ok (.iload_n 1, 1) := by decide +kernel
theorem dX3_loseSendings_3 : decode cX3_loseSendings 3 = .ok (.invokevirtual 71, 3) := by decide +kernel
theorem dX3_loseSendings_6 : decode cX3_loseSendings 6 = .ok (.ifCond .ne 7, 3) := by decide +kernel
theorem dX3_loseSendings_9 : decode cX3_loseSendings 9 = .ok (.iconst 1, 1) := by decide +kernel
theorem dX3_loseSendings_10 : decode cX3_loseSendings 10 = .ok (.goto 18, 3) := by decide +kernel
theorem dX3_loseSendings_13 : decode cX3_loseSendings 13 = .ok (.iload_n 2, 1) := by decide +kernel
theorem dX3_loseSendings_14 : decode cX3_loseSendings 14 = .ok (.iconst 0, 1) := by decide +kernel
theorem dX3_loseSendings_15 : decode cX3_loseSendings 15 = .ok (.bipush 20, 2) := by decide +kernel
theorem dX3_loseSendings_17 : decode cX3_loseSendings 17 = .ok (.invokestatic 47, 3) := by decide +kernel
theorem dX3_loseSendings_20 : decode cX3_loseSendings 20 = .ok (.ifCond .eq 7, 3) := by decide +kernel
theorem dX3_loseSendings_23 : decode cX3_loseSendings 23 = .ok (.iconst 0, 1) := by decide +kernel
theorem dX3_loseSendings_24 : decode cX3_loseSendings 24 = .ok (.goto 4, 3) := by decide +kernel
theorem dX3_loseSendings_27 : decode cX3_loseSendings 27 = .ok (.iconst 2, 1) := by decide +kernel
theorem dX3_loseSendings_28 : decode cX3_loseSendings 28 = .ok (.invokevirtual 64, 3) := by decide +kernel
theorem dX3_loseSendings_31 : decode cX3_loseSendings 31 = .ok (.ifCond .ne 5, 3) := by decide +kernel
theorem dX3_loseSendings_34 : decode cX3_loseSendings 34 = .ok (.iconst 0, 1) := by decide +kernel
theorem dX3_loseSendings_35 : decode cX3_loseSendings 35 = .ok (.ireturn, 1) := by decide +kernel
theorem dX3_loseSendings_36 : decode cX3_loseSendings 36 = .ok (.aload_n 0, 1) := by decide +kernel
theorem dX3_loseSendings_37 : decode cX3_loseSendings 37 = .ok (.getfield 25, 3) := by decide +kernel
theorem dX3_loseSendings_40 : decode cX3_loseSendings 40 = .ok (.iload_n 1, 1) := by decide +kernel
theorem dX3_loseSendings_41 : decode cX3_loseSendings 41 = .ok (.iaload, 1) := by decide +kernel
theorem dX3_loseSendings_42 : decode cX3_loseSendings 42 = .ok (.istore_n 3, 1) := by decide +kernel
theorem dX3_loseSendings_43 : decode cX3_loseSendings 43 = .ok (.aload_n 0, 1) := by decide +kernel
theorem dX3_loseSendings_44 : decode cX3_loseSendings 44 = .ok (.getfield 25, 3) := by decide +kernel
theorem dX3_loseSendings_47 : decode cX3_loseSendings 47 = .ok (.iload_n 1, 1) := by decide +kernel
theorem dX3_loseSendings_48 : decode cX3_loseSendings 48 = .ok (.iload_n 2, 1) := by decide +kernel
theorem dX3_loseSendings_49 : decode cX3_loseSendings 49 = .ok (.iastore, 1) := by decide +kernel
theorem dX3_loseSendings_50 : decode cX3_loseSendings 50 = .ok (.iload_n 3, 1) := by decide +kernel
theorem dX3_loseSendings_51 : decode cX3_loseSendings 51 = .ok (.ireturn, 1) := by decide +kernel
theorem dX3_loseAnswers_0 : decode cX3_loseAnswers 0 = .ok (.aload_n 0, 1) := by decide +kernel
theorem dX3_loseAnswers_1 : decode cX3_loseAnswers 1 = .ok (.aload_n 0, 1) := by decide +kernel
theorem dX3_loseAnswers_2 : decode cX3_loseAnswers 2 = .ok (.iload_n 1, 1) := by decide +kernel
theorem dX3_loseAnswers_3 : decode cX3_loseAnswers 3 = .ok (.invokevirtual 71, 3) := by decide +kernel
theorem dX3_loseAnswers_6 : decode cX3_loseAnswers 6 = .ok (.ifCond .ne 7, 3) := by decide +kernel
theorem dX3_loseAnswers_9 : decode cX3_loseAnswers 9 = .ok (.iconst 1, 1) := by decide +kernel
theorem dX3_loseAnswers_10 : decode cX3_loseAnswers 10 = .ok (.goto 18, 3) := by decide +kernel
theorem dX3_loseAnswers_13 : decode cX3_loseAnswers 13 = .ok (.iload_n 2, 1) := by decide +kernel
theorem dX3_loseAnswers_14 : decode cX3_loseAnswers 14 = .ok (.iconst 0, 1) := by decide +kernel
theorem dX3_loseAnswers_15 : decode cX3_loseAnswers 15 = .ok (.bipush 20, 2) := by decide +kernel
theorem dX3_loseAnswers_17 : decode cX3_loseAnswers 17 = .ok (.invokestatic 47, 3) := by decide +kernel
theorem dX3_loseAnswers_20 : decode cX3_loseAnswers 20 = .ok (.ifCond .eq 7, 3) := by decide +kernel
theorem dX3_loseAnswers_23 : decode cX3_loseAnswers 23 = .ok (.iconst 0, 1) := by decide +kernel
theorem dX3_loseAnswers_24 : decode cX3_loseAnswers 24 = .ok (.goto 4, 3) := by decide +kernel
theorem dX3_loseAnswers_27 : decode cX3_loseAnswers 27 = .ok (.iconst 2, 1) := by decide +kernel
theorem dX3_loseAnswers_28 : decode cX3_loseAnswers 28 = .ok (.invokevirtual 64, 3) := by decide +kernel
theorem dX3_loseAnswers_31 : decode cX3_loseAnswers 31 = .ok (.ifCond .ne 5, 3) := by decide +kernel
theorem dX3_loseAnswers_34 : decode cX3_loseAnswers 34 = .ok (.iconst 0, 1) := by decide +kernel
theorem dX3_loseAnswers_35 : decode cX3_loseAnswers 35 = .ok (.ireturn, 1) := by decide +kernel
theorem dX3_loseAnswers_36 : decode cX3_loseAnswers 36 = .ok (.aload_n 0, 1) := by decide +kernel
theorem dX3_loseAnswers_37 : decode cX3_loseAnswers 37 = .ok (.getfield 28, 3) := by decide +kernel
theorem dX3_loseAnswers_40 : decode cX3_loseAnswers 40 = .ok (.iload_n 1, 1) := by decide +kernel
theorem dX3_loseAnswers_41 : decode cX3_loseAnswers 41 = .ok (.iaload, 1) := by decide +kernel
theorem dX3_loseAnswers_42 : decode cX3_loseAnswers 42 = .ok (.istore_n 3, 1) := by decide +kernel
theorem dX3_loseAnswers_43 : decode cX3_loseAnswers 43 = .ok (.aload_n 0, 1) := by decide +kernel
theorem dX3_loseAnswers_44 : decode cX3_loseAnswers 44 = .ok (.getfield 28, 3) := by decide +kernel
theorem dX3_loseAnswers_47 : decode cX3_loseAnswers 47 = .ok (.iload_n 1, 1) := by decide +kernel
theorem dX3_loseAnswers_48 : decode cX3_loseAnswers 48 = .ok (.iload_n 2, 1) := by decide +kernel
theorem dX3_loseAnswers_49 : decode cX3_loseAnswers 49 = .ok (.iastore, 1) := by decide +kernel
theorem dX3_loseAnswers_50 : decode cX3_loseAnswers 50 = .ok (.iload_n 3, 1) := by decide +kernel
theorem dX3_loseAnswers_51 : decode cX3_loseAnswers 51 = .ok (.ireturn, 1) := by decide +kernel
theorem dX3_longest_0 : decode cX3_longest 0 = .ok (.iconst (-1), 1) := by decide +kernel
theorem dX3_longest_1 : decode cX3_longest 1 = .ok (.istore_n 1, 1) := by decide +kernel
theorem dX3_longest_2 : decode cX3_longest 2 = .ok (.iconst 0, 1) := by decide +kernel
theorem dX3_longest_3 : decode cX3_longest 3 = .ok (.istore_n 2, 1) := by decide +kernel
theorem dX3_longest_4 : decode cX3_longest 4 = .ok (.iload_n 2, 1) := by decide +kernel
theorem dX3_longest_5 : decode cX3_longest 5 = .ok (.aload_n 0, 1) := by decide +kernel
theorem dX3_longest_6 : decode cX3_longest 6 = .ok (.getfield 51, 3) := by decide +kernel
theorem dX3_longest_9 : decode cX3_longest 9 = .ok (.if_icmp .ge 109, 3) := by decide +kernel
theorem dX3_longest_12 : decode cX3_longest 12 = .ok (.aload_n 0, 1) := by decide +kernel
theorem dX3_longest_13 : decode cX3_longest 13 = .ok (.getfield 31, 3) := by decide +kernel
theorem dX3_longest_16 : decode cX3_longest 16 = .ok (.iload_n 2, 1) := by decide +kernel
theorem dX3_longest_17 : decode cX3_longest 17 = .ok (.iaload, 1) := by decide +kernel
theorem dX3_longest_18 : decode cX3_longest 18 = .ok (.ifCond .le 20, 3) := by decide +kernel
theorem dX3_longest_21 : decode cX3_longest 21 = .ok (.aload_n 0, 1) := by decide +kernel
theorem dX3_longest_22 : decode cX3_longest 22 = .ok (.getfield 34, 3) := by decide +kernel
theorem dX3_longest_25 : decode cX3_longest 25 = .ok (.iload_n 2, 1) := by decide +kernel
theorem dX3_longest_26 : decode cX3_longest 26 = .ok (.iaload, 1) := by decide +kernel
theorem dX3_longest_27 : decode cX3_longest 27 = .ok (.aload_n 0, 1) := by decide +kernel
theorem dX3_longest_28 : decode cX3_longest 28 = .ok (.getfield 57, 3) := by decide +kernel
theorem dX3_longest_31 : decode cX3_longest 31 = .ok (.if_icmp .gt 7, 3) := by decide +kernel
theorem dX3_longest_34 : decode cX3_longest 34 = .ok (.iconst 1, 1) := by decide +kernel
theorem dX3_longest_35 : decode cX3_longest 35 = .ok (.goto 4, 3) := by decide +kernel
theorem dX3_longest_38 : decode cX3_longest 38 = .ok (.iconst 0, 1) := by decide +kernel
theorem dX3_longest_39 : decode cX3_longest 39 = .ok (.istore_n 3, 1) := by decide +kernel
theorem dX3_longest_40 : decode cX3_longest 40 = .ok (.iload_n 3, 1) := by decide +kernel
theorem dX3_longest_41 : decode cX3_longest 41 = .ok (.ifCond .eq 57, 3) := by decide +kernel
theorem dX3_longest_44 : decode cX3_longest 44 = .ok (.iload_n 1, 1) := by decide +kernel
theorem dX3_longest_45 : decode cX3_longest 45 = .ok (.iconst (-1), 1) := by decide +kernel
theorem dX3_longest_46 : decode cX3_longest 46 = .ok (.if_icmp .eq 48, 3) := by decide +kernel
theorem dX3_longest_49 : decode cX3_longest 49 = .ok (.aload_n 0, 1) := by decide +kernel
theorem dX3_longest_50 : decode cX3_longest 50 = .ok (.getfield 34, 3) := by decide +kernel
theorem dX3_longest_53 : decode cX3_longest 53 = .ok (.iload_n 2, 1) := by decide +kernel
theorem dX3_longest_54 : decode cX3_longest 54 = .ok (.iaload, 1) := by decide +kernel
theorem dX3_longest_55 : decode cX3_longest 55 = .ok (.aload_n 0, 1) := by decide +kernel
theorem dX3_longest_56 : decode cX3_longest 56 = .ok (.getfield 34, 3) := by decide +kernel
theorem dX3_longest_59 : decode cX3_longest 59 = .ok (.iload_n 1, 1) := by decide +kernel
theorem dX3_longest_60 : decode cX3_longest 60 = .ok (.iaload, 1) := by decide +kernel
theorem dX3_longest_61 : decode cX3_longest 61 = .ok (.if_icmp .lt 33, 3) := by decide +kernel
theorem dX3_longest_64 : decode cX3_longest 64 = .ok (.aload_n 0, 1) := by decide +kernel
theorem dX3_longest_65 : decode cX3_longest 65 = .ok (.getfield 34, 3) := by decide +kernel
theorem dX3_longest_68 : decode cX3_longest 68 = .ok (.iload_n 2, 1) := by decide +kernel
theorem dX3_longest_69 : decode cX3_longest 69 = .ok (.iaload, 1) := by decide +kernel
theorem dX3_longest_70 : decode cX3_longest 70 = .ok (.aload_n 0, 1) := by decide +kernel
theorem dX3_longest_71 : decode cX3_longest 71 = .ok (.getfield 34, 3) := by decide +kernel
theorem dX3_longest_74 : decode cX3_longest 74 = .ok (.iload_n 1, 1) := by decide +kernel
theorem dX3_longest_75 : decode cX3_longest 75 = .ok (.iaload, 1) := by decide +kernel
theorem dX3_longest_76 : decode cX3_longest 76 = .ok (.if_icmp .ne 22, 3) := by decide +kernel
theorem dX3_longest_79 : decode cX3_longest 79 = .ok (.aload_n 0, 1) := by decide +kernel
theorem dX3_longest_80 : decode cX3_longest 80 = .ok (.getfield 31, 3) := by decide +kernel
theorem dX3_longest_83 : decode cX3_longest 83 = .ok (.iload_n 2, 1) := by decide +kernel
theorem dX3_longest_84 : decode cX3_longest 84 = .ok (.iaload, 1) := by decide +kernel
theorem dX3_longest_85 : decode cX3_longest 85 = .ok (.aload_n 0, 1) := by decide +kernel
theorem dX3_longest_86 : decode cX3_longest 86 = .ok (.getfield 31, 3) := by decide +kernel
theorem dX3_longest_89 : decode cX3_longest 89 = .ok (.iload_n 1, 1) := by decide +kernel
theorem dX3_longest_90 : decode cX3_longest 90 = .ok (.iaload, 1) := by decide +kernel
theorem dX3_longest_91 : decode cX3_longest 91 = .ok (.if_icmp .ge 7, 3) := by decide +kernel
theorem dX3_longest_94 : decode cX3_longest 94 = .ok (.iconst 1, 1) := by decide +kernel
theorem dX3_longest_95 : decode cX3_longest 95 = .ok (.goto 4, 3) := by decide +kernel
theorem dX3_longest_98 : decode cX3_longest 98 = .ok (.iconst 0, 1) := by decide +kernel
theorem dX3_longest_99 : decode cX3_longest 99 = .ok (.istore 4, 2) := by decide +kernel
theorem dX3_longest_101 : decode cX3_longest 101 = .ok (.iload 4, 2) := by decide +kernel
theorem dX3_longest_103 : decode cX3_longest 103 = .ok (.ifCond .eq 7, 3) := by decide +kernel
theorem dX3_longest_106 : decode cX3_longest 106 = .ok (.iload_n 2, 1) := by decide +kernel
theorem dX3_longest_107 : decode cX3_longest 107 = .ok (.goto 4, 3) := by decide +kernel
theorem dX3_longest_110 : decode cX3_longest 110 = .ok (.iload_n 1, 1) := by decide +kernel
theorem dX3_longest_111 : decode cX3_longest 111 = .ok (.istore_n 1, 1) := by decide +kernel
theorem dX3_longest_112 : decode cX3_longest 112 = .ok (.iinc 2 1, 3) := by decide +kernel
theorem dX3_longest_115 : decode cX3_longest 115 = .ok (.goto (-111), 3) := by decide +kernel
theorem dX3_longest_118 : decode cX3_longest 118 = .ok (.iload_n 1, 1) := by decide +kernel
theorem dX3_longest_119 : decode cX3_longest 119 = .ok (.ireturn, 1) := by decide +kernel
theorem dX3_changed_0 : decode cX3_changed 0 = .ok (.iconst 0, 1) := by decide +kernel
theorem dX3_changed_1 : decode cX3_changed 1 = .ok (.istore_n 2, 1) := by decide +kernel
theorem dX3_changed_2 : decode cX3_changed 2 = .ok (.iconst 1, 1) := by decide +kernel
theorem dX3_changed_3 : decode cX3_changed 3 = .ok (.istore_n 3, 1) := by decide +kernel
theorem dX3_changed_4 : decode cX3_changed 4 = .ok (.iload_n 3, 1) := by decide +kernel
theorem dX3_changed_5 : decode cX3_changed 5 = .ok (.sipush 10000, 3) := by decide +kernel
theorem dX3_changed_8 : decode cX3_changed 8 = .ok (.if_icmp .ge 34, 3) := by decide +kernel
theorem dX3_changed_11 : decode cX3_changed 11 = .ok (.iload_n 2, 1) := by decide +kernel
theorem dX3_changed_12 : decode cX3_changed 12 = .ok (.iload_n 0, 1) := by decide +kernel
theorem dX3_changed_13 : decode cX3_changed 13 = .ok (.iload_n 3, 1) := by decide +kernel
theorem dX3_changed_14 : decode cX3_changed 14 = .ok (.idiv, 1) := by decide +kernel
theorem dX3_changed_15 : decode cX3_changed 15 = .ok (.bipush 10, 2) := by decide +kernel
theorem dX3_changed_17 : decode cX3_changed 17 = .ok (.irem, 1) := by decide +kernel
theorem dX3_changed_18 : decode cX3_changed 18 = .ok (.iload_n 1, 1) := by decide +kernel
theorem dX3_changed_19 : decode cX3_changed 19 = .ok (.iload_n 3, 1) := by decide +kernel
theorem dX3_changed_20 : decode cX3_changed 20 = .ok (.idiv, 1) := by decide +kernel
theorem dX3_changed_21 : decode cX3_changed 21 = .ok (.bipush 10, 2) := by decide +kernel
theorem dX3_changed_23 : decode cX3_changed 23 = .ok (.irem, 1) := by decide +kernel
theorem dX3_changed_24 : decode cX3_changed 24 = .ok (.if_icmp .eq 7, 3) := by decide +kernel
theorem dX3_changed_27 : decode cX3_changed 27 = .ok (.iconst 1, 1) := by decide +kernel
theorem dX3_changed_28 : decode cX3_changed 28 = .ok (.goto 4, 3) := by decide +kernel
theorem dX3_changed_31 : decode cX3_changed 31 = .ok (.iconst 0, 1) := by decide +kernel
theorem dX3_changed_32 : decode cX3_changed 32 = .ok (.iadd, 1) := by decide +kernel
theorem dX3_changed_33 : decode cX3_changed 33 = .ok (.istore_n 2, 1) := by decide +kernel
theorem dX3_changed_34 : decode cX3_changed 34 = .ok (.iload_n 3, 1) := by decide +kernel
theorem dX3_changed_35 : decode cX3_changed 35 = .ok (.bipush 10, 2) := by decide +kernel
theorem dX3_changed_37 : decode cX3_changed 37 = .ok (.imul, 1) := by decide +kernel
theorem dX3_changed_38 : decode cX3_changed 38 = .ok (.istore_n 3, 1) := by decide +kernel
theorem dX3_changed_39 : decode cX3_changed 39 = .ok (.goto (-35), 3) := by decide +kernel
theorem dX3_changed_42 : decode cX3_changed 42 = .ok (.iload_n 2, 1) := by decide +kernel
theorem dX3_changed_43 : decode cX3_changed 43 = .ok (.ireturn, 1) := by decide +kernel
theorem dX3_redraws_0 : decode cX3_redraws 0 = .ok (.aload_n 0, 1) := by decide +kernel
theorem dX3_redraws_1 : decode cX3_redraws 1 = .ok (.getfield 7, 3) := by decide +kernel
theorem dX3_redraws_4 : decode cX3_redraws 4 = .ok (.aload_n 0, 1) := by decide +kernel
theorem dX3_redraws_5 : decode cX3_redraws 5 = .ok (.getfield 13, 3) := by decide +kernel
theorem dX3_redraws_8 : decode cX3_redraws 8 = .ok (.iload_n 1, 1) := by decide +kernel
theorem dX3_redraws_9 : decode cX3_redraws 9 = .ok (.iaload, 1) := by decide +kernel
theorem dX3_redraws_10 : decode cX3_redraws 10 = .ok (.iaload, 1) := by decide +kernel
theorem dX3_redraws_11 : decode cX3_redraws 11 = .ok (.istore_n 2, 1) := by decide +kernel
theorem dX3_redraws_12 : decode cX3_redraws 12 = .ok (.aload_n 0, 1) := by decide +kernel
theorem dX3_redraws_13 : decode cX3_redraws 13 = .ok (.getfield 16, 3) := by decide +kernel
theorem dX3_redraws_16 : decode cX3_redraws 16 = .ok (.iload_n 1, 1) := by decide +kernel
theorem dX3_redraws_17 : decode cX3_redraws 17 = .ok (.iaload, 1) := by decide +kernel
theorem dX3_redraws_18 : decode cX3_redraws 18 = .ok (.iload_n 2, 1) := by decide +kernel
theorem dX3_redraws_19 : decode cX3_redraws 19 = .ok (.invokestatic 74, 3) := by decide +kernel
theorem dX3_redraws_22 : decode cX3_redraws 22 = .ok (.istore_n 3, 1) := by decide +kernel
theorem dX3_redraws_23 : decode cX3_redraws 23 = .ok (.iload_n 3, 1) := by decide +kernel
theorem dX3_redraws_24 : decode cX3_redraws 24 = .ok (.ifCond .le 74, 3) := by decide +kernel
theorem dX3_redraws_27 : decode cX3_redraws 27 = .ok (.aload_n 0, 1) := by decide +kernel
theorem dX3_redraws_28 : decode cX3_redraws 28 = .ok (.getfield 19, 3) := by decide +kernel
theorem dX3_redraws_31 : decode cX3_redraws 31 = .ok (.iload_n 1, 1) := by decide +kernel
theorem dX3_redraws_32 : decode cX3_redraws 32 = .ok (.iaload, 1) := by decide +kernel
theorem dX3_redraws_33 : decode cX3_redraws 33 = .ok (.iload_n 3, 1) := by decide +kernel
theorem dX3_redraws_34 : decode cX3_redraws 34 = .ok (.iadd, 1) := by decide +kernel
theorem dX3_redraws_35 : decode cX3_redraws 35 = .ok (.bipush 9, 2) := by decide +kernel
theorem dX3_redraws_37 : decode cX3_redraws 37 = .ok (.if_icmp .le 7, 3) := by decide +kernel
theorem dX3_redraws_40 : decode cX3_redraws 40 = .ok (.iconst 1, 1) := by decide +kernel
theorem dX3_redraws_41 : decode cX3_redraws 41 = .ok (.goto 4, 3) := by decide +kernel
theorem dX3_redraws_44 : decode cX3_redraws 44 = .ok (.iconst 0, 1) := by decide +kernel
theorem dX3_redraws_45 : decode cX3_redraws 45 = .ok (.istore 4, 2) := by decide +kernel
theorem dX3_redraws_47 : decode cX3_redraws 47 = .ok (.aload_n 0, 1) := by decide +kernel
theorem dX3_redraws_48 : decode cX3_redraws 48 = .ok (.getfield 22, 3) := by decide +kernel
theorem dX3_redraws_51 : decode cX3_redraws 51 = .ok (.iload_n 1, 1) := by decide +kernel
theorem dX3_redraws_52 : decode cX3_redraws 52 = .ok (.dup2, 1) := by decide +kernel
theorem dX3_redraws_53 : decode cX3_redraws 53 = .ok (.iaload, 1) := by decide +kernel
theorem dX3_redraws_54 : decode cX3_redraws 54 = .ok (.iload 4, 2) := by decide +kernel
theorem dX3_redraws_56 : decode cX3_redraws 56 = .ok (.ifCond .eq 8, 3) := by decide +kernel
theorem dX3_redraws_59 : decode cX3_redraws 59 = .ok (.bipush 20, 2) := by decide +kernel
theorem dX3_redraws_61 : decode cX3_redraws 61 = .ok (.goto 5, 3) := by decide +kernel
theorem dX3_redraws_64 : decode cX3_redraws 64 = .ok (.bipush 10, 2) := by decide +kernel
theorem dX3_redraws_66 : decode cX3_redraws 66 = .ok (.isub, 1) := by decide +kernel
theorem dX3_redraws_67 : decode cX3_redraws 67 = .ok (.iastore, 1) := by decide +kernel
theorem dX3_redraws_68 : decode cX3_redraws 68 = .ok (.aload_n 0, 1) := by decide +kernel
theorem dX3_redraws_69 : decode cX3_redraws 69 = .ok (.getfield 19, 3) := by decide +kernel
theorem dX3_redraws_72 : decode cX3_redraws 72 = .ok (.iload_n 1, 1) := by decide +kernel
theorem dX3_redraws_73 : decode cX3_redraws 73 = .ok (.iload 4, 2) := by decide +kernel
theorem dX3_redraws_75 : decode cX3_redraws 75 = .ok (.ifCond .eq 7, 3) := by decide +kernel
theorem dX3_redraws_78 : decode cX3_redraws 78 = .ok (.iconst 0, 1) := by decide +kernel
theorem dX3_redraws_79 : decode cX3_redraws 79 = .ok (.goto 11, 3) := by decide +kernel
theorem dX3_redraws_82 : decode cX3_redraws 82 = .ok (.aload_n 0, 1) := by decide +kernel
theorem dX3_redraws_83 : decode cX3_redraws 83 = .ok (.getfield 19, 3) := by decide +kernel
theorem dX3_redraws_86 : decode cX3_redraws 86 = .ok (.iload_n 1, 1) := by decide +kernel
theorem dX3_redraws_87 : decode cX3_redraws 87 = .ok (.iaload, 1) := by decide +kernel
theorem dX3_redraws_88 : decode cX3_redraws 88 = .ok (.iload_n 3, 1) := by decide +kernel
theorem dX3_redraws_89 : decode cX3_redraws 89 = .ok (.iadd, 1) := by decide +kernel
theorem dX3_redraws_90 : decode cX3_redraws 90 = .ok (.iastore, 1) := by decide +kernel
theorem dX3_redraws_91 : decode cX3_redraws 91 = .ok (.aload_n 0, 1) := by decide +kernel
theorem dX3_redraws_92 : decode cX3_redraws 92 = .ok (.getfield 16, 3) := by decide +kernel
theorem dX3_redraws_95 : decode cX3_redraws 95 = .ok (.iload_n 1, 1) := by decide +kernel
theorem dX3_redraws_96 : decode cX3_redraws 96 = .ok (.iload_n 2, 1) := by decide +kernel
theorem dX3_redraws_97 : decode cX3_redraws 97 = .ok (.iastore, 1) := by decide +kernel
theorem dX3_redraws_98 : decode cX3_redraws 98 = .ok (.return_, 1) := by decide +kernel
theorem dX3_sends_0 : decode cX3_sends 0 = .ok (.aload_n 0, 1) := by decide +kernel
theorem dX3_sends_1 : decode cX3_sends 1 = .ok (.getfield 34, 3) := by decide +kernel
theorem dX3_sends_4 : decode cX3_sends 4 = .ok (.iload_n 1, 1) := by decide +kernel
theorem dX3_sends_5 : decode cX3_sends 5 = .ok (.aload_n 0, 1) := by decide +kernel
theorem dX3_sends_6 : decode cX3_sends 6 = .ok (.getfield 57, 3) := by decide +kernel
theorem dX3_sends_9 : decode cX3_sends 9 = .ok (.iconst 5, 1) := by decide +kernel
theorem dX3_sends_10 : decode cX3_sends 10 = .ok (.iadd, 1) := by decide +kernel
theorem dX3_sends_11 : decode cX3_sends 11 = .ok (.iastore, 1) := by decide +kernel
theorem dX3_sends_12 : decode cX3_sends 12 = .ok (.aload_n 0, 1) := by decide +kernel
theorem dX3_sends_13 : decode cX3_sends 13 = .ok (.getfield 25, 3) := by decide +kernel
theorem dX3_sends_16 : decode cX3_sends 16 = .ok (.iload_n 1, 1) := by decide +kernel
theorem dX3_sends_17 : decode cX3_sends 17 = .ok (.iaload, 1) := by decide +kernel
theorem dX3_sends_18 : decode cX3_sends 18 = .ok (.ifCond .le 16, 3) := by decide +kernel
theorem dX3_sends_21 : decode cX3_sends 21 = .ok (.aload_n 0, 1) := by decide +kernel
theorem dX3_sends_22 : decode cX3_sends 22 = .ok (.getfield 25, 3) := by decide +kernel
theorem dX3_sends_25 : decode cX3_sends 25 = .ok (.iload_n 1, 1) := by decide +kernel
theorem dX3_sends_26 : decode cX3_sends 26 = .ok (.dup2, 1) := by decide +kernel
theorem dX3_sends_27 : decode cX3_sends 27 = .ok (.iaload, 1) := by decide +kernel
theorem dX3_sends_28 : decode cX3_sends 28 = .ok (.iconst 1, 1) := by decide +kernel
theorem dX3_sends_29 : decode cX3_sends 29 = .ok (.isub, 1) := by decide +kernel
theorem dX3_sends_30 : decode cX3_sends 30 = .ok (.iastore, 1) := by decide +kernel
theorem dX3_sends_31 : decode cX3_sends 31 = .ok (.goto 48, 3) := by decide +kernel
theorem dX3_sends_34 : decode cX3_sends 34 = .ok (.aload_n 0, 1) := by decide +kernel
theorem dX3_sends_35 : decode cX3_sends 35 = .ok (.getfield 22, 3) := by decide +kernel
theorem dX3_sends_38 : decode cX3_sends 38 = .ok (.iload_n 1, 1) := by decide +kernel
theorem dX3_sends_39 : decode cX3_sends 39 = .ok (.iaload, 1) := by decide +kernel
theorem dX3_sends_40 : decode cX3_sends 40 = .ok (.bipush 20, 2) := by decide +kernel
theorem dX3_sends_42 : decode cX3_sends 42 = .ok (.if_icmp .lt 37, 3) := by decide +kernel
theorem dX3_sends_45 : decode cX3_sends 45 = .ok (.aload_n 0, 1) := by decide +kernel
theorem dX3_sends_46 : decode cX3_sends 46 = .ok (.iload_n 1, 1) := by decide +kernel
theorem dX3_sends_47 : decode cX3_sends 47 = .ok (.invokevirtual 78, 3) := by decide +kernel
theorem dX3_sends_50 : decode cX3_sends 50 = .ok (.aload_n 0, 1) := by decide +kernel
theorem dX3_sends_51 : decode cX3_sends 51 = .ok (.getfield 28, 3) := by decide +kernel
theorem dX3_sends_54 : decode cX3_sends 54 = .ok (.iload_n 1, 1) := by decide +kernel
theorem dX3_sends_55 : decode cX3_sends 55 = .ok (.iaload, 1) := by decide +kernel
theorem dX3_sends_56 : decode cX3_sends 56 = .ok (.ifCond .le 16, 3) := by decide +kernel
theorem dX3_sends_59 : decode cX3_sends 59 = .ok (.aload_n 0, 1) := by decide +kernel
theorem dX3_sends_60 : decode cX3_sends 60 = .ok (.getfield 28, 3) := by decide +kernel
theorem dX3_sends_63 : decode cX3_sends 63 = .ok (.iload_n 1, 1) := by decide +kernel
theorem dX3_sends_64 : decode cX3_sends 64 = .ok (.dup2, 1) := by decide +kernel
theorem dX3_sends_65 : decode cX3_sends 65 = .ok (.iaload, 1) := by decide +kernel
theorem dX3_sends_66 : decode cX3_sends 66 = .ok (.iconst 1, 1) := by decide +kernel
theorem dX3_sends_67 : decode cX3_sends 67 = .ok (.isub, 1) := by decide +kernel
theorem dX3_sends_68 : decode cX3_sends 68 = .ok (.iastore, 1) := by decide +kernel
theorem dX3_sends_69 : decode cX3_sends 69 = .ok (.goto 10, 3) := by decide +kernel
theorem dX3_sends_72 : decode cX3_sends 72 = .ok (.aload_n 0, 1) := by decide +kernel
theorem dX3_sends_73 : decode cX3_sends 73 = .ok (.getfield 31, 3) := by decide +kernel
theorem dX3_sends_76 : decode cX3_sends 76 = .ok (.iload_n 1, 1) := by decide +kernel
theorem dX3_sends_77 : decode cX3_sends 77 = .ok (.iconst 0, 1) := by decide +kernel
theorem dX3_sends_78 : decode cX3_sends 78 = .ok (.iastore, 1) := by decide +kernel
theorem dX3_sends_79 : decode cX3_sends 79 = .ok (.return_, 1) := by decide +kernel
theorem dX3_leastNow_0 : decode cX3_leastNow 0 = .ok (.iconst (-1), 1) := by decide +kernel
theorem dX3_leastNow_1 : decode cX3_leastNow 1 = .ok (.istore_n 2, 1) := by decide +kernel
theorem dX3_leastNow_2 : decode cX3_leastNow 2 = .ok (.iconst 0, 1) := by decide +kernel
theorem dX3_leastNow_3 : decode cX3_leastNow 3 = .ok (.istore_n 3, 1) := by decide +kernel
theorem dX3_leastNow_4 : decode cX3_leastNow 4 = .ok (.iload_n 3, 1) := by decide +kernel
theorem dX3_leastNow_5 : decode cX3_leastNow 5 = .ok (.aload_n 0, 1) := by decide +kernel
theorem dX3_leastNow_6 : decode cX3_leastNow 6 = .ok (.getfield 51, 3) := by decide +kernel
theorem dX3_leastNow_9 : decode cX3_leastNow 9 = .ok (.if_icmp .ge 45, 3) := by decide +kernel
theorem dX3_leastNow_12 : decode cX3_leastNow 12 = .ok (.aload_n 0, 1) := by decide +kernel
theorem dX3_leastNow_13 : decode cX3_leastNow 13 = .ok (.getfield 13, 3) := by decide +kernel
theorem dX3_leastNow_16 : decode cX3_leastNow 16 = .ok (.iload_n 3, 1) := by decide +kernel
theorem dX3_leastNow_17 : decode cX3_leastNow 17 = .ok (.iaload, 1) := by decide +kernel
theorem dX3_leastNow_18 : decode cX3_leastNow 18 = .ok (.iload_n 1, 1) := by decide +kernel
theorem dX3_leastNow_19 : decode cX3_leastNow 19 = .ok (.if_icmp .ne 27, 3) := by decide +kernel
theorem dX3_leastNow_22 : decode cX3_leastNow 22 = .ok (.iload_n 2, 1) := by decide +kernel
theorem dX3_leastNow_23 : decode cX3_leastNow 23 = .ok (.iconst (-1), 1) := by decide +kernel
theorem dX3_leastNow_24 : decode cX3_leastNow 24 = .ok (.if_icmp .eq 13, 3) := by decide +kernel
theorem dX3_leastNow_27 : decode cX3_leastNow 27 = .ok (.aload_n 0, 1) := by decide +kernel
theorem dX3_leastNow_28 : decode cX3_leastNow 28 = .ok (.getfield 16, 3) := by decide +kernel
theorem dX3_leastNow_31 : decode cX3_leastNow 31 = .ok (.iload_n 3, 1) := by decide +kernel
theorem dX3_leastNow_32 : decode cX3_leastNow 32 = .ok (.iaload, 1) := by decide +kernel
theorem dX3_leastNow_33 : decode cX3_leastNow 33 = .ok (.iload_n 2, 1) := by decide +kernel
theorem dX3_leastNow_34 : decode cX3_leastNow 34 = .ok (.if_icmp .ge 12, 3) := by decide +kernel
theorem dX3_leastNow_37 : decode cX3_leastNow 37 = .ok (.aload_n 0, 1) := by decide +kernel
theorem dX3_leastNow_38 : decode cX3_leastNow 38 = .ok (.getfield 16, 3) := by decide +kernel
theorem dX3_leastNow_41 : decode cX3_leastNow 41 = .ok (.iload_n 3, 1) := by decide +kernel
theorem dX3_leastNow_42 : decode cX3_leastNow 42 = .ok (.iaload, 1) := by decide +kernel
theorem dX3_leastNow_43 : decode cX3_leastNow 43 = .ok (.goto 4, 3) := by decide +kernel
theorem dX3_leastNow_46 : decode cX3_leastNow 46 = .ok (.iload_n 2, 1) := by decide +kernel
theorem dX3_leastNow_47 : decode cX3_leastNow 47 = .ok (.istore_n 2, 1) := by decide +kernel
theorem dX3_leastNow_48 : decode cX3_leastNow 48 = .ok (.iinc 3 1, 3) := by decide +kernel
theorem dX3_leastNow_51 : decode cX3_leastNow 51 = .ok (.goto (-47), 3) := by decide +kernel
theorem dX3_leastNow_54 : decode cX3_leastNow 54 = .ok (.iload_n 2, 1) := by decide +kernel
theorem dX3_leastNow_55 : decode cX3_leastNow 55 = .ok (.ireturn, 1) := by decide +kernel
theorem dX3_lesser_0 : decode cX3_lesser 0 = .ok (.iload_n 0, 1) := by decide +kernel
theorem dX3_lesser_1 : decode cX3_lesser 1 = .ok (.iconst (-1), 1) := by decide +kernel
theorem dX3_lesser_2 : decode cX3_lesser 2 = .ok (.if_icmp .eq 13, 3) := by decide +kernel
theorem dX3_lesser_5 : decode cX3_lesser 5 = .ok (.iload_n 1, 1) := by decide +kernel
theorem dX3_lesser_6 : decode cX3_lesser 6 = .ok (.iconst (-1), 1) := by decide +kernel
theorem dX3_lesser_7 : decode cX3_lesser 7 = .ok (.if_icmp .eq 12, 3) := by decide +kernel
theorem dX3_lesser_10 : decode cX3_lesser 10 = .ok (.iload_n 1, 1) := by decide +kernel
theorem dX3_lesser_11 : decode cX3_lesser 11 = .ok (.iload_n 0, 1) := by decide +kernel
theorem dX3_lesser_12 : decode cX3_lesser 12 = .ok (.if_icmp .ge 7, 3) := by decide +kernel
theorem dX3_lesser_15 : decode cX3_lesser 15 = .ok (.iload_n 1, 1) := by decide +kernel
theorem dX3_lesser_16 : decode cX3_lesser 16 = .ok (.goto 4, 3) := by decide +kernel
theorem dX3_lesser_19 : decode cX3_lesser 19 = .ok (.iload_n 0, 1) := by decide +kernel
theorem dX3_lesser_20 : decode cX3_lesser 20 = .ok (.ireturn, 1) := by decide +kernel
theorem dX3_goes_0 : decode cX3_goes 0 = .ok (.iconst 0, 1) := by decide +kernel
theorem dX3_goes_1 : decode cX3_goes 1 = .ok (.istore_n 1, 1) := by decide +kernel
theorem dX3_goes_2 : decode cX3_goes 2 = .ok (.aload_n 0, 1) := by decide +kernel
theorem dX3_goes_3 : decode cX3_goes 3 = .ok (.dup, 1) := by decide +kernel
theorem dX3_goes_4 : decode cX3_goes 4 = .ok (.getfield 57, 3) := by decide +kernel
theorem dX3_goes_7 : decode cX3_goes 7 = .ok (.iconst 1, 1) := by decide +kernel
theorem dX3_goes_8 : decode cX3_goes 8 = .ok (.iadd, 1) := by decide +kernel
theorem dX3_goes_9 : decode cX3_goes 9 = .ok (.putfield 57, 3) := by decide +kernel
theorem dX3_goes_12 : decode cX3_goes 12 = .ok (.iconst 0, 1) := by decide +kernel
theorem dX3_goes_13 : decode cX3_goes 13 = .ok (.istore_n 2, 1) := by decide +kernel
theorem dX3_goes_14 : decode cX3_goes 14 = .ok (.iload_n 2, 1) := by decide +kernel
theorem dX3_goes_15 : decode cX3_goes 15 = .ok (.iconst 2, 1) := by decide +kernel
theorem dX3_goes_16 : decode cX3_goes 16 = .ok (.if_icmp .ge 27, 3) := by decide +kernel
theorem dX3_goes_19 : decode cX3_goes 19 = .ok (.aload_n 0, 1) := by decide +kernel
theorem dX3_goes_20 : decode cX3_goes 20 = .ok (.invokevirtual 81, 3) := by decide +kernel
theorem dX3_goes_23 : decode cX3_goes 23 = .ok (.istore_n 3, 1) := by decide +kernel
theorem dX3_goes_24 : decode cX3_goes 24 = .ok (.iload_n 3, 1) := by decide +kernel
theorem dX3_goes_25 : decode cX3_goes 25 = .ok (.iconst (-1), 1) := by decide +kernel
theorem dX3_goes_26 : decode cX3_goes 26 = .ok (.if_icmp .eq 11, 3) := by decide +kernel
theorem dX3_goes_29 : decode cX3_goes 29 = .ok (.aload_n 0, 1) := by decide +kernel
theorem dX3_goes_30 : decode cX3_goes 30 = .ok (.iload_n 3, 1) := by decide +kernel
theorem dX3_goes_31 : decode cX3_goes 31 = .ok (.invokevirtual 85, 3) := by decide +kernel
theorem dX3_goes_34 : decode cX3_goes 34 = .ok (.iinc 1 1, 3) := by decide +kernel
theorem dX3_goes_37 : decode cX3_goes 37 = .ok (.iinc 2 1, 3) := by decide +kernel
theorem dX3_goes_40 : decode cX3_goes 40 = .ok (.goto (-26), 3) := by decide +kernel
theorem dX3_goes_43 : decode cX3_goes 43 = .ok (.iconst 0, 1) := by decide +kernel
theorem dX3_goes_44 : decode cX3_goes 44 = .ok (.istore_n 2, 1) := by decide +kernel
theorem dX3_goes_45 : decode cX3_goes 45 = .ok (.iload_n 2, 1) := by decide +kernel
theorem dX3_goes_46 : decode cX3_goes 46 = .ok (.aload_n 0, 1) := by decide +kernel
theorem dX3_goes_47 : decode cX3_goes 47 = .ok (.getfield 51, 3) := by decide +kernel
theorem dX3_goes_50 : decode cX3_goes 50 = .ok (.if_icmp .ge 32, 3) := by decide +kernel
theorem dX3_goes_53 : decode cX3_goes 53 = .ok (.aload_n 0, 1) := by decide +kernel
theorem dX3_goes_54 : decode cX3_goes 54 = .ok (.getfield 22, 3) := by decide +kernel
theorem dX3_goes_57 : decode cX3_goes 57 = .ok (.iload_n 2, 1) := by decide +kernel
theorem dX3_goes_58 : decode cX3_goes 58 = .ok (.dup2, 1) := by decide +kernel
theorem dX3_goes_59 : decode cX3_goes 59 = .ok (.iaload, 1) := by decide +kernel
theorem dX3_goes_60 : decode cX3_goes 60 = .ok (.aload_n 0, 1) := by decide +kernel
theorem dX3_goes_61 : decode cX3_goes 61 = .ok (.getfield 22, 3) := by decide +kernel
theorem dX3_goes_64 : decode cX3_goes 64 = .ok (.iload_n 2, 1) := by decide +kernel
theorem dX3_goes_65 : decode cX3_goes 65 = .ok (.iaload, 1) := by decide +kernel
theorem dX3_goes_66 : decode cX3_goes 66 = .ok (.ifCond .le 7, 3) := by decide +kernel
theorem dX3_goes_69 : decode cX3_goes 69 = .ok (.iconst 1, 1) := by decide +kernel
theorem dX3_goes_70 : decode cX3_goes 70 = .ok (.goto 4, 3) := by decide +kernel
theorem dX3_goes_73 : decode cX3_goes 73 = .ok (.iconst 0, 1) := by decide +kernel
theorem dX3_goes_74 : decode cX3_goes 74 = .ok (.isub, 1) := by decide +kernel
theorem dX3_goes_75 : decode cX3_goes 75 = .ok (.iastore, 1) := by decide +kernel
theorem dX3_goes_76 : decode cX3_goes 76 = .ok (.iinc 2 1, 3) := by decide +kernel
theorem dX3_goes_79 : decode cX3_goes 79 = .ok (.goto (-34), 3) := by decide +kernel
theorem dX3_goes_82 : decode cX3_goes 82 = .ok (.iconst 0, 1) := by decide +kernel
theorem dX3_goes_83 : decode cX3_goes 83 = .ok (.istore_n 2, 1) := by decide +kernel
theorem dX3_goes_84 : decode cX3_goes 84 = .ok (.iload_n 2, 1) := by decide +kernel
theorem dX3_goes_85 : decode cX3_goes 85 = .ok (.bipush 12, 2) := by decide +kernel
theorem dX3_goes_87 : decode cX3_goes 87 = .ok (.if_icmp .ge 49, 3) := by decide +kernel
theorem dX3_goes_90 : decode cX3_goes 90 = .ok (.aload_n 0, 1) := by decide +kernel
theorem dX3_goes_91 : decode cX3_goes 91 = .ok (.iload_n 2, 1) := by decide +kernel
theorem dX3_goes_92 : decode cX3_goes 92 = .ok (.invokevirtual 88, 3) := by decide +kernel
theorem dX3_goes_95 : decode cX3_goes 95 = .ok (.istore_n 3, 1) := by decide +kernel
theorem dX3_goes_96 : decode cX3_goes 96 = .ok (.aload_n 0, 1) := by decide +kernel
theorem dX3_goes_97 : decode cX3_goes 97 = .ok (.getfield 37, 3) := by decide +kernel
theorem dX3_goes_100 : decode cX3_goes 100 = .ok (.bipush 60, 2) := by decide +kernel
theorem dX3_goes_102 : decode cX3_goes 102 = .ok (.iload_n 2, 1) := by decide +kernel
theorem dX3_goes_103 : decode cX3_goes 103 = .ok (.imul, 1) := by decide +kernel
theorem dX3_goes_104 : decode cX3_goes 104 = .ok (.aload_n 0, 1) := by decide +kernel
theorem dX3_goes_105 : decode cX3_goes 105 = .ok (.getfield 57, 3) := by decide +kernel
theorem dX3_goes_108 : decode cX3_goes 108 = .ok (.bipush 60, 2) := by decide +kernel
theorem dX3_goes_110 : decode cX3_goes 110 = .ok (.irem, 1) := by decide +kernel
theorem dX3_goes_111 : decode cX3_goes 111 = .ok (.iadd, 1) := by decide +kernel
theorem dX3_goes_112 : decode cX3_goes 112 = .ok (.iload_n 3, 1) := by decide +kernel
theorem dX3_goes_113 : decode cX3_goes 113 = .ok (.iastore, 1) := by decide +kernel
theorem dX3_goes_114 : decode cX3_goes 114 = .ok (.aload_n 0, 1) := by decide +kernel
theorem dX3_goes_115 : decode cX3_goes 115 = .ok (.getfield 40, 3) := by decide +kernel
theorem dX3_goes_118 : decode cX3_goes 118 = .ok (.iload_n 2, 1) := by decide +kernel
theorem dX3_goes_119 : decode cX3_goes 119 = .ok (.aload_n 0, 1) := by decide +kernel
theorem dX3_goes_120 : decode cX3_goes 120 = .ok (.getfield 40, 3) := by decide +kernel
theorem dX3_goes_123 : decode cX3_goes 123 = .ok (.iload_n 2, 1) := by decide +kernel
theorem dX3_goes_124 : decode cX3_goes 124 = .ok (.iaload, 1) := by decide +kernel
theorem dX3_goes_125 : decode cX3_goes 125 = .ok (.iload_n 3, 1) := by decide +kernel
theorem dX3_goes_126 : decode cX3_goes 126 = .ok (.invokestatic 92, 3) := by decide +kernel
theorem dX3_goes_129 : decode cX3_goes 129 = .ok (.iastore, 1) := by decide +kernel
theorem dX3_goes_130 : decode cX3_goes 130 = .ok (.iinc 2 1, 3) := by decide +kernel
theorem dX3_goes_133 : decode cX3_goes 133 = .ok (.goto (-49), 3) := by decide +kernel
theorem dX3_goes_136 : decode cX3_goes 136 = .ok (.iload_n 1, 1) := by decide +kernel
theorem dX3_goes_137 : decode cX3_goes 137 = .ok (.ireturn, 1) := by decide +kernel
theorem dX3_pass_0 : decode cX3_pass 0 = .ok (.aload_n 0, 1) := by decide +kernel
theorem dX3_pass_1 : decode cX3_pass 1 = .ok (.iload_n 1, 1) := by decide +kernel
theorem dX3_pass_2 : decode cX3_pass 2 = .ok (.iconst 1, 1) := by decide +kernel
theorem dX3_pass_3 : decode cX3_pass 3 = .ok (.sipush 200, 3) := by decide +kernel
theorem dX3_pass_6 : decode cX3_pass 6 = .ok (.invokestatic 47, 3) := by decide +kernel
theorem dX3_pass_9 : decode cX3_pass 9 = .ok (.ifCond .ne 7, 3) := by decide +kernel
theorem dX3_pass_12 : decode cX3_pass 12 = .ok (.iconst 1, 1) := by decide +kernel
theorem dX3_pass_13 : decode cX3_pass 13 = .ok (.goto 20, 3) := by decide +kernel
theorem dX3_pass_16 : decode cX3_pass 16 = .ok (.aload_n 0, 1) := by decide +kernel
theorem dX3_pass_17 : decode cX3_pass 17 = .ok (.getfield 57, 3) := by decide +kernel
theorem dX3_pass_20 : decode cX3_pass 20 = .ok (.iload_n 1, 1) := by decide +kernel
theorem dX3_pass_21 : decode cX3_pass 21 = .ok (.iadd, 1) := by decide +kernel
theorem dX3_pass_22 : decode cX3_pass 22 = .ok (.sipush 10000, 3) := by decide +kernel
theorem dX3_pass_25 : decode cX3_pass 25 = .ok (.if_icmp .le 7, 3) := by decide +kernel
theorem dX3_pass_28 : decode cX3_pass 28 = .ok (.iconst 2, 1) := by decide +kernel
theorem dX3_pass_29 : decode cX3_pass 29 = .ok (.goto 4, 3) := by decide +kernel
theorem dX3_pass_32 : decode cX3_pass 32 = .ok (.iconst 0, 1) := by decide +kernel
theorem dX3_pass_33 : decode cX3_pass 33 = .ok (.invokevirtual 64, 3) := by decide +kernel
theorem dX3_pass_36 : decode cX3_pass 36 = .ok (.ifCond .ne 5, 3) := by decide +kernel
theorem dX3_pass_39 : decode cX3_pass 39 = .ok (.iconst 0, 1) := by decide +kernel
theorem dX3_pass_40 : decode cX3_pass 40 = .ok (.ireturn, 1) := by decide +kernel
theorem dX3_pass_41 : decode cX3_pass 41 = .ok (.iconst 0, 1) := by decide +kernel
theorem dX3_pass_42 : decode cX3_pass 42 = .ok (.istore_n 2, 1) := by decide +kernel
theorem dX3_pass_43 : decode cX3_pass 43 = .ok (.iconst 0, 1) := by decide +kernel
theorem dX3_pass_44 : decode cX3_pass 44 = .ok (.istore_n 3, 1) := by decide +kernel
theorem dX3_pass_45 : decode cX3_pass 45 = .ok (.iload_n 3, 1) := by decide +kernel
theorem dX3_pass_46 : decode cX3_pass 46 = .ok (.iload_n 1, 1) := by decide +kernel
theorem dX3_pass_47 : decode cX3_pass 47 = .ok (.if_icmp .ge 16, 3) := by decide +kernel
theorem dX3_pass_50 : decode cX3_pass 50 = .ok (.iload_n 2, 1) := by decide +kernel
theorem dX3_pass_51 : decode cX3_pass 51 = .ok (.aload_n 0, 1) := by decide +kernel
theorem dX3_pass_52 : decode cX3_pass 52 = .ok (.invokevirtual 95, 3) := by decide +kernel
theorem dX3_pass_55 : decode cX3_pass 55 = .ok (.iadd, 1) := by decide +kernel
theorem dX3_pass_56 : decode cX3_pass 56 = .ok (.istore_n 2, 1) := by decide +kernel
theorem dX3_pass_57 : decode cX3_pass 57 = .ok (.iinc 3 1, 3) := by decide +kernel
theorem dX3_pass_60 : decode cX3_pass 60 = .ok (.goto (-15), 3) := by decide +kernel
theorem dX3_pass_63 : decode cX3_pass 63 = .ok (.iload_n 2, 1) := by decide +kernel
theorem dX3_pass_64 : decode cX3_pass 64 = .ok (.ireturn, 1) := by decide +kernel
theorem dX3_time_0 : decode cX3_time 0 = .ok (.aload_n 0, 1) := by decide +kernel
theorem dX3_time_1 : decode cX3_time 1 = .ok (.iconst 0, 1) := by decide +kernel
theorem dX3_time_2 : decode cX3_time 2 = .ok (.putfield 43, 3) := by decide +kernel
theorem dX3_time_5 : decode cX3_time 5 = .ok (.aload_n 0, 1) := by decide +kernel
theorem dX3_time_6 : decode cX3_time 6 = .ok (.getfield 57, 3) := by decide +kernel
theorem dX3_time_9 : decode cX3_time 9 = .ok (.ireturn, 1) := by decide +kernel
theorem dX3_order_0 : decode cX3_order 0 = .ok (.aload_n 0, 1) := by decide +kernel
theorem dX3_order_1 : decode cX3_order 1 = .ok (.aload_n 0, 1) := by decide +kernel
theorem dX3_order_2 : decode cX3_order 2 = .ok (.iload_n 1, 1) := by decide +kernel
theorem dX3_order_3 : decode cX3_order 3 = .ok (.invokevirtual 71, 3) := by decide +kernel
theorem dX3_order_6 : decode cX3_order 6 = .ok (.ifCond .eq 7, 3) := by decide +kernel
theorem dX3_order_9 : decode cX3_order 9 = .ok (.iconst 0, 1) := by decide +kernel
theorem dX3_order_10 : decode cX3_order 10 = .ok (.goto 4, 3) := by decide +kernel
theorem dX3_order_13 : decode cX3_order 13 = .ok (.iconst 1, 1) := by decide +kernel
theorem dX3_order_14 : decode cX3_order 14 = .ok (.invokevirtual 64, 3) := by decide +kernel
theorem dX3_order_17 : decode cX3_order 17 = .ok (.ifCond .ne 5, 3) := by decide +kernel
theorem dX3_order_20 : decode cX3_order 20 = .ok (.iconst 0, 1) := by decide +kernel
theorem dX3_order_21 : decode cX3_order 21 = .ok (.ireturn, 1) := by decide +kernel
theorem dX3_order_22 : decode cX3_order 22 = .ok (.aload_n 0, 1) := by decide +kernel
theorem dX3_order_23 : decode cX3_order 23 = .ok (.getfield 31, 3) := by decide +kernel
theorem dX3_order_26 : decode cX3_order 26 = .ok (.iload_n 1, 1) := by decide +kernel
theorem dX3_order_27 : decode cX3_order 27 = .ok (.iaload, 1) := by decide +kernel
theorem dX3_order_28 : decode cX3_order 28 = .ok (.ifCond .ne 7, 3) := by decide +kernel
theorem dX3_order_31 : decode cX3_order 31 = .ok (.iconst (-1), 1) := by decide +kernel
theorem dX3_order_32 : decode cX3_order 32 = .ok (.goto 9, 3) := by decide +kernel
theorem dX3_order_35 : decode cX3_order 35 = .ok (.aload_n 0, 1) := by decide +kernel
theorem dX3_order_36 : decode cX3_order 36 = .ok (.getfield 31, 3) := by decide +kernel
theorem dX3_order_39 : decode cX3_order 39 = .ok (.iload_n 1, 1) := by decide +kernel
theorem dX3_order_40 : decode cX3_order 40 = .ok (.iaload, 1) := by decide +kernel
theorem dX3_order_41 : decode cX3_order 41 = .ok (.ireturn, 1) := by decide +kernel
theorem dX3_orders_0 : decode cX3_orders 0 = .ok (.aload_n 0, 1) := by decide +kernel
theorem dX3_orders_1 : decode cX3_orders 1 = .ok (.iconst 0, 1) := by decide +kernel
theorem dX3_orders_2 : decode cX3_orders 2 = .ok (.putfield 43, 3) := by decide +kernel
theorem dX3_orders_5 : decode cX3_orders 5 = .ok (.iconst 0, 1) := by decide +kernel
theorem dX3_orders_6 : decode cX3_orders 6 = .ok (.istore_n 1, 1) := by decide +kernel
theorem dX3_orders_7 : decode cX3_orders 7 = .ok (.iconst 0, 1) := by decide +kernel
theorem dX3_orders_8 : decode cX3_orders 8 = .ok (.istore_n 2, 1) := by decide +kernel
theorem dX3_orders_9 : decode cX3_orders 9 = .ok (.iload_n 2, 1) := by decide +kernel
theorem dX3_orders_10 : decode cX3_orders 10 = .ok (.aload_n 0, 1) := by decide +kernel
theorem dX3_orders_11 : decode cX3_orders 11 = .ok (.getfield 51, 3) := by decide +kernel
theorem dX3_orders_14 : decode cX3_orders 14 = .ok (.if_icmp .ge 26, 3) := by decide +kernel
theorem dX3_orders_17 : decode cX3_orders 17 = .ok (.iload_n 1, 1) := by decide +kernel
theorem dX3_orders_18 : decode cX3_orders 18 = .ok (.aload_n 0, 1) := by decide +kernel
theorem dX3_orders_19 : decode cX3_orders 19 = .ok (.getfield 31, 3) := by decide +kernel
theorem dX3_orders_22 : decode cX3_orders 22 = .ok (.iload_n 2, 1) := by decide +kernel
theorem dX3_orders_23 : decode cX3_orders 23 = .ok (.iaload, 1) := by decide +kernel
theorem dX3_orders_24 : decode cX3_orders 24 = .ok (.ifCond .le 7, 3) := by decide +kernel
theorem dX3_orders_27 : decode cX3_orders 27 = .ok (.iconst 1, 1) := by decide +kernel
theorem dX3_orders_28 : decode cX3_orders 28 = .ok (.goto 4, 3) := by decide +kernel
theorem dX3_orders_31 : decode cX3_orders 31 = .ok (.iconst 0, 1) := by decide +kernel
theorem dX3_orders_32 : decode cX3_orders 32 = .ok (.iadd, 1) := by decide +kernel
theorem dX3_orders_33 : decode cX3_orders 33 = .ok (.istore_n 1, 1) := by decide +kernel
theorem dX3_orders_34 : decode cX3_orders 34 = .ok (.iinc 2 1, 3) := by decide +kernel
theorem dX3_orders_37 : decode cX3_orders 37 = .ok (.goto (-28), 3) := by decide +kernel
theorem dX3_orders_40 : decode cX3_orders 40 = .ok (.iload_n 1, 1) := by decide +kernel
theorem dX3_orders_41 : decode cX3_orders 41 = .ok (.ireturn, 1) := by decide +kernel
theorem dX3_nextToSend_0 : decode cX3_nextToSend 0 = .ok (.aload_n 0, 1) := by decide +kernel
theorem dX3_nextToSend_1 : decode cX3_nextToSend 1 = .ok (.iconst 0, 1) := by decide +kernel
theorem dX3_nextToSend_2 : decode cX3_nextToSend 2 = .ok (.putfield 43, 3) := by decide +kernel
theorem dX3_nextToSend_5 : decode cX3_nextToSend 5 = .ok (.aload_n 0, 1) := by decide +kernel
theorem dX3_nextToSend_6 : decode cX3_nextToSend 6 = .ok (.invokevirtual 81, 3) := by decide +kernel
theorem dX3_nextToSend_9 : decode cX3_nextToSend 9 = .ok (.ireturn, 1) := by decide +kernel
theorem dX3_shown_0 : decode cX3_shown 0 = .ok (.aload_n 0, 1) := by decide +kernel
theorem dX3_shown_1 : decode cX3_shown 1 = .ok (.aload_n 0, 1) := by decide +kernel
theorem dX3_shown_2 : decode cX3_shown 2 = .ok (.iload_n 1, 1) := by decide +kernel
theorem dX3_shown_3 : decode cX3_shown 3 = .ok (.invokevirtual 71, 3) := by decide +kernel
theorem dX3_shown_6 : decode cX3_shown 6 = .ok (.ifCond .eq 7, 3) := by decide +kernel
theorem dX3_shown_9 : decode cX3_shown 9 = .ok (.iconst 0, 1) := by decide +kernel
theorem dX3_shown_10 : decode cX3_shown 10 = .ok (.goto 4, 3) := by decide +kernel
theorem dX3_shown_13 : decode cX3_shown 13 = .ok (.iconst 1, 1) := by decide +kernel
theorem dX3_shown_14 : decode cX3_shown 14 = .ok (.invokevirtual 64, 3) := by decide +kernel
theorem dX3_shown_17 : decode cX3_shown 17 = .ok (.ifCond .eq 12, 3) := by decide +kernel
theorem dX3_shown_20 : decode cX3_shown 20 = .ok (.aload_n 0, 1) := by decide +kernel
theorem dX3_shown_21 : decode cX3_shown 21 = .ok (.getfield 16, 3) := by decide +kernel
theorem dX3_shown_24 : decode cX3_shown 24 = .ok (.iload_n 1, 1) := by decide +kernel
theorem dX3_shown_25 : decode cX3_shown 25 = .ok (.iaload, 1) := by decide +kernel
theorem dX3_shown_26 : decode cX3_shown 26 = .ok (.goto 4, 3) := by decide +kernel
theorem dX3_shown_29 : decode cX3_shown 29 = .ok (.iconst 0, 1) := by decide +kernel
theorem dX3_shown_30 : decode cX3_shown 30 = .ok (.ireturn, 1) := by decide +kernel
theorem dX3_ghosts_0 : decode cX3_ghosts 0 = .ok (.aload_n 0, 1) := by decide +kernel
theorem dX3_ghosts_1 : decode cX3_ghosts 1 = .ok (.aload_n 0, 1) := by decide +kernel
theorem dX3_ghosts_2 : decode cX3_ghosts 2 = .ok (.iload_n 1, 1) := by decide +kernel
theorem dX3_ghosts_3 : decode cX3_ghosts 3 = .ok (.invokevirtual 71, 3) := by decide +kernel
theorem dX3_ghosts_6 : decode cX3_ghosts 6 = .ok (.ifCond .eq 7, 3) := by decide +kernel
theorem dX3_ghosts_9 : decode cX3_ghosts 9 = .ok (.iconst 0, 1) := by decide +kernel
theorem dX3_ghosts_10 : decode cX3_ghosts 10 = .ok (.goto 4, 3) := by decide +kernel
theorem dX3_ghosts_13 : decode cX3_ghosts 13 = .ok (.iconst 1, 1) := by decide +kernel
theorem dX3_ghosts_14 : decode cX3_ghosts 14 = .ok (.invokevirtual 64, 3) := by decide +kernel
theorem dX3_ghosts_17 : decode cX3_ghosts 17 = .ok (.ifCond .eq 12, 3) := by decide +kernel
theorem dX3_ghosts_20 : decode cX3_ghosts 20 = .ok (.aload_n 0, 1) := by decide +kernel
theorem dX3_ghosts_21 : decode cX3_ghosts 21 = .ok (.getfield 19, 3) := by decide +kernel
theorem dX3_ghosts_24 : decode cX3_ghosts 24 = .ok (.iload_n 1, 1) := by decide +kernel
theorem dX3_ghosts_25 : decode cX3_ghosts 25 = .ok (.iaload, 1) := by decide +kernel
theorem dX3_ghosts_26 : decode cX3_ghosts 26 = .ok (.goto 4, 3) := by decide +kernel
theorem dX3_ghosts_29 : decode cX3_ghosts 29 = .ok (.iconst 0, 1) := by decide +kernel
theorem dX3_ghosts_30 : decode cX3_ghosts 30 = .ok (.ireturn, 1) := by decide +kernel
theorem dX3_battery_0 : decode cX3_battery 0 = .ok (.aload_n 0, 1) := by decide +kernel
theorem dX3_battery_1 : decode cX3_battery 1 = .ok (.aload_n 0, 1) := by decide +kernel
theorem dX3_battery_2 : decode cX3_battery 2 = .ok (.iload_n 1, 1) := by decide +kernel
theorem dX3_battery_3 : decode cX3_battery 3 = .ok (.invokevirtual 71, 3) := by decide +kernel
theorem dX3_battery_6 : decode cX3_battery 6 = .ok (.ifCond .eq 7, 3) := by decide +kernel
theorem dX3_battery_9 : decode cX3_battery 9 = .ok (.iconst 0, 1) := by decide +kernel
theorem dX3_battery_10 : decode cX3_battery 10 = .ok (.goto 4, 3) := by decide +kernel
theorem dX3_battery_13 : decode cX3_battery 13 = .ok (.iconst 1, 1) := by decide +kernel
theorem dX3_battery_14 : decode cX3_battery 14 = .ok (.invokevirtual 64, 3) := by decide +kernel
theorem dX3_battery_17 : decode cX3_battery 17 = .ok (.ifCond .eq 12, 3) := by decide +kernel
theorem dX3_battery_20 : decode cX3_battery 20 = .ok (.aload_n 0, 1) := by decide +kernel
theorem dX3_battery_21 : decode cX3_battery 21 = .ok (.getfield 22, 3) := by decide +kernel
theorem dX3_battery_24 : decode cX3_battery 24 = .ok (.iload_n 1, 1) := by decide +kernel
theorem dX3_battery_25 : decode cX3_battery 25 = .ok (.iaload, 1) := by decide +kernel
theorem dX3_battery_26 : decode cX3_battery 26 = .ok (.goto 4, 3) := by decide +kernel
theorem dX3_battery_29 : decode cX3_battery 29 = .ok (.iconst 0, 1) := by decide +kernel
theorem dX3_battery_30 : decode cX3_battery 30 = .ok (.ireturn, 1) := by decide +kernel
theorem dX3_lies_0 : decode cX3_lies 0 = .ok (.aload_n 0, 1) := by decide +kernel
theorem dX3_lies_1 : decode cX3_lies 1 = .ok (.iconst 0, 1) := by decide +kernel
theorem dX3_lies_2 : decode cX3_lies 2 = .ok (.putfield 43, 3) := by decide +kernel
theorem dX3_lies_5 : decode cX3_lies 5 = .ok (.iconst 0, 1) := by decide +kernel
theorem dX3_lies_6 : decode cX3_lies 6 = .ok (.istore_n 1, 1) := by decide +kernel
theorem dX3_lies_7 : decode cX3_lies 7 = .ok (.iconst 0, 1) := by decide +kernel
theorem dX3_lies_8 : decode cX3_lies 8 = .ok (.istore_n 2, 1) := by decide +kernel
theorem dX3_lies_9 : decode cX3_lies 9 = .ok (.iload_n 2, 1) := by decide +kernel
theorem dX3_lies_10 : decode cX3_lies 10 = .ok (.aload_n 0, 1) := by decide +kernel
theorem dX3_lies_11 : decode cX3_lies 11 = .ok (.getfield 51, 3) := by decide +kernel
theorem dX3_lies_14 : decode cX3_lies 14 = .ok (.if_icmp .ge 39, 3) := by decide +kernel
theorem dX3_lies_17 : decode cX3_lies 17 = .ok (.iload_n 1, 1) := by decide +kernel
theorem dX3_lies_18 : decode cX3_lies 18 = .ok (.aload_n 0, 1) := by decide +kernel
theorem dX3_lies_19 : decode cX3_lies 19 = .ok (.getfield 16, 3) := by decide +kernel
theorem dX3_lies_22 : decode cX3_lies 22 = .ok (.iload_n 2, 1) := by decide +kernel
theorem dX3_lies_23 : decode cX3_lies 23 = .ok (.iaload, 1) := by decide +kernel
theorem dX3_lies_24 : decode cX3_lies 24 = .ok (.aload_n 0, 1) := by decide +kernel
theorem dX3_lies_25 : decode cX3_lies 25 = .ok (.getfield 7, 3) := by decide +kernel
theorem dX3_lies_28 : decode cX3_lies 28 = .ok (.aload_n 0, 1) := by decide +kernel
theorem dX3_lies_29 : decode cX3_lies 29 = .ok (.getfield 13, 3) := by decide +kernel
theorem dX3_lies_32 : decode cX3_lies 32 = .ok (.iload_n 2, 1) := by decide +kernel
theorem dX3_lies_33 : decode cX3_lies 33 = .ok (.iaload, 1) := by decide +kernel
theorem dX3_lies_34 : decode cX3_lies 34 = .ok (.iaload, 1) := by decide +kernel
theorem dX3_lies_35 : decode cX3_lies 35 = .ok (.if_icmp .ge 9, 3) := by decide +kernel
theorem dX3_lies_38 : decode cX3_lies 38 = .ok (.iconst 1, 1) := by decide +kernel
theorem dX3_lies_39 : decode cX3_lies 39 = .ok (.iload_n 2, 1) := by decide +kernel
theorem dX3_lies_40 : decode cX3_lies 40 = .ok (.ishl, 1) := by decide +kernel
theorem dX3_lies_41 : decode cX3_lies 41 = .ok (.goto 4, 3) := by decide +kernel
theorem dX3_lies_44 : decode cX3_lies 44 = .ok (.iconst 0, 1) := by decide +kernel
theorem dX3_lies_45 : decode cX3_lies 45 = .ok (.ior, 1) := by decide +kernel
theorem dX3_lies_46 : decode cX3_lies 46 = .ok (.istore_n 1, 1) := by decide +kernel
theorem dX3_lies_47 : decode cX3_lies 47 = .ok (.iinc 2 1, 3) := by decide +kernel
theorem dX3_lies_50 : decode cX3_lies 50 = .ok (.goto (-41), 3) := by decide +kernel
theorem dX3_lies_53 : decode cX3_lies 53 = .ok (.iload_n 1, 1) := by decide +kernel
theorem dX3_lies_54 : decode cX3_lies 54 = .ok (.ireturn, 1) := by decide +kernel
theorem dX3_asked_0 : decode cX3_asked 0 = .ok (.aload_n 0, 1) := by decide +kernel
theorem dX3_asked_1 : decode cX3_asked 1 = .ok (.iload_n 1, 1) := by decide +kernel
theorem dX3_asked_2 : decode cX3_asked 2 = .ok (.invokestatic 60, 3) := by decide +kernel
theorem dX3_asked_5 : decode cX3_asked 5 = .ok (.ifCond .eq 7, 3) := by decide +kernel
theorem dX3_asked_8 : decode cX3_asked 8 = .ok (.iconst 0, 1) := by decide +kernel
theorem dX3_asked_9 : decode cX3_asked 9 = .ok (.goto 4, 3) := by decide +kernel
theorem dX3_asked_12 : decode cX3_asked 12 = .ok (.iconst 1, 1) := by decide +kernel
theorem dX3_asked_13 : decode cX3_asked 13 = .ok (.invokevirtual 64, 3) := by decide +kernel
theorem dX3_asked_16 : decode cX3_asked 16 = .ok (.ifCond .ne 5, 3) := by decide +kernel
theorem dX3_asked_19 : decode cX3_asked 19 = .ok (.iconst 0, 1) := by decide +kernel
theorem dX3_asked_20 : decode cX3_asked 20 = .ok (.ireturn, 1) := by decide +kernel
theorem dX3_asked_21 : decode cX3_asked 21 = .ok (.aload_n 0, 1) := by decide +kernel
theorem dX3_asked_22 : decode cX3_asked 22 = .ok (.getfield 7, 3) := by decide +kernel
theorem dX3_asked_25 : decode cX3_asked 25 = .ok (.iload_n 1, 1) := by decide +kernel
theorem dX3_asked_26 : decode cX3_asked 26 = .ok (.iaload, 1) := by decide +kernel
theorem dX3_asked_27 : decode cX3_asked 27 = .ok (.aload_n 0, 1) := by decide +kernel
theorem dX3_asked_28 : decode cX3_asked 28 = .ok (.iload_n 1, 1) := by decide +kernel
theorem dX3_asked_29 : decode cX3_asked 29 = .ok (.invokevirtual 88, 3) := by decide +kernel
theorem dX3_asked_32 : decode cX3_asked 32 = .ok (.invokestatic 92, 3) := by decide +kernel
theorem dX3_asked_35 : decode cX3_asked 35 = .ok (.istore_n 2, 1) := by decide +kernel
theorem dX3_asked_36 : decode cX3_asked 36 = .ok (.iconst 0, 1) := by decide +kernel
theorem dX3_asked_37 : decode cX3_asked 37 = .ok (.istore_n 3, 1) := by decide +kernel
theorem dX3_asked_38 : decode cX3_asked 38 = .ok (.iload_n 3, 1) := by decide +kernel
theorem dX3_asked_39 : decode cX3_asked 39 = .ok (.bipush 60, 2) := by decide +kernel
theorem dX3_asked_41 : decode cX3_asked 41 = .ok (.if_icmp .ge 25, 3) := by decide +kernel
theorem dX3_asked_44 : decode cX3_asked 44 = .ok (.iload_n 2, 1) := by decide +kernel
theorem dX3_asked_45 : decode cX3_asked 45 = .ok (.aload_n 0, 1) := by decide +kernel
theorem dX3_asked_46 : decode cX3_asked 46 = .ok (.getfield 37, 3) := by decide +kernel
theorem dX3_asked_49 : decode cX3_asked 49 = .ok (.bipush 60, 2) := by decide +kernel
theorem dX3_asked_51 : decode cX3_asked 51 = .ok (.iload_n 1, 1) := by decide +kernel
theorem dX3_asked_52 : decode cX3_asked 52 = .ok (.imul, 1) := by decide +kernel
theorem dX3_asked_53 : decode cX3_asked 53 = .ok (.iload_n 3, 1) := by decide +kernel
theorem dX3_asked_54 : decode cX3_asked 54 = .ok (.iadd, 1) := by decide +kernel
theorem dX3_asked_55 : decode cX3_asked 55 = .ok (.iaload, 1) := by decide +kernel
theorem dX3_asked_56 : decode cX3_asked 56 = .ok (.invokestatic 92, 3) := by decide +kernel
theorem dX3_asked_59 : decode cX3_asked 59 = .ok (.istore_n 2, 1) := by decide +kernel
theorem dX3_asked_60 : decode cX3_asked 60 = .ok (.iinc 3 1, 3) := by decide +kernel
theorem dX3_asked_63 : decode cX3_asked 63 = .ok (.goto (-25), 3) := by decide +kernel
theorem dX3_asked_66 : decode cX3_asked 66 = .ok (.iload_n 2, 1) := by decide +kernel
theorem dX3_asked_67 : decode cX3_asked 67 = .ok (.ireturn, 1) := by decide +kernel
theorem dX3_leastEver_0 : decode cX3_leastEver 0 = .ok (.aload_n 0, 1) := by decide +kernel
theorem dX3_leastEver_1 : decode cX3_leastEver 1 = .ok (.iload_n 1, 1) := by decide +kernel
theorem dX3_leastEver_2 : decode cX3_leastEver 2 = .ok (.invokestatic 60, 3) := by decide +kernel
theorem dX3_leastEver_5 : decode cX3_leastEver 5 = .ok (.ifCond .eq 7, 3) := by decide +kernel
theorem dX3_leastEver_8 : decode cX3_leastEver 8 = .ok (.iconst 0, 1) := by decide +kernel
theorem dX3_leastEver_9 : decode cX3_leastEver 9 = .ok (.goto 4, 3) := by decide +kernel
theorem dX3_leastEver_12 : decode cX3_leastEver 12 = .ok (.iconst 1, 1) := by decide +kernel
theorem dX3_leastEver_13 : decode cX3_leastEver 13 = .ok (.invokevirtual 64, 3) := by decide +kernel
theorem dX3_leastEver_16 : decode cX3_leastEver 16 = .ok (.ifCond .eq 20, 3) := by decide +kernel
theorem dX3_leastEver_19 : decode cX3_leastEver 19 = .ok (.aload_n 0, 1) := by decide +kernel
theorem dX3_leastEver_20 : decode cX3_leastEver 20 = .ok (.getfield 40, 3) := by decide +kernel
theorem dX3_leastEver_23 : decode cX3_leastEver 23 = .ok (.iload_n 1, 1) := by decide +kernel
theorem dX3_leastEver_24 : decode cX3_leastEver 24 = .ok (.iaload, 1) := by decide +kernel
theorem dX3_leastEver_25 : decode cX3_leastEver 25 = .ok (.aload_n 0, 1) := by decide +kernel
theorem dX3_leastEver_26 : decode cX3_leastEver 26 = .ok (.iload_n 1, 1) := by decide +kernel
theorem dX3_leastEver_27 : decode cX3_leastEver 27 = .ok (.invokevirtual 88, 3) := by decide +kernel
theorem dX3_leastEver_30 : decode cX3_leastEver 30 = .ok (.invokestatic 92, 3) := by decide +kernel
theorem dX3_leastEver_33 : decode cX3_leastEver 33 = .ok (.goto 4, 3) := by decide +kernel
theorem dX3_leastEver_36 : decode cX3_leastEver 36 = .ok (.iconst 0, 1) := by decide +kernel
theorem dX3_leastEver_37 : decode cX3_leastEver 37 = .ok (.ireturn, 1) := by decide +kernel
