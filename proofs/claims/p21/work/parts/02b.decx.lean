/-! decode rows (printed): the class and the JDK -/
theorem dX0_init_0 : decode cX0_init 0 = .ok (.aload_n 0, 1) := by decide +kernel
theorem dX0_init_1 : decode cX0_init 1 = .ok (.invokespecial 3, 3) := by decide +kernel
theorem dX0_init_4 : decode cX0_init 4 = .ok (.aload_n 0, 1) := by decide +kernel
theorem dX0_init_5 : decode cX0_init 5 = .ok (.iconst 0, 1) := by decide +kernel
theorem dX0_init_6 : decode cX0_init 6 = .ok (.putfield 9, 3) := by decide +kernel
theorem dX0_init_9 : decode cX0_init 9 = .ok (.aload_n 0, 1) := by decide +kernel
theorem dX0_init_10 : decode cX0_init 10 = .ok (.iconst 0, 1) := by decide +kernel
theorem dX0_init_11 : decode cX0_init 11 = .ok (.putfield 15, 3) := by decide +kernel
theorem dX0_init_14 : decode cX0_init 14 = .ok (.aload_n 0, 1) := by decide +kernel
theorem dX0_init_15 : decode cX0_init 15 = .ok (.iconst 0, 1) := by decide +kernel
theorem dX0_init_16 : decode cX0_init 16 = .ok (.putfield 18, 3) := by decide +kernel
theorem dX0_init_19 : decode cX0_init 19 = .ok (.aload_n 0, 1) := by decide +kernel
theorem dX0_init_20 : decode cX0_init 20 = .ok (.sipush 1000, 3) := by decide +kernel
theorem dX0_init_23 : decode cX0_init 23 = .ok (.putfield 21, 3) := by decide +kernel
theorem dX0_init_26 : decode cX0_init 26 = .ok (.aload_n 0, 1) := by decide +kernel
theorem dX0_init_27 : decode cX0_init 27 = .ok (.iconst (-1), 1) := by decide +kernel
theorem dX0_init_28 : decode cX0_init 28 = .ok (.putfield 24, 3) := by decide +kernel
theorem dX0_init_31 : decode cX0_init 31 = .ok (.aload_n 0, 1) := by decide +kernel
theorem dX0_init_32 : decode cX0_init 32 = .ok (.iconst 0, 1) := by decide +kernel
theorem dX0_init_33 : decode cX0_init 33 = .ok (.putfield 27, 3) := by decide +kernel
theorem dX0_init_36 : decode cX0_init 36 = .ok (.aload_n 0, 1) := by decide +kernel
theorem dX0_init_37 : decode cX0_init 37 = .ok (.iconst 0, 1) := by decide +kernel
theorem dX0_init_38 : decode cX0_init 38 = .ok (.putfield 30, 3) := by decide +kernel
theorem dX0_init_41 : decode cX0_init 41 = .ok (.aload_n 0, 1) := by decide +kernel
theorem dX0_init_42 : decode cX0_init 42 = .ok (.iconst 0, 1) := by decide +kernel
theorem dX0_init_43 : decode cX0_init 43 = .ok (.putfield 33, 3) := by decide +kernel
theorem dX0_init_46 : decode cX0_init 46 = .ok (.return_, 1) := by decide +kernel
theorem dX0_isDue_0 : decode cX0_isDue 0 = .ok (.aload_n 0, 1) := by decide +kernel
theorem dX0_isDue_1 : decode cX0_isDue 1 = .ok (.getfield 24, 3) := by decide +kernel
theorem dX0_isDue_4 : decode cX0_isDue 4 = .ok (.iconst (-1), 1) := by decide +kernel
theorem dX0_isDue_5 : decode cX0_isDue 5 = .ok (.if_icmp .eq 15, 3) := by decide +kernel
theorem dX0_isDue_8 : decode cX0_isDue 8 = .ok (.aload_n 0, 1) := by decide +kernel
theorem dX0_isDue_9 : decode cX0_isDue 9 = .ok (.getfield 27, 3) := by decide +kernel
theorem dX0_isDue_12 : decode cX0_isDue 12 = .ok (.iload_n 1, 1) := by decide +kernel
theorem dX0_isDue_13 : decode cX0_isDue 13 = .ok (.if_icmp .gt 7, 3) := by decide +kernel
theorem dX0_isDue_16 : decode cX0_isDue 16 = .ok (.iconst 1, 1) := by decide +kernel
theorem dX0_isDue_17 : decode cX0_isDue 17 = .ok (.goto 4, 3) := by decide +kernel
theorem dX0_isDue_20 : decode cX0_isDue 20 = .ok (.iconst 0, 1) := by decide +kernel
theorem dX0_isDue_21 : decode cX0_isDue 21 = .ok (.ireturn, 1) := by decide +kernel
theorem dX0_isSentBefore_0 : decode cX0_isSentBefore 0 = .ok (.aload_n 0, 1) := by decide +kernel
theorem dX0_isSentBefore_1 : decode cX0_isSentBefore 1 = .ok (.getfield 27, 3) := by decide +kernel
theorem dX0_isSentBefore_4 : decode cX0_isSentBefore 4 = .ok (.aload_n 1, 1) := by decide +kernel
theorem dX0_isSentBefore_5 : decode cX0_isSentBefore 5 = .ok (.getfield 27, 3) := by decide +kernel
theorem dX0_isSentBefore_8 : decode cX0_isSentBefore 8 = .ok (.if_icmp .lt 25, 3) := by decide +kernel
theorem dX0_isSentBefore_11 : decode cX0_isSentBefore 11 = .ok (.aload_n 0, 1) := by decide +kernel
theorem dX0_isSentBefore_12 : decode cX0_isSentBefore 12 = .ok (.getfield 27, 3) := by decide +kernel
theorem dX0_isSentBefore_15 : decode cX0_isSentBefore 15 = .ok (.aload_n 1, 1) := by decide +kernel
theorem dX0_isSentBefore_16 : decode cX0_isSentBefore 16 = .ok (.getfield 27, 3) := by decide +kernel
theorem dX0_isSentBefore_19 : decode cX0_isSentBefore 19 = .ok (.if_icmp .ne 18, 3) := by decide +kernel
theorem dX0_isSentBefore_22 : decode cX0_isSentBefore 22 = .ok (.aload_n 0, 1) := by decide +kernel
theorem dX0_isSentBefore_23 : decode cX0_isSentBefore 23 = .ok (.getfield 24, 3) := by decide +kernel
theorem dX0_isSentBefore_26 : decode cX0_isSentBefore 26 = .ok (.aload_n 1, 1) := by decide +kernel
theorem dX0_isSentBefore_27 : decode cX0_isSentBefore 27 = .ok (.getfield 24, 3) := by decide +kernel
theorem dX0_isSentBefore_30 : decode cX0_isSentBefore 30 = .ok (.if_icmp .ge 7, 3) := by decide +kernel
theorem dX0_isSentBefore_33 : decode cX0_isSentBefore 33 = .ok (.iconst 1, 1) := by decide +kernel
theorem dX0_isSentBefore_34 : decode cX0_isSentBefore 34 = .ok (.goto 4, 3) := by decide +kernel
theorem dX0_isSentBefore_37 : decode cX0_isSentBefore 37 = .ok (.iconst 0, 1) := by decide +kernel
theorem dX0_isSentBefore_38 : decode cX0_isSentBefore 38 = .ok (.ireturn, 1) := by decide +kernel
theorem dX0_getSending_0 : decode cX0_getSending 0 = .ok (.aload_n 0, 1) := by decide +kernel
theorem dX0_getSending_1 : decode cX0_getSending 1 = .ok (.iload_n 2, 1) := by decide +kernel
theorem dX0_getSending_2 : decode cX0_getSending 2 = .ok (.iconst 5, 1) := by decide +kernel
theorem dX0_getSending_3 : decode cX0_getSending 3 = .ok (.iadd, 1) := by decide +kernel
theorem dX0_getSending_4 : decode cX0_getSending 4 = .ok (.putfield 27, 3) := by decide +kernel
theorem dX0_getSending_7 : decode cX0_getSending 7 = .ok (.aload_n 0, 1) := by decide +kernel
theorem dX0_getSending_8 : decode cX0_getSending 8 = .ok (.getfield 30, 3) := by decide +kernel
theorem dX0_getSending_11 : decode cX0_getSending 11 = .ok (.ifCond .le 16, 3) := by decide +kernel
theorem dX0_getSending_14 : decode cX0_getSending 14 = .ok (.aload_n 0, 1) := by decide +kernel
theorem dX0_getSending_15 : decode cX0_getSending 15 = .ok (.dup, 1) := by decide +kernel
theorem dX0_getSending_16 : decode cX0_getSending 16 = .ok (.getfield 30, 3) := by decide +kernel
theorem dX0_getSending_19 : decode cX0_getSending 19 = .ok (.iconst 1, 1) := by decide +kernel
theorem dX0_getSending_20 : decode cX0_getSending 20 = .ok (.isub, 1) := by decide +kernel
theorem dX0_getSending_21 : decode cX0_getSending 21 = .ok (.putfield 30, 3) := by decide +kernel
theorem dX0_getSending_24 : decode cX0_getSending 24 = .ok (.goto 21, 3) := by decide +kernel
theorem dX0_getSending_27 : decode cX0_getSending 27 = .ok (.aload_n 0, 1) := by decide +kernel
theorem dX0_getSending_28 : decode cX0_getSending 28 = .ok (.getfield 21, 3) := by decide +kernel
theorem dX0_getSending_31 : decode cX0_getSending 31 = .ok (.bipush 20, 2) := by decide +kernel
theorem dX0_getSending_33 : decode cX0_getSending 33 = .ok (.if_icmp .lt 12, 3) := by decide +kernel
theorem dX0_getSending_36 : decode cX0_getSending 36 = .ok (.aload_n 0, 1) := by decide +kernel
theorem dX0_getSending_37 : decode cX0_getSending 37 = .ok (.iload_n 1, 1) := by decide +kernel
theorem dX0_getSending_38 : decode cX0_getSending 38 = .ok (.invokevirtual 36, 3) := by decide +kernel
theorem dX0_getSending_41 : decode cX0_getSending 41 = .ok (.aload_n 0, 1) := by decide +kernel
theorem dX0_getSending_42 : decode cX0_getSending 42 = .ok (.invokevirtual 40, 3) := by decide +kernel
theorem dX0_getSending_45 : decode cX0_getSending 45 = .ok (.return_, 1) := by decide +kernel
theorem dX0_listen_0 : decode cX0_listen 0 = .ok (.aload_n 0, 1) := by decide +kernel
theorem dX0_listen_1 : decode cX0_listen 1 = .ok (.getfield 21, 3) := by decide +kernel
theorem dX0_listen_4 : decode cX0_listen 4 = .ok (.ifCond .le 13, 3) := by decide +kernel
theorem dX0_listen_7 : decode cX0_listen 7 = .ok (.aload_n 0, 1) := by decide +kernel
theorem dX0_listen_8 : decode cX0_listen 8 = .ok (.dup, 1) := by decide +kernel
theorem dX0_listen_9 : decode cX0_listen 9 = .ok (.getfield 21, 3) := by decide +kernel
theorem dX0_listen_12 : decode cX0_listen 12 = .ok (.iconst 1, 1) := by decide +kernel
theorem dX0_listen_13 : decode cX0_listen 13 = .ok (.isub, 1) := by decide +kernel
theorem dX0_listen_14 : decode cX0_listen 14 = .ok (.putfield 21, 3) := by decide +kernel
theorem dX0_listen_17 : decode cX0_listen 17 = .ok (.return_, 1) := by decide +kernel
theorem dX0_redraw_0 : decode cX0_redraw 0 = .ok (.iload_n 1, 1) := by decide +kernel
theorem dX0_redraw_1 : decode cX0_redraw 1 = .ok (.aload_n 0, 1) := by decide +kernel
theorem dX0_redraw_2 : decode cX0_redraw 2 = .ok (.getfield 15, 3) := by decide +kernel
theorem dX0_redraw_5 : decode cX0_redraw 5 = .ok (.if_icmp .ne 4, 3) := by decide +kernel
theorem dX0_redraw_8 : decode cX0_redraw 8 = .ok (.return_, 1) := by decide +kernel
theorem dX0_redraw_9 : decode cX0_redraw 9 = .ok (.aload_n 0, 1) := by decide +kernel
theorem dX0_redraw_10 : decode cX0_redraw 10 = .ok (.getfield 18, 3) := by decide +kernel
theorem dX0_redraw_13 : decode cX0_redraw 13 = .ok (.aload_n 0, 1) := by decide +kernel
theorem dX0_redraw_14 : decode cX0_redraw 14 = .ok (.getfield 15, 3) := by decide +kernel
theorem dX0_redraw_17 : decode cX0_redraw 17 = .ok (.iload_n 1, 1) := by decide +kernel
theorem dX0_redraw_18 : decode cX0_redraw 18 = .ok (.invokestatic 43, 3) := by decide +kernel
theorem dX0_redraw_21 : decode cX0_redraw 21 = .ok (.iadd, 1) := by decide +kernel
theorem dX0_redraw_22 : decode cX0_redraw 22 = .ok (.istore_n 2, 1) := by decide +kernel
theorem dX0_redraw_23 : decode cX0_redraw 23 = .ok (.iload_n 2, 1) := by decide +kernel
theorem dX0_redraw_24 : decode cX0_redraw 24 = .ok (.bipush 9, 2) := by decide +kernel
theorem dX0_redraw_26 : decode cX0_redraw 26 = .ok (.if_icmp .le 22, 3) := by decide +kernel
theorem dX0_redraw_29 : decode cX0_redraw 29 = .ok (.aload_n 0, 1) := by decide +kernel
theorem dX0_redraw_30 : decode cX0_redraw 30 = .ok (.dup, 1) := by decide +kernel
theorem dX0_redraw_31 : decode cX0_redraw 31 = .ok (.getfield 21, 3) := by decide +kernel
theorem dX0_redraw_34 : decode cX0_redraw 34 = .ok (.bipush 20, 2) := by decide +kernel
theorem dX0_redraw_36 : decode cX0_redraw 36 = .ok (.isub, 1) := by decide +kernel
theorem dX0_redraw_37 : decode cX0_redraw 37 = .ok (.putfield 21, 3) := by decide +kernel
theorem dX0_redraw_40 : decode cX0_redraw 40 = .ok (.aload_n 0, 1) := by decide +kernel
theorem dX0_redraw_41 : decode cX0_redraw 41 = .ok (.iconst 0, 1) := by decide +kernel
theorem dX0_redraw_42 : decode cX0_redraw 42 = .ok (.putfield 18, 3) := by decide +kernel
theorem dX0_redraw_45 : decode cX0_redraw 45 = .ok (.goto 19, 3) := by decide +kernel
theorem dX0_redraw_48 : decode cX0_redraw 48 = .ok (.aload_n 0, 1) := by decide +kernel
theorem dX0_redraw_49 : decode cX0_redraw 49 = .ok (.dup, 1) := by decide +kernel
theorem dX0_redraw_50 : decode cX0_redraw 50 = .ok (.getfield 21, 3) := by decide +kernel
theorem dX0_redraw_53 : decode cX0_redraw 53 = .ok (.bipush 10, 2) := by decide +kernel
theorem dX0_redraw_55 : decode cX0_redraw 55 = .ok (.isub, 1) := by decide +kernel
theorem dX0_redraw_56 : decode cX0_redraw 56 = .ok (.putfield 21, 3) := by decide +kernel
theorem dX0_redraw_59 : decode cX0_redraw 59 = .ok (.aload_n 0, 1) := by decide +kernel
theorem dX0_redraw_60 : decode cX0_redraw 60 = .ok (.iload_n 2, 1) := by decide +kernel
theorem dX0_redraw_61 : decode cX0_redraw 61 = .ok (.putfield 18, 3) := by decide +kernel
theorem dX0_redraw_64 : decode cX0_redraw 64 = .ok (.aload_n 0, 1) := by decide +kernel
theorem dX0_redraw_65 : decode cX0_redraw 65 = .ok (.iload_n 1, 1) := by decide +kernel
theorem dX0_redraw_66 : decode cX0_redraw 66 = .ok (.putfield 15, 3) := by decide +kernel
theorem dX0_redraw_69 : decode cX0_redraw 69 = .ok (.return_, 1) := by decide +kernel
theorem dX0_answer_0 : decode cX0_answer 0 = .ok (.aload_n 0, 1) := by decide +kernel
theorem dX0_answer_1 : decode cX0_answer 1 = .ok (.getfield 33, 3) := by decide +kernel
theorem dX0_answer_4 : decode cX0_answer 4 = .ok (.ifCond .le 16, 3) := by decide +kernel
theorem dX0_answer_7 : decode cX0_answer 7 = .ok (.aload_n 0, 1) := by decide +kernel
theorem dX0_answer_8 : decode cX0_answer 8 = .ok (.dup, 1) := by decide +kernel
theorem dX0_answer_9 : decode cX0_answer 9 = .ok (.getfield 33, 3) := by decide +kernel
theorem dX0_answer_12 : decode cX0_answer 12 = .ok (.iconst 1, 1) := by decide +kernel
theorem dX0_answer_13 : decode cX0_answer 13 = .ok (.isub, 1) := by decide +kernel
theorem dX0_answer_14 : decode cX0_answer 14 = .ok (.putfield 33, 3) := by decide +kernel
theorem dX0_answer_17 : decode cX0_answer 17 = .ok (.goto 8, 3) := by decide +kernel
theorem dX0_answer_20 : decode cX0_answer 20 = .ok (.aload_n 0, 1) := by decide +kernel
theorem dX0_answer_21 : decode cX0_answer 21 = .ok (.iconst (-1), 1) := by decide +kernel
theorem dX0_answer_22 : decode cX0_answer 22 = .ok (.putfield 24, 3) := by decide +kernel
theorem dX0_answer_25 : decode cX0_answer 25 = .ok (.return_, 1) := by decide +kernel
theorem dX0_changedDigits_0 : decode cX0_changedDigits 0 = .ok (.iconst 0, 1) := by decide +kernel
theorem dX0_changedDigits_1 : decode cX0_changedDigits 1 = .ok (.istore_n 2, 1) := by decide +kernel
theorem dX0_changedDigits_2 : decode cX0_changedDigits 2 = .ok (.iconst 1, 1) := by decide +kernel
theorem dX0_changedDigits_3 : decode cX0_changedDigits 3 = .ok (.istore_n 3, 1) := by decide +kernel
theorem dX0_changedDigits_4 : decode cX0_changedDigits 4 = .ok (.iconst 0, 1) := by decide +kernel
theorem dX0_changedDigits_5 : decode cX0_changedDigits 5 = .ok (.istore 4, 2) := by decide +kernel
theorem dX0_changedDigits_7 : decode cX0_changedDigits 7 = .ok (.iload 4, 2) := by decide +kernel
theorem dX0_changedDigits_9 : decode cX0_changedDigits 9 = .ok (.iconst 4, 1) := by decide +kernel
theorem dX0_changedDigits_10 : decode cX0_changedDigits 10 = .ok (.if_icmp .ge 32, 3) := by decide +kernel
theorem dX0_changedDigits_13 : decode cX0_changedDigits 13 = .ok (.iload_n 0, 1) := by decide +kernel
theorem dX0_changedDigits_14 : decode cX0_changedDigits 14 = .ok (.iload_n 3, 1) := by decide +kernel
theorem dX0_changedDigits_15 : decode cX0_changedDigits 15 = .ok (.idiv, 1) := by decide +kernel
theorem dX0_changedDigits_16 : decode cX0_changedDigits 16 = .ok (.bipush 10, 2) := by decide +kernel
theorem dX0_changedDigits_18 : decode cX0_changedDigits 18 = .ok (.irem, 1) := by decide +kernel
theorem dX0_changedDigits_19 : decode cX0_changedDigits 19 = .ok (.iload_n 1, 1) := by decide +kernel
theorem dX0_changedDigits_20 : decode cX0_changedDigits 20 = .ok (.iload_n 3, 1) := by decide +kernel
theorem dX0_changedDigits_21 : decode cX0_changedDigits 21 = .ok (.idiv, 1) := by decide +kernel
theorem dX0_changedDigits_22 : decode cX0_changedDigits 22 = .ok (.bipush 10, 2) := by decide +kernel
theorem dX0_changedDigits_24 : decode cX0_changedDigits 24 = .ok (.irem, 1) := by decide +kernel
theorem dX0_changedDigits_25 : decode cX0_changedDigits 25 = .ok (.if_icmp .eq 6, 3) := by decide +kernel
theorem dX0_changedDigits_28 : decode cX0_changedDigits 28 = .ok (.iinc 2 1, 3) := by decide +kernel
theorem dX0_changedDigits_31 : decode cX0_changedDigits 31 = .ok (.iload_n 3, 1) := by decide +kernel
theorem dX0_changedDigits_32 : decode cX0_changedDigits 32 = .ok (.bipush 10, 2) := by decide +kernel
theorem dX0_changedDigits_34 : decode cX0_changedDigits 34 = .ok (.imul, 1) := by decide +kernel
theorem dX0_changedDigits_35 : decode cX0_changedDigits 35 = .ok (.istore_n 3, 1) := by decide +kernel
theorem dX0_changedDigits_36 : decode cX0_changedDigits 36 = .ok (.iinc 4 1, 3) := by decide +kernel
theorem dX0_changedDigits_39 : decode cX0_changedDigits 39 = .ok (.goto (-32), 3) := by decide +kernel
theorem dX0_changedDigits_42 : decode cX0_changedDigits 42 = .ok (.iload_n 2, 1) := by decide +kernel
theorem dX0_changedDigits_43 : decode cX0_changedDigits 43 = .ok (.ireturn, 1) := by decide +kernel
theorem dX1_init_0 : decode cX1_init 0 = .ok (.aload_n 0, 1) := by decide +kernel
theorem dX1_init_1 : decode cX1_init 1 = .ok (.invokespecial 3, 3) := by decide +kernel
theorem dX1_init_4 : decode cX1_init 4 = .ok (.aload_n 0, 1) := by decide +kernel
theorem dX1_init_5 : decode cX1_init 5 = .ok (.bipush 60, 2) := by decide +kernel
theorem dX1_init_7 : decode cX1_init 7 = .ok (.bipush 12, 2) := by decide +kernel
theorem dX1_init_9 : decode cX1_init 9 = .ok (.multianewarray 11 2, 4) := by decide +kernel
theorem dX1_init_13 : decode cX1_init 13 = .ok (.putfield 13, 3) := by decide +kernel
theorem dX1_init_16 : decode cX1_init 16 = .ok (.aload_n 0, 1) := by decide +kernel
theorem dX1_init_17 : decode cX1_init 17 = .ok (.bipush 12, 2) := by decide +kernel
theorem dX1_init_19 : decode cX1_init 19 = .ok (.newarray .int, 2) := by decide +kernel
theorem dX1_init_21 : decode cX1_init 21 = .ok (.putfield 16, 3) := by decide +kernel
theorem dX1_init_24 : decode cX1_init 24 = .ok (.iconst 0, 1) := by decide +kernel
theorem dX1_init_25 : decode cX1_init 25 = .ok (.istore_n 1, 1) := by decide +kernel
theorem dX1_init_26 : decode cX1_init 26 = .ok (.iload_n 1, 1) := by decide +kernel
theorem dX1_init_27 : decode cX1_init 27 = .ok (.bipush 60, 2) := by decide +kernel
theorem dX1_init_29 : decode cX1_init 29 = .ok (.if_icmp .ge 21, 3) := by decide +kernel
theorem dX1_init_32 : decode cX1_init 32 = .ok (.aload_n 0, 1) := by decide +kernel
theorem dX1_init_33 : decode cX1_init 33 = .ok (.getfield 13, 3) := by decide +kernel
theorem dX1_init_36 : decode cX1_init 36 = .ok (.iload_n 1, 1) := by decide +kernel
theorem dX1_init_37 : decode cX1_init 37 = .ok (.aaload, 1) := by decide +kernel
theorem dX1_init_38 : decode cX1_init 38 = .ok (.sipush 10000, 3) := by decide +kernel
theorem dX1_init_41 : decode cX1_init 41 = .ok (.invokestatic 20, 3) := by decide +kernel
theorem dX1_init_44 : decode cX1_init 44 = .ok (.iinc 1 1, 3) := by decide +kernel
theorem dX1_init_47 : decode cX1_init 47 = .ok (.goto (-21), 3) := by decide +kernel
theorem dX1_init_50 : decode cX1_init 50 = .ok (.aload_n 0, 1) := by decide +kernel
theorem dX1_init_51 : decode cX1_init 51 = .ok (.getfield 16, 3) := by decide +kernel
theorem dX1_init_54 : decode cX1_init 54 = .ok (.sipush 10000, 3) := by decide +kernel
theorem dX1_init_57 : decode cX1_init 57 = .ok (.invokestatic 20, 3) := by decide +kernel
theorem dX1_init_60 : decode cX1_init 60 = .ok (.return_, 1) := by decide +kernel
theorem dX1_openMinute_0 : decode cX1_openMinute 0 = .ok (.aload_n 0, 1) := by decide +kernel
theorem dX1_openMinute_1 : decode cX1_openMinute 1 = .ok (.getfield 13, 3) := by decide +kernel
theorem dX1_openMinute_4 : decode cX1_openMinute 4 = .ok (.iload_n 1, 1) := by decide +kernel
theorem dX1_openMinute_5 : decode cX1_openMinute 5 = .ok (.bipush 60, 2) := by decide +kernel
theorem dX1_openMinute_7 : decode cX1_openMinute 7 = .ok (.irem, 1) := by decide +kernel
theorem dX1_openMinute_8 : decode cX1_openMinute 8 = .ok (.aaload, 1) := by decide +kernel
theorem dX1_openMinute_9 : decode cX1_openMinute 9 = .ok (.sipush 10000, 3) := by decide +kernel
theorem dX1_openMinute_12 : decode cX1_openMinute 12 = .ok (.invokestatic 20, 3) := by decide +kernel
theorem dX1_openMinute_15 : decode cX1_openMinute 15 = .ok (.return_, 1) := by decide +kernel
theorem dX1_note_0 : decode cX1_note 0 = .ok (.aload_n 0, 1) := by decide +kernel
theorem dX1_note_1 : decode cX1_note 1 = .ok (.getfield 13, 3) := by decide +kernel
theorem dX1_note_4 : decode cX1_note 4 = .ok (.iload_n 1, 1) := by decide +kernel
theorem dX1_note_5 : decode cX1_note 5 = .ok (.bipush 60, 2) := by decide +kernel
theorem dX1_note_7 : decode cX1_note 7 = .ok (.irem, 1) := by decide +kernel
theorem dX1_note_8 : decode cX1_note 8 = .ok (.aaload, 1) := by decide +kernel
theorem dX1_note_9 : decode cX1_note 9 = .ok (.astore 4, 2) := by decide +kernel
theorem dX1_note_11 : decode cX1_note 11 = .ok (.aload 4, 2) := by decide +kernel
theorem dX1_note_13 : decode cX1_note 13 = .ok (.iload_n 2, 1) := by decide +kernel
theorem dX1_note_14 : decode cX1_note 14 = .ok (.aload 4, 2) := by decide +kernel
theorem dX1_note_16 : decode cX1_note 16 = .ok (.iload_n 2, 1) := by decide +kernel
theorem dX1_note_17 : decode cX1_note 17 = .ok (.iaload, 1) := by decide +kernel
theorem dX1_note_18 : decode cX1_note 18 = .ok (.iload_n 3, 1) := by decide +kernel
theorem dX1_note_19 : decode cX1_note 19 = .ok (.invokestatic 26, 3) := by decide +kernel
theorem dX1_note_22 : decode cX1_note 22 = .ok (.iastore, 1) := by decide +kernel
theorem dX1_note_23 : decode cX1_note 23 = .ok (.aload_n 0, 1) := by decide +kernel
theorem dX1_note_24 : decode cX1_note 24 = .ok (.getfield 16, 3) := by decide +kernel
theorem dX1_note_27 : decode cX1_note 27 = .ok (.iload_n 2, 1) := by decide +kernel
theorem dX1_note_28 : decode cX1_note 28 = .ok (.aload_n 0, 1) := by decide +kernel
theorem dX1_note_29 : decode cX1_note 29 = .ok (.getfield 16, 3) := by decide +kernel
theorem dX1_note_32 : decode cX1_note 32 = .ok (.iload_n 2, 1) := by decide +kernel
theorem dX1_note_33 : decode cX1_note 33 = .ok (.iaload, 1) := by decide +kernel
theorem dX1_note_34 : decode cX1_note 34 = .ok (.iload_n 3, 1) := by decide +kernel
theorem dX1_note_35 : decode cX1_note 35 = .ok (.invokestatic 26, 3) := by decide +kernel
theorem dX1_note_38 : decode cX1_note 38 = .ok (.iastore, 1) := by decide +kernel
theorem dX1_note_39 : decode cX1_note 39 = .ok (.return_, 1) := by decide +kernel
theorem dX1_leastOfLastHour_0 : decode cX1_leastOfLastHour 0 = .ok (.sipush 10000, 3) := by decide +kernel
theorem dX1_leastOfLastHour_3 : decode cX1_leastOfLastHour 3 = .ok (.istore_n 2, 1) := by decide +kernel
theorem dX1_leastOfLastHour_4 : decode cX1_leastOfLastHour 4 = .ok (.iconst 0, 1) := by decide +kernel
theorem dX1_leastOfLastHour_5 : decode cX1_leastOfLastHour 5 = .ok (.istore_n 3, 1) := by decide +kernel
theorem dX1_leastOfLastHour_6 : decode cX1_leastOfLastHour 6 = .ok (.iload_n 3, 1) := by decide +kernel
theorem dX1_leastOfLastHour_7 : decode cX1_leastOfLastHour 7 = .ok (.bipush 60, 2) := by decide +kernel
theorem dX1_leastOfLastHour_9 : decode cX1_leastOfLastHour 9 = .ok (.if_icmp .ge 22, 3) := by decide +kernel
theorem dX1_leastOfLastHour_12 : decode cX1_leastOfLastHour 12 = .ok (.iload_n 2, 1) := by decide +kernel
theorem dX1_leastOfLastHour_13 : decode cX1_leastOfLastHour 13 = .ok (.aload_n 0, 1) := by decide +kernel
theorem dX1_leastOfLastHour_14 : decode cX1_leastOfLastHour 14 = .ok (.getfield 13, 3) := by decide +kernel
theorem dX1_leastOfLastHour_17 : decode cX1_leastOfLastHour 17 = .ok (.iload_n 3, 1) := by decide +kernel
theorem dX1_leastOfLastHour_18 : decode cX1_leastOfLastHour 18 = .ok (.aaload, 1) := by decide +kernel
theorem dX1_leastOfLastHour_19 : decode cX1_leastOfLastHour 19 = .ok (.iload_n 1, 1) := by decide +kernel
theorem dX1_leastOfLastHour_20 : decode cX1_leastOfLastHour 20 = .ok (.iaload, 1) := by decide +kernel
theorem dX1_leastOfLastHour_21 : decode cX1_leastOfLastHour 21 = .ok (.invokestatic 26, 3) := by decide +kernel
theorem dX1_leastOfLastHour_24 : decode cX1_leastOfLastHour 24 = .ok (.istore_n 2, 1) := by decide +kernel
theorem dX1_leastOfLastHour_25 : decode cX1_leastOfLastHour 25 = .ok (.iinc 3 1, 3) := by decide +kernel
theorem dX1_leastOfLastHour_28 : decode cX1_leastOfLastHour 28 = .ok (.goto (-22), 3) := by decide +kernel
theorem dX1_leastOfLastHour_31 : decode cX1_leastOfLastHour 31 = .ok (.iload_n 2, 1) := by decide +kernel
theorem dX1_leastOfLastHour_32 : decode cX1_leastOfLastHour 32 = .ok (.ireturn, 1) := by decide +kernel
theorem dX1_leastOfAllTime_0 : decode cX1_leastOfAllTime 0 = .ok (.aload_n 0, 1) := by decide +kernel
theorem dX1_leastOfAllTime_1 : decode cX1_leastOfAllTime 1 = .ok (.getfield 16, 3) := by decide +kernel
theorem dX1_leastOfAllTime_4 : decode cX1_leastOfAllTime 4 = .ok (.iload_n 1, 1) := by decide +kernel
theorem dX1_leastOfAllTime_5 : decode cX1_leastOfAllTime 5 = .ok (.iaload, 1) := by decide +kernel
theorem dX1_leastOfAllTime_6 : decode cX1_leastOfAllTime 6 = .ok (.ireturn, 1) := by decide +kernel
theorem dX2_init_0 : decode cX2_init 0 = .ok (.aload_n 0, 1) := by decide +kernel
theorem dX2_init_1 : decode cX2_init 1 = .ok (.invokespecial 1, 3) := by decide +kernel
theorem dX2_init_4 : decode cX2_init 4 = .ok (.aload_n 0, 1) := by decide +kernel
theorem dX2_init_5 : decode cX2_init 5 = .ok (.bipush 12, 2) := by decide +kernel
theorem dX2_init_7 : decode cX2_init 7 = .ok (.newarray .int, 2) := by decide +kernel
theorem dX2_init_9 : decode cX2_init 9 = .ok (.putfield 9, 3) := by decide +kernel
theorem dX2_init_12 : decode cX2_init 12 = .ok (.aload_n 0, 1) := by decide +kernel
theorem dX2_init_13 : decode cX2_init 13 = .ok (.bipush 12, 2) := by decide +kernel
theorem dX2_init_15 : decode cX2_init 15 = .ok (.anewarray 13, 3) := by decide +kernel
theorem dX2_init_18 : decode cX2_init 18 = .ok (.putfield 15, 3) := by decide +kernel
theorem dX2_init_21 : decode cX2_init 21 = .ok (.aload_n 0, 1) := by decide +kernel
theorem dX2_init_22 : decode cX2_init 22 = .ok (.new 19, 3) := by decide +kernel
theorem dX2_init_25 : decode cX2_init 25 = .ok (.dup, 1) := by decide +kernel
theorem dX2_init_26 : decode cX2_init 26 = .ok (.invokespecial 21, 3) := by decide +kernel
theorem dX2_init_29 : decode cX2_init 29 = .ok (.putfield 22, 3) := by decide +kernel
theorem dX2_init_32 : decode cX2_init 32 = .ok (.aload_n 0, 1) := by decide +kernel
theorem dX2_init_33 : decode cX2_init 33 = .ok (.iconst 0, 1) := by decide +kernel
theorem dX2_init_34 : decode cX2_init 34 = .ok (.putfield 26, 3) := by decide +kernel
theorem dX2_init_37 : decode cX2_init 37 = .ok (.aload_n 0, 1) := by decide +kernel
theorem dX2_init_38 : decode cX2_init 38 = .ok (.iconst 0, 1) := by decide +kernel
theorem dX2_init_39 : decode cX2_init 39 = .ok (.putfield 30, 3) := by decide +kernel
theorem dX2_init_42 : decode cX2_init 42 = .ok (.aload_n 0, 1) := by decide +kernel
theorem dX2_init_43 : decode cX2_init 43 = .ok (.iconst 0, 1) := by decide +kernel
theorem dX2_init_44 : decode cX2_init 44 = .ok (.putfield 33, 3) := by decide +kernel
theorem dX2_init_47 : decode cX2_init 47 = .ok (.iconst 0, 1) := by decide +kernel
theorem dX2_init_48 : decode cX2_init 48 = .ok (.istore_n 1, 1) := by decide +kernel
theorem dX2_init_49 : decode cX2_init 49 = .ok (.iload_n 1, 1) := by decide +kernel
theorem dX2_init_50 : decode cX2_init 50 = .ok (.bipush 12, 2) := by decide +kernel
theorem dX2_init_52 : decode cX2_init 52 = .ok (.if_icmp .ge 22, 3) := by decide +kernel
theorem dX2_init_55 : decode cX2_init 55 = .ok (.aload_n 0, 1) := by decide +kernel
theorem dX2_init_56 : decode cX2_init 56 = .ok (.getfield 15, 3) := by decide +kernel
theorem dX2_init_59 : decode cX2_init 59 = .ok (.iload_n 1, 1) := by decide +kernel
theorem dX2_init_60 : decode cX2_init 60 = .ok (.new 13, 3) := by decide +kernel
theorem dX2_init_63 : decode cX2_init 63 = .ok (.dup, 1) := by decide +kernel
theorem dX2_init_64 : decode cX2_init 64 = .ok (.invokespecial 36, 3) := by decide +kernel
theorem dX2_init_67 : decode cX2_init 67 = .ok (.aastore, 1) := by decide +kernel
theorem dX2_init_68 : decode cX2_init 68 = .ok (.iinc 1 1, 3) := by decide +kernel
theorem dX2_init_71 : decode cX2_init 71 = .ok (.goto (-22), 3) := by decide +kernel
theorem dX2_init_74 : decode cX2_init 74 = .ok (.return_, 1) := by decide +kernel
theorem dX2_setPrice_0 : decode cX2_setPrice 0 = .ok (.iload_n 1, 1) := by decide +kernel
theorem dX2_setPrice_1 : decode cX2_setPrice 1 = .ok (.invokestatic 37, 3) := by decide +kernel
theorem dX2_setPrice_4 : decode cX2_setPrice 4 = .ok (.iload_n 2, 1) := by decide +kernel
theorem dX2_setPrice_5 : decode cX2_setPrice 5 = .ok (.iconst 0, 1) := by decide +kernel
theorem dX2_setPrice_6 : decode cX2_setPrice 6 = .ok (.sipush 9999, 3) := by decide +kernel
theorem dX2_setPrice_9 : decode cX2_setPrice 9 = .ok (.invokestatic 41, 3) := by decide +kernel
theorem dX2_setPrice_12 : decode cX2_setPrice 12 = .ok (.aload_n 0, 1) := by decide +kernel
theorem dX2_setPrice_13 : decode cX2_setPrice 13 = .ok (.getfield 9, 3) := by decide +kernel
theorem dX2_setPrice_16 : decode cX2_setPrice 16 = .ok (.iload_n 1, 1) := by decide +kernel
theorem dX2_setPrice_17 : decode cX2_setPrice 17 = .ok (.iaload, 1) := by decide +kernel
theorem dX2_setPrice_18 : decode cX2_setPrice 18 = .ok (.iload_n 2, 1) := by decide +kernel
theorem dX2_setPrice_19 : decode cX2_setPrice 19 = .ok (.if_icmp .ne 5, 3) := by decide +kernel
theorem dX2_setPrice_22 : decode cX2_setPrice 22 = .ok (.iconst 0, 1) := by decide +kernel
theorem dX2_setPrice_23 : decode cX2_setPrice 23 = .ok (.ireturn, 1) := by decide +kernel
theorem dX2_setPrice_24 : decode cX2_setPrice 24 = .ok (.aload_n 0, 1) := by decide +kernel
theorem dX2_setPrice_25 : decode cX2_setPrice 25 = .ok (.getfield 9, 3) := by decide +kernel
theorem dX2_setPrice_28 : decode cX2_setPrice 28 = .ok (.iload_n 1, 1) := by decide +kernel
theorem dX2_setPrice_29 : decode cX2_setPrice 29 = .ok (.iload_n 2, 1) := by decide +kernel
theorem dX2_setPrice_30 : decode cX2_setPrice 30 = .ok (.iastore, 1) := by decide +kernel
theorem dX2_setPrice_31 : decode cX2_setPrice 31 = .ok (.iconst 0, 1) := by decide +kernel
theorem dX2_setPrice_32 : decode cX2_setPrice 32 = .ok (.istore_n 3, 1) := by decide +kernel
theorem dX2_setPrice_33 : decode cX2_setPrice 33 = .ok (.iconst 0, 1) := by decide +kernel
theorem dX2_setPrice_34 : decode cX2_setPrice 34 = .ok (.istore 4, 2) := by decide +kernel
theorem dX2_setPrice_36 : decode cX2_setPrice 36 = .ok (.iload 4, 2) := by decide +kernel
theorem dX2_setPrice_38 : decode cX2_setPrice 38 = .ok (.aload_n 0, 1) := by decide +kernel
theorem dX2_setPrice_39 : decode cX2_setPrice 39 = .ok (.getfield 26, 3) := by decide +kernel
theorem dX2_setPrice_42 : decode cX2_setPrice 42 = .ok (.if_icmp .ge 37, 3) := by decide +kernel
theorem dX2_setPrice_45 : decode cX2_setPrice 45 = .ok (.aload_n 0, 1) := by decide +kernel
theorem dX2_setPrice_46 : decode cX2_setPrice 46 = .ok (.getfield 15, 3) := by decide +kernel
theorem dX2_setPrice_49 : decode cX2_setPrice 49 = .ok (.iload 4, 2) := by decide +kernel
theorem dX2_setPrice_51 : decode cX2_setPrice 51 = .ok (.aaload, 1) := by decide +kernel
theorem dX2_setPrice_52 : decode cX2_setPrice 52 = .ok (.getfield 45, 3) := by decide +kernel
theorem dX2_setPrice_55 : decode cX2_setPrice 55 = .ok (.iload_n 1, 1) := by decide +kernel
theorem dX2_setPrice_56 : decode cX2_setPrice 56 = .ok (.if_icmp .ne 17, 3) := by decide +kernel
theorem dX2_setPrice_59 : decode cX2_setPrice 59 = .ok (.aload_n 0, 1) := by decide +kernel
theorem dX2_setPrice_60 : decode cX2_setPrice 60 = .ok (.aload_n 0, 1) := by decide +kernel
theorem dX2_setPrice_61 : decode cX2_setPrice 61 = .ok (.getfield 15, 3) := by decide +kernel
theorem dX2_setPrice_64 : decode cX2_setPrice 64 = .ok (.iload 4, 2) := by decide +kernel
theorem dX2_setPrice_66 : decode cX2_setPrice 66 = .ok (.aaload, 1) := by decide +kernel
theorem dX2_setPrice_67 : decode cX2_setPrice 67 = .ok (.invokevirtual 48, 3) := by decide +kernel
theorem dX2_setPrice_70 : decode cX2_setPrice 70 = .ok (.iinc 3 1, 3) := by decide +kernel
theorem dX2_setPrice_73 : decode cX2_setPrice 73 = .ok (.iinc 4 1, 3) := by decide +kernel
theorem dX2_setPrice_76 : decode cX2_setPrice 76 = .ok (.goto (-40), 3) := by decide +kernel
theorem dX2_setPrice_79 : decode cX2_setPrice 79 = .ok (.iload_n 3, 1) := by decide +kernel
theorem dX2_setPrice_80 : decode cX2_setPrice 80 = .ok (.ireturn, 1) := by decide +kernel
theorem dX2_price_0 : decode cX2_price 0 = .ok (.iload_n 1, 1) := by decide +kernel
theorem dX2_price_1 : decode cX2_price 1 = .ok (.invokestatic 37, 3) := by decide +kernel
theorem dX2_price_4 : decode cX2_price 4 = .ok (.aload_n 0, 1) := by decide +kernel
theorem dX2_price_5 : decode cX2_price 5 = .ok (.getfield 9, 3) := by decide +kernel
theorem dX2_price_8 : decode cX2_price 8 = .ok (.iload_n 1, 1) := by decide +kernel
theorem dX2_price_9 : decode cX2_price 9 = .ok (.iaload, 1) := by decide +kernel
theorem dX2_price_10 : decode cX2_price 10 = .ok (.ireturn, 1) := by decide +kernel
theorem dX2_hang_0 : decode cX2_hang 0 = .ok (.iload_n 1, 1) := by decide +kernel
theorem dX2_hang_1 : decode cX2_hang 1 = .ok (.invokestatic 37, 3) := by decide +kernel
theorem dX2_hang_4 : decode cX2_hang 4 = .ok (.aload_n 0, 1) := by decide +kernel
theorem dX2_hang_5 : decode cX2_hang 5 = .ok (.getfield 26, 3) := by decide +kernel
theorem dX2_hang_8 : decode cX2_hang 8 = .ok (.bipush 12, 2) := by decide +kernel
theorem dX2_hang_10 : decode cX2_hang 10 = .ok (.if_icmp .lt 13, 3) := by decide +kernel
theorem dX2_hang_13 : decode cX2_hang 13 = .ok (.new 52, 3) := by decide +kernel
theorem dX2_hang_16 : decode cX2_hang 16 = .ok (.dup, 1) := by decide +kernel
theorem dX2_hang_17 : decode cX2_hang 17 = .ok (.ldc 54, 2) := by decide +kernel
theorem dX2_hang_19 : decode cX2_hang 19 = .ok (.invokespecial 56, 3) := by decide +kernel
theorem dX2_hang_22 : decode cX2_hang 22 = .ok (.athrow, 1) := by decide +kernel
theorem dX2_hang_23 : decode cX2_hang 23 = .ok (.aload_n 0, 1) := by decide +kernel
theorem dX2_hang_24 : decode cX2_hang 24 = .ok (.getfield 15, 3) := by decide +kernel
theorem dX2_hang_27 : decode cX2_hang 27 = .ok (.aload_n 0, 1) := by decide +kernel
theorem dX2_hang_28 : decode cX2_hang 28 = .ok (.getfield 26, 3) := by decide +kernel
theorem dX2_hang_31 : decode cX2_hang 31 = .ok (.aaload, 1) := by decide +kernel
theorem dX2_hang_32 : decode cX2_hang 32 = .ok (.iload_n 1, 1) := by decide +kernel
theorem dX2_hang_33 : decode cX2_hang 33 = .ok (.putfield 45, 3) := by decide +kernel
theorem dX2_hang_36 : decode cX2_hang 36 = .ok (.aload_n 0, 1) := by decide +kernel
theorem dX2_hang_37 : decode cX2_hang 37 = .ok (.getfield 15, 3) := by decide +kernel
theorem dX2_hang_40 : decode cX2_hang 40 = .ok (.aload_n 0, 1) := by decide +kernel
theorem dX2_hang_41 : decode cX2_hang 41 = .ok (.getfield 26, 3) := by decide +kernel
theorem dX2_hang_44 : decode cX2_hang 44 = .ok (.aaload, 1) := by decide +kernel
theorem dX2_hang_45 : decode cX2_hang 45 = .ok (.aload_n 0, 1) := by decide +kernel
theorem dX2_hang_46 : decode cX2_hang 46 = .ok (.getfield 9, 3) := by decide +kernel
theorem dX2_hang_49 : decode cX2_hang 49 = .ok (.iload_n 1, 1) := by decide +kernel
theorem dX2_hang_50 : decode cX2_hang 50 = .ok (.iaload, 1) := by decide +kernel
theorem dX2_hang_51 : decode cX2_hang 51 = .ok (.putfield 59, 3) := by decide +kernel
theorem dX2_hang_54 : decode cX2_hang 54 = .ok (.aload_n 0, 1) := by decide +kernel
theorem dX2_hang_55 : decode cX2_hang 55 = .ok (.dup, 1) := by decide +kernel
theorem dX2_hang_56 : decode cX2_hang 56 = .ok (.getfield 26, 3) := by decide +kernel
theorem dX2_hang_59 : decode cX2_hang 59 = .ok (.iconst 1, 1) := by decide +kernel
theorem dX2_hang_60 : decode cX2_hang 60 = .ok (.iadd, 1) := by decide +kernel
theorem dX2_hang_61 : decode cX2_hang 61 = .ok (.putfield 26, 3) := by decide +kernel
theorem dX2_hang_64 : decode cX2_hang 64 = .ok (.aload_n 0, 1) := by decide +kernel
theorem dX2_hang_65 : decode cX2_hang 65 = .ok (.getfield 26, 3) := by decide +kernel
theorem dX2_hang_68 : decode cX2_hang 68 = .ok (.iconst 1, 1) := by decide +kernel
theorem dX2_hang_69 : decode cX2_hang 69 = .ok (.isub, 1) := by decide +kernel
theorem dX2_hang_70 : decode cX2_hang 70 = .ok (.ireturn, 1) := by decide +kernel
theorem dX2_carry_0 : decode cX2_carry 0 = .ok (.aload_n 0, 1) := by decide +kernel
theorem dX2_carry_1 : decode cX2_carry 1 = .ok (.iload_n 1, 1) := by decide +kernel
theorem dX2_carry_2 : decode cX2_carry 2 = .ok (.invokevirtual 62, 3) := by decide +kernel
theorem dX2_carry_5 : decode cX2_carry 5 = .ok (.astore_n 3, 1) := by decide +kernel
theorem dX2_carry_6 : decode cX2_carry 6 = .ok (.iload_n 2, 1) := by decide +kernel
theorem dX2_carry_7 : decode cX2_carry 7 = .ok (.invokestatic 37, 3) := by decide +kernel
theorem dX2_carry_10 : decode cX2_carry 10 = .ok (.aload_n 3, 1) := by decide +kernel
theorem dX2_carry_11 : decode cX2_carry 11 = .ok (.getfield 45, 3) := by decide +kernel
theorem dX2_carry_14 : decode cX2_carry 14 = .ok (.iload_n 2, 1) := by decide +kernel
theorem dX2_carry_15 : decode cX2_carry 15 = .ok (.if_icmp .ne 13, 3) := by decide +kernel
theorem dX2_carry_18 : decode cX2_carry 18 = .ok (.new 52, 3) := by decide +kernel
theorem dX2_carry_21 : decode cX2_carry 21 = .ok (.dup, 1) := by decide +kernel
theorem dX2_carry_22 : decode cX2_carry 22 = .ok (.ldc 66, 2) := by decide +kernel
theorem dX2_carry_24 : decode cX2_carry 24 = .ok (.invokespecial 56, 3) := by decide +kernel
theorem dX2_carry_27 : decode cX2_carry 27 = .ok (.athrow, 1) := by decide +kernel
theorem dX2_carry_28 : decode cX2_carry 28 = .ok (.aload_n 3, 1) := by decide +kernel
theorem dX2_carry_29 : decode cX2_carry 29 = .ok (.iload_n 2, 1) := by decide +kernel
theorem dX2_carry_30 : decode cX2_carry 30 = .ok (.putfield 45, 3) := by decide +kernel
theorem dX2_carry_33 : decode cX2_carry 33 = .ok (.aload_n 3, 1) := by decide +kernel
theorem dX2_carry_34 : decode cX2_carry 34 = .ok (.iconst (-1), 1) := by decide +kernel
theorem dX2_carry_35 : decode cX2_carry 35 = .ok (.putfield 68, 3) := by decide +kernel
theorem dX2_carry_38 : decode cX2_carry 38 = .ok (.aload_n 3, 1) := by decide +kernel
theorem dX2_carry_39 : decode cX2_carry 39 = .ok (.getfield 59, 3) := by decide +kernel
theorem dX2_carry_42 : decode cX2_carry 42 = .ok (.aload_n 0, 1) := by decide +kernel
theorem dX2_carry_43 : decode cX2_carry 43 = .ok (.getfield 9, 3) := by decide +kernel
theorem dX2_carry_46 : decode cX2_carry 46 = .ok (.iload_n 2, 1) := by decide +kernel
theorem dX2_carry_47 : decode cX2_carry 47 = .ok (.iaload, 1) := by decide +kernel
theorem dX2_carry_48 : decode cX2_carry 48 = .ok (.if_icmp .ne 5, 3) := by decide +kernel
theorem dX2_carry_51 : decode cX2_carry 51 = .ok (.iconst 0, 1) := by decide +kernel
theorem dX2_carry_52 : decode cX2_carry 52 = .ok (.ireturn, 1) := by decide +kernel
theorem dX2_carry_53 : decode cX2_carry 53 = .ok (.aload_n 0, 1) := by decide +kernel
theorem dX2_carry_54 : decode cX2_carry 54 = .ok (.aload_n 3, 1) := by decide +kernel
theorem dX2_carry_55 : decode cX2_carry 55 = .ok (.invokevirtual 48, 3) := by decide +kernel
theorem dX2_carry_58 : decode cX2_carry 58 = .ok (.iconst 1, 1) := by decide +kernel
theorem dX2_carry_59 : decode cX2_carry 59 = .ok (.ireturn, 1) := by decide +kernel
theorem dX2_charge_0 : decode cX2_charge 0 = .ok (.aload_n 0, 1) := by decide +kernel
theorem dX2_charge_1 : decode cX2_charge 1 = .ok (.iload_n 1, 1) := by decide +kernel
theorem dX2_charge_2 : decode cX2_charge 2 = .ok (.invokevirtual 62, 3) := by decide +kernel
theorem dX2_charge_5 : decode cX2_charge 5 = .ok (.astore_n 2, 1) := by decide +kernel
theorem dX2_charge_6 : decode cX2_charge 6 = .ok (.aload_n 2, 1) := by decide +kernel
theorem dX2_charge_7 : decode cX2_charge 7 = .ok (.getfield 71, 3) := by decide +kernel
theorem dX2_charge_10 : decode cX2_charge 10 = .ok (.istore_n 3, 1) := by decide +kernel
theorem dX2_charge_11 : decode cX2_charge 11 = .ok (.aload_n 2, 1) := by decide +kernel
theorem dX2_charge_12 : decode cX2_charge 12 = .ok (.sipush 1000, 3) := by decide +kernel
theorem dX2_charge_15 : decode cX2_charge 15 = .ok (.putfield 71, 3) := by decide +kernel
theorem dX2_charge_18 : decode cX2_charge 18 = .ok (.iload_n 3, 1) := by decide +kernel
theorem dX2_charge_19 : decode cX2_charge 19 = .ok (.ireturn, 1) := by decide +kernel
theorem dX2_loseSendings_0 : decode cX2_loseSendings 0 = .ok (.aload_n 0, 1) := by decide +kernel
theorem dX2_loseSendings_1 : decode cX2_loseSendings 1 = .ok (.iload_n 1, 1) := by decide +kernel
theorem dX2_loseSendings_2 : decode cX2_loseSendings 2 = .ok (.invokevirtual 62, 3) := by decide +kernel
theorem dX2_loseSendings_5 : decode cX2_loseSendings 5 = .ok (.astore_n 3, 1) := by decide +kernel
theorem dX2_loseSendings_6 : decode cX2_loseSendings 6 = .ok (.iload_n 2, 1) := by decide +kernel
theorem dX2_loseSendings_7 : decode cX2_loseSendings 7 = .ok (.iconst 0, 1) := by decide +kernel
theorem dX2_loseSendings_8 : decode cX2_loseSendings 8 = .ok (.bipush 20, 2) := by decide +kernel
theorem dX2_loseSendings_10 : decode cX2_loseSendings 10 = .ok (.invokestatic 41, 3) := by decide +kernel
theorem dX2_loseSendings_13 : decode cX2_loseSendings 13 = .ok (.aload_n 3, 1) := by decide +kernel
theorem dX2_loseSendings_14 : decode cX2_loseSendings 14 = .ok (.getfield 74, 3) := by decide +kernel
theorem dX2_loseSendings_17 : decode cX2_loseSendings 17 = .ok (.istore 4, 2) := by decide +kernel
theorem dX2_loseSendings_19 : decode cX2_loseSendings 19 = .ok (.aload_n 3, 1) := by decide +kernel
theorem dX2_loseSendings_20 : decode cX2_loseSendings 20 = .ok (.iload_n 2, 1) := by decide +kernel
theorem dX2_loseSendings_21 : decode cX2_loseSendings 21 = .ok (.putfield 74, 3) := by decide +kernel
theorem dX2_loseSendings_24 : decode cX2_loseSendings 24 = .ok (.iload 4, 2) := by decide +kernel
theorem dX2_loseSendings_26 : decode cX2_loseSendings 26 = .ok (.ireturn, 1) := by decide +kernel
theorem dX2_loseAnswers_0 : decode cX2_loseAnswers 0 = .ok (.aload_n 0, 1) := by decide +kernel
theorem dX2_loseAnswers_1 : decode cX2_loseAnswers 1 = .ok (.iload_n 1, 1) := by decide +kernel
theorem dX2_loseAnswers_2 : decode cX2_loseAnswers 2 = .ok (.invokevirtual 62, 3) := by decide +kernel
theorem dX2_loseAnswers_5 : decode cX2_loseAnswers 5 = .ok (.astore_n 3, 1) := by decide +kernel
theorem dX2_loseAnswers_6 : decode cX2_loseAnswers 6 = .ok (.iload_n 2, 1) := by decide +kernel
theorem dX2_loseAnswers_7 : decode cX2_loseAnswers 7 = .ok (.iconst 0, 1) := by decide +kernel
theorem dX2_loseAnswers_8 : decode cX2_loseAnswers 8 = .ok (.bipush 20, 2) := by decide +kernel
theorem dX2_loseAnswers_10 : decode cX2_loseAnswers 10 = .ok (.invokestatic 41, 3) := by decide +kernel
theorem dX2_loseAnswers_13 : decode cX2_loseAnswers 13 = .ok (.aload_n 3, 1) := by decide +kernel
theorem dX2_loseAnswers_14 : decode cX2_loseAnswers 14 = .ok (.getfield 77, 3) := by decide +kernel
theorem dX2_loseAnswers_17 : decode cX2_loseAnswers 17 = .ok (.istore 4, 2) := by decide +kernel
theorem dX2_loseAnswers_19 : decode cX2_loseAnswers 19 = .ok (.aload_n 3, 1) := by decide +kernel
theorem dX2_loseAnswers_20 : decode cX2_loseAnswers 20 = .ok (.iload_n 2, 1) := by decide +kernel
theorem dX2_loseAnswers_21 : decode cX2_loseAnswers 21 = .ok (.putfield 77, 3) := by decide +kernel
theorem dX2_loseAnswers_24 : decode cX2_loseAnswers 24 = .ok (.iload 4, 2) := by decide +kernel
theorem dX2_loseAnswers_26 : decode cX2_loseAnswers 26 = .ok (.ireturn, 1) := by decide +kernel
theorem dX2_pass_0 : decode cX2_pass 0 = .ok (.iload_n 1, 1) := by decide +kernel
theorem dX2_pass_1 : decode cX2_pass 1 = .ok (.iconst 1, 1) := by decide +kernel
theorem dX2_pass_2 : decode cX2_pass 2 = .ok (.sipush 200, 3) := by decide +kernel
theorem dX2_pass_5 : decode cX2_pass 5 = .ok (.invokestatic 41, 3) := by decide +kernel
theorem dX2_pass_8 : decode cX2_pass 8 = .ok (.aload_n 0, 1) := by decide +kernel
theorem dX2_pass_9 : decode cX2_pass 9 = .ok (.getfield 30, 3) := by decide +kernel
theorem dX2_pass_12 : decode cX2_pass 12 = .ok (.iload_n 1, 1) := by decide +kernel
theorem dX2_pass_13 : decode cX2_pass 13 = .ok (.iadd, 1) := by decide +kernel
theorem dX2_pass_14 : decode cX2_pass 14 = .ok (.sipush 10000, 3) := by decide +kernel
theorem dX2_pass_17 : decode cX2_pass 17 = .ok (.if_icmp .le 13, 3) := by decide +kernel
theorem dX2_pass_20 : decode cX2_pass 20 = .ok (.new 52, 3) := by decide +kernel
theorem dX2_pass_23 : decode cX2_pass 23 = .ok (.dup, 1) := by decide +kernel
theorem dX2_pass_24 : decode cX2_pass 24 = .ok (.ldc 80, 2) := by decide +kernel
theorem dX2_pass_26 : decode cX2_pass 26 = .ok (.invokespecial 56, 3) := by decide +kernel
theorem dX2_pass_29 : decode cX2_pass 29 = .ok (.athrow, 1) := by decide +kernel
theorem dX2_pass_30 : decode cX2_pass 30 = .ok (.iconst 0, 1) := by decide +kernel
theorem dX2_pass_31 : decode cX2_pass 31 = .ok (.istore_n 2, 1) := by decide +kernel
theorem dX2_pass_32 : decode cX2_pass 32 = .ok (.iconst 0, 1) := by decide +kernel
theorem dX2_pass_33 : decode cX2_pass 33 = .ok (.istore_n 3, 1) := by decide +kernel
theorem dX2_pass_34 : decode cX2_pass 34 = .ok (.iload_n 3, 1) := by decide +kernel
theorem dX2_pass_35 : decode cX2_pass 35 = .ok (.iload_n 1, 1) := by decide +kernel
theorem dX2_pass_36 : decode cX2_pass 36 = .ok (.if_icmp .ge 16, 3) := by decide +kernel
theorem dX2_pass_39 : decode cX2_pass 39 = .ok (.iload_n 2, 1) := by decide +kernel
theorem dX2_pass_40 : decode cX2_pass 40 = .ok (.aload_n 0, 1) := by decide +kernel
theorem dX2_pass_41 : decode cX2_pass 41 = .ok (.invokevirtual 82, 3) := by decide +kernel
theorem dX2_pass_44 : decode cX2_pass 44 = .ok (.iadd, 1) := by decide +kernel
theorem dX2_pass_45 : decode cX2_pass 45 = .ok (.istore_n 2, 1) := by decide +kernel
theorem dX2_pass_46 : decode cX2_pass 46 = .ok (.iinc 3 1, 3) := by decide +kernel
theorem dX2_pass_49 : decode cX2_pass 49 = .ok (.goto (-15), 3) := by decide +kernel
theorem dX2_pass_52 : decode cX2_pass 52 = .ok (.iload_n 2, 1) := by decide +kernel
theorem dX2_pass_53 : decode cX2_pass 53 = .ok (.ireturn, 1) := by decide +kernel
theorem dX2_time_0 : decode cX2_time 0 = .ok (.aload_n 0, 1) := by decide +kernel
theorem dX2_time_1 : decode cX2_time 1 = .ok (.getfield 30, 3) := by decide +kernel
theorem dX2_time_4 : decode cX2_time 4 = .ok (.ireturn, 1) := by decide +kernel
theorem dX2_order_0 : decode cX2_order 0 = .ok (.aload_n 0, 1) := by decide +kernel
theorem dX2_order_1 : decode cX2_order 1 = .ok (.iload_n 1, 1) := by decide +kernel
theorem dX2_order_2 : decode cX2_order 2 = .ok (.invokevirtual 62, 3) := by decide +kernel
theorem dX2_order_5 : decode cX2_order 5 = .ok (.getfield 68, 3) := by decide +kernel
theorem dX2_order_8 : decode cX2_order 8 = .ok (.ireturn, 1) := by decide +kernel
theorem dX2_orders_0 : decode cX2_orders 0 = .ok (.iconst 0, 1) := by decide +kernel
theorem dX2_orders_1 : decode cX2_orders 1 = .ok (.istore_n 1, 1) := by decide +kernel
theorem dX2_orders_2 : decode cX2_orders 2 = .ok (.iconst 0, 1) := by decide +kernel
theorem dX2_orders_3 : decode cX2_orders 3 = .ok (.istore_n 2, 1) := by decide +kernel
theorem dX2_orders_4 : decode cX2_orders 4 = .ok (.iload_n 2, 1) := by decide +kernel
theorem dX2_orders_5 : decode cX2_orders 5 = .ok (.aload_n 0, 1) := by decide +kernel
theorem dX2_orders_6 : decode cX2_orders 6 = .ok (.getfield 26, 3) := by decide +kernel
theorem dX2_orders_9 : decode cX2_orders 9 = .ok (.if_icmp .ge 25, 3) := by decide +kernel
theorem dX2_orders_12 : decode cX2_orders 12 = .ok (.aload_n 0, 1) := by decide +kernel
theorem dX2_orders_13 : decode cX2_orders 13 = .ok (.getfield 15, 3) := by decide +kernel
theorem dX2_orders_16 : decode cX2_orders 16 = .ok (.iload_n 2, 1) := by decide +kernel
theorem dX2_orders_17 : decode cX2_orders 17 = .ok (.aaload, 1) := by decide +kernel
theorem dX2_orders_18 : decode cX2_orders 18 = .ok (.getfield 68, 3) := by decide +kernel
theorem dX2_orders_21 : decode cX2_orders 21 = .ok (.iconst (-1), 1) := by decide +kernel
theorem dX2_orders_22 : decode cX2_orders 22 = .ok (.if_icmp .eq 6, 3) := by decide +kernel
theorem dX2_orders_25 : decode cX2_orders 25 = .ok (.iinc 1 1, 3) := by decide +kernel
theorem dX2_orders_28 : decode cX2_orders 28 = .ok (.iinc 2 1, 3) := by decide +kernel
theorem dX2_orders_31 : decode cX2_orders 31 = .ok (.goto (-27), 3) := by decide +kernel
theorem dX2_orders_34 : decode cX2_orders 34 = .ok (.iload_n 1, 1) := by decide +kernel
theorem dX2_orders_35 : decode cX2_orders 35 = .ok (.ireturn, 1) := by decide +kernel
theorem dX2_nextToSend_0 : decode cX2_nextToSend 0 = .ok (.iconst (-1), 1) := by decide +kernel
theorem dX2_nextToSend_1 : decode cX2_nextToSend 1 = .ok (.istore_n 1, 1) := by decide +kernel
theorem dX2_nextToSend_2 : decode cX2_nextToSend 2 = .ok (.iconst 0, 1) := by decide +kernel
theorem dX2_nextToSend_3 : decode cX2_nextToSend 3 = .ok (.istore_n 2, 1) := by decide +kernel
theorem dX2_nextToSend_4 : decode cX2_nextToSend 4 = .ok (.iload_n 2, 1) := by decide +kernel
theorem dX2_nextToSend_5 : decode cX2_nextToSend 5 = .ok (.aload_n 0, 1) := by decide +kernel
theorem dX2_nextToSend_6 : decode cX2_nextToSend 6 = .ok (.getfield 26, 3) := by decide +kernel
theorem dX2_nextToSend_9 : decode cX2_nextToSend 9 = .ok (.if_icmp .ge 50, 3) := by decide +kernel
theorem dX2_nextToSend_12 : decode cX2_nextToSend 12 = .ok (.aload_n 0, 1) := by decide +kernel
theorem dX2_nextToSend_13 : decode cX2_nextToSend 13 = .ok (.getfield 15, 3) := by decide +kernel
theorem dX2_nextToSend_16 : decode cX2_nextToSend 16 = .ok (.iload_n 2, 1) := by decide +kernel
theorem dX2_nextToSend_17 : decode cX2_nextToSend 17 = .ok (.aaload, 1) := by decide +kernel
theorem dX2_nextToSend_18 : decode cX2_nextToSend 18 = .ok (.aload_n 0, 1) := by decide +kernel
theorem dX2_nextToSend_19 : decode cX2_nextToSend 19 = .ok (.getfield 30, 3) := by decide +kernel
theorem dX2_nextToSend_22 : decode cX2_nextToSend 22 = .ok (.invokevirtual 86, 3) := by decide +kernel
theorem dX2_nextToSend_25 : decode cX2_nextToSend 25 = .ok (.ifCond .eq 28, 3) := by decide +kernel
theorem dX2_nextToSend_28 : decode cX2_nextToSend 28 = .ok (.iload_n 1, 1) := by decide +kernel
theorem dX2_nextToSend_29 : decode cX2_nextToSend 29 = .ok (.iconst (-1), 1) := by decide +kernel
theorem dX2_nextToSend_30 : decode cX2_nextToSend 30 = .ok (.if_icmp .eq 21, 3) := by decide +kernel
theorem dX2_nextToSend_33 : decode cX2_nextToSend 33 = .ok (.aload_n 0, 1) := by decide +kernel
theorem dX2_nextToSend_34 : decode cX2_nextToSend 34 = .ok (.getfield 15, 3) := by decide +kernel
theorem dX2_nextToSend_37 : decode cX2_nextToSend 37 = .ok (.iload_n 2, 1) := by decide +kernel
theorem dX2_nextToSend_38 : decode cX2_nextToSend 38 = .ok (.aaload, 1) := by decide +kernel
theorem dX2_nextToSend_39 : decode cX2_nextToSend 39 = .ok (.aload_n 0, 1) := by decide +kernel
theorem dX2_nextToSend_40 : decode cX2_nextToSend 40 = .ok (.getfield 15, 3) := by decide +kernel
theorem dX2_nextToSend_43 : decode cX2_nextToSend 43 = .ok (.iload_n 1, 1) := by decide +kernel
theorem dX2_nextToSend_44 : decode cX2_nextToSend 44 = .ok (.aaload, 1) := by decide +kernel
theorem dX2_nextToSend_45 : decode cX2_nextToSend 45 = .ok (.invokevirtual 90, 3) := by decide +kernel
theorem dX2_nextToSend_48 : decode cX2_nextToSend 48 = .ok (.ifCond .eq 5, 3) := by decide +kernel
theorem dX2_nextToSend_51 : decode cX2_nextToSend 51 = .ok (.iload_n 2, 1) := by decide +kernel
theorem dX2_nextToSend_52 : decode cX2_nextToSend 52 = .ok (.istore_n 1, 1) := by decide +kernel
theorem dX2_nextToSend_53 : decode cX2_nextToSend 53 = .ok (.iinc 2 1, 3) := by decide +kernel
theorem dX2_nextToSend_56 : decode cX2_nextToSend 56 = .ok (.goto (-52), 3) := by decide +kernel
theorem dX2_nextToSend_59 : decode cX2_nextToSend 59 = .ok (.iload_n 1, 1) := by decide +kernel
theorem dX2_nextToSend_60 : decode cX2_nextToSend 60 = .ok (.ireturn, 1) := by decide +kernel
theorem dX2_shown_0 : decode cX2_shown 0 = .ok (.aload_n 0, 1) := by decide +kernel
theorem dX2_shown_1 : decode cX2_shown 1 = .ok (.iload_n 1, 1) := by decide +kernel
theorem dX2_shown_2 : decode cX2_shown 2 = .ok (.invokevirtual 62, 3) := by decide +kernel
theorem dX2_shown_5 : decode cX2_shown 5 = .ok (.getfield 59, 3) := by decide +kernel
theorem dX2_shown_8 : decode cX2_shown 8 = .ok (.ireturn, 1) := by decide +kernel
theorem dX2_ghosts_0 : decode cX2_ghosts 0 = .ok (.aload_n 0, 1) := by decide +kernel
theorem dX2_ghosts_1 : decode cX2_ghosts 1 = .ok (.iload_n 1, 1) := by decide +kernel
theorem dX2_ghosts_2 : decode cX2_ghosts 2 = .ok (.invokevirtual 62, 3) := by decide +kernel
theorem dX2_ghosts_5 : decode cX2_ghosts 5 = .ok (.getfield 94, 3) := by decide +kernel
theorem dX2_ghosts_8 : decode cX2_ghosts 8 = .ok (.ireturn, 1) := by decide +kernel
theorem dX2_battery_0 : decode cX2_battery 0 = .ok (.aload_n 0, 1) := by decide +kernel
theorem dX2_battery_1 : decode cX2_battery 1 = .ok (.iload_n 1, 1) := by decide +kernel
theorem dX2_battery_2 : decode cX2_battery 2 = .ok (.invokevirtual 62, 3) := by decide +kernel
theorem dX2_battery_5 : decode cX2_battery 5 = .ok (.getfield 71, 3) := by decide +kernel
theorem dX2_battery_8 : decode cX2_battery 8 = .ok (.ireturn, 1) := by decide +kernel
theorem dX2_lies_0 : decode cX2_lies 0 = .ok (.iconst 0, 1) := by decide +kernel
theorem dX2_lies_1 : decode cX2_lies 1 = .ok (.istore_n 1, 1) := by decide +kernel
theorem dX2_lies_2 : decode cX2_lies 2 = .ok (.iconst 0, 1) := by decide +kernel
theorem dX2_lies_3 : decode cX2_lies 3 = .ok (.istore_n 2, 1) := by decide +kernel
theorem dX2_lies_4 : decode cX2_lies 4 = .ok (.iload_n 2, 1) := by decide +kernel
theorem dX2_lies_5 : decode cX2_lies 5 = .ok (.aload_n 0, 1) := by decide +kernel
theorem dX2_lies_6 : decode cX2_lies 6 = .ok (.getfield 26, 3) := by decide +kernel
theorem dX2_lies_9 : decode cX2_lies 9 = .ok (.if_icmp .ge 41, 3) := by decide +kernel
theorem dX2_lies_12 : decode cX2_lies 12 = .ok (.aload_n 0, 1) := by decide +kernel
theorem dX2_lies_13 : decode cX2_lies 13 = .ok (.getfield 15, 3) := by decide +kernel
theorem dX2_lies_16 : decode cX2_lies 16 = .ok (.iload_n 2, 1) := by decide +kernel
theorem dX2_lies_17 : decode cX2_lies 17 = .ok (.aaload, 1) := by decide +kernel
theorem dX2_lies_18 : decode cX2_lies 18 = .ok (.getfield 59, 3) := by decide +kernel
theorem dX2_lies_21 : decode cX2_lies 21 = .ok (.aload_n 0, 1) := by decide +kernel
theorem dX2_lies_22 : decode cX2_lies 22 = .ok (.getfield 9, 3) := by decide +kernel
theorem dX2_lies_25 : decode cX2_lies 25 = .ok (.aload_n 0, 1) := by decide +kernel
theorem dX2_lies_26 : decode cX2_lies 26 = .ok (.getfield 15, 3) := by decide +kernel
theorem dX2_lies_29 : decode cX2_lies 29 = .ok (.iload_n 2, 1) := by decide +kernel
theorem dX2_lies_30 : decode cX2_lies 30 = .ok (.aaload, 1) := by decide +kernel
theorem dX2_lies_31 : decode cX2_lies 31 = .ok (.getfield 45, 3) := by decide +kernel
theorem dX2_lies_34 : decode cX2_lies 34 = .ok (.iaload, 1) := by decide +kernel
theorem dX2_lies_35 : decode cX2_lies 35 = .ok (.if_icmp .ge 9, 3) := by decide +kernel
theorem dX2_lies_38 : decode cX2_lies 38 = .ok (.iload_n 1, 1) := by decide +kernel
theorem dX2_lies_39 : decode cX2_lies 39 = .ok (.iconst 1, 1) := by decide +kernel
theorem dX2_lies_40 : decode cX2_lies 40 = .ok (.iload_n 2, 1) := by decide +kernel
theorem dX2_lies_41 : decode cX2_lies 41 = .ok (.ishl, 1) := by decide +kernel
theorem dX2_lies_42 : decode cX2_lies 42 = .ok (.ior, 1) := by decide +kernel
theorem dX2_lies_43 : decode cX2_lies 43 = .ok (.istore_n 1, 1) := by decide +kernel
theorem dX2_lies_44 : decode cX2_lies 44 = .ok (.iinc 2 1, 3) := by decide +kernel
theorem dX2_lies_47 : decode cX2_lies 47 = .ok (.goto (-43), 3) := by decide +kernel
theorem dX2_lies_50 : decode cX2_lies 50 = .ok (.iload_n 1, 1) := by decide +kernel
theorem dX2_lies_51 : decode cX2_lies 51 = .ok (.ireturn, 1) := by decide +kernel
theorem dX2_asked_0 : decode cX2_asked 0 = .ok (.iload_n 1, 1) := by decide +kernel
theorem dX2_asked_1 : decode cX2_asked 1 = .ok (.invokestatic 37, 3) := by decide +kernel
theorem dX2_asked_4 : decode cX2_asked 4 = .ok (.aload_n 0, 1) := by decide +kernel
theorem dX2_asked_5 : decode cX2_asked 5 = .ok (.iload_n 1, 1) := by decide +kernel
theorem dX2_asked_6 : decode cX2_asked 6 = .ok (.invokevirtual 97, 3) := by decide +kernel
theorem dX2_asked_9 : decode cX2_asked 9 = .ok (.aload_n 0, 1) := by decide +kernel
theorem dX2_asked_10 : decode cX2_asked 10 = .ok (.getfield 22, 3) := by decide +kernel
theorem dX2_asked_13 : decode cX2_asked 13 = .ok (.iload_n 1, 1) := by decide +kernel
theorem dX2_asked_14 : decode cX2_asked 14 = .ok (.invokevirtual 101, 3) := by decide +kernel
theorem dX2_asked_17 : decode cX2_asked 17 = .ok (.invokestatic 104, 3) := by decide +kernel
theorem dX2_asked_20 : decode cX2_asked 20 = .ok (.istore_n 2, 1) := by decide +kernel
theorem dX2_asked_21 : decode cX2_asked 21 = .ok (.aload_n 0, 1) := by decide +kernel
theorem dX2_asked_22 : decode cX2_asked 22 = .ok (.getfield 9, 3) := by decide +kernel
theorem dX2_asked_25 : decode cX2_asked 25 = .ok (.iload_n 1, 1) := by decide +kernel
theorem dX2_asked_26 : decode cX2_asked 26 = .ok (.iaload, 1) := by decide +kernel
theorem dX2_asked_27 : decode cX2_asked 27 = .ok (.iload_n 2, 1) := by decide +kernel
theorem dX2_asked_28 : decode cX2_asked 28 = .ok (.invokestatic 104, 3) := by decide +kernel
theorem dX2_asked_31 : decode cX2_asked 31 = .ok (.ireturn, 1) := by decide +kernel
theorem dX2_leastEver_0 : decode cX2_leastEver 0 = .ok (.iload_n 1, 1) := by decide +kernel
theorem dX2_leastEver_1 : decode cX2_leastEver 1 = .ok (.invokestatic 37, 3) := by decide +kernel
theorem dX2_leastEver_4 : decode cX2_leastEver 4 = .ok (.aload_n 0, 1) := by decide +kernel
theorem dX2_leastEver_5 : decode cX2_leastEver 5 = .ok (.iload_n 1, 1) := by decide +kernel
theorem dX2_leastEver_6 : decode cX2_leastEver 6 = .ok (.invokevirtual 97, 3) := by decide +kernel
theorem dX2_leastEver_9 : decode cX2_leastEver 9 = .ok (.aload_n 0, 1) := by decide +kernel
theorem dX2_leastEver_10 : decode cX2_leastEver 10 = .ok (.getfield 22, 3) := by decide +kernel
theorem dX2_leastEver_13 : decode cX2_leastEver 13 = .ok (.iload_n 1, 1) := by decide +kernel
theorem dX2_leastEver_14 : decode cX2_leastEver 14 = .ok (.invokevirtual 110, 3) := by decide +kernel
theorem dX2_leastEver_17 : decode cX2_leastEver 17 = .ok (.invokestatic 104, 3) := by decide +kernel
theorem dX2_leastEver_20 : decode cX2_leastEver 20 = .ok (.istore_n 2, 1) := by decide +kernel
theorem dX2_leastEver_21 : decode cX2_leastEver 21 = .ok (.iload_n 2, 1) := by decide +kernel
theorem dX2_leastEver_22 : decode cX2_leastEver 22 = .ok (.sipush 10000, 3) := by decide +kernel
theorem dX2_leastEver_25 : decode cX2_leastEver 25 = .ok (.if_icmp .ne 7, 3) := by decide +kernel
theorem dX2_leastEver_28 : decode cX2_leastEver 28 = .ok (.iconst (-1), 1) := by decide +kernel
theorem dX2_leastEver_29 : decode cX2_leastEver 29 = .ok (.goto 4, 3) := by decide +kernel
theorem dX2_leastEver_32 : decode cX2_leastEver 32 = .ok (.iload_n 2, 1) := by decide +kernel
theorem dX2_leastEver_33 : decode cX2_leastEver 33 = .ok (.ireturn, 1) := by decide +kernel
theorem dX2_needWare_0 : decode cX2_needWare 0 = .ok (.iload_n 0, 1) := by decide +kernel
theorem dX2_needWare_1 : decode cX2_needWare 1 = .ok (.ifCond .lt 9, 3) := by decide +kernel
theorem dX2_needWare_4 : decode cX2_needWare 4 = .ok (.iload_n 0, 1) := by decide +kernel
theorem dX2_needWare_5 : decode cX2_needWare 5 = .ok (.bipush 12, 2) := by decide +kernel
theorem dX2_needWare_7 : decode cX2_needWare 7 = .ok (.if_icmp .lt 13, 3) := by decide +kernel
theorem dX2_needWare_10 : decode cX2_needWare 10 = .ok (.new 113, 3) := by decide +kernel
theorem dX2_needWare_13 : decode cX2_needWare 13 = .ok (.dup, 1) := by decide +kernel
theorem dX2_needWare_14 : decode cX2_needWare 14 = .ok (.ldc 115, 2) := by decide +kernel
theorem dX2_needWare_16 : decode cX2_needWare 16 = .ok (.invokespecial 117, 3) := by decide +kernel
theorem dX2_needWare_19 : decode cX2_needWare 19 = .ok (.athrow, 1) := by decide +kernel
theorem dX2_needWare_20 : decode cX2_needWare 20 = .ok (.return_, 1) := by decide +kernel
theorem dX2_needWithin_0 : decode cX2_needWithin 0 = .ok (.iload_n 0, 1) := by decide +kernel
theorem dX2_needWithin_1 : decode cX2_needWithin 1 = .ok (.iload_n 1, 1) := by decide +kernel
theorem dX2_needWithin_2 : decode cX2_needWithin 2 = .ok (.if_icmp .lt 8, 3) := by decide +kernel
theorem dX2_needWithin_5 : decode cX2_needWithin 5 = .ok (.iload_n 0, 1) := by decide +kernel
theorem dX2_needWithin_6 : decode cX2_needWithin 6 = .ok (.iload_n 2, 1) := by decide +kernel
theorem dX2_needWithin_7 : decode cX2_needWithin 7 = .ok (.if_icmp .le 13, 3) := by decide +kernel
theorem dX2_needWithin_10 : decode cX2_needWithin 10 = .ok (.new 118, 3) := by decide +kernel
theorem dX2_needWithin_13 : decode cX2_needWithin 13 = .ok (.dup, 1) := by decide +kernel
theorem dX2_needWithin_14 : decode cX2_needWithin 14 = .ok (.ldc 120, 2) := by decide +kernel
theorem dX2_needWithin_16 : decode cX2_needWithin 16 = .ok (.invokespecial 122, 3) := by decide +kernel
theorem dX2_needWithin_19 : decode cX2_needWithin 19 = .ok (.athrow, 1) := by decide +kernel
theorem dX2_needWithin_20 : decode cX2_needWithin 20 = .ok (.return_, 1) := by decide +kernel
theorem dX2_labelOf_0 : decode cX2_labelOf 0 = .ok (.iload_n 1, 1) := by decide +kernel
theorem dX2_labelOf_1 : decode cX2_labelOf 1 = .ok (.ifCond .lt 11, 3) := by decide +kernel
theorem dX2_labelOf_4 : decode cX2_labelOf 4 = .ok (.iload_n 1, 1) := by decide +kernel
theorem dX2_labelOf_5 : decode cX2_labelOf 5 = .ok (.aload_n 0, 1) := by decide +kernel
theorem dX2_labelOf_6 : decode cX2_labelOf 6 = .ok (.getfield 26, 3) := by decide +kernel
theorem dX2_labelOf_9 : decode cX2_labelOf 9 = .ok (.if_icmp .lt 13, 3) := by decide +kernel
theorem dX2_labelOf_12 : decode cX2_labelOf 12 = .ok (.new 113, 3) := by decide +kernel
theorem dX2_labelOf_15 : decode cX2_labelOf 15 = .ok (.dup, 1) := by decide +kernel
theorem dX2_labelOf_16 : decode cX2_labelOf 16 = .ok (.ldc 123, 2) := by decide +kernel
theorem dX2_labelOf_18 : decode cX2_labelOf 18 = .ok (.invokespecial 117, 3) := by decide +kernel
theorem dX2_labelOf_21 : decode cX2_labelOf 21 = .ok (.athrow, 1) := by decide +kernel
theorem dX2_labelOf_22 : decode cX2_labelOf 22 = .ok (.aload_n 0, 1) := by decide +kernel
theorem dX2_labelOf_23 : decode cX2_labelOf 23 = .ok (.getfield 15, 3) := by decide +kernel
theorem dX2_labelOf_26 : decode cX2_labelOf 26 = .ok (.iload_n 1, 1) := by decide +kernel
theorem dX2_labelOf_27 : decode cX2_labelOf 27 = .ok (.aaload, 1) := by decide +kernel
theorem dX2_labelOf_28 : decode cX2_labelOf 28 = .ok (.areturn, 1) := by decide +kernel
theorem dX2_giveOrder_0 : decode cX2_giveOrder 0 = .ok (.aload_n 0, 1) := by decide +kernel
theorem dX2_giveOrder_1 : decode cX2_giveOrder 1 = .ok (.dup, 1) := by decide +kernel
theorem dX2_giveOrder_2 : decode cX2_giveOrder 2 = .ok (.getfield 33, 3) := by decide +kernel
theorem dX2_giveOrder_5 : decode cX2_giveOrder 5 = .ok (.iconst 1, 1) := by decide +kernel
theorem dX2_giveOrder_6 : decode cX2_giveOrder 6 = .ok (.iadd, 1) := by decide +kernel
theorem dX2_giveOrder_7 : decode cX2_giveOrder 7 = .ok (.putfield 33, 3) := by decide +kernel
theorem dX2_giveOrder_10 : decode cX2_giveOrder 10 = .ok (.aload_n 1, 1) := by decide +kernel
theorem dX2_giveOrder_11 : decode cX2_giveOrder 11 = .ok (.aload_n 0, 1) := by decide +kernel
theorem dX2_giveOrder_12 : decode cX2_giveOrder 12 = .ok (.getfield 33, 3) := by decide +kernel
theorem dX2_giveOrder_15 : decode cX2_giveOrder 15 = .ok (.putfield 68, 3) := by decide +kernel
theorem dX2_giveOrder_18 : decode cX2_giveOrder 18 = .ok (.aload_n 1, 1) := by decide +kernel
theorem dX2_giveOrder_19 : decode cX2_giveOrder 19 = .ok (.aload_n 0, 1) := by decide +kernel
theorem dX2_giveOrder_20 : decode cX2_giveOrder 20 = .ok (.getfield 30, 3) := by decide +kernel
theorem dX2_giveOrder_23 : decode cX2_giveOrder 23 = .ok (.putfield 125, 3) := by decide +kernel
theorem dX2_giveOrder_26 : decode cX2_giveOrder 26 = .ok (.return_, 1) := by decide +kernel
theorem dX2_passOneMinute_0 : decode cX2_passOneMinute 0 = .ok (.aload_n 0, 1) := by decide +kernel
theorem dX2_passOneMinute_1 : decode cX2_passOneMinute 1 = .ok (.dup, 1) := by decide +kernel
theorem dX2_passOneMinute_2 : decode cX2_passOneMinute 2 = .ok (.getfield 30, 3) := by decide +kernel
theorem dX2_passOneMinute_5 : decode cX2_passOneMinute 5 = .ok (.iconst 1, 1) := by decide +kernel
theorem dX2_passOneMinute_6 : decode cX2_passOneMinute 6 = .ok (.iadd, 1) := by decide +kernel
theorem dX2_passOneMinute_7 : decode cX2_passOneMinute 7 = .ok (.putfield 30, 3) := by decide +kernel
theorem dX2_passOneMinute_10 : decode cX2_passOneMinute 10 = .ok (.iconst 0, 1) := by decide +kernel
theorem dX2_passOneMinute_11 : decode cX2_passOneMinute 11 = .ok (.istore_n 1, 1) := by decide +kernel
theorem dX2_passOneMinute_12 : decode cX2_passOneMinute 12 = .ok (.iconst 0, 1) := by decide +kernel
theorem dX2_passOneMinute_13 : decode cX2_passOneMinute 13 = .ok (.istore_n 2, 1) := by decide +kernel
theorem dX2_passOneMinute_14 : decode cX2_passOneMinute 14 = .ok (.iload_n 2, 1) := by decide +kernel
theorem dX2_passOneMinute_15 : decode cX2_passOneMinute 15 = .ok (.iconst 2, 1) := by decide +kernel
theorem dX2_passOneMinute_16 : decode cX2_passOneMinute 16 = .ok (.if_icmp .ge 49, 3) := by decide +kernel
theorem dX2_passOneMinute_19 : decode cX2_passOneMinute 19 = .ok (.aload_n 0, 1) := by decide +kernel
theorem dX2_passOneMinute_20 : decode cX2_passOneMinute 20 = .ok (.invokevirtual 128, 3) := by decide +kernel
theorem dX2_passOneMinute_23 : decode cX2_passOneMinute 23 = .ok (.istore_n 3, 1) := by decide +kernel
theorem dX2_passOneMinute_24 : decode cX2_passOneMinute 24 = .ok (.iload_n 3, 1) := by decide +kernel
theorem dX2_passOneMinute_25 : decode cX2_passOneMinute 25 = .ok (.iconst (-1), 1) := by decide +kernel
theorem dX2_passOneMinute_26 : decode cX2_passOneMinute 26 = .ok (.if_icmp .eq 33, 3) := by decide +kernel
theorem dX2_passOneMinute_29 : decode cX2_passOneMinute 29 = .ok (.aload_n 0, 1) := by decide +kernel
theorem dX2_passOneMinute_30 : decode cX2_passOneMinute 30 = .ok (.getfield 15, 3) := by decide +kernel
theorem dX2_passOneMinute_33 : decode cX2_passOneMinute 33 = .ok (.iload_n 3, 1) := by decide +kernel
theorem dX2_passOneMinute_34 : decode cX2_passOneMinute 34 = .ok (.aaload, 1) := by decide +kernel
theorem dX2_passOneMinute_35 : decode cX2_passOneMinute 35 = .ok (.aload_n 0, 1) := by decide +kernel
theorem dX2_passOneMinute_36 : decode cX2_passOneMinute 36 = .ok (.getfield 9, 3) := by decide +kernel
theorem dX2_passOneMinute_39 : decode cX2_passOneMinute 39 = .ok (.aload_n 0, 1) := by decide +kernel
theorem dX2_passOneMinute_40 : decode cX2_passOneMinute 40 = .ok (.getfield 15, 3) := by decide +kernel
theorem dX2_passOneMinute_43 : decode cX2_passOneMinute 43 = .ok (.iload_n 3, 1) := by decide +kernel
theorem dX2_passOneMinute_44 : decode cX2_passOneMinute 44 = .ok (.aaload, 1) := by decide +kernel
theorem dX2_passOneMinute_45 : decode cX2_passOneMinute 45 = .ok (.getfield 45, 3) := by decide +kernel
theorem dX2_passOneMinute_48 : decode cX2_passOneMinute 48 = .ok (.iaload, 1) := by decide +kernel
theorem dX2_passOneMinute_49 : decode cX2_passOneMinute 49 = .ok (.aload_n 0, 1) := by decide +kernel
theorem dX2_passOneMinute_50 : decode cX2_passOneMinute 50 = .ok (.getfield 30, 3) := by decide +kernel
theorem dX2_passOneMinute_53 : decode cX2_passOneMinute 53 = .ok (.invokevirtual 131, 3) := by decide +kernel
theorem dX2_passOneMinute_56 : decode cX2_passOneMinute 56 = .ok (.iinc 1 1, 3) := by decide +kernel
theorem dX2_passOneMinute_59 : decode cX2_passOneMinute 59 = .ok (.iinc 2 1, 3) := by decide +kernel
theorem dX2_passOneMinute_62 : decode cX2_passOneMinute 62 = .ok (.goto (-48), 3) := by decide +kernel
theorem dX2_passOneMinute_65 : decode cX2_passOneMinute 65 = .ok (.aload_n 0, 1) := by decide +kernel
theorem dX2_passOneMinute_66 : decode cX2_passOneMinute 66 = .ok (.invokevirtual 135, 3) := by decide +kernel
theorem dX2_passOneMinute_69 : decode cX2_passOneMinute 69 = .ok (.iload_n 1, 1) := by decide +kernel
theorem dX2_passOneMinute_70 : decode cX2_passOneMinute 70 = .ok (.ireturn, 1) := by decide +kernel
theorem dX2_endMinute_0 : decode cX2_endMinute 0 = .ok (.aload_n 0, 1) := by decide +kernel
theorem dX2_endMinute_1 : decode cX2_endMinute 1 = .ok (.getfield 22, 3) := by decide +kernel
theorem dX2_endMinute_4 : decode cX2_endMinute 4 = .ok (.aload_n 0, 1) := by decide +kernel
theorem dX2_endMinute_5 : decode cX2_endMinute 5 = .ok (.getfield 30, 3) := by decide +kernel
theorem dX2_endMinute_8 : decode cX2_endMinute 8 = .ok (.invokevirtual 138, 3) := by decide +kernel
theorem dX2_endMinute_11 : decode cX2_endMinute 11 = .ok (.iconst 0, 1) := by decide +kernel
theorem dX2_endMinute_12 : decode cX2_endMinute 12 = .ok (.istore_n 1, 1) := by decide +kernel
theorem dX2_endMinute_13 : decode cX2_endMinute 13 = .ok (.iload_n 1, 1) := by decide +kernel
theorem dX2_endMinute_14 : decode cX2_endMinute 14 = .ok (.aload_n 0, 1) := by decide +kernel
theorem dX2_endMinute_15 : decode cX2_endMinute 15 = .ok (.getfield 26, 3) := by decide +kernel
theorem dX2_endMinute_18 : decode cX2_endMinute 18 = .ok (.if_icmp .ge 47, 3) := by decide +kernel
theorem dX2_endMinute_21 : decode cX2_endMinute 21 = .ok (.aload_n 0, 1) := by decide +kernel
theorem dX2_endMinute_22 : decode cX2_endMinute 22 = .ok (.getfield 15, 3) := by decide +kernel
theorem dX2_endMinute_25 : decode cX2_endMinute 25 = .ok (.iload_n 1, 1) := by decide +kernel
theorem dX2_endMinute_26 : decode cX2_endMinute 26 = .ok (.aaload, 1) := by decide +kernel
theorem dX2_endMinute_27 : decode cX2_endMinute 27 = .ok (.invokevirtual 141, 3) := by decide +kernel
theorem dX2_endMinute_30 : decode cX2_endMinute 30 = .ok (.aload_n 0, 1) := by decide +kernel
theorem dX2_endMinute_31 : decode cX2_endMinute 31 = .ok (.getfield 22, 3) := by decide +kernel
theorem dX2_endMinute_34 : decode cX2_endMinute 34 = .ok (.aload_n 0, 1) := by decide +kernel
theorem dX2_endMinute_35 : decode cX2_endMinute 35 = .ok (.getfield 30, 3) := by decide +kernel
theorem dX2_endMinute_38 : decode cX2_endMinute 38 = .ok (.aload_n 0, 1) := by decide +kernel
theorem dX2_endMinute_39 : decode cX2_endMinute 39 = .ok (.getfield 15, 3) := by decide +kernel
theorem dX2_endMinute_42 : decode cX2_endMinute 42 = .ok (.iload_n 1, 1) := by decide +kernel
theorem dX2_endMinute_43 : decode cX2_endMinute 43 = .ok (.aaload, 1) := by decide +kernel
theorem dX2_endMinute_44 : decode cX2_endMinute 44 = .ok (.getfield 45, 3) := by decide +kernel
theorem dX2_endMinute_47 : decode cX2_endMinute 47 = .ok (.aload_n 0, 1) := by decide +kernel
theorem dX2_endMinute_48 : decode cX2_endMinute 48 = .ok (.getfield 15, 3) := by decide +kernel
theorem dX2_endMinute_51 : decode cX2_endMinute 51 = .ok (.iload_n 1, 1) := by decide +kernel
theorem dX2_endMinute_52 : decode cX2_endMinute 52 = .ok (.aaload, 1) := by decide +kernel
theorem dX2_endMinute_53 : decode cX2_endMinute 53 = .ok (.getfield 59, 3) := by decide +kernel
theorem dX2_endMinute_56 : decode cX2_endMinute 56 = .ok (.invokevirtual 144, 3) := by decide +kernel
theorem dX2_endMinute_59 : decode cX2_endMinute 59 = .ok (.iinc 1 1, 3) := by decide +kernel
theorem dX2_endMinute_62 : decode cX2_endMinute 62 = .ok (.goto (-49), 3) := by decide +kernel
theorem dX2_endMinute_65 : decode cX2_endMinute 65 = .ok (.return_, 1) := by decide +kernel
theorem dX2_leastShownNow_0 : decode cX2_leastShownNow 0 = .ok (.sipush 10000, 3) := by decide +kernel
theorem dX2_leastShownNow_3 : decode cX2_leastShownNow 3 = .ok (.istore_n 2, 1) := by decide +kernel
theorem dX2_leastShownNow_4 : decode cX2_leastShownNow 4 = .ok (.iconst 0, 1) := by decide +kernel
theorem dX2_leastShownNow_5 : decode cX2_leastShownNow 5 = .ok (.istore_n 3, 1) := by decide +kernel
theorem dX2_leastShownNow_6 : decode cX2_leastShownNow 6 = .ok (.iload_n 3, 1) := by decide +kernel
theorem dX2_leastShownNow_7 : decode cX2_leastShownNow 7 = .ok (.aload_n 0, 1) := by decide +kernel
theorem dX2_leastShownNow_8 : decode cX2_leastShownNow 8 = .ok (.getfield 26, 3) := by decide +kernel
theorem dX2_leastShownNow_11 : decode cX2_leastShownNow 11 = .ok (.if_icmp .ge 36, 3) := by decide +kernel
theorem dX2_leastShownNow_14 : decode cX2_leastShownNow 14 = .ok (.aload_n 0, 1) := by decide +kernel
theorem dX2_leastShownNow_15 : decode cX2_leastShownNow 15 = .ok (.getfield 15, 3) := by decide +kernel
theorem dX2_leastShownNow_18 : decode cX2_leastShownNow 18 = .ok (.iload_n 3, 1) := by decide +kernel
theorem dX2_leastShownNow_19 : decode cX2_leastShownNow 19 = .ok (.aaload, 1) := by decide +kernel
theorem dX2_leastShownNow_20 : decode cX2_leastShownNow 20 = .ok (.getfield 45, 3) := by decide +kernel
theorem dX2_leastShownNow_23 : decode cX2_leastShownNow 23 = .ok (.iload_n 1, 1) := by decide +kernel
theorem dX2_leastShownNow_24 : decode cX2_leastShownNow 24 = .ok (.if_icmp .ne 17, 3) := by decide +kernel
theorem dX2_leastShownNow_27 : decode cX2_leastShownNow 27 = .ok (.iload_n 2, 1) := by decide +kernel
theorem dX2_leastShownNow_28 : decode cX2_leastShownNow 28 = .ok (.aload_n 0, 1) := by decide +kernel
theorem dX2_leastShownNow_29 : decode cX2_leastShownNow 29 = .ok (.getfield 15, 3) := by decide +kernel
theorem dX2_leastShownNow_32 : decode cX2_leastShownNow 32 = .ok (.iload_n 3, 1) := by decide +kernel
theorem dX2_leastShownNow_33 : decode cX2_leastShownNow 33 = .ok (.aaload, 1) := by decide +kernel
theorem dX2_leastShownNow_34 : decode cX2_leastShownNow 34 = .ok (.getfield 59, 3) := by decide +kernel
theorem dX2_leastShownNow_37 : decode cX2_leastShownNow 37 = .ok (.invokestatic 104, 3) := by decide +kernel
theorem dX2_leastShownNow_40 : decode cX2_leastShownNow 40 = .ok (.istore_n 2, 1) := by decide +kernel
theorem dX2_leastShownNow_41 : decode cX2_leastShownNow 41 = .ok (.iinc 3 1, 3) := by decide +kernel
theorem dX2_leastShownNow_44 : decode cX2_leastShownNow 44 = .ok (.goto (-38), 3) := by decide +kernel
theorem dX2_leastShownNow_47 : decode cX2_leastShownNow 47 = .ok (.iload_n 2, 1) := by decide +kernel
theorem dX2_leastShownNow_48 : decode cX2_leastShownNow 48 = .ok (.ireturn, 1) := by decide +kernel
theorem dJ9_min_7cf53_0 : decode cJ9_min_7cf53 0 = .ok (.iload_n 0, 1) := by decide +kernel
theorem dJ9_min_7cf53_1 : decode cJ9_min_7cf53 1 = .ok (.iload_n 1, 1) := by decide +kernel
theorem dJ9_min_7cf53_2 : decode cJ9_min_7cf53 2 = .ok (.if_icmp .gt 7, 3) := by decide +kernel
theorem dJ9_min_7cf53_5 : decode cJ9_min_7cf53 5 = .ok (.iload_n 0, 1) := by decide +kernel
theorem dJ9_min_7cf53_6 : decode cJ9_min_7cf53 6 = .ok (.goto 4, 3) := by decide +kernel
theorem dJ9_min_7cf53_9 : decode cJ9_min_7cf53 9 = .ok (.iload_n 1, 1) := by decide +kernel
theorem dJ9_min_7cf53_10 : decode cJ9_min_7cf53 10 = .ok (.ireturn, 1) := by decide +kernel
theorem dJ7_fill_53178_0 : decode cJ7_fill_53178 0 = .ok (.iconst 0, 1) := by decide +kernel
theorem dJ7_fill_53178_1 : decode cJ7_fill_53178 1 = .ok (.istore_n 2, 1) := by decide +kernel
theorem dJ7_fill_53178_2 : decode cJ7_fill_53178 2 = .ok (.aload_n 0, 1) := by decide +kernel
theorem dJ7_fill_53178_3 : decode cJ7_fill_53178 3 = .ok (.arraylength, 1) := by decide +kernel
theorem dJ7_fill_53178_4 : decode cJ7_fill_53178 4 = .ok (.istore_n 3, 1) := by decide +kernel
theorem dJ7_fill_53178_5 : decode cJ7_fill_53178 5 = .ok (.iload_n 2, 1) := by decide +kernel
theorem dJ7_fill_53178_6 : decode cJ7_fill_53178 6 = .ok (.iload_n 3, 1) := by decide +kernel
theorem dJ7_fill_53178_7 : decode cJ7_fill_53178 7 = .ok (.if_icmp .ge 13, 3) := by decide +kernel
theorem dJ7_fill_53178_10 : decode cJ7_fill_53178 10 = .ok (.aload_n 0, 1) := by decide +kernel
theorem dJ7_fill_53178_11 : decode cJ7_fill_53178 11 = .ok (.iload_n 2, 1) := by decide +kernel
theorem dJ7_fill_53178_12 : decode cJ7_fill_53178 12 = .ok (.iload_n 1, 1) := by decide +kernel
theorem dJ7_fill_53178_13 : decode cJ7_fill_53178 13 = .ok (.iastore, 1) := by decide +kernel
theorem dJ7_fill_53178_14 : decode cJ7_fill_53178 14 = .ok (.iinc 2 1, 3) := by decide +kernel
theorem dJ7_fill_53178_17 : decode cJ7_fill_53178 17 = .ok (.goto (-12), 3) := by decide +kernel
theorem dJ7_fill_53178_20 : decode cJ7_fill_53178 20 = .ok (.return_, 1) := by decide +kernel
