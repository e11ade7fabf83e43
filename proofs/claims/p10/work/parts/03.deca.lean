theorem dX0_init_0 : decode cX0_init 0 = .ok (.aload_n 0, 1) := by decide +kernel
theorem dX0_init_1 : decode cX0_init 1 = .ok (.invokespecial 3, 3) := by decide +kernel
theorem dX0_init_4 : decode cX0_init 4 = .ok (.aload_n 0, 1) := by decide +kernel
theorem dX0_init_5 : decode cX0_init 5 = .ok (.bipush 24, 2) := by decide +kernel
theorem dX0_init_7 : decode cX0_init 7 = .ok (.newarray .int, 2) := by decide +kernel
theorem dX0_init_9 : decode cX0_init 9 = .ok (.putfield 9, 3) := by decide +kernel
theorem dX0_init_12 : decode cX0_init 12 = .ok (.aload_n 0, 1) := by decide +kernel
theorem dX0_init_13 : decode cX0_init 13 = .ok (.bipush 8, 2) := by decide +kernel
theorem dX0_init_15 : decode cX0_init 15 = .ok (.newarray .int, 2) := by decide +kernel
theorem dX0_init_17 : decode cX0_init 17 = .ok (.putfield 15, 3) := by decide +kernel
theorem dX0_init_20 : decode cX0_init 20 = .ok (.aload_n 0, 1) := by decide +kernel
theorem dX0_init_21 : decode cX0_init 21 = .ok (.bipush 8, 2) := by decide +kernel
theorem dX0_init_23 : decode cX0_init 23 = .ok (.newarray .boolean, 2) := by decide +kernel
theorem dX0_init_25 : decode cX0_init 25 = .ok (.putfield 18, 3) := by decide +kernel
theorem dX0_init_28 : decode cX0_init 28 = .ok (.aload_n 0, 1) := by decide +kernel
theorem dX0_init_29 : decode cX0_init 29 = .ok (.bipush 32, 2) := by decide +kernel
theorem dX0_init_31 : decode cX0_init 31 = .ok (.newarray .int, 2) := by decide +kernel
theorem dX0_init_33 : decode cX0_init 33 = .ok (.putfield 22, 3) := by decide +kernel
theorem dX0_init_36 : decode cX0_init 36 = .ok (.aload_n 0, 1) := by decide +kernel
theorem dX0_init_37 : decode cX0_init 37 = .ok (.bipush 8, 2) := by decide +kernel
theorem dX0_init_39 : decode cX0_init 39 = .ok (.newarray .int, 2) := by decide +kernel
theorem dX0_init_41 : decode cX0_init 41 = .ok (.putfield 25, 3) := by decide +kernel
theorem dX0_init_44 : decode cX0_init 44 = .ok (.aload_n 0, 1) := by decide +kernel
theorem dX0_init_45 : decode cX0_init 45 = .ok (.bipush 64, 2) := by decide +kernel
theorem dX0_init_47 : decode cX0_init 47 = .ok (.newarray .int, 2) := by decide +kernel
theorem dX0_init_49 : decode cX0_init 49 = .ok (.putfield 28, 3) := by decide +kernel
theorem dX0_init_52 : decode cX0_init 52 = .ok (.aload_n 0, 1) := by decide +kernel
theorem dX0_init_53 : decode cX0_init 53 = .ok (.bipush 64, 2) := by decide +kernel
theorem dX0_init_55 : decode cX0_init 55 = .ok (.newarray .int, 2) := by decide +kernel
theorem dX0_init_57 : decode cX0_init 57 = .ok (.putfield 31, 3) := by decide +kernel
theorem dX0_init_60 : decode cX0_init 60 = .ok (.aload_n 0, 1) := by decide +kernel
theorem dX0_init_61 : decode cX0_init 61 = .ok (.bipush 64, 2) := by decide +kernel
theorem dX0_init_63 : decode cX0_init 63 = .ok (.newarray .int, 2) := by decide +kernel
theorem dX0_init_65 : decode cX0_init 65 = .ok (.putfield 34, 3) := by decide +kernel
theorem dX0_init_68 : decode cX0_init 68 = .ok (.aload_n 0, 1) := by decide +kernel
theorem dX0_init_69 : decode cX0_init 69 = .ok (.bipush 24, 2) := by decide +kernel
theorem dX0_init_71 : decode cX0_init 71 = .ok (.newarray .int, 2) := by decide +kernel
theorem dX0_init_73 : decode cX0_init 73 = .ok (.putfield 37, 3) := by decide +kernel
theorem dX0_init_76 : decode cX0_init 76 = .ok (.aload_n 0, 1) := by decide +kernel
theorem dX0_init_77 : decode cX0_init 77 = .ok (.bipush 24, 2) := by decide +kernel
theorem dX0_init_79 : decode cX0_init 79 = .ok (.newarray .int, 2) := by decide +kernel
theorem dX0_init_81 : decode cX0_init 81 = .ok (.putfield 40, 3) := by decide +kernel
theorem dX0_init_84 : decode cX0_init 84 = .ok (.aload_n 0, 1) := by decide +kernel
theorem dX0_init_85 : decode cX0_init 85 = .ok (.bipush 24, 2) := by decide +kernel
theorem dX0_init_87 : decode cX0_init 87 = .ok (.newarray .int, 2) := by decide +kernel
theorem dX0_init_89 : decode cX0_init 89 = .ok (.putfield 43, 3) := by decide +kernel
theorem dX0_init_92 : decode cX0_init 92 = .ok (.aload_n 0, 1) := by decide +kernel
theorem dX0_init_93 : decode cX0_init 93 = .ok (.sipush 192, 3) := by decide +kernel
theorem dX0_init_96 : decode cX0_init 96 = .ok (.newarray .int, 2) := by decide +kernel
theorem dX0_init_98 : decode cX0_init 98 = .ok (.putfield 46, 3) := by decide +kernel
theorem dX0_init_101 : decode cX0_init 101 = .ok (.return_, 1) := by decide +kernel
theorem dX0_isOne_0 : decode cX0_isOne 0 = .ok (.iload_n 1, 1) := by decide +kernel
theorem dX0_isOne_1 : decode cX0_isOne 1 = .ok (.ifCond .lt 21, 3) := by decide +kernel
theorem dX0_isOne_4 : decode cX0_isOne 4 = .ok (.iload_n 1, 1) := by decide +kernel
theorem dX0_isOne_5 : decode cX0_isOne 5 = .ok (.aload_n 0, 1) := by decide +kernel
theorem dX0_isOne_6 : decode cX0_isOne 6 = .ok (.getfield 49, 3) := by decide +kernel
theorem dX0_isOne_9 : decode cX0_isOne 9 = .ok (.if_icmp .ge 13, 3) := by decide +kernel
theorem dX0_isOne_12 : decode cX0_isOne 12 = .ok (.iload_n 1, 1) := by decide +kernel
theorem dX0_isOne_13 : decode cX0_isOne 13 = .ok (.bipush 8, 2) := by decide +kernel
theorem dX0_isOne_15 : decode cX0_isOne 15 = .ok (.if_icmp .ge 7, 3) := by decide +kernel
theorem dX0_isOne_18 : decode cX0_isOne 18 = .ok (.iconst 1, 1) := by decide +kernel
theorem dX0_isOne_19 : decode cX0_isOne 19 = .ok (.goto 4, 3) := by decide +kernel
theorem dX0_isOne_22 : decode cX0_isOne 22 = .ok (.iconst 0, 1) := by decide +kernel
theorem dX0_isOne_23 : decode cX0_isOne 23 = .ok (.ireturn, 1) := by decide +kernel
theorem dX0_isHere_0 : decode cX0_isHere 0 = .ok (.iload_n 1, 1) := by decide +kernel
theorem dX0_isHere_1 : decode cX0_isHere 1 = .ok (.ifCond .lt 22, 3) := by decide +kernel
theorem dX0_isHere_4 : decode cX0_isHere 4 = .ok (.iload_n 1, 1) := by decide +kernel
theorem dX0_isHere_5 : decode cX0_isHere 5 = .ok (.bipush 8, 2) := by decide +kernel
theorem dX0_isHere_7 : decode cX0_isHere 7 = .ok (.if_icmp .ge 16, 3) := by decide +kernel
theorem dX0_isHere_10 : decode cX0_isHere 10 = .ok (.aload_n 0, 1) := by decide +kernel
theorem dX0_isHere_11 : decode cX0_isHere 11 = .ok (.getfield 18, 3) := by decide +kernel
theorem dX0_isHere_14 : decode cX0_isHere 14 = .ok (.iload_n 1, 1) := by decide +kernel
theorem dX0_isHere_15 : decode cX0_isHere 15 = .ok (.baload, 1) := by decide +kernel
theorem dX0_isHere_16 : decode cX0_isHere 16 = .ok (.ifCond .eq 7, 3) := by decide +kernel
theorem dX0_isHere_19 : decode cX0_isHere 19 = .ok (.iconst 1, 1) := by decide +kernel
theorem dX0_isHere_20 : decode cX0_isHere 20 = .ok (.goto 4, 3) := by decide +kernel
theorem dX0_isHere_23 : decode cX0_isHere 23 = .ok (.iconst 0, 1) := by decide +kernel
theorem dX0_isHere_24 : decode cX0_isHere 24 = .ok (.ireturn, 1) := by decide +kernel
theorem dX0_isDuty_0 : decode cX0_isDuty 0 = .ok (.iload_n 1, 1) := by decide +kernel
theorem dX0_isDuty_1 : decode cX0_isDuty 1 = .ok (.ifCond .lt 21, 3) := by decide +kernel
theorem dX0_isDuty_4 : decode cX0_isDuty 4 = .ok (.iload_n 1, 1) := by decide +kernel
theorem dX0_isDuty_5 : decode cX0_isDuty 5 = .ok (.aload_n 0, 1) := by decide +kernel
theorem dX0_isDuty_6 : decode cX0_isDuty 6 = .ok (.getfield 53, 3) := by decide +kernel
theorem dX0_isDuty_9 : decode cX0_isDuty 9 = .ok (.if_icmp .ge 13, 3) := by decide +kernel
theorem dX0_isDuty_12 : decode cX0_isDuty 12 = .ok (.iload_n 1, 1) := by decide +kernel
theorem dX0_isDuty_13 : decode cX0_isDuty 13 = .ok (.bipush 24, 2) := by decide +kernel
theorem dX0_isDuty_15 : decode cX0_isDuty 15 = .ok (.if_icmp .ge 7, 3) := by decide +kernel
theorem dX0_isDuty_18 : decode cX0_isDuty 18 = .ok (.iconst 1, 1) := by decide +kernel
theorem dX0_isDuty_19 : decode cX0_isDuty 19 = .ok (.goto 4, 3) := by decide +kernel
theorem dX0_isDuty_22 : decode cX0_isDuty 22 = .ok (.iconst 0, 1) := by decide +kernel
theorem dX0_isDuty_23 : decode cX0_isDuty 23 = .ok (.ireturn, 1) := by decide +kernel
theorem dX0_countHere_0 : decode cX0_countHere 0 = .ok (.iconst 0, 1) := by decide +kernel
theorem dX0_countHere_1 : decode cX0_countHere 1 = .ok (.istore_n 1, 1) := by decide +kernel
theorem dX0_countHere_2 : decode cX0_countHere 2 = .ok (.iconst 0, 1) := by decide +kernel
theorem dX0_countHere_3 : decode cX0_countHere 3 = .ok (.istore_n 2, 1) := by decide +kernel
theorem dX0_countHere_4 : decode cX0_countHere 4 = .ok (.iload_n 2, 1) := by decide +kernel
theorem dX0_countHere_5 : decode cX0_countHere 5 = .ok (.aload_n 0, 1) := by decide +kernel
theorem dX0_countHere_6 : decode cX0_countHere 6 = .ok (.getfield 49, 3) := by decide +kernel
theorem dX0_countHere_9 : decode cX0_countHere 9 = .ok (.if_icmp .ge 20, 3) := by decide +kernel
theorem dX0_countHere_12 : decode cX0_countHere 12 = .ok (.aload_n 0, 1) := by decide +kernel
theorem dX0_countHere_13 : decode cX0_countHere 13 = .ok (.iload_n 2, 1) := by decide +kernel
theorem dX0_countHere_14 : decode cX0_countHere 14 = .ok (.invokevirtual 56, 3) := by decide +kernel
theorem dX0_countHere_17 : decode cX0_countHere 17 = .ok (.ifCond .eq 6, 3) := by decide +kernel
theorem dX0_countHere_20 : decode cX0_countHere 20 = .ok (.iinc 1 1, 3) := by decide +kernel
theorem dX0_countHere_23 : decode cX0_countHere 23 = .ok (.iinc 2 1, 3) := by decide +kernel
theorem dX0_countHere_26 : decode cX0_countHere 26 = .ok (.goto (-22), 3) := by decide +kernel
theorem dX0_countHere_29 : decode cX0_countHere 29 = .ok (.iload_n 1, 1) := by decide +kernel
theorem dX0_countHere_30 : decode cX0_countHere 30 = .ok (.ireturn, 1) := by decide +kernel
theorem dX0_addOne_0 : decode cX0_addOne 0 = .ok (.aload_n 0, 1) := by decide +kernel
theorem dX0_addOne_1 : decode cX0_addOne 1 = .ok (.getfield 49, 3) := by decide +kernel
theorem dX0_addOne_4 : decode cX0_addOne 4 = .ok (.istore_n 2, 1) := by decide +kernel
theorem dX0_addOne_5 : decode cX0_addOne 5 = .ok (.iload_n 2, 1) := by decide +kernel
theorem dX0_addOne_6 : decode cX0_addOne 6 = .ok (.ifCond .lt 9, 3) := by decide +kernel
theorem dX0_addOne_9 : decode cX0_addOne 9 = .ok (.iload_n 2, 1) := by decide +kernel
theorem dX0_addOne_10 : decode cX0_addOne 10 = .ok (.bipush 8, 2) := by decide +kernel
theorem dX0_addOne_12 : decode cX0_addOne 12 = .ok (.if_icmp .lt 6, 3) := by decide +kernel
theorem dX0_addOne_15 : decode cX0_addOne 15 = .ok (.bipush (-4), 2) := by decide +kernel
theorem dX0_addOne_17 : decode cX0_addOne 17 = .ok (.ireturn, 1) := by decide +kernel
theorem dX0_addOne_18 : decode cX0_addOne 18 = .ok (.aload_n 0, 1) := by decide +kernel
theorem dX0_addOne_19 : decode cX0_addOne 19 = .ok (.getfield 15, 3) := by decide +kernel
theorem dX0_addOne_22 : decode cX0_addOne 22 = .ok (.iload_n 2, 1) := by decide +kernel
theorem dX0_addOne_23 : decode cX0_addOne 23 = .ok (.iload_n 1, 1) := by decide +kernel
theorem dX0_addOne_24 : decode cX0_addOne 24 = .ok (.iastore, 1) := by decide +kernel
theorem dX0_addOne_25 : decode cX0_addOne 25 = .ok (.aload_n 0, 1) := by decide +kernel
theorem dX0_addOne_26 : decode cX0_addOne 26 = .ok (.getfield 25, 3) := by decide +kernel
theorem dX0_addOne_29 : decode cX0_addOne 29 = .ok (.iload_n 2, 1) := by decide +kernel
theorem dX0_addOne_30 : decode cX0_addOne 30 = .ok (.iconst 0, 1) := by decide +kernel
theorem dX0_addOne_31 : decode cX0_addOne 31 = .ok (.iastore, 1) := by decide +kernel
theorem dX0_addOne_32 : decode cX0_addOne 32 = .ok (.iconst 0, 1) := by decide +kernel
theorem dX0_addOne_33 : decode cX0_addOne 33 = .ok (.istore_n 3, 1) := by decide +kernel
theorem dX0_addOne_34 : decode cX0_addOne 34 = .ok (.iload_n 3, 1) := by decide +kernel
theorem dX0_addOne_35 : decode cX0_addOne 35 = .ok (.iconst 4, 1) := by decide +kernel
theorem dX0_addOne_36 : decode cX0_addOne 36 = .ok (.if_icmp .ge 24, 3) := by decide +kernel
theorem dX0_addOne_39 : decode cX0_addOne 39 = .ok (.aload_n 0, 1) := by decide +kernel
theorem dX0_addOne_40 : decode cX0_addOne 40 = .ok (.getfield 22, 3) := by decide +kernel
theorem dX0_addOne_43 : decode cX0_addOne 43 = .ok (.iload_n 2, 1) := by decide +kernel
theorem dX0_addOne_44 : decode cX0_addOne 44 = .ok (.iconst 4, 1) := by decide +kernel
theorem dX0_addOne_45 : decode cX0_addOne 45 = .ok (.imul, 1) := by decide +kernel
theorem dX0_addOne_46 : decode cX0_addOne 46 = .ok (.iload_n 3, 1) := by decide +kernel
theorem dX0_addOne_47 : decode cX0_addOne 47 = .ok (.iadd, 1) := by decide +kernel
theorem dX0_addOne_48 : decode cX0_addOne 48 = .ok (.aload_n 0, 1) := by decide +kernel
theorem dX0_addOne_49 : decode cX0_addOne 49 = .ok (.iload_n 3, 1) := by decide +kernel
theorem dX0_addOne_50 : decode cX0_addOne 50 = .ok (.invokevirtual 60, 3) := by decide +kernel
theorem dX0_addOne_53 : decode cX0_addOne 53 = .ok (.iastore, 1) := by decide +kernel
theorem dX0_addOne_54 : decode cX0_addOne 54 = .ok (.iinc 3 1, 3) := by decide +kernel
theorem dX0_addOne_57 : decode cX0_addOne 57 = .ok (.goto (-23), 3) := by decide +kernel
theorem dX0_addOne_60 : decode cX0_addOne 60 = .ok (.iconst 0, 1) := by decide +kernel
theorem dX0_addOne_61 : decode cX0_addOne 61 = .ok (.istore_n 3, 1) := by decide +kernel
theorem dX0_addOne_62 : decode cX0_addOne 62 = .ok (.iload_n 3, 1) := by decide +kernel
theorem dX0_addOne_63 : decode cX0_addOne 63 = .ok (.bipush 24, 2) := by decide +kernel
theorem dX0_addOne_65 : decode cX0_addOne 65 = .ok (.if_icmp .ge 21, 3) := by decide +kernel
theorem dX0_addOne_68 : decode cX0_addOne 68 = .ok (.aload_n 0, 1) := by decide +kernel
theorem dX0_addOne_69 : decode cX0_addOne 69 = .ok (.getfield 46, 3) := by decide +kernel
theorem dX0_addOne_72 : decode cX0_addOne 72 = .ok (.iload_n 2, 1) := by decide +kernel
theorem dX0_addOne_73 : decode cX0_addOne 73 = .ok (.bipush 24, 2) := by decide +kernel
theorem dX0_addOne_75 : decode cX0_addOne 75 = .ok (.imul, 1) := by decide +kernel
theorem dX0_addOne_76 : decode cX0_addOne 76 = .ok (.iload_n 3, 1) := by decide +kernel
theorem dX0_addOne_77 : decode cX0_addOne 77 = .ok (.iadd, 1) := by decide +kernel
theorem dX0_addOne_78 : decode cX0_addOne 78 = .ok (.iconst 0, 1) := by decide +kernel
theorem dX0_addOne_79 : decode cX0_addOne 79 = .ok (.iastore, 1) := by decide +kernel
theorem dX0_addOne_80 : decode cX0_addOne 80 = .ok (.iinc 3 1, 3) := by decide +kernel
theorem dX0_addOne_83 : decode cX0_addOne 83 = .ok (.goto (-21), 3) := by decide +kernel
theorem dX0_addOne_86 : decode cX0_addOne 86 = .ok (.aload_n 0, 1) := by decide +kernel
theorem dX0_addOne_87 : decode cX0_addOne 87 = .ok (.getfield 18, 3) := by decide +kernel
theorem dX0_addOne_90 : decode cX0_addOne 90 = .ok (.iload_n 2, 1) := by decide +kernel
theorem dX0_addOne_91 : decode cX0_addOne 91 = .ok (.iconst 1, 1) := by decide +kernel
theorem dX0_addOne_92 : decode cX0_addOne 92 = .ok (.bastore, 1) := by decide +kernel
theorem dX0_addOne_93 : decode cX0_addOne 93 = .ok (.aload_n 0, 1) := by decide +kernel
theorem dX0_addOne_94 : decode cX0_addOne 94 = .ok (.dup, 1) := by decide +kernel
theorem dX0_addOne_95 : decode cX0_addOne 95 = .ok (.getfield 49, 3) := by decide +kernel
theorem dX0_addOne_98 : decode cX0_addOne 98 = .ok (.iconst 1, 1) := by decide +kernel
theorem dX0_addOne_99 : decode cX0_addOne 99 = .ok (.iadd, 1) := by decide +kernel
theorem dX0_addOne_100 : decode cX0_addOne 100 = .ok (.putfield 49, 3) := by decide +kernel
theorem dX0_addOne_103 : decode cX0_addOne 103 = .ok (.iload_n 2, 1) := by decide +kernel
theorem dX0_addOne_104 : decode cX0_addOne 104 = .ok (.ireturn, 1) := by decide +kernel
theorem dX0_leave_0 : decode cX0_leave 0 = .ok (.aload_n 0, 1) := by decide +kernel
theorem dX0_leave_1 : decode cX0_leave 1 = .ok (.iload_n 1, 1) := by decide +kernel
theorem dX0_leave_2 : decode cX0_leave 2 = .ok (.invokevirtual 64, 3) := by decide +kernel
theorem dX0_leave_5 : decode cX0_leave 5 = .ok (.ifCond .ne 4, 3) := by decide +kernel
theorem dX0_leave_8 : decode cX0_leave 8 = .ok (.return_, 1) := by decide +kernel
theorem dX0_leave_9 : decode cX0_leave 9 = .ok (.aload_n 0, 1) := by decide +kernel
theorem dX0_leave_10 : decode cX0_leave 10 = .ok (.getfield 18, 3) := by decide +kernel
theorem dX0_leave_13 : decode cX0_leave 13 = .ok (.iload_n 1, 1) := by decide +kernel
theorem dX0_leave_14 : decode cX0_leave 14 = .ok (.iconst 0, 1) := by decide +kernel
theorem dX0_leave_15 : decode cX0_leave 15 = .ok (.bastore, 1) := by decide +kernel
theorem dX0_leave_16 : decode cX0_leave 16 = .ok (.aload_n 0, 1) := by decide +kernel
theorem dX0_leave_17 : decode cX0_leave 17 = .ok (.iload_n 1, 1) := by decide +kernel
theorem dX0_leave_18 : decode cX0_leave 18 = .ok (.invokevirtual 67, 3) := by decide +kernel
theorem dX0_leave_21 : decode cX0_leave 21 = .ok (.return_, 1) := by decide +kernel
theorem dX0_openWhatMayNotBeHeldBy_0 : decode cX0_openWhatMayNotBeHeldBy 0 = .ok (.iconst 0, 1) := by decide +kernel
theorem dX0_openWhatMayNotBeHeldBy_1 : decode cX0_openWhatMayNotBeHeldBy 1 = .ok (.istore_n 2, 1) := by decide +kernel
theorem dX0_openWhatMayNotBeHeldBy_2 : decode cX0_openWhatMayNotBeHeldBy 2 = .ok (.iload_n 2, 1) := by decide +kernel
theorem dX0_openWhatMayNotBeHeldBy_3 : decode cX0_openWhatMayNotBeHeldBy 3 = .ok (.aload_n 0, 1) := by decide +kernel
theorem dX0_openWhatMayNotBeHeldBy_4 : decode cX0_openWhatMayNotBeHeldBy 4 = .ok (.getfield 53, 3) := by decide +kernel
theorem dX0_openWhatMayNotBeHeldBy_7 : decode cX0_openWhatMayNotBeHeldBy 7 = .ok (.if_icmp .ge 33, 3) := by decide +kernel
theorem dX0_openWhatMayNotBeHeldBy_10 : decode cX0_openWhatMayNotBeHeldBy 10 = .ok (.aload_n 0, 1) := by decide +kernel
theorem dX0_openWhatMayNotBeHeldBy_11 : decode cX0_openWhatMayNotBeHeldBy 11 = .ok (.iload_n 2, 1) := by decide +kernel
theorem dX0_openWhatMayNotBeHeldBy_12 : decode cX0_openWhatMayNotBeHeldBy 12 = .ok (.invokevirtual 71, 3) := by decide +kernel
theorem dX0_openWhatMayNotBeHeldBy_15 : decode cX0_openWhatMayNotBeHeldBy 15 = .ok (.iload_n 1, 1) := by decide +kernel
theorem dX0_openWhatMayNotBeHeldBy_16 : decode cX0_openWhatMayNotBeHeldBy 16 = .ok (.if_icmp .ne 18, 3) := by decide +kernel
theorem dX0_openWhatMayNotBeHeldBy_19 : decode cX0_openWhatMayNotBeHeldBy 19 = .ok (.aload_n 0, 1) := by decide +kernel
theorem dX0_openWhatMayNotBeHeldBy_20 : decode cX0_openWhatMayNotBeHeldBy 20 = .ok (.iload_n 1, 1) := by decide +kernel
theorem dX0_openWhatMayNotBeHeldBy_21 : decode cX0_openWhatMayNotBeHeldBy 21 = .ok (.iload_n 2, 1) := by decide +kernel
theorem dX0_openWhatMayNotBeHeldBy_22 : decode cX0_openWhatMayNotBeHeldBy 22 = .ok (.invokevirtual 74, 3) := by decide +kernel
theorem dX0_openWhatMayNotBeHeldBy_25 : decode cX0_openWhatMayNotBeHeldBy 25 = .ok (.ifCond .ne 9, 3) := by decide +kernel
theorem dX0_openWhatMayNotBeHeldBy_28 : decode cX0_openWhatMayNotBeHeldBy 28 = .ok (.aload_n 0, 1) := by decide +kernel
theorem dX0_openWhatMayNotBeHeldBy_29 : decode cX0_openWhatMayNotBeHeldBy 29 = .ok (.iload_n 2, 1) := by decide +kernel
theorem dX0_openWhatMayNotBeHeldBy_30 : decode cX0_openWhatMayNotBeHeldBy 30 = .ok (.iconst (-1), 1) := by decide +kernel
theorem dX0_openWhatMayNotBeHeldBy_31 : decode cX0_openWhatMayNotBeHeldBy 31 = .ok (.invokevirtual 78, 3) := by decide +kernel
theorem dX0_openWhatMayNotBeHeldBy_34 : decode cX0_openWhatMayNotBeHeldBy 34 = .ok (.iinc 2 1, 3) := by decide +kernel
theorem dX0_openWhatMayNotBeHeldBy_37 : decode cX0_openWhatMayNotBeHeldBy 37 = .ok (.goto (-35), 3) := by decide +kernel
theorem dX0_openWhatMayNotBeHeldBy_40 : decode cX0_openWhatMayNotBeHeldBy 40 = .ok (.return_, 1) := by decide +kernel
theorem dX0_neutralPast_0 : decode cX0_neutralPast 0 = .ok (.iconst 0, 1) := by decide +kernel
theorem dX0_neutralPast_1 : decode cX0_neutralPast 1 = .ok (.istore_n 2, 1) := by decide +kernel
theorem dX0_neutralPast_2 : decode cX0_neutralPast 2 = .ok (.iconst 0, 1) := by decide +kernel
theorem dX0_neutralPast_3 : decode cX0_neutralPast 3 = .ok (.istore_n 3, 1) := by decide +kernel
theorem dX0_neutralPast_4 : decode cX0_neutralPast 4 = .ok (.iconst 0, 1) := by decide +kernel
theorem dX0_neutralPast_5 : decode cX0_neutralPast 5 = .ok (.istore 4, 2) := by decide +kernel
theorem dX0_neutralPast_7 : decode cX0_neutralPast 7 = .ok (.iload 4, 2) := by decide +kernel
theorem dX0_neutralPast_9 : decode cX0_neutralPast 9 = .ok (.aload_n 0, 1) := by decide +kernel
theorem dX0_neutralPast_10 : decode cX0_neutralPast 10 = .ok (.getfield 49, 3) := by decide +kernel
theorem dX0_neutralPast_13 : decode cX0_neutralPast 13 = .ok (.if_icmp .ge 34, 3) := by decide +kernel
theorem dX0_neutralPast_16 : decode cX0_neutralPast 16 = .ok (.aload_n 0, 1) := by decide +kernel
theorem dX0_neutralPast_17 : decode cX0_neutralPast 17 = .ok (.iload 4, 2) := by decide +kernel
theorem dX0_neutralPast_19 : decode cX0_neutralPast 19 = .ok (.invokevirtual 56, 3) := by decide +kernel
theorem dX0_neutralPast_22 : decode cX0_neutralPast 22 = .ok (.ifCond .ne 6, 3) := by decide +kernel
theorem dX0_neutralPast_25 : decode cX0_neutralPast 25 = .ok (.goto 16, 3) := by decide +kernel
theorem dX0_neutralPast_28 : decode cX0_neutralPast 28 = .ok (.iload_n 2, 1) := by decide +kernel
theorem dX0_neutralPast_29 : decode cX0_neutralPast 29 = .ok (.aload_n 0, 1) := by decide +kernel
theorem dX0_neutralPast_30 : decode cX0_neutralPast 30 = .ok (.iload 4, 2) := by decide +kernel
theorem dX0_neutralPast_32 : decode cX0_neutralPast 32 = .ok (.iload_n 1, 1) := by decide +kernel
theorem dX0_neutralPast_33 : decode cX0_neutralPast 33 = .ok (.invokevirtual 82, 3) := by decide +kernel
theorem dX0_neutralPast_36 : decode cX0_neutralPast 36 = .ok (.iadd, 1) := by decide +kernel
theorem dX0_neutralPast_37 : decode cX0_neutralPast 37 = .ok (.istore_n 2, 1) := by decide +kernel
theorem dX0_neutralPast_38 : decode cX0_neutralPast 38 = .ok (.iinc 3 1, 3) := by decide +kernel
theorem dX0_neutralPast_41 : decode cX0_neutralPast 41 = .ok (.iinc 4 1, 3) := by decide +kernel
theorem dX0_neutralPast_44 : decode cX0_neutralPast 44 = .ok (.goto (-37), 3) := by decide +kernel
theorem dX0_neutralPast_47 : decode cX0_neutralPast 47 = .ok (.iload_n 3, 1) := by decide +kernel
theorem dX0_neutralPast_48 : decode cX0_neutralPast 48 = .ok (.ifCond .ne 7, 3) := by decide +kernel
theorem dX0_neutralPast_51 : decode cX0_neutralPast 51 = .ok (.iconst 0, 1) := by decide +kernel
theorem dX0_neutralPast_52 : decode cX0_neutralPast 52 = .ok (.goto 6, 3) := by decide +kernel
theorem dX0_neutralPast_55 : decode cX0_neutralPast 55 = .ok (.iload_n 2, 1) := by decide +kernel
theorem dX0_neutralPast_56 : decode cX0_neutralPast 56 = .ok (.iload_n 3, 1) := by decide +kernel
theorem dX0_neutralPast_57 : decode cX0_neutralPast 57 = .ok (.idiv, 1) := by decide +kernel
theorem dX0_neutralPast_58 : decode cX0_neutralPast 58 = .ok (.ireturn, 1) := by decide +kernel
theorem dX0_rankOf_0 : decode cX0_rankOf 0 = .ok (.aload_n 0, 1) := by decide +kernel
theorem dX0_rankOf_1 : decode cX0_rankOf 1 = .ok (.iload_n 1, 1) := by decide +kernel
theorem dX0_rankOf_2 : decode cX0_rankOf 2 = .ok (.invokevirtual 64, 3) := by decide +kernel
theorem dX0_rankOf_5 : decode cX0_rankOf 5 = .ok (.ifCond .eq 12, 3) := by decide +kernel
theorem dX0_rankOf_8 : decode cX0_rankOf 8 = .ok (.aload_n 0, 1) := by decide +kernel
theorem dX0_rankOf_9 : decode cX0_rankOf 9 = .ok (.getfield 15, 3) := by decide +kernel
theorem dX0_rankOf_12 : decode cX0_rankOf 12 = .ok (.iload_n 1, 1) := by decide +kernel
theorem dX0_rankOf_13 : decode cX0_rankOf 13 = .ok (.iaload, 1) := by decide +kernel
theorem dX0_rankOf_14 : decode cX0_rankOf 14 = .ok (.goto 4, 3) := by decide +kernel
theorem dX0_rankOf_17 : decode cX0_rankOf 17 = .ok (.iconst (-1), 1) := by decide +kernel
theorem dX0_rankOf_18 : decode cX0_rankOf 18 = .ok (.ireturn, 1) := by decide +kernel
theorem dX0_pastOf_0 : decode cX0_pastOf 0 = .ok (.aload_n 0, 1) := by decide +kernel
theorem dX0_pastOf_1 : decode cX0_pastOf 1 = .ok (.iload_n 1, 1) := by decide +kernel
theorem dX0_pastOf_2 : decode cX0_pastOf 2 = .ok (.invokevirtual 64, 3) := by decide +kernel
theorem dX0_pastOf_5 : decode cX0_pastOf 5 = .ok (.ifCond .eq 23, 3) := by decide +kernel
theorem dX0_pastOf_8 : decode cX0_pastOf 8 = .ok (.iload_n 2, 1) := by decide +kernel
theorem dX0_pastOf_9 : decode cX0_pastOf 9 = .ok (.invokestatic 86, 3) := by decide +kernel
theorem dX0_pastOf_12 : decode cX0_pastOf 12 = .ok (.ifCond .eq 16, 3) := by decide +kernel
theorem dX0_pastOf_15 : decode cX0_pastOf 15 = .ok (.aload_n 0, 1) := by decide +kernel
theorem dX0_pastOf_16 : decode cX0_pastOf 16 = .ok (.getfield 22, 3) := by decide +kernel
theorem dX0_pastOf_19 : decode cX0_pastOf 19 = .ok (.iload_n 1, 1) := by decide +kernel
theorem dX0_pastOf_20 : decode cX0_pastOf 20 = .ok (.iconst 4, 1) := by decide +kernel
theorem dX0_pastOf_21 : decode cX0_pastOf 21 = .ok (.imul, 1) := by decide +kernel
theorem dX0_pastOf_22 : decode cX0_pastOf 22 = .ok (.iload_n 2, 1) := by decide +kernel
theorem dX0_pastOf_23 : decode cX0_pastOf 23 = .ok (.iadd, 1) := by decide +kernel
theorem dX0_pastOf_24 : decode cX0_pastOf 24 = .ok (.iaload, 1) := by decide +kernel
theorem dX0_pastOf_25 : decode cX0_pastOf 25 = .ok (.goto 4, 3) := by decide +kernel
theorem dX0_pastOf_28 : decode cX0_pastOf 28 = .ok (.iconst 0, 1) := by decide +kernel
theorem dX0_pastOf_29 : decode cX0_pastOf 29 = .ok (.ireturn, 1) := by decide +kernel
theorem dX0_putPast_0 : decode cX0_putPast 0 = .ok (.aload_n 0, 1) := by decide +kernel
theorem dX0_putPast_1 : decode cX0_putPast 1 = .ok (.iload_n 1, 1) := by decide +kernel
theorem dX0_putPast_2 : decode cX0_putPast 2 = .ok (.invokevirtual 64, 3) := by decide +kernel
theorem dX0_putPast_5 : decode cX0_putPast 5 = .ok (.ifCond .eq 21, 3) := by decide +kernel
theorem dX0_putPast_8 : decode cX0_putPast 8 = .ok (.iload_n 2, 1) := by decide +kernel
theorem dX0_putPast_9 : decode cX0_putPast 9 = .ok (.invokestatic 86, 3) := by decide +kernel
theorem dX0_putPast_12 : decode cX0_putPast 12 = .ok (.ifCond .eq 14, 3) := by decide +kernel
theorem dX0_putPast_15 : decode cX0_putPast 15 = .ok (.aload_n 0, 1) := by decide +kernel
theorem dX0_putPast_16 : decode cX0_putPast 16 = .ok (.getfield 22, 3) := by decide +kernel
theorem dX0_putPast_19 : decode cX0_putPast 19 = .ok (.iload_n 1, 1) := by decide +kernel
theorem dX0_putPast_20 : decode cX0_putPast 20 = .ok (.iconst 4, 1) := by decide +kernel
theorem dX0_putPast_21 : decode cX0_putPast 21 = .ok (.imul, 1) := by decide +kernel
theorem dX0_putPast_22 : decode cX0_putPast 22 = .ok (.iload_n 2, 1) := by decide +kernel
theorem dX0_putPast_23 : decode cX0_putPast 23 = .ok (.iadd, 1) := by decide +kernel
theorem dX0_putPast_24 : decode cX0_putPast 24 = .ok (.iload_n 3, 1) := by decide +kernel
theorem dX0_putPast_25 : decode cX0_putPast 25 = .ok (.iastore, 1) := by decide +kernel
theorem dX0_putPast_26 : decode cX0_putPast 26 = .ok (.return_, 1) := by decide +kernel
theorem dX0_headOf_0 : decode cX0_headOf 0 = .ok (.aload_n 0, 1) := by decide +kernel
theorem dX0_headOf_1 : decode cX0_headOf 1 = .ok (.iload_n 1, 1) := by decide +kernel
theorem dX0_headOf_2 : decode cX0_headOf 2 = .ok (.invokevirtual 64, 3) := by decide +kernel
theorem dX0_headOf_5 : decode cX0_headOf 5 = .ok (.ifCond .ne 5, 3) := by decide +kernel
theorem dX0_headOf_8 : decode cX0_headOf 8 = .ok (.iconst 0, 1) := by decide +kernel
theorem dX0_headOf_9 : decode cX0_headOf 9 = .ok (.ireturn, 1) := by decide +kernel
theorem dX0_headOf_10 : decode cX0_headOf 10 = .ok (.aload_n 0, 1) := by decide +kernel
theorem dX0_headOf_11 : decode cX0_headOf 11 = .ok (.getfield 15, 3) := by decide +kernel
theorem dX0_headOf_14 : decode cX0_headOf 14 = .ok (.iload_n 1, 1) := by decide +kernel
theorem dX0_headOf_15 : decode cX0_headOf 15 = .ok (.iaload, 1) := by decide +kernel
theorem dX0_headOf_16 : decode cX0_headOf 16 = .ok (.iconst 3, 1) := by decide +kernel
theorem dX0_headOf_17 : decode cX0_headOf 17 = .ok (.if_icmp .ne 5, 3) := by decide +kernel
theorem dX0_headOf_20 : decode cX0_headOf 20 = .ok (.iconst 2, 1) := by decide +kernel
theorem dX0_headOf_21 : decode cX0_headOf 21 = .ok (.ireturn, 1) := by decide +kernel
theorem dX0_headOf_22 : decode cX0_headOf 22 = .ok (.aload_n 0, 1) := by decide +kernel
theorem dX0_headOf_23 : decode cX0_headOf 23 = .ok (.getfield 15, 3) := by decide +kernel
theorem dX0_headOf_26 : decode cX0_headOf 26 = .ok (.iload_n 1, 1) := by decide +kernel
theorem dX0_headOf_27 : decode cX0_headOf 27 = .ok (.iaload, 1) := by decide +kernel
theorem dX0_headOf_28 : decode cX0_headOf 28 = .ok (.iconst 2, 1) := by decide +kernel
theorem dX0_headOf_29 : decode cX0_headOf 29 = .ok (.if_icmp .ne 16, 3) := by decide +kernel
theorem dX0_headOf_32 : decode cX0_headOf 32 = .ok (.iload_n 2, 1) := by decide +kernel
theorem dX0_headOf_33 : decode cX0_headOf 33 = .ok (.ifCond .eq 8, 3) := by decide +kernel
theorem dX0_headOf_36 : decode cX0_headOf 36 = .ok (.iload_n 2, 1) := by decide +kernel
theorem dX0_headOf_37 : decode cX0_headOf 37 = .ok (.iconst 1, 1) := by decide +kernel
theorem dX0_headOf_38 : decode cX0_headOf 38 = .ok (.if_icmp .ne 7, 3) := by decide +kernel
theorem dX0_headOf_41 : decode cX0_headOf 41 = .ok (.iconst 1, 1) := by decide +kernel
theorem dX0_headOf_42 : decode cX0_headOf 42 = .ok (.goto 4, 3) := by decide +kernel
theorem dX0_headOf_45 : decode cX0_headOf 45 = .ok (.iconst 0, 1) := by decide +kernel
theorem dX0_headOf_46 : decode cX0_headOf 46 = .ok (.ireturn, 1) := by decide +kernel
theorem dX0_loadOf_0 : decode cX0_loadOf 0 = .ok (.aload_n 0, 1) := by decide +kernel
theorem dX0_loadOf_1 : decode cX0_loadOf 1 = .ok (.aload_n 0, 1) := by decide +kernel
theorem dX0_loadOf_2 : decode cX0_loadOf 2 = .ok (.getfield 9, 3) := by decide +kernel
theorem dX0_loadOf_5 : decode cX0_loadOf 5 = .ok (.iload_n 1, 1) := by decide +kernel
theorem dX0_loadOf_6 : decode cX0_loadOf 6 = .ok (.iload_n 2, 1) := by decide +kernel
theorem dX0_loadOf_7 : decode cX0_loadOf 7 = .ok (.invokevirtual 89, 3) := by decide +kernel
theorem dX0_loadOf_10 : decode cX0_loadOf 10 = .ok (.ireturn, 1) := by decide +kernel
theorem dX0_loadBy_0 : decode cX0_loadBy 0 = .ok (.aload_n 0, 1) := by decide +kernel
theorem dX0_loadBy_1 : decode cX0_loadBy 1 = .ok (.iload_n 2, 1) := by decide +kernel
theorem dX0_loadBy_2 : decode cX0_loadBy 2 = .ok (.iload_n 3, 1) := by decide +kernel
theorem dX0_loadBy_3 : decode cX0_loadBy 3 = .ok (.invokevirtual 82, 3) := by decide +kernel
theorem dX0_loadBy_6 : decode cX0_loadBy 6 = .ok (.aload_n 0, 1) := by decide +kernel
theorem dX0_loadBy_7 : decode cX0_loadBy 7 = .ok (.iload_n 2, 1) := by decide +kernel
theorem dX0_loadBy_8 : decode cX0_loadBy 8 = .ok (.iload_n 3, 1) := by decide +kernel
theorem dX0_loadBy_9 : decode cX0_loadBy 9 = .ok (.invokevirtual 93, 3) := by decide +kernel
theorem dX0_loadBy_12 : decode cX0_loadBy 12 = .ok (.iadd, 1) := by decide +kernel
theorem dX0_loadBy_13 : decode cX0_loadBy 13 = .ok (.aload_n 0, 1) := by decide +kernel
theorem dX0_loadBy_14 : decode cX0_loadBy 14 = .ok (.aload_n 1, 1) := by decide +kernel
theorem dX0_loadBy_15 : decode cX0_loadBy 15 = .ok (.iload_n 2, 1) := by decide +kernel
theorem dX0_loadBy_16 : decode cX0_loadBy 16 = .ok (.iload_n 3, 1) := by decide +kernel
theorem dX0_loadBy_17 : decode cX0_loadBy 17 = .ok (.invokevirtual 96, 3) := by decide +kernel
theorem dX0_loadBy_20 : decode cX0_loadBy 20 = .ok (.iadd, 1) := by decide +kernel
theorem dX0_loadBy_21 : decode cX0_loadBy 21 = .ok (.ireturn, 1) := by decide +kernel
theorem dX0_countHeld_0 : decode cX0_countHeld 0 = .ok (.iconst 0, 1) := by decide +kernel
theorem dX0_countHeld_1 : decode cX0_countHeld 1 = .ok (.istore 4, 2) := by decide +kernel
theorem dX0_countHeld_3 : decode cX0_countHeld 3 = .ok (.iconst 0, 1) := by decide +kernel
theorem dX0_countHeld_4 : decode cX0_countHeld 4 = .ok (.istore 5, 2) := by decide +kernel
theorem dX0_countHeld_6 : decode cX0_countHeld 6 = .ok (.iload 5, 2) := by decide +kernel
theorem dX0_countHeld_8 : decode cX0_countHeld 8 = .ok (.aload_n 0, 1) := by decide +kernel
theorem dX0_countHeld_9 : decode cX0_countHeld 9 = .ok (.getfield 53, 3) := by decide +kernel
theorem dX0_countHeld_12 : decode cX0_countHeld 12 = .ok (.if_icmp .ge 48, 3) := by decide +kernel
theorem dX0_countHeld_15 : decode cX0_countHeld 15 = .ok (.iload 5, 2) := by decide +kernel
theorem dX0_countHeld_17 : decode cX0_countHeld 17 = .ok (.aload_n 0, 1) := by decide +kernel
theorem dX0_countHeld_18 : decode cX0_countHeld 18 = .ok (.getfield 40, 3) := by decide +kernel
theorem dX0_countHeld_21 : decode cX0_countHeld 21 = .ok (.arraylength, 1) := by decide +kernel
theorem dX0_countHeld_22 : decode cX0_countHeld 22 = .ok (.if_icmp .ge 38, 3) := by decide +kernel
theorem dX0_countHeld_25 : decode cX0_countHeld 25 = .ok (.iload 5, 2) := by decide +kernel
theorem dX0_countHeld_27 : decode cX0_countHeld 27 = .ok (.aload_n 1, 1) := by decide +kernel
theorem dX0_countHeld_28 : decode cX0_countHeld 28 = .ok (.arraylength, 1) := by decide +kernel
theorem dX0_countHeld_29 : decode cX0_countHeld 29 = .ok (.if_icmp .ge 31, 3) := by decide +kernel
theorem dX0_countHeld_32 : decode cX0_countHeld 32 = .ok (.aload_n 0, 1) := by decide +kernel
theorem dX0_countHeld_33 : decode cX0_countHeld 33 = .ok (.getfield 40, 3) := by decide +kernel
theorem dX0_countHeld_36 : decode cX0_countHeld 36 = .ok (.iload 5, 2) := by decide +kernel
theorem dX0_countHeld_38 : decode cX0_countHeld 38 = .ok (.iaload, 1) := by decide +kernel
theorem dX0_countHeld_39 : decode cX0_countHeld 39 = .ok (.iload_n 3, 1) := by decide +kernel
theorem dX0_countHeld_40 : decode cX0_countHeld 40 = .ok (.if_icmp .ne 14, 3) := by decide +kernel
theorem dX0_countHeld_43 : decode cX0_countHeld 43 = .ok (.aload_n 1, 1) := by decide +kernel
theorem dX0_countHeld_44 : decode cX0_countHeld 44 = .ok (.iload 5, 2) := by decide +kernel
theorem dX0_countHeld_46 : decode cX0_countHeld 46 = .ok (.iaload, 1) := by decide +kernel
theorem dX0_countHeld_47 : decode cX0_countHeld 47 = .ok (.iload_n 2, 1) := by decide +kernel
theorem dX0_countHeld_48 : decode cX0_countHeld 48 = .ok (.if_icmp .ne 6, 3) := by decide +kernel
theorem dX0_countHeld_51 : decode cX0_countHeld 51 = .ok (.iinc 4 1, 3) := by decide +kernel
theorem dX0_countHeld_54 : decode cX0_countHeld 54 = .ok (.iinc 5 1, 3) := by decide +kernel
theorem dX0_countHeld_57 : decode cX0_countHeld 57 = .ok (.goto (-51), 3) := by decide +kernel
theorem dX0_countHeld_60 : decode cX0_countHeld 60 = .ok (.iload 4, 2) := by decide +kernel
theorem dX0_countHeld_62 : decode cX0_countHeld 62 = .ok (.ireturn, 1) := by decide +kernel
theorem dX0_countHeldBy_0 : decode cX0_countHeldBy 0 = .ok (.iconst 0, 1) := by decide +kernel
theorem dX0_countHeldBy_1 : decode cX0_countHeldBy 1 = .ok (.istore_n 2, 1) := by decide +kernel
theorem dX0_countHeldBy_2 : decode cX0_countHeldBy 2 = .ok (.iconst 0, 1) := by decide +kernel
theorem dX0_countHeldBy_3 : decode cX0_countHeldBy 3 = .ok (.istore_n 3, 1) := by decide +kernel
theorem dX0_countHeldBy_4 : decode cX0_countHeldBy 4 = .ok (.iload_n 3, 1) := by decide +kernel
theorem dX0_countHeldBy_5 : decode cX0_countHeldBy 5 = .ok (.iconst 4, 1) := by decide +kernel
theorem dX0_countHeldBy_6 : decode cX0_countHeldBy 6 = .ok (.if_icmp .ge 22, 3) := by decide +kernel
theorem dX0_countHeldBy_9 : decode cX0_countHeldBy 9 = .ok (.iload_n 2, 1) := by decide +kernel
theorem dX0_countHeldBy_10 : decode cX0_countHeldBy 10 = .ok (.aload_n 0, 1) := by decide +kernel
theorem dX0_countHeldBy_11 : decode cX0_countHeldBy 11 = .ok (.aload_n 0, 1) := by decide +kernel
theorem dX0_countHeldBy_12 : decode cX0_countHeldBy 12 = .ok (.getfield 9, 3) := by decide +kernel
theorem dX0_countHeldBy_15 : decode cX0_countHeldBy 15 = .ok (.iload_n 1, 1) := by decide +kernel
theorem dX0_countHeldBy_16 : decode cX0_countHeldBy 16 = .ok (.iload_n 3, 1) := by decide +kernel
theorem dX0_countHeldBy_17 : decode cX0_countHeldBy 17 = .ok (.invokevirtual 96, 3) := by decide +kernel
theorem dX0_countHeldBy_20 : decode cX0_countHeldBy 20 = .ok (.iadd, 1) := by decide +kernel
theorem dX0_countHeldBy_21 : decode cX0_countHeldBy 21 = .ok (.istore_n 2, 1) := by decide +kernel
theorem dX0_countHeldBy_22 : decode cX0_countHeldBy 22 = .ok (.iinc 3 1, 3) := by decide +kernel
theorem dX0_countHeldBy_25 : decode cX0_countHeldBy 25 = .ok (.goto (-21), 3) := by decide +kernel
theorem dX0_countHeldBy_28 : decode cX0_countHeldBy 28 = .ok (.iload_n 2, 1) := by decide +kernel
theorem dX0_countHeldBy_29 : decode cX0_countHeldBy 29 = .ok (.ireturn, 1) := by decide +kernel
theorem dX0_burdenOf_0 : decode cX0_burdenOf 0 = .ok (.iconst 0, 1) := by decide +kernel
theorem dX0_burdenOf_1 : decode cX0_burdenOf 1 = .ok (.istore_n 2, 1) := by decide +kernel
theorem dX0_burdenOf_2 : decode cX0_burdenOf 2 = .ok (.iconst 0, 1) := by decide +kernel
theorem dX0_burdenOf_3 : decode cX0_burdenOf 3 = .ok (.istore_n 3, 1) := by decide +kernel
theorem dX0_burdenOf_4 : decode cX0_burdenOf 4 = .ok (.iload_n 3, 1) := by decide +kernel
theorem dX0_burdenOf_5 : decode cX0_burdenOf 5 = .ok (.iconst 4, 1) := by decide +kernel
theorem dX0_burdenOf_6 : decode cX0_burdenOf 6 = .ok (.if_icmp .ge 35, 3) := by decide +kernel
theorem dX0_burdenOf_9 : decode cX0_burdenOf 9 = .ok (.iload_n 2, 1) := by decide +kernel
theorem dX0_burdenOf_10 : decode cX0_burdenOf 10 = .ok (.getstatic 99, 3) := by decide +kernel
theorem dX0_burdenOf_13 : decode cX0_burdenOf 13 = .ok (.iload_n 3, 1) := by decide +kernel
theorem dX0_burdenOf_14 : decode cX0_burdenOf 14 = .ok (.iaload, 1) := by decide +kernel
theorem dX0_burdenOf_15 : decode cX0_burdenOf 15 = .ok (.aload_n 0, 1) := by decide +kernel
theorem dX0_burdenOf_16 : decode cX0_burdenOf 16 = .ok (.iload_n 1, 1) := by decide +kernel
theorem dX0_burdenOf_17 : decode cX0_burdenOf 17 = .ok (.iload_n 3, 1) := by decide +kernel
theorem dX0_burdenOf_18 : decode cX0_burdenOf 18 = .ok (.invokevirtual 82, 3) := by decide +kernel
theorem dX0_burdenOf_21 : decode cX0_burdenOf 21 = .ok (.aload_n 0, 1) := by decide +kernel
theorem dX0_burdenOf_22 : decode cX0_burdenOf 22 = .ok (.aload_n 0, 1) := by decide +kernel
theorem dX0_burdenOf_23 : decode cX0_burdenOf 23 = .ok (.getfield 9, 3) := by decide +kernel
theorem dX0_burdenOf_26 : decode cX0_burdenOf 26 = .ok (.iload_n 1, 1) := by decide +kernel
theorem dX0_burdenOf_27 : decode cX0_burdenOf 27 = .ok (.iload_n 3, 1) := by decide +kernel
theorem dX0_burdenOf_28 : decode cX0_burdenOf 28 = .ok (.invokevirtual 96, 3) := by decide +kernel
theorem dX0_burdenOf_31 : decode cX0_burdenOf 31 = .ok (.iadd, 1) := by decide +kernel
theorem dX0_burdenOf_32 : decode cX0_burdenOf 32 = .ok (.imul, 1) := by decide +kernel
theorem dX0_burdenOf_33 : decode cX0_burdenOf 33 = .ok (.iadd, 1) := by decide +kernel
theorem dX0_burdenOf_34 : decode cX0_burdenOf 34 = .ok (.istore_n 2, 1) := by decide +kernel
theorem dX0_burdenOf_35 : decode cX0_burdenOf 35 = .ok (.iinc 3 1, 3) := by decide +kernel
theorem dX0_burdenOf_38 : decode cX0_burdenOf 38 = .ok (.goto (-34), 3) := by decide +kernel
theorem dX0_burdenOf_41 : decode cX0_burdenOf 41 = .ok (.iload_n 2, 1) := by decide +kernel
theorem dX0_burdenOf_42 : decode cX0_burdenOf 42 = .ok (.ireturn, 1) := by decide +kernel
theorem dX0_countRulesOf_0 : decode cX0_countRulesOf 0 = .ok (.aload_n 0, 1) := by decide +kernel
theorem dX0_countRulesOf_1 : decode cX0_countRulesOf 1 = .ok (.iload_n 1, 1) := by decide +kernel
theorem dX0_countRulesOf_2 : decode cX0_countRulesOf 2 = .ok (.invokevirtual 64, 3) := by decide +kernel
theorem dX0_countRulesOf_5 : decode cX0_countRulesOf 5 = .ok (.ifCond .eq 12, 3) := by decide +kernel
theorem dX0_countRulesOf_8 : decode cX0_countRulesOf 8 = .ok (.aload_n 0, 1) := by decide +kernel
theorem dX0_countRulesOf_9 : decode cX0_countRulesOf 9 = .ok (.getfield 25, 3) := by decide +kernel
theorem dX0_countRulesOf_12 : decode cX0_countRulesOf 12 = .ok (.iload_n 1, 1) := by decide +kernel
theorem dX0_countRulesOf_13 : decode cX0_countRulesOf 13 = .ok (.iaload, 1) := by decide +kernel
theorem dX0_countRulesOf_14 : decode cX0_countRulesOf 14 = .ok (.goto 4, 3) := by decide +kernel
theorem dX0_countRulesOf_17 : decode cX0_countRulesOf 17 = .ok (.iconst 0, 1) := by decide +kernel
theorem dX0_countRulesOf_18 : decode cX0_countRulesOf 18 = .ok (.ireturn, 1) := by decide +kernel
theorem dX0_addRule_0 : decode cX0_addRule 0 = .ok (.aload_n 0, 1) := by decide +kernel
theorem dX0_addRule_1 : decode cX0_addRule 1 = .ok (.iload_n 1, 1) := by decide +kernel
theorem dX0_addRule_2 : decode cX0_addRule 2 = .ok (.invokevirtual 102, 3) := by decide +kernel
theorem dX0_addRule_5 : decode cX0_addRule 5 = .ok (.istore 5, 2) := by decide +kernel
theorem dX0_addRule_7 : decode cX0_addRule 7 = .ok (.aload_n 0, 1) := by decide +kernel
theorem dX0_addRule_8 : decode cX0_addRule 8 = .ok (.iload_n 1, 1) := by decide +kernel
theorem dX0_addRule_9 : decode cX0_addRule 9 = .ok (.invokevirtual 64, 3) := by decide +kernel
theorem dX0_addRule_12 : decode cX0_addRule 12 = .ok (.ifCond .eq 15, 3) := by decide +kernel
theorem dX0_addRule_15 : decode cX0_addRule 15 = .ok (.iload 5, 2) := by decide +kernel
theorem dX0_addRule_17 : decode cX0_addRule 17 = .ok (.ifCond .lt 10, 3) := by decide +kernel
theorem dX0_addRule_20 : decode cX0_addRule 20 = .ok (.iload 5, 2) := by decide +kernel
theorem dX0_addRule_22 : decode cX0_addRule 22 = .ok (.bipush 8, 2) := by decide +kernel
theorem dX0_addRule_24 : decode cX0_addRule 24 = .ok (.if_icmp .lt 4, 3) := by decide +kernel
theorem dX0_addRule_27 : decode cX0_addRule 27 = .ok (.return_, 1) := by decide +kernel
theorem dX0_addRule_28 : decode cX0_addRule 28 = .ok (.iload_n 1, 1) := by decide +kernel
theorem dX0_addRule_29 : decode cX0_addRule 29 = .ok (.bipush 8, 2) := by decide +kernel
theorem dX0_addRule_31 : decode cX0_addRule 31 = .ok (.imul, 1) := by decide +kernel
theorem dX0_addRule_32 : decode cX0_addRule 32 = .ok (.iload 5, 2) := by decide +kernel
theorem dX0_addRule_34 : decode cX0_addRule 34 = .ok (.iadd, 1) := by decide +kernel
theorem dX0_addRule_35 : decode cX0_addRule 35 = .ok (.istore 6, 2) := by decide +kernel
theorem dX0_addRule_37 : decode cX0_addRule 37 = .ok (.aload_n 0, 1) := by decide +kernel
theorem dX0_addRule_38 : decode cX0_addRule 38 = .ok (.getfield 28, 3) := by decide +kernel
theorem dX0_addRule_41 : decode cX0_addRule 41 = .ok (.iload 6, 2) := by decide +kernel
theorem dX0_addRule_43 : decode cX0_addRule 43 = .ok (.iload_n 2, 1) := by decide +kernel
theorem dX0_addRule_44 : decode cX0_addRule 44 = .ok (.iastore, 1) := by decide +kernel
theorem dX0_addRule_45 : decode cX0_addRule 45 = .ok (.aload_n 0, 1) := by decide +kernel
theorem dX0_addRule_46 : decode cX0_addRule 46 = .ok (.getfield 31, 3) := by decide +kernel
theorem dX0_addRule_49 : decode cX0_addRule 49 = .ok (.iload 6, 2) := by decide +kernel
theorem dX0_addRule_51 : decode cX0_addRule 51 = .ok (.iload_n 3, 1) := by decide +kernel
theorem dX0_addRule_52 : decode cX0_addRule 52 = .ok (.iastore, 1) := by decide +kernel
theorem dX0_addRule_53 : decode cX0_addRule 53 = .ok (.aload_n 0, 1) := by decide +kernel
theorem dX0_addRule_54 : decode cX0_addRule 54 = .ok (.getfield 34, 3) := by decide +kernel
theorem dX0_addRule_57 : decode cX0_addRule 57 = .ok (.iload 6, 2) := by decide +kernel
theorem dX0_addRule_59 : decode cX0_addRule 59 = .ok (.iload 4, 2) := by decide +kernel
theorem dX0_addRule_61 : decode cX0_addRule 61 = .ok (.iastore, 1) := by decide +kernel
theorem dX0_addRule_62 : decode cX0_addRule 62 = .ok (.aload_n 0, 1) := by decide +kernel
theorem dX0_addRule_63 : decode cX0_addRule 63 = .ok (.getfield 25, 3) := by decide +kernel
theorem dX0_addRule_66 : decode cX0_addRule 66 = .ok (.iload_n 1, 1) := by decide +kernel
theorem dX0_addRule_67 : decode cX0_addRule 67 = .ok (.iload 5, 2) := by decide +kernel
theorem dX0_addRule_69 : decode cX0_addRule 69 = .ok (.iconst 1, 1) := by decide +kernel
theorem dX0_addRule_70 : decode cX0_addRule 70 = .ok (.iadd, 1) := by decide +kernel
theorem dX0_addRule_71 : decode cX0_addRule 71 = .ok (.iastore, 1) := by decide +kernel
theorem dX0_addRule_72 : decode cX0_addRule 72 = .ok (.return_, 1) := by decide +kernel
theorem dX0_dropRules_0 : decode cX0_dropRules 0 = .ok (.aload_n 0, 1) := by decide +kernel
theorem dX0_dropRules_1 : decode cX0_dropRules 1 = .ok (.iload_n 1, 1) := by decide +kernel
theorem dX0_dropRules_2 : decode cX0_dropRules 2 = .ok (.invokevirtual 64, 3) := by decide +kernel
theorem dX0_dropRules_5 : decode cX0_dropRules 5 = .ok (.ifCond .ne 5, 3) := by decide +kernel
theorem dX0_dropRules_8 : decode cX0_dropRules 8 = .ok (.iconst 0, 1) := by decide +kernel
theorem dX0_dropRules_9 : decode cX0_dropRules 9 = .ok (.ireturn, 1) := by decide +kernel
theorem dX0_dropRules_10 : decode cX0_dropRules 10 = .ok (.aload_n 0, 1) := by decide +kernel
theorem dX0_dropRules_11 : decode cX0_dropRules 11 = .ok (.getfield 25, 3) := by decide +kernel
theorem dX0_dropRules_14 : decode cX0_dropRules 14 = .ok (.iload_n 1, 1) := by decide +kernel
theorem dX0_dropRules_15 : decode cX0_dropRules 15 = .ok (.iaload, 1) := by decide +kernel
theorem dX0_dropRules_16 : decode cX0_dropRules 16 = .ok (.istore_n 2, 1) := by decide +kernel
theorem dX0_dropRules_17 : decode cX0_dropRules 17 = .ok (.aload_n 0, 1) := by decide +kernel
theorem dX0_dropRules_18 : decode cX0_dropRules 18 = .ok (.getfield 25, 3) := by decide +kernel
theorem dX0_dropRules_21 : decode cX0_dropRules 21 = .ok (.iload_n 1, 1) := by decide +kernel
theorem dX0_dropRules_22 : decode cX0_dropRules 22 = .ok (.iconst 0, 1) := by decide +kernel
theorem dX0_dropRules_23 : decode cX0_dropRules 23 = .ok (.iastore, 1) := by decide +kernel
theorem dX0_dropRules_24 : decode cX0_dropRules 24 = .ok (.iload_n 2, 1) := by decide +kernel
theorem dX0_dropRules_25 : decode cX0_dropRules 25 = .ok (.ireturn, 1) := by decide +kernel
theorem dX0_mayHold_0 : decode cX0_mayHold 0 = .ok (.aload_n 0, 1) := by decide +kernel
theorem dX0_mayHold_1 : decode cX0_mayHold 1 = .ok (.iload_n 1, 1) := by decide +kernel
theorem dX0_mayHold_2 : decode cX0_mayHold 2 = .ok (.invokevirtual 56, 3) := by decide +kernel
theorem dX0_mayHold_5 : decode cX0_mayHold 5 = .ok (.ifCond .eq 11, 3) := by decide +kernel
theorem dX0_mayHold_8 : decode cX0_mayHold 8 = .ok (.aload_n 0, 1) := by decide +kernel
theorem dX0_mayHold_9 : decode cX0_mayHold 9 = .ok (.iload_n 2, 1) := by decide +kernel
theorem dX0_mayHold_10 : decode cX0_mayHold 10 = .ok (.invokevirtual 105, 3) := by decide +kernel
theorem dX0_mayHold_13 : decode cX0_mayHold 13 = .ok (.ifCond .ne 5, 3) := by decide +kernel
theorem dX0_mayHold_16 : decode cX0_mayHold 16 = .ok (.iconst 0, 1) := by decide +kernel
theorem dX0_mayHold_17 : decode cX0_mayHold 17 = .ok (.ireturn, 1) := by decide +kernel
theorem dX0_mayHold_18 : decode cX0_mayHold 18 = .ok (.iconst 0, 1) := by decide +kernel
theorem dX0_mayHold_19 : decode cX0_mayHold 19 = .ok (.istore_n 3, 1) := by decide +kernel
theorem dX0_mayHold_20 : decode cX0_mayHold 20 = .ok (.iload_n 3, 1) := by decide +kernel
theorem dX0_mayHold_21 : decode cX0_mayHold 21 = .ok (.aload_n 0, 1) := by decide +kernel
theorem dX0_mayHold_22 : decode cX0_mayHold 22 = .ok (.getfield 25, 3) := by decide +kernel
theorem dX0_mayHold_25 : decode cX0_mayHold 25 = .ok (.iload_n 1, 1) := by decide +kernel
theorem dX0_mayHold_26 : decode cX0_mayHold 26 = .ok (.iaload, 1) := by decide +kernel
theorem dX0_mayHold_27 : decode cX0_mayHold 27 = .ok (.if_icmp .ge 42, 3) := by decide +kernel
theorem dX0_mayHold_30 : decode cX0_mayHold 30 = .ok (.iload_n 3, 1) := by decide +kernel
theorem dX0_mayHold_31 : decode cX0_mayHold 31 = .ok (.bipush 8, 2) := by decide +kernel
theorem dX0_mayHold_33 : decode cX0_mayHold 33 = .ok (.if_icmp .ge 36, 3) := by decide +kernel
theorem dX0_mayHold_36 : decode cX0_mayHold 36 = .ok (.aload_n 0, 1) := by decide +kernel
theorem dX0_mayHold_37 : decode cX0_mayHold 37 = .ok (.iload_n 1, 1) := by decide +kernel
theorem dX0_mayHold_38 : decode cX0_mayHold 38 = .ok (.bipush 8, 2) := by decide +kernel
theorem dX0_mayHold_40 : decode cX0_mayHold 40 = .ok (.imul, 1) := by decide +kernel
theorem dX0_mayHold_41 : decode cX0_mayHold 41 = .ok (.iload_n 3, 1) := by decide +kernel
theorem dX0_mayHold_42 : decode cX0_mayHold 42 = .ok (.iadd, 1) := by decide +kernel
theorem dX0_mayHold_43 : decode cX0_mayHold 43 = .ok (.aload_n 0, 1) := by decide +kernel
theorem dX0_mayHold_44 : decode cX0_mayHold 44 = .ok (.getfield 37, 3) := by decide +kernel
theorem dX0_mayHold_47 : decode cX0_mayHold 47 = .ok (.iload_n 2, 1) := by decide +kernel
theorem dX0_mayHold_48 : decode cX0_mayHold 48 = .ok (.iaload, 1) := by decide +kernel
theorem dX0_mayHold_49 : decode cX0_mayHold 49 = .ok (.aload_n 0, 1) := by decide +kernel
theorem dX0_mayHold_50 : decode cX0_mayHold 50 = .ok (.getfield 40, 3) := by decide +kernel
theorem dX0_mayHold_53 : decode cX0_mayHold 53 = .ok (.iload_n 2, 1) := by decide +kernel
theorem dX0_mayHold_54 : decode cX0_mayHold 54 = .ok (.iaload, 1) := by decide +kernel
theorem dX0_mayHold_55 : decode cX0_mayHold 55 = .ok (.invokevirtual 108, 3) := by decide +kernel
theorem dX0_mayHold_58 : decode cX0_mayHold 58 = .ok (.ifCond .eq 5, 3) := by decide +kernel
theorem dX0_mayHold_61 : decode cX0_mayHold 61 = .ok (.iconst 0, 1) := by decide +kernel
theorem dX0_mayHold_62 : decode cX0_mayHold 62 = .ok (.ireturn, 1) := by decide +kernel
theorem dX0_mayHold_63 : decode cX0_mayHold 63 = .ok (.iinc 3 1, 3) := by decide +kernel
theorem dX0_mayHold_66 : decode cX0_mayHold 66 = .ok (.goto (-46), 3) := by decide +kernel
theorem dX0_mayHold_69 : decode cX0_mayHold 69 = .ok (.iconst 1, 1) := by decide +kernel
theorem dX0_mayHold_70 : decode cX0_mayHold 70 = .ok (.ireturn, 1) := by decide +kernel
theorem dX0_isAgainst_0 : decode cX0_isAgainst 0 = .ok (.iload_n 1, 1) := by decide +kernel
theorem dX0_isAgainst_1 : decode cX0_isAgainst 1 = .ok (.ifCond .lt 12, 3) := by decide +kernel
theorem dX0_isAgainst_4 : decode cX0_isAgainst 4 = .ok (.iload_n 1, 1) := by decide +kernel
theorem dX0_isAgainst_5 : decode cX0_isAgainst 5 = .ok (.aload_n 0, 1) := by decide +kernel
theorem dX0_isAgainst_6 : decode cX0_isAgainst 6 = .ok (.getfield 28, 3) := by decide +kernel
theorem dX0_isAgainst_9 : decode cX0_isAgainst 9 = .ok (.arraylength, 1) := by decide +kernel
theorem dX0_isAgainst_10 : decode cX0_isAgainst 10 = .ok (.if_icmp .lt 5, 3) := by decide +kernel
theorem dX0_isAgainst_13 : decode cX0_isAgainst 13 = .ok (.iconst 0, 1) := by decide +kernel
theorem dX0_isAgainst_14 : decode cX0_isAgainst 14 = .ok (.ireturn, 1) := by decide +kernel
theorem dX0_isAgainst_15 : decode cX0_isAgainst 15 = .ok (.aload_n 0, 1) := by decide +kernel
theorem dX0_isAgainst_16 : decode cX0_isAgainst 16 = .ok (.getfield 31, 3) := by decide +kernel
theorem dX0_isAgainst_19 : decode cX0_isAgainst 19 = .ok (.iload_n 1, 1) := by decide +kernel
theorem dX0_isAgainst_20 : decode cX0_isAgainst 20 = .ok (.iaload, 1) := by decide +kernel
theorem dX0_isAgainst_21 : decode cX0_isAgainst 21 = .ok (.istore 4, 2) := by decide +kernel
theorem dX0_isAgainst_23 : decode cX0_isAgainst 23 = .ok (.aload_n 0, 1) := by decide +kernel
theorem dX0_isAgainst_24 : decode cX0_isAgainst 24 = .ok (.getfield 34, 3) := by decide +kernel
theorem dX0_isAgainst_27 : decode cX0_isAgainst 27 = .ok (.iload_n 1, 1) := by decide +kernel
theorem dX0_isAgainst_28 : decode cX0_isAgainst 28 = .ok (.iaload, 1) := by decide +kernel
theorem dX0_isAgainst_29 : decode cX0_isAgainst 29 = .ok (.istore 5, 2) := by decide +kernel
theorem dX0_isAgainst_31 : decode cX0_isAgainst 31 = .ok (.aload_n 0, 1) := by decide +kernel
theorem dX0_isAgainst_32 : decode cX0_isAgainst 32 = .ok (.getfield 28, 3) := by decide +kernel
theorem dX0_isAgainst_35 : decode cX0_isAgainst 35 = .ok (.iload_n 1, 1) := by decide +kernel
theorem dX0_isAgainst_36 : decode cX0_isAgainst 36 = .ok (.iaload, 1) := by decide +kernel
theorem dX0_isAgainst_37 : decode cX0_isAgainst 37 = .ok (.tableswitch 77 0 2 #[27, 45, 57], 27) := by decide +kernel
theorem dX0_isAgainst_64 : decode cX0_isAgainst 64 = .ok (.iload_n 2, 1) := by decide +kernel
theorem dX0_isAgainst_65 : decode cX0_isAgainst 65 = .ok (.iload 4, 2) := by decide +kernel
theorem dX0_isAgainst_67 : decode cX0_isAgainst 67 = .ok (.if_icmp .lt 13, 3) := by decide +kernel
theorem dX0_isAgainst_70 : decode cX0_isAgainst 70 = .ok (.iload_n 2, 1) := by decide +kernel
theorem dX0_isAgainst_71 : decode cX0_isAgainst 71 = .ok (.iload 5, 2) := by decide +kernel
theorem dX0_isAgainst_73 : decode cX0_isAgainst 73 = .ok (.if_icmp .gt 7, 3) := by decide +kernel
theorem dX0_isAgainst_76 : decode cX0_isAgainst 76 = .ok (.iconst 1, 1) := by decide +kernel
theorem dX0_isAgainst_77 : decode cX0_isAgainst 77 = .ok (.goto 4, 3) := by decide +kernel
theorem dX0_isAgainst_80 : decode cX0_isAgainst 80 = .ok (.iconst 0, 1) := by decide +kernel
theorem dX0_isAgainst_81 : decode cX0_isAgainst 81 = .ok (.ireturn, 1) := by decide +kernel
theorem dX0_isAgainst_82 : decode cX0_isAgainst 82 = .ok (.iload_n 3, 1) := by decide +kernel
theorem dX0_isAgainst_83 : decode cX0_isAgainst 83 = .ok (.iload 4, 2) := by decide +kernel
theorem dX0_isAgainst_85 : decode cX0_isAgainst 85 = .ok (.if_icmp .ne 7, 3) := by decide +kernel
theorem dX0_isAgainst_88 : decode cX0_isAgainst 88 = .ok (.iconst 1, 1) := by decide +kernel
theorem dX0_isAgainst_89 : decode cX0_isAgainst 89 = .ok (.goto 4, 3) := by decide +kernel
theorem dX0_isAgainst_92 : decode cX0_isAgainst 92 = .ok (.iconst 0, 1) := by decide +kernel
theorem dX0_isAgainst_93 : decode cX0_isAgainst 93 = .ok (.ireturn, 1) := by decide +kernel
theorem dX0_isAgainst_94 : decode cX0_isAgainst 94 = .ok (.iload 4, 2) := by decide +kernel
theorem dX0_isAgainst_96 : decode cX0_isAgainst 96 = .ok (.ifCond .le 16, 3) := by decide +kernel
theorem dX0_isAgainst_99 : decode cX0_isAgainst 99 = .ok (.iload_n 2, 1) := by decide +kernel
theorem dX0_isAgainst_100 : decode cX0_isAgainst 100 = .ok (.iload 4, 2) := by decide +kernel
theorem dX0_isAgainst_102 : decode cX0_isAgainst 102 = .ok (.irem, 1) := by decide +kernel
theorem dX0_isAgainst_103 : decode cX0_isAgainst 103 = .ok (.iload 5, 2) := by decide +kernel
theorem dX0_isAgainst_105 : decode cX0_isAgainst 105 = .ok (.if_icmp .eq 7, 3) := by decide +kernel
theorem dX0_isAgainst_108 : decode cX0_isAgainst 108 = .ok (.iconst 1, 1) := by decide +kernel
theorem dX0_isAgainst_109 : decode cX0_isAgainst 109 = .ok (.goto 4, 3) := by decide +kernel
theorem dX0_isAgainst_112 : decode cX0_isAgainst 112 = .ok (.iconst 0, 1) := by decide +kernel
theorem dX0_isAgainst_113 : decode cX0_isAgainst 113 = .ok (.ireturn, 1) := by decide +kernel
theorem dX0_isAgainst_114 : decode cX0_isAgainst 114 = .ok (.iconst 0, 1) := by decide +kernel
theorem dX0_isAgainst_115 : decode cX0_isAgainst 115 = .ok (.ireturn, 1) := by decide +kernel
theorem dX0_countWhoMayHold_0 : decode cX0_countWhoMayHold 0 = .ok (.iconst 0, 1) := by decide +kernel
theorem dX0_countWhoMayHold_1 : decode cX0_countWhoMayHold 1 = .ok (.istore_n 2, 1) := by decide +kernel
theorem dX0_countWhoMayHold_2 : decode cX0_countWhoMayHold 2 = .ok (.iconst 0, 1) := by decide +kernel
theorem dX0_countWhoMayHold_3 : decode cX0_countWhoMayHold 3 = .ok (.istore_n 3, 1) := by decide +kernel
theorem dX0_countWhoMayHold_4 : decode cX0_countWhoMayHold 4 = .ok (.iload_n 3, 1) := by decide +kernel
theorem dX0_countWhoMayHold_5 : decode cX0_countWhoMayHold 5 = .ok (.aload_n 0, 1) := by decide +kernel
theorem dX0_countWhoMayHold_6 : decode cX0_countWhoMayHold 6 = .ok (.getfield 49, 3) := by decide +kernel
theorem dX0_countWhoMayHold_9 : decode cX0_countWhoMayHold 9 = .ok (.if_icmp .ge 21, 3) := by decide +kernel
theorem dX0_countWhoMayHold_12 : decode cX0_countWhoMayHold 12 = .ok (.aload_n 0, 1) := by decide +kernel
theorem dX0_countWhoMayHold_13 : decode cX0_countWhoMayHold 13 = .ok (.iload_n 3, 1) := by decide +kernel
theorem dX0_countWhoMayHold_14 : decode cX0_countWhoMayHold 14 = .ok (.iload_n 1, 1) := by decide +kernel
theorem dX0_countWhoMayHold_15 : decode cX0_countWhoMayHold 15 = .ok (.invokevirtual 74, 3) := by decide +kernel
theorem dX0_countWhoMayHold_18 : decode cX0_countWhoMayHold 18 = .ok (.ifCond .eq 6, 3) := by decide +kernel
theorem dX0_countWhoMayHold_21 : decode cX0_countWhoMayHold 21 = .ok (.iinc 2 1, 3) := by decide +kernel
theorem dX0_countWhoMayHold_24 : decode cX0_countWhoMayHold 24 = .ok (.iinc 3 1, 3) := by decide +kernel
theorem dX0_countWhoMayHold_27 : decode cX0_countWhoMayHold 27 = .ok (.goto (-23), 3) := by decide +kernel
theorem dX0_countWhoMayHold_30 : decode cX0_countWhoMayHold 30 = .ok (.iload_n 2, 1) := by decide +kernel
theorem dX0_countWhoMayHold_31 : decode cX0_countWhoMayHold 31 = .ok (.ireturn, 1) := by decide +kernel
theorem dX0_addDuty_0 : decode cX0_addDuty 0 = .ok (.aload_n 0, 1) := by decide +kernel
theorem dX0_addDuty_1 : decode cX0_addDuty 1 = .ok (.getfield 53, 3) := by decide +kernel
theorem dX0_addDuty_4 : decode cX0_addDuty 4 = .ok (.istore_n 3, 1) := by decide +kernel
theorem dX0_addDuty_5 : decode cX0_addDuty 5 = .ok (.iload_n 3, 1) := by decide +kernel
theorem dX0_addDuty_6 : decode cX0_addDuty 6 = .ok (.ifCond .lt 9, 3) := by decide +kernel
theorem dX0_addDuty_9 : decode cX0_addDuty 9 = .ok (.iload_n 3, 1) := by decide +kernel
theorem dX0_addDuty_10 : decode cX0_addDuty 10 = .ok (.bipush 24, 2) := by decide +kernel
theorem dX0_addDuty_12 : decode cX0_addDuty 12 = .ok (.if_icmp .lt 6, 3) := by decide +kernel
theorem dX0_addDuty_15 : decode cX0_addDuty 15 = .ok (.bipush (-4), 2) := by decide +kernel
theorem dX0_addDuty_17 : decode cX0_addDuty 17 = .ok (.ireturn, 1) := by decide +kernel
theorem dX0_addDuty_18 : decode cX0_addDuty 18 = .ok (.aload_n 0, 1) := by decide +kernel
theorem dX0_addDuty_19 : decode cX0_addDuty 19 = .ok (.getfield 37, 3) := by decide +kernel
theorem dX0_addDuty_22 : decode cX0_addDuty 22 = .ok (.iload_n 3, 1) := by decide +kernel
theorem dX0_addDuty_23 : decode cX0_addDuty 23 = .ok (.iload_n 1, 1) := by decide +kernel
theorem dX0_addDuty_24 : decode cX0_addDuty 24 = .ok (.iastore, 1) := by decide +kernel
theorem dX0_addDuty_25 : decode cX0_addDuty 25 = .ok (.aload_n 0, 1) := by decide +kernel
theorem dX0_addDuty_26 : decode cX0_addDuty 26 = .ok (.getfield 40, 3) := by decide +kernel
theorem dX0_addDuty_29 : decode cX0_addDuty 29 = .ok (.iload_n 3, 1) := by decide +kernel
theorem dX0_addDuty_30 : decode cX0_addDuty 30 = .ok (.iload_n 2, 1) := by decide +kernel
theorem dX0_addDuty_31 : decode cX0_addDuty 31 = .ok (.iastore, 1) := by decide +kernel
theorem dX0_addDuty_32 : decode cX0_addDuty 32 = .ok (.aload_n 0, 1) := by decide +kernel
theorem dX0_addDuty_33 : decode cX0_addDuty 33 = .ok (.getfield 9, 3) := by decide +kernel
theorem dX0_addDuty_36 : decode cX0_addDuty 36 = .ok (.iload_n 3, 1) := by decide +kernel
theorem dX0_addDuty_37 : decode cX0_addDuty 37 = .ok (.iconst (-1), 1) := by decide +kernel
theorem dX0_addDuty_38 : decode cX0_addDuty 38 = .ok (.iastore, 1) := by decide +kernel
theorem dX0_addDuty_39 : decode cX0_addDuty 39 = .ok (.iload_n 3, 1) := by decide +kernel
theorem dX0_addDuty_40 : decode cX0_addDuty 40 = .ok (.istore 4, 2) := by decide +kernel
theorem dX0_addDuty_42 : decode cX0_addDuty 42 = .ok (.iload 4, 2) := by decide +kernel
theorem dX0_addDuty_44 : decode cX0_addDuty 44 = .ok (.ifCond .le 37, 3) := by decide +kernel
theorem dX0_addDuty_47 : decode cX0_addDuty 47 = .ok (.aload_n 0, 1) := by decide +kernel
theorem dX0_addDuty_48 : decode cX0_addDuty 48 = .ok (.iload 4, 2) := by decide +kernel
theorem dX0_addDuty_50 : decode cX0_addDuty 50 = .ok (.iconst 1, 1) := by decide +kernel
theorem dX0_addDuty_51 : decode cX0_addDuty 51 = .ok (.isub, 1) := by decide +kernel
theorem dX0_addDuty_52 : decode cX0_addDuty 52 = .ok (.invokevirtual 112, 3) := by decide +kernel
theorem dX0_addDuty_55 : decode cX0_addDuty 55 = .ok (.iload_n 1, 1) := by decide +kernel
theorem dX0_addDuty_56 : decode cX0_addDuty 56 = .ok (.if_icmp .le 25, 3) := by decide +kernel
theorem dX0_addDuty_59 : decode cX0_addDuty 59 = .ok (.aload_n 0, 1) := by decide +kernel
theorem dX0_addDuty_60 : decode cX0_addDuty 60 = .ok (.getfield 43, 3) := by decide +kernel
theorem dX0_addDuty_63 : decode cX0_addDuty 63 = .ok (.iload 4, 2) := by decide +kernel
theorem dX0_addDuty_65 : decode cX0_addDuty 65 = .ok (.aload_n 0, 1) := by decide +kernel
theorem dX0_addDuty_66 : decode cX0_addDuty 66 = .ok (.getfield 43, 3) := by decide +kernel
theorem dX0_addDuty_69 : decode cX0_addDuty 69 = .ok (.iload 4, 2) := by decide +kernel
theorem dX0_addDuty_71 : decode cX0_addDuty 71 = .ok (.iconst 1, 1) := by decide +kernel
theorem dX0_addDuty_72 : decode cX0_addDuty 72 = .ok (.isub, 1) := by decide +kernel
theorem dX0_addDuty_73 : decode cX0_addDuty 73 = .ok (.iaload, 1) := by decide +kernel
theorem dX0_addDuty_74 : decode cX0_addDuty 74 = .ok (.iastore, 1) := by decide +kernel
theorem dX0_addDuty_75 : decode cX0_addDuty 75 = .ok (.iinc 4 (-1), 3) := by decide +kernel
theorem dX0_addDuty_78 : decode cX0_addDuty 78 = .ok (.goto (-36), 3) := by decide +kernel
theorem dX0_addDuty_81 : decode cX0_addDuty 81 = .ok (.aload_n 0, 1) := by decide +kernel
theorem dX0_addDuty_82 : decode cX0_addDuty 82 = .ok (.getfield 43, 3) := by decide +kernel
theorem dX0_addDuty_85 : decode cX0_addDuty 85 = .ok (.iload 4, 2) := by decide +kernel
theorem dX0_addDuty_87 : decode cX0_addDuty 87 = .ok (.iload_n 3, 1) := by decide +kernel
theorem dX0_addDuty_88 : decode cX0_addDuty 88 = .ok (.iastore, 1) := by decide +kernel
theorem dX0_addDuty_89 : decode cX0_addDuty 89 = .ok (.aload_n 0, 1) := by decide +kernel
theorem dX0_addDuty_90 : decode cX0_addDuty 90 = .ok (.dup, 1) := by decide +kernel
theorem dX0_addDuty_91 : decode cX0_addDuty 91 = .ok (.getfield 53, 3) := by decide +kernel
theorem dX0_addDuty_94 : decode cX0_addDuty 94 = .ok (.iconst 1, 1) := by decide +kernel
theorem dX0_addDuty_95 : decode cX0_addDuty 95 = .ok (.iadd, 1) := by decide +kernel
theorem dX0_addDuty_96 : decode cX0_addDuty 96 = .ok (.putfield 53, 3) := by decide +kernel
theorem dX0_addDuty_99 : decode cX0_addDuty 99 = .ok (.iload_n 3, 1) := by decide +kernel
theorem dX0_addDuty_100 : decode cX0_addDuty 100 = .ok (.ireturn, 1) := by decide +kernel
theorem dX0_dayOf_0 : decode cX0_dayOf 0 = .ok (.aload_n 0, 1) := by decide +kernel
theorem dX0_dayOf_1 : decode cX0_dayOf 1 = .ok (.iload_n 1, 1) := by decide +kernel
theorem dX0_dayOf_2 : decode cX0_dayOf 2 = .ok (.invokevirtual 105, 3) := by decide +kernel
theorem dX0_dayOf_5 : decode cX0_dayOf 5 = .ok (.ifCond .eq 12, 3) := by decide +kernel
theorem dX0_dayOf_8 : decode cX0_dayOf 8 = .ok (.aload_n 0, 1) := by decide +kernel
theorem dX0_dayOf_9 : decode cX0_dayOf 9 = .ok (.getfield 37, 3) := by decide +kernel
theorem dX0_dayOf_12 : decode cX0_dayOf 12 = .ok (.iload_n 1, 1) := by decide +kernel
theorem dX0_dayOf_13 : decode cX0_dayOf 13 = .ok (.iaload, 1) := by decide +kernel
theorem dX0_dayOf_14 : decode cX0_dayOf 14 = .ok (.goto 4, 3) := by decide +kernel
theorem dX0_dayOf_17 : decode cX0_dayOf 17 = .ok (.iconst (-1), 1) := by decide +kernel
theorem dX0_dayOf_18 : decode cX0_dayOf 18 = .ok (.ireturn, 1) := by decide +kernel
theorem dX0_kindOf_0 : decode cX0_kindOf 0 = .ok (.aload_n 0, 1) := by decide +kernel
theorem dX0_kindOf_1 : decode cX0_kindOf 1 = .ok (.iload_n 1, 1) := by decide +kernel
theorem dX0_kindOf_2 : decode cX0_kindOf 2 = .ok (.invokevirtual 105, 3) := by decide +kernel
theorem dX0_kindOf_5 : decode cX0_kindOf 5 = .ok (.ifCond .eq 12, 3) := by decide +kernel
theorem dX0_kindOf_8 : decode cX0_kindOf 8 = .ok (.aload_n 0, 1) := by decide +kernel
theorem dX0_kindOf_9 : decode cX0_kindOf 9 = .ok (.getfield 40, 3) := by decide +kernel
theorem dX0_kindOf_12 : decode cX0_kindOf 12 = .ok (.iload_n 1, 1) := by decide +kernel
theorem dX0_kindOf_13 : decode cX0_kindOf 13 = .ok (.iaload, 1) := by decide +kernel
theorem dX0_kindOf_14 : decode cX0_kindOf 14 = .ok (.goto 4, 3) := by decide +kernel
theorem dX0_kindOf_17 : decode cX0_kindOf 17 = .ok (.iconst (-1), 1) := by decide +kernel
theorem dX0_kindOf_18 : decode cX0_kindOf 18 = .ok (.ireturn, 1) := by decide +kernel
theorem dX0_holderOf_0 : decode cX0_holderOf 0 = .ok (.aload_n 0, 1) := by decide +kernel
theorem dX0_holderOf_1 : decode cX0_holderOf 1 = .ok (.iload_n 1, 1) := by decide +kernel
theorem dX0_holderOf_2 : decode cX0_holderOf 2 = .ok (.invokevirtual 105, 3) := by decide +kernel
theorem dX0_holderOf_5 : decode cX0_holderOf 5 = .ok (.ifCond .eq 12, 3) := by decide +kernel
theorem dX0_holderOf_8 : decode cX0_holderOf 8 = .ok (.aload_n 0, 1) := by decide +kernel
theorem dX0_holderOf_9 : decode cX0_holderOf 9 = .ok (.getfield 9, 3) := by decide +kernel
theorem dX0_holderOf_12 : decode cX0_holderOf 12 = .ok (.iload_n 1, 1) := by decide +kernel
theorem dX0_holderOf_13 : decode cX0_holderOf 13 = .ok (.iaload, 1) := by decide +kernel
theorem dX0_holderOf_14 : decode cX0_holderOf 14 = .ok (.goto 4, 3) := by decide +kernel
theorem dX0_holderOf_17 : decode cX0_holderOf 17 = .ok (.iconst (-1), 1) := by decide +kernel
theorem dX0_holderOf_18 : decode cX0_holderOf 18 = .ok (.ireturn, 1) := by decide +kernel
theorem dX0_putHolder_0 : decode cX0_putHolder 0 = .ok (.aload_n 0, 1) := by decide +kernel
theorem dX0_putHolder_1 : decode cX0_putHolder 1 = .ok (.iload_n 1, 1) := by decide +kernel
theorem dX0_putHolder_2 : decode cX0_putHolder 2 = .ok (.invokevirtual 105, 3) := by decide +kernel
theorem dX0_putHolder_5 : decode cX0_putHolder 5 = .ok (.ifCond .eq 10, 3) := by decide +kernel
theorem dX0_putHolder_8 : decode cX0_putHolder 8 = .ok (.aload_n 0, 1) := by decide +kernel
theorem dX0_putHolder_9 : decode cX0_putHolder 9 = .ok (.getfield 9, 3) := by decide +kernel
theorem dX0_putHolder_12 : decode cX0_putHolder 12 = .ok (.iload_n 1, 1) := by decide +kernel
theorem dX0_putHolder_13 : decode cX0_putHolder 13 = .ok (.iload_n 2, 1) := by decide +kernel
theorem dX0_putHolder_14 : decode cX0_putHolder 14 = .ok (.iastore, 1) := by decide +kernel
theorem dX0_putHolder_15 : decode cX0_putHolder 15 = .ok (.return_, 1) := by decide +kernel
theorem dX0_dutyAt_0 : decode cX0_dutyAt 0 = .ok (.aload_n 0, 1) := by decide +kernel
theorem dX0_dutyAt_1 : decode cX0_dutyAt 1 = .ok (.iload_n 1, 1) := by decide +kernel
theorem dX0_dutyAt_2 : decode cX0_dutyAt 2 = .ok (.invokevirtual 105, 3) := by decide +kernel
theorem dX0_dutyAt_5 : decode cX0_dutyAt 5 = .ok (.ifCond .eq 12, 3) := by decide +kernel
theorem dX0_dutyAt_8 : decode cX0_dutyAt 8 = .ok (.aload_n 0, 1) := by decide +kernel
theorem dX0_dutyAt_9 : decode cX0_dutyAt 9 = .ok (.getfield 43, 3) := by decide +kernel
theorem dX0_dutyAt_12 : decode cX0_dutyAt 12 = .ok (.iload_n 1, 1) := by decide +kernel
theorem dX0_dutyAt_13 : decode cX0_dutyAt 13 = .ok (.iaload, 1) := by decide +kernel
theorem dX0_dutyAt_14 : decode cX0_dutyAt 14 = .ok (.goto 4, 3) := by decide +kernel
theorem dX0_dutyAt_17 : decode cX0_dutyAt 17 = .ok (.iconst (-1), 1) := by decide +kernel
theorem dX0_dutyAt_18 : decode cX0_dutyAt 18 = .ok (.ireturn, 1) := by decide +kernel
theorem dX0_dayAt_0 : decode cX0_dayAt 0 = .ok (.aload_n 0, 1) := by decide +kernel
theorem dX0_dayAt_1 : decode cX0_dayAt 1 = .ok (.aload_n 0, 1) := by decide +kernel
theorem dX0_dayAt_2 : decode cX0_dayAt 2 = .ok (.iload_n 1, 1) := by decide +kernel
theorem dX0_dayAt_3 : decode cX0_dayAt 3 = .ok (.invokevirtual 115, 3) := by decide +kernel
theorem dX0_dayAt_6 : decode cX0_dayAt 6 = .ok (.invokevirtual 118, 3) := by decide +kernel
theorem dX0_dayAt_9 : decode cX0_dayAt 9 = .ok (.ireturn, 1) := by decide +kernel
theorem dX0_placeOf_0 : decode cX0_placeOf 0 = .ok (.iconst 0, 1) := by decide +kernel
theorem dX0_placeOf_1 : decode cX0_placeOf 1 = .ok (.istore_n 2, 1) := by decide +kernel
theorem dX0_placeOf_2 : decode cX0_placeOf 2 = .ok (.iload_n 2, 1) := by decide +kernel
theorem dX0_placeOf_3 : decode cX0_placeOf 3 = .ok (.aload_n 0, 1) := by decide +kernel
theorem dX0_placeOf_4 : decode cX0_placeOf 4 = .ok (.getfield 53, 3) := by decide +kernel
theorem dX0_placeOf_7 : decode cX0_placeOf 7 = .ok (.if_icmp .ge 20, 3) := by decide +kernel
theorem dX0_placeOf_10 : decode cX0_placeOf 10 = .ok (.aload_n 0, 1) := by decide +kernel
theorem dX0_placeOf_11 : decode cX0_placeOf 11 = .ok (.iload_n 2, 1) := by decide +kernel
theorem dX0_placeOf_12 : decode cX0_placeOf 12 = .ok (.invokevirtual 115, 3) := by decide +kernel
theorem dX0_placeOf_15 : decode cX0_placeOf 15 = .ok (.iload_n 1, 1) := by decide +kernel
theorem dX0_placeOf_16 : decode cX0_placeOf 16 = .ok (.if_icmp .ne 5, 3) := by decide +kernel
theorem dX0_placeOf_19 : decode cX0_placeOf 19 = .ok (.iload_n 2, 1) := by decide +kernel
theorem dX0_placeOf_20 : decode cX0_placeOf 20 = .ok (.ireturn, 1) := by decide +kernel
theorem dX0_placeOf_21 : decode cX0_placeOf 21 = .ok (.iinc 2 1, 3) := by decide +kernel
theorem dX0_placeOf_24 : decode cX0_placeOf 24 = .ok (.goto (-22), 3) := by decide +kernel
theorem dX0_placeOf_27 : decode cX0_placeOf 27 = .ok (.iconst (-1), 1) := by decide +kernel
theorem dX0_placeOf_28 : decode cX0_placeOf 28 = .ok (.ireturn, 1) := by decide +kernel
theorem dX0_countOfKind_0 : decode cX0_countOfKind 0 = .ok (.iconst 0, 1) := by decide +kernel
theorem dX0_countOfKind_1 : decode cX0_countOfKind 1 = .ok (.istore_n 2, 1) := by decide +kernel
theorem dX0_countOfKind_2 : decode cX0_countOfKind 2 = .ok (.iconst 0, 1) := by decide +kernel
theorem dX0_countOfKind_3 : decode cX0_countOfKind 3 = .ok (.istore_n 3, 1) := by decide +kernel
theorem dX0_countOfKind_4 : decode cX0_countOfKind 4 = .ok (.iload_n 3, 1) := by decide +kernel
theorem dX0_countOfKind_5 : decode cX0_countOfKind 5 = .ok (.aload_n 0, 1) := by decide +kernel
theorem dX0_countOfKind_6 : decode cX0_countOfKind 6 = .ok (.getfield 53, 3) := by decide +kernel
theorem dX0_countOfKind_9 : decode cX0_countOfKind 9 = .ok (.if_icmp .ge 21, 3) := by decide +kernel
theorem dX0_countOfKind_12 : decode cX0_countOfKind 12 = .ok (.aload_n 0, 1) := by decide +kernel
theorem dX0_countOfKind_13 : decode cX0_countOfKind 13 = .ok (.iload_n 3, 1) := by decide +kernel
theorem dX0_countOfKind_14 : decode cX0_countOfKind 14 = .ok (.invokevirtual 121, 3) := by decide +kernel
theorem dX0_countOfKind_17 : decode cX0_countOfKind 17 = .ok (.iload_n 1, 1) := by decide +kernel
theorem dX0_countOfKind_18 : decode cX0_countOfKind 18 = .ok (.if_icmp .ne 6, 3) := by decide +kernel
theorem dX0_countOfKind_21 : decode cX0_countOfKind 21 = .ok (.iinc 2 1, 3) := by decide +kernel
theorem dX0_countOfKind_24 : decode cX0_countOfKind 24 = .ok (.iinc 3 1, 3) := by decide +kernel
theorem dX0_countOfKind_27 : decode cX0_countOfKind 27 = .ok (.goto (-23), 3) := by decide +kernel
theorem dX0_countOfKind_30 : decode cX0_countOfKind 30 = .ok (.iload_n 2, 1) := by decide +kernel
theorem dX0_countOfKind_31 : decode cX0_countOfKind 31 = .ok (.ireturn, 1) := by decide +kernel
theorem dX0_countOpenBy_0 : decode cX0_countOpenBy 0 = .ok (.aload_n 0, 1) := by decide +kernel
theorem dX0_countOpenBy_1 : decode cX0_countOpenBy 1 = .ok (.aload_n 1, 1) := by decide +kernel
theorem dX0_countOpenBy_2 : decode cX0_countOpenBy 2 = .ok (.iconst (-1), 1) := by decide +kernel
theorem dX0_countOpenBy_3 : decode cX0_countOpenBy 3 = .ok (.iload_n 2, 1) := by decide +kernel
theorem dX0_countOpenBy_4 : decode cX0_countOpenBy 4 = .ok (.invokevirtual 96, 3) := by decide +kernel
theorem dX0_countOpenBy_7 : decode cX0_countOpenBy 7 = .ok (.ireturn, 1) := by decide +kernel
theorem dX0_countOpen_0 : decode cX0_countOpen 0 = .ok (.aload_n 0, 1) := by decide +kernel
theorem dX0_countOpen_1 : decode cX0_countOpen 1 = .ok (.iconst (-1), 1) := by decide +kernel
theorem dX0_countOpen_2 : decode cX0_countOpen 2 = .ok (.invokevirtual 124, 3) := by decide +kernel
theorem dX0_countOpen_5 : decode cX0_countOpen 5 = .ok (.ireturn, 1) := by decide +kernel
theorem dX0_countDays_0 : decode cX0_countDays 0 = .ok (.iconst 0, 1) := by decide +kernel
theorem dX0_countDays_1 : decode cX0_countDays 1 = .ok (.istore_n 1, 1) := by decide +kernel
theorem dX0_countDays_2 : decode cX0_countDays 2 = .ok (.iconst 0, 1) := by decide +kernel
theorem dX0_countDays_3 : decode cX0_countDays 3 = .ok (.istore_n 2, 1) := by decide +kernel
theorem dX0_countDays_4 : decode cX0_countDays 4 = .ok (.iload_n 2, 1) := by decide +kernel
theorem dX0_countDays_5 : decode cX0_countDays 5 = .ok (.aload_n 0, 1) := by decide +kernel
theorem dX0_countDays_6 : decode cX0_countDays 6 = .ok (.getfield 53, 3) := by decide +kernel
theorem dX0_countDays_9 : decode cX0_countDays 9 = .ok (.if_icmp .ge 31, 3) := by decide +kernel
theorem dX0_countDays_12 : decode cX0_countDays 12 = .ok (.iload_n 2, 1) := by decide +kernel
theorem dX0_countDays_13 : decode cX0_countDays 13 = .ok (.ifCond .eq 18, 3) := by decide +kernel
theorem dX0_countDays_16 : decode cX0_countDays 16 = .ok (.aload_n 0, 1) := by decide +kernel
theorem dX0_countDays_17 : decode cX0_countDays 17 = .ok (.iload_n 2, 1) := by decide +kernel
theorem dX0_countDays_18 : decode cX0_countDays 18 = .ok (.invokevirtual 112, 3) := by decide +kernel
theorem dX0_countDays_21 : decode cX0_countDays 21 = .ok (.aload_n 0, 1) := by decide +kernel
theorem dX0_countDays_22 : decode cX0_countDays 22 = .ok (.iload_n 2, 1) := by decide +kernel
theorem dX0_countDays_23 : decode cX0_countDays 23 = .ok (.iconst 1, 1) := by decide +kernel
theorem dX0_countDays_24 : decode cX0_countDays 24 = .ok (.isub, 1) := by decide +kernel
theorem dX0_countDays_25 : decode cX0_countDays 25 = .ok (.invokevirtual 112, 3) := by decide +kernel
theorem dX0_countDays_28 : decode cX0_countDays 28 = .ok (.if_icmp .eq 6, 3) := by decide +kernel
theorem dX0_countDays_31 : decode cX0_countDays 31 = .ok (.iinc 1 1, 3) := by decide +kernel
theorem dX0_countDays_34 : decode cX0_countDays 34 = .ok (.iinc 2 1, 3) := by decide +kernel
theorem dX0_countDays_37 : decode cX0_countDays 37 = .ok (.goto (-33), 3) := by decide +kernel
theorem dX0_countDays_40 : decode cX0_countDays 40 = .ok (.iload_n 1, 1) := by decide +kernel
theorem dX0_countDays_41 : decode cX0_countDays 41 = .ok (.ireturn, 1) := by decide +kernel
theorem dX0_areClose_0 : decode cX0_areClose 0 = .ok (.aload_n 0, 1) := by decide +kernel
theorem dX0_areClose_1 : decode cX0_areClose 1 = .ok (.iload_n 1, 1) := by decide +kernel
theorem dX0_areClose_2 : decode cX0_areClose 2 = .ok (.invokevirtual 71, 3) := by decide +kernel
theorem dX0_areClose_5 : decode cX0_areClose 5 = .ok (.istore_n 3, 1) := by decide +kernel
theorem dX0_areClose_6 : decode cX0_areClose 6 = .ok (.iload_n 3, 1) := by decide +kernel
theorem dX0_areClose_7 : decode cX0_areClose 7 = .ok (.iconst (-1), 1) := by decide +kernel
theorem dX0_areClose_8 : decode cX0_areClose 8 = .ok (.if_icmp .eq 34, 3) := by decide +kernel
theorem dX0_areClose_11 : decode cX0_areClose 11 = .ok (.iload_n 3, 1) := by decide +kernel
theorem dX0_areClose_12 : decode cX0_areClose 12 = .ok (.aload_n 0, 1) := by decide +kernel
theorem dX0_areClose_13 : decode cX0_areClose 13 = .ok (.iload_n 2, 1) := by decide +kernel
theorem dX0_areClose_14 : decode cX0_areClose 14 = .ok (.invokevirtual 71, 3) := by decide +kernel
theorem dX0_areClose_17 : decode cX0_areClose 17 = .ok (.if_icmp .ne 25, 3) := by decide +kernel
theorem dX0_areClose_20 : decode cX0_areClose 20 = .ok (.aload_n 0, 1) := by decide +kernel
theorem dX0_areClose_21 : decode cX0_areClose 21 = .ok (.iload_n 1, 1) := by decide +kernel
theorem dX0_areClose_22 : decode cX0_areClose 22 = .ok (.invokevirtual 118, 3) := by decide +kernel
theorem dX0_areClose_25 : decode cX0_areClose 25 = .ok (.aload_n 0, 1) := by decide +kernel
theorem dX0_areClose_26 : decode cX0_areClose 26 = .ok (.iload_n 2, 1) := by decide +kernel
theorem dX0_areClose_27 : decode cX0_areClose 27 = .ok (.invokevirtual 118, 3) := by decide +kernel
theorem dX0_areClose_30 : decode cX0_areClose 30 = .ok (.isub, 1) := by decide +kernel
theorem dX0_areClose_31 : decode cX0_areClose 31 = .ok (.invokestatic 127, 3) := by decide +kernel
theorem dX0_areClose_34 : decode cX0_areClose 34 = .ok (.iconst 1, 1) := by decide +kernel
theorem dX0_areClose_35 : decode cX0_areClose 35 = .ok (.if_icmp .gt 7, 3) := by decide +kernel
theorem dX0_areClose_38 : decode cX0_areClose 38 = .ok (.iconst 1, 1) := by decide +kernel
theorem dX0_areClose_39 : decode cX0_areClose 39 = .ok (.goto 4, 3) := by decide +kernel
theorem dX0_areClose_42 : decode cX0_areClose 42 = .ok (.iconst 0, 1) := by decide +kernel
theorem dX0_areClose_43 : decode cX0_areClose 43 = .ok (.ireturn, 1) := by decide +kernel
theorem dX0_dislikeOf_0 : decode cX0_dislikeOf 0 = .ok (.aload_n 0, 1) := by decide +kernel
theorem dX0_dislikeOf_1 : decode cX0_dislikeOf 1 = .ok (.iload_n 1, 1) := by decide +kernel
theorem dX0_dislikeOf_2 : decode cX0_dislikeOf 2 = .ok (.invokevirtual 64, 3) := by decide +kernel
theorem dX0_dislikeOf_5 : decode cX0_dislikeOf 5 = .ok (.ifCond .eq 25, 3) := by decide +kernel
theorem dX0_dislikeOf_8 : decode cX0_dislikeOf 8 = .ok (.aload_n 0, 1) := by decide +kernel
theorem dX0_dislikeOf_9 : decode cX0_dislikeOf 9 = .ok (.iload_n 2, 1) := by decide +kernel
theorem dX0_dislikeOf_10 : decode cX0_dislikeOf 10 = .ok (.invokevirtual 105, 3) := by decide +kernel
theorem dX0_dislikeOf_13 : decode cX0_dislikeOf 13 = .ok (.ifCond .eq 17, 3) := by decide +kernel
theorem dX0_dislikeOf_16 : decode cX0_dislikeOf 16 = .ok (.aload_n 0, 1) := by decide +kernel
theorem dX0_dislikeOf_17 : decode cX0_dislikeOf 17 = .ok (.getfield 46, 3) := by decide +kernel
theorem dX0_dislikeOf_20 : decode cX0_dislikeOf 20 = .ok (.iload_n 1, 1) := by decide +kernel
theorem dX0_dislikeOf_21 : decode cX0_dislikeOf 21 = .ok (.bipush 24, 2) := by decide +kernel
theorem dX0_dislikeOf_23 : decode cX0_dislikeOf 23 = .ok (.imul, 1) := by decide +kernel
theorem dX0_dislikeOf_24 : decode cX0_dislikeOf 24 = .ok (.iload_n 2, 1) := by decide +kernel
theorem dX0_dislikeOf_25 : decode cX0_dislikeOf 25 = .ok (.iadd, 1) := by decide +kernel
theorem dX0_dislikeOf_26 : decode cX0_dislikeOf 26 = .ok (.iaload, 1) := by decide +kernel
theorem dX0_dislikeOf_27 : decode cX0_dislikeOf 27 = .ok (.goto 4, 3) := by decide +kernel
theorem dX0_dislikeOf_30 : decode cX0_dislikeOf 30 = .ok (.iconst 0, 1) := by decide +kernel
theorem dX0_dislikeOf_31 : decode cX0_dislikeOf 31 = .ok (.ireturn, 1) := by decide +kernel
theorem dX0_putDislike_0 : decode cX0_putDislike 0 = .ok (.aload_n 0, 1) := by decide +kernel
theorem dX0_putDislike_1 : decode cX0_putDislike 1 = .ok (.iload_n 1, 1) := by decide +kernel
theorem dX0_putDislike_2 : decode cX0_putDislike 2 = .ok (.invokevirtual 64, 3) := by decide +kernel
theorem dX0_putDislike_5 : decode cX0_putDislike 5 = .ok (.ifCond .eq 23, 3) := by decide +kernel
theorem dX0_putDislike_8 : decode cX0_putDislike 8 = .ok (.aload_n 0, 1) := by decide +kernel
theorem dX0_putDislike_9 : decode cX0_putDislike 9 = .ok (.iload_n 2, 1) := by decide +kernel
theorem dX0_putDislike_10 : decode cX0_putDislike 10 = .ok (.invokevirtual 105, 3) := by decide +kernel
theorem dX0_putDislike_13 : decode cX0_putDislike 13 = .ok (.ifCond .eq 15, 3) := by decide +kernel
theorem dX0_putDislike_16 : decode cX0_putDislike 16 = .ok (.aload_n 0, 1) := by decide +kernel
theorem dX0_putDislike_17 : decode cX0_putDislike 17 = .ok (.getfield 46, 3) := by decide +kernel
theorem dX0_putDislike_20 : decode cX0_putDislike 20 = .ok (.iload_n 1, 1) := by decide +kernel
theorem dX0_putDislike_21 : decode cX0_putDislike 21 = .ok (.bipush 24, 2) := by decide +kernel
theorem dX0_putDislike_23 : decode cX0_putDislike 23 = .ok (.imul, 1) := by decide +kernel
theorem dX0_putDislike_24 : decode cX0_putDislike 24 = .ok (.iload_n 2, 1) := by decide +kernel
theorem dX0_putDislike_25 : decode cX0_putDislike 25 = .ok (.iadd, 1) := by decide +kernel
theorem dX0_putDislike_26 : decode cX0_putDislike 26 = .ok (.iload_n 3, 1) := by decide +kernel
theorem dX0_putDislike_27 : decode cX0_putDislike 27 = .ok (.iastore, 1) := by decide +kernel
theorem dX0_putDislike_28 : decode cX0_putDislike 28 = .ok (.return_, 1) := by decide +kernel
theorem dX0_closeYear_0 : decode cX0_closeYear 0 = .ok (.iconst 0, 1) := by decide +kernel
theorem dX0_closeYear_1 : decode cX0_closeYear 1 = .ok (.istore_n 1, 1) := by decide +kernel
theorem dX0_closeYear_2 : decode cX0_closeYear 2 = .ok (.iload_n 1, 1) := by decide +kernel
theorem dX0_closeYear_3 : decode cX0_closeYear 3 = .ok (.aload_n 0, 1) := by decide +kernel
theorem dX0_closeYear_4 : decode cX0_closeYear 4 = .ok (.getfield 49, 3) := by decide +kernel
theorem dX0_closeYear_7 : decode cX0_closeYear 7 = .ok (.if_icmp .ge 53, 3) := by decide +kernel
theorem dX0_closeYear_10 : decode cX0_closeYear 10 = .ok (.iconst 0, 1) := by decide +kernel
theorem dX0_closeYear_11 : decode cX0_closeYear 11 = .ok (.istore_n 2, 1) := by decide +kernel
theorem dX0_closeYear_12 : decode cX0_closeYear 12 = .ok (.iload_n 2, 1) := by decide +kernel
theorem dX0_closeYear_13 : decode cX0_closeYear 13 = .ok (.iconst 4, 1) := by decide +kernel
theorem dX0_closeYear_14 : decode cX0_closeYear 14 = .ok (.if_icmp .ge 40, 3) := by decide +kernel
theorem dX0_closeYear_17 : decode cX0_closeYear 17 = .ok (.aload_n 0, 1) := by decide +kernel
theorem dX0_closeYear_18 : decode cX0_closeYear 18 = .ok (.iload_n 1, 1) := by decide +kernel
theorem dX0_closeYear_19 : decode cX0_closeYear 19 = .ok (.iload_n 2, 1) := by decide +kernel
theorem dX0_closeYear_20 : decode cX0_closeYear 20 = .ok (.invokevirtual 82, 3) := by decide +kernel
theorem dX0_closeYear_23 : decode cX0_closeYear 23 = .ok (.aload_n 0, 1) := by decide +kernel
theorem dX0_closeYear_24 : decode cX0_closeYear 24 = .ok (.aload_n 0, 1) := by decide +kernel
theorem dX0_closeYear_25 : decode cX0_closeYear 25 = .ok (.getfield 9, 3) := by decide +kernel
theorem dX0_closeYear_28 : decode cX0_closeYear 28 = .ok (.iload_n 1, 1) := by decide +kernel
theorem dX0_closeYear_29 : decode cX0_closeYear 29 = .ok (.iload_n 2, 1) := by decide +kernel
theorem dX0_closeYear_30 : decode cX0_closeYear 30 = .ok (.invokevirtual 96, 3) := by decide +kernel
theorem dX0_closeYear_33 : decode cX0_closeYear 33 = .ok (.iadd, 1) := by decide +kernel
theorem dX0_closeYear_34 : decode cX0_closeYear 34 = .ok (.istore_n 3, 1) := by decide +kernel
theorem dX0_closeYear_35 : decode cX0_closeYear 35 = .ok (.aload_n 0, 1) := by decide +kernel
theorem dX0_closeYear_36 : decode cX0_closeYear 36 = .ok (.iload_n 1, 1) := by decide +kernel
theorem dX0_closeYear_37 : decode cX0_closeYear 37 = .ok (.iload_n 2, 1) := by decide +kernel
theorem dX0_closeYear_38 : decode cX0_closeYear 38 = .ok (.iload_n 3, 1) := by decide +kernel
theorem dX0_closeYear_39 : decode cX0_closeYear 39 = .ok (.sipush 999, 3) := by decide +kernel
theorem dX0_closeYear_42 : decode cX0_closeYear 42 = .ok (.invokestatic 132, 3) := by decide +kernel
theorem dX0_closeYear_45 : decode cX0_closeYear 45 = .ok (.invokevirtual 135, 3) := by decide +kernel
theorem dX0_closeYear_48 : decode cX0_closeYear 48 = .ok (.iinc 2 1, 3) := by decide +kernel
theorem dX0_closeYear_51 : decode cX0_closeYear 51 = .ok (.goto (-39), 3) := by decide +kernel
theorem dX0_closeYear_54 : decode cX0_closeYear 54 = .ok (.iinc 1 1, 3) := by decide +kernel
theorem dX0_closeYear_57 : decode cX0_closeYear 57 = .ok (.goto (-55), 3) := by decide +kernel
theorem dX0_closeYear_60 : decode cX0_closeYear 60 = .ok (.iconst 0, 1) := by decide +kernel
theorem dX0_closeYear_61 : decode cX0_closeYear 61 = .ok (.istore_n 1, 1) := by decide +kernel
theorem dX0_closeYear_62 : decode cX0_closeYear 62 = .ok (.iload_n 1, 1) := by decide +kernel
theorem dX0_closeYear_63 : decode cX0_closeYear 63 = .ok (.aload_n 0, 1) := by decide +kernel
theorem dX0_closeYear_64 : decode cX0_closeYear 64 = .ok (.getfield 46, 3) := by decide +kernel
theorem dX0_closeYear_67 : decode cX0_closeYear 67 = .ok (.arraylength, 1) := by decide +kernel
theorem dX0_closeYear_68 : decode cX0_closeYear 68 = .ok (.if_icmp .ge 16, 3) := by decide +kernel
theorem dX0_closeYear_71 : decode cX0_closeYear 71 = .ok (.aload_n 0, 1) := by decide +kernel
theorem dX0_closeYear_72 : decode cX0_closeYear 72 = .ok (.getfield 46, 3) := by decide +kernel
theorem dX0_closeYear_75 : decode cX0_closeYear 75 = .ok (.iload_n 1, 1) := by decide +kernel
theorem dX0_closeYear_76 : decode cX0_closeYear 76 = .ok (.iconst 0, 1) := by decide +kernel
theorem dX0_closeYear_77 : decode cX0_closeYear 77 = .ok (.iastore, 1) := by decide +kernel
theorem dX0_closeYear_78 : decode cX0_closeYear 78 = .ok (.iinc 1 1, 3) := by decide +kernel
theorem dX0_closeYear_81 : decode cX0_closeYear 81 = .ok (.goto (-19), 3) := by decide +kernel
theorem dX0_closeYear_84 : decode cX0_closeYear 84 = .ok (.aload_n 0, 1) := by decide +kernel
theorem dX0_closeYear_85 : decode cX0_closeYear 85 = .ok (.iconst 0, 1) := by decide +kernel
theorem dX0_closeYear_86 : decode cX0_closeYear 86 = .ok (.putfield 53, 3) := by decide +kernel
theorem dX0_closeYear_89 : decode cX0_closeYear 89 = .ok (.aload_n 0, 1) := by decide +kernel
theorem dX0_closeYear_90 : decode cX0_closeYear 90 = .ok (.dup, 1) := by decide +kernel
theorem dX0_closeYear_91 : decode cX0_closeYear 91 = .ok (.getfield 139, 3) := by decide +kernel
theorem dX0_closeYear_94 : decode cX0_closeYear 94 = .ok (.iconst 1, 1) := by decide +kernel
theorem dX0_closeYear_95 : decode cX0_closeYear 95 = .ok (.iadd, 1) := by decide +kernel
theorem dX0_closeYear_96 : decode cX0_closeYear 96 = .ok (.putfield 139, 3) := by decide +kernel
theorem dX0_closeYear_99 : decode cX0_closeYear 99 = .ok (.return_, 1) := by decide +kernel
theorem dX0_copyFrom_0 : decode cX0_copyFrom 0 = .ok (.aload_n 0, 1) := by decide +kernel
theorem dX0_copyFrom_1 : decode cX0_copyFrom 1 = .ok (.aload_n 1, 1) := by decide +kernel
theorem dX0_copyFrom_2 : decode cX0_copyFrom 2 = .ok (.getfield 49, 3) := by decide +kernel
theorem dX0_copyFrom_5 : decode cX0_copyFrom 5 = .ok (.putfield 49, 3) := by decide +kernel
theorem dX0_copyFrom_8 : decode cX0_copyFrom 8 = .ok (.aload_n 0, 1) := by decide +kernel
theorem dX0_copyFrom_9 : decode cX0_copyFrom 9 = .ok (.aload_n 1, 1) := by decide +kernel
theorem dX0_copyFrom_10 : decode cX0_copyFrom 10 = .ok (.getfield 53, 3) := by decide +kernel
theorem dX0_copyFrom_13 : decode cX0_copyFrom 13 = .ok (.putfield 53, 3) := by decide +kernel
theorem dX0_copyFrom_16 : decode cX0_copyFrom 16 = .ok (.aload_n 0, 1) := by decide +kernel
theorem dX0_copyFrom_17 : decode cX0_copyFrom 17 = .ok (.aload_n 1, 1) := by decide +kernel
theorem dX0_copyFrom_18 : decode cX0_copyFrom 18 = .ok (.getfield 139, 3) := by decide +kernel
theorem dX0_copyFrom_21 : decode cX0_copyFrom 21 = .ok (.putfield 139, 3) := by decide +kernel
theorem dX0_copyFrom_24 : decode cX0_copyFrom 24 = .ok (.iconst 0, 1) := by decide +kernel
theorem dX0_copyFrom_25 : decode cX0_copyFrom 25 = .ok (.istore_n 2, 1) := by decide +kernel
theorem dX0_copyFrom_26 : decode cX0_copyFrom 26 = .ok (.iload_n 2, 1) := by decide +kernel
theorem dX0_copyFrom_27 : decode cX0_copyFrom 27 = .ok (.bipush 8, 2) := by decide +kernel
theorem dX0_copyFrom_29 : decode cX0_copyFrom 29 = .ok (.if_icmp .ge 21, 3) := by decide +kernel
theorem dX0_copyFrom_32 : decode cX0_copyFrom 32 = .ok (.aload_n 0, 1) := by decide +kernel
theorem dX0_copyFrom_33 : decode cX0_copyFrom 33 = .ok (.getfield 18, 3) := by decide +kernel
theorem dX0_copyFrom_36 : decode cX0_copyFrom 36 = .ok (.iload_n 2, 1) := by decide +kernel
theorem dX0_copyFrom_37 : decode cX0_copyFrom 37 = .ok (.aload_n 1, 1) := by decide +kernel
theorem dX0_copyFrom_38 : decode cX0_copyFrom 38 = .ok (.getfield 18, 3) := by decide +kernel
theorem dX0_copyFrom_41 : decode cX0_copyFrom 41 = .ok (.iload_n 2, 1) := by decide +kernel
theorem dX0_copyFrom_42 : decode cX0_copyFrom 42 = .ok (.baload, 1) := by decide +kernel
theorem dX0_copyFrom_43 : decode cX0_copyFrom 43 = .ok (.bastore, 1) := by decide +kernel
theorem dX0_copyFrom_44 : decode cX0_copyFrom 44 = .ok (.iinc 2 1, 3) := by decide +kernel
theorem dX0_copyFrom_47 : decode cX0_copyFrom 47 = .ok (.goto (-21), 3) := by decide +kernel
theorem dX0_copyFrom_50 : decode cX0_copyFrom 50 = .ok (.aload_n 1, 1) := by decide +kernel
theorem dX0_copyFrom_51 : decode cX0_copyFrom 51 = .ok (.getfield 9, 3) := by decide +kernel
theorem dX0_copyFrom_54 : decode cX0_copyFrom 54 = .ok (.aload_n 0, 1) := by decide +kernel
theorem dX0_copyFrom_55 : decode cX0_copyFrom 55 = .ok (.getfield 9, 3) := by decide +kernel
theorem dX0_copyFrom_58 : decode cX0_copyFrom 58 = .ok (.invokestatic 142, 3) := by decide +kernel
theorem dX0_copyFrom_61 : decode cX0_copyFrom 61 = .ok (.aload_n 1, 1) := by decide +kernel
theorem dX0_copyFrom_62 : decode cX0_copyFrom 62 = .ok (.getfield 15, 3) := by decide +kernel
theorem dX0_copyFrom_65 : decode cX0_copyFrom 65 = .ok (.aload_n 0, 1) := by decide +kernel
theorem dX0_copyFrom_66 : decode cX0_copyFrom 66 = .ok (.getfield 15, 3) := by decide +kernel
theorem dX0_copyFrom_69 : decode cX0_copyFrom 69 = .ok (.invokestatic 142, 3) := by decide +kernel
theorem dX0_copyFrom_72 : decode cX0_copyFrom 72 = .ok (.aload_n 1, 1) := by decide +kernel
theorem dX0_copyFrom_73 : decode cX0_copyFrom 73 = .ok (.getfield 22, 3) := by decide +kernel
theorem dX0_copyFrom_76 : decode cX0_copyFrom 76 = .ok (.aload_n 0, 1) := by decide +kernel
theorem dX0_copyFrom_77 : decode cX0_copyFrom 77 = .ok (.getfield 22, 3) := by decide +kernel
theorem dX0_copyFrom_80 : decode cX0_copyFrom 80 = .ok (.invokestatic 142, 3) := by decide +kernel
theorem dX0_copyFrom_83 : decode cX0_copyFrom 83 = .ok (.aload_n 1, 1) := by decide +kernel
theorem dX0_copyFrom_84 : decode cX0_copyFrom 84 = .ok (.getfield 25, 3) := by decide +kernel
theorem dX0_copyFrom_87 : decode cX0_copyFrom 87 = .ok (.aload_n 0, 1) := by decide +kernel
theorem dX0_copyFrom_88 : decode cX0_copyFrom 88 = .ok (.getfield 25, 3) := by decide +kernel
theorem dX0_copyFrom_91 : decode cX0_copyFrom 91 = .ok (.invokestatic 142, 3) := by decide +kernel
theorem dX0_copyFrom_94 : decode cX0_copyFrom 94 = .ok (.aload_n 1, 1) := by decide +kernel
theorem dX0_copyFrom_95 : decode cX0_copyFrom 95 = .ok (.getfield 28, 3) := by decide +kernel
theorem dX0_copyFrom_98 : decode cX0_copyFrom 98 = .ok (.aload_n 0, 1) := by decide +kernel
theorem dX0_copyFrom_99 : decode cX0_copyFrom 99 = .ok (.getfield 28, 3) := by decide +kernel
theorem dX0_copyFrom_102 : decode cX0_copyFrom 102 = .ok (.invokestatic 142, 3) := by decide +kernel
theorem dX0_copyFrom_105 : decode cX0_copyFrom 105 = .ok (.aload_n 1, 1) := by decide +kernel
theorem dX0_copyFrom_106 : decode cX0_copyFrom 106 = .ok (.getfield 31, 3) := by decide +kernel
theorem dX0_copyFrom_109 : decode cX0_copyFrom 109 = .ok (.aload_n 0, 1) := by decide +kernel
theorem dX0_copyFrom_110 : decode cX0_copyFrom 110 = .ok (.getfield 31, 3) := by decide +kernel
theorem dX0_copyFrom_113 : decode cX0_copyFrom 113 = .ok (.invokestatic 142, 3) := by decide +kernel
theorem dX0_copyFrom_116 : decode cX0_copyFrom 116 = .ok (.aload_n 1, 1) := by decide +kernel
theorem dX0_copyFrom_117 : decode cX0_copyFrom 117 = .ok (.getfield 34, 3) := by decide +kernel
theorem dX0_copyFrom_120 : decode cX0_copyFrom 120 = .ok (.aload_n 0, 1) := by decide +kernel
theorem dX0_copyFrom_121 : decode cX0_copyFrom 121 = .ok (.getfield 34, 3) := by decide +kernel
theorem dX0_copyFrom_124 : decode cX0_copyFrom 124 = .ok (.invokestatic 142, 3) := by decide +kernel
theorem dX0_copyFrom_127 : decode cX0_copyFrom 127 = .ok (.aload_n 1, 1) := by decide +kernel
theorem dX0_copyFrom_128 : decode cX0_copyFrom 128 = .ok (.getfield 37, 3) := by decide +kernel
theorem dX0_copyFrom_131 : decode cX0_copyFrom 131 = .ok (.aload_n 0, 1) := by decide +kernel
theorem dX0_copyFrom_132 : decode cX0_copyFrom 132 = .ok (.getfield 37, 3) := by decide +kernel
theorem dX0_copyFrom_135 : decode cX0_copyFrom 135 = .ok (.invokestatic 142, 3) := by decide +kernel
theorem dX0_copyFrom_138 : decode cX0_copyFrom 138 = .ok (.aload_n 1, 1) := by decide +kernel
theorem dX0_copyFrom_139 : decode cX0_copyFrom 139 = .ok (.getfield 40, 3) := by decide +kernel
theorem dX0_copyFrom_142 : decode cX0_copyFrom 142 = .ok (.aload_n 0, 1) := by decide +kernel
theorem dX0_copyFrom_143 : decode cX0_copyFrom 143 = .ok (.getfield 40, 3) := by decide +kernel
theorem dX0_copyFrom_146 : decode cX0_copyFrom 146 = .ok (.invokestatic 142, 3) := by decide +kernel
theorem dX0_copyFrom_149 : decode cX0_copyFrom 149 = .ok (.aload_n 1, 1) := by decide +kernel
theorem dX0_copyFrom_150 : decode cX0_copyFrom 150 = .ok (.getfield 43, 3) := by decide +kernel
theorem dX0_copyFrom_153 : decode cX0_copyFrom 153 = .ok (.aload_n 0, 1) := by decide +kernel
theorem dX0_copyFrom_154 : decode cX0_copyFrom 154 = .ok (.getfield 43, 3) := by decide +kernel
theorem dX0_copyFrom_157 : decode cX0_copyFrom 157 = .ok (.invokestatic 142, 3) := by decide +kernel
theorem dX0_copyFrom_160 : decode cX0_copyFrom 160 = .ok (.aload_n 1, 1) := by decide +kernel
theorem dX0_copyFrom_161 : decode cX0_copyFrom 161 = .ok (.getfield 46, 3) := by decide +kernel
theorem dX0_copyFrom_164 : decode cX0_copyFrom 164 = .ok (.aload_n 0, 1) := by decide +kernel
theorem dX0_copyFrom_165 : decode cX0_copyFrom 165 = .ok (.getfield 46, 3) := by decide +kernel
theorem dX0_copyFrom_168 : decode cX0_copyFrom 168 = .ok (.invokestatic 142, 3) := by decide +kernel
theorem dX0_copyFrom_171 : decode cX0_copyFrom 171 = .ok (.return_, 1) := by decide +kernel
theorem dX0_copyRow_0 : decode cX0_copyRow 0 = .ok (.iconst 0, 1) := by decide +kernel
theorem dX0_copyRow_1 : decode cX0_copyRow 1 = .ok (.istore_n 2, 1) := by decide +kernel
theorem dX0_copyRow_2 : decode cX0_copyRow 2 = .ok (.iload_n 2, 1) := by decide +kernel
theorem dX0_copyRow_3 : decode cX0_copyRow 3 = .ok (.aload_n 0, 1) := by decide +kernel
theorem dX0_copyRow_4 : decode cX0_copyRow 4 = .ok (.arraylength, 1) := by decide +kernel
theorem dX0_copyRow_5 : decode cX0_copyRow 5 = .ok (.if_icmp .ge 21, 3) := by decide +kernel
theorem dX0_copyRow_8 : decode cX0_copyRow 8 = .ok (.iload_n 2, 1) := by decide +kernel
theorem dX0_copyRow_9 : decode cX0_copyRow 9 = .ok (.aload_n 1, 1) := by decide +kernel
theorem dX0_copyRow_10 : decode cX0_copyRow 10 = .ok (.arraylength, 1) := by decide +kernel
theorem dX0_copyRow_11 : decode cX0_copyRow 11 = .ok (.if_icmp .ge 15, 3) := by decide +kernel
theorem dX0_copyRow_14 : decode cX0_copyRow 14 = .ok (.aload_n 1, 1) := by decide +kernel
theorem dX0_copyRow_15 : decode cX0_copyRow 15 = .ok (.iload_n 2, 1) := by decide +kernel
theorem dX0_copyRow_16 : decode cX0_copyRow 16 = .ok (.aload_n 0, 1) := by decide +kernel
theorem dX0_copyRow_17 : decode cX0_copyRow 17 = .ok (.iload_n 2, 1) := by decide +kernel
theorem dX0_copyRow_18 : decode cX0_copyRow 18 = .ok (.iaload, 1) := by decide +kernel
theorem dX0_copyRow_19 : decode cX0_copyRow 19 = .ok (.iastore, 1) := by decide +kernel
theorem dX0_copyRow_20 : decode cX0_copyRow 20 = .ok (.iinc 2 1, 3) := by decide +kernel
theorem dX0_copyRow_23 : decode cX0_copyRow 23 = .ok (.goto (-21), 3) := by decide +kernel
theorem dX0_copyRow_26 : decode cX0_copyRow 26 = .ok (.return_, 1) := by decide +kernel
theorem dX1_init_0 : decode cX1_init 0 = .ok (.aload_n 0, 1) := by decide +kernel
theorem dX1_init_1 : decode cX1_init 1 = .ok (.invokespecial 3, 3) := by decide +kernel
theorem dX1_init_4 : decode cX1_init 4 = .ok (.aload_n 0, 1) := by decide +kernel
theorem dX1_init_5 : decode cX1_init 5 = .ok (.bipush 6, 2) := by decide +kernel
theorem dX1_init_7 : decode cX1_init 7 = .ok (.newarray .int, 2) := by decide +kernel
theorem dX1_init_9 : decode cX1_init 9 = .ok (.putfield 11, 3) := by decide +kernel
theorem dX1_init_12 : decode cX1_init 12 = .ok (.aload_n 0, 1) := by decide +kernel
theorem dX1_init_13 : decode cX1_init 13 = .ok (.aload_n 1, 1) := by decide +kernel
theorem dX1_init_14 : decode cX1_init 14 = .ok (.putfield 15, 3) := by decide +kernel
theorem dX1_init_17 : decode cX1_init 17 = .ok (.aload_n 0, 1) := by decide +kernel
theorem dX1_init_18 : decode cX1_init 18 = .ok (.aload_n 2, 1) := by decide +kernel
theorem dX1_init_19 : decode cX1_init 19 = .ok (.putfield 19, 3) := by decide +kernel
theorem dX1_init_22 : decode cX1_init 22 = .ok (.return_, 1) := by decide +kernel
theorem dX1_pickDuties_0 : decode cX1_pickDuties 0 = .ok (.iconst 0, 1) := by decide +kernel
theorem dX1_pickDuties_1 : decode cX1_pickDuties 1 = .ok (.istore_n 1, 1) := by decide +kernel
theorem dX1_pickDuties_2 : decode cX1_pickDuties 2 = .ok (.iconst (-1), 1) := by decide +kernel
theorem dX1_pickDuties_3 : decode cX1_pickDuties 3 = .ok (.istore_n 2, 1) := by decide +kernel
theorem dX1_pickDuties_4 : decode cX1_pickDuties 4 = .ok (.iload_n 2, 1) := by decide +kernel
theorem dX1_pickDuties_5 : decode cX1_pickDuties 5 = .ok (.aload_n 0, 1) := by decide +kernel
theorem dX1_pickDuties_6 : decode cX1_pickDuties 6 = .ok (.getfield 15, 3) := by decide +kernel
theorem dX1_pickDuties_9 : decode cX1_pickDuties 9 = .ok (.getfield 23, 3) := by decide +kernel
theorem dX1_pickDuties_12 : decode cX1_pickDuties 12 = .ok (.if_icmp .ge 66, 3) := by decide +kernel
theorem dX1_pickDuties_15 : decode cX1_pickDuties 15 = .ok (.iload_n 2, 1) := by decide +kernel
theorem dX1_pickDuties_16 : decode cX1_pickDuties 16 = .ok (.bipush 24, 2) := by decide +kernel
theorem dX1_pickDuties_18 : decode cX1_pickDuties 18 = .ok (.if_icmp .ge 60, 3) := by decide +kernel
theorem dX1_pickDuties_21 : decode cX1_pickDuties 21 = .ok (.aload_n 0, 1) := by decide +kernel
theorem dX1_pickDuties_22 : decode cX1_pickDuties 22 = .ok (.iload_n 2, 1) := by decide +kernel
theorem dX1_pickDuties_23 : decode cX1_pickDuties 23 = .ok (.invokevirtual 29, 3) := by decide +kernel
theorem dX1_pickDuties_26 : decode cX1_pickDuties 26 = .ok (.aload_n 0, 1) := by decide +kernel
theorem dX1_pickDuties_27 : decode cX1_pickDuties 27 = .ok (.getfield 19, 3) := by decide +kernel
theorem dX1_pickDuties_30 : decode cX1_pickDuties 30 = .ok (.invokevirtual 33, 3) := by decide +kernel
theorem dX1_pickDuties_33 : decode cX1_pickDuties 33 = .ok (.aload_n 0, 1) := by decide +kernel
theorem dX1_pickDuties_34 : decode cX1_pickDuties 34 = .ok (.iconst 0, 1) := by decide +kernel
theorem dX1_pickDuties_35 : decode cX1_pickDuties 35 = .ok (.invokevirtual 38, 3) := by decide +kernel
theorem dX1_pickDuties_38 : decode cX1_pickDuties 38 = .ok (.istore_n 3, 1) := by decide +kernel
theorem dX1_pickDuties_39 : decode cX1_pickDuties 39 = .ok (.aload_n 0, 1) := by decide +kernel
theorem dX1_pickDuties_40 : decode cX1_pickDuties 40 = .ok (.getfield 19, 3) := by decide +kernel
theorem dX1_pickDuties_43 : decode cX1_pickDuties 43 = .ok (.invokevirtual 42, 3) := by decide +kernel
theorem dX1_pickDuties_46 : decode cX1_pickDuties 46 = .ok (.aload_n 0, 1) := by decide +kernel
theorem dX1_pickDuties_47 : decode cX1_pickDuties 47 = .ok (.getfield 19, 3) := by decide +kernel
theorem dX1_pickDuties_50 : decode cX1_pickDuties 50 = .ok (.invokevirtual 45, 3) := by decide +kernel
theorem dX1_pickDuties_53 : decode cX1_pickDuties 53 = .ok (.ifCond .eq 5, 3) := by decide +kernel
theorem dX1_pickDuties_56 : decode cX1_pickDuties 56 = .ok (.iconst 0, 1) := by decide +kernel
theorem dX1_pickDuties_57 : decode cX1_pickDuties 57 = .ok (.ireturn, 1) := by decide +kernel
theorem dX1_pickDuties_58 : decode cX1_pickDuties 58 = .ok (.iload_n 3, 1) := by decide +kernel
theorem dX1_pickDuties_59 : decode cX1_pickDuties 59 = .ok (.ifCond .eq 13, 3) := by decide +kernel
theorem dX1_pickDuties_62 : decode cX1_pickDuties 62 = .ok (.iload_n 2, 1) := by decide +kernel
theorem dX1_pickDuties_63 : decode cX1_pickDuties 63 = .ok (.ifCond .lt 9, 3) := by decide +kernel
theorem dX1_pickDuties_66 : decode cX1_pickDuties 66 = .ok (.iload_n 1, 1) := by decide +kernel
theorem dX1_pickDuties_67 : decode cX1_pickDuties 67 = .ok (.iconst 1, 1) := by decide +kernel
theorem dX1_pickDuties_68 : decode cX1_pickDuties 68 = .ok (.iload_n 2, 1) := by decide +kernel
theorem dX1_pickDuties_69 : decode cX1_pickDuties 69 = .ok (.ishl, 1) := by decide +kernel
theorem dX1_pickDuties_70 : decode cX1_pickDuties 70 = .ok (.ior, 1) := by decide +kernel
theorem dX1_pickDuties_71 : decode cX1_pickDuties 71 = .ok (.istore_n 1, 1) := by decide +kernel
theorem dX1_pickDuties_72 : decode cX1_pickDuties 72 = .ok (.iinc 2 1, 3) := by decide +kernel
theorem dX1_pickDuties_75 : decode cX1_pickDuties 75 = .ok (.goto (-71), 3) := by decide +kernel
theorem dX1_pickDuties_78 : decode cX1_pickDuties 78 = .ok (.iload_n 1, 1) := by decide +kernel
theorem dX1_pickDuties_79 : decode cX1_pickDuties 79 = .ok (.ireturn, 1) := by decide +kernel
theorem dX1_noteValues_0 : decode cX1_noteValues 0 = .ok (.aload_n 0, 1) := by decide +kernel
theorem dX1_noteValues_1 : decode cX1_noteValues 1 = .ok (.getfield 15, 3) := by decide +kernel
theorem dX1_noteValues_4 : decode cX1_noteValues 4 = .ok (.iload_n 1, 1) := by decide +kernel
theorem dX1_noteValues_5 : decode cX1_noteValues 5 = .ok (.invokevirtual 49, 3) := by decide +kernel
theorem dX1_noteValues_8 : decode cX1_noteValues 8 = .ok (.istore_n 2, 1) := by decide +kernel
theorem dX1_noteValues_9 : decode cX1_noteValues 9 = .ok (.aload_n 0, 1) := by decide +kernel
theorem dX1_noteValues_10 : decode cX1_noteValues 10 = .ok (.getfield 11, 3) := by decide +kernel
theorem dX1_noteValues_13 : decode cX1_noteValues 13 = .ok (.iconst 0, 1) := by decide +kernel
theorem dX1_noteValues_14 : decode cX1_noteValues 14 = .ok (.aload_n 0, 1) := by decide +kernel
theorem dX1_noteValues_15 : decode cX1_noteValues 15 = .ok (.getfield 15, 3) := by decide +kernel
theorem dX1_noteValues_18 : decode cX1_noteValues 18 = .ok (.iload_n 1, 1) := by decide +kernel
theorem dX1_noteValues_19 : decode cX1_noteValues 19 = .ok (.invokevirtual 53, 3) := by decide +kernel
theorem dX1_noteValues_22 : decode cX1_noteValues 22 = .ok (.iastore, 1) := by decide +kernel
theorem dX1_noteValues_23 : decode cX1_noteValues 23 = .ok (.aload_n 0, 1) := by decide +kernel
theorem dX1_noteValues_24 : decode cX1_noteValues 24 = .ok (.getfield 11, 3) := by decide +kernel
theorem dX1_noteValues_27 : decode cX1_noteValues 27 = .ok (.iconst 1, 1) := by decide +kernel
theorem dX1_noteValues_28 : decode cX1_noteValues 28 = .ok (.aload_n 0, 1) := by decide +kernel
theorem dX1_noteValues_29 : decode cX1_noteValues 29 = .ok (.getfield 15, 3) := by decide +kernel
theorem dX1_noteValues_32 : decode cX1_noteValues 32 = .ok (.iload_n 1, 1) := by decide +kernel
theorem dX1_noteValues_33 : decode cX1_noteValues 33 = .ok (.invokevirtual 56, 3) := by decide +kernel
theorem dX1_noteValues_36 : decode cX1_noteValues 36 = .ok (.iastore, 1) := by decide +kernel
theorem dX1_noteValues_37 : decode cX1_noteValues 37 = .ok (.aload_n 0, 1) := by decide +kernel
theorem dX1_noteValues_38 : decode cX1_noteValues 38 = .ok (.getfield 11, 3) := by decide +kernel
theorem dX1_noteValues_41 : decode cX1_noteValues 41 = .ok (.iconst 2, 1) := by decide +kernel
theorem dX1_noteValues_42 : decode cX1_noteValues 42 = .ok (.iload_n 2, 1) := by decide +kernel
theorem dX1_noteValues_43 : decode cX1_noteValues 43 = .ok (.iconst (-1), 1) := by decide +kernel
theorem dX1_noteValues_44 : decode cX1_noteValues 44 = .ok (.if_icmp .ne 8, 3) := by decide +kernel
theorem dX1_noteValues_47 : decode cX1_noteValues 47 = .ok (.bipush 10, 2) := by decide +kernel
theorem dX1_noteValues_49 : decode cX1_noteValues 49 = .ok (.goto 4, 3) := by decide +kernel
theorem dX1_noteValues_52 : decode cX1_noteValues 52 = .ok (.iload_n 2, 1) := by decide +kernel
theorem dX1_noteValues_53 : decode cX1_noteValues 53 = .ok (.iastore, 1) := by decide +kernel
theorem dX1_noteValues_54 : decode cX1_noteValues 54 = .ok (.aload_n 0, 1) := by decide +kernel
theorem dX1_noteValues_55 : decode cX1_noteValues 55 = .ok (.getfield 11, 3) := by decide +kernel
theorem dX1_noteValues_58 : decode cX1_noteValues 58 = .ok (.iconst 3, 1) := by decide +kernel
theorem dX1_noteValues_59 : decode cX1_noteValues 59 = .ok (.iload_n 2, 1) := by decide +kernel
theorem dX1_noteValues_60 : decode cX1_noteValues 60 = .ok (.iconst (-1), 1) := by decide +kernel
theorem dX1_noteValues_61 : decode cX1_noteValues 61 = .ok (.if_icmp .ne 7, 3) := by decide +kernel
theorem dX1_noteValues_64 : decode cX1_noteValues 64 = .ok (.iconst 0, 1) := by decide +kernel
theorem dX1_noteValues_65 : decode cX1_noteValues 65 = .ok (.goto 4, 3) := by decide +kernel
theorem dX1_noteValues_68 : decode cX1_noteValues 68 = .ok (.iconst 1, 1) := by decide +kernel
theorem dX1_noteValues_69 : decode cX1_noteValues 69 = .ok (.iastore, 1) := by decide +kernel
theorem dX1_noteValues_70 : decode cX1_noteValues 70 = .ok (.aload_n 0, 1) := by decide +kernel
theorem dX1_noteValues_71 : decode cX1_noteValues 71 = .ok (.getfield 11, 3) := by decide +kernel
theorem dX1_noteValues_74 : decode cX1_noteValues 74 = .ok (.iconst 4, 1) := by decide +kernel
theorem dX1_noteValues_75 : decode cX1_noteValues 75 = .ok (.aload_n 0, 1) := by decide +kernel
theorem dX1_noteValues_76 : decode cX1_noteValues 76 = .ok (.getfield 15, 3) := by decide +kernel
theorem dX1_noteValues_79 : decode cX1_noteValues 79 = .ok (.iload_n 2, 1) := by decide +kernel
theorem dX1_noteValues_80 : decode cX1_noteValues 80 = .ok (.iload_n 1, 1) := by decide +kernel
theorem dX1_noteValues_81 : decode cX1_noteValues 81 = .ok (.invokevirtual 59, 3) := by decide +kernel
theorem dX1_noteValues_84 : decode cX1_noteValues 84 = .ok (.iastore, 1) := by decide +kernel
theorem dX1_noteValues_85 : decode cX1_noteValues 85 = .ok (.aload_n 0, 1) := by decide +kernel
theorem dX1_noteValues_86 : decode cX1_noteValues 86 = .ok (.getfield 11, 3) := by decide +kernel
theorem dX1_noteValues_89 : decode cX1_noteValues 89 = .ok (.iconst 5, 1) := by decide +kernel
theorem dX1_noteValues_90 : decode cX1_noteValues 90 = .ok (.aload_n 0, 1) := by decide +kernel
theorem dX1_noteValues_91 : decode cX1_noteValues 91 = .ok (.getfield 15, 3) := by decide +kernel
theorem dX1_noteValues_94 : decode cX1_noteValues 94 = .ok (.iload_n 1, 1) := by decide +kernel
theorem dX1_noteValues_95 : decode cX1_noteValues 95 = .ok (.invokevirtual 53, 3) := by decide +kernel
theorem dX1_noteValues_98 : decode cX1_noteValues 98 = .ok (.bipush 7, 2) := by decide +kernel
theorem dX1_noteValues_100 : decode cX1_noteValues 100 = .ok (.idiv, 1) := by decide +kernel
theorem dX1_noteValues_101 : decode cX1_noteValues 101 = .ok (.iastore, 1) := by decide +kernel
theorem dX1_noteValues_102 : decode cX1_noteValues 102 = .ok (.return_, 1) := by decide +kernel
theorem dX1_readEither_0 : decode cX1_readEither 0 = .ok (.aload_n 0, 1) := by decide +kernel
theorem dX1_readEither_1 : decode cX1_readEither 1 = .ok (.iload_n 1, 1) := by decide +kernel
theorem dX1_readEither_2 : decode cX1_readEither 2 = .ok (.invokevirtual 63, 3) := by decide +kernel
theorem dX1_readEither_5 : decode cX1_readEither 5 = .ok (.istore_n 2, 1) := by decide +kernel
theorem dX1_readEither_6 : decode cX1_readEither 6 = .ok (.iconst 0, 1) := by decide +kernel
theorem dX1_readEither_7 : decode cX1_readEither 7 = .ok (.istore_n 3, 1) := by decide +kernel
theorem dX1_readEither_8 : decode cX1_readEither 8 = .ok (.iload_n 3, 1) := by decide +kernel
theorem dX1_readEither_9 : decode cX1_readEither 9 = .ok (.sipush 150, 3) := by decide +kernel
theorem dX1_readEither_12 : decode cX1_readEither 12 = .ok (.if_icmp .ge 43, 3) := by decide +kernel
theorem dX1_readEither_15 : decode cX1_readEither 15 = .ok (.aload_n 0, 1) := by decide +kernel
theorem dX1_readEither_16 : decode cX1_readEither 16 = .ok (.getfield 19, 3) := by decide +kernel
theorem dX1_readEither_19 : decode cX1_readEither 19 = .ok (.bipush 124, 2) := by decide +kernel
theorem dX1_readEither_21 : decode cX1_readEither 21 = .ok (.invokevirtual 66, 3) := by decide +kernel
theorem dX1_readEither_24 : decode cX1_readEither 24 = .ok (.ifCond .eq 31, 3) := by decide +kernel
theorem dX1_readEither_27 : decode cX1_readEither 27 = .ok (.aload_n 0, 1) := by decide +kernel
theorem dX1_readEither_28 : decode cX1_readEither 28 = .ok (.iload_n 1, 1) := by decide +kernel
theorem dX1_readEither_29 : decode cX1_readEither 29 = .ok (.invokevirtual 63, 3) := by decide +kernel
theorem dX1_readEither_32 : decode cX1_readEither 32 = .ok (.istore 4, 2) := by decide +kernel
theorem dX1_readEither_34 : decode cX1_readEither 34 = .ok (.iload_n 2, 1) := by decide +kernel
theorem dX1_readEither_35 : decode cX1_readEither 35 = .ok (.ifCond .ne 8, 3) := by decide +kernel
theorem dX1_readEither_38 : decode cX1_readEither 38 = .ok (.iload 4, 2) := by decide +kernel
theorem dX1_readEither_40 : decode cX1_readEither 40 = .ok (.ifCond .eq 7, 3) := by decide +kernel
theorem dX1_readEither_43 : decode cX1_readEither 43 = .ok (.iconst 1, 1) := by decide +kernel
theorem dX1_readEither_44 : decode cX1_readEither 44 = .ok (.goto 4, 3) := by decide +kernel
theorem dX1_readEither_47 : decode cX1_readEither 47 = .ok (.iconst 0, 1) := by decide +kernel
theorem dX1_readEither_48 : decode cX1_readEither 48 = .ok (.istore_n 2, 1) := by decide +kernel
theorem dX1_readEither_49 : decode cX1_readEither 49 = .ok (.iinc 3 1, 3) := by decide +kernel
theorem dX1_readEither_52 : decode cX1_readEither 52 = .ok (.goto (-44), 3) := by decide +kernel
theorem dX1_readEither_55 : decode cX1_readEither 55 = .ok (.iload_n 2, 1) := by decide +kernel
theorem dX1_readEither_56 : decode cX1_readEither 56 = .ok (.ireturn, 1) := by decide +kernel
theorem dX1_readBoth_0 : decode cX1_readBoth 0 = .ok (.aload_n 0, 1) := by decide +kernel
theorem dX1_readBoth_1 : decode cX1_readBoth 1 = .ok (.iload_n 1, 1) := by decide +kernel
theorem dX1_readBoth_2 : decode cX1_readBoth 2 = .ok (.invokevirtual 69, 3) := by decide +kernel
theorem dX1_readBoth_5 : decode cX1_readBoth 5 = .ok (.istore_n 2, 1) := by decide +kernel
theorem dX1_readBoth_6 : decode cX1_readBoth 6 = .ok (.iconst 0, 1) := by decide +kernel
theorem dX1_readBoth_7 : decode cX1_readBoth 7 = .ok (.istore_n 3, 1) := by decide +kernel
theorem dX1_readBoth_8 : decode cX1_readBoth 8 = .ok (.iload_n 3, 1) := by decide +kernel
theorem dX1_readBoth_9 : decode cX1_readBoth 9 = .ok (.sipush 150, 3) := by decide +kernel
theorem dX1_readBoth_12 : decode cX1_readBoth 12 = .ok (.if_icmp .ge 43, 3) := by decide +kernel
theorem dX1_readBoth_15 : decode cX1_readBoth 15 = .ok (.aload_n 0, 1) := by decide +kernel
theorem dX1_readBoth_16 : decode cX1_readBoth 16 = .ok (.getfield 19, 3) := by decide +kernel
theorem dX1_readBoth_19 : decode cX1_readBoth 19 = .ok (.bipush 38, 2) := by decide +kernel
theorem dX1_readBoth_21 : decode cX1_readBoth 21 = .ok (.invokevirtual 66, 3) := by decide +kernel
theorem dX1_readBoth_24 : decode cX1_readBoth 24 = .ok (.ifCond .eq 31, 3) := by decide +kernel
theorem dX1_readBoth_27 : decode cX1_readBoth 27 = .ok (.aload_n 0, 1) := by decide +kernel
theorem dX1_readBoth_28 : decode cX1_readBoth 28 = .ok (.iload_n 1, 1) := by decide +kernel
theorem dX1_readBoth_29 : decode cX1_readBoth 29 = .ok (.invokevirtual 69, 3) := by decide +kernel
theorem dX1_readBoth_32 : decode cX1_readBoth 32 = .ok (.istore 4, 2) := by decide +kernel
theorem dX1_readBoth_34 : decode cX1_readBoth 34 = .ok (.iload_n 2, 1) := by decide +kernel
theorem dX1_readBoth_35 : decode cX1_readBoth 35 = .ok (.ifCond .eq 12, 3) := by decide +kernel
theorem dX1_readBoth_38 : decode cX1_readBoth 38 = .ok (.iload 4, 2) := by decide +kernel
theorem dX1_readBoth_40 : decode cX1_readBoth 40 = .ok (.ifCond .eq 7, 3) := by decide +kernel
theorem dX1_readBoth_43 : decode cX1_readBoth 43 = .ok (.iconst 1, 1) := by decide +kernel
theorem dX1_readBoth_44 : decode cX1_readBoth 44 = .ok (.goto 4, 3) := by decide +kernel
theorem dX1_readBoth_47 : decode cX1_readBoth 47 = .ok (.iconst 0, 1) := by decide +kernel
theorem dX1_readBoth_48 : decode cX1_readBoth 48 = .ok (.istore_n 2, 1) := by decide +kernel
theorem dX1_readBoth_49 : decode cX1_readBoth 49 = .ok (.iinc 3 1, 3) := by decide +kernel
theorem dX1_readBoth_52 : decode cX1_readBoth 52 = .ok (.goto (-44), 3) := by decide +kernel
theorem dX1_readBoth_55 : decode cX1_readBoth 55 = .ok (.iload_n 2, 1) := by decide +kernel
theorem dX1_readBoth_56 : decode cX1_readBoth 56 = .ok (.ireturn, 1) := by decide +kernel
theorem dX1_readOne_0 : decode cX1_readOne 0 = .ok (.iload_n 1, 1) := by decide +kernel
theorem dX1_readOne_1 : decode cX1_readOne 1 = .ok (.iconst 4, 1) := by decide +kernel
theorem dX1_readOne_2 : decode cX1_readOne 2 = .ok (.if_icmp .ge 31, 3) := by decide +kernel
theorem dX1_readOne_5 : decode cX1_readOne 5 = .ok (.aload_n 0, 1) := by decide +kernel
theorem dX1_readOne_6 : decode cX1_readOne 6 = .ok (.getfield 19, 3) := by decide +kernel
theorem dX1_readOne_9 : decode cX1_readOne 9 = .ok (.bipush 33, 2) := by decide +kernel
theorem dX1_readOne_11 : decode cX1_readOne 11 = .ok (.invokevirtual 66, 3) := by decide +kernel
theorem dX1_readOne_14 : decode cX1_readOne 14 = .ok (.ifCond .eq 19, 3) := by decide +kernel
theorem dX1_readOne_17 : decode cX1_readOne 17 = .ok (.aload_n 0, 1) := by decide +kernel
theorem dX1_readOne_18 : decode cX1_readOne 18 = .ok (.iload_n 1, 1) := by decide +kernel
theorem dX1_readOne_19 : decode cX1_readOne 19 = .ok (.iconst 1, 1) := by decide +kernel
theorem dX1_readOne_20 : decode cX1_readOne 20 = .ok (.iadd, 1) := by decide +kernel
theorem dX1_readOne_21 : decode cX1_readOne 21 = .ok (.invokevirtual 69, 3) := by decide +kernel
theorem dX1_readOne_24 : decode cX1_readOne 24 = .ok (.ifCond .ne 7, 3) := by decide +kernel
theorem dX1_readOne_27 : decode cX1_readOne 27 = .ok (.iconst 1, 1) := by decide +kernel
theorem dX1_readOne_28 : decode cX1_readOne 28 = .ok (.goto 4, 3) := by decide +kernel
theorem dX1_readOne_31 : decode cX1_readOne 31 = .ok (.iconst 0, 1) := by decide +kernel
theorem dX1_readOne_32 : decode cX1_readOne 32 = .ok (.ireturn, 1) := by decide +kernel
theorem dX1_readOne_33 : decode cX1_readOne 33 = .ok (.iload_n 1, 1) := by decide +kernel
theorem dX1_readOne_34 : decode cX1_readOne 34 = .ok (.iconst 4, 1) := by decide +kernel
theorem dX1_readOne_35 : decode cX1_readOne 35 = .ok (.if_icmp .ge 34, 3) := by decide +kernel
theorem dX1_readOne_38 : decode cX1_readOne 38 = .ok (.aload_n 0, 1) := by decide +kernel
theorem dX1_readOne_39 : decode cX1_readOne 39 = .ok (.getfield 19, 3) := by decide +kernel
theorem dX1_readOne_42 : decode cX1_readOne 42 = .ok (.bipush 40, 2) := by decide +kernel
theorem dX1_readOne_44 : decode cX1_readOne 44 = .ok (.invokevirtual 66, 3) := by decide +kernel
theorem dX1_readOne_47 : decode cX1_readOne 47 = .ok (.ifCond .eq 22, 3) := by decide +kernel
theorem dX1_readOne_50 : decode cX1_readOne 50 = .ok (.aload_n 0, 1) := by decide +kernel
theorem dX1_readOne_51 : decode cX1_readOne 51 = .ok (.iload_n 1, 1) := by decide +kernel
theorem dX1_readOne_52 : decode cX1_readOne 52 = .ok (.iconst 1, 1) := by decide +kernel
theorem dX1_readOne_53 : decode cX1_readOne 53 = .ok (.iadd, 1) := by decide +kernel
theorem dX1_readOne_54 : decode cX1_readOne 54 = .ok (.invokevirtual 38, 3) := by decide +kernel
theorem dX1_readOne_57 : decode cX1_readOne 57 = .ok (.istore_n 2, 1) := by decide +kernel
theorem dX1_readOne_58 : decode cX1_readOne 58 = .ok (.aload_n 0, 1) := by decide +kernel
theorem dX1_readOne_59 : decode cX1_readOne 59 = .ok (.getfield 19, 3) := by decide +kernel
theorem dX1_readOne_62 : decode cX1_readOne 62 = .ok (.bipush 41, 2) := by decide +kernel
theorem dX1_readOne_64 : decode cX1_readOne 64 = .ok (.invokevirtual 72, 3) := by decide +kernel
theorem dX1_readOne_67 : decode cX1_readOne 67 = .ok (.iload_n 2, 1) := by decide +kernel
theorem dX1_readOne_68 : decode cX1_readOne 68 = .ok (.ireturn, 1) := by decide +kernel
theorem dX1_readOne_69 : decode cX1_readOne 69 = .ok (.aload_n 0, 1) := by decide +kernel
theorem dX1_readOne_70 : decode cX1_readOne 70 = .ok (.invokevirtual 75, 3) := by decide +kernel
theorem dX1_readOne_73 : decode cX1_readOne 73 = .ok (.ireturn, 1) := by decide +kernel
theorem dX1_readComparison_0 : decode cX1_readComparison 0 = .ok (.aload_n 0, 1) := by decide +kernel
theorem dX1_readComparison_1 : decode cX1_readComparison 1 = .ok (.getfield 19, 3) := by decide +kernel
theorem dX1_readComparison_4 : decode cX1_readComparison 4 = .ok (.invokevirtual 78, 3) := by decide +kernel
theorem dX1_readComparison_7 : decode cX1_readComparison 7 = .ok (.istore_n 1, 1) := by decide +kernel
theorem dX1_readComparison_8 : decode cX1_readComparison 8 = .ok (.aload_n 0, 1) := by decide +kernel
theorem dX1_readComparison_9 : decode cX1_readComparison 9 = .ok (.getfield 19, 3) := by decide +kernel
theorem dX1_readComparison_12 : decode cX1_readComparison 12 = .ok (.invokevirtual 82, 3) := by decide +kernel
theorem dX1_readComparison_15 : decode cX1_readComparison 15 = .ok (.aload_n 0, 1) := by decide +kernel
theorem dX1_readComparison_16 : decode cX1_readComparison 16 = .ok (.iload_n 1, 1) := by decide +kernel
theorem dX1_readComparison_17 : decode cX1_readComparison 17 = .ok (.invokevirtual 85, 3) := by decide +kernel
theorem dX1_readComparison_20 : decode cX1_readComparison 20 = .ok (.istore_n 2, 1) := by decide +kernel
theorem dX1_readComparison_21 : decode cX1_readComparison 21 = .ok (.iload_n 2, 1) := by decide +kernel
theorem dX1_readComparison_22 : decode cX1_readComparison 22 = .ok (.ifCond .lt 9, 3) := by decide +kernel
theorem dX1_readComparison_25 : decode cX1_readComparison 25 = .ok (.iload_n 2, 1) := by decide +kernel
theorem dX1_readComparison_26 : decode cX1_readComparison 26 = .ok (.bipush 6, 2) := by decide +kernel
theorem dX1_readComparison_28 : decode cX1_readComparison 28 = .ok (.if_icmp .lt 13, 3) := by decide +kernel
theorem dX1_readComparison_31 : decode cX1_readComparison 31 = .ok (.aload_n 0, 1) := by decide +kernel
theorem dX1_readComparison_32 : decode cX1_readComparison 32 = .ok (.getfield 19, 3) := by decide +kernel
theorem dX1_readComparison_35 : decode cX1_readComparison 35 = .ok (.iload_n 1, 1) := by decide +kernel
theorem dX1_readComparison_36 : decode cX1_readComparison 36 = .ok (.invokevirtual 88, 3) := by decide +kernel
theorem dX1_readComparison_39 : decode cX1_readComparison 39 = .ok (.iconst 0, 1) := by decide +kernel
theorem dX1_readComparison_40 : decode cX1_readComparison 40 = .ok (.ireturn, 1) := by decide +kernel
theorem dX1_readComparison_41 : decode cX1_readComparison 41 = .ok (.aload_n 0, 1) := by decide +kernel
theorem dX1_readComparison_42 : decode cX1_readComparison 42 = .ok (.getfield 19, 3) := by decide +kernel
theorem dX1_readComparison_45 : decode cX1_readComparison 45 = .ok (.bipush 60, 2) := by decide +kernel
theorem dX1_readComparison_47 : decode cX1_readComparison 47 = .ok (.invokevirtual 66, 3) := by decide +kernel
theorem dX1_readComparison_50 : decode cX1_readComparison 50 = .ok (.ifCond .eq 29, 3) := by decide +kernel
theorem dX1_readComparison_53 : decode cX1_readComparison 53 = .ok (.aload_n 0, 1) := by decide +kernel
theorem dX1_readComparison_54 : decode cX1_readComparison 54 = .ok (.getfield 11, 3) := by decide +kernel
theorem dX1_readComparison_57 : decode cX1_readComparison 57 = .ok (.iload_n 2, 1) := by decide +kernel
theorem dX1_readComparison_58 : decode cX1_readComparison 58 = .ok (.iaload, 1) := by decide +kernel
theorem dX1_readComparison_59 : decode cX1_readComparison 59 = .ok (.aload_n 0, 1) := by decide +kernel
theorem dX1_readComparison_60 : decode cX1_readComparison 60 = .ok (.getfield 19, 3) := by decide +kernel
theorem dX1_readComparison_63 : decode cX1_readComparison 63 = .ok (.iconst 0, 1) := by decide +kernel
theorem dX1_readComparison_64 : decode cX1_readComparison 64 = .ok (.sipush 999, 3) := by decide +kernel
theorem dX1_readComparison_67 : decode cX1_readComparison 67 = .ok (.invokevirtual 91, 3) := by decide +kernel
theorem dX1_readComparison_70 : decode cX1_readComparison 70 = .ok (.if_icmp .ge 7, 3) := by decide +kernel
theorem dX1_readComparison_73 : decode cX1_readComparison 73 = .ok (.iconst 1, 1) := by decide +kernel
theorem dX1_readComparison_74 : decode cX1_readComparison 74 = .ok (.goto 4, 3) := by decide +kernel
theorem dX1_readComparison_77 : decode cX1_readComparison 77 = .ok (.iconst 0, 1) := by decide +kernel
theorem dX1_readComparison_78 : decode cX1_readComparison 78 = .ok (.ireturn, 1) := by decide +kernel
theorem dX1_readComparison_79 : decode cX1_readComparison 79 = .ok (.aload_n 0, 1) := by decide +kernel
theorem dX1_readComparison_80 : decode cX1_readComparison 80 = .ok (.getfield 19, 3) := by decide +kernel
theorem dX1_readComparison_83 : decode cX1_readComparison 83 = .ok (.bipush 62, 2) := by decide +kernel
theorem dX1_readComparison_85 : decode cX1_readComparison 85 = .ok (.invokevirtual 66, 3) := by decide +kernel
theorem dX1_readComparison_88 : decode cX1_readComparison 88 = .ok (.ifCond .eq 29, 3) := by decide +kernel
theorem dX1_readComparison_91 : decode cX1_readComparison 91 = .ok (.aload_n 0, 1) := by decide +kernel
theorem dX1_readComparison_92 : decode cX1_readComparison 92 = .ok (.getfield 11, 3) := by decide +kernel
theorem dX1_readComparison_95 : decode cX1_readComparison 95 = .ok (.iload_n 2, 1) := by decide +kernel
theorem dX1_readComparison_96 : decode cX1_readComparison 96 = .ok (.iaload, 1) := by decide +kernel
theorem dX1_readComparison_97 : decode cX1_readComparison 97 = .ok (.aload_n 0, 1) := by decide +kernel
theorem dX1_readComparison_98 : decode cX1_readComparison 98 = .ok (.getfield 19, 3) := by decide +kernel
theorem dX1_readComparison_101 : decode cX1_readComparison 101 = .ok (.iconst 0, 1) := by decide +kernel
theorem dX1_readComparison_102 : decode cX1_readComparison 102 = .ok (.sipush 999, 3) := by decide +kernel
theorem dX1_readComparison_105 : decode cX1_readComparison 105 = .ok (.invokevirtual 91, 3) := by decide +kernel
theorem dX1_readComparison_108 : decode cX1_readComparison 108 = .ok (.if_icmp .le 7, 3) := by decide +kernel
theorem dX1_readComparison_111 : decode cX1_readComparison 111 = .ok (.iconst 1, 1) := by decide +kernel
theorem dX1_readComparison_112 : decode cX1_readComparison 112 = .ok (.goto 4, 3) := by decide +kernel
theorem dX1_readComparison_115 : decode cX1_readComparison 115 = .ok (.iconst 0, 1) := by decide +kernel
theorem dX1_readComparison_116 : decode cX1_readComparison 116 = .ok (.ireturn, 1) := by decide +kernel
theorem dX1_readComparison_117 : decode cX1_readComparison 117 = .ok (.aload_n 0, 1) := by decide +kernel
theorem dX1_readComparison_118 : decode cX1_readComparison 118 = .ok (.getfield 19, 3) := by decide +kernel
theorem dX1_readComparison_121 : decode cX1_readComparison 121 = .ok (.bipush 61, 2) := by decide +kernel
theorem dX1_readComparison_123 : decode cX1_readComparison 123 = .ok (.invokevirtual 66, 3) := by decide +kernel
theorem dX1_readComparison_126 : decode cX1_readComparison 126 = .ok (.ifCond .ne 17, 3) := by decide +kernel
theorem dX1_readComparison_129 : decode cX1_readComparison 129 = .ok (.aload_n 0, 1) := by decide +kernel
theorem dX1_readComparison_130 : decode cX1_readComparison 130 = .ok (.getfield 19, 3) := by decide +kernel
theorem dX1_readComparison_133 : decode cX1_readComparison 133 = .ok (.aload_n 0, 1) := by decide +kernel
theorem dX1_readComparison_134 : decode cX1_readComparison 134 = .ok (.getfield 19, 3) := by decide +kernel
theorem dX1_readComparison_137 : decode cX1_readComparison 137 = .ok (.invokevirtual 78, 3) := by decide +kernel
theorem dX1_readComparison_140 : decode cX1_readComparison 140 = .ok (.invokevirtual 88, 3) := by decide +kernel
theorem dX1_readComparison_143 : decode cX1_readComparison 143 = .ok (.aload_n 0, 1) := by decide +kernel
theorem dX1_readComparison_144 : decode cX1_readComparison 144 = .ok (.getfield 11, 3) := by decide +kernel
theorem dX1_readComparison_147 : decode cX1_readComparison 147 = .ok (.iload_n 2, 1) := by decide +kernel
theorem dX1_readComparison_148 : decode cX1_readComparison 148 = .ok (.iaload, 1) := by decide +kernel
theorem dX1_readComparison_149 : decode cX1_readComparison 149 = .ok (.aload_n 0, 1) := by decide +kernel
theorem dX1_readComparison_150 : decode cX1_readComparison 150 = .ok (.getfield 19, 3) := by decide +kernel
theorem dX1_readComparison_153 : decode cX1_readComparison 153 = .ok (.iconst 0, 1) := by decide +kernel
theorem dX1_readComparison_154 : decode cX1_readComparison 154 = .ok (.sipush 999, 3) := by decide +kernel
theorem dX1_readComparison_157 : decode cX1_readComparison 157 = .ok (.invokevirtual 91, 3) := by decide +kernel
theorem dX1_readComparison_160 : decode cX1_readComparison 160 = .ok (.if_icmp .ne 7, 3) := by decide +kernel
theorem dX1_readComparison_163 : decode cX1_readComparison 163 = .ok (.iconst 1, 1) := by decide +kernel
theorem dX1_readComparison_164 : decode cX1_readComparison 164 = .ok (.goto 4, 3) := by decide +kernel
theorem dX1_readComparison_167 : decode cX1_readComparison 167 = .ok (.iconst 0, 1) := by decide +kernel
theorem dX1_readComparison_168 : decode cX1_readComparison 168 = .ok (.ireturn, 1) := by decide +kernel
theorem dX1_wordFrom_0 : decode cX1_wordFrom 0 = .ok (.aload_n 0, 1) := by decide +kernel
theorem dX1_wordFrom_1 : decode cX1_wordFrom 1 = .ok (.getfield 19, 3) := by decide +kernel
theorem dX1_wordFrom_4 : decode cX1_wordFrom 4 = .ok (.iload_n 1, 1) := by decide +kernel
theorem dX1_wordFrom_5 : decode cX1_wordFrom 5 = .ok (.ldc 94, 2) := by decide +kernel
theorem dX1_wordFrom_7 : decode cX1_wordFrom 7 = .ok (.invokevirtual 96, 3) := by decide +kernel
theorem dX1_wordFrom_10 : decode cX1_wordFrom 10 = .ok (.ifCond .eq 5, 3) := by decide +kernel
theorem dX1_wordFrom_13 : decode cX1_wordFrom 13 = .ok (.iconst 0, 1) := by decide +kernel
theorem dX1_wordFrom_14 : decode cX1_wordFrom 14 = .ok (.ireturn, 1) := by decide +kernel
theorem dX1_wordFrom_15 : decode cX1_wordFrom 15 = .ok (.aload_n 0, 1) := by decide +kernel
theorem dX1_wordFrom_16 : decode cX1_wordFrom 16 = .ok (.getfield 19, 3) := by decide +kernel
theorem dX1_wordFrom_19 : decode cX1_wordFrom 19 = .ok (.iload_n 1, 1) := by decide +kernel
theorem dX1_wordFrom_20 : decode cX1_wordFrom 20 = .ok (.ldc 100, 2) := by decide +kernel
theorem dX1_wordFrom_22 : decode cX1_wordFrom 22 = .ok (.invokevirtual 96, 3) := by decide +kernel
theorem dX1_wordFrom_25 : decode cX1_wordFrom 25 = .ok (.ifCond .eq 5, 3) := by decide +kernel
theorem dX1_wordFrom_28 : decode cX1_wordFrom 28 = .ok (.iconst 1, 1) := by decide +kernel
theorem dX1_wordFrom_29 : decode cX1_wordFrom 29 = .ok (.ireturn, 1) := by decide +kernel
theorem dX1_wordFrom_30 : decode cX1_wordFrom 30 = .ok (.aload_n 0, 1) := by decide +kernel
theorem dX1_wordFrom_31 : decode cX1_wordFrom 31 = .ok (.getfield 19, 3) := by decide +kernel
theorem dX1_wordFrom_34 : decode cX1_wordFrom 34 = .ok (.iload_n 1, 1) := by decide +kernel
theorem dX1_wordFrom_35 : decode cX1_wordFrom 35 = .ok (.ldc 102, 2) := by decide +kernel
theorem dX1_wordFrom_37 : decode cX1_wordFrom 37 = .ok (.invokevirtual 96, 3) := by decide +kernel
theorem dX1_wordFrom_40 : decode cX1_wordFrom 40 = .ok (.ifCond .eq 5, 3) := by decide +kernel
theorem dX1_wordFrom_43 : decode cX1_wordFrom 43 = .ok (.iconst 2, 1) := by decide +kernel
theorem dX1_wordFrom_44 : decode cX1_wordFrom 44 = .ok (.ireturn, 1) := by decide +kernel
theorem dX1_wordFrom_45 : decode cX1_wordFrom 45 = .ok (.aload_n 0, 1) := by decide +kernel
theorem dX1_wordFrom_46 : decode cX1_wordFrom 46 = .ok (.getfield 19, 3) := by decide +kernel
theorem dX1_wordFrom_49 : decode cX1_wordFrom 49 = .ok (.iload_n 1, 1) := by decide +kernel
theorem dX1_wordFrom_50 : decode cX1_wordFrom 50 = .ok (.ldc 104, 2) := by decide +kernel
theorem dX1_wordFrom_52 : decode cX1_wordFrom 52 = .ok (.invokevirtual 96, 3) := by decide +kernel
theorem dX1_wordFrom_55 : decode cX1_wordFrom 55 = .ok (.ifCond .eq 5, 3) := by decide +kernel
theorem dX1_wordFrom_58 : decode cX1_wordFrom 58 = .ok (.iconst 3, 1) := by decide +kernel
theorem dX1_wordFrom_59 : decode cX1_wordFrom 59 = .ok (.ireturn, 1) := by decide +kernel
theorem dX1_wordFrom_60 : decode cX1_wordFrom 60 = .ok (.aload_n 0, 1) := by decide +kernel
theorem dX1_wordFrom_61 : decode cX1_wordFrom 61 = .ok (.getfield 19, 3) := by decide +kernel
theorem dX1_wordFrom_64 : decode cX1_wordFrom 64 = .ok (.iload_n 1, 1) := by decide +kernel
theorem dX1_wordFrom_65 : decode cX1_wordFrom 65 = .ok (.ldc 106, 2) := by decide +kernel
theorem dX1_wordFrom_67 : decode cX1_wordFrom 67 = .ok (.invokevirtual 96, 3) := by decide +kernel
theorem dX1_wordFrom_70 : decode cX1_wordFrom 70 = .ok (.ifCond .eq 5, 3) := by decide +kernel
theorem dX1_wordFrom_73 : decode cX1_wordFrom 73 = .ok (.iconst 4, 1) := by decide +kernel
theorem dX1_wordFrom_74 : decode cX1_wordFrom 74 = .ok (.ireturn, 1) := by decide +kernel
theorem dX1_wordFrom_75 : decode cX1_wordFrom 75 = .ok (.aload_n 0, 1) := by decide +kernel
theorem dX1_wordFrom_76 : decode cX1_wordFrom 76 = .ok (.getfield 19, 3) := by decide +kernel
theorem dX1_wordFrom_79 : decode cX1_wordFrom 79 = .ok (.iload_n 1, 1) := by decide +kernel
theorem dX1_wordFrom_80 : decode cX1_wordFrom 80 = .ok (.ldc 108, 2) := by decide +kernel
theorem dX1_wordFrom_82 : decode cX1_wordFrom 82 = .ok (.invokevirtual 96, 3) := by decide +kernel
theorem dX1_wordFrom_85 : decode cX1_wordFrom 85 = .ok (.ifCond .eq 7, 3) := by decide +kernel
theorem dX1_wordFrom_88 : decode cX1_wordFrom 88 = .ok (.iconst 5, 1) := by decide +kernel
theorem dX1_wordFrom_89 : decode cX1_wordFrom 89 = .ok (.goto 4, 3) := by decide +kernel
theorem dX1_wordFrom_92 : decode cX1_wordFrom 92 = .ok (.iconst (-1), 1) := by decide +kernel
theorem dX1_wordFrom_93 : decode cX1_wordFrom 93 = .ok (.ireturn, 1) := by decide +kernel
theorem dX2_init_0 : decode cX2_init 0 = .ok (.aload_n 0, 1) := by decide +kernel
theorem dX2_init_1 : decode cX2_init 1 = .ok (.invokespecial 3, 3) := by decide +kernel
theorem dX2_init_4 : decode cX2_init 4 = .ok (.aload_n 0, 1) := by decide +kernel
theorem dX2_init_5 : decode cX2_init 5 = .ok (.bipush 8, 2) := by decide +kernel
theorem dX2_init_7 : decode cX2_init 7 = .ok (.newarray .int, 2) := by decide +kernel
theorem dX2_init_9 : decode cX2_init 9 = .ok (.putfield 9, 3) := by decide +kernel
theorem dX2_init_12 : decode cX2_init 12 = .ok (.aload_n 0, 1) := by decide +kernel
theorem dX2_init_13 : decode cX2_init 13 = .ok (.bipush 8, 2) := by decide +kernel
theorem dX2_init_15 : decode cX2_init 15 = .ok (.newarray .int, 2) := by decide +kernel
theorem dX2_init_17 : decode cX2_init 17 = .ok (.putfield 15, 3) := by decide +kernel
theorem dX2_init_20 : decode cX2_init 20 = .ok (.aload_n 0, 1) := by decide +kernel
theorem dX2_init_21 : decode cX2_init 21 = .ok (.bipush 8, 2) := by decide +kernel
theorem dX2_init_23 : decode cX2_init 23 = .ok (.newarray .int, 2) := by decide +kernel
theorem dX2_init_25 : decode cX2_init 25 = .ok (.putfield 18, 3) := by decide +kernel
theorem dX2_init_28 : decode cX2_init 28 = .ok (.aload_n 0, 1) := by decide +kernel
theorem dX2_init_29 : decode cX2_init 29 = .ok (.aload_n 1, 1) := by decide +kernel
theorem dX2_init_30 : decode cX2_init 30 = .ok (.putfield 21, 3) := by decide +kernel
theorem dX2_init_33 : decode cX2_init 33 = .ok (.return_, 1) := by decide +kernel
theorem dX2_placeOfVector_0 : decode cX2_placeOfVector 0 = .ok (.aload_n 0, 1) := by decide +kernel
theorem dX2_placeOfVector_1 : decode cX2_placeOfVector 1 = .ok (.aload_n 0, 1) := by decide +kernel
theorem dX2_placeOfVector_2 : decode cX2_placeOfVector 2 = .ok (.getfield 9, 3) := by decide +kernel
theorem dX2_placeOfVector_5 : decode cX2_placeOfVector 5 = .ok (.aload_n 0, 1) := by decide +kernel
theorem dX2_placeOfVector_6 : decode cX2_placeOfVector 6 = .ok (.getfield 21, 3) := by decide +kernel
theorem dX2_placeOfVector_9 : decode cX2_placeOfVector 9 = .ok (.getfield 25, 3) := by decide +kernel
theorem dX2_placeOfVector_12 : decode cX2_placeOfVector 12 = .ok (.iload_n 1, 1) := by decide +kernel
theorem dX2_placeOfVector_13 : decode cX2_placeOfVector 13 = .ok (.invokevirtual 30, 3) := by decide +kernel
theorem dX2_placeOfVector_16 : decode cX2_placeOfVector 16 = .ok (.istore_n 3, 1) := by decide +kernel
theorem dX2_placeOfVector_17 : decode cX2_placeOfVector 17 = .ok (.iload_n 2, 1) := by decide +kernel
theorem dX2_placeOfVector_18 : decode cX2_placeOfVector 18 = .ok (.ifCond .lt 26, 3) := by decide +kernel
theorem dX2_placeOfVector_21 : decode cX2_placeOfVector 21 = .ok (.iload_n 2, 1) := by decide +kernel
theorem dX2_placeOfVector_22 : decode cX2_placeOfVector 22 = .ok (.iload_n 3, 1) := by decide +kernel
theorem dX2_placeOfVector_23 : decode cX2_placeOfVector 23 = .ok (.if_icmp .ge 21, 3) := by decide +kernel
theorem dX2_placeOfVector_26 : decode cX2_placeOfVector 26 = .ok (.iload_n 2, 1) := by decide +kernel
theorem dX2_placeOfVector_27 : decode cX2_placeOfVector 27 = .ok (.aload_n 0, 1) := by decide +kernel
theorem dX2_placeOfVector_28 : decode cX2_placeOfVector 28 = .ok (.getfield 9, 3) := by decide +kernel
theorem dX2_placeOfVector_31 : decode cX2_placeOfVector 31 = .ok (.arraylength, 1) := by decide +kernel
theorem dX2_placeOfVector_32 : decode cX2_placeOfVector 32 = .ok (.if_icmp .ge 12, 3) := by decide +kernel
theorem dX2_placeOfVector_35 : decode cX2_placeOfVector 35 = .ok (.aload_n 0, 1) := by decide +kernel
theorem dX2_placeOfVector_36 : decode cX2_placeOfVector 36 = .ok (.getfield 9, 3) := by decide +kernel
theorem dX2_placeOfVector_39 : decode cX2_placeOfVector 39 = .ok (.iload_n 2, 1) := by decide +kernel
theorem dX2_placeOfVector_40 : decode cX2_placeOfVector 40 = .ok (.iaload, 1) := by decide +kernel
theorem dX2_placeOfVector_41 : decode cX2_placeOfVector 41 = .ok (.goto 4, 3) := by decide +kernel
theorem dX2_placeOfVector_44 : decode cX2_placeOfVector 44 = .ok (.iconst (-1), 1) := by decide +kernel
theorem dX2_placeOfVector_45 : decode cX2_placeOfVector 45 = .ok (.ireturn, 1) := by decide +kernel
theorem dX2_compareWithNow_0 : decode cX2_compareWithNow 0 = .ok (.aload_n 0, 1) := by decide +kernel
theorem dX2_compareWithNow_1 : decode cX2_compareWithNow 1 = .ok (.aload_n 0, 1) := by decide +kernel
theorem dX2_compareWithNow_2 : decode cX2_compareWithNow 2 = .ok (.getfield 9, 3) := by decide +kernel
theorem dX2_compareWithNow_5 : decode cX2_compareWithNow 5 = .ok (.aload_n 0, 1) := by decide +kernel
theorem dX2_compareWithNow_6 : decode cX2_compareWithNow 6 = .ok (.getfield 21, 3) := by decide +kernel
theorem dX2_compareWithNow_9 : decode cX2_compareWithNow 9 = .ok (.getfield 25, 3) := by decide +kernel
theorem dX2_compareWithNow_12 : decode cX2_compareWithNow 12 = .ok (.iload_n 2, 1) := by decide +kernel
theorem dX2_compareWithNow_13 : decode cX2_compareWithNow 13 = .ok (.invokevirtual 30, 3) := by decide +kernel
theorem dX2_compareWithNow_16 : decode cX2_compareWithNow 16 = .ok (.istore_n 3, 1) := by decide +kernel
theorem dX2_compareWithNow_17 : decode cX2_compareWithNow 17 = .ok (.aload_n 0, 1) := by decide +kernel
theorem dX2_compareWithNow_18 : decode cX2_compareWithNow 18 = .ok (.aload_n 0, 1) := by decide +kernel
theorem dX2_compareWithNow_19 : decode cX2_compareWithNow 19 = .ok (.getfield 15, 3) := by decide +kernel
theorem dX2_compareWithNow_22 : decode cX2_compareWithNow 22 = .ok (.aload_n 1, 1) := by decide +kernel
theorem dX2_compareWithNow_23 : decode cX2_compareWithNow 23 = .ok (.iload_n 2, 1) := by decide +kernel
theorem dX2_compareWithNow_24 : decode cX2_compareWithNow 24 = .ok (.invokevirtual 30, 3) := by decide +kernel
theorem dX2_compareWithNow_27 : decode cX2_compareWithNow 27 = .ok (.pop, 1) := by decide +kernel
theorem dX2_compareWithNow_28 : decode cX2_compareWithNow 28 = .ok (.iconst 0, 1) := by decide +kernel
theorem dX2_compareWithNow_29 : decode cX2_compareWithNow 29 = .ok (.istore 4, 2) := by decide +kernel
theorem dX2_compareWithNow_31 : decode cX2_compareWithNow 31 = .ok (.iload 4, 2) := by decide +kernel
theorem dX2_compareWithNow_33 : decode cX2_compareWithNow 33 = .ok (.iload_n 3, 1) := by decide +kernel
theorem dX2_compareWithNow_34 : decode cX2_compareWithNow 34 = .ok (.if_icmp .ge 56, 3) := by decide +kernel
theorem dX2_compareWithNow_37 : decode cX2_compareWithNow 37 = .ok (.iload 4, 2) := by decide +kernel
theorem dX2_compareWithNow_39 : decode cX2_compareWithNow 39 = .ok (.bipush 8, 2) := by decide +kernel
theorem dX2_compareWithNow_41 : decode cX2_compareWithNow 41 = .ok (.if_icmp .ge 49, 3) := by decide +kernel
theorem dX2_compareWithNow_44 : decode cX2_compareWithNow 44 = .ok (.aload_n 0, 1) := by decide +kernel
theorem dX2_compareWithNow_45 : decode cX2_compareWithNow 45 = .ok (.getfield 15, 3) := by decide +kernel
theorem dX2_compareWithNow_48 : decode cX2_compareWithNow 48 = .ok (.iload 4, 2) := by decide +kernel
theorem dX2_compareWithNow_50 : decode cX2_compareWithNow 50 = .ok (.iaload, 1) := by decide +kernel
theorem dX2_compareWithNow_51 : decode cX2_compareWithNow 51 = .ok (.aload_n 0, 1) := by decide +kernel
theorem dX2_compareWithNow_52 : decode cX2_compareWithNow 52 = .ok (.getfield 9, 3) := by decide +kernel
theorem dX2_compareWithNow_55 : decode cX2_compareWithNow 55 = .ok (.iload 4, 2) := by decide +kernel
theorem dX2_compareWithNow_57 : decode cX2_compareWithNow 57 = .ok (.iaload, 1) := by decide +kernel
theorem dX2_compareWithNow_58 : decode cX2_compareWithNow 58 = .ok (.if_icmp .eq 26, 3) := by decide +kernel
theorem dX2_compareWithNow_61 : decode cX2_compareWithNow 61 = .ok (.aload_n 0, 1) := by decide +kernel
theorem dX2_compareWithNow_62 : decode cX2_compareWithNow 62 = .ok (.getfield 15, 3) := by decide +kernel
theorem dX2_compareWithNow_65 : decode cX2_compareWithNow 65 = .ok (.iload 4, 2) := by decide +kernel
theorem dX2_compareWithNow_67 : decode cX2_compareWithNow 67 = .ok (.iaload, 1) := by decide +kernel
theorem dX2_compareWithNow_68 : decode cX2_compareWithNow 68 = .ok (.aload_n 0, 1) := by decide +kernel
theorem dX2_compareWithNow_69 : decode cX2_compareWithNow 69 = .ok (.getfield 9, 3) := by decide +kernel
theorem dX2_compareWithNow_72 : decode cX2_compareWithNow 72 = .ok (.iload 4, 2) := by decide +kernel
theorem dX2_compareWithNow_74 : decode cX2_compareWithNow 74 = .ok (.iaload, 1) := by decide +kernel
theorem dX2_compareWithNow_75 : decode cX2_compareWithNow 75 = .ok (.if_icmp .ge 7, 3) := by decide +kernel
theorem dX2_compareWithNow_78 : decode cX2_compareWithNow 78 = .ok (.iconst (-1), 1) := by decide +kernel
theorem dX2_compareWithNow_79 : decode cX2_compareWithNow 79 = .ok (.goto 4, 3) := by decide +kernel
theorem dX2_compareWithNow_82 : decode cX2_compareWithNow 82 = .ok (.iconst 1, 1) := by decide +kernel
theorem dX2_compareWithNow_83 : decode cX2_compareWithNow 83 = .ok (.ireturn, 1) := by decide +kernel
theorem dX2_compareWithNow_84 : decode cX2_compareWithNow 84 = .ok (.iinc 4 1, 3) := by decide +kernel
theorem dX2_compareWithNow_87 : decode cX2_compareWithNow 87 = .ok (.goto (-56), 3) := by decide +kernel
theorem dX2_compareWithNow_90 : decode cX2_compareWithNow 90 = .ok (.iconst 0, 1) := by decide +kernel
theorem dX2_compareWithNow_91 : decode cX2_compareWithNow 91 = .ok (.ireturn, 1) := by decide +kernel
theorem dX2_makeVector_0 : decode cX2_makeVector 0 = .ok (.iconst 0, 1) := by decide +kernel
theorem dX2_makeVector_1 : decode cX2_makeVector 1 = .ok (.istore 4, 2) := by decide +kernel
theorem dX2_makeVector_3 : decode cX2_makeVector 3 = .ok (.iconst 0, 1) := by decide +kernel
theorem dX2_makeVector_4 : decode cX2_makeVector 4 = .ok (.istore 5, 2) := by decide +kernel
theorem dX2_makeVector_6 : decode cX2_makeVector 6 = .ok (.iload 5, 2) := by decide +kernel
theorem dX2_makeVector_8 : decode cX2_makeVector 8 = .ok (.aload_n 0, 1) := by decide +kernel
theorem dX2_makeVector_9 : decode cX2_makeVector 9 = .ok (.getfield 21, 3) := by decide +kernel
theorem dX2_makeVector_12 : decode cX2_makeVector 12 = .ok (.getfield 34, 3) := by decide +kernel
theorem dX2_makeVector_15 : decode cX2_makeVector 15 = .ok (.if_icmp .ge 51, 3) := by decide +kernel
theorem dX2_makeVector_18 : decode cX2_makeVector 18 = .ok (.iload 4, 2) := by decide +kernel
theorem dX2_makeVector_20 : decode cX2_makeVector 20 = .ok (.aload_n 1, 1) := by decide +kernel
theorem dX2_makeVector_21 : decode cX2_makeVector 21 = .ok (.arraylength, 1) := by decide +kernel
theorem dX2_makeVector_22 : decode cX2_makeVector 22 = .ok (.if_icmp .ge 44, 3) := by decide +kernel
theorem dX2_makeVector_25 : decode cX2_makeVector 25 = .ok (.aload_n 0, 1) := by decide +kernel
theorem dX2_makeVector_26 : decode cX2_makeVector 26 = .ok (.getfield 21, 3) := by decide +kernel
theorem dX2_makeVector_29 : decode cX2_makeVector 29 = .ok (.iload 5, 2) := by decide +kernel
theorem dX2_makeVector_31 : decode cX2_makeVector 31 = .ok (.invokevirtual 38, 3) := by decide +kernel
theorem dX2_makeVector_34 : decode cX2_makeVector 34 = .ok (.ifCond .ne 6, 3) := by decide +kernel
theorem dX2_makeVector_37 : decode cX2_makeVector 37 = .ok (.goto 23, 3) := by decide +kernel
theorem dX2_makeVector_40 : decode cX2_makeVector 40 = .ok (.aload_n 1, 1) := by decide +kernel
theorem dX2_makeVector_41 : decode cX2_makeVector 41 = .ok (.iload 4, 2) := by decide +kernel
theorem dX2_makeVector_43 : decode cX2_makeVector 43 = .ok (.aload_n 0, 1) := by decide +kernel
theorem dX2_makeVector_44 : decode cX2_makeVector 44 = .ok (.getfield 21, 3) := by decide +kernel
theorem dX2_makeVector_47 : decode cX2_makeVector 47 = .ok (.aload_n 2, 1) := by decide +kernel
theorem dX2_makeVector_48 : decode cX2_makeVector 48 = .ok (.iload 5, 2) := by decide +kernel
theorem dX2_makeVector_50 : decode cX2_makeVector 50 = .ok (.iload_n 3, 1) := by decide +kernel
theorem dX2_makeVector_51 : decode cX2_makeVector 51 = .ok (.invokevirtual 42, 3) := by decide +kernel
theorem dX2_makeVector_54 : decode cX2_makeVector 54 = .ok (.invokestatic 46, 3) := by decide +kernel
theorem dX2_makeVector_57 : decode cX2_makeVector 57 = .ok (.iinc 4 1, 3) := by decide +kernel
theorem dX2_makeVector_60 : decode cX2_makeVector 60 = .ok (.iinc 5 1, 3) := by decide +kernel
theorem dX2_makeVector_63 : decode cX2_makeVector 63 = .ok (.goto (-57), 3) := by decide +kernel
theorem dX2_makeVector_66 : decode cX2_makeVector 66 = .ok (.iload 4, 2) := by decide +kernel
theorem dX2_makeVector_68 : decode cX2_makeVector 68 = .ok (.ireturn, 1) := by decide +kernel
theorem dX2_insertFalling_0 : decode cX2_insertFalling 0 = .ok (.iload_n 1, 1) := by decide +kernel
theorem dX2_insertFalling_1 : decode cX2_insertFalling 1 = .ok (.ifCond .lt 9, 3) := by decide +kernel
theorem dX2_insertFalling_4 : decode cX2_insertFalling 4 = .ok (.iload_n 1, 1) := by decide +kernel
theorem dX2_insertFalling_5 : decode cX2_insertFalling 5 = .ok (.aload_n 0, 1) := by decide +kernel
theorem dX2_insertFalling_6 : decode cX2_insertFalling 6 = .ok (.arraylength, 1) := by decide +kernel
theorem dX2_insertFalling_7 : decode cX2_insertFalling 7 = .ok (.if_icmp .lt 4, 3) := by decide +kernel
theorem dX2_insertFalling_10 : decode cX2_insertFalling 10 = .ok (.return_, 1) := by decide +kernel
theorem dX2_insertFalling_11 : decode cX2_insertFalling 11 = .ok (.iload_n 1, 1) := by decide +kernel
theorem dX2_insertFalling_12 : decode cX2_insertFalling 12 = .ok (.istore_n 3, 1) := by decide +kernel
theorem dX2_insertFalling_13 : decode cX2_insertFalling 13 = .ok (.iload_n 3, 1) := by decide +kernel
theorem dX2_insertFalling_14 : decode cX2_insertFalling 14 = .ok (.ifCond .le 26, 3) := by decide +kernel
theorem dX2_insertFalling_17 : decode cX2_insertFalling 17 = .ok (.aload_n 0, 1) := by decide +kernel
theorem dX2_insertFalling_18 : decode cX2_insertFalling 18 = .ok (.iload_n 3, 1) := by decide +kernel
theorem dX2_insertFalling_19 : decode cX2_insertFalling 19 = .ok (.iconst 1, 1) := by decide +kernel
theorem dX2_insertFalling_20 : decode cX2_insertFalling 20 = .ok (.isub, 1) := by decide +kernel
theorem dX2_insertFalling_21 : decode cX2_insertFalling 21 = .ok (.iaload, 1) := by decide +kernel
theorem dX2_insertFalling_22 : decode cX2_insertFalling 22 = .ok (.iload_n 2, 1) := by decide +kernel
theorem dX2_insertFalling_23 : decode cX2_insertFalling 23 = .ok (.if_icmp .ge 17, 3) := by decide +kernel
theorem dX2_insertFalling_26 : decode cX2_insertFalling 26 = .ok (.aload_n 0, 1) := by decide +kernel
theorem dX2_insertFalling_27 : decode cX2_insertFalling 27 = .ok (.iload_n 3, 1) := by decide +kernel
theorem dX2_insertFalling_28 : decode cX2_insertFalling 28 = .ok (.aload_n 0, 1) := by decide +kernel
theorem dX2_insertFalling_29 : decode cX2_insertFalling 29 = .ok (.iload_n 3, 1) := by decide +kernel
theorem dX2_insertFalling_30 : decode cX2_insertFalling 30 = .ok (.iconst 1, 1) := by decide +kernel
theorem dX2_insertFalling_31 : decode cX2_insertFalling 31 = .ok (.isub, 1) := by decide +kernel
theorem dX2_insertFalling_32 : decode cX2_insertFalling 32 = .ok (.iaload, 1) := by decide +kernel
theorem dX2_insertFalling_33 : decode cX2_insertFalling 33 = .ok (.iastore, 1) := by decide +kernel
theorem dX2_insertFalling_34 : decode cX2_insertFalling 34 = .ok (.iinc 3 (-1), 3) := by decide +kernel
theorem dX2_insertFalling_37 : decode cX2_insertFalling 37 = .ok (.goto (-24), 3) := by decide +kernel
theorem dX2_insertFalling_40 : decode cX2_insertFalling 40 = .ok (.aload_n 0, 1) := by decide +kernel
theorem dX2_insertFalling_41 : decode cX2_insertFalling 41 = .ok (.iload_n 3, 1) := by decide +kernel
theorem dX2_insertFalling_42 : decode cX2_insertFalling 42 = .ok (.iload_n 2, 1) := by decide +kernel
theorem dX2_insertFalling_43 : decode cX2_insertFalling 43 = .ok (.iastore, 1) := by decide +kernel
theorem dX2_insertFalling_44 : decode cX2_insertFalling 44 = .ok (.return_, 1) := by decide +kernel
theorem dX2_spread_0 : decode cX2_spread 0 = .ok (.aload_n 0, 1) := by decide +kernel
theorem dX2_spread_1 : decode cX2_spread 1 = .ok (.aload_n 0, 1) := by decide +kernel
theorem dX2_spread_2 : decode cX2_spread 2 = .ok (.getfield 9, 3) := by decide +kernel
theorem dX2_spread_5 : decode cX2_spread 5 = .ok (.aload_n 0, 1) := by decide +kernel
theorem dX2_spread_6 : decode cX2_spread 6 = .ok (.getfield 21, 3) := by decide +kernel
theorem dX2_spread_9 : decode cX2_spread 9 = .ok (.getfield 25, 3) := by decide +kernel
theorem dX2_spread_12 : decode cX2_spread 12 = .ok (.iload_n 1, 1) := by decide +kernel
theorem dX2_spread_13 : decode cX2_spread 13 = .ok (.invokevirtual 30, 3) := by decide +kernel
theorem dX2_spread_16 : decode cX2_spread 16 = .ok (.istore_n 2, 1) := by decide +kernel
theorem dX2_spread_17 : decode cX2_spread 17 = .ok (.iload_n 2, 1) := by decide +kernel
theorem dX2_spread_18 : decode cX2_spread 18 = .ok (.ifCond .le 30, 3) := by decide +kernel
theorem dX2_spread_21 : decode cX2_spread 21 = .ok (.iload_n 2, 1) := by decide +kernel
theorem dX2_spread_22 : decode cX2_spread 22 = .ok (.aload_n 0, 1) := by decide +kernel
theorem dX2_spread_23 : decode cX2_spread 23 = .ok (.getfield 9, 3) := by decide +kernel
theorem dX2_spread_26 : decode cX2_spread 26 = .ok (.arraylength, 1) := by decide +kernel
theorem dX2_spread_27 : decode cX2_spread 27 = .ok (.if_icmp .gt 21, 3) := by decide +kernel
theorem dX2_spread_30 : decode cX2_spread 30 = .ok (.aload_n 0, 1) := by decide +kernel
theorem dX2_spread_31 : decode cX2_spread 31 = .ok (.getfield 9, 3) := by decide +kernel
theorem dX2_spread_34 : decode cX2_spread 34 = .ok (.iconst 0, 1) := by decide +kernel
theorem dX2_spread_35 : decode cX2_spread 35 = .ok (.iaload, 1) := by decide +kernel
theorem dX2_spread_36 : decode cX2_spread 36 = .ok (.aload_n 0, 1) := by decide +kernel
theorem dX2_spread_37 : decode cX2_spread 37 = .ok (.getfield 9, 3) := by decide +kernel
theorem dX2_spread_40 : decode cX2_spread 40 = .ok (.iload_n 2, 1) := by decide +kernel
theorem dX2_spread_41 : decode cX2_spread 41 = .ok (.iconst 1, 1) := by decide +kernel
theorem dX2_spread_42 : decode cX2_spread 42 = .ok (.isub, 1) := by decide +kernel
theorem dX2_spread_43 : decode cX2_spread 43 = .ok (.iaload, 1) := by decide +kernel
theorem dX2_spread_44 : decode cX2_spread 44 = .ok (.isub, 1) := by decide +kernel
theorem dX2_spread_45 : decode cX2_spread 45 = .ok (.goto 4, 3) := by decide +kernel
theorem dX2_spread_48 : decode cX2_spread 48 = .ok (.iconst 0, 1) := by decide +kernel
theorem dX2_spread_49 : decode cX2_spread 49 = .ok (.ireturn, 1) := by decide +kernel
theorem dX2_envy_0 : decode cX2_envy 0 = .ok (.aload_n 0, 1) := by decide +kernel
theorem dX2_envy_1 : decode cX2_envy 1 = .ok (.aload_n 0, 1) := by decide +kernel
theorem dX2_envy_2 : decode cX2_envy 2 = .ok (.getfield 9, 3) := by decide +kernel
theorem dX2_envy_5 : decode cX2_envy 5 = .ok (.aload_n 0, 1) := by decide +kernel
theorem dX2_envy_6 : decode cX2_envy 6 = .ok (.getfield 21, 3) := by decide +kernel
theorem dX2_envy_9 : decode cX2_envy 9 = .ok (.getfield 25, 3) := by decide +kernel
theorem dX2_envy_12 : decode cX2_envy 12 = .ok (.iload_n 1, 1) := by decide +kernel
theorem dX2_envy_13 : decode cX2_envy 13 = .ok (.invokevirtual 30, 3) := by decide +kernel
theorem dX2_envy_16 : decode cX2_envy 16 = .ok (.istore_n 2, 1) := by decide +kernel
theorem dX2_envy_17 : decode cX2_envy 17 = .ok (.iconst 0, 1) := by decide +kernel
theorem dX2_envy_18 : decode cX2_envy 18 = .ok (.istore_n 3, 1) := by decide +kernel
theorem dX2_envy_19 : decode cX2_envy 19 = .ok (.iconst 0, 1) := by decide +kernel
theorem dX2_envy_20 : decode cX2_envy 20 = .ok (.istore 4, 2) := by decide +kernel
theorem dX2_envy_22 : decode cX2_envy 22 = .ok (.iload 4, 2) := by decide +kernel
theorem dX2_envy_24 : decode cX2_envy 24 = .ok (.iload_n 2, 1) := by decide +kernel
theorem dX2_envy_25 : decode cX2_envy 25 = .ok (.if_icmp .ge 63, 3) := by decide +kernel
theorem dX2_envy_28 : decode cX2_envy 28 = .ok (.iload 4, 2) := by decide +kernel
theorem dX2_envy_30 : decode cX2_envy 30 = .ok (.bipush 8, 2) := by decide +kernel
theorem dX2_envy_32 : decode cX2_envy 32 = .ok (.if_icmp .ge 56, 3) := by decide +kernel
theorem dX2_envy_35 : decode cX2_envy 35 = .ok (.iload 4, 2) := by decide +kernel
theorem dX2_envy_37 : decode cX2_envy 37 = .ok (.iconst 1, 1) := by decide +kernel
theorem dX2_envy_38 : decode cX2_envy 38 = .ok (.iadd, 1) := by decide +kernel
theorem dX2_envy_39 : decode cX2_envy 39 = .ok (.istore 5, 2) := by decide +kernel
theorem dX2_envy_41 : decode cX2_envy 41 = .ok (.iload 5, 2) := by decide +kernel
theorem dX2_envy_43 : decode cX2_envy 43 = .ok (.iload_n 2, 1) := by decide +kernel
theorem dX2_envy_44 : decode cX2_envy 44 = .ok (.if_icmp .ge 38, 3) := by decide +kernel
theorem dX2_envy_47 : decode cX2_envy 47 = .ok (.iload 5, 2) := by decide +kernel
theorem dX2_envy_49 : decode cX2_envy 49 = .ok (.bipush 8, 2) := by decide +kernel
theorem dX2_envy_51 : decode cX2_envy 51 = .ok (.if_icmp .ge 31, 3) := by decide +kernel
theorem dX2_envy_54 : decode cX2_envy 54 = .ok (.aload_n 0, 1) := by decide +kernel
theorem dX2_envy_55 : decode cX2_envy 55 = .ok (.getfield 9, 3) := by decide +kernel
theorem dX2_envy_58 : decode cX2_envy 58 = .ok (.iload 4, 2) := by decide +kernel
theorem dX2_envy_60 : decode cX2_envy 60 = .ok (.iaload, 1) := by decide +kernel
theorem dX2_envy_61 : decode cX2_envy 61 = .ok (.aload_n 0, 1) := by decide +kernel
theorem dX2_envy_62 : decode cX2_envy 62 = .ok (.getfield 9, 3) := by decide +kernel
theorem dX2_envy_65 : decode cX2_envy 65 = .ok (.iload 5, 2) := by decide +kernel
theorem dX2_envy_67 : decode cX2_envy 67 = .ok (.iaload, 1) := by decide +kernel
theorem dX2_envy_68 : decode cX2_envy 68 = .ok (.isub, 1) := by decide +kernel
theorem dX2_envy_69 : decode cX2_envy 69 = .ok (.iconst 2, 1) := by decide +kernel
theorem dX2_envy_70 : decode cX2_envy 70 = .ok (.if_icmp .lt 6, 3) := by decide +kernel
theorem dX2_envy_73 : decode cX2_envy 73 = .ok (.iinc 3 1, 3) := by decide +kernel
theorem dX2_envy_76 : decode cX2_envy 76 = .ok (.iinc 5 1, 3) := by decide +kernel
theorem dX2_envy_79 : decode cX2_envy 79 = .ok (.goto (-38), 3) := by decide +kernel
theorem dX2_envy_82 : decode cX2_envy 82 = .ok (.iinc 4 1, 3) := by decide +kernel
theorem dX2_envy_85 : decode cX2_envy 85 = .ok (.goto (-63), 3) := by decide +kernel
theorem dX2_envy_88 : decode cX2_envy 88 = .ok (.iload_n 3, 1) := by decide +kernel
theorem dX2_envy_89 : decode cX2_envy 89 = .ok (.ireturn, 1) := by decide +kernel
theorem dX2_sum_0 : decode cX2_sum 0 = .ok (.aload_n 0, 1) := by decide +kernel
theorem dX2_sum_1 : decode cX2_sum 1 = .ok (.aload_n 0, 1) := by decide +kernel
theorem dX2_sum_2 : decode cX2_sum 2 = .ok (.getfield 9, 3) := by decide +kernel
theorem dX2_sum_5 : decode cX2_sum 5 = .ok (.aload_n 0, 1) := by decide +kernel
theorem dX2_sum_6 : decode cX2_sum 6 = .ok (.getfield 21, 3) := by decide +kernel
theorem dX2_sum_9 : decode cX2_sum 9 = .ok (.getfield 25, 3) := by decide +kernel
theorem dX2_sum_12 : decode cX2_sum 12 = .ok (.iload_n 1, 1) := by decide +kernel
theorem dX2_sum_13 : decode cX2_sum 13 = .ok (.invokevirtual 30, 3) := by decide +kernel
theorem dX2_sum_16 : decode cX2_sum 16 = .ok (.istore_n 2, 1) := by decide +kernel
theorem dX2_sum_17 : decode cX2_sum 17 = .ok (.iconst 0, 1) := by decide +kernel
theorem dX2_sum_18 : decode cX2_sum 18 = .ok (.istore_n 3, 1) := by decide +kernel
theorem dX2_sum_19 : decode cX2_sum 19 = .ok (.iconst 0, 1) := by decide +kernel
theorem dX2_sum_20 : decode cX2_sum 20 = .ok (.istore 4, 2) := by decide +kernel
theorem dX2_sum_22 : decode cX2_sum 22 = .ok (.iload 4, 2) := by decide +kernel
theorem dX2_sum_24 : decode cX2_sum 24 = .ok (.iload_n 2, 1) := by decide +kernel
theorem dX2_sum_25 : decode cX2_sum 25 = .ok (.if_icmp .ge 26, 3) := by decide +kernel
theorem dX2_sum_28 : decode cX2_sum 28 = .ok (.iload 4, 2) := by decide +kernel
theorem dX2_sum_30 : decode cX2_sum 30 = .ok (.bipush 8, 2) := by decide +kernel
theorem dX2_sum_32 : decode cX2_sum 32 = .ok (.if_icmp .ge 19, 3) := by decide +kernel
theorem dX2_sum_35 : decode cX2_sum 35 = .ok (.iload_n 3, 1) := by decide +kernel
theorem dX2_sum_36 : decode cX2_sum 36 = .ok (.aload_n 0, 1) := by decide +kernel
theorem dX2_sum_37 : decode cX2_sum 37 = .ok (.getfield 9, 3) := by decide +kernel
theorem dX2_sum_40 : decode cX2_sum 40 = .ok (.iload 4, 2) := by decide +kernel
theorem dX2_sum_42 : decode cX2_sum 42 = .ok (.iaload, 1) := by decide +kernel
theorem dX2_sum_43 : decode cX2_sum 43 = .ok (.iadd, 1) := by decide +kernel
theorem dX2_sum_44 : decode cX2_sum 44 = .ok (.istore_n 3, 1) := by decide +kernel
theorem dX2_sum_45 : decode cX2_sum 45 = .ok (.iinc 4 1, 3) := by decide +kernel
theorem dX2_sum_48 : decode cX2_sum 48 = .ok (.goto (-26), 3) := by decide +kernel
theorem dX2_sum_51 : decode cX2_sum 51 = .ok (.iload_n 3, 1) := by decide +kernel
theorem dX2_sum_52 : decode cX2_sum 52 = .ok (.ireturn, 1) := by decide +kernel
theorem dX2_placeOfNext_0 : decode cX2_placeOfNext 0 = .ok (.iconst 0, 1) := by decide +kernel
theorem dX2_placeOfNext_1 : decode cX2_placeOfNext 1 = .ok (.istore_n 3, 1) := by decide +kernel
theorem dX2_placeOfNext_2 : decode cX2_placeOfNext 2 = .ok (.iconst 0, 1) := by decide +kernel
theorem dX2_placeOfNext_3 : decode cX2_placeOfNext 3 = .ok (.istore 4, 2) := by decide +kernel
theorem dX2_placeOfNext_5 : decode cX2_placeOfNext 5 = .ok (.iload 4, 2) := by decide +kernel
theorem dX2_placeOfNext_7 : decode cX2_placeOfNext 7 = .ok (.aload_n 0, 1) := by decide +kernel
theorem dX2_placeOfNext_8 : decode cX2_placeOfNext 8 = .ok (.getfield 21, 3) := by decide +kernel
theorem dX2_placeOfNext_11 : decode cX2_placeOfNext 11 = .ok (.getfield 34, 3) := by decide +kernel
theorem dX2_placeOfNext_14 : decode cX2_placeOfNext 14 = .ok (.if_icmp .ge 41, 3) := by decide +kernel
theorem dX2_placeOfNext_17 : decode cX2_placeOfNext 17 = .ok (.iload_n 3, 1) := by decide +kernel
theorem dX2_placeOfNext_18 : decode cX2_placeOfNext 18 = .ok (.bipush 8, 2) := by decide +kernel
theorem dX2_placeOfNext_20 : decode cX2_placeOfNext 20 = .ok (.if_icmp .ge 35, 3) := by decide +kernel
theorem dX2_placeOfNext_23 : decode cX2_placeOfNext 23 = .ok (.aload_n 0, 1) := by decide +kernel
theorem dX2_placeOfNext_24 : decode cX2_placeOfNext 24 = .ok (.getfield 21, 3) := by decide +kernel
theorem dX2_placeOfNext_27 : decode cX2_placeOfNext 27 = .ok (.iload 4, 2) := by decide +kernel
theorem dX2_placeOfNext_29 : decode cX2_placeOfNext 29 = .ok (.invokevirtual 38, 3) := by decide +kernel
theorem dX2_placeOfNext_32 : decode cX2_placeOfNext 32 = .ok (.ifCond .ne 6, 3) := by decide +kernel
theorem dX2_placeOfNext_35 : decode cX2_placeOfNext 35 = .ok (.goto 14, 3) := by decide +kernel
theorem dX2_placeOfNext_38 : decode cX2_placeOfNext 38 = .ok (.aload_n 0, 1) := by decide +kernel
theorem dX2_placeOfNext_39 : decode cX2_placeOfNext 39 = .ok (.iload_n 3, 1) := by decide +kernel
theorem dX2_placeOfNext_40 : decode cX2_placeOfNext 40 = .ok (.iload 4, 2) := by decide +kernel
theorem dX2_placeOfNext_42 : decode cX2_placeOfNext 42 = .ok (.iload_n 1, 1) := by decide +kernel
theorem dX2_placeOfNext_43 : decode cX2_placeOfNext 43 = .ok (.invokevirtual 50, 3) := by decide +kernel
theorem dX2_placeOfNext_46 : decode cX2_placeOfNext 46 = .ok (.iinc 3 1, 3) := by decide +kernel
theorem dX2_placeOfNext_49 : decode cX2_placeOfNext 49 = .ok (.iinc 4 1, 3) := by decide +kernel
theorem dX2_placeOfNext_52 : decode cX2_placeOfNext 52 = .ok (.goto (-47), 3) := by decide +kernel
theorem dX2_placeOfNext_55 : decode cX2_placeOfNext 55 = .ok (.iload_n 2, 1) := by decide +kernel
theorem dX2_placeOfNext_56 : decode cX2_placeOfNext 56 = .ok (.ifCond .lt 26, 3) := by decide +kernel
theorem dX2_placeOfNext_59 : decode cX2_placeOfNext 59 = .ok (.iload_n 2, 1) := by decide +kernel
theorem dX2_placeOfNext_60 : decode cX2_placeOfNext 60 = .ok (.iload_n 3, 1) := by decide +kernel
theorem dX2_placeOfNext_61 : decode cX2_placeOfNext 61 = .ok (.if_icmp .ge 21, 3) := by decide +kernel
theorem dX2_placeOfNext_64 : decode cX2_placeOfNext 64 = .ok (.iload_n 2, 1) := by decide +kernel
theorem dX2_placeOfNext_65 : decode cX2_placeOfNext 65 = .ok (.aload_n 0, 1) := by decide +kernel
theorem dX2_placeOfNext_66 : decode cX2_placeOfNext 66 = .ok (.getfield 18, 3) := by decide +kernel
theorem dX2_placeOfNext_69 : decode cX2_placeOfNext 69 = .ok (.arraylength, 1) := by decide +kernel
theorem dX2_placeOfNext_70 : decode cX2_placeOfNext 70 = .ok (.if_icmp .ge 12, 3) := by decide +kernel
theorem dX2_placeOfNext_73 : decode cX2_placeOfNext 73 = .ok (.aload_n 0, 1) := by decide +kernel
theorem dX2_placeOfNext_74 : decode cX2_placeOfNext 74 = .ok (.getfield 18, 3) := by decide +kernel
theorem dX2_placeOfNext_77 : decode cX2_placeOfNext 77 = .ok (.iload_n 2, 1) := by decide +kernel
theorem dX2_placeOfNext_78 : decode cX2_placeOfNext 78 = .ok (.iaload, 1) := by decide +kernel
theorem dX2_placeOfNext_79 : decode cX2_placeOfNext 79 = .ok (.goto 4, 3) := by decide +kernel
theorem dX2_placeOfNext_82 : decode cX2_placeOfNext 82 = .ok (.iconst (-1), 1) := by decide +kernel
theorem dX2_placeOfNext_83 : decode cX2_placeOfNext 83 = .ok (.ireturn, 1) := by decide +kernel
theorem dX2_insertTurn_0 : decode cX2_insertTurn 0 = .ok (.iload_n 1, 1) := by decide +kernel
theorem dX2_insertTurn_1 : decode cX2_insertTurn 1 = .ok (.ifCond .lt 12, 3) := by decide +kernel
theorem dX2_insertTurn_4 : decode cX2_insertTurn 4 = .ok (.iload_n 1, 1) := by decide +kernel
theorem dX2_insertTurn_5 : decode cX2_insertTurn 5 = .ok (.aload_n 0, 1) := by decide +kernel
theorem dX2_insertTurn_6 : decode cX2_insertTurn 6 = .ok (.getfield 18, 3) := by decide +kernel
theorem dX2_insertTurn_9 : decode cX2_insertTurn 9 = .ok (.arraylength, 1) := by decide +kernel
theorem dX2_insertTurn_10 : decode cX2_insertTurn 10 = .ok (.if_icmp .lt 4, 3) := by decide +kernel
theorem dX2_insertTurn_13 : decode cX2_insertTurn 13 = .ok (.return_, 1) := by decide +kernel
theorem dX2_insertTurn_14 : decode cX2_insertTurn 14 = .ok (.iload_n 1, 1) := by decide +kernel
theorem dX2_insertTurn_15 : decode cX2_insertTurn 15 = .ok (.istore 4, 2) := by decide +kernel
theorem dX2_insertTurn_17 : decode cX2_insertTurn 17 = .ok (.iload 4, 2) := by decide +kernel
theorem dX2_insertTurn_19 : decode cX2_insertTurn 19 = .ok (.ifCond .le 43, 3) := by decide +kernel
theorem dX2_insertTurn_22 : decode cX2_insertTurn 22 = .ok (.aload_n 0, 1) := by decide +kernel
theorem dX2_insertTurn_23 : decode cX2_insertTurn 23 = .ok (.iload_n 2, 1) := by decide +kernel
theorem dX2_insertTurn_24 : decode cX2_insertTurn 24 = .ok (.aload_n 0, 1) := by decide +kernel
theorem dX2_insertTurn_25 : decode cX2_insertTurn 25 = .ok (.getfield 18, 3) := by decide +kernel
theorem dX2_insertTurn_28 : decode cX2_insertTurn 28 = .ok (.iload 4, 2) := by decide +kernel
theorem dX2_insertTurn_30 : decode cX2_insertTurn 30 = .ok (.iconst 1, 1) := by decide +kernel
theorem dX2_insertTurn_31 : decode cX2_insertTurn 31 = .ok (.isub, 1) := by decide +kernel
theorem dX2_insertTurn_32 : decode cX2_insertTurn 32 = .ok (.iaload, 1) := by decide +kernel
theorem dX2_insertTurn_33 : decode cX2_insertTurn 33 = .ok (.iload_n 3, 1) := by decide +kernel
theorem dX2_insertTurn_34 : decode cX2_insertTurn 34 = .ok (.invokevirtual 54, 3) := by decide +kernel
theorem dX2_insertTurn_37 : decode cX2_insertTurn 37 = .ok (.ifCond .eq 25, 3) := by decide +kernel
theorem dX2_insertTurn_40 : decode cX2_insertTurn 40 = .ok (.aload_n 0, 1) := by decide +kernel
theorem dX2_insertTurn_41 : decode cX2_insertTurn 41 = .ok (.getfield 18, 3) := by decide +kernel
theorem dX2_insertTurn_44 : decode cX2_insertTurn 44 = .ok (.iload 4, 2) := by decide +kernel
theorem dX2_insertTurn_46 : decode cX2_insertTurn 46 = .ok (.aload_n 0, 1) := by decide +kernel
theorem dX2_insertTurn_47 : decode cX2_insertTurn 47 = .ok (.getfield 18, 3) := by decide +kernel
theorem dX2_insertTurn_50 : decode cX2_insertTurn 50 = .ok (.iload 4, 2) := by decide +kernel
theorem dX2_insertTurn_52 : decode cX2_insertTurn 52 = .ok (.iconst 1, 1) := by decide +kernel
theorem dX2_insertTurn_53 : decode cX2_insertTurn 53 = .ok (.isub, 1) := by decide +kernel
theorem dX2_insertTurn_54 : decode cX2_insertTurn 54 = .ok (.iaload, 1) := by decide +kernel
theorem dX2_insertTurn_55 : decode cX2_insertTurn 55 = .ok (.iastore, 1) := by decide +kernel
theorem dX2_insertTurn_56 : decode cX2_insertTurn 56 = .ok (.iinc 4 (-1), 3) := by decide +kernel
theorem dX2_insertTurn_59 : decode cX2_insertTurn 59 = .ok (.goto (-42), 3) := by decide +kernel
theorem dX2_insertTurn_62 : decode cX2_insertTurn 62 = .ok (.aload_n 0, 1) := by decide +kernel
theorem dX2_insertTurn_63 : decode cX2_insertTurn 63 = .ok (.getfield 18, 3) := by decide +kernel
theorem dX2_insertTurn_66 : decode cX2_insertTurn 66 = .ok (.iload 4, 2) := by decide +kernel
theorem dX2_insertTurn_68 : decode cX2_insertTurn 68 = .ok (.iload_n 2, 1) := by decide +kernel
theorem dX2_insertTurn_69 : decode cX2_insertTurn 69 = .ok (.iastore, 1) := by decide +kernel
theorem dX2_insertTurn_70 : decode cX2_insertTurn 70 = .ok (.return_, 1) := by decide +kernel
theorem dX2_isNextAheadOf_0 : decode cX2_isNextAheadOf 0 = .ok (.aload_n 0, 1) := by decide +kernel
theorem dX2_isNextAheadOf_1 : decode cX2_isNextAheadOf 1 = .ok (.getfield 21, 3) := by decide +kernel
theorem dX2_isNextAheadOf_4 : decode cX2_isNextAheadOf 4 = .ok (.iload_n 1, 1) := by decide +kernel
theorem dX2_isNextAheadOf_5 : decode cX2_isNextAheadOf 5 = .ok (.iload_n 3, 1) := by decide +kernel
theorem dX2_isNextAheadOf_6 : decode cX2_isNextAheadOf 6 = .ok (.invokevirtual 58, 3) := by decide +kernel
theorem dX2_isNextAheadOf_9 : decode cX2_isNextAheadOf 9 = .ok (.istore 4, 2) := by decide +kernel
theorem dX2_isNextAheadOf_11 : decode cX2_isNextAheadOf 11 = .ok (.aload_n 0, 1) := by decide +kernel
theorem dX2_isNextAheadOf_12 : decode cX2_isNextAheadOf 12 = .ok (.getfield 21, 3) := by decide +kernel
theorem dX2_isNextAheadOf_15 : decode cX2_isNextAheadOf 15 = .ok (.iload_n 2, 1) := by decide +kernel
theorem dX2_isNextAheadOf_16 : decode cX2_isNextAheadOf 16 = .ok (.iload_n 3, 1) := by decide +kernel
theorem dX2_isNextAheadOf_17 : decode cX2_isNextAheadOf 17 = .ok (.invokevirtual 58, 3) := by decide +kernel
theorem dX2_isNextAheadOf_20 : decode cX2_isNextAheadOf 20 = .ok (.istore 5, 2) := by decide +kernel
theorem dX2_isNextAheadOf_22 : decode cX2_isNextAheadOf 22 = .ok (.iload 4, 2) := by decide +kernel
theorem dX2_isNextAheadOf_24 : decode cX2_isNextAheadOf 24 = .ok (.iload 5, 2) := by decide +kernel
theorem dX2_isNextAheadOf_26 : decode cX2_isNextAheadOf 26 = .ok (.if_icmp .eq 18, 3) := by decide +kernel
theorem dX2_isNextAheadOf_29 : decode cX2_isNextAheadOf 29 = .ok (.iload 4, 2) := by decide +kernel
theorem dX2_isNextAheadOf_31 : decode cX2_isNextAheadOf 31 = .ok (.iload 5, 2) := by decide +kernel
theorem dX2_isNextAheadOf_33 : decode cX2_isNextAheadOf 33 = .ok (.if_icmp .ge 7, 3) := by decide +kernel
theorem dX2_isNextAheadOf_36 : decode cX2_isNextAheadOf 36 = .ok (.iconst 1, 1) := by decide +kernel
theorem dX2_isNextAheadOf_37 : decode cX2_isNextAheadOf 37 = .ok (.goto 31, 3) := by decide +kernel
theorem dX2_isNextAheadOf_40 : decode cX2_isNextAheadOf 40 = .ok (.iconst 0, 1) := by decide +kernel
theorem dX2_isNextAheadOf_41 : decode cX2_isNextAheadOf 41 = .ok (.goto 27, 3) := by decide +kernel
theorem dX2_isNextAheadOf_44 : decode cX2_isNextAheadOf 44 = .ok (.aload_n 0, 1) := by decide +kernel
theorem dX2_isNextAheadOf_45 : decode cX2_isNextAheadOf 45 = .ok (.getfield 21, 3) := by decide +kernel
theorem dX2_isNextAheadOf_48 : decode cX2_isNextAheadOf 48 = .ok (.iload_n 1, 1) := by decide +kernel
theorem dX2_isNextAheadOf_49 : decode cX2_isNextAheadOf 49 = .ok (.invokevirtual 62, 3) := by decide +kernel
theorem dX2_isNextAheadOf_52 : decode cX2_isNextAheadOf 52 = .ok (.aload_n 0, 1) := by decide +kernel
theorem dX2_isNextAheadOf_53 : decode cX2_isNextAheadOf 53 = .ok (.getfield 21, 3) := by decide +kernel
theorem dX2_isNextAheadOf_56 : decode cX2_isNextAheadOf 56 = .ok (.iload_n 2, 1) := by decide +kernel
theorem dX2_isNextAheadOf_57 : decode cX2_isNextAheadOf 57 = .ok (.invokevirtual 62, 3) := by decide +kernel
theorem dX2_isNextAheadOf_60 : decode cX2_isNextAheadOf 60 = .ok (.if_icmp .ge 7, 3) := by decide +kernel
theorem dX2_isNextAheadOf_63 : decode cX2_isNextAheadOf 63 = .ok (.iconst 1, 1) := by decide +kernel
theorem dX2_isNextAheadOf_64 : decode cX2_isNextAheadOf 64 = .ok (.goto 4, 3) := by decide +kernel
theorem dX2_isNextAheadOf_67 : decode cX2_isNextAheadOf 67 = .ok (.iconst 0, 1) := by decide +kernel
theorem dX2_isNextAheadOf_68 : decode cX2_isNextAheadOf 68 = .ok (.ireturn, 1) := by decide +kernel
theorem dX3_init_0 : decode cX3_init 0 = .ok (.aload_n 0, 1) := by decide +kernel
theorem dX3_init_1 : decode cX3_init 1 = .ok (.invokespecial 3, 3) := by decide +kernel
theorem dX3_init_4 : decode cX3_init 4 = .ok (.aload_n 0, 1) := by decide +kernel
theorem dX3_init_5 : decode cX3_init 5 = .ok (.sipush 168, 3) := by decide +kernel
theorem dX3_init_8 : decode cX3_init 8 = .ok (.newarray .int, 2) := by decide +kernel
theorem dX3_init_10 : decode cX3_init 10 = .ok (.putfield 9, 3) := by decide +kernel
theorem dX3_init_13 : decode cX3_init 13 = .ok (.aload_n 0, 1) := by decide +kernel
theorem dX3_init_14 : decode cX3_init 14 = .ok (.iconst 0, 1) := by decide +kernel
theorem dX3_init_15 : decode cX3_init 15 = .ok (.putfield 15, 3) := by decide +kernel
theorem dX3_init_18 : decode cX3_init 18 = .ok (.return_, 1) := by decide +kernel
theorem dX3_size_0 : decode cX3_size 0 = .ok (.aload_n 0, 1) := by decide +kernel
theorem dX3_size_1 : decode cX3_size 1 = .ok (.getfield 15, 3) := by decide +kernel
theorem dX3_size_4 : decode cX3_size 4 = .ok (.ireturn, 1) := by decide +kernel
theorem dX3_byteAt_0 : decode cX3_byteAt 0 = .ok (.iload_n 1, 1) := by decide +kernel
theorem dX3_byteAt_1 : decode cX3_byteAt 1 = .ok (.ifCond .lt 27, 3) := by decide +kernel
theorem dX3_byteAt_4 : decode cX3_byteAt 4 = .ok (.iload_n 1, 1) := by decide +kernel
theorem dX3_byteAt_5 : decode cX3_byteAt 5 = .ok (.aload_n 0, 1) := by decide +kernel
theorem dX3_byteAt_6 : decode cX3_byteAt 6 = .ok (.getfield 15, 3) := by decide +kernel
theorem dX3_byteAt_9 : decode cX3_byteAt 9 = .ok (.if_icmp .ge 19, 3) := by decide +kernel
theorem dX3_byteAt_12 : decode cX3_byteAt 12 = .ok (.iload_n 1, 1) := by decide +kernel
theorem dX3_byteAt_13 : decode cX3_byteAt 13 = .ok (.sipush 168, 3) := by decide +kernel
theorem dX3_byteAt_16 : decode cX3_byteAt 16 = .ok (.if_icmp .ge 12, 3) := by decide +kernel
theorem dX3_byteAt_19 : decode cX3_byteAt 19 = .ok (.aload_n 0, 1) := by decide +kernel
theorem dX3_byteAt_20 : decode cX3_byteAt 20 = .ok (.getfield 9, 3) := by decide +kernel
theorem dX3_byteAt_23 : decode cX3_byteAt 23 = .ok (.iload_n 1, 1) := by decide +kernel
theorem dX3_byteAt_24 : decode cX3_byteAt 24 = .ok (.iaload, 1) := by decide +kernel
theorem dX3_byteAt_25 : decode cX3_byteAt 25 = .ok (.goto 4, 3) := by decide +kernel
theorem dX3_byteAt_28 : decode cX3_byteAt 28 = .ok (.iconst (-1), 1) := by decide +kernel
theorem dX3_byteAt_29 : decode cX3_byteAt 29 = .ok (.ireturn, 1) := by decide +kernel
theorem dX3_spellRoster_0 : decode cX3_spellRoster 0 = .ok (.aload_n 0, 1) := by decide +kernel
theorem dX3_spellRoster_1 : decode cX3_spellRoster 1 = .ok (.iconst 0, 1) := by decide +kernel
theorem dX3_spellRoster_2 : decode cX3_spellRoster 2 = .ok (.putfield 15, 3) := by decide +kernel
theorem dX3_spellRoster_5 : decode cX3_spellRoster 5 = .ok (.iconst 0, 1) := by decide +kernel
theorem dX3_spellRoster_6 : decode cX3_spellRoster 6 = .ok (.istore_n 2, 1) := by decide +kernel
theorem dX3_spellRoster_7 : decode cX3_spellRoster 7 = .ok (.iload_n 2, 1) := by decide +kernel
theorem dX3_spellRoster_8 : decode cX3_spellRoster 8 = .ok (.aload_n 1, 1) := by decide +kernel
theorem dX3_spellRoster_9 : decode cX3_spellRoster 9 = .ok (.getfield 19, 3) := by decide +kernel
theorem dX3_spellRoster_12 : decode cX3_spellRoster 12 = .ok (.if_icmp .ge 29, 3) := by decide +kernel
theorem dX3_spellRoster_15 : decode cX3_spellRoster 15 = .ok (.iload_n 2, 1) := by decide +kernel
theorem dX3_spellRoster_16 : decode cX3_spellRoster 16 = .ok (.ifCond .le 9, 3) := by decide +kernel
theorem dX3_spellRoster_19 : decode cX3_spellRoster 19 = .ok (.aload_n 0, 1) := by decide +kernel
theorem dX3_spellRoster_20 : decode cX3_spellRoster 20 = .ok (.bipush 59, 2) := by decide +kernel
theorem dX3_spellRoster_22 : decode cX3_spellRoster 22 = .ok (.invokevirtual 24, 3) := by decide +kernel
theorem dX3_spellRoster_25 : decode cX3_spellRoster 25 = .ok (.aload_n 0, 1) := by decide +kernel
theorem dX3_spellRoster_26 : decode cX3_spellRoster 26 = .ok (.aload_n 1, 1) := by decide +kernel
theorem dX3_spellRoster_27 : decode cX3_spellRoster 27 = .ok (.aload_n 1, 1) := by decide +kernel
theorem dX3_spellRoster_28 : decode cX3_spellRoster 28 = .ok (.iload_n 2, 1) := by decide +kernel
theorem dX3_spellRoster_29 : decode cX3_spellRoster 29 = .ok (.invokevirtual 28, 3) := by decide +kernel
theorem dX3_spellRoster_32 : decode cX3_spellRoster 32 = .ok (.invokevirtual 32, 3) := by decide +kernel
theorem dX3_spellRoster_35 : decode cX3_spellRoster 35 = .ok (.iinc 2 1, 3) := by decide +kernel
theorem dX3_spellRoster_38 : decode cX3_spellRoster 38 = .ok (.goto (-31), 3) := by decide +kernel
theorem dX3_spellRoster_41 : decode cX3_spellRoster 41 = .ok (.aload_n 0, 1) := by decide +kernel
theorem dX3_spellRoster_42 : decode cX3_spellRoster 42 = .ok (.getfield 15, 3) := by decide +kernel
theorem dX3_spellRoster_45 : decode cX3_spellRoster 45 = .ok (.ireturn, 1) := by decide +kernel
theorem dX3_spellDuty_0 : decode cX3_spellDuty 0 = .ok (.aload_n 1, 1) := by decide +kernel
theorem dX3_spellDuty_1 : decode cX3_spellDuty 1 = .ok (.iload_n 2, 1) := by decide +kernel
theorem dX3_spellDuty_2 : decode cX3_spellDuty 2 = .ok (.invokevirtual 36, 3) := by decide +kernel
theorem dX3_spellDuty_5 : decode cX3_spellDuty 5 = .ok (.istore_n 3, 1) := by decide +kernel
theorem dX3_spellDuty_6 : decode cX3_spellDuty 6 = .ok (.aload_n 1, 1) := by decide +kernel
theorem dX3_spellDuty_7 : decode cX3_spellDuty 7 = .ok (.iload_n 2, 1) := by decide +kernel
theorem dX3_spellDuty_8 : decode cX3_spellDuty 8 = .ok (.invokevirtual 39, 3) := by decide +kernel
theorem dX3_spellDuty_11 : decode cX3_spellDuty 11 = .ok (.istore 4, 2) := by decide +kernel
theorem dX3_spellDuty_13 : decode cX3_spellDuty 13 = .ok (.aload_n 0, 1) := by decide +kernel
theorem dX3_spellDuty_14 : decode cX3_spellDuty 14 = .ok (.aload_n 1, 1) := by decide +kernel
theorem dX3_spellDuty_15 : decode cX3_spellDuty 15 = .ok (.iload_n 2, 1) := by decide +kernel
theorem dX3_spellDuty_16 : decode cX3_spellDuty 16 = .ok (.invokevirtual 42, 3) := by decide +kernel
theorem dX3_spellDuty_19 : decode cX3_spellDuty 19 = .ok (.invokevirtual 45, 3) := by decide +kernel
theorem dX3_spellDuty_22 : decode cX3_spellDuty 22 = .ok (.iload_n 3, 1) := by decide +kernel
theorem dX3_spellDuty_23 : decode cX3_spellDuty 23 = .ok (.invokestatic 48, 3) := by decide +kernel
theorem dX3_spellDuty_26 : decode cX3_spellDuty 26 = .ok (.ifCond .eq 12, 3) := by decide +kernel
theorem dX3_spellDuty_29 : decode cX3_spellDuty 29 = .ok (.aload_n 0, 1) := by decide +kernel
theorem dX3_spellDuty_30 : decode cX3_spellDuty 30 = .ok (.getstatic 52, 3) := by decide +kernel
theorem dX3_spellDuty_33 : decode cX3_spellDuty 33 = .ok (.iload_n 3, 1) := by decide +kernel
theorem dX3_spellDuty_34 : decode cX3_spellDuty 34 = .ok (.caload, 1) := by decide +kernel
theorem dX3_spellDuty_35 : decode cX3_spellDuty 35 = .ok (.invokevirtual 24, 3) := by decide +kernel
theorem dX3_spellDuty_38 : decode cX3_spellDuty 38 = .ok (.aload_n 0, 1) := by decide +kernel
theorem dX3_spellDuty_39 : decode cX3_spellDuty 39 = .ok (.bipush 61, 2) := by decide +kernel
theorem dX3_spellDuty_41 : decode cX3_spellDuty 41 = .ok (.invokevirtual 24, 3) := by decide +kernel
theorem dX3_spellDuty_44 : decode cX3_spellDuty 44 = .ok (.aload_n 0, 1) := by decide +kernel
theorem dX3_spellDuty_45 : decode cX3_spellDuty 45 = .ok (.iload 4, 2) := by decide +kernel
theorem dX3_spellDuty_47 : decode cX3_spellDuty 47 = .ok (.iconst (-1), 1) := by decide +kernel
theorem dX3_spellDuty_48 : decode cX3_spellDuty 48 = .ok (.if_icmp .ne 8, 3) := by decide +kernel
theorem dX3_spellDuty_51 : decode cX3_spellDuty 51 = .ok (.bipush 45, 2) := by decide +kernel
theorem dX3_spellDuty_53 : decode cX3_spellDuty 53 = .ok (.goto 8, 3) := by decide +kernel
theorem dX3_spellDuty_56 : decode cX3_spellDuty 56 = .ok (.bipush 48, 2) := by decide +kernel
theorem dX3_spellDuty_58 : decode cX3_spellDuty 58 = .ok (.iload 4, 2) := by decide +kernel
theorem dX3_spellDuty_60 : decode cX3_spellDuty 60 = .ok (.iadd, 1) := by decide +kernel
theorem dX3_spellDuty_61 : decode cX3_spellDuty 61 = .ok (.invokevirtual 24, 3) := by decide +kernel
theorem dX3_spellDuty_64 : decode cX3_spellDuty 64 = .ok (.return_, 1) := by decide +kernel
theorem dX3_writeNumber_0 : decode cX3_writeNumber 0 = .ok (.iload_n 1, 1) := by decide +kernel
theorem dX3_writeNumber_1 : decode cX3_writeNumber 1 = .ok (.bipush 100, 2) := by decide +kernel
theorem dX3_writeNumber_3 : decode cX3_writeNumber 3 = .ok (.if_icmp .lt 14, 3) := by decide +kernel
theorem dX3_writeNumber_6 : decode cX3_writeNumber 6 = .ok (.aload_n 0, 1) := by decide +kernel
theorem dX3_writeNumber_7 : decode cX3_writeNumber 7 = .ok (.bipush 48, 2) := by decide +kernel
theorem dX3_writeNumber_9 : decode cX3_writeNumber 9 = .ok (.iload_n 1, 1) := by decide +kernel
theorem dX3_writeNumber_10 : decode cX3_writeNumber 10 = .ok (.bipush 100, 2) := by decide +kernel
theorem dX3_writeNumber_12 : decode cX3_writeNumber 12 = .ok (.idiv, 1) := by decide +kernel
theorem dX3_writeNumber_13 : decode cX3_writeNumber 13 = .ok (.iadd, 1) := by decide +kernel
theorem dX3_writeNumber_14 : decode cX3_writeNumber 14 = .ok (.invokevirtual 24, 3) := by decide +kernel
theorem dX3_writeNumber_17 : decode cX3_writeNumber 17 = .ok (.iload_n 1, 1) := by decide +kernel
theorem dX3_writeNumber_18 : decode cX3_writeNumber 18 = .ok (.bipush 10, 2) := by decide +kernel
theorem dX3_writeNumber_20 : decode cX3_writeNumber 20 = .ok (.if_icmp .lt 17, 3) := by decide +kernel
theorem dX3_writeNumber_23 : decode cX3_writeNumber 23 = .ok (.aload_n 0, 1) := by decide +kernel
theorem dX3_writeNumber_24 : decode cX3_writeNumber 24 = .ok (.bipush 48, 2) := by decide +kernel
theorem dX3_writeNumber_26 : decode cX3_writeNumber 26 = .ok (.iload_n 1, 1) := by decide +kernel
theorem dX3_writeNumber_27 : decode cX3_writeNumber 27 = .ok (.bipush 10, 2) := by decide +kernel
theorem dX3_writeNumber_29 : decode cX3_writeNumber 29 = .ok (.idiv, 1) := by decide +kernel
theorem dX3_writeNumber_30 : decode cX3_writeNumber 30 = .ok (.bipush 10, 2) := by decide +kernel
theorem dX3_writeNumber_32 : decode cX3_writeNumber 32 = .ok (.irem, 1) := by decide +kernel
theorem dX3_writeNumber_33 : decode cX3_writeNumber 33 = .ok (.iadd, 1) := by decide +kernel
theorem dX3_writeNumber_34 : decode cX3_writeNumber 34 = .ok (.invokevirtual 24, 3) := by decide +kernel
theorem dX3_writeNumber_37 : decode cX3_writeNumber 37 = .ok (.aload_n 0, 1) := by decide +kernel
theorem dX3_writeNumber_38 : decode cX3_writeNumber 38 = .ok (.bipush 48, 2) := by decide +kernel
theorem dX3_writeNumber_40 : decode cX3_writeNumber 40 = .ok (.iload_n 1, 1) := by decide +kernel
theorem dX3_writeNumber_41 : decode cX3_writeNumber 41 = .ok (.bipush 10, 2) := by decide +kernel
theorem dX3_writeNumber_43 : decode cX3_writeNumber 43 = .ok (.irem, 1) := by decide +kernel
theorem dX3_writeNumber_44 : decode cX3_writeNumber 44 = .ok (.iadd, 1) := by decide +kernel
theorem dX3_writeNumber_45 : decode cX3_writeNumber 45 = .ok (.invokevirtual 24, 3) := by decide +kernel
theorem dX3_writeNumber_48 : decode cX3_writeNumber 48 = .ok (.return_, 1) := by decide +kernel
theorem dX3_write_0 : decode cX3_write 0 = .ok (.aload_n 0, 1) := by decide +kernel
theorem dX3_write_1 : decode cX3_write 1 = .ok (.getfield 15, 3) := by decide +kernel
theorem dX3_write_4 : decode cX3_write 4 = .ok (.ifCond .lt 13, 3) := by decide +kernel
theorem dX3_write_7 : decode cX3_write 7 = .ok (.aload_n 0, 1) := by decide +kernel
theorem dX3_write_8 : decode cX3_write 8 = .ok (.getfield 15, 3) := by decide +kernel
theorem dX3_write_11 : decode cX3_write 11 = .ok (.sipush 168, 3) := by decide +kernel
theorem dX3_write_14 : decode cX3_write 14 = .ok (.if_icmp .lt 4, 3) := by decide +kernel
theorem dX3_write_17 : decode cX3_write 17 = .ok (.return_, 1) := by decide +kernel
theorem dX3_write_18 : decode cX3_write 18 = .ok (.aload_n 0, 1) := by decide +kernel
theorem dX3_write_19 : decode cX3_write 19 = .ok (.getfield 9, 3) := by decide +kernel
theorem dX3_write_22 : decode cX3_write 22 = .ok (.aload_n 0, 1) := by decide +kernel
theorem dX3_write_23 : decode cX3_write 23 = .ok (.getfield 15, 3) := by decide +kernel
theorem dX3_write_26 : decode cX3_write 26 = .ok (.iload_n 1, 1) := by decide +kernel
theorem dX3_write_27 : decode cX3_write 27 = .ok (.iastore, 1) := by decide +kernel
theorem dX3_write_28 : decode cX3_write 28 = .ok (.aload_n 0, 1) := by decide +kernel
theorem dX3_write_29 : decode cX3_write 29 = .ok (.dup, 1) := by decide +kernel
theorem dX3_write_30 : decode cX3_write 30 = .ok (.getfield 15, 3) := by decide +kernel
theorem dX3_write_33 : decode cX3_write 33 = .ok (.iconst 1, 1) := by decide +kernel
theorem dX3_write_34 : decode cX3_write 34 = .ok (.iadd, 1) := by decide +kernel
theorem dX3_write_35 : decode cX3_write 35 = .ok (.putfield 15, 3) := by decide +kernel
theorem dX3_write_38 : decode cX3_write 38 = .ok (.return_, 1) := by decide +kernel
theorem dX4_init_0 : decode cX4_init 0 = .ok (.aload_n 0, 1) := by decide +kernel
theorem dX4_init_1 : decode cX4_init 1 = .ok (.invokespecial 3, 3) := by decide +kernel
theorem dX4_init_4 : decode cX4_init 4 = .ok (.aload_n 0, 1) := by decide +kernel
theorem dX4_init_5 : decode cX4_init 5 = .ok (.bipush 8, 2) := by decide +kernel
theorem dX4_init_7 : decode cX4_init 7 = .ok (.newarray .int, 2) := by decide +kernel
theorem dX4_init_9 : decode cX4_init 9 = .ok (.putfield 9, 3) := by decide +kernel
theorem dX4_init_12 : decode cX4_init 12 = .ok (.aload_n 0, 1) := by decide +kernel
theorem dX4_init_13 : decode cX4_init 13 = .ok (.bipush 8, 2) := by decide +kernel
theorem dX4_init_15 : decode cX4_init 15 = .ok (.newarray .int, 2) := by decide +kernel
theorem dX4_init_17 : decode cX4_init 17 = .ok (.putfield 15, 3) := by decide +kernel
theorem dX4_init_20 : decode cX4_init 20 = .ok (.aload_n 0, 1) := by decide +kernel
theorem dX4_init_21 : decode cX4_init 21 = .ok (.bipush 8, 2) := by decide +kernel
theorem dX4_init_23 : decode cX4_init 23 = .ok (.newarray .boolean, 2) := by decide +kernel
theorem dX4_init_25 : decode cX4_init 25 = .ok (.putfield 18, 3) := by decide +kernel
theorem dX4_init_28 : decode cX4_init 28 = .ok (.aload_n 0, 1) := by decide +kernel
theorem dX4_init_29 : decode cX4_init 29 = .ok (.aload_n 1, 1) := by decide +kernel
theorem dX4_init_30 : decode cX4_init 30 = .ok (.putfield 22, 3) := by decide +kernel
theorem dX4_init_33 : decode cX4_init 33 = .ok (.aload_n 0, 1) := by decide +kernel
theorem dX4_init_34 : decode cX4_init 34 = .ok (.iconst 0, 1) := by decide +kernel
theorem dX4_init_35 : decode cX4_init 35 = .ok (.putfield 26, 3) := by decide +kernel
theorem dX4_init_38 : decode cX4_init 38 = .ok (.aload_n 0, 1) := by decide +kernel
theorem dX4_init_39 : decode cX4_init 39 = .ok (.bipush (-5), 2) := by decide +kernel
theorem dX4_init_41 : decode cX4_init 41 = .ok (.putfield 30, 3) := by decide +kernel
theorem dX4_init_44 : decode cX4_init 44 = .ok (.aload_n 0, 1) := by decide +kernel
theorem dX4_init_45 : decode cX4_init 45 = .ok (.bipush (-5), 2) := by decide +kernel
theorem dX4_init_47 : decode cX4_init 47 = .ok (.putfield 33, 3) := by decide +kernel
theorem dX4_init_50 : decode cX4_init 50 = .ok (.return_, 1) := by decide +kernel
theorem dX4_giver_0 : decode cX4_giver 0 = .ok (.aload_n 0, 1) := by decide +kernel
theorem dX4_giver_1 : decode cX4_giver 1 = .ok (.getfield 30, 3) := by decide +kernel
theorem dX4_giver_4 : decode cX4_giver 4 = .ok (.ireturn, 1) := by decide +kernel
theorem dX4_taker_0 : decode cX4_taker 0 = .ok (.aload_n 0, 1) := by decide +kernel
theorem dX4_taker_1 : decode cX4_taker 1 = .ok (.getfield 33, 3) := by decide +kernel
theorem dX4_taker_4 : decode cX4_taker 4 = .ok (.ireturn, 1) := by decide +kernel
theorem dX4_fillKind_0 : decode cX4_fillKind 0 = .ok (.iconst 0, 1) := by decide +kernel
theorem dX4_fillKind_1 : decode cX4_fillKind 1 = .ok (.istore_n 2, 1) := by decide +kernel
theorem dX4_fillKind_2 : decode cX4_fillKind 2 = .ok (.iconst 0, 1) := by decide +kernel
theorem dX4_fillKind_3 : decode cX4_fillKind 3 = .ok (.istore_n 3, 1) := by decide +kernel
theorem dX4_fillKind_4 : decode cX4_fillKind 4 = .ok (.iload_n 3, 1) := by decide +kernel
theorem dX4_fillKind_5 : decode cX4_fillKind 5 = .ok (.aload_n 0, 1) := by decide +kernel
theorem dX4_fillKind_6 : decode cX4_fillKind 6 = .ok (.getfield 22, 3) := by decide +kernel
theorem dX4_fillKind_9 : decode cX4_fillKind 9 = .ok (.getfield 36, 3) := by decide +kernel
theorem dX4_fillKind_12 : decode cX4_fillKind 12 = .ok (.if_icmp .ge 85, 3) := by decide +kernel
theorem dX4_fillKind_15 : decode cX4_fillKind 15 = .ok (.aload_n 0, 1) := by decide +kernel
theorem dX4_fillKind_16 : decode cX4_fillKind 16 = .ok (.getfield 22, 3) := by decide +kernel
theorem dX4_fillKind_19 : decode cX4_fillKind 19 = .ok (.iload_n 3, 1) := by decide +kernel
theorem dX4_fillKind_20 : decode cX4_fillKind 20 = .ok (.invokevirtual 41, 3) := by decide +kernel
theorem dX4_fillKind_23 : decode cX4_fillKind 23 = .ok (.istore 4, 2) := by decide +kernel
theorem dX4_fillKind_25 : decode cX4_fillKind 25 = .ok (.aload_n 0, 1) := by decide +kernel
theorem dX4_fillKind_26 : decode cX4_fillKind 26 = .ok (.getfield 22, 3) := by decide +kernel
theorem dX4_fillKind_29 : decode cX4_fillKind 29 = .ok (.iload 4, 2) := by decide +kernel
theorem dX4_fillKind_31 : decode cX4_fillKind 31 = .ok (.invokevirtual 45, 3) := by decide +kernel
theorem dX4_fillKind_34 : decode cX4_fillKind 34 = .ok (.iload_n 1, 1) := by decide +kernel
theorem dX4_fillKind_35 : decode cX4_fillKind 35 = .ok (.if_icmp .ne 56, 3) := by decide +kernel
theorem dX4_fillKind_38 : decode cX4_fillKind 38 = .ok (.aload_n 0, 1) := by decide +kernel
theorem dX4_fillKind_39 : decode cX4_fillKind 39 = .ok (.getfield 22, 3) := by decide +kernel
theorem dX4_fillKind_42 : decode cX4_fillKind 42 = .ok (.iload 4, 2) := by decide +kernel
theorem dX4_fillKind_44 : decode cX4_fillKind 44 = .ok (.invokevirtual 48, 3) := by decide +kernel
theorem dX4_fillKind_47 : decode cX4_fillKind 47 = .ok (.iconst (-1), 1) := by decide +kernel
theorem dX4_fillKind_48 : decode cX4_fillKind 48 = .ok (.if_icmp .eq 6, 3) := by decide +kernel
theorem dX4_fillKind_51 : decode cX4_fillKind 51 = .ok (.goto 40, 3) := by decide +kernel
theorem dX4_fillKind_54 : decode cX4_fillKind 54 = .ok (.aload_n 0, 1) := by decide +kernel
theorem dX4_fillKind_55 : decode cX4_fillKind 55 = .ok (.invokevirtual 51, 3) := by decide +kernel
theorem dX4_fillKind_58 : decode cX4_fillKind 58 = .ok (.aload_n 0, 1) := by decide +kernel
theorem dX4_fillKind_59 : decode cX4_fillKind 59 = .ok (.iload 4, 2) := by decide +kernel
theorem dX4_fillKind_61 : decode cX4_fillKind 61 = .ok (.invokevirtual 54, 3) := by decide +kernel
theorem dX4_fillKind_64 : decode cX4_fillKind 64 = .ok (.aload_n 0, 1) := by decide +kernel
theorem dX4_fillKind_65 : decode cX4_fillKind 65 = .ok (.iload_n 1, 1) := by decide +kernel
theorem dX4_fillKind_66 : decode cX4_fillKind 66 = .ok (.invokevirtual 58, 3) := by decide +kernel
theorem dX4_fillKind_69 : decode cX4_fillKind 69 = .ok (.aload_n 0, 1) := by decide +kernel
theorem dX4_fillKind_70 : decode cX4_fillKind 70 = .ok (.getfield 26, 3) := by decide +kernel
theorem dX4_fillKind_73 : decode cX4_fillKind 73 = .ok (.ifCond .ne 6, 3) := by decide +kernel
theorem dX4_fillKind_76 : decode cX4_fillKind 76 = .ok (.goto 15, 3) := by decide +kernel
theorem dX4_fillKind_79 : decode cX4_fillKind 79 = .ok (.aload_n 0, 1) := by decide +kernel
theorem dX4_fillKind_80 : decode cX4_fillKind 80 = .ok (.aload_n 0, 1) := by decide +kernel
theorem dX4_fillKind_81 : decode cX4_fillKind 81 = .ok (.iload_n 1, 1) := by decide +kernel
theorem dX4_fillKind_82 : decode cX4_fillKind 82 = .ok (.invokevirtual 61, 3) := by decide +kernel
theorem dX4_fillKind_85 : decode cX4_fillKind 85 = .ok (.invokevirtual 64, 3) := by decide +kernel
theorem dX4_fillKind_88 : decode cX4_fillKind 88 = .ok (.iinc 2 1, 3) := by decide +kernel
theorem dX4_fillKind_91 : decode cX4_fillKind 91 = .ok (.iinc 3 1, 3) := by decide +kernel
theorem dX4_fillKind_94 : decode cX4_fillKind 94 = .ok (.goto (-90), 3) := by decide +kernel
theorem dX4_fillKind_97 : decode cX4_fillKind 97 = .ok (.iload_n 2, 1) := by decide +kernel
theorem dX4_fillKind_98 : decode cX4_fillKind 98 = .ok (.ireturn, 1) := by decide +kernel
theorem dX4_easeKind_0 : decode cX4_easeKind 0 = .ok (.iconst 0, 1) := by decide +kernel
theorem dX4_easeKind_1 : decode cX4_easeKind 1 = .ok (.istore_n 2, 1) := by decide +kernel
theorem dX4_easeKind_2 : decode cX4_easeKind 2 = .ok (.iload_n 2, 1) := by decide +kernel
theorem dX4_easeKind_3 : decode cX4_easeKind 3 = .ok (.ldc 67, 2) := by decide +kernel
theorem dX4_easeKind_5 : decode cX4_easeKind 5 = .ok (.if_icmp .ge 25, 3) := by decide +kernel
theorem dX4_easeKind_8 : decode cX4_easeKind 8 = .ok (.aload_n 0, 1) := by decide +kernel
theorem dX4_easeKind_9 : decode cX4_easeKind 9 = .ok (.iload_n 1, 1) := by decide +kernel
theorem dX4_easeKind_10 : decode cX4_easeKind 10 = .ok (.invokevirtual 68, 3) := by decide +kernel
theorem dX4_easeKind_13 : decode cX4_easeKind 13 = .ok (.ifCond .eq 17, 3) := by decide +kernel
theorem dX4_easeKind_16 : decode cX4_easeKind 16 = .ok (.aload_n 0, 1) := by decide +kernel
theorem dX4_easeKind_17 : decode cX4_easeKind 17 = .ok (.aload_n 0, 1) := by decide +kernel
theorem dX4_easeKind_18 : decode cX4_easeKind 18 = .ok (.getfield 33, 3) := by decide +kernel
theorem dX4_easeKind_21 : decode cX4_easeKind 21 = .ok (.invokevirtual 64, 3) := by decide +kernel
theorem dX4_easeKind_24 : decode cX4_easeKind 24 = .ok (.iinc 2 1, 3) := by decide +kernel
theorem dX4_easeKind_27 : decode cX4_easeKind 27 = .ok (.goto (-25), 3) := by decide +kernel
theorem dX4_easeKind_30 : decode cX4_easeKind 30 = .ok (.iload_n 2, 1) := by decide +kernel
theorem dX4_easeKind_31 : decode cX4_easeKind 31 = .ok (.ireturn, 1) := by decide +kernel
theorem dX4_findLesser_0 : decode cX4_findLesser 0 = .ok (.iconst 0, 1) := by decide +kernel
theorem dX4_findLesser_1 : decode cX4_findLesser 1 = .ok (.istore_n 2, 1) := by decide +kernel
theorem dX4_findLesser_2 : decode cX4_findLesser 2 = .ok (.iload_n 2, 1) := by decide +kernel
theorem dX4_findLesser_3 : decode cX4_findLesser 3 = .ok (.aload_n 0, 1) := by decide +kernel
theorem dX4_findLesser_4 : decode cX4_findLesser 4 = .ok (.getfield 22, 3) := by decide +kernel
theorem dX4_findLesser_7 : decode cX4_findLesser 7 = .ok (.getfield 72, 3) := by decide +kernel
theorem dX4_findLesser_10 : decode cX4_findLesser 10 = .ok (.if_icmp .ge 90, 3) := by decide +kernel
theorem dX4_findLesser_13 : decode cX4_findLesser 13 = .ok (.aload_n 0, 1) := by decide +kernel
theorem dX4_findLesser_14 : decode cX4_findLesser 14 = .ok (.getfield 22, 3) := by decide +kernel
theorem dX4_findLesser_17 : decode cX4_findLesser 17 = .ok (.aload_n 0, 1) := by decide +kernel
theorem dX4_findLesser_18 : decode cX4_findLesser 18 = .ok (.getfield 22, 3) := by decide +kernel
theorem dX4_findLesser_21 : decode cX4_findLesser 21 = .ok (.getfield 75, 3) := by decide +kernel
theorem dX4_findLesser_24 : decode cX4_findLesser 24 = .ok (.iload_n 2, 1) := by decide +kernel
theorem dX4_findLesser_25 : decode cX4_findLesser 25 = .ok (.iload_n 1, 1) := by decide +kernel
theorem dX4_findLesser_26 : decode cX4_findLesser 26 = .ok (.invokevirtual 78, 3) := by decide +kernel
theorem dX4_findLesser_29 : decode cX4_findLesser 29 = .ok (.ifCond .ne 6, 3) := by decide +kernel
theorem dX4_findLesser_32 : decode cX4_findLesser 32 = .ok (.goto 62, 3) := by decide +kernel
theorem dX4_findLesser_35 : decode cX4_findLesser 35 = .ok (.aload_n 0, 1) := by decide +kernel
theorem dX4_findLesser_36 : decode cX4_findLesser 36 = .ok (.invokevirtual 51, 3) := by decide +kernel
theorem dX4_findLesser_39 : decode cX4_findLesser 39 = .ok (.aload_n 0, 1) := by decide +kernel
theorem dX4_findLesser_40 : decode cX4_findLesser 40 = .ok (.iload_n 2, 1) := by decide +kernel
theorem dX4_findLesser_41 : decode cX4_findLesser 41 = .ok (.iconst (-1), 1) := by decide +kernel
theorem dX4_findLesser_42 : decode cX4_findLesser 42 = .ok (.invokevirtual 82, 3) := by decide +kernel
theorem dX4_findLesser_45 : decode cX4_findLesser 45 = .ok (.aload_n 0, 1) := by decide +kernel
theorem dX4_findLesser_46 : decode cX4_findLesser 46 = .ok (.iload_n 1, 1) := by decide +kernel
theorem dX4_findLesser_47 : decode cX4_findLesser 47 = .ok (.invokevirtual 58, 3) := by decide +kernel
theorem dX4_findLesser_50 : decode cX4_findLesser 50 = .ok (.aload_n 0, 1) := by decide +kernel
theorem dX4_findLesser_51 : decode cX4_findLesser 51 = .ok (.iload_n 1, 1) := by decide +kernel
theorem dX4_findLesser_52 : decode cX4_findLesser 52 = .ok (.invokevirtual 61, 3) := by decide +kernel
theorem dX4_findLesser_55 : decode cX4_findLesser 55 = .ok (.istore_n 3, 1) := by decide +kernel
theorem dX4_findLesser_56 : decode cX4_findLesser 56 = .ok (.aload_n 0, 1) := by decide +kernel
theorem dX4_findLesser_57 : decode cX4_findLesser 57 = .ok (.getfield 22, 3) := by decide +kernel
theorem dX4_findLesser_60 : decode cX4_findLesser 60 = .ok (.iload_n 3, 1) := by decide +kernel
theorem dX4_findLesser_61 : decode cX4_findLesser 61 = .ok (.iload_n 1, 1) := by decide +kernel
theorem dX4_findLesser_62 : decode cX4_findLesser 62 = .ok (.invokevirtual 86, 3) := by decide +kernel
theorem dX4_findLesser_65 : decode cX4_findLesser 65 = .ok (.aload_n 0, 1) := by decide +kernel
theorem dX4_findLesser_66 : decode cX4_findLesser 66 = .ok (.getfield 22, 3) := by decide +kernel
theorem dX4_findLesser_69 : decode cX4_findLesser 69 = .ok (.iload_n 2, 1) := by decide +kernel
theorem dX4_findLesser_70 : decode cX4_findLesser 70 = .ok (.iload_n 1, 1) := by decide +kernel
theorem dX4_findLesser_71 : decode cX4_findLesser 71 = .ok (.invokevirtual 86, 3) := by decide +kernel
theorem dX4_findLesser_74 : decode cX4_findLesser 74 = .ok (.iconst 2, 1) := by decide +kernel
theorem dX4_findLesser_75 : decode cX4_findLesser 75 = .ok (.isub, 1) := by decide +kernel
theorem dX4_findLesser_76 : decode cX4_findLesser 76 = .ok (.if_icmp .le 6, 3) := by decide +kernel
theorem dX4_findLesser_79 : decode cX4_findLesser 79 = .ok (.goto 15, 3) := by decide +kernel
theorem dX4_findLesser_82 : decode cX4_findLesser 82 = .ok (.aload_n 0, 1) := by decide +kernel
theorem dX4_findLesser_83 : decode cX4_findLesser 83 = .ok (.iload_n 2, 1) := by decide +kernel
theorem dX4_findLesser_84 : decode cX4_findLesser 84 = .ok (.putfield 30, 3) := by decide +kernel
theorem dX4_findLesser_87 : decode cX4_findLesser 87 = .ok (.aload_n 0, 1) := by decide +kernel
theorem dX4_findLesser_88 : decode cX4_findLesser 88 = .ok (.iload_n 3, 1) := by decide +kernel
theorem dX4_findLesser_89 : decode cX4_findLesser 89 = .ok (.putfield 33, 3) := by decide +kernel
theorem dX4_findLesser_92 : decode cX4_findLesser 92 = .ok (.iconst 1, 1) := by decide +kernel
theorem dX4_findLesser_93 : decode cX4_findLesser 93 = .ok (.ireturn, 1) := by decide +kernel
theorem dX4_findLesser_94 : decode cX4_findLesser 94 = .ok (.iinc 2 1, 3) := by decide +kernel
theorem dX4_findLesser_97 : decode cX4_findLesser 97 = .ok (.goto (-95), 3) := by decide +kernel
theorem dX4_findLesser_100 : decode cX4_findLesser 100 = .ok (.aload_n 0, 1) := by decide +kernel
theorem dX4_findLesser_101 : decode cX4_findLesser 101 = .ok (.bipush (-5), 2) := by decide +kernel
theorem dX4_findLesser_103 : decode cX4_findLesser 103 = .ok (.putfield 30, 3) := by decide +kernel
theorem dX4_findLesser_106 : decode cX4_findLesser 106 = .ok (.aload_n 0, 1) := by decide +kernel
theorem dX4_findLesser_107 : decode cX4_findLesser 107 = .ok (.bipush (-5), 2) := by decide +kernel
theorem dX4_findLesser_109 : decode cX4_findLesser 109 = .ok (.putfield 33, 3) := by decide +kernel
theorem dX4_findLesser_112 : decode cX4_findLesser 112 = .ok (.iconst 0, 1) := by decide +kernel
theorem dX4_findLesser_113 : decode cX4_findLesser 113 = .ok (.ireturn, 1) := by decide +kernel
theorem dX4_forget_0 : decode cX4_forget 0 = .ok (.aload_n 0, 1) := by decide +kernel
theorem dX4_forget_1 : decode cX4_forget 1 = .ok (.iconst 0, 1) := by decide +kernel
theorem dX4_forget_2 : decode cX4_forget 2 = .ok (.putfield 26, 3) := by decide +kernel
theorem dX4_forget_5 : decode cX4_forget 5 = .ok (.iconst 0, 1) := by decide +kernel
theorem dX4_forget_6 : decode cX4_forget 6 = .ok (.istore_n 1, 1) := by decide +kernel
theorem dX4_forget_7 : decode cX4_forget 7 = .ok (.iload_n 1, 1) := by decide +kernel
theorem dX4_forget_8 : decode cX4_forget 8 = .ok (.bipush 8, 2) := by decide +kernel
theorem dX4_forget_10 : decode cX4_forget 10 = .ok (.if_icmp .ge 16, 3) := by decide +kernel
theorem dX4_forget_13 : decode cX4_forget 13 = .ok (.aload_n 0, 1) := by decide +kernel
theorem dX4_forget_14 : decode cX4_forget 14 = .ok (.getfield 18, 3) := by decide +kernel
theorem dX4_forget_17 : decode cX4_forget 17 = .ok (.iload_n 1, 1) := by decide +kernel
theorem dX4_forget_18 : decode cX4_forget 18 = .ok (.iconst 0, 1) := by decide +kernel
theorem dX4_forget_19 : decode cX4_forget 19 = .ok (.bastore, 1) := by decide +kernel
theorem dX4_forget_20 : decode cX4_forget 20 = .ok (.iinc 1 1, 3) := by decide +kernel
theorem dX4_forget_23 : decode cX4_forget 23 = .ok (.goto (-16), 3) := by decide +kernel
theorem dX4_forget_26 : decode cX4_forget 26 = .ok (.return_, 1) := by decide +kernel
theorem dX4_goOn_0 : decode cX4_goOn 0 = .ok (.iconst 0, 1) := by decide +kernel
theorem dX4_goOn_1 : decode cX4_goOn 1 = .ok (.istore_n 2, 1) := by decide +kernel
theorem dX4_goOn_2 : decode cX4_goOn 2 = .ok (.iload_n 2, 1) := by decide +kernel
theorem dX4_goOn_3 : decode cX4_goOn 3 = .ok (.aload_n 0, 1) := by decide +kernel
theorem dX4_goOn_4 : decode cX4_goOn 4 = .ok (.getfield 26, 3) := by decide +kernel
theorem dX4_goOn_7 : decode cX4_goOn 7 = .ok (.if_icmp .ge 68, 3) := by decide +kernel
theorem dX4_goOn_10 : decode cX4_goOn 10 = .ok (.iload_n 2, 1) := by decide +kernel
theorem dX4_goOn_11 : decode cX4_goOn 11 = .ok (.bipush 8, 2) := by decide +kernel
theorem dX4_goOn_13 : decode cX4_goOn 13 = .ok (.if_icmp .ge 62, 3) := by decide +kernel
theorem dX4_goOn_16 : decode cX4_goOn 16 = .ok (.iconst 0, 1) := by decide +kernel
theorem dX4_goOn_17 : decode cX4_goOn 17 = .ok (.istore_n 3, 1) := by decide +kernel
theorem dX4_goOn_18 : decode cX4_goOn 18 = .ok (.iload_n 3, 1) := by decide +kernel
theorem dX4_goOn_19 : decode cX4_goOn 19 = .ok (.aload_n 0, 1) := by decide +kernel
theorem dX4_goOn_20 : decode cX4_goOn 20 = .ok (.getfield 22, 3) := by decide +kernel
theorem dX4_goOn_23 : decode cX4_goOn 23 = .ok (.getfield 36, 3) := by decide +kernel
theorem dX4_goOn_26 : decode cX4_goOn 26 = .ok (.if_icmp .ge 43, 3) := by decide +kernel
theorem dX4_goOn_29 : decode cX4_goOn 29 = .ok (.aload_n 0, 1) := by decide +kernel
theorem dX4_goOn_30 : decode cX4_goOn 30 = .ok (.getfield 22, 3) := by decide +kernel
theorem dX4_goOn_33 : decode cX4_goOn 33 = .ok (.iload_n 3, 1) := by decide +kernel
theorem dX4_goOn_34 : decode cX4_goOn 34 = .ok (.invokevirtual 45, 3) := by decide +kernel
theorem dX4_goOn_37 : decode cX4_goOn 37 = .ok (.iload_n 1, 1) := by decide +kernel
theorem dX4_goOn_38 : decode cX4_goOn 38 = .ok (.if_icmp .ne 25, 3) := by decide +kernel
theorem dX4_goOn_41 : decode cX4_goOn 41 = .ok (.aload_n 0, 1) := by decide +kernel
theorem dX4_goOn_42 : decode cX4_goOn 42 = .ok (.getfield 22, 3) := by decide +kernel
theorem dX4_goOn_45 : decode cX4_goOn 45 = .ok (.iload_n 3, 1) := by decide +kernel
theorem dX4_goOn_46 : decode cX4_goOn 46 = .ok (.invokevirtual 48, 3) := by decide +kernel
theorem dX4_goOn_49 : decode cX4_goOn 49 = .ok (.aload_n 0, 1) := by decide +kernel
theorem dX4_goOn_50 : decode cX4_goOn 50 = .ok (.getfield 9, 3) := by decide +kernel
theorem dX4_goOn_53 : decode cX4_goOn 53 = .ok (.iload_n 2, 1) := by decide +kernel
theorem dX4_goOn_54 : decode cX4_goOn 54 = .ok (.iaload, 1) := by decide +kernel
theorem dX4_goOn_55 : decode cX4_goOn 55 = .ok (.if_icmp .ne 8, 3) := by decide +kernel
theorem dX4_goOn_58 : decode cX4_goOn 58 = .ok (.aload_n 0, 1) := by decide +kernel
theorem dX4_goOn_59 : decode cX4_goOn 59 = .ok (.iload_n 3, 1) := by decide +kernel
theorem dX4_goOn_60 : decode cX4_goOn 60 = .ok (.invokevirtual 54, 3) := by decide +kernel
theorem dX4_goOn_63 : decode cX4_goOn 63 = .ok (.iinc 3 1, 3) := by decide +kernel
theorem dX4_goOn_66 : decode cX4_goOn 66 = .ok (.goto (-48), 3) := by decide +kernel
theorem dX4_goOn_69 : decode cX4_goOn 69 = .ok (.iinc 2 1, 3) := by decide +kernel
theorem dX4_goOn_72 : decode cX4_goOn 72 = .ok (.goto (-70), 3) := by decide +kernel
theorem dX4_goOn_75 : decode cX4_goOn 75 = .ok (.return_, 1) := by decide +kernel
theorem dX4_meetWhoMayHold_0 : decode cX4_meetWhoMayHold 0 = .ok (.iconst 0, 1) := by decide +kernel
theorem dX4_meetWhoMayHold_1 : decode cX4_meetWhoMayHold 1 = .ok (.istore_n 2, 1) := by decide +kernel
theorem dX4_meetWhoMayHold_2 : decode cX4_meetWhoMayHold 2 = .ok (.iload_n 2, 1) := by decide +kernel
theorem dX4_meetWhoMayHold_3 : decode cX4_meetWhoMayHold 3 = .ok (.aload_n 0, 1) := by decide +kernel
theorem dX4_meetWhoMayHold_4 : decode cX4_meetWhoMayHold 4 = .ok (.getfield 22, 3) := by decide +kernel
theorem dX4_meetWhoMayHold_7 : decode cX4_meetWhoMayHold 7 = .ok (.getfield 72, 3) := by decide +kernel
theorem dX4_meetWhoMayHold_10 : decode cX4_meetWhoMayHold 10 = .ok (.if_icmp .ge 27, 3) := by decide +kernel
theorem dX4_meetWhoMayHold_13 : decode cX4_meetWhoMayHold 13 = .ok (.aload_n 0, 1) := by decide +kernel
theorem dX4_meetWhoMayHold_14 : decode cX4_meetWhoMayHold 14 = .ok (.getfield 22, 3) := by decide +kernel
theorem dX4_meetWhoMayHold_17 : decode cX4_meetWhoMayHold 17 = .ok (.iload_n 2, 1) := by decide +kernel
theorem dX4_meetWhoMayHold_18 : decode cX4_meetWhoMayHold 18 = .ok (.iload_n 1, 1) := by decide +kernel
theorem dX4_meetWhoMayHold_19 : decode cX4_meetWhoMayHold 19 = .ok (.invokevirtual 90, 3) := by decide +kernel
theorem dX4_meetWhoMayHold_22 : decode cX4_meetWhoMayHold 22 = .ok (.ifCond .eq 9, 3) := by decide +kernel
theorem dX4_meetWhoMayHold_25 : decode cX4_meetWhoMayHold 25 = .ok (.aload_n 0, 1) := by decide +kernel
theorem dX4_meetWhoMayHold_26 : decode cX4_meetWhoMayHold 26 = .ok (.iload_n 2, 1) := by decide +kernel
theorem dX4_meetWhoMayHold_27 : decode cX4_meetWhoMayHold 27 = .ok (.iload_n 1, 1) := by decide +kernel
theorem dX4_meetWhoMayHold_28 : decode cX4_meetWhoMayHold 28 = .ok (.invokevirtual 82, 3) := by decide +kernel
theorem dX4_meetWhoMayHold_31 : decode cX4_meetWhoMayHold 31 = .ok (.iinc 2 1, 3) := by decide +kernel
theorem dX4_meetWhoMayHold_34 : decode cX4_meetWhoMayHold 34 = .ok (.goto (-32), 3) := by decide +kernel
theorem dX4_meetWhoMayHold_37 : decode cX4_meetWhoMayHold 37 = .ok (.return_, 1) := by decide +kernel
theorem dX4_meet_0 : decode cX4_meet 0 = .ok (.aload_n 0, 1) := by decide +kernel
theorem dX4_meet_1 : decode cX4_meet 1 = .ok (.getfield 22, 3) := by decide +kernel
theorem dX4_meet_4 : decode cX4_meet 4 = .ok (.iload_n 1, 1) := by decide +kernel
theorem dX4_meet_5 : decode cX4_meet 5 = .ok (.invokevirtual 94, 3) := by decide +kernel
theorem dX4_meet_8 : decode cX4_meet 8 = .ok (.ifCond .eq 28, 3) := by decide +kernel
theorem dX4_meet_11 : decode cX4_meet 11 = .ok (.aload_n 0, 1) := by decide +kernel
theorem dX4_meet_12 : decode cX4_meet 12 = .ok (.getfield 18, 3) := by decide +kernel
theorem dX4_meet_15 : decode cX4_meet 15 = .ok (.iload_n 1, 1) := by decide +kernel
theorem dX4_meet_16 : decode cX4_meet 16 = .ok (.baload, 1) := by decide +kernel
theorem dX4_meet_17 : decode cX4_meet 17 = .ok (.ifCond .ne 19, 3) := by decide +kernel
theorem dX4_meet_20 : decode cX4_meet 20 = .ok (.aload_n 0, 1) := by decide +kernel
theorem dX4_meet_21 : decode cX4_meet 21 = .ok (.getfield 26, 3) := by decide +kernel
theorem dX4_meet_24 : decode cX4_meet 24 = .ok (.ifCond .lt 12, 3) := by decide +kernel
theorem dX4_meet_27 : decode cX4_meet 27 = .ok (.aload_n 0, 1) := by decide +kernel
theorem dX4_meet_28 : decode cX4_meet 28 = .ok (.getfield 26, 3) := by decide +kernel
theorem dX4_meet_31 : decode cX4_meet 31 = .ok (.bipush 8, 2) := by decide +kernel
theorem dX4_meet_33 : decode cX4_meet 33 = .ok (.if_icmp .lt 4, 3) := by decide +kernel
theorem dX4_meet_36 : decode cX4_meet 36 = .ok (.return_, 1) := by decide +kernel
theorem dX4_meet_37 : decode cX4_meet 37 = .ok (.aload_n 0, 1) := by decide +kernel
theorem dX4_meet_38 : decode cX4_meet 38 = .ok (.getfield 18, 3) := by decide +kernel
theorem dX4_meet_41 : decode cX4_meet 41 = .ok (.iload_n 1, 1) := by decide +kernel
theorem dX4_meet_42 : decode cX4_meet 42 = .ok (.iconst 1, 1) := by decide +kernel
theorem dX4_meet_43 : decode cX4_meet 43 = .ok (.bastore, 1) := by decide +kernel
theorem dX4_meet_44 : decode cX4_meet 44 = .ok (.aload_n 0, 1) := by decide +kernel
theorem dX4_meet_45 : decode cX4_meet 45 = .ok (.getfield 15, 3) := by decide +kernel
theorem dX4_meet_48 : decode cX4_meet 48 = .ok (.iload_n 1, 1) := by decide +kernel
theorem dX4_meet_49 : decode cX4_meet 49 = .ok (.iload_n 2, 1) := by decide +kernel
theorem dX4_meet_50 : decode cX4_meet 50 = .ok (.iastore, 1) := by decide +kernel
theorem dX4_meet_51 : decode cX4_meet 51 = .ok (.aload_n 0, 1) := by decide +kernel
theorem dX4_meet_52 : decode cX4_meet 52 = .ok (.getfield 9, 3) := by decide +kernel
theorem dX4_meet_55 : decode cX4_meet 55 = .ok (.aload_n 0, 1) := by decide +kernel
theorem dX4_meet_56 : decode cX4_meet 56 = .ok (.getfield 26, 3) := by decide +kernel
theorem dX4_meet_59 : decode cX4_meet 59 = .ok (.iload_n 1, 1) := by decide +kernel
theorem dX4_meet_60 : decode cX4_meet 60 = .ok (.iastore, 1) := by decide +kernel
theorem dX4_meet_61 : decode cX4_meet 61 = .ok (.aload_n 0, 1) := by decide +kernel
theorem dX4_meet_62 : decode cX4_meet 62 = .ok (.dup, 1) := by decide +kernel
theorem dX4_meet_63 : decode cX4_meet 63 = .ok (.getfield 26, 3) := by decide +kernel
theorem dX4_meet_66 : decode cX4_meet 66 = .ok (.iconst 1, 1) := by decide +kernel
theorem dX4_meet_67 : decode cX4_meet 67 = .ok (.iadd, 1) := by decide +kernel
theorem dX4_meet_68 : decode cX4_meet 68 = .ok (.putfield 26, 3) := by decide +kernel
theorem dX4_meet_71 : decode cX4_meet 71 = .ok (.return_, 1) := by decide +kernel
theorem dX4_leastMet_0 : decode cX4_leastMet 0 = .ok (.iconst (-1), 1) := by decide +kernel
theorem dX4_leastMet_1 : decode cX4_leastMet 1 = .ok (.istore_n 2, 1) := by decide +kernel
theorem dX4_leastMet_2 : decode cX4_leastMet 2 = .ok (.iconst 0, 1) := by decide +kernel
theorem dX4_leastMet_3 : decode cX4_leastMet 3 = .ok (.istore_n 3, 1) := by decide +kernel
theorem dX4_leastMet_4 : decode cX4_leastMet 4 = .ok (.iload_n 3, 1) := by decide +kernel
theorem dX4_leastMet_5 : decode cX4_leastMet 5 = .ok (.aload_n 0, 1) := by decide +kernel
theorem dX4_leastMet_6 : decode cX4_leastMet 6 = .ok (.getfield 26, 3) := by decide +kernel
theorem dX4_leastMet_9 : decode cX4_leastMet 9 = .ok (.if_icmp .ge 53, 3) := by decide +kernel
theorem dX4_leastMet_12 : decode cX4_leastMet 12 = .ok (.iload_n 3, 1) := by decide +kernel
theorem dX4_leastMet_13 : decode cX4_leastMet 13 = .ok (.bipush 8, 2) := by decide +kernel
theorem dX4_leastMet_15 : decode cX4_leastMet 15 = .ok (.if_icmp .ge 47, 3) := by decide +kernel
theorem dX4_leastMet_18 : decode cX4_leastMet 18 = .ok (.aload_n 0, 1) := by decide +kernel
theorem dX4_leastMet_19 : decode cX4_leastMet 19 = .ok (.getfield 9, 3) := by decide +kernel
theorem dX4_leastMet_22 : decode cX4_leastMet 22 = .ok (.iload_n 3, 1) := by decide +kernel
theorem dX4_leastMet_23 : decode cX4_leastMet 23 = .ok (.iaload, 1) := by decide +kernel
theorem dX4_leastMet_24 : decode cX4_leastMet 24 = .ok (.istore 4, 2) := by decide +kernel
theorem dX4_leastMet_26 : decode cX4_leastMet 26 = .ok (.iload_n 2, 1) := by decide +kernel
theorem dX4_leastMet_27 : decode cX4_leastMet 27 = .ok (.iconst (-1), 1) := by decide +kernel
theorem dX4_leastMet_28 : decode cX4_leastMet 28 = .ok (.if_icmp .eq 25, 3) := by decide +kernel
theorem dX4_leastMet_31 : decode cX4_leastMet 31 = .ok (.aload_n 0, 1) := by decide +kernel
theorem dX4_leastMet_32 : decode cX4_leastMet 32 = .ok (.getfield 22, 3) := by decide +kernel
theorem dX4_leastMet_35 : decode cX4_leastMet 35 = .ok (.iload 4, 2) := by decide +kernel
theorem dX4_leastMet_37 : decode cX4_leastMet 37 = .ok (.iload_n 1, 1) := by decide +kernel
theorem dX4_leastMet_38 : decode cX4_leastMet 38 = .ok (.invokevirtual 86, 3) := by decide +kernel
theorem dX4_leastMet_41 : decode cX4_leastMet 41 = .ok (.aload_n 0, 1) := by decide +kernel
theorem dX4_leastMet_42 : decode cX4_leastMet 42 = .ok (.getfield 22, 3) := by decide +kernel
theorem dX4_leastMet_45 : decode cX4_leastMet 45 = .ok (.iload_n 2, 1) := by decide +kernel
theorem dX4_leastMet_46 : decode cX4_leastMet 46 = .ok (.iload_n 1, 1) := by decide +kernel
theorem dX4_leastMet_47 : decode cX4_leastMet 47 = .ok (.invokevirtual 86, 3) := by decide +kernel
theorem dX4_leastMet_50 : decode cX4_leastMet 50 = .ok (.if_icmp .ge 6, 3) := by decide +kernel
theorem dX4_leastMet_53 : decode cX4_leastMet 53 = .ok (.iload 4, 2) := by decide +kernel
theorem dX4_leastMet_55 : decode cX4_leastMet 55 = .ok (.istore_n 2, 1) := by decide +kernel
theorem dX4_leastMet_56 : decode cX4_leastMet 56 = .ok (.iinc 3 1, 3) := by decide +kernel
theorem dX4_leastMet_59 : decode cX4_leastMet 59 = .ok (.goto (-55), 3) := by decide +kernel
theorem dX4_leastMet_62 : decode cX4_leastMet 62 = .ok (.iload_n 2, 1) := by decide +kernel
theorem dX4_leastMet_63 : decode cX4_leastMet 63 = .ok (.ireturn, 1) := by decide +kernel
theorem dX4_shiftTo_0 : decode cX4_shiftTo 0 = .ok (.iload_n 1, 1) := by decide +kernel
theorem dX4_shiftTo_1 : decode cX4_shiftTo 1 = .ok (.istore_n 2, 1) := by decide +kernel
theorem dX4_shiftTo_2 : decode cX4_shiftTo 2 = .ok (.iconst 0, 1) := by decide +kernel
theorem dX4_shiftTo_3 : decode cX4_shiftTo 3 = .ok (.istore_n 3, 1) := by decide +kernel
theorem dX4_shiftTo_4 : decode cX4_shiftTo 4 = .ok (.iload_n 3, 1) := by decide +kernel
theorem dX4_shiftTo_5 : decode cX4_shiftTo 5 = .ok (.bipush 8, 2) := by decide +kernel
theorem dX4_shiftTo_7 : decode cX4_shiftTo 7 = .ok (.if_icmp .ge 65, 3) := by decide +kernel
theorem dX4_shiftTo_10 : decode cX4_shiftTo 10 = .ok (.aload_n 0, 1) := by decide +kernel
theorem dX4_shiftTo_11 : decode cX4_shiftTo 11 = .ok (.getfield 22, 3) := by decide +kernel
theorem dX4_shiftTo_14 : decode cX4_shiftTo 14 = .ok (.iload_n 2, 1) := by decide +kernel
theorem dX4_shiftTo_15 : decode cX4_shiftTo 15 = .ok (.invokevirtual 94, 3) := by decide +kernel
theorem dX4_shiftTo_18 : decode cX4_shiftTo 18 = .ok (.ifCond .eq 54, 3) := by decide +kernel
theorem dX4_shiftTo_21 : decode cX4_shiftTo 21 = .ok (.aload_n 0, 1) := by decide +kernel
theorem dX4_shiftTo_22 : decode cX4_shiftTo 22 = .ok (.getfield 15, 3) := by decide +kernel
theorem dX4_shiftTo_25 : decode cX4_shiftTo 25 = .ok (.iload_n 2, 1) := by decide +kernel
theorem dX4_shiftTo_26 : decode cX4_shiftTo 26 = .ok (.iaload, 1) := by decide +kernel
theorem dX4_shiftTo_27 : decode cX4_shiftTo 27 = .ok (.istore 4, 2) := by decide +kernel
theorem dX4_shiftTo_29 : decode cX4_shiftTo 29 = .ok (.aload_n 0, 1) := by decide +kernel
theorem dX4_shiftTo_30 : decode cX4_shiftTo 30 = .ok (.getfield 22, 3) := by decide +kernel
theorem dX4_shiftTo_33 : decode cX4_shiftTo 33 = .ok (.iload 4, 2) := by decide +kernel
theorem dX4_shiftTo_35 : decode cX4_shiftTo 35 = .ok (.invokevirtual 97, 3) := by decide +kernel
theorem dX4_shiftTo_38 : decode cX4_shiftTo 38 = .ok (.ifCond .ne 4, 3) := by decide +kernel
theorem dX4_shiftTo_41 : decode cX4_shiftTo 41 = .ok (.return_, 1) := by decide +kernel
theorem dX4_shiftTo_42 : decode cX4_shiftTo 42 = .ok (.aload_n 0, 1) := by decide +kernel
theorem dX4_shiftTo_43 : decode cX4_shiftTo 43 = .ok (.getfield 22, 3) := by decide +kernel
theorem dX4_shiftTo_46 : decode cX4_shiftTo 46 = .ok (.iload 4, 2) := by decide +kernel
theorem dX4_shiftTo_48 : decode cX4_shiftTo 48 = .ok (.invokevirtual 48, 3) := by decide +kernel
theorem dX4_shiftTo_51 : decode cX4_shiftTo 51 = .ok (.istore 5, 2) := by decide +kernel
theorem dX4_shiftTo_53 : decode cX4_shiftTo 53 = .ok (.aload_n 0, 1) := by decide +kernel
theorem dX4_shiftTo_54 : decode cX4_shiftTo 54 = .ok (.getfield 22, 3) := by decide +kernel
theorem dX4_shiftTo_57 : decode cX4_shiftTo 57 = .ok (.iload 4, 2) := by decide +kernel
theorem dX4_shiftTo_59 : decode cX4_shiftTo 59 = .ok (.iload_n 2, 1) := by decide +kernel
theorem dX4_shiftTo_60 : decode cX4_shiftTo 60 = .ok (.invokevirtual 100, 3) := by decide +kernel
theorem dX4_shiftTo_63 : decode cX4_shiftTo 63 = .ok (.iload 5, 2) := by decide +kernel
theorem dX4_shiftTo_65 : decode cX4_shiftTo 65 = .ok (.istore_n 2, 1) := by decide +kernel
theorem dX4_shiftTo_66 : decode cX4_shiftTo 66 = .ok (.iinc 3 1, 3) := by decide +kernel
theorem dX4_shiftTo_69 : decode cX4_shiftTo 69 = .ok (.goto (-65), 3) := by decide +kernel
theorem dX4_shiftTo_72 : decode cX4_shiftTo 72 = .ok (.return_, 1) := by decide +kernel
theorem dX5_init_0 : decode cX5_init 0 = .ok (.aload_n 0, 1) := by decide +kernel
theorem dX5_init_1 : decode cX5_init 1 = .ok (.invokespecial 3, 3) := by decide +kernel
theorem dX5_init_4 : decode cX5_init 4 = .ok (.aload_n 0, 1) := by decide +kernel
theorem dX5_init_5 : decode cX5_init 5 = .ok (.bipush 24, 2) := by decide +kernel
theorem dX5_init_7 : decode cX5_init 7 = .ok (.newarray .int, 2) := by decide +kernel
theorem dX5_init_9 : decode cX5_init 9 = .ok (.putfield 9, 3) := by decide +kernel
theorem dX5_init_12 : decode cX5_init 12 = .ok (.aload_n 0, 1) := by decide +kernel
theorem dX5_init_13 : decode cX5_init 13 = .ok (.bipush 24, 2) := by decide +kernel
theorem dX5_init_15 : decode cX5_init 15 = .ok (.newarray .int, 2) := by decide +kernel
theorem dX5_init_17 : decode cX5_init 17 = .ok (.putfield 15, 3) := by decide +kernel
theorem dX5_init_20 : decode cX5_init 20 = .ok (.aload_n 0, 1) := by decide +kernel
theorem dX5_init_21 : decode cX5_init 21 = .ok (.sipush 576, 3) := by decide +kernel
theorem dX5_init_24 : decode cX5_init 24 = .ok (.newarray .int, 2) := by decide +kernel
theorem dX5_init_26 : decode cX5_init 26 = .ok (.putfield 18, 3) := by decide +kernel
theorem dX5_init_29 : decode cX5_init 29 = .ok (.aload_n 0, 1) := by decide +kernel
theorem dX5_init_30 : decode cX5_init 30 = .ok (.iconst 4, 1) := by decide +kernel
theorem dX5_init_31 : decode cX5_init 31 = .ok (.newarray .int, 2) := by decide +kernel
theorem dX5_init_33 : decode cX5_init 33 = .ok (.putfield 21, 3) := by decide +kernel
theorem dX5_init_36 : decode cX5_init 36 = .ok (.aload_n 0, 1) := by decide +kernel
theorem dX5_init_37 : decode cX5_init 37 = .ok (.iconst 4, 1) := by decide +kernel
theorem dX5_init_38 : decode cX5_init 38 = .ok (.newarray .int, 2) := by decide +kernel
theorem dX5_init_40 : decode cX5_init 40 = .ok (.putfield 24, 3) := by decide +kernel
theorem dX5_init_43 : decode cX5_init 43 = .ok (.aload_n 0, 1) := by decide +kernel
theorem dX5_init_44 : decode cX5_init 44 = .ok (.aload_n 1, 1) := by decide +kernel
theorem dX5_init_45 : decode cX5_init 45 = .ok (.putfield 27, 3) := by decide +kernel
theorem dX5_init_48 : decode cX5_init 48 = .ok (.aload_n 0, 1) := by decide +kernel
theorem dX5_init_49 : decode cX5_init 49 = .ok (.iconst 0, 1) := by decide +kernel
theorem dX5_init_50 : decode cX5_init 50 = .ok (.putfield 31, 3) := by decide +kernel
theorem dX5_init_53 : decode cX5_init 53 = .ok (.aload_n 0, 1) := by decide +kernel
theorem dX5_init_54 : decode cX5_init 54 = .ok (.iconst 0, 1) := by decide +kernel
theorem dX5_init_55 : decode cX5_init 55 = .ok (.putfield 35, 3) := by decide +kernel
theorem dX5_init_58 : decode cX5_init 58 = .ok (.aload_n 0, 1) := by decide +kernel
theorem dX5_init_59 : decode cX5_init 59 = .ok (.iconst 0, 1) := by decide +kernel
theorem dX5_init_60 : decode cX5_init 60 = .ok (.putfield 38, 3) := by decide +kernel
theorem dX5_init_63 : decode cX5_init 63 = .ok (.aload_n 0, 1) := by decide +kernel
theorem dX5_init_64 : decode cX5_init 64 = .ok (.iconst 0, 1) := by decide +kernel
theorem dX5_init_65 : decode cX5_init 65 = .ok (.putfield 41, 3) := by decide +kernel
theorem dX5_init_68 : decode cX5_init 68 = .ok (.return_, 1) := by decide +kernel
theorem dX5_gain_0 : decode cX5_gain 0 = .ok (.aload_n 0, 1) := by decide +kernel
theorem dX5_gain_1 : decode cX5_gain 1 = .ok (.getfield 41, 3) := by decide +kernel
theorem dX5_gain_4 : decode cX5_gain 4 = .ok (.ireturn, 1) := by decide +kernel
theorem dX5_size_0 : decode cX5_size 0 = .ok (.aload_n 0, 1) := by decide +kernel
theorem dX5_size_1 : decode cX5_size 1 = .ok (.getfield 38, 3) := by decide +kernel
theorem dX5_size_4 : decode cX5_size 4 = .ok (.ireturn, 1) := by decide +kernel
theorem dX5_dutyAt_0 : decode cX5_dutyAt 0 = .ok (.iload_n 1, 1) := by decide +kernel
theorem dX5_dutyAt_1 : decode cX5_dutyAt 1 = .ok (.ifCond .lt 25, 3) := by decide +kernel
theorem dX5_dutyAt_4 : decode cX5_dutyAt 4 = .ok (.iload_n 1, 1) := by decide +kernel
theorem dX5_dutyAt_5 : decode cX5_dutyAt 5 = .ok (.aload_n 0, 1) := by decide +kernel
theorem dX5_dutyAt_6 : decode cX5_dutyAt 6 = .ok (.getfield 38, 3) := by decide +kernel
theorem dX5_dutyAt_9 : decode cX5_dutyAt 9 = .ok (.if_icmp .ge 17, 3) := by decide +kernel
theorem dX5_dutyAt_12 : decode cX5_dutyAt 12 = .ok (.iload_n 1, 1) := by decide +kernel
theorem dX5_dutyAt_13 : decode cX5_dutyAt 13 = .ok (.iconst 4, 1) := by decide +kernel
theorem dX5_dutyAt_14 : decode cX5_dutyAt 14 = .ok (.if_icmp .ge 12, 3) := by decide +kernel
theorem dX5_dutyAt_17 : decode cX5_dutyAt 17 = .ok (.aload_n 0, 1) := by decide +kernel
theorem dX5_dutyAt_18 : decode cX5_dutyAt 18 = .ok (.getfield 24, 3) := by decide +kernel
theorem dX5_dutyAt_21 : decode cX5_dutyAt 21 = .ok (.iload_n 1, 1) := by decide +kernel
theorem dX5_dutyAt_22 : decode cX5_dutyAt 22 = .ok (.iaload, 1) := by decide +kernel
theorem dX5_dutyAt_23 : decode cX5_dutyAt 23 = .ok (.goto 4, 3) := by decide +kernel
theorem dX5_dutyAt_26 : decode cX5_dutyAt 26 = .ok (.iconst (-1), 1) := by decide +kernel
theorem dX5_dutyAt_27 : decode cX5_dutyAt 27 = .ok (.ireturn, 1) := by decide +kernel
theorem dX5_findBest_0 : decode cX5_findBest 0 = .ok (.aload_n 0, 1) := by decide +kernel
theorem dX5_findBest_1 : decode cX5_findBest 1 = .ok (.iconst 0, 1) := by decide +kernel
theorem dX5_findBest_2 : decode cX5_findBest 2 = .ok (.putfield 38, 3) := by decide +kernel
theorem dX5_findBest_5 : decode cX5_findBest 5 = .ok (.aload_n 0, 1) := by decide +kernel
theorem dX5_findBest_6 : decode cX5_findBest 6 = .ok (.iconst 0, 1) := by decide +kernel
theorem dX5_findBest_7 : decode cX5_findBest 7 = .ok (.putfield 41, 3) := by decide +kernel
theorem dX5_findBest_10 : decode cX5_findBest 10 = .ok (.iconst 0, 1) := by decide +kernel
theorem dX5_findBest_11 : decode cX5_findBest 11 = .ok (.istore_n 1, 1) := by decide +kernel
theorem dX5_findBest_12 : decode cX5_findBest 12 = .ok (.iload_n 1, 1) := by decide +kernel
theorem dX5_findBest_13 : decode cX5_findBest 13 = .ok (.iconst 4, 1) := by decide +kernel
theorem dX5_findBest_14 : decode cX5_findBest 14 = .ok (.if_icmp .ge 64, 3) := by decide +kernel
theorem dX5_findBest_17 : decode cX5_findBest 17 = .ok (.aload_n 0, 1) := by decide +kernel
theorem dX5_findBest_18 : decode cX5_findBest 18 = .ok (.iload_n 1, 1) := by decide +kernel
theorem dX5_findBest_19 : decode cX5_findBest 19 = .ok (.invokevirtual 44, 3) := by decide +kernel
theorem dX5_findBest_22 : decode cX5_findBest 22 = .ok (.aload_n 0, 1) := by decide +kernel
theorem dX5_findBest_23 : decode cX5_findBest 23 = .ok (.invokevirtual 48, 3) := by decide +kernel
theorem dX5_findBest_26 : decode cX5_findBest 26 = .ok (.iconst 0, 1) := by decide +kernel
theorem dX5_findBest_27 : decode cX5_findBest 27 = .ok (.istore_n 2, 1) := by decide +kernel
theorem dX5_findBest_28 : decode cX5_findBest 28 = .ok (.iload_n 2, 1) := by decide +kernel
theorem dX5_findBest_29 : decode cX5_findBest 29 = .ok (.aload_n 0, 1) := by decide +kernel
theorem dX5_findBest_30 : decode cX5_findBest 30 = .ok (.getfield 31, 3) := by decide +kernel
theorem dX5_findBest_33 : decode cX5_findBest 33 = .ok (.if_icmp .ge 39, 3) := by decide +kernel
theorem dX5_findBest_36 : decode cX5_findBest 36 = .ok (.iload_n 2, 1) := by decide +kernel
theorem dX5_findBest_37 : decode cX5_findBest 37 = .ok (.bipush 24, 2) := by decide +kernel
theorem dX5_findBest_39 : decode cX5_findBest 39 = .ok (.if_icmp .ge 33, 3) := by decide +kernel
theorem dX5_findBest_42 : decode cX5_findBest 42 = .ok (.aload_n 0, 1) := by decide +kernel
theorem dX5_findBest_43 : decode cX5_findBest 43 = .ok (.getfield 21, 3) := by decide +kernel
theorem dX5_findBest_46 : decode cX5_findBest 46 = .ok (.iconst 0, 1) := by decide +kernel
theorem dX5_findBest_47 : decode cX5_findBest 47 = .ok (.iload_n 2, 1) := by decide +kernel
theorem dX5_findBest_48 : decode cX5_findBest 48 = .ok (.iastore, 1) := by decide +kernel
theorem dX5_findBest_49 : decode cX5_findBest 49 = .ok (.aload_n 0, 1) := by decide +kernel
theorem dX5_findBest_50 : decode cX5_findBest 50 = .ok (.iconst 1, 1) := by decide +kernel
theorem dX5_findBest_51 : decode cX5_findBest 51 = .ok (.aload_n 0, 1) := by decide +kernel
theorem dX5_findBest_52 : decode cX5_findBest 52 = .ok (.iload_n 2, 1) := by decide +kernel
theorem dX5_findBest_53 : decode cX5_findBest 53 = .ok (.iload_n 2, 1) := by decide +kernel
theorem dX5_findBest_54 : decode cX5_findBest 54 = .ok (.invokevirtual 51, 3) := by decide +kernel
theorem dX5_findBest_57 : decode cX5_findBest 57 = .ok (.aload_n 0, 1) := by decide +kernel
theorem dX5_findBest_58 : decode cX5_findBest 58 = .ok (.getfield 15, 3) := by decide +kernel
theorem dX5_findBest_61 : decode cX5_findBest 61 = .ok (.iload_n 2, 1) := by decide +kernel
theorem dX5_findBest_62 : decode cX5_findBest 62 = .ok (.iaload, 1) := by decide +kernel
theorem dX5_findBest_63 : decode cX5_findBest 63 = .ok (.invokevirtual 55, 3) := by decide +kernel
theorem dX5_findBest_66 : decode cX5_findBest 66 = .ok (.iinc 2 1, 3) := by decide +kernel
theorem dX5_findBest_69 : decode cX5_findBest 69 = .ok (.goto (-41), 3) := by decide +kernel
theorem dX5_findBest_72 : decode cX5_findBest 72 = .ok (.iinc 1 1, 3) := by decide +kernel
theorem dX5_findBest_75 : decode cX5_findBest 75 = .ok (.goto (-63), 3) := by decide +kernel
theorem dX5_findBest_78 : decode cX5_findBest 78 = .ok (.aload_n 0, 1) := by decide +kernel
theorem dX5_findBest_79 : decode cX5_findBest 79 = .ok (.getfield 38, 3) := by decide +kernel
theorem dX5_findBest_82 : decode cX5_findBest 82 = .ok (.ifCond .le 7, 3) := by decide +kernel
theorem dX5_findBest_85 : decode cX5_findBest 85 = .ok (.iconst 1, 1) := by decide +kernel
theorem dX5_findBest_86 : decode cX5_findBest 86 = .ok (.goto 4, 3) := by decide +kernel
theorem dX5_findBest_89 : decode cX5_findBest 89 = .ok (.iconst 0, 1) := by decide +kernel
theorem dX5_findBest_90 : decode cX5_findBest 90 = .ok (.ireturn, 1) := by decide +kernel
theorem dX5_noteHeld_0 : decode cX5_noteHeld 0 = .ok (.aload_n 0, 1) := by decide +kernel
theorem dX5_noteHeld_1 : decode cX5_noteHeld 1 = .ok (.iconst 0, 1) := by decide +kernel
theorem dX5_noteHeld_2 : decode cX5_noteHeld 2 = .ok (.putfield 31, 3) := by decide +kernel
theorem dX5_noteHeld_5 : decode cX5_noteHeld 5 = .ok (.iconst 0, 1) := by decide +kernel
theorem dX5_noteHeld_6 : decode cX5_noteHeld 6 = .ok (.istore_n 2, 1) := by decide +kernel
theorem dX5_noteHeld_7 : decode cX5_noteHeld 7 = .ok (.iload_n 2, 1) := by decide +kernel
theorem dX5_noteHeld_8 : decode cX5_noteHeld 8 = .ok (.aload_n 0, 1) := by decide +kernel
theorem dX5_noteHeld_9 : decode cX5_noteHeld 9 = .ok (.getfield 27, 3) := by decide +kernel
theorem dX5_noteHeld_12 : decode cX5_noteHeld 12 = .ok (.getfield 59, 3) := by decide +kernel
theorem dX5_noteHeld_15 : decode cX5_noteHeld 15 = .ok (.if_icmp .ge 79, 3) := by decide +kernel
theorem dX5_noteHeld_18 : decode cX5_noteHeld 18 = .ok (.aload_n 0, 1) := by decide +kernel
theorem dX5_noteHeld_19 : decode cX5_noteHeld 19 = .ok (.getfield 31, 3) := by decide +kernel
theorem dX5_noteHeld_22 : decode cX5_noteHeld 22 = .ok (.bipush 24, 2) := by decide +kernel
theorem dX5_noteHeld_24 : decode cX5_noteHeld 24 = .ok (.if_icmp .ge 70, 3) := by decide +kernel
theorem dX5_noteHeld_27 : decode cX5_noteHeld 27 = .ok (.aload_n 0, 1) := by decide +kernel
theorem dX5_noteHeld_28 : decode cX5_noteHeld 28 = .ok (.getfield 27, 3) := by decide +kernel
theorem dX5_noteHeld_31 : decode cX5_noteHeld 31 = .ok (.iload_n 2, 1) := by decide +kernel
theorem dX5_noteHeld_32 : decode cX5_noteHeld 32 = .ok (.invokevirtual 64, 3) := by decide +kernel
theorem dX5_noteHeld_35 : decode cX5_noteHeld 35 = .ok (.istore_n 3, 1) := by decide +kernel
theorem dX5_noteHeld_36 : decode cX5_noteHeld 36 = .ok (.aload_n 0, 1) := by decide +kernel
theorem dX5_noteHeld_37 : decode cX5_noteHeld 37 = .ok (.getfield 27, 3) := by decide +kernel
theorem dX5_noteHeld_40 : decode cX5_noteHeld 40 = .ok (.iload_n 2, 1) := by decide +kernel
theorem dX5_noteHeld_41 : decode cX5_noteHeld 41 = .ok (.invokevirtual 68, 3) := by decide +kernel
theorem dX5_noteHeld_44 : decode cX5_noteHeld 44 = .ok (.iload_n 1, 1) := by decide +kernel
theorem dX5_noteHeld_45 : decode cX5_noteHeld 45 = .ok (.if_icmp .ne 43, 3) := by decide +kernel
theorem dX5_noteHeld_48 : decode cX5_noteHeld 48 = .ok (.iload_n 3, 1) := by decide +kernel
theorem dX5_noteHeld_49 : decode cX5_noteHeld 49 = .ok (.iconst (-1), 1) := by decide +kernel
theorem dX5_noteHeld_50 : decode cX5_noteHeld 50 = .ok (.if_icmp .ne 6, 3) := by decide +kernel
theorem dX5_noteHeld_53 : decode cX5_noteHeld 53 = .ok (.goto 35, 3) := by decide +kernel
theorem dX5_noteHeld_56 : decode cX5_noteHeld 56 = .ok (.aload_n 0, 1) := by decide +kernel
theorem dX5_noteHeld_57 : decode cX5_noteHeld 57 = .ok (.getfield 9, 3) := by decide +kernel
theorem dX5_noteHeld_60 : decode cX5_noteHeld 60 = .ok (.aload_n 0, 1) := by decide +kernel
theorem dX5_noteHeld_61 : decode cX5_noteHeld 61 = .ok (.getfield 31, 3) := by decide +kernel
theorem dX5_noteHeld_64 : decode cX5_noteHeld 64 = .ok (.iload_n 2, 1) := by decide +kernel
theorem dX5_noteHeld_65 : decode cX5_noteHeld 65 = .ok (.iastore, 1) := by decide +kernel
theorem dX5_noteHeld_66 : decode cX5_noteHeld 66 = .ok (.aload_n 0, 1) := by decide +kernel
theorem dX5_noteHeld_67 : decode cX5_noteHeld 67 = .ok (.getfield 15, 3) := by decide +kernel
theorem dX5_noteHeld_70 : decode cX5_noteHeld 70 = .ok (.aload_n 0, 1) := by decide +kernel
theorem dX5_noteHeld_71 : decode cX5_noteHeld 71 = .ok (.getfield 31, 3) := by decide +kernel
theorem dX5_noteHeld_74 : decode cX5_noteHeld 74 = .ok (.iconst 1, 1) := by decide +kernel
theorem dX5_noteHeld_75 : decode cX5_noteHeld 75 = .ok (.iload_n 3, 1) := by decide +kernel
theorem dX5_noteHeld_76 : decode cX5_noteHeld 76 = .ok (.ishl, 1) := by decide +kernel
theorem dX5_noteHeld_77 : decode cX5_noteHeld 77 = .ok (.iastore, 1) := by decide +kernel
theorem dX5_noteHeld_78 : decode cX5_noteHeld 78 = .ok (.aload_n 0, 1) := by decide +kernel
theorem dX5_noteHeld_79 : decode cX5_noteHeld 79 = .ok (.dup, 1) := by decide +kernel
theorem dX5_noteHeld_80 : decode cX5_noteHeld 80 = .ok (.getfield 31, 3) := by decide +kernel
theorem dX5_noteHeld_83 : decode cX5_noteHeld 83 = .ok (.iconst 1, 1) := by decide +kernel
theorem dX5_noteHeld_84 : decode cX5_noteHeld 84 = .ok (.iadd, 1) := by decide +kernel
theorem dX5_noteHeld_85 : decode cX5_noteHeld 85 = .ok (.putfield 31, 3) := by decide +kernel
theorem dX5_noteHeld_88 : decode cX5_noteHeld 88 = .ok (.iinc 2 1, 3) := by decide +kernel
theorem dX5_noteHeld_91 : decode cX5_noteHeld 91 = .ok (.goto (-84), 3) := by decide +kernel
theorem dX5_noteHeld_94 : decode cX5_noteHeld 94 = .ok (.return_, 1) := by decide +kernel
theorem dX5_noteCosts_0 : decode cX5_noteCosts 0 = .ok (.aload_n 0, 1) := by decide +kernel
theorem dX5_noteCosts_1 : decode cX5_noteCosts 1 = .ok (.iconst 0, 1) := by decide +kernel
theorem dX5_noteCosts_2 : decode cX5_noteCosts 2 = .ok (.putfield 35, 3) := by decide +kernel
theorem dX5_noteCosts_5 : decode cX5_noteCosts 5 = .ok (.iconst 0, 1) := by decide +kernel
theorem dX5_noteCosts_6 : decode cX5_noteCosts 6 = .ok (.istore_n 1, 1) := by decide +kernel
theorem dX5_noteCosts_7 : decode cX5_noteCosts 7 = .ok (.iload_n 1, 1) := by decide +kernel
theorem dX5_noteCosts_8 : decode cX5_noteCosts 8 = .ok (.aload_n 0, 1) := by decide +kernel
theorem dX5_noteCosts_9 : decode cX5_noteCosts 9 = .ok (.getfield 31, 3) := by decide +kernel
theorem dX5_noteCosts_12 : decode cX5_noteCosts 12 = .ok (.if_icmp .ge 123, 3) := by decide +kernel
theorem dX5_noteCosts_15 : decode cX5_noteCosts 15 = .ok (.iload_n 1, 1) := by decide +kernel
theorem dX5_noteCosts_16 : decode cX5_noteCosts 16 = .ok (.bipush 24, 2) := by decide +kernel
theorem dX5_noteCosts_18 : decode cX5_noteCosts 18 = .ok (.if_icmp .ge 117, 3) := by decide +kernel
theorem dX5_noteCosts_21 : decode cX5_noteCosts 21 = .ok (.aload_n 0, 1) := by decide +kernel
theorem dX5_noteCosts_22 : decode cX5_noteCosts 22 = .ok (.getfield 27, 3) := by decide +kernel
theorem dX5_noteCosts_25 : decode cX5_noteCosts 25 = .ok (.aload_n 0, 1) := by decide +kernel
theorem dX5_noteCosts_26 : decode cX5_noteCosts 26 = .ok (.getfield 9, 3) := by decide +kernel
theorem dX5_noteCosts_29 : decode cX5_noteCosts 29 = .ok (.iload_n 1, 1) := by decide +kernel
theorem dX5_noteCosts_30 : decode cX5_noteCosts 30 = .ok (.iaload, 1) := by decide +kernel
theorem dX5_noteCosts_31 : decode cX5_noteCosts 31 = .ok (.invokevirtual 64, 3) := by decide +kernel
theorem dX5_noteCosts_34 : decode cX5_noteCosts 34 = .ok (.istore_n 2, 1) := by decide +kernel
theorem dX5_noteCosts_35 : decode cX5_noteCosts 35 = .ok (.iconst 0, 1) := by decide +kernel
theorem dX5_noteCosts_36 : decode cX5_noteCosts 36 = .ok (.istore_n 3, 1) := by decide +kernel
theorem dX5_noteCosts_37 : decode cX5_noteCosts 37 = .ok (.iload_n 3, 1) := by decide +kernel
theorem dX5_noteCosts_38 : decode cX5_noteCosts 38 = .ok (.aload_n 0, 1) := by decide +kernel
theorem dX5_noteCosts_39 : decode cX5_noteCosts 39 = .ok (.getfield 31, 3) := by decide +kernel
theorem dX5_noteCosts_42 : decode cX5_noteCosts 42 = .ok (.if_icmp .ge 65, 3) := by decide +kernel
theorem dX5_noteCosts_45 : decode cX5_noteCosts 45 = .ok (.iload_n 3, 1) := by decide +kernel
theorem dX5_noteCosts_46 : decode cX5_noteCosts 46 = .ok (.bipush 24, 2) := by decide +kernel
theorem dX5_noteCosts_48 : decode cX5_noteCosts 48 = .ok (.if_icmp .ge 59, 3) := by decide +kernel
theorem dX5_noteCosts_51 : decode cX5_noteCosts 51 = .ok (.aload_n 0, 1) := by decide +kernel
theorem dX5_noteCosts_52 : decode cX5_noteCosts 52 = .ok (.getfield 27, 3) := by decide +kernel
theorem dX5_noteCosts_55 : decode cX5_noteCosts 55 = .ok (.iload_n 2, 1) := by decide +kernel
theorem dX5_noteCosts_56 : decode cX5_noteCosts 56 = .ok (.aload_n 0, 1) := by decide +kernel
theorem dX5_noteCosts_57 : decode cX5_noteCosts 57 = .ok (.getfield 9, 3) := by decide +kernel
theorem dX5_noteCosts_60 : decode cX5_noteCosts 60 = .ok (.iload_n 3, 1) := by decide +kernel
theorem dX5_noteCosts_61 : decode cX5_noteCosts 61 = .ok (.iaload, 1) := by decide +kernel
theorem dX5_noteCosts_62 : decode cX5_noteCosts 62 = .ok (.invokevirtual 71, 3) := by decide +kernel
theorem dX5_noteCosts_65 : decode cX5_noteCosts 65 = .ok (.istore 4, 2) := by decide +kernel
theorem dX5_noteCosts_67 : decode cX5_noteCosts 67 = .ok (.aload_n 0, 1) := by decide +kernel
theorem dX5_noteCosts_68 : decode cX5_noteCosts 68 = .ok (.getfield 18, 3) := by decide +kernel
theorem dX5_noteCosts_71 : decode cX5_noteCosts 71 = .ok (.iload_n 1, 1) := by decide +kernel
theorem dX5_noteCosts_72 : decode cX5_noteCosts 72 = .ok (.bipush 24, 2) := by decide +kernel
theorem dX5_noteCosts_74 : decode cX5_noteCosts 74 = .ok (.imul, 1) := by decide +kernel
theorem dX5_noteCosts_75 : decode cX5_noteCosts 75 = .ok (.iload_n 3, 1) := by decide +kernel
theorem dX5_noteCosts_76 : decode cX5_noteCosts 76 = .ok (.iadd, 1) := by decide +kernel
theorem dX5_noteCosts_77 : decode cX5_noteCosts 77 = .ok (.iload 4, 2) := by decide +kernel
theorem dX5_noteCosts_79 : decode cX5_noteCosts 79 = .ok (.ifCond .eq 20, 3) := by decide +kernel
theorem dX5_noteCosts_82 : decode cX5_noteCosts 82 = .ok (.aload_n 0, 1) := by decide +kernel
theorem dX5_noteCosts_83 : decode cX5_noteCosts 83 = .ok (.getfield 27, 3) := by decide +kernel
theorem dX5_noteCosts_86 : decode cX5_noteCosts 86 = .ok (.iload_n 2, 1) := by decide +kernel
theorem dX5_noteCosts_87 : decode cX5_noteCosts 87 = .ok (.aload_n 0, 1) := by decide +kernel
theorem dX5_noteCosts_88 : decode cX5_noteCosts 88 = .ok (.getfield 9, 3) := by decide +kernel
theorem dX5_noteCosts_91 : decode cX5_noteCosts 91 = .ok (.iload_n 3, 1) := by decide +kernel
theorem dX5_noteCosts_92 : decode cX5_noteCosts 92 = .ok (.iaload, 1) := by decide +kernel
theorem dX5_noteCosts_93 : decode cX5_noteCosts 93 = .ok (.invokevirtual 75, 3) := by decide +kernel
theorem dX5_noteCosts_96 : decode cX5_noteCosts 96 = .ok (.goto 4, 3) := by decide +kernel
theorem dX5_noteCosts_99 : decode cX5_noteCosts 99 = .ok (.iconst (-1), 1) := by decide +kernel
theorem dX5_noteCosts_100 : decode cX5_noteCosts 100 = .ok (.iastore, 1) := by decide +kernel
theorem dX5_noteCosts_101 : decode cX5_noteCosts 101 = .ok (.iinc 3 1, 3) := by decide +kernel
theorem dX5_noteCosts_104 : decode cX5_noteCosts 104 = .ok (.goto (-67), 3) := by decide +kernel
theorem dX5_noteCosts_107 : decode cX5_noteCosts 107 = .ok (.aload_n 0, 1) := by decide +kernel
theorem dX5_noteCosts_108 : decode cX5_noteCosts 108 = .ok (.aload_n 0, 1) := by decide +kernel
theorem dX5_noteCosts_109 : decode cX5_noteCosts 109 = .ok (.getfield 35, 3) := by decide +kernel
theorem dX5_noteCosts_112 : decode cX5_noteCosts 112 = .ok (.aload_n 0, 1) := by decide +kernel
theorem dX5_noteCosts_113 : decode cX5_noteCosts 113 = .ok (.getfield 18, 3) := by decide +kernel
theorem dX5_noteCosts_116 : decode cX5_noteCosts 116 = .ok (.iload_n 1, 1) := by decide +kernel
theorem dX5_noteCosts_117 : decode cX5_noteCosts 117 = .ok (.bipush 24, 2) := by decide +kernel
theorem dX5_noteCosts_119 : decode cX5_noteCosts 119 = .ok (.imul, 1) := by decide +kernel
theorem dX5_noteCosts_120 : decode cX5_noteCosts 120 = .ok (.iload_n 1, 1) := by decide +kernel
theorem dX5_noteCosts_121 : decode cX5_noteCosts 121 = .ok (.iadd, 1) := by decide +kernel
theorem dX5_noteCosts_122 : decode cX5_noteCosts 122 = .ok (.iaload, 1) := by decide +kernel
theorem dX5_noteCosts_123 : decode cX5_noteCosts 123 = .ok (.invokestatic 78, 3) := by decide +kernel
theorem dX5_noteCosts_126 : decode cX5_noteCosts 126 = .ok (.putfield 35, 3) := by decide +kernel
theorem dX5_noteCosts_129 : decode cX5_noteCosts 129 = .ok (.iinc 1 1, 3) := by decide +kernel
theorem dX5_noteCosts_132 : decode cX5_noteCosts 132 = .ok (.goto (-125), 3) := by decide +kernel
theorem dX5_noteCosts_135 : decode cX5_noteCosts 135 = .ok (.return_, 1) := by decide +kernel
theorem dX5_costOf_0 : decode cX5_costOf 0 = .ok (.iload_n 1, 1) := by decide +kernel
theorem dX5_costOf_1 : decode cX5_costOf 1 = .ok (.ifCond .lt 23, 3) := by decide +kernel
theorem dX5_costOf_4 : decode cX5_costOf 4 = .ok (.iload_n 1, 1) := by decide +kernel
theorem dX5_costOf_5 : decode cX5_costOf 5 = .ok (.bipush 24, 2) := by decide +kernel
theorem dX5_costOf_7 : decode cX5_costOf 7 = .ok (.if_icmp .ge 17, 3) := by decide +kernel
theorem dX5_costOf_10 : decode cX5_costOf 10 = .ok (.iload_n 2, 1) := by decide +kernel
theorem dX5_costOf_11 : decode cX5_costOf 11 = .ok (.ifCond .lt 13, 3) := by decide +kernel
theorem dX5_costOf_14 : decode cX5_costOf 14 = .ok (.iload_n 2, 1) := by decide +kernel
theorem dX5_costOf_15 : decode cX5_costOf 15 = .ok (.bipush 24, 2) := by decide +kernel
theorem dX5_costOf_17 : decode cX5_costOf 17 = .ok (.if_icmp .ge 7, 3) := by decide +kernel
theorem dX5_costOf_20 : decode cX5_costOf 20 = .ok (.iconst 1, 1) := by decide +kernel
theorem dX5_costOf_21 : decode cX5_costOf 21 = .ok (.goto 4, 3) := by decide +kernel
theorem dX5_costOf_24 : decode cX5_costOf 24 = .ok (.iconst 0, 1) := by decide +kernel
theorem dX5_costOf_25 : decode cX5_costOf 25 = .ok (.istore_n 3, 1) := by decide +kernel
theorem dX5_costOf_26 : decode cX5_costOf 26 = .ok (.iload_n 3, 1) := by decide +kernel
theorem dX5_costOf_27 : decode cX5_costOf 27 = .ok (.ifCond .eq 17, 3) := by decide +kernel
theorem dX5_costOf_30 : decode cX5_costOf 30 = .ok (.aload_n 0, 1) := by decide +kernel
theorem dX5_costOf_31 : decode cX5_costOf 31 = .ok (.getfield 18, 3) := by decide +kernel
theorem dX5_costOf_34 : decode cX5_costOf 34 = .ok (.iload_n 1, 1) := by decide +kernel
theorem dX5_costOf_35 : decode cX5_costOf 35 = .ok (.bipush 24, 2) := by decide +kernel
theorem dX5_costOf_37 : decode cX5_costOf 37 = .ok (.imul, 1) := by decide +kernel
theorem dX5_costOf_38 : decode cX5_costOf 38 = .ok (.iload_n 2, 1) := by decide +kernel
theorem dX5_costOf_39 : decode cX5_costOf 39 = .ok (.iadd, 1) := by decide +kernel
theorem dX5_costOf_40 : decode cX5_costOf 40 = .ok (.iaload, 1) := by decide +kernel
theorem dX5_costOf_41 : decode cX5_costOf 41 = .ok (.goto 4, 3) := by decide +kernel
theorem dX5_costOf_44 : decode cX5_costOf 44 = .ok (.iconst (-1), 1) := by decide +kernel
theorem dX5_costOf_45 : decode cX5_costOf 45 = .ok (.ireturn, 1) := by decide +kernel
theorem dX5_grow_0 : decode cX5_grow 0 = .ok (.iload_n 1, 1) := by decide +kernel
theorem dX5_grow_1 : decode cX5_grow 1 = .ok (.iconst 1, 1) := by decide +kernel
theorem dX5_grow_2 : decode cX5_grow 2 = .ok (.if_icmp .lt 8, 3) := by decide +kernel
theorem dX5_grow_5 : decode cX5_grow 5 = .ok (.iload_n 1, 1) := by decide +kernel
theorem dX5_grow_6 : decode cX5_grow 6 = .ok (.iconst 4, 1) := by decide +kernel
theorem dX5_grow_7 : decode cX5_grow 7 = .ok (.if_icmp .le 4, 3) := by decide +kernel
theorem dX5_grow_10 : decode cX5_grow 10 = .ok (.return_, 1) := by decide +kernel
theorem dX5_grow_11 : decode cX5_grow 11 = .ok (.iload_n 1, 1) := by decide +kernel
theorem dX5_grow_12 : decode cX5_grow 12 = .ok (.iconst 1, 1) := by decide +kernel
theorem dX5_grow_13 : decode cX5_grow 13 = .ok (.if_icmp .le 9, 3) := by decide +kernel
theorem dX5_grow_16 : decode cX5_grow 16 = .ok (.aload_n 0, 1) := by decide +kernel
theorem dX5_grow_17 : decode cX5_grow 17 = .ok (.iload_n 1, 1) := by decide +kernel
theorem dX5_grow_18 : decode cX5_grow 18 = .ok (.iload_n 2, 1) := by decide +kernel
theorem dX5_grow_19 : decode cX5_grow 19 = .ok (.invokevirtual 83, 3) := by decide +kernel
theorem dX5_grow_22 : decode cX5_grow 22 = .ok (.iload_n 2, 1) := by decide +kernel
theorem dX5_grow_23 : decode cX5_grow 23 = .ok (.iconst 4, 1) := by decide +kernel
theorem dX5_grow_24 : decode cX5_grow 24 = .ok (.iload_n 1, 1) := by decide +kernel
theorem dX5_grow_25 : decode cX5_grow 25 = .ok (.isub, 1) := by decide +kernel
theorem dX5_grow_26 : decode cX5_grow 26 = .ok (.aload_n 0, 1) := by decide +kernel
theorem dX5_grow_27 : decode cX5_grow 27 = .ok (.getfield 35, 3) := by decide +kernel
theorem dX5_grow_30 : decode cX5_grow 30 = .ok (.imul, 1) := by decide +kernel
theorem dX5_grow_31 : decode cX5_grow 31 = .ok (.iadd, 1) := by decide +kernel
theorem dX5_grow_32 : decode cX5_grow 32 = .ok (.istore 4, 2) := by decide +kernel
theorem dX5_grow_34 : decode cX5_grow 34 = .ok (.iload_n 1, 1) := by decide +kernel
theorem dX5_grow_35 : decode cX5_grow 35 = .ok (.iconst 4, 1) := by decide +kernel
theorem dX5_grow_36 : decode cX5_grow 36 = .ok (.if_icmp .ge 24, 3) := by decide +kernel
theorem dX5_grow_39 : decode cX5_grow 39 = .ok (.iload 4, 2) := by decide +kernel
theorem dX5_grow_41 : decode cX5_grow 41 = .ok (.ifCond .le 19, 3) := by decide +kernel
theorem dX5_grow_44 : decode cX5_grow 44 = .ok (.iload 4, 2) := by decide +kernel
theorem dX5_grow_46 : decode cX5_grow 46 = .ok (.aload_n 0, 1) := by decide +kernel
theorem dX5_grow_47 : decode cX5_grow 47 = .ok (.getfield 41, 3) := by decide +kernel
theorem dX5_grow_50 : decode cX5_grow 50 = .ok (.if_icmp .lt 10, 3) := by decide +kernel
theorem dX5_grow_53 : decode cX5_grow 53 = .ok (.aload_n 0, 1) := by decide +kernel
theorem dX5_grow_54 : decode cX5_grow 54 = .ok (.iload_n 1, 1) := by decide +kernel
theorem dX5_grow_55 : decode cX5_grow 55 = .ok (.iload_n 2, 1) := by decide +kernel
theorem dX5_grow_56 : decode cX5_grow 56 = .ok (.iload_n 3, 1) := by decide +kernel
theorem dX5_grow_57 : decode cX5_grow 57 = .ok (.invokevirtual 87, 3) := by decide +kernel
theorem dX5_grow_60 : decode cX5_grow 60 = .ok (.return_, 1) := by decide +kernel
theorem dX5_growByEach_0 : decode cX5_growByEach 0 = .ok (.iload_n 1, 1) := by decide +kernel
theorem dX5_growByEach_1 : decode cX5_growByEach 1 = .ok (.iconst 1, 1) := by decide +kernel
theorem dX5_growByEach_2 : decode cX5_growByEach 2 = .ok (.if_icmp .lt 8, 3) := by decide +kernel
theorem dX5_growByEach_5 : decode cX5_growByEach 5 = .ok (.iload_n 1, 1) := by decide +kernel
theorem dX5_growByEach_6 : decode cX5_growByEach 6 = .ok (.iconst 4, 1) := by decide +kernel
theorem dX5_growByEach_7 : decode cX5_growByEach 7 = .ok (.if_icmp .lt 4, 3) := by decide +kernel
theorem dX5_growByEach_10 : decode cX5_growByEach 10 = .ok (.return_, 1) := by decide +kernel
theorem dX5_growByEach_11 : decode cX5_growByEach 11 = .ok (.aload_n 0, 1) := by decide +kernel
theorem dX5_growByEach_12 : decode cX5_growByEach 12 = .ok (.getfield 21, 3) := by decide +kernel
theorem dX5_growByEach_15 : decode cX5_growByEach 15 = .ok (.iload_n 1, 1) := by decide +kernel
theorem dX5_growByEach_16 : decode cX5_growByEach 16 = .ok (.iconst 1, 1) := by decide +kernel
theorem dX5_growByEach_17 : decode cX5_growByEach 17 = .ok (.isub, 1) := by decide +kernel
theorem dX5_growByEach_18 : decode cX5_growByEach 18 = .ok (.iaload, 1) := by decide +kernel
theorem dX5_growByEach_19 : decode cX5_growByEach 19 = .ok (.istore 4, 2) := by decide +kernel
theorem dX5_growByEach_21 : decode cX5_growByEach 21 = .ok (.aload_n 0, 1) := by decide +kernel
theorem dX5_growByEach_22 : decode cX5_growByEach 22 = .ok (.getfield 21, 3) := by decide +kernel
theorem dX5_growByEach_25 : decode cX5_growByEach 25 = .ok (.iconst 0, 1) := by decide +kernel
theorem dX5_growByEach_26 : decode cX5_growByEach 26 = .ok (.iaload, 1) := by decide +kernel
theorem dX5_growByEach_27 : decode cX5_growByEach 27 = .ok (.iconst 1, 1) := by decide +kernel
theorem dX5_growByEach_28 : decode cX5_growByEach 28 = .ok (.iadd, 1) := by decide +kernel
theorem dX5_growByEach_29 : decode cX5_growByEach 29 = .ok (.istore 5, 2) := by decide +kernel
theorem dX5_growByEach_31 : decode cX5_growByEach 31 = .ok (.iload 5, 2) := by decide +kernel
theorem dX5_growByEach_33 : decode cX5_growByEach 33 = .ok (.aload_n 0, 1) := by decide +kernel
theorem dX5_growByEach_34 : decode cX5_growByEach 34 = .ok (.getfield 31, 3) := by decide +kernel
theorem dX5_growByEach_37 : decode cX5_growByEach 37 = .ok (.if_icmp .ge 84, 3) := by decide +kernel
theorem dX5_growByEach_40 : decode cX5_growByEach 40 = .ok (.iload 5, 2) := by decide +kernel
theorem dX5_growByEach_42 : decode cX5_growByEach 42 = .ok (.bipush 24, 2) := by decide +kernel
theorem dX5_growByEach_44 : decode cX5_growByEach 44 = .ok (.if_icmp .ge 77, 3) := by decide +kernel
theorem dX5_growByEach_47 : decode cX5_growByEach 47 = .ok (.aload_n 0, 1) := by decide +kernel
theorem dX5_growByEach_48 : decode cX5_growByEach 48 = .ok (.iload 5, 2) := by decide +kernel
theorem dX5_growByEach_50 : decode cX5_growByEach 50 = .ok (.iload 4, 2) := by decide +kernel
theorem dX5_growByEach_52 : decode cX5_growByEach 52 = .ok (.invokevirtual 51, 3) := by decide +kernel
theorem dX5_growByEach_55 : decode cX5_growByEach 55 = .ok (.istore 6, 2) := by decide +kernel
theorem dX5_growByEach_57 : decode cX5_growByEach 57 = .ok (.iload_n 3, 1) := by decide +kernel
theorem dX5_growByEach_58 : decode cX5_growByEach 58 = .ok (.aload_n 0, 1) := by decide +kernel
theorem dX5_growByEach_59 : decode cX5_growByEach 59 = .ok (.getfield 15, 3) := by decide +kernel
theorem dX5_growByEach_62 : decode cX5_growByEach 62 = .ok (.iload 5, 2) := by decide +kernel
theorem dX5_growByEach_64 : decode cX5_growByEach 64 = .ok (.iaload, 1) := by decide +kernel
theorem dX5_growByEach_65 : decode cX5_growByEach 65 = .ok (.iand, 1) := by decide +kernel
theorem dX5_growByEach_66 : decode cX5_growByEach 66 = .ok (.ifCond .ne 49, 3) := by decide +kernel
theorem dX5_growByEach_69 : decode cX5_growByEach 69 = .ok (.iload 6, 2) := by decide +kernel
theorem dX5_growByEach_71 : decode cX5_growByEach 71 = .ok (.iconst (-1), 1) := by decide +kernel
theorem dX5_growByEach_72 : decode cX5_growByEach 72 = .ok (.if_icmp .ne 6, 3) := by decide +kernel
theorem dX5_growByEach_75 : decode cX5_growByEach 75 = .ok (.goto 40, 3) := by decide +kernel
theorem dX5_growByEach_78 : decode cX5_growByEach 78 = .ok (.aload_n 0, 1) := by decide +kernel
theorem dX5_growByEach_79 : decode cX5_growByEach 79 = .ok (.getfield 21, 3) := by decide +kernel
theorem dX5_growByEach_82 : decode cX5_growByEach 82 = .ok (.iload_n 1, 1) := by decide +kernel
theorem dX5_growByEach_83 : decode cX5_growByEach 83 = .ok (.iload 5, 2) := by decide +kernel
theorem dX5_growByEach_85 : decode cX5_growByEach 85 = .ok (.iastore, 1) := by decide +kernel
theorem dX5_growByEach_86 : decode cX5_growByEach 86 = .ok (.aload_n 0, 1) := by decide +kernel
theorem dX5_growByEach_87 : decode cX5_growByEach 87 = .ok (.iload_n 1, 1) := by decide +kernel
theorem dX5_growByEach_88 : decode cX5_growByEach 88 = .ok (.iconst 1, 1) := by decide +kernel
theorem dX5_growByEach_89 : decode cX5_growByEach 89 = .ok (.iadd, 1) := by decide +kernel
theorem dX5_growByEach_90 : decode cX5_growByEach 90 = .ok (.iload_n 2, 1) := by decide +kernel
theorem dX5_growByEach_91 : decode cX5_growByEach 91 = .ok (.aload_n 0, 1) := by decide +kernel
theorem dX5_growByEach_92 : decode cX5_growByEach 92 = .ok (.iload 5, 2) := by decide +kernel
theorem dX5_growByEach_94 : decode cX5_growByEach 94 = .ok (.iload 5, 2) := by decide +kernel
theorem dX5_growByEach_96 : decode cX5_growByEach 96 = .ok (.invokevirtual 51, 3) := by decide +kernel
theorem dX5_growByEach_99 : decode cX5_growByEach 99 = .ok (.iadd, 1) := by decide +kernel
theorem dX5_growByEach_100 : decode cX5_growByEach 100 = .ok (.iload 6, 2) := by decide +kernel
theorem dX5_growByEach_102 : decode cX5_growByEach 102 = .ok (.isub, 1) := by decide +kernel
theorem dX5_growByEach_103 : decode cX5_growByEach 103 = .ok (.iload_n 3, 1) := by decide +kernel
theorem dX5_growByEach_104 : decode cX5_growByEach 104 = .ok (.aload_n 0, 1) := by decide +kernel
theorem dX5_growByEach_105 : decode cX5_growByEach 105 = .ok (.getfield 15, 3) := by decide +kernel
theorem dX5_growByEach_108 : decode cX5_growByEach 108 = .ok (.iload 5, 2) := by decide +kernel
theorem dX5_growByEach_110 : decode cX5_growByEach 110 = .ok (.iaload, 1) := by decide +kernel
theorem dX5_growByEach_111 : decode cX5_growByEach 111 = .ok (.ior, 1) := by decide +kernel
theorem dX5_growByEach_112 : decode cX5_growByEach 112 = .ok (.invokevirtual 55, 3) := by decide +kernel
theorem dX5_growByEach_115 : decode cX5_growByEach 115 = .ok (.iinc 5 1, 3) := by decide +kernel
theorem dX5_growByEach_118 : decode cX5_growByEach 118 = .ok (.goto (-87), 3) := by decide +kernel
theorem dX5_growByEach_121 : decode cX5_growByEach 121 = .ok (.return_, 1) := by decide +kernel
theorem dX5_tryRing_0 : decode cX5_tryRing 0 = .ok (.iload_n 1, 1) := by decide +kernel
theorem dX5_tryRing_1 : decode cX5_tryRing 1 = .ok (.iconst 2, 1) := by decide +kernel
theorem dX5_tryRing_2 : decode cX5_tryRing 2 = .ok (.if_icmp .lt 8, 3) := by decide +kernel
theorem dX5_tryRing_5 : decode cX5_tryRing 5 = .ok (.iload_n 1, 1) := by decide +kernel
theorem dX5_tryRing_6 : decode cX5_tryRing 6 = .ok (.iconst 4, 1) := by decide +kernel
theorem dX5_tryRing_7 : decode cX5_tryRing 7 = .ok (.if_icmp .le 4, 3) := by decide +kernel
theorem dX5_tryRing_10 : decode cX5_tryRing 10 = .ok (.return_, 1) := by decide +kernel
theorem dX5_tryRing_11 : decode cX5_tryRing 11 = .ok (.aload_n 0, 1) := by decide +kernel
theorem dX5_tryRing_12 : decode cX5_tryRing 12 = .ok (.aload_n 0, 1) := by decide +kernel
theorem dX5_tryRing_13 : decode cX5_tryRing 13 = .ok (.getfield 21, 3) := by decide +kernel
theorem dX5_tryRing_16 : decode cX5_tryRing 16 = .ok (.iconst 0, 1) := by decide +kernel
theorem dX5_tryRing_17 : decode cX5_tryRing 17 = .ok (.iaload, 1) := by decide +kernel
theorem dX5_tryRing_18 : decode cX5_tryRing 18 = .ok (.aload_n 0, 1) := by decide +kernel
theorem dX5_tryRing_19 : decode cX5_tryRing 19 = .ok (.getfield 21, 3) := by decide +kernel
theorem dX5_tryRing_22 : decode cX5_tryRing 22 = .ok (.iload_n 1, 1) := by decide +kernel
theorem dX5_tryRing_23 : decode cX5_tryRing 23 = .ok (.iconst 1, 1) := by decide +kernel
theorem dX5_tryRing_24 : decode cX5_tryRing 24 = .ok (.isub, 1) := by decide +kernel
theorem dX5_tryRing_25 : decode cX5_tryRing 25 = .ok (.iaload, 1) := by decide +kernel
theorem dX5_tryRing_26 : decode cX5_tryRing 26 = .ok (.invokevirtual 51, 3) := by decide +kernel
theorem dX5_tryRing_29 : decode cX5_tryRing 29 = .ok (.istore_n 3, 1) := by decide +kernel
theorem dX5_tryRing_30 : decode cX5_tryRing 30 = .ok (.iload_n 2, 1) := by decide +kernel
theorem dX5_tryRing_31 : decode cX5_tryRing 31 = .ok (.iload_n 3, 1) := by decide +kernel
theorem dX5_tryRing_32 : decode cX5_tryRing 32 = .ok (.isub, 1) := by decide +kernel
theorem dX5_tryRing_33 : decode cX5_tryRing 33 = .ok (.istore 4, 2) := by decide +kernel
theorem dX5_tryRing_35 : decode cX5_tryRing 35 = .ok (.iload_n 3, 1) := by decide +kernel
theorem dX5_tryRing_36 : decode cX5_tryRing 36 = .ok (.iconst (-1), 1) := by decide +kernel
theorem dX5_tryRing_37 : decode cX5_tryRing 37 = .ok (.if_icmp .eq 18, 3) := by decide +kernel
theorem dX5_tryRing_40 : decode cX5_tryRing 40 = .ok (.iload 4, 2) := by decide +kernel
theorem dX5_tryRing_42 : decode cX5_tryRing 42 = .ok (.ifCond .le 13, 3) := by decide +kernel
theorem dX5_tryRing_45 : decode cX5_tryRing 45 = .ok (.aload_n 0, 1) := by decide +kernel
theorem dX5_tryRing_46 : decode cX5_tryRing 46 = .ok (.iload 4, 2) := by decide +kernel
theorem dX5_tryRing_48 : decode cX5_tryRing 48 = .ok (.iload_n 1, 1) := by decide +kernel
theorem dX5_tryRing_49 : decode cX5_tryRing 49 = .ok (.invokevirtual 90, 3) := by decide +kernel
theorem dX5_tryRing_52 : decode cX5_tryRing 52 = .ok (.ifCond .ne 4, 3) := by decide +kernel
theorem dX5_tryRing_55 : decode cX5_tryRing 55 = .ok (.return_, 1) := by decide +kernel
theorem dX5_tryRing_56 : decode cX5_tryRing 56 = .ok (.aload_n 0, 1) := by decide +kernel
theorem dX5_tryRing_57 : decode cX5_tryRing 57 = .ok (.iload 4, 2) := by decide +kernel
theorem dX5_tryRing_59 : decode cX5_tryRing 59 = .ok (.putfield 41, 3) := by decide +kernel
theorem dX5_tryRing_62 : decode cX5_tryRing 62 = .ok (.aload_n 0, 1) := by decide +kernel
theorem dX5_tryRing_63 : decode cX5_tryRing 63 = .ok (.iload_n 1, 1) := by decide +kernel
theorem dX5_tryRing_64 : decode cX5_tryRing 64 = .ok (.putfield 38, 3) := by decide +kernel
theorem dX5_tryRing_67 : decode cX5_tryRing 67 = .ok (.iconst 0, 1) := by decide +kernel
theorem dX5_tryRing_68 : decode cX5_tryRing 68 = .ok (.istore 5, 2) := by decide +kernel
theorem dX5_tryRing_70 : decode cX5_tryRing 70 = .ok (.iload 5, 2) := by decide +kernel
theorem dX5_tryRing_72 : decode cX5_tryRing 72 = .ok (.iload_n 1, 1) := by decide +kernel
theorem dX5_tryRing_73 : decode cX5_tryRing 73 = .ok (.if_icmp .ge 22, 3) := by decide +kernel
theorem dX5_tryRing_76 : decode cX5_tryRing 76 = .ok (.aload_n 0, 1) := by decide +kernel
theorem dX5_tryRing_77 : decode cX5_tryRing 77 = .ok (.getfield 24, 3) := by decide +kernel
theorem dX5_tryRing_80 : decode cX5_tryRing 80 = .ok (.iload 5, 2) := by decide +kernel
theorem dX5_tryRing_82 : decode cX5_tryRing 82 = .ok (.aload_n 0, 1) := by decide +kernel
theorem dX5_tryRing_83 : decode cX5_tryRing 83 = .ok (.iload 5, 2) := by decide +kernel
theorem dX5_tryRing_85 : decode cX5_tryRing 85 = .ok (.invokevirtual 93, 3) := by decide +kernel
theorem dX5_tryRing_88 : decode cX5_tryRing 88 = .ok (.iastore, 1) := by decide +kernel
theorem dX5_tryRing_89 : decode cX5_tryRing 89 = .ok (.iinc 5 1, 3) := by decide +kernel
theorem dX5_tryRing_92 : decode cX5_tryRing 92 = .ok (.goto (-22), 3) := by decide +kernel
theorem dX5_tryRing_95 : decode cX5_tryRing 95 = .ok (.return_, 1) := by decide +kernel
theorem dX5_isBetter_0 : decode cX5_isBetter 0 = .ok (.iload_n 1, 1) := by decide +kernel
theorem dX5_isBetter_1 : decode cX5_isBetter 1 = .ok (.aload_n 0, 1) := by decide +kernel
theorem dX5_isBetter_2 : decode cX5_isBetter 2 = .ok (.getfield 41, 3) := by decide +kernel
theorem dX5_isBetter_5 : decode cX5_isBetter 5 = .ok (.if_icmp .eq 17, 3) := by decide +kernel
theorem dX5_isBetter_8 : decode cX5_isBetter 8 = .ok (.iload_n 1, 1) := by decide +kernel
theorem dX5_isBetter_9 : decode cX5_isBetter 9 = .ok (.aload_n 0, 1) := by decide +kernel
theorem dX5_isBetter_10 : decode cX5_isBetter 10 = .ok (.getfield 41, 3) := by decide +kernel
theorem dX5_isBetter_13 : decode cX5_isBetter 13 = .ok (.if_icmp .le 7, 3) := by decide +kernel
theorem dX5_isBetter_16 : decode cX5_isBetter 16 = .ok (.iconst 1, 1) := by decide +kernel
theorem dX5_isBetter_17 : decode cX5_isBetter 17 = .ok (.goto 4, 3) := by decide +kernel
theorem dX5_isBetter_20 : decode cX5_isBetter 20 = .ok (.iconst 0, 1) := by decide +kernel
theorem dX5_isBetter_21 : decode cX5_isBetter 21 = .ok (.ireturn, 1) := by decide +kernel
theorem dX5_isBetter_22 : decode cX5_isBetter 22 = .ok (.iload_n 2, 1) := by decide +kernel
theorem dX5_isBetter_23 : decode cX5_isBetter 23 = .ok (.aload_n 0, 1) := by decide +kernel
theorem dX5_isBetter_24 : decode cX5_isBetter 24 = .ok (.getfield 38, 3) := by decide +kernel
theorem dX5_isBetter_27 : decode cX5_isBetter 27 = .ok (.if_icmp .eq 19, 3) := by decide +kernel
theorem dX5_isBetter_30 : decode cX5_isBetter 30 = .ok (.iload_n 2, 1) := by decide +kernel
theorem dX5_isBetter_31 : decode cX5_isBetter 31 = .ok (.aload_n 0, 1) := by decide +kernel
theorem dX5_isBetter_32 : decode cX5_isBetter 32 = .ok (.getfield 38, 3) := by decide +kernel
theorem dX5_isBetter_35 : decode cX5_isBetter 35 = .ok (.if_icmp .ge 7, 3) := by decide +kernel
theorem dX5_isBetter_38 : decode cX5_isBetter 38 = .ok (.iconst 1, 1) := by decide +kernel
theorem dX5_isBetter_39 : decode cX5_isBetter 39 = .ok (.goto 26, 3) := by decide +kernel
theorem dX5_isBetter_42 : decode cX5_isBetter 42 = .ok (.iconst 0, 1) := by decide +kernel
theorem dX5_isBetter_43 : decode cX5_isBetter 43 = .ok (.goto 22, 3) := by decide +kernel
theorem dX5_isBetter_46 : decode cX5_isBetter 46 = .ok (.aload_n 0, 1) := by decide +kernel
theorem dX5_isBetter_47 : decode cX5_isBetter 47 = .ok (.iconst 0, 1) := by decide +kernel
theorem dX5_isBetter_48 : decode cX5_isBetter 48 = .ok (.invokevirtual 93, 3) := by decide +kernel
theorem dX5_isBetter_51 : decode cX5_isBetter 51 = .ok (.aload_n 0, 1) := by decide +kernel
theorem dX5_isBetter_52 : decode cX5_isBetter 52 = .ok (.getfield 24, 3) := by decide +kernel
theorem dX5_isBetter_55 : decode cX5_isBetter 55 = .ok (.iconst 0, 1) := by decide +kernel
theorem dX5_isBetter_56 : decode cX5_isBetter 56 = .ok (.iaload, 1) := by decide +kernel
theorem dX5_isBetter_57 : decode cX5_isBetter 57 = .ok (.if_icmp .ge 7, 3) := by decide +kernel
theorem dX5_isBetter_60 : decode cX5_isBetter 60 = .ok (.iconst 1, 1) := by decide +kernel
theorem dX5_isBetter_61 : decode cX5_isBetter 61 = .ok (.goto 4, 3) := by decide +kernel
theorem dX5_isBetter_64 : decode cX5_isBetter 64 = .ok (.iconst 0, 1) := by decide +kernel
theorem dX5_isBetter_65 : decode cX5_isBetter 65 = .ok (.ireturn, 1) := by decide +kernel
theorem dX5_dutyOfRow_0 : decode cX5_dutyOfRow 0 = .ok (.iload_n 1, 1) := by decide +kernel
theorem dX5_dutyOfRow_1 : decode cX5_dutyOfRow 1 = .ok (.ifCond .lt 8, 3) := by decide +kernel
theorem dX5_dutyOfRow_4 : decode cX5_dutyOfRow 4 = .ok (.iload_n 1, 1) := by decide +kernel
theorem dX5_dutyOfRow_5 : decode cX5_dutyOfRow 5 = .ok (.iconst 4, 1) := by decide +kernel
theorem dX5_dutyOfRow_6 : decode cX5_dutyOfRow 6 = .ok (.if_icmp .lt 5, 3) := by decide +kernel
theorem dX5_dutyOfRow_9 : decode cX5_dutyOfRow 9 = .ok (.iconst (-1), 1) := by decide +kernel
theorem dX5_dutyOfRow_10 : decode cX5_dutyOfRow 10 = .ok (.ireturn, 1) := by decide +kernel
theorem dX5_dutyOfRow_11 : decode cX5_dutyOfRow 11 = .ok (.aload_n 0, 1) := by decide +kernel
theorem dX5_dutyOfRow_12 : decode cX5_dutyOfRow 12 = .ok (.getfield 21, 3) := by decide +kernel
theorem dX5_dutyOfRow_15 : decode cX5_dutyOfRow 15 = .ok (.iload_n 1, 1) := by decide +kernel
theorem dX5_dutyOfRow_16 : decode cX5_dutyOfRow 16 = .ok (.iaload, 1) := by decide +kernel
theorem dX5_dutyOfRow_17 : decode cX5_dutyOfRow 17 = .ok (.ifCond .lt 28, 3) := by decide +kernel
theorem dX5_dutyOfRow_20 : decode cX5_dutyOfRow 20 = .ok (.aload_n 0, 1) := by decide +kernel
theorem dX5_dutyOfRow_21 : decode cX5_dutyOfRow 21 = .ok (.getfield 21, 3) := by decide +kernel
theorem dX5_dutyOfRow_24 : decode cX5_dutyOfRow 24 = .ok (.iload_n 1, 1) := by decide +kernel
theorem dX5_dutyOfRow_25 : decode cX5_dutyOfRow 25 = .ok (.iaload, 1) := by decide +kernel
theorem dX5_dutyOfRow_26 : decode cX5_dutyOfRow 26 = .ok (.bipush 24, 2) := by decide +kernel
theorem dX5_dutyOfRow_28 : decode cX5_dutyOfRow 28 = .ok (.if_icmp .ge 17, 3) := by decide +kernel
theorem dX5_dutyOfRow_31 : decode cX5_dutyOfRow 31 = .ok (.aload_n 0, 1) := by decide +kernel
theorem dX5_dutyOfRow_32 : decode cX5_dutyOfRow 32 = .ok (.getfield 9, 3) := by decide +kernel
theorem dX5_dutyOfRow_35 : decode cX5_dutyOfRow 35 = .ok (.aload_n 0, 1) := by decide +kernel
theorem dX5_dutyOfRow_36 : decode cX5_dutyOfRow 36 = .ok (.getfield 21, 3) := by decide +kernel
theorem dX5_dutyOfRow_39 : decode cX5_dutyOfRow 39 = .ok (.iload_n 1, 1) := by decide +kernel
theorem dX5_dutyOfRow_40 : decode cX5_dutyOfRow 40 = .ok (.iaload, 1) := by decide +kernel
theorem dX5_dutyOfRow_41 : decode cX5_dutyOfRow 41 = .ok (.iaload, 1) := by decide +kernel
theorem dX5_dutyOfRow_42 : decode cX5_dutyOfRow 42 = .ok (.goto 4, 3) := by decide +kernel
theorem dX5_dutyOfRow_45 : decode cX5_dutyOfRow 45 = .ok (.iconst (-1), 1) := by decide +kernel
theorem dX5_dutyOfRow_46 : decode cX5_dutyOfRow 46 = .ok (.ireturn, 1) := by decide +kernel
theorem dX5_handOn_0 : decode cX5_handOn 0 = .ok (.aload_n 0, 1) := by decide +kernel
theorem dX5_handOn_1 : decode cX5_handOn 1 = .ok (.getfield 38, 3) := by decide +kernel
theorem dX5_handOn_4 : decode cX5_handOn 4 = .ok (.iconst 2, 1) := by decide +kernel
theorem dX5_handOn_5 : decode cX5_handOn 5 = .ok (.if_icmp .lt 11, 3) := by decide +kernel
theorem dX5_handOn_8 : decode cX5_handOn 8 = .ok (.aload_n 0, 1) := by decide +kernel
theorem dX5_handOn_9 : decode cX5_handOn 9 = .ok (.getfield 38, 3) := by decide +kernel
theorem dX5_handOn_12 : decode cX5_handOn 12 = .ok (.iconst 4, 1) := by decide +kernel
theorem dX5_handOn_13 : decode cX5_handOn 13 = .ok (.if_icmp .le 4, 3) := by decide +kernel
theorem dX5_handOn_16 : decode cX5_handOn 16 = .ok (.return_, 1) := by decide +kernel
theorem dX5_handOn_17 : decode cX5_handOn 17 = .ok (.aload_n 0, 1) := by decide +kernel
theorem dX5_handOn_18 : decode cX5_handOn 18 = .ok (.getfield 27, 3) := by decide +kernel
theorem dX5_handOn_21 : decode cX5_handOn 21 = .ok (.aload_n 0, 1) := by decide +kernel
theorem dX5_handOn_22 : decode cX5_handOn 22 = .ok (.getfield 24, 3) := by decide +kernel
theorem dX5_handOn_25 : decode cX5_handOn 25 = .ok (.iconst 0, 1) := by decide +kernel
theorem dX5_handOn_26 : decode cX5_handOn 26 = .ok (.iaload, 1) := by decide +kernel
theorem dX5_handOn_27 : decode cX5_handOn 27 = .ok (.invokevirtual 64, 3) := by decide +kernel
theorem dX5_handOn_30 : decode cX5_handOn 30 = .ok (.istore_n 1, 1) := by decide +kernel
theorem dX5_handOn_31 : decode cX5_handOn 31 = .ok (.iconst 1, 1) := by decide +kernel
theorem dX5_handOn_32 : decode cX5_handOn 32 = .ok (.istore_n 2, 1) := by decide +kernel
theorem dX5_handOn_33 : decode cX5_handOn 33 = .ok (.iload_n 2, 1) := by decide +kernel
theorem dX5_handOn_34 : decode cX5_handOn 34 = .ok (.aload_n 0, 1) := by decide +kernel
theorem dX5_handOn_35 : decode cX5_handOn 35 = .ok (.getfield 38, 3) := by decide +kernel
theorem dX5_handOn_38 : decode cX5_handOn 38 = .ok (.if_icmp .ge 37, 3) := by decide +kernel
theorem dX5_handOn_41 : decode cX5_handOn 41 = .ok (.aload_n 0, 1) := by decide +kernel
theorem dX5_handOn_42 : decode cX5_handOn 42 = .ok (.getfield 27, 3) := by decide +kernel
theorem dX5_handOn_45 : decode cX5_handOn 45 = .ok (.aload_n 0, 1) := by decide +kernel
theorem dX5_handOn_46 : decode cX5_handOn 46 = .ok (.getfield 24, 3) := by decide +kernel
theorem dX5_handOn_49 : decode cX5_handOn 49 = .ok (.iload_n 2, 1) := by decide +kernel
theorem dX5_handOn_50 : decode cX5_handOn 50 = .ok (.iconst 1, 1) := by decide +kernel
theorem dX5_handOn_51 : decode cX5_handOn 51 = .ok (.isub, 1) := by decide +kernel
theorem dX5_handOn_52 : decode cX5_handOn 52 = .ok (.iaload, 1) := by decide +kernel
theorem dX5_handOn_53 : decode cX5_handOn 53 = .ok (.aload_n 0, 1) := by decide +kernel
theorem dX5_handOn_54 : decode cX5_handOn 54 = .ok (.getfield 27, 3) := by decide +kernel
theorem dX5_handOn_57 : decode cX5_handOn 57 = .ok (.aload_n 0, 1) := by decide +kernel
theorem dX5_handOn_58 : decode cX5_handOn 58 = .ok (.getfield 24, 3) := by decide +kernel
theorem dX5_handOn_61 : decode cX5_handOn 61 = .ok (.iload_n 2, 1) := by decide +kernel
theorem dX5_handOn_62 : decode cX5_handOn 62 = .ok (.iaload, 1) := by decide +kernel
theorem dX5_handOn_63 : decode cX5_handOn 63 = .ok (.invokevirtual 64, 3) := by decide +kernel
theorem dX5_handOn_66 : decode cX5_handOn 66 = .ok (.invokevirtual 96, 3) := by decide +kernel
theorem dX5_handOn_69 : decode cX5_handOn 69 = .ok (.iinc 2 1, 3) := by decide +kernel
theorem dX5_handOn_72 : decode cX5_handOn 72 = .ok (.goto (-39), 3) := by decide +kernel
theorem dX5_handOn_75 : decode cX5_handOn 75 = .ok (.aload_n 0, 1) := by decide +kernel
theorem dX5_handOn_76 : decode cX5_handOn 76 = .ok (.getfield 27, 3) := by decide +kernel
theorem dX5_handOn_79 : decode cX5_handOn 79 = .ok (.aload_n 0, 1) := by decide +kernel
theorem dX5_handOn_80 : decode cX5_handOn 80 = .ok (.getfield 24, 3) := by decide +kernel
theorem dX5_handOn_83 : decode cX5_handOn 83 = .ok (.aload_n 0, 1) := by decide +kernel
theorem dX5_handOn_84 : decode cX5_handOn 84 = .ok (.getfield 38, 3) := by decide +kernel
theorem dX5_handOn_87 : decode cX5_handOn 87 = .ok (.iconst 1, 1) := by decide +kernel
theorem dX5_handOn_88 : decode cX5_handOn 88 = .ok (.isub, 1) := by decide +kernel
theorem dX5_handOn_89 : decode cX5_handOn 89 = .ok (.iaload, 1) := by decide +kernel
theorem dX5_handOn_90 : decode cX5_handOn 90 = .ok (.iload_n 1, 1) := by decide +kernel
theorem dX5_handOn_91 : decode cX5_handOn 91 = .ok (.invokevirtual 96, 3) := by decide +kernel
theorem dX5_handOn_94 : decode cX5_handOn 94 = .ok (.return_, 1) := by decide +kernel
theorem dX6_init_0 : decode cX6_init 0 = .ok (.aload_n 0, 1) := by decide +kernel
theorem dX6_init_1 : decode cX6_init 1 = .ok (.invokespecial 3, 3) := by decide +kernel
theorem dX6_init_4 : decode cX6_init 4 = .ok (.aload_n 0, 1) := by decide +kernel
theorem dX6_init_5 : decode cX6_init 5 = .ok (.bipush 120, 2) := by decide +kernel
theorem dX6_init_7 : decode cX6_init 7 = .ok (.newarray .int, 2) := by decide +kernel
theorem dX6_init_9 : decode cX6_init 9 = .ok (.putfield 9, 3) := by decide +kernel
theorem dX6_init_12 : decode cX6_init 12 = .ok (.aload_n 0, 1) := by decide +kernel
theorem dX6_init_13 : decode cX6_init 13 = .ok (.iconst 4, 1) := by decide +kernel
theorem dX6_init_14 : decode cX6_init 14 = .ok (.newarray .int, 2) := by decide +kernel
theorem dX6_init_16 : decode cX6_init 16 = .ok (.putfield 15, 3) := by decide +kernel
theorem dX6_init_19 : decode cX6_init 19 = .ok (.iconst 0, 1) := by decide +kernel
theorem dX6_init_20 : decode cX6_init 20 = .ok (.istore_n 1, 1) := by decide +kernel
theorem dX6_init_21 : decode cX6_init 21 = .ok (.iload_n 1, 1) := by decide +kernel
theorem dX6_init_22 : decode cX6_init 22 = .ok (.iconst 4, 1) := by decide +kernel
theorem dX6_init_23 : decode cX6_init 23 = .ok (.if_icmp .ge 16, 3) := by decide +kernel
theorem dX6_init_26 : decode cX6_init 26 = .ok (.aload_n 0, 1) := by decide +kernel
theorem dX6_init_27 : decode cX6_init 27 = .ok (.getfield 15, 3) := by decide +kernel
theorem dX6_init_30 : decode cX6_init 30 = .ok (.iload_n 1, 1) := by decide +kernel
theorem dX6_init_31 : decode cX6_init 31 = .ok (.iconst (-1), 1) := by decide +kernel
theorem dX6_init_32 : decode cX6_init 32 = .ok (.iastore, 1) := by decide +kernel
theorem dX6_init_33 : decode cX6_init 33 = .ok (.iinc 1 1, 3) := by decide +kernel
theorem dX6_init_36 : decode cX6_init 36 = .ok (.goto (-15), 3) := by decide +kernel
theorem dX6_init_39 : decode cX6_init 39 = .ok (.return_, 1) := by decide +kernel
theorem dX6_isRow_0 : decode cX6_isRow 0 = .ok (.iload_n 1, 1) := by decide +kernel
theorem dX6_isRow_1 : decode cX6_isRow 1 = .ok (.ifCond .lt 12, 3) := by decide +kernel
theorem dX6_isRow_4 : decode cX6_isRow 4 = .ok (.iload_n 1, 1) := by decide +kernel
theorem dX6_isRow_5 : decode cX6_isRow 5 = .ok (.iconst 4, 1) := by decide +kernel
theorem dX6_isRow_6 : decode cX6_isRow 6 = .ok (.if_icmp .ge 7, 3) := by decide +kernel
theorem dX6_isRow_9 : decode cX6_isRow 9 = .ok (.iconst 1, 1) := by decide +kernel
theorem dX6_isRow_10 : decode cX6_isRow 10 = .ok (.goto 4, 3) := by decide +kernel
theorem dX6_isRow_13 : decode cX6_isRow 13 = .ok (.iconst 0, 1) := by decide +kernel
theorem dX6_isRow_14 : decode cX6_isRow 14 = .ok (.ireturn, 1) := by decide +kernel
theorem dX6_isHeld_0 : decode cX6_isHeld 0 = .ok (.aload_n 0, 1) := by decide +kernel
theorem dX6_isHeld_1 : decode cX6_isHeld 1 = .ok (.iload_n 1, 1) := by decide +kernel
theorem dX6_isHeld_2 : decode cX6_isHeld 2 = .ok (.invokevirtual 18, 3) := by decide +kernel
theorem dX6_isHeld_5 : decode cX6_isHeld 5 = .ok (.ifCond .eq 17, 3) := by decide +kernel
theorem dX6_isHeld_8 : decode cX6_isHeld 8 = .ok (.aload_n 0, 1) := by decide +kernel
theorem dX6_isHeld_9 : decode cX6_isHeld 9 = .ok (.getfield 15, 3) := by decide +kernel
theorem dX6_isHeld_12 : decode cX6_isHeld 12 = .ok (.iload_n 1, 1) := by decide +kernel
theorem dX6_isHeld_13 : decode cX6_isHeld 13 = .ok (.iaload, 1) := by decide +kernel
theorem dX6_isHeld_14 : decode cX6_isHeld 14 = .ok (.iconst (-1), 1) := by decide +kernel
theorem dX6_isHeld_15 : decode cX6_isHeld 15 = .ok (.if_icmp .eq 7, 3) := by decide +kernel
theorem dX6_isHeld_18 : decode cX6_isHeld 18 = .ok (.iconst 1, 1) := by decide +kernel
theorem dX6_isHeld_19 : decode cX6_isHeld 19 = .ok (.goto 4, 3) := by decide +kernel
theorem dX6_isHeld_22 : decode cX6_isHeld 22 = .ok (.iconst 0, 1) := by decide +kernel
theorem dX6_isHeld_23 : decode cX6_isHeld 23 = .ok (.ireturn, 1) := by decide +kernel
theorem dX6_begin_0 : decode cX6_begin 0 = .ok (.aload_n 0, 1) := by decide +kernel
theorem dX6_begin_1 : decode cX6_begin 1 = .ok (.iload_n 1, 1) := by decide +kernel
theorem dX6_begin_2 : decode cX6_begin 2 = .ok (.invokevirtual 18, 3) := by decide +kernel
theorem dX6_begin_5 : decode cX6_begin 5 = .ok (.ifCond .eq 13, 3) := by decide +kernel
theorem dX6_begin_8 : decode cX6_begin 8 = .ok (.iload_n 2, 1) := by decide +kernel
theorem dX6_begin_9 : decode cX6_begin 9 = .ok (.ifCond .lt 9, 3) := by decide +kernel
theorem dX6_begin_12 : decode cX6_begin 12 = .ok (.iload_n 2, 1) := by decide +kernel
theorem dX6_begin_13 : decode cX6_begin 13 = .ok (.bipush 30, 2) := by decide +kernel
theorem dX6_begin_15 : decode cX6_begin 15 = .ok (.if_icmp .le 4, 3) := by decide +kernel
theorem dX6_begin_18 : decode cX6_begin 18 = .ok (.return_, 1) := by decide +kernel
theorem dX6_begin_19 : decode cX6_begin 19 = .ok (.aload_n 0, 1) := by decide +kernel
theorem dX6_begin_20 : decode cX6_begin 20 = .ok (.getfield 15, 3) := by decide +kernel
theorem dX6_begin_23 : decode cX6_begin 23 = .ok (.iload_n 1, 1) := by decide +kernel
theorem dX6_begin_24 : decode cX6_begin 24 = .ok (.iload_n 2, 1) := by decide +kernel
theorem dX6_begin_25 : decode cX6_begin 25 = .ok (.iastore, 1) := by decide +kernel
theorem dX6_begin_26 : decode cX6_begin 26 = .ok (.iconst 0, 1) := by decide +kernel
theorem dX6_begin_27 : decode cX6_begin 27 = .ok (.istore_n 3, 1) := by decide +kernel
theorem dX6_begin_28 : decode cX6_begin 28 = .ok (.iload_n 3, 1) := by decide +kernel
theorem dX6_begin_29 : decode cX6_begin 29 = .ok (.bipush 30, 2) := by decide +kernel
theorem dX6_begin_31 : decode cX6_begin 31 = .ok (.if_icmp .ge 21, 3) := by decide +kernel
theorem dX6_begin_34 : decode cX6_begin 34 = .ok (.aload_n 0, 1) := by decide +kernel
theorem dX6_begin_35 : decode cX6_begin 35 = .ok (.getfield 9, 3) := by decide +kernel
theorem dX6_begin_38 : decode cX6_begin 38 = .ok (.iload_n 1, 1) := by decide +kernel
theorem dX6_begin_39 : decode cX6_begin 39 = .ok (.bipush 30, 2) := by decide +kernel
theorem dX6_begin_41 : decode cX6_begin 41 = .ok (.imul, 1) := by decide +kernel
theorem dX6_begin_42 : decode cX6_begin 42 = .ok (.iload_n 3, 1) := by decide +kernel
theorem dX6_begin_43 : decode cX6_begin 43 = .ok (.iadd, 1) := by decide +kernel
theorem dX6_begin_44 : decode cX6_begin 44 = .ok (.iconst 0, 1) := by decide +kernel
theorem dX6_begin_45 : decode cX6_begin 45 = .ok (.iastore, 1) := by decide +kernel
theorem dX6_begin_46 : decode cX6_begin 46 = .ok (.iinc 3 1, 3) := by decide +kernel
theorem dX6_begin_49 : decode cX6_begin 49 = .ok (.goto (-21), 3) := by decide +kernel
theorem dX6_begin_52 : decode cX6_begin 52 = .ok (.return_, 1) := by decide +kernel
theorem dX6_isPlace_0 : decode cX6_isPlace 0 = .ok (.aload_n 0, 1) := by decide +kernel
theorem dX6_isPlace_1 : decode cX6_isPlace 1 = .ok (.iload_n 1, 1) := by decide +kernel
theorem dX6_isPlace_2 : decode cX6_isPlace 2 = .ok (.invokevirtual 22, 3) := by decide +kernel
theorem dX6_isPlace_5 : decode cX6_isPlace 5 = .ok (.ifCond .eq 27, 3) := by decide +kernel
theorem dX6_isPlace_8 : decode cX6_isPlace 8 = .ok (.iload_n 2, 1) := by decide +kernel
theorem dX6_isPlace_9 : decode cX6_isPlace 9 = .ok (.ifCond .lt 23, 3) := by decide +kernel
theorem dX6_isPlace_12 : decode cX6_isPlace 12 = .ok (.iload_n 2, 1) := by decide +kernel
theorem dX6_isPlace_13 : decode cX6_isPlace 13 = .ok (.aload_n 0, 1) := by decide +kernel
theorem dX6_isPlace_14 : decode cX6_isPlace 14 = .ok (.getfield 15, 3) := by decide +kernel
theorem dX6_isPlace_17 : decode cX6_isPlace 17 = .ok (.iload_n 1, 1) := by decide +kernel
theorem dX6_isPlace_18 : decode cX6_isPlace 18 = .ok (.iaload, 1) := by decide +kernel
theorem dX6_isPlace_19 : decode cX6_isPlace 19 = .ok (.if_icmp .ge 13, 3) := by decide +kernel
theorem dX6_isPlace_22 : decode cX6_isPlace 22 = .ok (.iload_n 2, 1) := by decide +kernel
theorem dX6_isPlace_23 : decode cX6_isPlace 23 = .ok (.bipush 30, 2) := by decide +kernel
theorem dX6_isPlace_25 : decode cX6_isPlace 25 = .ok (.if_icmp .ge 7, 3) := by decide +kernel
theorem dX6_isPlace_28 : decode cX6_isPlace 28 = .ok (.iconst 1, 1) := by decide +kernel
theorem dX6_isPlace_29 : decode cX6_isPlace 29 = .ok (.goto 4, 3) := by decide +kernel
theorem dX6_isPlace_32 : decode cX6_isPlace 32 = .ok (.iconst 0, 1) := by decide +kernel
theorem dX6_isPlace_33 : decode cX6_isPlace 33 = .ok (.ireturn, 1) := by decide +kernel
theorem dX6_put_0 : decode cX6_put 0 = .ok (.aload_n 0, 1) := by decide +kernel
theorem dX6_put_1 : decode cX6_put 1 = .ok (.iload_n 1, 1) := by decide +kernel
theorem dX6_put_2 : decode cX6_put 2 = .ok (.iload_n 2, 1) := by decide +kernel
theorem dX6_put_3 : decode cX6_put 3 = .ok (.invokevirtual 25, 3) := by decide +kernel
theorem dX6_put_6 : decode cX6_put 6 = .ok (.ifCond .ne 5, 3) := by decide +kernel
theorem dX6_put_9 : decode cX6_put 9 = .ok (.iconst 0, 1) := by decide +kernel
theorem dX6_put_10 : decode cX6_put 10 = .ok (.ireturn, 1) := by decide +kernel
theorem dX6_put_11 : decode cX6_put 11 = .ok (.aload_n 0, 1) := by decide +kernel
theorem dX6_put_12 : decode cX6_put 12 = .ok (.getfield 9, 3) := by decide +kernel
theorem dX6_put_15 : decode cX6_put 15 = .ok (.iload_n 1, 1) := by decide +kernel
theorem dX6_put_16 : decode cX6_put 16 = .ok (.bipush 30, 2) := by decide +kernel
theorem dX6_put_18 : decode cX6_put 18 = .ok (.imul, 1) := by decide +kernel
theorem dX6_put_19 : decode cX6_put 19 = .ok (.iload_n 2, 1) := by decide +kernel
theorem dX6_put_20 : decode cX6_put 20 = .ok (.iadd, 1) := by decide +kernel
theorem dX6_put_21 : decode cX6_put 21 = .ok (.iload_n 3, 1) := by decide +kernel
theorem dX6_put_22 : decode cX6_put 22 = .ok (.iastore, 1) := by decide +kernel
theorem dX6_put_23 : decode cX6_put 23 = .ok (.iconst 1, 1) := by decide +kernel
theorem dX6_put_24 : decode cX6_put 24 = .ok (.ireturn, 1) := by decide +kernel
theorem dX6_at_0 : decode cX6_at 0 = .ok (.aload_n 0, 1) := by decide +kernel
theorem dX6_at_1 : decode cX6_at 1 = .ok (.iload_n 1, 1) := by decide +kernel
theorem dX6_at_2 : decode cX6_at 2 = .ok (.iload_n 2, 1) := by decide +kernel
theorem dX6_at_3 : decode cX6_at 3 = .ok (.invokevirtual 25, 3) := by decide +kernel
theorem dX6_at_6 : decode cX6_at 6 = .ok (.ifCond .eq 18, 3) := by decide +kernel
theorem dX6_at_9 : decode cX6_at 9 = .ok (.aload_n 0, 1) := by decide +kernel
theorem dX6_at_10 : decode cX6_at 10 = .ok (.getfield 9, 3) := by decide +kernel
theorem dX6_at_13 : decode cX6_at 13 = .ok (.iload_n 1, 1) := by decide +kernel
theorem dX6_at_14 : decode cX6_at 14 = .ok (.bipush 30, 2) := by decide +kernel
theorem dX6_at_16 : decode cX6_at 16 = .ok (.imul, 1) := by decide +kernel
theorem dX6_at_17 : decode cX6_at 17 = .ok (.iload_n 2, 1) := by decide +kernel
theorem dX6_at_18 : decode cX6_at 18 = .ok (.iadd, 1) := by decide +kernel
theorem dX6_at_19 : decode cX6_at 19 = .ok (.iaload, 1) := by decide +kernel
theorem dX6_at_20 : decode cX6_at 20 = .ok (.i2l, 1) := by decide +kernel
theorem dX6_at_21 : decode cX6_at 21 = .ok (.goto 6, 3) := by decide +kernel
theorem dX6_at_24 : decode cX6_at 24 = .ok (.ldc2_w 29, 3) := by decide +kernel
theorem dX6_at_27 : decode cX6_at 27 = .ok (.lreturn, 1) := by decide +kernel
theorem dX7_init_0 : decode cX7_init 0 = .ok (.aload_n 0, 1) := by decide +kernel
theorem dX7_init_1 : decode cX7_init 1 = .ok (.invokespecial 3, 3) := by decide +kernel
theorem dX7_init_4 : decode cX7_init 4 = .ok (.aload_n 0, 1) := by decide +kernel
theorem dX7_init_5 : decode cX7_init 5 = .ok (.sipush 150, 3) := by decide +kernel
theorem dX7_init_8 : decode cX7_init 8 = .ok (.newarray .int, 2) := by decide +kernel
theorem dX7_init_10 : decode cX7_init 10 = .ok (.putfield 9, 3) := by decide +kernel
theorem dX7_init_13 : decode cX7_init 13 = .ok (.aload_n 0, 1) := by decide +kernel
theorem dX7_init_14 : decode cX7_init 14 = .ok (.iconst 0, 1) := by decide +kernel
theorem dX7_init_15 : decode cX7_init 15 = .ok (.putfield 15, 3) := by decide +kernel
theorem dX7_init_18 : decode cX7_init 18 = .ok (.aload_n 0, 1) := by decide +kernel
theorem dX7_init_19 : decode cX7_init 19 = .ok (.iconst 0, 1) := by decide +kernel
theorem dX7_init_20 : decode cX7_init 20 = .ok (.putfield 19, 3) := by decide +kernel
theorem dX7_init_23 : decode cX7_init 23 = .ok (.aload_n 0, 1) := by decide +kernel
theorem dX7_init_24 : decode cX7_init 24 = .ok (.iconst (-1), 1) := by decide +kernel
theorem dX7_init_25 : decode cX7_init 25 = .ok (.putfield 22, 3) := by decide +kernel
theorem dX7_init_28 : decode cX7_init 28 = .ok (.return_, 1) := by decide +kernel
theorem dX7_size_0 : decode cX7_size 0 = .ok (.aload_n 0, 1) := by decide +kernel
theorem dX7_size_1 : decode cX7_size 1 = .ok (.getfield 15, 3) := by decide +kernel
theorem dX7_size_4 : decode cX7_size 4 = .ok (.ireturn, 1) := by decide +kernel
theorem dX7_add_0 : decode cX7_add 0 = .ok (.aload_n 0, 1) := by decide +kernel
theorem dX7_add_1 : decode cX7_add 1 = .ok (.getfield 15, 3) := by decide +kernel
theorem dX7_add_4 : decode cX7_add 4 = .ok (.ifCond .lt 13, 3) := by decide +kernel
theorem dX7_add_7 : decode cX7_add 7 = .ok (.aload_n 0, 1) := by decide +kernel
theorem dX7_add_8 : decode cX7_add 8 = .ok (.getfield 15, 3) := by decide +kernel
theorem dX7_add_11 : decode cX7_add 11 = .ok (.sipush 150, 3) := by decide +kernel
theorem dX7_add_14 : decode cX7_add 14 = .ok (.if_icmp .lt 5, 3) := by decide +kernel
theorem dX7_add_17 : decode cX7_add 17 = .ok (.iconst 0, 1) := by decide +kernel
theorem dX7_add_18 : decode cX7_add 18 = .ok (.ireturn, 1) := by decide +kernel
theorem dX7_add_19 : decode cX7_add 19 = .ok (.aload_n 0, 1) := by decide +kernel
theorem dX7_add_20 : decode cX7_add 20 = .ok (.getfield 9, 3) := by decide +kernel
theorem dX7_add_23 : decode cX7_add 23 = .ok (.aload_n 0, 1) := by decide +kernel
theorem dX7_add_24 : decode cX7_add 24 = .ok (.getfield 15, 3) := by decide +kernel
theorem dX7_add_27 : decode cX7_add 27 = .ok (.iload_n 1, 1) := by decide +kernel
theorem dX7_add_28 : decode cX7_add 28 = .ok (.iastore, 1) := by decide +kernel
theorem dX7_add_29 : decode cX7_add 29 = .ok (.aload_n 0, 1) := by decide +kernel
theorem dX7_add_30 : decode cX7_add 30 = .ok (.dup, 1) := by decide +kernel
theorem dX7_add_31 : decode cX7_add 31 = .ok (.getfield 15, 3) := by decide +kernel
theorem dX7_add_34 : decode cX7_add 34 = .ok (.iconst 1, 1) := by decide +kernel
theorem dX7_add_35 : decode cX7_add 35 = .ok (.iadd, 1) := by decide +kernel
theorem dX7_add_36 : decode cX7_add 36 = .ok (.putfield 15, 3) := by decide +kernel
theorem dX7_add_39 : decode cX7_add 39 = .ok (.iconst 1, 1) := by decide +kernel
theorem dX7_add_40 : decode cX7_add 40 = .ok (.ireturn, 1) := by decide +kernel
theorem dX7_wipe_0 : decode cX7_wipe 0 = .ok (.aload_n 0, 1) := by decide +kernel
theorem dX7_wipe_1 : decode cX7_wipe 1 = .ok (.getfield 15, 3) := by decide +kernel
theorem dX7_wipe_4 : decode cX7_wipe 4 = .ok (.istore_n 1, 1) := by decide +kernel
theorem dX7_wipe_5 : decode cX7_wipe 5 = .ok (.aload_n 0, 1) := by decide +kernel
theorem dX7_wipe_6 : decode cX7_wipe 6 = .ok (.iconst 0, 1) := by decide +kernel
theorem dX7_wipe_7 : decode cX7_wipe 7 = .ok (.putfield 15, 3) := by decide +kernel
theorem dX7_wipe_10 : decode cX7_wipe 10 = .ok (.iload_n 1, 1) := by decide +kernel
theorem dX7_wipe_11 : decode cX7_wipe 11 = .ok (.ireturn, 1) := by decide +kernel
theorem dX7_start_0 : decode cX7_start 0 = .ok (.aload_n 0, 1) := by decide +kernel
theorem dX7_start_1 : decode cX7_start 1 = .ok (.iconst 0, 1) := by decide +kernel
theorem dX7_start_2 : decode cX7_start 2 = .ok (.putfield 19, 3) := by decide +kernel
theorem dX7_start_5 : decode cX7_start 5 = .ok (.aload_n 0, 1) := by decide +kernel
theorem dX7_start_6 : decode cX7_start 6 = .ok (.iconst (-1), 1) := by decide +kernel
theorem dX7_start_7 : decode cX7_start 7 = .ok (.putfield 22, 3) := by decide +kernel
theorem dX7_start_10 : decode cX7_start 10 = .ok (.return_, 1) := by decide +kernel
theorem dX7_at_0 : decode cX7_at 0 = .ok (.aload_n 0, 1) := by decide +kernel
theorem dX7_at_1 : decode cX7_at 1 = .ok (.getfield 19, 3) := by decide +kernel
theorem dX7_at_4 : decode cX7_at 4 = .ok (.ireturn, 1) := by decide +kernel
theorem dX7_fault_0 : decode cX7_fault 0 = .ok (.aload_n 0, 1) := by decide +kernel
theorem dX7_fault_1 : decode cX7_fault 1 = .ok (.getfield 22, 3) := by decide +kernel
theorem dX7_fault_4 : decode cX7_fault 4 = .ok (.ireturn, 1) := by decide +kernel
theorem dX7_isFaulty_0 : decode cX7_isFaulty 0 = .ok (.aload_n 0, 1) := by decide +kernel
theorem dX7_isFaulty_1 : decode cX7_isFaulty 1 = .ok (.getfield 22, 3) := by decide +kernel
theorem dX7_isFaulty_4 : decode cX7_isFaulty 4 = .ok (.iconst (-1), 1) := by decide +kernel
theorem dX7_isFaulty_5 : decode cX7_isFaulty 5 = .ok (.if_icmp .eq 7, 3) := by decide +kernel
theorem dX7_isFaulty_8 : decode cX7_isFaulty 8 = .ok (.iconst 1, 1) := by decide +kernel
theorem dX7_isFaulty_9 : decode cX7_isFaulty 9 = .ok (.goto 4, 3) := by decide +kernel
theorem dX7_isFaulty_12 : decode cX7_isFaulty 12 = .ok (.iconst 0, 1) := by decide +kernel
theorem dX7_isFaulty_13 : decode cX7_isFaulty 13 = .ok (.ireturn, 1) := by decide +kernel
theorem dX7_fail_0 : decode cX7_fail 0 = .ok (.aload_n 0, 1) := by decide +kernel
theorem dX7_fail_1 : decode cX7_fail 1 = .ok (.getfield 22, 3) := by decide +kernel
theorem dX7_fail_4 : decode cX7_fail 4 = .ok (.iconst (-1), 1) := by decide +kernel
theorem dX7_fail_5 : decode cX7_fail 5 = .ok (.if_icmp .ne 8, 3) := by decide +kernel
theorem dX7_fail_8 : decode cX7_fail 8 = .ok (.aload_n 0, 1) := by decide +kernel
theorem dX7_fail_9 : decode cX7_fail 9 = .ok (.iload_n 1, 1) := by decide +kernel
theorem dX7_fail_10 : decode cX7_fail 10 = .ok (.putfield 22, 3) := by decide +kernel
theorem dX7_fail_13 : decode cX7_fail 13 = .ok (.return_, 1) := by decide +kernel
theorem dX7_byteHere_0 : decode cX7_byteHere 0 = .ok (.aload_n 0, 1) := by decide +kernel
theorem dX7_byteHere_1 : decode cX7_byteHere 1 = .ok (.getfield 19, 3) := by decide +kernel
theorem dX7_byteHere_4 : decode cX7_byteHere 4 = .ok (.ifCond .lt 36, 3) := by decide +kernel
theorem dX7_byteHere_7 : decode cX7_byteHere 7 = .ok (.aload_n 0, 1) := by decide +kernel
theorem dX7_byteHere_8 : decode cX7_byteHere 8 = .ok (.getfield 19, 3) := by decide +kernel
theorem dX7_byteHere_11 : decode cX7_byteHere 11 = .ok (.aload_n 0, 1) := by decide +kernel
theorem dX7_byteHere_12 : decode cX7_byteHere 12 = .ok (.getfield 15, 3) := by decide +kernel
theorem dX7_byteHere_15 : decode cX7_byteHere 15 = .ok (.if_icmp .ge 25, 3) := by decide +kernel
theorem dX7_byteHere_18 : decode cX7_byteHere 18 = .ok (.aload_n 0, 1) := by decide +kernel
theorem dX7_byteHere_19 : decode cX7_byteHere 19 = .ok (.getfield 19, 3) := by decide +kernel
theorem dX7_byteHere_22 : decode cX7_byteHere 22 = .ok (.sipush 150, 3) := by decide +kernel
theorem dX7_byteHere_25 : decode cX7_byteHere 25 = .ok (.if_icmp .ge 15, 3) := by decide +kernel
theorem dX7_byteHere_28 : decode cX7_byteHere 28 = .ok (.aload_n 0, 1) := by decide +kernel
theorem dX7_byteHere_29 : decode cX7_byteHere 29 = .ok (.getfield 9, 3) := by decide +kernel
theorem dX7_byteHere_32 : decode cX7_byteHere 32 = .ok (.aload_n 0, 1) := by decide +kernel
theorem dX7_byteHere_33 : decode cX7_byteHere 33 = .ok (.getfield 19, 3) := by decide +kernel
theorem dX7_byteHere_36 : decode cX7_byteHere 36 = .ok (.iaload, 1) := by decide +kernel
theorem dX7_byteHere_37 : decode cX7_byteHere 37 = .ok (.goto 4, 3) := by decide +kernel
theorem dX7_byteHere_40 : decode cX7_byteHere 40 = .ok (.iconst 0, 1) := by decide +kernel
theorem dX7_byteHere_41 : decode cX7_byteHere 41 = .ok (.ireturn, 1) := by decide +kernel
theorem dX7_takesIf_0 : decode cX7_takesIf 0 = .ok (.aload_n 0, 1) := by decide +kernel
theorem dX7_takesIf_1 : decode cX7_takesIf 1 = .ok (.getfield 22, 3) := by decide +kernel
theorem dX7_takesIf_4 : decode cX7_takesIf 4 = .ok (.iconst (-1), 1) := by decide +kernel
theorem dX7_takesIf_5 : decode cX7_takesIf 5 = .ok (.if_icmp .ne 11, 3) := by decide +kernel
theorem dX7_takesIf_8 : decode cX7_takesIf 8 = .ok (.aload_n 0, 1) := by decide +kernel
theorem dX7_takesIf_9 : decode cX7_takesIf 9 = .ok (.invokevirtual 25, 3) := by decide +kernel
