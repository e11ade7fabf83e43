theorem dX10_comesBy_22 : decode cX10_comesBy 22 = .ok (.iastore, 1) := by decide +kernel
theorem dX10_comesBy_23 : decode cX10_comesBy 23 = .ok (.aload_n 0, 1) := by decide +kernel
theorem dX10_comesBy_24 : decode cX10_comesBy 24 = .ok (.getfield 25, 3) := by decide +kernel
theorem dX10_comesBy_27 : decode cX10_comesBy 27 = .ok (.aload_n 0, 1) := by decide +kernel
theorem dX10_comesBy_28 : decode cX10_comesBy 28 = .ok (.getfield 155, 3) := by decide +kernel
theorem dX10_comesBy_31 : decode cX10_comesBy 31 = .ok (.iload_n 1, 1) := by decide +kernel
theorem dX10_comesBy_32 : decode cX10_comesBy 32 = .ok (.iastore, 1) := by decide +kernel
theorem dX10_comesBy_33 : decode cX10_comesBy 33 = .ok (.aload_n 0, 1) := by decide +kernel
theorem dX10_comesBy_34 : decode cX10_comesBy 34 = .ok (.dup, 1) := by decide +kernel
theorem dX10_comesBy_35 : decode cX10_comesBy 35 = .ok (.getfield 155, 3) := by decide +kernel
theorem dX10_comesBy_38 : decode cX10_comesBy 38 = .ok (.iconst 1, 1) := by decide +kernel
theorem dX10_comesBy_39 : decode cX10_comesBy 39 = .ok (.iadd, 1) := by decide +kernel
theorem dX10_comesBy_40 : decode cX10_comesBy 40 = .ok (.putfield 155, 3) := by decide +kernel
theorem dX10_comesBy_43 : decode cX10_comesBy 43 = .ok (.return_, 1) := by decide +kernel
theorem dX10_goesFromDuty_0 : decode cX10_goesFromDuty 0 = .ok (.iconst 0, 1) := by decide +kernel
theorem dX10_goesFromDuty_1 : decode cX10_goesFromDuty 1 = .ok (.istore_n 2, 1) := by decide +kernel
theorem dX10_goesFromDuty_2 : decode cX10_goesFromDuty 2 = .ok (.iload_n 2, 1) := by decide +kernel
theorem dX10_goesFromDuty_3 : decode cX10_goesFromDuty 3 = .ok (.aload_n 0, 1) := by decide +kernel
theorem dX10_goesFromDuty_4 : decode cX10_goesFromDuty 4 = .ok (.getfield 9, 3) := by decide +kernel
theorem dX10_goesFromDuty_7 : decode cX10_goesFromDuty 7 = .ok (.iconst 0, 1) := by decide +kernel
theorem dX10_goesFromDuty_8 : decode cX10_goesFromDuty 8 = .ok (.iaload, 1) := by decide +kernel
theorem dX10_goesFromDuty_9 : decode cX10_goesFromDuty 9 = .ok (.if_icmp .ge 24, 3) := by decide +kernel
theorem dX10_goesFromDuty_12 : decode cX10_goesFromDuty 12 = .ok (.aload_n 0, 1) := by decide +kernel
theorem dX10_goesFromDuty_13 : decode cX10_goesFromDuty 13 = .ok (.iload_n 2, 1) := by decide +kernel
theorem dX10_goesFromDuty_14 : decode cX10_goesFromDuty 14 = .ok (.iload_n 1, 1) := by decide +kernel
theorem dX10_goesFromDuty_15 : decode cX10_goesFromDuty 15 = .ok (.invokevirtual 113, 3) := by decide +kernel
theorem dX10_goesFromDuty_18 : decode cX10_goesFromDuty 18 = .ok (.ifCond .eq 9, 3) := by decide +kernel
theorem dX10_goesFromDuty_21 : decode cX10_goesFromDuty 21 = .ok (.aload_n 0, 1) := by decide +kernel
theorem dX10_goesFromDuty_22 : decode cX10_goesFromDuty 22 = .ok (.iload_n 2, 1) := by decide +kernel
theorem dX10_goesFromDuty_23 : decode cX10_goesFromDuty 23 = .ok (.iload_n 1, 1) := by decide +kernel
theorem dX10_goesFromDuty_24 : decode cX10_goesFromDuty 24 = .ok (.invokevirtual 159, 3) := by decide +kernel
theorem dX10_goesFromDuty_27 : decode cX10_goesFromDuty 27 = .ok (.iinc 2 1, 3) := by decide +kernel
theorem dX10_goesFromDuty_30 : decode cX10_goesFromDuty 30 = .ok (.goto (-28), 3) := by decide +kernel
theorem dX10_goesFromDuty_33 : decode cX10_goesFromDuty 33 = .ok (.return_, 1) := by decide +kernel
theorem dX10_begins_0 : decode cX10_begins 0 = .ok (.aload_n 0, 1) := by decide +kernel
theorem dX10_begins_1 : decode cX10_begins 1 = .ok (.iconst 0, 1) := by decide +kernel
theorem dX10_begins_2 : decode cX10_begins 2 = .ok (.putfield 155, 3) := by decide +kernel
theorem dX10_begins_5 : decode cX10_begins 5 = .ok (.iconst 0, 1) := by decide +kernel
theorem dX10_begins_6 : decode cX10_begins 6 = .ok (.istore_n 1, 1) := by decide +kernel
theorem dX10_begins_7 : decode cX10_begins 7 = .ok (.iload_n 1, 1) := by decide +kernel
theorem dX10_begins_8 : decode cX10_begins 8 = .ok (.bipush 8, 2) := by decide +kernel
theorem dX10_begins_10 : decode cX10_begins 10 = .ok (.if_icmp .ge 16, 3) := by decide +kernel
theorem dX10_begins_13 : decode cX10_begins 13 = .ok (.aload_n 0, 1) := by decide +kernel
theorem dX10_begins_14 : decode cX10_begins 14 = .ok (.getfield 31, 3) := by decide +kernel
theorem dX10_begins_17 : decode cX10_begins 17 = .ok (.iload_n 1, 1) := by decide +kernel
theorem dX10_begins_18 : decode cX10_begins 18 = .ok (.iconst 0, 1) := by decide +kernel
theorem dX10_begins_19 : decode cX10_begins 19 = .ok (.bastore, 1) := by decide +kernel
theorem dX10_begins_20 : decode cX10_begins 20 = .ok (.iinc 1 1, 3) := by decide +kernel
theorem dX10_begins_23 : decode cX10_begins 23 = .ok (.goto (-16), 3) := by decide +kernel
theorem dX10_begins_26 : decode cX10_begins 26 = .ok (.return_, 1) := by decide +kernel
theorem dX10_goesOn_0 : decode cX10_goesOn 0 = .ok (.iconst 0, 1) := by decide +kernel
theorem dX10_goesOn_1 : decode cX10_goesOn 1 = .ok (.istore_n 2, 1) := by decide +kernel
theorem dX10_goesOn_2 : decode cX10_goesOn 2 = .ok (.iload_n 2, 1) := by decide +kernel
theorem dX10_goesOn_3 : decode cX10_goesOn 3 = .ok (.aload_n 0, 1) := by decide +kernel
theorem dX10_goesOn_4 : decode cX10_goesOn 4 = .ok (.getfield 155, 3) := by decide +kernel
theorem dX10_goesOn_7 : decode cX10_goesOn 7 = .ok (.if_icmp .ge 60, 3) := by decide +kernel
theorem dX10_goesOn_10 : decode cX10_goesOn 10 = .ok (.iconst 0, 1) := by decide +kernel
theorem dX10_goesOn_11 : decode cX10_goesOn 11 = .ok (.istore_n 3, 1) := by decide +kernel
theorem dX10_goesOn_12 : decode cX10_goesOn 12 = .ok (.iload_n 3, 1) := by decide +kernel
theorem dX10_goesOn_13 : decode cX10_goesOn 13 = .ok (.aload_n 0, 1) := by decide +kernel
theorem dX10_goesOn_14 : decode cX10_goesOn 14 = .ok (.getfield 9, 3) := by decide +kernel
theorem dX10_goesOn_17 : decode cX10_goesOn 17 = .ok (.iconst 2, 1) := by decide +kernel
theorem dX10_goesOn_18 : decode cX10_goesOn 18 = .ok (.iaload, 1) := by decide +kernel
theorem dX10_goesOn_19 : decode cX10_goesOn 19 = .ok (.if_icmp .ge 42, 3) := by decide +kernel
theorem dX10_goesOn_22 : decode cX10_goesOn 22 = .ok (.aload_n 0, 1) := by decide +kernel
theorem dX10_goesOn_23 : decode cX10_goesOn 23 = .ok (.getfield 9, 3) := by decide +kernel
theorem dX10_goesOn_26 : decode cX10_goesOn 26 = .ok (.sipush 275, 3) := by decide +kernel
theorem dX10_goesOn_29 : decode cX10_goesOn 29 = .ok (.iload_n 3, 1) := by decide +kernel
theorem dX10_goesOn_30 : decode cX10_goesOn 30 = .ok (.iadd, 1) := by decide +kernel
theorem dX10_goesOn_31 : decode cX10_goesOn 31 = .ok (.iaload, 1) := by decide +kernel
theorem dX10_goesOn_32 : decode cX10_goesOn 32 = .ok (.iload_n 1, 1) := by decide +kernel
theorem dX10_goesOn_33 : decode cX10_goesOn 33 = .ok (.if_icmp .ne 22, 3) := by decide +kernel
theorem dX10_goesOn_36 : decode cX10_goesOn 36 = .ok (.aload_n 0, 1) := by decide +kernel
theorem dX10_goesOn_37 : decode cX10_goesOn 37 = .ok (.iload_n 3, 1) := by decide +kernel
theorem dX10_goesOn_38 : decode cX10_goesOn 38 = .ok (.invokevirtual 78, 3) := by decide +kernel
theorem dX10_goesOn_41 : decode cX10_goesOn 41 = .ok (.aload_n 0, 1) := by decide +kernel
theorem dX10_goesOn_42 : decode cX10_goesOn 42 = .ok (.getfield 25, 3) := by decide +kernel
theorem dX10_goesOn_45 : decode cX10_goesOn 45 = .ok (.iload_n 2, 1) := by decide +kernel
theorem dX10_goesOn_46 : decode cX10_goesOn 46 = .ok (.iaload, 1) := by decide +kernel
theorem dX10_goesOn_47 : decode cX10_goesOn 47 = .ok (.if_icmp .ne 8, 3) := by decide +kernel
theorem dX10_goesOn_50 : decode cX10_goesOn 50 = .ok (.aload_n 0, 1) := by decide +kernel
theorem dX10_goesOn_51 : decode cX10_goesOn 51 = .ok (.iload_n 3, 1) := by decide +kernel
theorem dX10_goesOn_52 : decode cX10_goesOn 52 = .ok (.invokevirtual 162, 3) := by decide +kernel
theorem dX10_goesOn_55 : decode cX10_goesOn 55 = .ok (.iinc 3 1, 3) := by decide +kernel
theorem dX10_goesOn_58 : decode cX10_goesOn 58 = .ok (.goto (-46), 3) := by decide +kernel
theorem dX10_goesOn_61 : decode cX10_goesOn 61 = .ok (.iinc 2 1, 3) := by decide +kernel
theorem dX10_goesOn_64 : decode cX10_goesOn 64 = .ok (.goto (-62), 3) := by decide +kernel
theorem dX10_goesOn_67 : decode cX10_goesOn 67 = .ok (.return_, 1) := by decide +kernel
theorem dX10_leastCome_0 : decode cX10_leastCome 0 = .ok (.iconst (-1), 1) := by decide +kernel
theorem dX10_leastCome_1 : decode cX10_leastCome 1 = .ok (.istore_n 2, 1) := by decide +kernel
theorem dX10_leastCome_2 : decode cX10_leastCome 2 = .ok (.iconst 0, 1) := by decide +kernel
theorem dX10_leastCome_3 : decode cX10_leastCome 3 = .ok (.istore_n 3, 1) := by decide +kernel
theorem dX10_leastCome_4 : decode cX10_leastCome 4 = .ok (.iload_n 3, 1) := by decide +kernel
theorem dX10_leastCome_5 : decode cX10_leastCome 5 = .ok (.aload_n 0, 1) := by decide +kernel
theorem dX10_leastCome_6 : decode cX10_leastCome 6 = .ok (.getfield 155, 3) := by decide +kernel
theorem dX10_leastCome_9 : decode cX10_leastCome 9 = .ok (.if_icmp .ge 44, 3) := by decide +kernel
theorem dX10_leastCome_12 : decode cX10_leastCome 12 = .ok (.iload_n 2, 1) := by decide +kernel
theorem dX10_leastCome_13 : decode cX10_leastCome 13 = .ok (.ifCond .lt 23, 3) := by decide +kernel
theorem dX10_leastCome_16 : decode cX10_leastCome 16 = .ok (.aload_n 0, 1) := by decide +kernel
theorem dX10_leastCome_17 : decode cX10_leastCome 17 = .ok (.aload_n 0, 1) := by decide +kernel
theorem dX10_leastCome_18 : decode cX10_leastCome 18 = .ok (.getfield 25, 3) := by decide +kernel
theorem dX10_leastCome_21 : decode cX10_leastCome 21 = .ok (.iload_n 3, 1) := by decide +kernel
theorem dX10_leastCome_22 : decode cX10_leastCome 22 = .ok (.iaload, 1) := by decide +kernel
theorem dX10_leastCome_23 : decode cX10_leastCome 23 = .ok (.iload_n 1, 1) := by decide +kernel
theorem dX10_leastCome_24 : decode cX10_leastCome 24 = .ok (.invokevirtual 132, 3) := by decide +kernel
theorem dX10_leastCome_27 : decode cX10_leastCome 27 = .ok (.aload_n 0, 1) := by decide +kernel
theorem dX10_leastCome_28 : decode cX10_leastCome 28 = .ok (.iload_n 2, 1) := by decide +kernel
theorem dX10_leastCome_29 : decode cX10_leastCome 29 = .ok (.iload_n 1, 1) := by decide +kernel
theorem dX10_leastCome_30 : decode cX10_leastCome 30 = .ok (.invokevirtual 132, 3) := by decide +kernel
theorem dX10_leastCome_33 : decode cX10_leastCome 33 = .ok (.if_icmp .ge 12, 3) := by decide +kernel
theorem dX10_leastCome_36 : decode cX10_leastCome 36 = .ok (.aload_n 0, 1) := by decide +kernel
theorem dX10_leastCome_37 : decode cX10_leastCome 37 = .ok (.getfield 25, 3) := by decide +kernel
theorem dX10_leastCome_40 : decode cX10_leastCome 40 = .ok (.iload_n 3, 1) := by decide +kernel
theorem dX10_leastCome_41 : decode cX10_leastCome 41 = .ok (.iaload, 1) := by decide +kernel
theorem dX10_leastCome_42 : decode cX10_leastCome 42 = .ok (.goto 4, 3) := by decide +kernel
theorem dX10_leastCome_45 : decode cX10_leastCome 45 = .ok (.iload_n 2, 1) := by decide +kernel
theorem dX10_leastCome_46 : decode cX10_leastCome 46 = .ok (.istore_n 2, 1) := by decide +kernel
theorem dX10_leastCome_47 : decode cX10_leastCome 47 = .ok (.iinc 3 1, 3) := by decide +kernel
theorem dX10_leastCome_50 : decode cX10_leastCome 50 = .ok (.goto (-46), 3) := by decide +kernel
theorem dX10_leastCome_53 : decode cX10_leastCome 53 = .ok (.iload_n 2, 1) := by decide +kernel
theorem dX10_leastCome_54 : decode cX10_leastCome 54 = .ok (.ireturn, 1) := by decide +kernel
theorem dX10_shifts_0 : decode cX10_shifts 0 = .ok (.iload_n 1, 1) := by decide +kernel
theorem dX10_shifts_1 : decode cX10_shifts 1 = .ok (.istore_n 2, 1) := by decide +kernel
theorem dX10_shifts_2 : decode cX10_shifts 2 = .ok (.iload_n 2, 1) := by decide +kernel
theorem dX10_shifts_3 : decode cX10_shifts 3 = .ok (.ifCond .lt 43, 3) := by decide +kernel
theorem dX10_shifts_6 : decode cX10_shifts 6 = .ok (.aload_n 0, 1) := by decide +kernel
theorem dX10_shifts_7 : decode cX10_shifts 7 = .ok (.getfield 28, 3) := by decide +kernel
theorem dX10_shifts_10 : decode cX10_shifts 10 = .ok (.iload_n 2, 1) := by decide +kernel
theorem dX10_shifts_11 : decode cX10_shifts 11 = .ok (.iaload, 1) := by decide +kernel
theorem dX10_shifts_12 : decode cX10_shifts 12 = .ok (.ifCond .lt 34, 3) := by decide +kernel
theorem dX10_shifts_15 : decode cX10_shifts 15 = .ok (.aload_n 0, 1) := by decide +kernel
theorem dX10_shifts_16 : decode cX10_shifts 16 = .ok (.getfield 28, 3) := by decide +kernel
theorem dX10_shifts_19 : decode cX10_shifts 19 = .ok (.iload_n 2, 1) := by decide +kernel
theorem dX10_shifts_20 : decode cX10_shifts 20 = .ok (.iaload, 1) := by decide +kernel
theorem dX10_shifts_21 : decode cX10_shifts 21 = .ok (.istore_n 3, 1) := by decide +kernel
theorem dX10_shifts_22 : decode cX10_shifts 22 = .ok (.aload_n 0, 1) := by decide +kernel
theorem dX10_shifts_23 : decode cX10_shifts 23 = .ok (.iload_n 3, 1) := by decide +kernel
theorem dX10_shifts_24 : decode cX10_shifts 24 = .ok (.invokevirtual 78, 3) := by decide +kernel
theorem dX10_shifts_27 : decode cX10_shifts 27 = .ok (.istore 4, 2) := by decide +kernel
theorem dX10_shifts_29 : decode cX10_shifts 29 = .ok (.aload_n 0, 1) := by decide +kernel
theorem dX10_shifts_30 : decode cX10_shifts 30 = .ok (.getfield 9, 3) := by decide +kernel
theorem dX10_shifts_33 : decode cX10_shifts 33 = .ok (.sipush 299, 3) := by decide +kernel
theorem dX10_shifts_36 : decode cX10_shifts 36 = .ok (.iload_n 3, 1) := by decide +kernel
theorem dX10_shifts_37 : decode cX10_shifts 37 = .ok (.iadd, 1) := by decide +kernel
theorem dX10_shifts_38 : decode cX10_shifts 38 = .ok (.iload_n 2, 1) := by decide +kernel
theorem dX10_shifts_39 : decode cX10_shifts 39 = .ok (.iastore, 1) := by decide +kernel
theorem dX10_shifts_40 : decode cX10_shifts 40 = .ok (.iload 4, 2) := by decide +kernel
theorem dX10_shifts_42 : decode cX10_shifts 42 = .ok (.istore_n 2, 1) := by decide +kernel
theorem dX10_shifts_43 : decode cX10_shifts 43 = .ok (.goto (-41), 3) := by decide +kernel
theorem dX10_shifts_46 : decode cX10_shifts 46 = .ok (.return_, 1) := by decide +kernel
theorem dX10_filled_0 : decode cX10_filled 0 = .ok (.iconst 0, 1) := by decide +kernel
theorem dX10_filled_1 : decode cX10_filled 1 = .ok (.istore_n 2, 1) := by decide +kernel
theorem dX10_filled_2 : decode cX10_filled 2 = .ok (.aload_n 0, 1) := by decide +kernel
theorem dX10_filled_3 : decode cX10_filled 3 = .ok (.invokevirtual 103, 3) := by decide +kernel
theorem dX10_filled_6 : decode cX10_filled 6 = .ok (.iconst 0, 1) := by decide +kernel
theorem dX10_filled_7 : decode cX10_filled 7 = .ok (.istore_n 3, 1) := by decide +kernel
theorem dX10_filled_8 : decode cX10_filled 8 = .ok (.iload_n 3, 1) := by decide +kernel
theorem dX10_filled_9 : decode cX10_filled 9 = .ok (.aload_n 0, 1) := by decide +kernel
theorem dX10_filled_10 : decode cX10_filled 10 = .ok (.getfield 9, 3) := by decide +kernel
theorem dX10_filled_13 : decode cX10_filled 13 = .ok (.iconst 2, 1) := by decide +kernel
theorem dX10_filled_14 : decode cX10_filled 14 = .ok (.iaload, 1) := by decide +kernel
theorem dX10_filled_15 : decode cX10_filled 15 = .ok (.if_icmp .ge 77, 3) := by decide +kernel
theorem dX10_filled_18 : decode cX10_filled 18 = .ok (.aload_n 0, 1) := by decide +kernel
theorem dX10_filled_19 : decode cX10_filled 19 = .ok (.getfield 22, 3) := by decide +kernel
theorem dX10_filled_22 : decode cX10_filled 22 = .ok (.iload_n 3, 1) := by decide +kernel
theorem dX10_filled_23 : decode cX10_filled 23 = .ok (.iaload, 1) := by decide +kernel
theorem dX10_filled_24 : decode cX10_filled 24 = .ok (.istore 4, 2) := by decide +kernel
theorem dX10_filled_26 : decode cX10_filled 26 = .ok (.aload_n 0, 1) := by decide +kernel
theorem dX10_filled_27 : decode cX10_filled 27 = .ok (.getfield 9, 3) := by decide +kernel
theorem dX10_filled_30 : decode cX10_filled 30 = .ok (.sipush 275, 3) := by decide +kernel
theorem dX10_filled_33 : decode cX10_filled 33 = .ok (.iload 4, 2) := by decide +kernel
theorem dX10_filled_35 : decode cX10_filled 35 = .ok (.iadd, 1) := by decide +kernel
theorem dX10_filled_36 : decode cX10_filled 36 = .ok (.iaload, 1) := by decide +kernel
theorem dX10_filled_37 : decode cX10_filled 37 = .ok (.iload_n 1, 1) := by decide +kernel
theorem dX10_filled_38 : decode cX10_filled 38 = .ok (.if_icmp .ne 48, 3) := by decide +kernel
theorem dX10_filled_41 : decode cX10_filled 41 = .ok (.aload_n 0, 1) := by decide +kernel
theorem dX10_filled_42 : decode cX10_filled 42 = .ok (.iload 4, 2) := by decide +kernel
theorem dX10_filled_44 : decode cX10_filled 44 = .ok (.invokevirtual 78, 3) := by decide +kernel
theorem dX10_filled_47 : decode cX10_filled 47 = .ok (.ifCond .ge 39, 3) := by decide +kernel
theorem dX10_filled_50 : decode cX10_filled 50 = .ok (.aload_n 0, 1) := by decide +kernel
theorem dX10_filled_51 : decode cX10_filled 51 = .ok (.invokevirtual 165, 3) := by decide +kernel
theorem dX10_filled_54 : decode cX10_filled 54 = .ok (.aload_n 0, 1) := by decide +kernel
theorem dX10_filled_55 : decode cX10_filled 55 = .ok (.iload 4, 2) := by decide +kernel
theorem dX10_filled_57 : decode cX10_filled 57 = .ok (.invokevirtual 162, 3) := by decide +kernel
theorem dX10_filled_60 : decode cX10_filled 60 = .ok (.aload_n 0, 1) := by decide +kernel
theorem dX10_filled_61 : decode cX10_filled 61 = .ok (.iload_n 1, 1) := by decide +kernel
theorem dX10_filled_62 : decode cX10_filled 62 = .ok (.invokevirtual 168, 3) := by decide +kernel
theorem dX10_filled_65 : decode cX10_filled 65 = .ok (.aload_n 0, 1) := by decide +kernel
theorem dX10_filled_66 : decode cX10_filled 66 = .ok (.iload_n 1, 1) := by decide +kernel
theorem dX10_filled_67 : decode cX10_filled 67 = .ok (.invokevirtual 171, 3) := by decide +kernel
theorem dX10_filled_70 : decode cX10_filled 70 = .ok (.istore 5, 2) := by decide +kernel
theorem dX10_filled_72 : decode cX10_filled 72 = .ok (.iload 5, 2) := by decide +kernel
theorem dX10_filled_74 : decode cX10_filled 74 = .ok (.ifCond .lt 12, 3) := by decide +kernel
theorem dX10_filled_77 : decode cX10_filled 77 = .ok (.aload_n 0, 1) := by decide +kernel
theorem dX10_filled_78 : decode cX10_filled 78 = .ok (.iload 5, 2) := by decide +kernel
theorem dX10_filled_80 : decode cX10_filled 80 = .ok (.invokevirtual 174, 3) := by decide +kernel
theorem dX10_filled_83 : decode cX10_filled 83 = .ok (.iinc 2 1, 3) := by decide +kernel
theorem dX10_filled_86 : decode cX10_filled 86 = .ok (.iinc 3 1, 3) := by decide +kernel
theorem dX10_filled_89 : decode cX10_filled 89 = .ok (.goto (-81), 3) := by decide +kernel
theorem dX10_filled_92 : decode cX10_filled 92 = .ok (.iload_n 2, 1) := by decide +kernel
theorem dX10_filled_93 : decode cX10_filled 93 = .ok (.ireturn, 1) := by decide +kernel
theorem dX10_fill_0 : decode cX10_fill 0 = .ok (.iload_n 1, 1) := by decide +kernel
theorem dX10_fill_1 : decode cX10_fill 1 = .ok (.iconst (-1), 1) := by decide +kernel
theorem dX10_fill_2 : decode cX10_fill 2 = .ok (.if_icmp .eq 12, 3) := by decide +kernel
theorem dX10_fill_5 : decode cX10_fill 5 = .ok (.iload_n 1, 1) := by decide +kernel
theorem dX10_fill_6 : decode cX10_fill 6 = .ok (.invokestatic 117, 3) := by decide +kernel
theorem dX10_fill_9 : decode cX10_fill 9 = .ok (.ifCond .ne 5, 3) := by decide +kernel
theorem dX10_fill_12 : decode cX10_fill 12 = .ok (.iconst (-1), 1) := by decide +kernel
theorem dX10_fill_13 : decode cX10_fill 13 = .ok (.ireturn, 1) := by decide +kernel
theorem dX10_fill_14 : decode cX10_fill 14 = .ok (.iload_n 1, 1) := by decide +kernel
theorem dX10_fill_15 : decode cX10_fill 15 = .ok (.ifCond .lt 9, 3) := by decide +kernel
theorem dX10_fill_18 : decode cX10_fill 18 = .ok (.aload_n 0, 1) := by decide +kernel
theorem dX10_fill_19 : decode cX10_fill 19 = .ok (.iload_n 1, 1) := by decide +kernel
theorem dX10_fill_20 : decode cX10_fill 20 = .ok (.invokevirtual 177, 3) := by decide +kernel
theorem dX10_fill_23 : decode cX10_fill 23 = .ok (.ireturn, 1) := by decide +kernel
theorem dX10_fill_24 : decode cX10_fill 24 = .ok (.iconst 0, 1) := by decide +kernel
theorem dX10_fill_25 : decode cX10_fill 25 = .ok (.istore_n 2, 1) := by decide +kernel
theorem dX10_fill_26 : decode cX10_fill 26 = .ok (.iconst 0, 1) := by decide +kernel
theorem dX10_fill_27 : decode cX10_fill 27 = .ok (.istore_n 3, 1) := by decide +kernel
theorem dX10_fill_28 : decode cX10_fill 28 = .ok (.iload_n 3, 1) := by decide +kernel
theorem dX10_fill_29 : decode cX10_fill 29 = .ok (.iconst 4, 1) := by decide +kernel
theorem dX10_fill_30 : decode cX10_fill 30 = .ok (.if_icmp .ge 17, 3) := by decide +kernel
theorem dX10_fill_33 : decode cX10_fill 33 = .ok (.iload_n 2, 1) := by decide +kernel
theorem dX10_fill_34 : decode cX10_fill 34 = .ok (.aload_n 0, 1) := by decide +kernel
theorem dX10_fill_35 : decode cX10_fill 35 = .ok (.iload_n 3, 1) := by decide +kernel
theorem dX10_fill_36 : decode cX10_fill 36 = .ok (.invokevirtual 177, 3) := by decide +kernel
theorem dX10_fill_39 : decode cX10_fill 39 = .ok (.iadd, 1) := by decide +kernel
theorem dX10_fill_40 : decode cX10_fill 40 = .ok (.istore_n 2, 1) := by decide +kernel
theorem dX10_fill_41 : decode cX10_fill 41 = .ok (.iinc 3 1, 3) := by decide +kernel
theorem dX10_fill_44 : decode cX10_fill 44 = .ok (.goto (-16), 3) := by decide +kernel
theorem dX10_fill_47 : decode cX10_fill 47 = .ok (.iload_n 2, 1) := by decide +kernel
theorem dX10_fill_48 : decode cX10_fill 48 = .ok (.ireturn, 1) := by decide +kernel
theorem dX10_vectors_0 : decode cX10_vectors 0 = .ok (.aload_n 0, 1) := by decide +kernel
theorem dX10_vectors_1 : decode cX10_vectors 1 = .ok (.iconst 0, 1) := by decide +kernel
theorem dX10_vectors_2 : decode cX10_vectors 2 = .ok (.putfield 180, 3) := by decide +kernel
theorem dX10_vectors_5 : decode cX10_vectors 5 = .ok (.iconst 0, 1) := by decide +kernel
theorem dX10_vectors_6 : decode cX10_vectors 6 = .ok (.istore_n 2, 1) := by decide +kernel
theorem dX10_vectors_7 : decode cX10_vectors 7 = .ok (.iload_n 2, 1) := by decide +kernel
theorem dX10_vectors_8 : decode cX10_vectors 8 = .ok (.aload_n 0, 1) := by decide +kernel
theorem dX10_vectors_9 : decode cX10_vectors 9 = .ok (.getfield 9, 3) := by decide +kernel
theorem dX10_vectors_12 : decode cX10_vectors 12 = .ok (.iconst 0, 1) := by decide +kernel
theorem dX10_vectors_13 : decode cX10_vectors 13 = .ok (.iaload, 1) := by decide +kernel
theorem dX10_vectors_14 : decode cX10_vectors 14 = .ok (.if_icmp .ge 88, 3) := by decide +kernel
theorem dX10_vectors_17 : decode cX10_vectors 17 = .ok (.aload_n 0, 1) := by decide +kernel
theorem dX10_vectors_18 : decode cX10_vectors 18 = .ok (.iload_n 2, 1) := by decide +kernel
theorem dX10_vectors_19 : decode cX10_vectors 19 = .ok (.invokevirtual 100, 3) := by decide +kernel
theorem dX10_vectors_22 : decode cX10_vectors 22 = .ok (.ifCond .eq 74, 3) := by decide +kernel
theorem dX10_vectors_25 : decode cX10_vectors 25 = .ok (.aload_n 0, 1) := by decide +kernel
theorem dX10_vectors_26 : decode cX10_vectors 26 = .ok (.iload_n 2, 1) := by decide +kernel
theorem dX10_vectors_27 : decode cX10_vectors 27 = .ok (.iload_n 1, 1) := by decide +kernel
theorem dX10_vectors_28 : decode cX10_vectors 28 = .ok (.invokevirtual 132, 3) := by decide +kernel
theorem dX10_vectors_31 : decode cX10_vectors 31 = .ok (.istore_n 3, 1) := by decide +kernel
theorem dX10_vectors_32 : decode cX10_vectors 32 = .ok (.aload_n 0, 1) := by decide +kernel
theorem dX10_vectors_33 : decode cX10_vectors 33 = .ok (.getfield 180, 3) := by decide +kernel
theorem dX10_vectors_36 : decode cX10_vectors 36 = .ok (.istore 4, 2) := by decide +kernel
theorem dX10_vectors_38 : decode cX10_vectors 38 = .ok (.iload 4, 2) := by decide +kernel
theorem dX10_vectors_40 : decode cX10_vectors 40 = .ok (.ifCond .le 38, 3) := by decide +kernel
theorem dX10_vectors_43 : decode cX10_vectors 43 = .ok (.aload_n 0, 1) := by decide +kernel
theorem dX10_vectors_44 : decode cX10_vectors 44 = .ok (.getfield 35, 3) := by decide +kernel
theorem dX10_vectors_47 : decode cX10_vectors 47 = .ok (.iload 4, 2) := by decide +kernel
theorem dX10_vectors_49 : decode cX10_vectors 49 = .ok (.iconst 1, 1) := by decide +kernel
theorem dX10_vectors_50 : decode cX10_vectors 50 = .ok (.isub, 1) := by decide +kernel
theorem dX10_vectors_51 : decode cX10_vectors 51 = .ok (.iaload, 1) := by decide +kernel
theorem dX10_vectors_52 : decode cX10_vectors 52 = .ok (.iload_n 3, 1) := by decide +kernel
theorem dX10_vectors_53 : decode cX10_vectors 53 = .ok (.if_icmp .ge 25, 3) := by decide +kernel
theorem dX10_vectors_56 : decode cX10_vectors 56 = .ok (.aload_n 0, 1) := by decide +kernel
theorem dX10_vectors_57 : decode cX10_vectors 57 = .ok (.getfield 35, 3) := by decide +kernel
theorem dX10_vectors_60 : decode cX10_vectors 60 = .ok (.iload 4, 2) := by decide +kernel
theorem dX10_vectors_62 : decode cX10_vectors 62 = .ok (.aload_n 0, 1) := by decide +kernel
theorem dX10_vectors_63 : decode cX10_vectors 63 = .ok (.getfield 35, 3) := by decide +kernel
theorem dX10_vectors_66 : decode cX10_vectors 66 = .ok (.iload 4, 2) := by decide +kernel
theorem dX10_vectors_68 : decode cX10_vectors 68 = .ok (.iconst 1, 1) := by decide +kernel
theorem dX10_vectors_69 : decode cX10_vectors 69 = .ok (.isub, 1) := by decide +kernel
theorem dX10_vectors_70 : decode cX10_vectors 70 = .ok (.iaload, 1) := by decide +kernel
theorem dX10_vectors_71 : decode cX10_vectors 71 = .ok (.iastore, 1) := by decide +kernel
theorem dX10_vectors_72 : decode cX10_vectors 72 = .ok (.iinc 4 (-1), 3) := by decide +kernel
theorem dX10_vectors_75 : decode cX10_vectors 75 = .ok (.goto (-37), 3) := by decide +kernel
theorem dX10_vectors_78 : decode cX10_vectors 78 = .ok (.aload_n 0, 1) := by decide +kernel
theorem dX10_vectors_79 : decode cX10_vectors 79 = .ok (.getfield 35, 3) := by decide +kernel
theorem dX10_vectors_82 : decode cX10_vectors 82 = .ok (.iload 4, 2) := by decide +kernel
theorem dX10_vectors_84 : decode cX10_vectors 84 = .ok (.iload_n 3, 1) := by decide +kernel
theorem dX10_vectors_85 : decode cX10_vectors 85 = .ok (.iastore, 1) := by decide +kernel
theorem dX10_vectors_86 : decode cX10_vectors 86 = .ok (.aload_n 0, 1) := by decide +kernel
theorem dX10_vectors_87 : decode cX10_vectors 87 = .ok (.dup, 1) := by decide +kernel
theorem dX10_vectors_88 : decode cX10_vectors 88 = .ok (.getfield 180, 3) := by decide +kernel
theorem dX10_vectors_91 : decode cX10_vectors 91 = .ok (.iconst 1, 1) := by decide +kernel
theorem dX10_vectors_92 : decode cX10_vectors 92 = .ok (.iadd, 1) := by decide +kernel
theorem dX10_vectors_93 : decode cX10_vectors 93 = .ok (.putfield 180, 3) := by decide +kernel
theorem dX10_vectors_96 : decode cX10_vectors 96 = .ok (.iinc 2 1, 3) := by decide +kernel
theorem dX10_vectors_99 : decode cX10_vectors 99 = .ok (.goto (-92), 3) := by decide +kernel
theorem dX10_vectors_102 : decode cX10_vectors 102 = .ok (.return_, 1) := by decide +kernel
theorem dX10_load__0 : decode cX10_load_ 0 = .ok (.iload_n 1, 1) := by decide +kernel
theorem dX10_load__1 : decode cX10_load_ 1 = .ok (.invokestatic 117, 3) := by decide +kernel
theorem dX10_load__4 : decode cX10_load_ 4 = .ok (.ifCond .ne 5, 3) := by decide +kernel
theorem dX10_load__7 : decode cX10_load_ 7 = .ok (.iconst (-1), 1) := by decide +kernel
theorem dX10_load__8 : decode cX10_load_ 8 = .ok (.ireturn, 1) := by decide +kernel
theorem dX10_load__9 : decode cX10_load_ 9 = .ok (.aload_n 0, 1) := by decide +kernel
theorem dX10_load__10 : decode cX10_load_ 10 = .ok (.iload_n 1, 1) := by decide +kernel
theorem dX10_load__11 : decode cX10_load_ 11 = .ok (.invokevirtual 183, 3) := by decide +kernel
theorem dX10_load__14 : decode cX10_load_ 14 = .ok (.iload_n 2, 1) := by decide +kernel
theorem dX10_load__15 : decode cX10_load_ 15 = .ok (.i2l, 1) := by decide +kernel
theorem dX10_load__16 : decode cX10_load_ 16 = .ok (.lconst 0, 1) := by decide +kernel
theorem dX10_load__17 : decode cX10_load_ 17 = .ok (.aload_n 0, 1) := by decide +kernel
theorem dX10_load__18 : decode cX10_load_ 18 = .ok (.getfield 180, 3) := by decide +kernel
theorem dX10_load__21 : decode cX10_load_ 21 = .ok (.iconst 1, 1) := by decide +kernel
theorem dX10_load__22 : decode cX10_load_ 22 = .ok (.isub, 1) := by decide +kernel
theorem dX10_load__23 : decode cX10_load_ 23 = .ok (.i2l, 1) := by decide +kernel
theorem dX10_load__24 : decode cX10_load_ 24 = .ok (.invokestatic 68, 3) := by decide +kernel
theorem dX10_load__27 : decode cX10_load_ 27 = .ok (.ifCond .eq 12, 3) := by decide +kernel
theorem dX10_load__30 : decode cX10_load_ 30 = .ok (.aload_n 0, 1) := by decide +kernel
theorem dX10_load__31 : decode cX10_load_ 31 = .ok (.getfield 35, 3) := by decide +kernel
theorem dX10_load__34 : decode cX10_load_ 34 = .ok (.iload_n 2, 1) := by decide +kernel
theorem dX10_load__35 : decode cX10_load_ 35 = .ok (.iaload, 1) := by decide +kernel
theorem dX10_load__36 : decode cX10_load_ 36 = .ok (.goto 4, 3) := by decide +kernel
theorem dX10_load__39 : decode cX10_load_ 39 = .ok (.iconst (-1), 1) := by decide +kernel
theorem dX10_load__40 : decode cX10_load_ 40 = .ok (.ireturn, 1) := by decide +kernel
theorem dX10_isLesser_0 : decode cX10_isLesser 0 = .ok (.iconst 0, 1) := by decide +kernel
theorem dX10_isLesser_1 : decode cX10_isLesser 1 = .ok (.istore_n 2, 1) := by decide +kernel
theorem dX10_isLesser_2 : decode cX10_isLesser 2 = .ok (.iload_n 2, 1) := by decide +kernel
theorem dX10_isLesser_3 : decode cX10_isLesser 3 = .ok (.aload_n 0, 1) := by decide +kernel
theorem dX10_isLesser_4 : decode cX10_isLesser 4 = .ok (.getfield 9, 3) := by decide +kernel
theorem dX10_isLesser_7 : decode cX10_isLesser 7 = .ok (.iconst 0, 1) := by decide +kernel
theorem dX10_isLesser_8 : decode cX10_isLesser 8 = .ok (.iaload, 1) := by decide +kernel
theorem dX10_isLesser_9 : decode cX10_isLesser 9 = .ok (.if_icmp .ge 76, 3) := by decide +kernel
theorem dX10_isLesser_12 : decode cX10_isLesser 12 = .ok (.aload_n 0, 1) := by decide +kernel
theorem dX10_isLesser_13 : decode cX10_isLesser 13 = .ok (.iload_n 2, 1) := by decide +kernel
theorem dX10_isLesser_14 : decode cX10_isLesser 14 = .ok (.invokevirtual 100, 3) := by decide +kernel
theorem dX10_isLesser_17 : decode cX10_isLesser 17 = .ok (.ifCond .eq 62, 3) := by decide +kernel
theorem dX10_isLesser_20 : decode cX10_isLesser 20 = .ok (.aload_n 0, 1) := by decide +kernel
theorem dX10_isLesser_21 : decode cX10_isLesser 21 = .ok (.iload_n 2, 1) := by decide +kernel
theorem dX10_isLesser_22 : decode cX10_isLesser 22 = .ok (.iload_n 1, 1) := by decide +kernel
theorem dX10_isLesser_23 : decode cX10_isLesser 23 = .ok (.invokevirtual 86, 3) := by decide +kernel
theorem dX10_isLesser_26 : decode cX10_isLesser 26 = .ok (.ifCond .le 53, 3) := by decide +kernel
theorem dX10_isLesser_29 : decode cX10_isLesser 29 = .ok (.aload_n 0, 1) := by decide +kernel
theorem dX10_isLesser_30 : decode cX10_isLesser 30 = .ok (.invokevirtual 165, 3) := by decide +kernel
theorem dX10_isLesser_33 : decode cX10_isLesser 33 = .ok (.aload_n 0, 1) := by decide +kernel
theorem dX10_isLesser_34 : decode cX10_isLesser 34 = .ok (.iload_n 2, 1) := by decide +kernel
theorem dX10_isLesser_35 : decode cX10_isLesser 35 = .ok (.iconst (-1), 1) := by decide +kernel
theorem dX10_isLesser_36 : decode cX10_isLesser 36 = .ok (.invokevirtual 159, 3) := by decide +kernel
theorem dX10_isLesser_39 : decode cX10_isLesser 39 = .ok (.aload_n 0, 1) := by decide +kernel
theorem dX10_isLesser_40 : decode cX10_isLesser 40 = .ok (.iload_n 1, 1) := by decide +kernel
theorem dX10_isLesser_41 : decode cX10_isLesser 41 = .ok (.invokevirtual 168, 3) := by decide +kernel
theorem dX10_isLesser_44 : decode cX10_isLesser 44 = .ok (.aload_n 0, 1) := by decide +kernel
theorem dX10_isLesser_45 : decode cX10_isLesser 45 = .ok (.iload_n 1, 1) := by decide +kernel
theorem dX10_isLesser_46 : decode cX10_isLesser 46 = .ok (.invokevirtual 171, 3) := by decide +kernel
theorem dX10_isLesser_49 : decode cX10_isLesser 49 = .ok (.istore_n 3, 1) := by decide +kernel
theorem dX10_isLesser_50 : decode cX10_isLesser 50 = .ok (.aload_n 0, 1) := by decide +kernel
theorem dX10_isLesser_51 : decode cX10_isLesser 51 = .ok (.iload_n 3, 1) := by decide +kernel
theorem dX10_isLesser_52 : decode cX10_isLesser 52 = .ok (.iload_n 1, 1) := by decide +kernel
theorem dX10_isLesser_53 : decode cX10_isLesser 53 = .ok (.invokevirtual 132, 3) := by decide +kernel
theorem dX10_isLesser_56 : decode cX10_isLesser 56 = .ok (.aload_n 0, 1) := by decide +kernel
theorem dX10_isLesser_57 : decode cX10_isLesser 57 = .ok (.iload_n 2, 1) := by decide +kernel
theorem dX10_isLesser_58 : decode cX10_isLesser 58 = .ok (.iload_n 1, 1) := by decide +kernel
theorem dX10_isLesser_59 : decode cX10_isLesser 59 = .ok (.invokevirtual 132, 3) := by decide +kernel
theorem dX10_isLesser_62 : decode cX10_isLesser 62 = .ok (.iconst 2, 1) := by decide +kernel
theorem dX10_isLesser_63 : decode cX10_isLesser 63 = .ok (.isub, 1) := by decide +kernel
theorem dX10_isLesser_64 : decode cX10_isLesser 64 = .ok (.if_icmp .gt 15, 3) := by decide +kernel
theorem dX10_isLesser_67 : decode cX10_isLesser 67 = .ok (.aload_n 0, 1) := by decide +kernel
theorem dX10_isLesser_68 : decode cX10_isLesser 68 = .ok (.iload_n 2, 1) := by decide +kernel
theorem dX10_isLesser_69 : decode cX10_isLesser 69 = .ok (.putfield 186, 3) := by decide +kernel
theorem dX10_isLesser_72 : decode cX10_isLesser 72 = .ok (.aload_n 0, 1) := by decide +kernel
theorem dX10_isLesser_73 : decode cX10_isLesser 73 = .ok (.iload_n 3, 1) := by decide +kernel
theorem dX10_isLesser_74 : decode cX10_isLesser 74 = .ok (.putfield 189, 3) := by decide +kernel
theorem dX10_isLesser_77 : decode cX10_isLesser 77 = .ok (.iconst 1, 1) := by decide +kernel
theorem dX10_isLesser_78 : decode cX10_isLesser 78 = .ok (.ireturn, 1) := by decide +kernel
theorem dX10_isLesser_79 : decode cX10_isLesser 79 = .ok (.iinc 2 1, 3) := by decide +kernel
theorem dX10_isLesser_82 : decode cX10_isLesser 82 = .ok (.goto (-80), 3) := by decide +kernel
theorem dX10_isLesser_85 : decode cX10_isLesser 85 = .ok (.iconst 0, 1) := by decide +kernel
theorem dX10_isLesser_86 : decode cX10_isLesser 86 = .ok (.ireturn, 1) := by decide +kernel
theorem dX10_lesser_0 : decode cX10_lesser 0 = .ok (.iload_n 1, 1) := by decide +kernel
theorem dX10_lesser_1 : decode cX10_lesser 1 = .ok (.invokestatic 117, 3) := by decide +kernel
theorem dX10_lesser_4 : decode cX10_lesser 4 = .ok (.ifCond .eq 15, 3) := by decide +kernel
theorem dX10_lesser_7 : decode cX10_lesser 7 = .ok (.iload_n 2, 1) := by decide +kernel
theorem dX10_lesser_8 : decode cX10_lesser 8 = .ok (.i2l, 1) := by decide +kernel
theorem dX10_lesser_9 : decode cX10_lesser 9 = .ok (.lconst 0, 1) := by decide +kernel
theorem dX10_lesser_10 : decode cX10_lesser 10 = .ok (.ldc2_w 192, 3) := by decide +kernel
theorem dX10_lesser_13 : decode cX10_lesser 13 = .ok (.invokestatic 68, 3) := by decide +kernel
theorem dX10_lesser_16 : decode cX10_lesser 16 = .ok (.ifCond .ne 5, 3) := by decide +kernel
theorem dX10_lesser_19 : decode cX10_lesser 19 = .ok (.iconst (-1), 1) := by decide +kernel
theorem dX10_lesser_20 : decode cX10_lesser 20 = .ok (.ireturn, 1) := by decide +kernel
theorem dX10_lesser_21 : decode cX10_lesser 21 = .ok (.aload_n 0, 1) := by decide +kernel
theorem dX10_lesser_22 : decode cX10_lesser 22 = .ok (.iload_n 1, 1) := by decide +kernel
theorem dX10_lesser_23 : decode cX10_lesser 23 = .ok (.invokevirtual 194, 3) := by decide +kernel
theorem dX10_lesser_26 : decode cX10_lesser 26 = .ok (.istore_n 3, 1) := by decide +kernel
theorem dX10_lesser_27 : decode cX10_lesser 27 = .ok (.iload_n 2, 1) := by decide +kernel
theorem dX10_lesser_28 : decode cX10_lesser 28 = .ok (.ifCond .ne 15, 3) := by decide +kernel
theorem dX10_lesser_31 : decode cX10_lesser 31 = .ok (.iload_n 3, 1) := by decide +kernel
theorem dX10_lesser_32 : decode cX10_lesser 32 = .ok (.ifCond .eq 7, 3) := by decide +kernel
theorem dX10_lesser_35 : decode cX10_lesser 35 = .ok (.iconst 1, 1) := by decide +kernel
theorem dX10_lesser_36 : decode cX10_lesser 36 = .ok (.goto 32, 3) := by decide +kernel
theorem dX10_lesser_39 : decode cX10_lesser 39 = .ok (.iconst 0, 1) := by decide +kernel
theorem dX10_lesser_40 : decode cX10_lesser 40 = .ok (.goto 28, 3) := by decide +kernel
theorem dX10_lesser_43 : decode cX10_lesser 43 = .ok (.iload_n 3, 1) := by decide +kernel
theorem dX10_lesser_44 : decode cX10_lesser 44 = .ok (.ifCond .ne 8, 3) := by decide +kernel
theorem dX10_lesser_47 : decode cX10_lesser 47 = .ok (.bipush (-5), 2) := by decide +kernel
theorem dX10_lesser_49 : decode cX10_lesser 49 = .ok (.goto 19, 3) := by decide +kernel
theorem dX10_lesser_52 : decode cX10_lesser 52 = .ok (.iload_n 2, 1) := by decide +kernel
theorem dX10_lesser_53 : decode cX10_lesser 53 = .ok (.iconst 1, 1) := by decide +kernel
theorem dX10_lesser_54 : decode cX10_lesser 54 = .ok (.if_icmp .ne 10, 3) := by decide +kernel
theorem dX10_lesser_57 : decode cX10_lesser 57 = .ok (.aload_n 0, 1) := by decide +kernel
theorem dX10_lesser_58 : decode cX10_lesser 58 = .ok (.getfield 186, 3) := by decide +kernel
theorem dX10_lesser_61 : decode cX10_lesser 61 = .ok (.goto 7, 3) := by decide +kernel
theorem dX10_lesser_64 : decode cX10_lesser 64 = .ok (.aload_n 0, 1) := by decide +kernel
theorem dX10_lesser_65 : decode cX10_lesser 65 = .ok (.getfield 189, 3) := by decide +kernel
theorem dX10_lesser_68 : decode cX10_lesser 68 = .ok (.ireturn, 1) := by decide +kernel
theorem dX10_eases_0 : decode cX10_eases 0 = .ok (.iload_n 1, 1) := by decide +kernel
theorem dX10_eases_1 : decode cX10_eases 1 = .ok (.invokestatic 117, 3) := by decide +kernel
theorem dX10_eases_4 : decode cX10_eases 4 = .ok (.ifCond .ne 5, 3) := by decide +kernel
theorem dX10_eases_7 : decode cX10_eases 7 = .ok (.iconst (-1), 1) := by decide +kernel
theorem dX10_eases_8 : decode cX10_eases 8 = .ok (.ireturn, 1) := by decide +kernel
theorem dX10_eases_9 : decode cX10_eases 9 = .ok (.iconst 0, 1) := by decide +kernel
theorem dX10_eases_10 : decode cX10_eases 10 = .ok (.istore_n 2, 1) := by decide +kernel
theorem dX10_eases_11 : decode cX10_eases 11 = .ok (.aload_n 0, 1) := by decide +kernel
theorem dX10_eases_12 : decode cX10_eases 12 = .ok (.iload_n 1, 1) := by decide +kernel
theorem dX10_eases_13 : decode cX10_eases 13 = .ok (.invokevirtual 194, 3) := by decide +kernel
theorem dX10_eases_16 : decode cX10_eases 16 = .ok (.ifCond .eq 17, 3) := by decide +kernel
theorem dX10_eases_19 : decode cX10_eases 19 = .ok (.aload_n 0, 1) := by decide +kernel
theorem dX10_eases_20 : decode cX10_eases 20 = .ok (.aload_n 0, 1) := by decide +kernel
theorem dX10_eases_21 : decode cX10_eases 21 = .ok (.getfield 189, 3) := by decide +kernel
theorem dX10_eases_24 : decode cX10_eases 24 = .ok (.invokevirtual 174, 3) := by decide +kernel
theorem dX10_eases_27 : decode cX10_eases 27 = .ok (.iinc 2 1, 3) := by decide +kernel
theorem dX10_eases_30 : decode cX10_eases 30 = .ok (.goto (-19), 3) := by decide +kernel
theorem dX10_eases_33 : decode cX10_eases 33 = .ok (.iload_n 2, 1) := by decide +kernel
theorem dX10_eases_34 : decode cX10_eases 34 = .ok (.ireturn, 1) := by decide +kernel
theorem dX10_disliked_0 : decode cX10_disliked 0 = .ok (.iconst 0, 1) := by decide +kernel
theorem dX10_disliked_1 : decode cX10_disliked 1 = .ok (.istore_n 1, 1) := by decide +kernel
theorem dX10_disliked_2 : decode cX10_disliked 2 = .ok (.iconst 0, 1) := by decide +kernel
theorem dX10_disliked_3 : decode cX10_disliked 3 = .ok (.istore_n 2, 1) := by decide +kernel
theorem dX10_disliked_4 : decode cX10_disliked 4 = .ok (.iload_n 2, 1) := by decide +kernel
theorem dX10_disliked_5 : decode cX10_disliked 5 = .ok (.aload_n 0, 1) := by decide +kernel
theorem dX10_disliked_6 : decode cX10_disliked 6 = .ok (.getfield 9, 3) := by decide +kernel
theorem dX10_disliked_9 : decode cX10_disliked 9 = .ok (.iconst 2, 1) := by decide +kernel
theorem dX10_disliked_10 : decode cX10_disliked 10 = .ok (.iaload, 1) := by decide +kernel
theorem dX10_disliked_11 : decode cX10_disliked 11 = .ok (.if_icmp .ge 34, 3) := by decide +kernel
theorem dX10_disliked_14 : decode cX10_disliked 14 = .ok (.iload_n 1, 1) := by decide +kernel
theorem dX10_disliked_15 : decode cX10_disliked 15 = .ok (.aload_n 0, 1) := by decide +kernel
theorem dX10_disliked_16 : decode cX10_disliked 16 = .ok (.iload_n 2, 1) := by decide +kernel
theorem dX10_disliked_17 : decode cX10_disliked 17 = .ok (.invokevirtual 78, 3) := by decide +kernel
theorem dX10_disliked_20 : decode cX10_disliked 20 = .ok (.ifCond .lt 16, 3) := by decide +kernel
theorem dX10_disliked_23 : decode cX10_disliked 23 = .ok (.aload_n 0, 1) := by decide +kernel
theorem dX10_disliked_24 : decode cX10_disliked 24 = .ok (.aload_n 0, 1) := by decide +kernel
theorem dX10_disliked_25 : decode cX10_disliked 25 = .ok (.iload_n 2, 1) := by decide +kernel
theorem dX10_disliked_26 : decode cX10_disliked 26 = .ok (.invokevirtual 78, 3) := by decide +kernel
theorem dX10_disliked_29 : decode cX10_disliked 29 = .ok (.iload_n 2, 1) := by decide +kernel
theorem dX10_disliked_30 : decode cX10_disliked 30 = .ok (.invokevirtual 197, 3) := by decide +kernel
theorem dX10_disliked_33 : decode cX10_disliked 33 = .ok (.goto 4, 3) := by decide +kernel
theorem dX10_disliked_36 : decode cX10_disliked 36 = .ok (.iconst 0, 1) := by decide +kernel
theorem dX10_disliked_37 : decode cX10_disliked 37 = .ok (.iadd, 1) := by decide +kernel
theorem dX10_disliked_38 : decode cX10_disliked 38 = .ok (.istore_n 1, 1) := by decide +kernel
theorem dX10_disliked_39 : decode cX10_disliked 39 = .ok (.iinc 2 1, 3) := by decide +kernel
theorem dX10_disliked_42 : decode cX10_disliked 42 = .ok (.goto (-38), 3) := by decide +kernel
theorem dX10_disliked_45 : decode cX10_disliked 45 = .ok (.iload_n 1, 1) := by decide +kernel
theorem dX10_disliked_46 : decode cX10_disliked 46 = .ok (.ireturn, 1) := by decide +kernel
theorem dX10_follows_0 : decode cX10_follows 0 = .ok (.aload_n 0, 1) := by decide +kernel
theorem dX10_follows_1 : decode cX10_follows 1 = .ok (.iload_n 1, 1) := by decide +kernel
theorem dX10_follows_2 : decode cX10_follows 2 = .ok (.invokevirtual 78, 3) := by decide +kernel
theorem dX10_follows_5 : decode cX10_follows 5 = .ok (.ifCond .lt 41, 3) := by decide +kernel
theorem dX10_follows_8 : decode cX10_follows 8 = .ok (.aload_n 0, 1) := by decide +kernel
theorem dX10_follows_9 : decode cX10_follows 9 = .ok (.getfield 9, 3) := by decide +kernel
theorem dX10_follows_12 : decode cX10_follows 12 = .ok (.sipush 275, 3) := by decide +kernel
theorem dX10_follows_15 : decode cX10_follows 15 = .ok (.iload_n 1, 1) := by decide +kernel
theorem dX10_follows_16 : decode cX10_follows 16 = .ok (.iadd, 1) := by decide +kernel
theorem dX10_follows_17 : decode cX10_follows 17 = .ok (.iaload, 1) := by decide +kernel
theorem dX10_follows_18 : decode cX10_follows 18 = .ok (.aload_n 0, 1) := by decide +kernel
theorem dX10_follows_19 : decode cX10_follows 19 = .ok (.getfield 9, 3) := by decide +kernel
theorem dX10_follows_22 : decode cX10_follows 22 = .ok (.sipush 275, 3) := by decide +kernel
theorem dX10_follows_25 : decode cX10_follows 25 = .ok (.aload_n 0, 1) := by decide +kernel
theorem dX10_follows_26 : decode cX10_follows 26 = .ok (.getfield 38, 3) := by decide +kernel
theorem dX10_follows_29 : decode cX10_follows 29 = .ok (.iconst 0, 1) := by decide +kernel
theorem dX10_follows_30 : decode cX10_follows 30 = .ok (.iaload, 1) := by decide +kernel
theorem dX10_follows_31 : decode cX10_follows 31 = .ok (.iadd, 1) := by decide +kernel
theorem dX10_follows_32 : decode cX10_follows 32 = .ok (.iaload, 1) := by decide +kernel
theorem dX10_follows_33 : decode cX10_follows 33 = .ok (.if_icmp .ne 13, 3) := by decide +kernel
theorem dX10_follows_36 : decode cX10_follows 36 = .ok (.iload_n 1, 1) := by decide +kernel
theorem dX10_follows_37 : decode cX10_follows 37 = .ok (.aload_n 0, 1) := by decide +kernel
theorem dX10_follows_38 : decode cX10_follows 38 = .ok (.getfield 38, 3) := by decide +kernel
theorem dX10_follows_41 : decode cX10_follows 41 = .ok (.iconst 0, 1) := by decide +kernel
theorem dX10_follows_42 : decode cX10_follows 42 = .ok (.iaload, 1) := by decide +kernel
theorem dX10_follows_43 : decode cX10_follows 43 = .ok (.if_icmp .gt 5, 3) := by decide +kernel
theorem dX10_follows_46 : decode cX10_follows 46 = .ok (.iconst 0, 1) := by decide +kernel
theorem dX10_follows_47 : decode cX10_follows 47 = .ok (.ireturn, 1) := by decide +kernel
theorem dX10_follows_48 : decode cX10_follows 48 = .ok (.iconst 0, 1) := by decide +kernel
theorem dX10_follows_49 : decode cX10_follows 49 = .ok (.istore_n 3, 1) := by decide +kernel
theorem dX10_follows_50 : decode cX10_follows 50 = .ok (.iload_n 3, 1) := by decide +kernel
theorem dX10_follows_51 : decode cX10_follows 51 = .ok (.iload_n 2, 1) := by decide +kernel
theorem dX10_follows_52 : decode cX10_follows 52 = .ok (.if_icmp .ge 29, 3) := by decide +kernel
theorem dX10_follows_55 : decode cX10_follows 55 = .ok (.aload_n 0, 1) := by decide +kernel
theorem dX10_follows_56 : decode cX10_follows 56 = .ok (.aload_n 0, 1) := by decide +kernel
theorem dX10_follows_57 : decode cX10_follows 57 = .ok (.getfield 38, 3) := by decide +kernel
theorem dX10_follows_60 : decode cX10_follows 60 = .ok (.iload_n 3, 1) := by decide +kernel
theorem dX10_follows_61 : decode cX10_follows 61 = .ok (.iaload, 1) := by decide +kernel
theorem dX10_follows_62 : decode cX10_follows 62 = .ok (.invokevirtual 78, 3) := by decide +kernel
theorem dX10_follows_65 : decode cX10_follows 65 = .ok (.aload_n 0, 1) := by decide +kernel
theorem dX10_follows_66 : decode cX10_follows 66 = .ok (.iload_n 1, 1) := by decide +kernel
theorem dX10_follows_67 : decode cX10_follows 67 = .ok (.invokevirtual 78, 3) := by decide +kernel
theorem dX10_follows_70 : decode cX10_follows 70 = .ok (.if_icmp .ne 5, 3) := by decide +kernel
theorem dX10_follows_73 : decode cX10_follows 73 = .ok (.iconst 0, 1) := by decide +kernel
theorem dX10_follows_74 : decode cX10_follows 74 = .ok (.ireturn, 1) := by decide +kernel
theorem dX10_follows_75 : decode cX10_follows 75 = .ok (.iinc 3 1, 3) := by decide +kernel
theorem dX10_follows_78 : decode cX10_follows 78 = .ok (.goto (-28), 3) := by decide +kernel
theorem dX10_follows_81 : decode cX10_follows 81 = .ok (.aload_n 0, 1) := by decide +kernel
theorem dX10_follows_82 : decode cX10_follows 82 = .ok (.aload_n 0, 1) := by decide +kernel
theorem dX10_follows_83 : decode cX10_follows 83 = .ok (.iload_n 1, 1) := by decide +kernel
theorem dX10_follows_84 : decode cX10_follows 84 = .ok (.invokevirtual 78, 3) := by decide +kernel
theorem dX10_follows_87 : decode cX10_follows 87 = .ok (.aload_n 0, 1) := by decide +kernel
theorem dX10_follows_88 : decode cX10_follows 88 = .ok (.getfield 38, 3) := by decide +kernel
theorem dX10_follows_91 : decode cX10_follows 91 = .ok (.iload_n 2, 1) := by decide +kernel
theorem dX10_follows_92 : decode cX10_follows 92 = .ok (.iconst 1, 1) := by decide +kernel
theorem dX10_follows_93 : decode cX10_follows 93 = .ok (.isub, 1) := by decide +kernel
theorem dX10_follows_94 : decode cX10_follows 94 = .ok (.iaload, 1) := by decide +kernel
theorem dX10_follows_95 : decode cX10_follows 95 = .ok (.invokevirtual 113, 3) := by decide +kernel
theorem dX10_follows_98 : decode cX10_follows 98 = .ok (.ireturn, 1) := by decide +kernel
theorem dX10_gainOf_0 : decode cX10_gainOf 0 = .ok (.iconst 0, 1) := by decide +kernel
theorem dX10_gainOf_1 : decode cX10_gainOf 1 = .ok (.istore_n 2, 1) := by decide +kernel
theorem dX10_gainOf_2 : decode cX10_gainOf 2 = .ok (.iconst 0, 1) := by decide +kernel
theorem dX10_gainOf_3 : decode cX10_gainOf 3 = .ok (.istore_n 3, 1) := by decide +kernel
theorem dX10_gainOf_4 : decode cX10_gainOf 4 = .ok (.iload_n 3, 1) := by decide +kernel
theorem dX10_gainOf_5 : decode cX10_gainOf 5 = .ok (.iload_n 1, 1) := by decide +kernel
theorem dX10_gainOf_6 : decode cX10_gainOf 6 = .ok (.if_icmp .ge 61, 3) := by decide +kernel
theorem dX10_gainOf_9 : decode cX10_gainOf 9 = .ok (.aload_n 0, 1) := by decide +kernel
theorem dX10_gainOf_10 : decode cX10_gainOf 10 = .ok (.aload_n 0, 1) := by decide +kernel
theorem dX10_gainOf_11 : decode cX10_gainOf 11 = .ok (.getfield 38, 3) := by decide +kernel
theorem dX10_gainOf_14 : decode cX10_gainOf 14 = .ok (.iload_n 3, 1) := by decide +kernel
theorem dX10_gainOf_15 : decode cX10_gainOf 15 = .ok (.iaload, 1) := by decide +kernel
theorem dX10_gainOf_16 : decode cX10_gainOf 16 = .ok (.invokevirtual 78, 3) := by decide +kernel
theorem dX10_gainOf_19 : decode cX10_gainOf 19 = .ok (.istore 4, 2) := by decide +kernel
theorem dX10_gainOf_21 : decode cX10_gainOf 21 = .ok (.iload_n 2, 1) := by decide +kernel
theorem dX10_gainOf_22 : decode cX10_gainOf 22 = .ok (.aload_n 0, 1) := by decide +kernel
theorem dX10_gainOf_23 : decode cX10_gainOf 23 = .ok (.iload 4, 2) := by decide +kernel
theorem dX10_gainOf_25 : decode cX10_gainOf 25 = .ok (.aload_n 0, 1) := by decide +kernel
theorem dX10_gainOf_26 : decode cX10_gainOf 26 = .ok (.getfield 38, 3) := by decide +kernel
theorem dX10_gainOf_29 : decode cX10_gainOf 29 = .ok (.iload_n 3, 1) := by decide +kernel
theorem dX10_gainOf_30 : decode cX10_gainOf 30 = .ok (.iaload, 1) := by decide +kernel
theorem dX10_gainOf_31 : decode cX10_gainOf 31 = .ok (.invokevirtual 197, 3) := by decide +kernel
theorem dX10_gainOf_34 : decode cX10_gainOf 34 = .ok (.aload_n 0, 1) := by decide +kernel
theorem dX10_gainOf_35 : decode cX10_gainOf 35 = .ok (.iload 4, 2) := by decide +kernel
theorem dX10_gainOf_37 : decode cX10_gainOf 37 = .ok (.aload_n 0, 1) := by decide +kernel
theorem dX10_gainOf_38 : decode cX10_gainOf 38 = .ok (.getfield 38, 3) := by decide +kernel
theorem dX10_gainOf_41 : decode cX10_gainOf 41 = .ok (.iload_n 3, 1) := by decide +kernel
theorem dX10_gainOf_42 : decode cX10_gainOf 42 = .ok (.ifCond .ne 9, 3) := by decide +kernel
theorem dX10_gainOf_45 : decode cX10_gainOf 45 = .ok (.iload_n 1, 1) := by decide +kernel
theorem dX10_gainOf_46 : decode cX10_gainOf 46 = .ok (.iconst 1, 1) := by decide +kernel
theorem dX10_gainOf_47 : decode cX10_gainOf 47 = .ok (.isub, 1) := by decide +kernel
theorem dX10_gainOf_48 : decode cX10_gainOf 48 = .ok (.goto 6, 3) := by decide +kernel
theorem dX10_gainOf_51 : decode cX10_gainOf 51 = .ok (.iload_n 3, 1) := by decide +kernel
theorem dX10_gainOf_52 : decode cX10_gainOf 52 = .ok (.iconst 1, 1) := by decide +kernel
theorem dX10_gainOf_53 : decode cX10_gainOf 53 = .ok (.isub, 1) := by decide +kernel
theorem dX10_gainOf_54 : decode cX10_gainOf 54 = .ok (.iaload, 1) := by decide +kernel
theorem dX10_gainOf_55 : decode cX10_gainOf 55 = .ok (.invokevirtual 197, 3) := by decide +kernel
theorem dX10_gainOf_58 : decode cX10_gainOf 58 = .ok (.isub, 1) := by decide +kernel
theorem dX10_gainOf_59 : decode cX10_gainOf 59 = .ok (.iadd, 1) := by decide +kernel
theorem dX10_gainOf_60 : decode cX10_gainOf 60 = .ok (.istore_n 2, 1) := by decide +kernel
theorem dX10_gainOf_61 : decode cX10_gainOf 61 = .ok (.iinc 3 1, 3) := by decide +kernel
theorem dX10_gainOf_64 : decode cX10_gainOf 64 = .ok (.goto (-60), 3) := by decide +kernel
theorem dX10_gainOf_67 : decode cX10_gainOf 67 = .ok (.iload_n 2, 1) := by decide +kernel
theorem dX10_gainOf_68 : decode cX10_gainOf 68 = .ok (.ireturn, 1) := by decide +kernel
theorem dX10_looksAt_0 : decode cX10_looksAt 0 = .ok (.aload_n 0, 1) := by decide +kernel
theorem dX10_looksAt_1 : decode cX10_looksAt 1 = .ok (.aload_n 0, 1) := by decide +kernel
theorem dX10_looksAt_2 : decode cX10_looksAt 2 = .ok (.aload_n 0, 1) := by decide +kernel
theorem dX10_looksAt_3 : decode cX10_looksAt 3 = .ok (.getfield 38, 3) := by decide +kernel
theorem dX10_looksAt_6 : decode cX10_looksAt 6 = .ok (.iconst 0, 1) := by decide +kernel
theorem dX10_looksAt_7 : decode cX10_looksAt 7 = .ok (.iaload, 1) := by decide +kernel
theorem dX10_looksAt_8 : decode cX10_looksAt 8 = .ok (.invokevirtual 78, 3) := by decide +kernel
theorem dX10_looksAt_11 : decode cX10_looksAt 11 = .ok (.aload_n 0, 1) := by decide +kernel
theorem dX10_looksAt_12 : decode cX10_looksAt 12 = .ok (.getfield 38, 3) := by decide +kernel
theorem dX10_looksAt_15 : decode cX10_looksAt 15 = .ok (.iload_n 1, 1) := by decide +kernel
theorem dX10_looksAt_16 : decode cX10_looksAt 16 = .ok (.iconst 1, 1) := by decide +kernel
theorem dX10_looksAt_17 : decode cX10_looksAt 17 = .ok (.isub, 1) := by decide +kernel
theorem dX10_looksAt_18 : decode cX10_looksAt 18 = .ok (.iaload, 1) := by decide +kernel
theorem dX10_looksAt_19 : decode cX10_looksAt 19 = .ok (.invokevirtual 113, 3) := by decide +kernel
theorem dX10_looksAt_22 : decode cX10_looksAt 22 = .ok (.ifCond .eq 54, 3) := by decide +kernel
theorem dX10_looksAt_25 : decode cX10_looksAt 25 = .ok (.aload_n 0, 1) := by decide +kernel
theorem dX10_looksAt_26 : decode cX10_looksAt 26 = .ok (.iload_n 1, 1) := by decide +kernel
theorem dX10_looksAt_27 : decode cX10_looksAt 27 = .ok (.invokevirtual 200, 3) := by decide +kernel
theorem dX10_looksAt_30 : decode cX10_looksAt 30 = .ok (.aload_n 0, 1) := by decide +kernel
theorem dX10_looksAt_31 : decode cX10_looksAt 31 = .ok (.getfield 203, 3) := by decide +kernel
theorem dX10_looksAt_34 : decode cX10_looksAt 34 = .ok (.if_icmp .le 42, 3) := by decide +kernel
theorem dX10_looksAt_37 : decode cX10_looksAt 37 = .ok (.aload_n 0, 1) := by decide +kernel
theorem dX10_looksAt_38 : decode cX10_looksAt 38 = .ok (.aload_n 0, 1) := by decide +kernel
theorem dX10_looksAt_39 : decode cX10_looksAt 39 = .ok (.iload_n 1, 1) := by decide +kernel
theorem dX10_looksAt_40 : decode cX10_looksAt 40 = .ok (.invokevirtual 200, 3) := by decide +kernel
theorem dX10_looksAt_43 : decode cX10_looksAt 43 = .ok (.putfield 203, 3) := by decide +kernel
theorem dX10_looksAt_46 : decode cX10_looksAt 46 = .ok (.aload_n 0, 1) := by decide +kernel
theorem dX10_looksAt_47 : decode cX10_looksAt 47 = .ok (.iload_n 1, 1) := by decide +kernel
theorem dX10_looksAt_48 : decode cX10_looksAt 48 = .ok (.putfield 206, 3) := by decide +kernel
theorem dX10_looksAt_51 : decode cX10_looksAt 51 = .ok (.iconst 0, 1) := by decide +kernel
theorem dX10_looksAt_52 : decode cX10_looksAt 52 = .ok (.istore_n 2, 1) := by decide +kernel
theorem dX10_looksAt_53 : decode cX10_looksAt 53 = .ok (.iload_n 2, 1) := by decide +kernel
theorem dX10_looksAt_54 : decode cX10_looksAt 54 = .ok (.iload_n 1, 1) := by decide +kernel
theorem dX10_looksAt_55 : decode cX10_looksAt 55 = .ok (.if_icmp .ge 21, 3) := by decide +kernel
theorem dX10_looksAt_58 : decode cX10_looksAt 58 = .ok (.aload_n 0, 1) := by decide +kernel
theorem dX10_looksAt_59 : decode cX10_looksAt 59 = .ok (.getfield 41, 3) := by decide +kernel
theorem dX10_looksAt_62 : decode cX10_looksAt 62 = .ok (.iload_n 2, 1) := by decide +kernel
theorem dX10_looksAt_63 : decode cX10_looksAt 63 = .ok (.aload_n 0, 1) := by decide +kernel
theorem dX10_looksAt_64 : decode cX10_looksAt 64 = .ok (.getfield 38, 3) := by decide +kernel
theorem dX10_looksAt_67 : decode cX10_looksAt 67 = .ok (.iload_n 2, 1) := by decide +kernel
theorem dX10_looksAt_68 : decode cX10_looksAt 68 = .ok (.iaload, 1) := by decide +kernel
theorem dX10_looksAt_69 : decode cX10_looksAt 69 = .ok (.iastore, 1) := by decide +kernel
theorem dX10_looksAt_70 : decode cX10_looksAt 70 = .ok (.iinc 2 1, 3) := by decide +kernel
theorem dX10_looksAt_73 : decode cX10_looksAt 73 = .ok (.goto (-20), 3) := by decide +kernel
theorem dX10_looksAt_76 : decode cX10_looksAt 76 = .ok (.return_, 1) := by decide +kernel
theorem dX10_ringsOn_0 : decode cX10_ringsOn 0 = .ok (.iload_n 1, 1) := by decide +kernel
theorem dX10_ringsOn_1 : decode cX10_ringsOn 1 = .ok (.iload_n 2, 1) := by decide +kernel
theorem dX10_ringsOn_2 : decode cX10_ringsOn 2 = .ok (.if_icmp .ne 9, 3) := by decide +kernel
theorem dX10_ringsOn_5 : decode cX10_ringsOn 5 = .ok (.aload_n 0, 1) := by decide +kernel
theorem dX10_ringsOn_6 : decode cX10_ringsOn 6 = .ok (.iload_n 2, 1) := by decide +kernel
theorem dX10_ringsOn_7 : decode cX10_ringsOn 7 = .ok (.invokevirtual 209, 3) := by decide +kernel
theorem dX10_ringsOn_10 : decode cX10_ringsOn 10 = .ok (.return_, 1) := by decide +kernel
theorem dX10_ringsOn_11 : decode cX10_ringsOn 11 = .ok (.iconst 0, 1) := by decide +kernel
theorem dX10_ringsOn_12 : decode cX10_ringsOn 12 = .ok (.istore_n 3, 1) := by decide +kernel
theorem dX10_ringsOn_13 : decode cX10_ringsOn 13 = .ok (.iload_n 3, 1) := by decide +kernel
theorem dX10_ringsOn_14 : decode cX10_ringsOn 14 = .ok (.aload_n 0, 1) := by decide +kernel
theorem dX10_ringsOn_15 : decode cX10_ringsOn 15 = .ok (.getfield 9, 3) := by decide +kernel
theorem dX10_ringsOn_18 : decode cX10_ringsOn 18 = .ok (.iconst 2, 1) := by decide +kernel
theorem dX10_ringsOn_19 : decode cX10_ringsOn 19 = .ok (.iaload, 1) := by decide +kernel
theorem dX10_ringsOn_20 : decode cX10_ringsOn 20 = .ok (.if_icmp .ge 33, 3) := by decide +kernel
theorem dX10_ringsOn_23 : decode cX10_ringsOn 23 = .ok (.aload_n 0, 1) := by decide +kernel
theorem dX10_ringsOn_24 : decode cX10_ringsOn 24 = .ok (.iload_n 3, 1) := by decide +kernel
theorem dX10_ringsOn_25 : decode cX10_ringsOn 25 = .ok (.iload_n 1, 1) := by decide +kernel
theorem dX10_ringsOn_26 : decode cX10_ringsOn 26 = .ok (.invokevirtual 212, 3) := by decide +kernel
theorem dX10_ringsOn_29 : decode cX10_ringsOn 29 = .ok (.ifCond .eq 18, 3) := by decide +kernel
theorem dX10_ringsOn_32 : decode cX10_ringsOn 32 = .ok (.aload_n 0, 1) := by decide +kernel
theorem dX10_ringsOn_33 : decode cX10_ringsOn 33 = .ok (.getfield 38, 3) := by decide +kernel
theorem dX10_ringsOn_36 : decode cX10_ringsOn 36 = .ok (.iload_n 1, 1) := by decide +kernel
theorem dX10_ringsOn_37 : decode cX10_ringsOn 37 = .ok (.iload_n 3, 1) := by decide +kernel
theorem dX10_ringsOn_38 : decode cX10_ringsOn 38 = .ok (.iastore, 1) := by decide +kernel
theorem dX10_ringsOn_39 : decode cX10_ringsOn 39 = .ok (.aload_n 0, 1) := by decide +kernel
theorem dX10_ringsOn_40 : decode cX10_ringsOn 40 = .ok (.iload_n 1, 1) := by decide +kernel
theorem dX10_ringsOn_41 : decode cX10_ringsOn 41 = .ok (.iconst 1, 1) := by decide +kernel
theorem dX10_ringsOn_42 : decode cX10_ringsOn 42 = .ok (.iadd, 1) := by decide +kernel
theorem dX10_ringsOn_43 : decode cX10_ringsOn 43 = .ok (.iload_n 2, 1) := by decide +kernel
theorem dX10_ringsOn_44 : decode cX10_ringsOn 44 = .ok (.invokevirtual 215, 3) := by decide +kernel
theorem dX10_ringsOn_47 : decode cX10_ringsOn 47 = .ok (.iinc 3 1, 3) := by decide +kernel
theorem dX10_ringsOn_50 : decode cX10_ringsOn 50 = .ok (.goto (-37), 3) := by decide +kernel
theorem dX10_ringsOn_53 : decode cX10_ringsOn 53 = .ok (.return_, 1) := by decide +kernel
theorem dX10_findsRing_0 : decode cX10_findsRing 0 = .ok (.aload_n 0, 1) := by decide +kernel
theorem dX10_findsRing_1 : decode cX10_findsRing 1 = .ok (.iconst 0, 1) := by decide +kernel
theorem dX10_findsRing_2 : decode cX10_findsRing 2 = .ok (.putfield 206, 3) := by decide +kernel
theorem dX10_findsRing_5 : decode cX10_findsRing 5 = .ok (.aload_n 0, 1) := by decide +kernel
theorem dX10_findsRing_6 : decode cX10_findsRing 6 = .ok (.iconst 0, 1) := by decide +kernel
theorem dX10_findsRing_7 : decode cX10_findsRing 7 = .ok (.putfield 203, 3) := by decide +kernel
theorem dX10_findsRing_10 : decode cX10_findsRing 10 = .ok (.iconst 2, 1) := by decide +kernel
theorem dX10_findsRing_11 : decode cX10_findsRing 11 = .ok (.istore_n 1, 1) := by decide +kernel
theorem dX10_findsRing_12 : decode cX10_findsRing 12 = .ok (.iload_n 1, 1) := by decide +kernel
theorem dX10_findsRing_13 : decode cX10_findsRing 13 = .ok (.iconst 4, 1) := by decide +kernel
theorem dX10_findsRing_14 : decode cX10_findsRing 14 = .ok (.if_icmp .gt 48, 3) := by decide +kernel
theorem dX10_findsRing_17 : decode cX10_findsRing 17 = .ok (.iconst 0, 1) := by decide +kernel
theorem dX10_findsRing_18 : decode cX10_findsRing 18 = .ok (.istore_n 2, 1) := by decide +kernel
theorem dX10_findsRing_19 : decode cX10_findsRing 19 = .ok (.iload_n 2, 1) := by decide +kernel
theorem dX10_findsRing_20 : decode cX10_findsRing 20 = .ok (.aload_n 0, 1) := by decide +kernel
theorem dX10_findsRing_21 : decode cX10_findsRing 21 = .ok (.getfield 9, 3) := by decide +kernel
theorem dX10_findsRing_24 : decode cX10_findsRing 24 = .ok (.iconst 2, 1) := by decide +kernel
theorem dX10_findsRing_25 : decode cX10_findsRing 25 = .ok (.iaload, 1) := by decide +kernel
theorem dX10_findsRing_26 : decode cX10_findsRing 26 = .ok (.if_icmp .ge 30, 3) := by decide +kernel
theorem dX10_findsRing_29 : decode cX10_findsRing 29 = .ok (.aload_n 0, 1) := by decide +kernel
theorem dX10_findsRing_30 : decode cX10_findsRing 30 = .ok (.iload_n 2, 1) := by decide +kernel
theorem dX10_findsRing_31 : decode cX10_findsRing 31 = .ok (.invokevirtual 78, 3) := by decide +kernel
theorem dX10_findsRing_34 : decode cX10_findsRing 34 = .ok (.ifCond .lt 16, 3) := by decide +kernel
theorem dX10_findsRing_37 : decode cX10_findsRing 37 = .ok (.aload_n 0, 1) := by decide +kernel
theorem dX10_findsRing_38 : decode cX10_findsRing 38 = .ok (.getfield 38, 3) := by decide +kernel
theorem dX10_findsRing_41 : decode cX10_findsRing 41 = .ok (.iconst 0, 1) := by decide +kernel
theorem dX10_findsRing_42 : decode cX10_findsRing 42 = .ok (.iload_n 2, 1) := by decide +kernel
theorem dX10_findsRing_43 : decode cX10_findsRing 43 = .ok (.iastore, 1) := by decide +kernel
theorem dX10_findsRing_44 : decode cX10_findsRing 44 = .ok (.aload_n 0, 1) := by decide +kernel
theorem dX10_findsRing_45 : decode cX10_findsRing 45 = .ok (.iconst 1, 1) := by decide +kernel
theorem dX10_findsRing_46 : decode cX10_findsRing 46 = .ok (.iload_n 1, 1) := by decide +kernel
theorem dX10_findsRing_47 : decode cX10_findsRing 47 = .ok (.invokevirtual 215, 3) := by decide +kernel
theorem dX10_findsRing_50 : decode cX10_findsRing 50 = .ok (.iinc 2 1, 3) := by decide +kernel
theorem dX10_findsRing_53 : decode cX10_findsRing 53 = .ok (.goto (-34), 3) := by decide +kernel
theorem dX10_findsRing_56 : decode cX10_findsRing 56 = .ok (.iinc 1 1, 3) := by decide +kernel
theorem dX10_findsRing_59 : decode cX10_findsRing 59 = .ok (.goto (-47), 3) := by decide +kernel
theorem dX10_findsRing_62 : decode cX10_findsRing 62 = .ok (.return_, 1) := by decide +kernel
theorem dX10_ring_0 : decode cX10_ring 0 = .ok (.iload_n 1, 1) := by decide +kernel
theorem dX10_ring_1 : decode cX10_ring 1 = .ok (.i2l, 1) := by decide +kernel
theorem dX10_ring_2 : decode cX10_ring 2 = .ok (.lconst 0, 1) := by decide +kernel
theorem dX10_ring_3 : decode cX10_ring 3 = .ok (.lconst 1, 1) := by decide +kernel
theorem dX10_ring_4 : decode cX10_ring 4 = .ok (.invokestatic 68, 3) := by decide +kernel
theorem dX10_ring_7 : decode cX10_ring 7 = .ok (.ifCond .ne 19, 3) := by decide +kernel
theorem dX10_ring_10 : decode cX10_ring 10 = .ok (.iload_n 1, 1) := by decide +kernel
theorem dX10_ring_11 : decode cX10_ring 11 = .ok (.i2l, 1) := by decide +kernel
theorem dX10_ring_12 : decode cX10_ring 12 = .ok (.ldc2_w 128, 3) := by decide +kernel
theorem dX10_ring_15 : decode cX10_ring 15 = .ok (.ldc2_w 218, 3) := by decide +kernel
theorem dX10_ring_18 : decode cX10_ring 18 = .ok (.invokestatic 68, 3) := by decide +kernel
theorem dX10_ring_21 : decode cX10_ring 21 = .ok (.ifCond .ne 5, 3) := by decide +kernel
theorem dX10_ring_24 : decode cX10_ring 24 = .ok (.iconst (-1), 1) := by decide +kernel
theorem dX10_ring_25 : decode cX10_ring 25 = .ok (.ireturn, 1) := by decide +kernel
theorem dX10_ring_26 : decode cX10_ring 26 = .ok (.aload_n 0, 1) := by decide +kernel
theorem dX10_ring_27 : decode cX10_ring 27 = .ok (.invokevirtual 220, 3) := by decide +kernel
theorem dX10_ring_30 : decode cX10_ring 30 = .ok (.aload_n 0, 1) := by decide +kernel
theorem dX10_ring_31 : decode cX10_ring 31 = .ok (.getfield 206, 3) := by decide +kernel
theorem dX10_ring_34 : decode cX10_ring 34 = .ok (.ifCond .ne 6, 3) := by decide +kernel
theorem dX10_ring_37 : decode cX10_ring 37 = .ok (.bipush (-5), 2) := by decide +kernel
theorem dX10_ring_39 : decode cX10_ring 39 = .ok (.ireturn, 1) := by decide +kernel
theorem dX10_ring_40 : decode cX10_ring 40 = .ok (.iload_n 1, 1) := by decide +kernel
theorem dX10_ring_41 : decode cX10_ring 41 = .ok (.ifCond .ne 10, 3) := by decide +kernel
theorem dX10_ring_44 : decode cX10_ring 44 = .ok (.aload_n 0, 1) := by decide +kernel
theorem dX10_ring_45 : decode cX10_ring 45 = .ok (.getfield 203, 3) := by decide +kernel
theorem dX10_ring_48 : decode cX10_ring 48 = .ok (.goto 39, 3) := by decide +kernel
theorem dX10_ring_51 : decode cX10_ring 51 = .ok (.iload_n 1, 1) := by decide +kernel
theorem dX10_ring_52 : decode cX10_ring 52 = .ok (.iconst 1, 1) := by decide +kernel
theorem dX10_ring_53 : decode cX10_ring 53 = .ok (.if_icmp .ne 10, 3) := by decide +kernel
theorem dX10_ring_56 : decode cX10_ring 56 = .ok (.aload_n 0, 1) := by decide +kernel
theorem dX10_ring_57 : decode cX10_ring 57 = .ok (.getfield 206, 3) := by decide +kernel
theorem dX10_ring_60 : decode cX10_ring 60 = .ok (.goto 27, 3) := by decide +kernel
theorem dX10_ring_63 : decode cX10_ring 63 = .ok (.iload_n 1, 1) := by decide +kernel
theorem dX10_ring_64 : decode cX10_ring 64 = .ok (.bipush 10, 2) := by decide +kernel
theorem dX10_ring_66 : decode cX10_ring 66 = .ok (.isub, 1) := by decide +kernel
theorem dX10_ring_67 : decode cX10_ring 67 = .ok (.aload_n 0, 1) := by decide +kernel
theorem dX10_ring_68 : decode cX10_ring 68 = .ok (.getfield 206, 3) := by decide +kernel
theorem dX10_ring_71 : decode cX10_ring 71 = .ok (.if_icmp .ge 15, 3) := by decide +kernel
theorem dX10_ring_74 : decode cX10_ring 74 = .ok (.aload_n 0, 1) := by decide +kernel
theorem dX10_ring_75 : decode cX10_ring 75 = .ok (.getfield 41, 3) := by decide +kernel
theorem dX10_ring_78 : decode cX10_ring 78 = .ok (.iload_n 1, 1) := by decide +kernel
theorem dX10_ring_79 : decode cX10_ring 79 = .ok (.bipush 10, 2) := by decide +kernel
theorem dX10_ring_81 : decode cX10_ring 81 = .ok (.isub, 1) := by decide +kernel
theorem dX10_ring_82 : decode cX10_ring 82 = .ok (.iaload, 1) := by decide +kernel
theorem dX10_ring_83 : decode cX10_ring 83 = .ok (.goto 4, 3) := by decide +kernel
theorem dX10_ring_86 : decode cX10_ring 86 = .ok (.iconst (-1), 1) := by decide +kernel
theorem dX10_ring_87 : decode cX10_ring 87 = .ok (.ireturn, 1) := by decide +kernel
theorem dX10_doesRing_0 : decode cX10_doesRing 0 = .ok (.aload_n 0, 1) := by decide +kernel
theorem dX10_doesRing_1 : decode cX10_doesRing 1 = .ok (.aload_n 0, 1) := by decide +kernel
theorem dX10_doesRing_2 : decode cX10_doesRing 2 = .ok (.getfield 41, 3) := by decide +kernel
theorem dX10_doesRing_5 : decode cX10_doesRing 5 = .ok (.iconst 0, 1) := by decide +kernel
theorem dX10_doesRing_6 : decode cX10_doesRing 6 = .ok (.iaload, 1) := by decide +kernel
theorem dX10_doesRing_7 : decode cX10_doesRing 7 = .ok (.invokevirtual 78, 3) := by decide +kernel
theorem dX10_doesRing_10 : decode cX10_doesRing 10 = .ok (.istore_n 1, 1) := by decide +kernel
theorem dX10_doesRing_11 : decode cX10_doesRing 11 = .ok (.iconst 0, 1) := by decide +kernel
theorem dX10_doesRing_12 : decode cX10_doesRing 12 = .ok (.istore_n 2, 1) := by decide +kernel
theorem dX10_doesRing_13 : decode cX10_doesRing 13 = .ok (.iload_n 2, 1) := by decide +kernel
theorem dX10_doesRing_14 : decode cX10_doesRing 14 = .ok (.aload_n 0, 1) := by decide +kernel
theorem dX10_doesRing_15 : decode cX10_doesRing 15 = .ok (.getfield 206, 3) := by decide +kernel
theorem dX10_doesRing_18 : decode cX10_doesRing 18 = .ok (.iconst 1, 1) := by decide +kernel
theorem dX10_doesRing_19 : decode cX10_doesRing 19 = .ok (.isub, 1) := by decide +kernel
theorem dX10_doesRing_20 : decode cX10_doesRing 20 = .ok (.if_icmp .ge 36, 3) := by decide +kernel
theorem dX10_doesRing_23 : decode cX10_doesRing 23 = .ok (.aload_n 0, 1) := by decide +kernel
theorem dX10_doesRing_24 : decode cX10_doesRing 24 = .ok (.getfield 9, 3) := by decide +kernel
theorem dX10_doesRing_27 : decode cX10_doesRing 27 = .ok (.sipush 299, 3) := by decide +kernel
theorem dX10_doesRing_30 : decode cX10_doesRing 30 = .ok (.aload_n 0, 1) := by decide +kernel
theorem dX10_doesRing_31 : decode cX10_doesRing 31 = .ok (.getfield 41, 3) := by decide +kernel
theorem dX10_doesRing_34 : decode cX10_doesRing 34 = .ok (.iload_n 2, 1) := by decide +kernel
theorem dX10_doesRing_35 : decode cX10_doesRing 35 = .ok (.iaload, 1) := by decide +kernel
theorem dX10_doesRing_36 : decode cX10_doesRing 36 = .ok (.iadd, 1) := by decide +kernel
theorem dX10_doesRing_37 : decode cX10_doesRing 37 = .ok (.aload_n 0, 1) := by decide +kernel
theorem dX10_doesRing_38 : decode cX10_doesRing 38 = .ok (.aload_n 0, 1) := by decide +kernel
theorem dX10_doesRing_39 : decode cX10_doesRing 39 = .ok (.getfield 41, 3) := by decide +kernel
theorem dX10_doesRing_42 : decode cX10_doesRing 42 = .ok (.iload_n 2, 1) := by decide +kernel
theorem dX10_doesRing_43 : decode cX10_doesRing 43 = .ok (.iconst 1, 1) := by decide +kernel
theorem dX10_doesRing_44 : decode cX10_doesRing 44 = .ok (.iadd, 1) := by decide +kernel
theorem dX10_doesRing_45 : decode cX10_doesRing 45 = .ok (.iaload, 1) := by decide +kernel
theorem dX10_doesRing_46 : decode cX10_doesRing 46 = .ok (.invokevirtual 78, 3) := by decide +kernel
theorem dX10_doesRing_49 : decode cX10_doesRing 49 = .ok (.iastore, 1) := by decide +kernel
theorem dX10_doesRing_50 : decode cX10_doesRing 50 = .ok (.iinc 2 1, 3) := by decide +kernel
theorem dX10_doesRing_53 : decode cX10_doesRing 53 = .ok (.goto (-40), 3) := by decide +kernel
theorem dX10_doesRing_56 : decode cX10_doesRing 56 = .ok (.aload_n 0, 1) := by decide +kernel
theorem dX10_doesRing_57 : decode cX10_doesRing 57 = .ok (.getfield 9, 3) := by decide +kernel
theorem dX10_doesRing_60 : decode cX10_doesRing 60 = .ok (.sipush 299, 3) := by decide +kernel
theorem dX10_doesRing_63 : decode cX10_doesRing 63 = .ok (.aload_n 0, 1) := by decide +kernel
theorem dX10_doesRing_64 : decode cX10_doesRing 64 = .ok (.getfield 41, 3) := by decide +kernel
theorem dX10_doesRing_67 : decode cX10_doesRing 67 = .ok (.aload_n 0, 1) := by decide +kernel
theorem dX10_doesRing_68 : decode cX10_doesRing 68 = .ok (.getfield 206, 3) := by decide +kernel
theorem dX10_doesRing_71 : decode cX10_doesRing 71 = .ok (.iconst 1, 1) := by decide +kernel
theorem dX10_doesRing_72 : decode cX10_doesRing 72 = .ok (.isub, 1) := by decide +kernel
theorem dX10_doesRing_73 : decode cX10_doesRing 73 = .ok (.iaload, 1) := by decide +kernel
theorem dX10_doesRing_74 : decode cX10_doesRing 74 = .ok (.iadd, 1) := by decide +kernel
theorem dX10_doesRing_75 : decode cX10_doesRing 75 = .ok (.iload_n 1, 1) := by decide +kernel
theorem dX10_doesRing_76 : decode cX10_doesRing 76 = .ok (.iastore, 1) := by decide +kernel
theorem dX10_doesRing_77 : decode cX10_doesRing 77 = .ok (.return_, 1) := by decide +kernel
theorem dX10_turn_0 : decode cX10_turn 0 = .ok (.iload_n 1, 1) := by decide +kernel
theorem dX10_turn_1 : decode cX10_turn 1 = .ok (.i2l, 1) := by decide +kernel
theorem dX10_turn_2 : decode cX10_turn 2 = .ok (.lconst 1, 1) := by decide +kernel
theorem dX10_turn_3 : decode cX10_turn 3 = .ok (.ldc2_w 223, 3) := by decide +kernel
theorem dX10_turn_6 : decode cX10_turn 6 = .ok (.invokestatic 68, 3) := by decide +kernel
theorem dX10_turn_9 : decode cX10_turn 9 = .ok (.ifCond .ne 6, 3) := by decide +kernel
theorem dX10_turn_12 : decode cX10_turn 12 = .ok (.bipush (-2), 2) := by decide +kernel
theorem dX10_turn_14 : decode cX10_turn 14 = .ok (.ireturn, 1) := by decide +kernel
theorem dX10_turn_15 : decode cX10_turn 15 = .ok (.iconst 0, 1) := by decide +kernel
theorem dX10_turn_16 : decode cX10_turn 16 = .ok (.istore_n 2, 1) := by decide +kernel
theorem dX10_turn_17 : decode cX10_turn 17 = .ok (.aload_n 0, 1) := by decide +kernel
theorem dX10_turn_18 : decode cX10_turn 18 = .ok (.invokevirtual 220, 3) := by decide +kernel
theorem dX10_turn_21 : decode cX10_turn 21 = .ok (.iload_n 2, 1) := by decide +kernel
theorem dX10_turn_22 : decode cX10_turn 22 = .ok (.iload_n 1, 1) := by decide +kernel
theorem dX10_turn_23 : decode cX10_turn 23 = .ok (.if_icmp .ge 24, 3) := by decide +kernel
theorem dX10_turn_26 : decode cX10_turn 26 = .ok (.aload_n 0, 1) := by decide +kernel
theorem dX10_turn_27 : decode cX10_turn 27 = .ok (.getfield 206, 3) := by decide +kernel
theorem dX10_turn_30 : decode cX10_turn 30 = .ok (.ifCond .le 17, 3) := by decide +kernel
theorem dX10_turn_33 : decode cX10_turn 33 = .ok (.aload_n 0, 1) := by decide +kernel
theorem dX10_turn_34 : decode cX10_turn 34 = .ok (.invokevirtual 225, 3) := by decide +kernel
theorem dX10_turn_37 : decode cX10_turn 37 = .ok (.iinc 2 1, 3) := by decide +kernel
theorem dX10_turn_40 : decode cX10_turn 40 = .ok (.aload_n 0, 1) := by decide +kernel
theorem dX10_turn_41 : decode cX10_turn 41 = .ok (.invokevirtual 220, 3) := by decide +kernel
theorem dX10_turn_44 : decode cX10_turn 44 = .ok (.goto (-23), 3) := by decide +kernel
theorem dX10_turn_47 : decode cX10_turn 47 = .ok (.iload_n 2, 1) := by decide +kernel
theorem dX10_turn_48 : decode cX10_turn 48 = .ok (.ireturn, 1) := by decide +kernel
theorem dX10_openMany_0 : decode cX10_openMany 0 = .ok (.iconst 0, 1) := by decide +kernel
theorem dX10_openMany_1 : decode cX10_openMany 1 = .ok (.istore_n 1, 1) := by decide +kernel
theorem dX10_openMany_2 : decode cX10_openMany 2 = .ok (.iconst 0, 1) := by decide +kernel
theorem dX10_openMany_3 : decode cX10_openMany 3 = .ok (.istore_n 2, 1) := by decide +kernel
theorem dX10_openMany_4 : decode cX10_openMany 4 = .ok (.iload_n 2, 1) := by decide +kernel
theorem dX10_openMany_5 : decode cX10_openMany 5 = .ok (.aload_n 0, 1) := by decide +kernel
theorem dX10_openMany_6 : decode cX10_openMany 6 = .ok (.getfield 9, 3) := by decide +kernel
theorem dX10_openMany_9 : decode cX10_openMany 9 = .ok (.iconst 2, 1) := by decide +kernel
theorem dX10_openMany_10 : decode cX10_openMany 10 = .ok (.iaload, 1) := by decide +kernel
theorem dX10_openMany_11 : decode cX10_openMany 11 = .ok (.if_icmp .ge 25, 3) := by decide +kernel
theorem dX10_openMany_14 : decode cX10_openMany 14 = .ok (.iload_n 1, 1) := by decide +kernel
theorem dX10_openMany_15 : decode cX10_openMany 15 = .ok (.aload_n 0, 1) := by decide +kernel
theorem dX10_openMany_16 : decode cX10_openMany 16 = .ok (.iload_n 2, 1) := by decide +kernel
theorem dX10_openMany_17 : decode cX10_openMany 17 = .ok (.invokevirtual 78, 3) := by decide +kernel
theorem dX10_openMany_20 : decode cX10_openMany 20 = .ok (.ifCond .ge 7, 3) := by decide +kernel
theorem dX10_openMany_23 : decode cX10_openMany 23 = .ok (.iconst 1, 1) := by decide +kernel
theorem dX10_openMany_24 : decode cX10_openMany 24 = .ok (.goto 4, 3) := by decide +kernel
theorem dX10_openMany_27 : decode cX10_openMany 27 = .ok (.iconst 0, 1) := by decide +kernel
theorem dX10_openMany_28 : decode cX10_openMany 28 = .ok (.iadd, 1) := by decide +kernel
theorem dX10_openMany_29 : decode cX10_openMany 29 = .ok (.istore_n 1, 1) := by decide +kernel
theorem dX10_openMany_30 : decode cX10_openMany 30 = .ok (.iinc 2 1, 3) := by decide +kernel
theorem dX10_openMany_33 : decode cX10_openMany 33 = .ok (.goto (-29), 3) := by decide +kernel
theorem dX10_openMany_36 : decode cX10_openMany 36 = .ok (.iload_n 1, 1) := by decide +kernel
theorem dX10_openMany_37 : decode cX10_openMany 37 = .ok (.ireturn, 1) := by decide +kernel
theorem dX10_close_0 : decode cX10_close 0 = .ok (.aload_n 0, 1) := by decide +kernel
theorem dX10_close_1 : decode cX10_close 1 = .ok (.invokevirtual 228, 3) := by decide +kernel
theorem dX10_close_4 : decode cX10_close 4 = .ok (.ifCond .le 6, 3) := by decide +kernel
theorem dX10_close_7 : decode cX10_close 7 = .ok (.bipush (-3), 2) := by decide +kernel
theorem dX10_close_9 : decode cX10_close 9 = .ok (.ireturn, 1) := by decide +kernel
theorem dX10_close_10 : decode cX10_close 10 = .ok (.iconst 0, 1) := by decide +kernel
theorem dX10_close_11 : decode cX10_close 11 = .ok (.istore_n 1, 1) := by decide +kernel
theorem dX10_close_12 : decode cX10_close 12 = .ok (.iload_n 1, 1) := by decide +kernel
theorem dX10_close_13 : decode cX10_close 13 = .ok (.aload_n 0, 1) := by decide +kernel
theorem dX10_close_14 : decode cX10_close 14 = .ok (.getfield 9, 3) := by decide +kernel
theorem dX10_close_17 : decode cX10_close 17 = .ok (.iconst 0, 1) := by decide +kernel
theorem dX10_close_18 : decode cX10_close 18 = .ok (.iaload, 1) := by decide +kernel
theorem dX10_close_19 : decode cX10_close 19 = .ok (.if_icmp .ge 48, 3) := by decide +kernel
theorem dX10_close_22 : decode cX10_close 22 = .ok (.iconst 0, 1) := by decide +kernel
theorem dX10_close_23 : decode cX10_close 23 = .ok (.istore_n 2, 1) := by decide +kernel
theorem dX10_close_24 : decode cX10_close 24 = .ok (.iload_n 2, 1) := by decide +kernel
theorem dX10_close_25 : decode cX10_close 25 = .ok (.iconst 4, 1) := by decide +kernel
theorem dX10_close_26 : decode cX10_close 26 = .ok (.if_icmp .ge 35, 3) := by decide +kernel
theorem dX10_close_29 : decode cX10_close 29 = .ok (.aload_n 0, 1) := by decide +kernel
theorem dX10_close_30 : decode cX10_close 30 = .ok (.getfield 9, 3) := by decide +kernel
theorem dX10_close_33 : decode cX10_close 33 = .ok (.bipush 19, 2) := by decide +kernel
theorem dX10_close_35 : decode cX10_close 35 = .ok (.iconst 4, 1) := by decide +kernel
theorem dX10_close_36 : decode cX10_close 36 = .ok (.iload_n 1, 1) := by decide +kernel
theorem dX10_close_37 : decode cX10_close 37 = .ok (.imul, 1) := by decide +kernel
theorem dX10_close_38 : decode cX10_close 38 = .ok (.iadd, 1) := by decide +kernel
theorem dX10_close_39 : decode cX10_close 39 = .ok (.iload_n 2, 1) := by decide +kernel
theorem dX10_close_40 : decode cX10_close 40 = .ok (.iadd, 1) := by decide +kernel
theorem dX10_close_41 : decode cX10_close 41 = .ok (.sipush 999, 3) := by decide +kernel
theorem dX10_close_44 : decode cX10_close 44 = .ok (.aload_n 0, 1) := by decide +kernel
theorem dX10_close_45 : decode cX10_close 45 = .ok (.iload_n 1, 1) := by decide +kernel
theorem dX10_close_46 : decode cX10_close 46 = .ok (.iload_n 2, 1) := by decide +kernel
theorem dX10_close_47 : decode cX10_close 47 = .ok (.iconst 1, 1) := by decide +kernel
theorem dX10_close_48 : decode cX10_close 48 = .ok (.invokevirtual 92, 3) := by decide +kernel
theorem dX10_close_51 : decode cX10_close 51 = .ok (.invokestatic 231, 3) := by decide +kernel
theorem dX10_close_54 : decode cX10_close 54 = .ok (.iastore, 1) := by decide +kernel
theorem dX10_close_55 : decode cX10_close 55 = .ok (.iinc 2 1, 3) := by decide +kernel
theorem dX10_close_58 : decode cX10_close 58 = .ok (.goto (-34), 3) := by decide +kernel
theorem dX10_close_61 : decode cX10_close 61 = .ok (.iinc 1 1, 3) := by decide +kernel
theorem dX10_close_64 : decode cX10_close 64 = .ok (.goto (-52), 3) := by decide +kernel
theorem dX10_close_67 : decode cX10_close 67 = .ok (.aload_n 0, 1) := by decide +kernel
theorem dX10_close_68 : decode cX10_close 68 = .ok (.getfield 9, 3) := by decide +kernel
theorem dX10_close_71 : decode cX10_close 71 = .ok (.iconst 2, 1) := by decide +kernel
theorem dX10_close_72 : decode cX10_close 72 = .ok (.iconst 0, 1) := by decide +kernel
theorem dX10_close_73 : decode cX10_close 73 = .ok (.iastore, 1) := by decide +kernel
theorem dX10_close_74 : decode cX10_close 74 = .ok (.aload_n 0, 1) := by decide +kernel
theorem dX10_close_75 : decode cX10_close 75 = .ok (.getfield 9, 3) := by decide +kernel
theorem dX10_close_78 : decode cX10_close 78 = .ok (.iconst 1, 1) := by decide +kernel
theorem dX10_close_79 : decode cX10_close 79 = .ok (.dup2, 1) := by decide +kernel
theorem dX10_close_80 : decode cX10_close 80 = .ok (.iaload, 1) := by decide +kernel
theorem dX10_close_81 : decode cX10_close 81 = .ok (.iconst 1, 1) := by decide +kernel
theorem dX10_close_82 : decode cX10_close 82 = .ok (.iadd, 1) := by decide +kernel
theorem dX10_close_83 : decode cX10_close 83 = .ok (.iastore, 1) := by decide +kernel
theorem dX10_close_84 : decode cX10_close 84 = .ok (.aload_n 0, 1) := by decide +kernel
theorem dX10_close_85 : decode cX10_close 85 = .ok (.getfield 9, 3) := by decide +kernel
theorem dX10_close_88 : decode cX10_close 88 = .ok (.iconst 1, 1) := by decide +kernel
theorem dX10_close_89 : decode cX10_close 89 = .ok (.iaload, 1) := by decide +kernel
theorem dX10_close_90 : decode cX10_close 90 = .ok (.ireturn, 1) := by decide +kernel
theorem dX10_audit_0 : decode cX10_audit 0 = .ok (.iload_n 1, 1) := by decide +kernel
theorem dX10_audit_1 : decode cX10_audit 1 = .ok (.invokestatic 117, 3) := by decide +kernel
theorem dX10_audit_4 : decode cX10_audit 4 = .ok (.ifCond .eq 15, 3) := by decide +kernel
theorem dX10_audit_7 : decode cX10_audit 7 = .ok (.iload_n 2, 1) := by decide +kernel
theorem dX10_audit_8 : decode cX10_audit 8 = .ok (.i2l, 1) := by decide +kernel
theorem dX10_audit_9 : decode cX10_audit 9 = .ok (.lconst 0, 1) := by decide +kernel
theorem dX10_audit_10 : decode cX10_audit 10 = .ok (.ldc2_w 192, 3) := by decide +kernel
theorem dX10_audit_13 : decode cX10_audit 13 = .ok (.invokestatic 68, 3) := by decide +kernel
theorem dX10_audit_16 : decode cX10_audit 16 = .ok (.ifCond .ne 5, 3) := by decide +kernel
theorem dX10_audit_19 : decode cX10_audit 19 = .ok (.iconst (-1), 1) := by decide +kernel
theorem dX10_audit_20 : decode cX10_audit 20 = .ok (.ireturn, 1) := by decide +kernel
theorem dX10_audit_21 : decode cX10_audit 21 = .ok (.aload_n 0, 1) := by decide +kernel
theorem dX10_audit_22 : decode cX10_audit 22 = .ok (.iload_n 1, 1) := by decide +kernel
theorem dX10_audit_23 : decode cX10_audit 23 = .ok (.invokevirtual 183, 3) := by decide +kernel
theorem dX10_audit_26 : decode cX10_audit 26 = .ok (.iconst 0, 1) := by decide +kernel
theorem dX10_audit_27 : decode cX10_audit 27 = .ok (.istore_n 3, 1) := by decide +kernel
theorem dX10_audit_28 : decode cX10_audit 28 = .ok (.iconst 0, 1) := by decide +kernel
theorem dX10_audit_29 : decode cX10_audit 29 = .ok (.istore 4, 2) := by decide +kernel
theorem dX10_audit_31 : decode cX10_audit 31 = .ok (.iconst 0, 1) := by decide +kernel
theorem dX10_audit_32 : decode cX10_audit 32 = .ok (.istore 5, 2) := by decide +kernel
theorem dX10_audit_34 : decode cX10_audit 34 = .ok (.iload 5, 2) := by decide +kernel
theorem dX10_audit_36 : decode cX10_audit 36 = .ok (.aload_n 0, 1) := by decide +kernel
theorem dX10_audit_37 : decode cX10_audit 37 = .ok (.getfield 180, 3) := by decide +kernel
theorem dX10_audit_40 : decode cX10_audit 40 = .ok (.if_icmp .ge 69, 3) := by decide +kernel
theorem dX10_audit_43 : decode cX10_audit 43 = .ok (.iload_n 3, 1) := by decide +kernel
theorem dX10_audit_44 : decode cX10_audit 44 = .ok (.aload_n 0, 1) := by decide +kernel
theorem dX10_audit_45 : decode cX10_audit 45 = .ok (.getfield 35, 3) := by decide +kernel
theorem dX10_audit_48 : decode cX10_audit 48 = .ok (.iload 5, 2) := by decide +kernel
theorem dX10_audit_50 : decode cX10_audit 50 = .ok (.iaload, 1) := by decide +kernel
theorem dX10_audit_51 : decode cX10_audit 51 = .ok (.iadd, 1) := by decide +kernel
theorem dX10_audit_52 : decode cX10_audit 52 = .ok (.istore_n 3, 1) := by decide +kernel
theorem dX10_audit_53 : decode cX10_audit 53 = .ok (.iload 5, 2) := by decide +kernel
theorem dX10_audit_55 : decode cX10_audit 55 = .ok (.iconst 1, 1) := by decide +kernel
theorem dX10_audit_56 : decode cX10_audit 56 = .ok (.iadd, 1) := by decide +kernel
theorem dX10_audit_57 : decode cX10_audit 57 = .ok (.istore 6, 2) := by decide +kernel
theorem dX10_audit_59 : decode cX10_audit 59 = .ok (.iload 6, 2) := by decide +kernel
theorem dX10_audit_61 : decode cX10_audit 61 = .ok (.aload_n 0, 1) := by decide +kernel
theorem dX10_audit_62 : decode cX10_audit 62 = .ok (.getfield 180, 3) := by decide +kernel
theorem dX10_audit_65 : decode cX10_audit 65 = .ok (.if_icmp .ge 38, 3) := by decide +kernel
theorem dX10_audit_68 : decode cX10_audit 68 = .ok (.iload 4, 2) := by decide +kernel
theorem dX10_audit_70 : decode cX10_audit 70 = .ok (.aload_n 0, 1) := by decide +kernel
theorem dX10_audit_71 : decode cX10_audit 71 = .ok (.getfield 35, 3) := by decide +kernel
theorem dX10_audit_74 : decode cX10_audit 74 = .ok (.iload 5, 2) := by decide +kernel
theorem dX10_audit_76 : decode cX10_audit 76 = .ok (.iaload, 1) := by decide +kernel
theorem dX10_audit_77 : decode cX10_audit 77 = .ok (.aload_n 0, 1) := by decide +kernel
theorem dX10_audit_78 : decode cX10_audit 78 = .ok (.getfield 35, 3) := by decide +kernel
theorem dX10_audit_81 : decode cX10_audit 81 = .ok (.iload 6, 2) := by decide +kernel
theorem dX10_audit_83 : decode cX10_audit 83 = .ok (.iaload, 1) := by decide +kernel
theorem dX10_audit_84 : decode cX10_audit 84 = .ok (.isub, 1) := by decide +kernel
theorem dX10_audit_85 : decode cX10_audit 85 = .ok (.iconst 1, 1) := by decide +kernel
theorem dX10_audit_86 : decode cX10_audit 86 = .ok (.if_icmp .le 7, 3) := by decide +kernel
theorem dX10_audit_89 : decode cX10_audit 89 = .ok (.iconst 1, 1) := by decide +kernel
theorem dX10_audit_90 : decode cX10_audit 90 = .ok (.goto 4, 3) := by decide +kernel
theorem dX10_audit_93 : decode cX10_audit 93 = .ok (.iconst 0, 1) := by decide +kernel
theorem dX10_audit_94 : decode cX10_audit 94 = .ok (.iadd, 1) := by decide +kernel
theorem dX10_audit_95 : decode cX10_audit 95 = .ok (.istore 4, 2) := by decide +kernel
theorem dX10_audit_97 : decode cX10_audit 97 = .ok (.iinc 6 1, 3) := by decide +kernel
theorem dX10_audit_100 : decode cX10_audit 100 = .ok (.goto (-41), 3) := by decide +kernel
theorem dX10_audit_103 : decode cX10_audit 103 = .ok (.iinc 5 1, 3) := by decide +kernel
theorem dX10_audit_106 : decode cX10_audit 106 = .ok (.goto (-72), 3) := by decide +kernel
theorem dX10_audit_109 : decode cX10_audit 109 = .ok (.iload_n 2, 1) := by decide +kernel
theorem dX10_audit_110 : decode cX10_audit 110 = .ok (.iconst 1, 1) := by decide +kernel
theorem dX10_audit_111 : decode cX10_audit 111 = .ok (.if_icmp .ne 8, 3) := by decide +kernel
theorem dX10_audit_114 : decode cX10_audit 114 = .ok (.iload 4, 2) := by decide +kernel
theorem dX10_audit_116 : decode cX10_audit 116 = .ok (.goto 41, 3) := by decide +kernel
theorem dX10_audit_119 : decode cX10_audit 119 = .ok (.iload_n 2, 1) := by decide +kernel
theorem dX10_audit_120 : decode cX10_audit 120 = .ok (.iconst 2, 1) := by decide +kernel
theorem dX10_audit_121 : decode cX10_audit 121 = .ok (.if_icmp .ne 7, 3) := by decide +kernel
theorem dX10_audit_124 : decode cX10_audit 124 = .ok (.iload_n 3, 1) := by decide +kernel
theorem dX10_audit_125 : decode cX10_audit 125 = .ok (.goto 32, 3) := by decide +kernel
theorem dX10_audit_128 : decode cX10_audit 128 = .ok (.aload_n 0, 1) := by decide +kernel
theorem dX10_audit_129 : decode cX10_audit 129 = .ok (.getfield 180, 3) := by decide +kernel
theorem dX10_audit_132 : decode cX10_audit 132 = .ok (.ifCond .ne 7, 3) := by decide +kernel
theorem dX10_audit_135 : decode cX10_audit 135 = .ok (.iconst 0, 1) := by decide +kernel
theorem dX10_audit_136 : decode cX10_audit 136 = .ok (.goto 21, 3) := by decide +kernel
theorem dX10_audit_139 : decode cX10_audit 139 = .ok (.aload_n 0, 1) := by decide +kernel
theorem dX10_audit_140 : decode cX10_audit 140 = .ok (.getfield 35, 3) := by decide +kernel
theorem dX10_audit_143 : decode cX10_audit 143 = .ok (.iconst 0, 1) := by decide +kernel
theorem dX10_audit_144 : decode cX10_audit 144 = .ok (.iaload, 1) := by decide +kernel
theorem dX10_audit_145 : decode cX10_audit 145 = .ok (.aload_n 0, 1) := by decide +kernel
theorem dX10_audit_146 : decode cX10_audit 146 = .ok (.getfield 35, 3) := by decide +kernel
theorem dX10_audit_149 : decode cX10_audit 149 = .ok (.aload_n 0, 1) := by decide +kernel
theorem dX10_audit_150 : decode cX10_audit 150 = .ok (.getfield 180, 3) := by decide +kernel
theorem dX10_audit_153 : decode cX10_audit 153 = .ok (.iconst 1, 1) := by decide +kernel
theorem dX10_audit_154 : decode cX10_audit 154 = .ok (.isub, 1) := by decide +kernel
theorem dX10_audit_155 : decode cX10_audit 155 = .ok (.iaload, 1) := by decide +kernel
theorem dX10_audit_156 : decode cX10_audit 156 = .ok (.isub, 1) := by decide +kernel
theorem dX10_audit_157 : decode cX10_audit 157 = .ok (.ireturn, 1) := by decide +kernel
theorem dX10_isAhead_0 : decode cX10_isAhead 0 = .ok (.aload_n 0, 1) := by decide +kernel
theorem dX10_isAhead_1 : decode cX10_isAhead 1 = .ok (.iload_n 1, 1) := by decide +kernel
theorem dX10_isAhead_2 : decode cX10_isAhead 2 = .ok (.iload_n 3, 1) := by decide +kernel
theorem dX10_isAhead_3 : decode cX10_isAhead 3 = .ok (.invokevirtual 132, 3) := by decide +kernel
theorem dX10_isAhead_6 : decode cX10_isAhead 6 = .ok (.aload_n 0, 1) := by decide +kernel
theorem dX10_isAhead_7 : decode cX10_isAhead 7 = .ok (.iload_n 2, 1) := by decide +kernel
theorem dX10_isAhead_8 : decode cX10_isAhead 8 = .ok (.iload_n 3, 1) := by decide +kernel
theorem dX10_isAhead_9 : decode cX10_isAhead 9 = .ok (.invokevirtual 132, 3) := by decide +kernel
theorem dX10_isAhead_12 : decode cX10_isAhead 12 = .ok (.if_icmp .eq 24, 3) := by decide +kernel
theorem dX10_isAhead_15 : decode cX10_isAhead 15 = .ok (.aload_n 0, 1) := by decide +kernel
theorem dX10_isAhead_16 : decode cX10_isAhead 16 = .ok (.iload_n 1, 1) := by decide +kernel
theorem dX10_isAhead_17 : decode cX10_isAhead 17 = .ok (.iload_n 3, 1) := by decide +kernel
theorem dX10_isAhead_18 : decode cX10_isAhead 18 = .ok (.invokevirtual 132, 3) := by decide +kernel
theorem dX10_isAhead_21 : decode cX10_isAhead 21 = .ok (.aload_n 0, 1) := by decide +kernel
theorem dX10_isAhead_22 : decode cX10_isAhead 22 = .ok (.iload_n 2, 1) := by decide +kernel
theorem dX10_isAhead_23 : decode cX10_isAhead 23 = .ok (.iload_n 3, 1) := by decide +kernel
theorem dX10_isAhead_24 : decode cX10_isAhead 24 = .ok (.invokevirtual 132, 3) := by decide +kernel
theorem dX10_isAhead_27 : decode cX10_isAhead 27 = .ok (.if_icmp .ge 7, 3) := by decide +kernel
theorem dX10_isAhead_30 : decode cX10_isAhead 30 = .ok (.iconst 1, 1) := by decide +kernel
theorem dX10_isAhead_31 : decode cX10_isAhead 31 = .ok (.goto 4, 3) := by decide +kernel
theorem dX10_isAhead_34 : decode cX10_isAhead 34 = .ok (.iconst 0, 1) := by decide +kernel
theorem dX10_isAhead_35 : decode cX10_isAhead 35 = .ok (.ireturn, 1) := by decide +kernel
theorem dX10_isAhead_36 : decode cX10_isAhead 36 = .ok (.aload_n 0, 1) := by decide +kernel
theorem dX10_isAhead_37 : decode cX10_isAhead 37 = .ok (.iload_n 1, 1) := by decide +kernel
theorem dX10_isAhead_38 : decode cX10_isAhead 38 = .ok (.invokevirtual 122, 3) := by decide +kernel
theorem dX10_isAhead_41 : decode cX10_isAhead 41 = .ok (.aload_n 0, 1) := by decide +kernel
theorem dX10_isAhead_42 : decode cX10_isAhead 42 = .ok (.iload_n 2, 1) := by decide +kernel
theorem dX10_isAhead_43 : decode cX10_isAhead 43 = .ok (.invokevirtual 122, 3) := by decide +kernel
theorem dX10_isAhead_46 : decode cX10_isAhead 46 = .ok (.if_icmp .eq 24, 3) := by decide +kernel
theorem dX10_isAhead_49 : decode cX10_isAhead 49 = .ok (.aload_n 0, 1) := by decide +kernel
theorem dX10_isAhead_50 : decode cX10_isAhead 50 = .ok (.iload_n 1, 1) := by decide +kernel
theorem dX10_isAhead_51 : decode cX10_isAhead 51 = .ok (.invokevirtual 122, 3) := by decide +kernel
theorem dX10_isAhead_54 : decode cX10_isAhead 54 = .ok (.aload_n 0, 1) := by decide +kernel
theorem dX10_isAhead_55 : decode cX10_isAhead 55 = .ok (.iload_n 2, 1) := by decide +kernel
theorem dX10_isAhead_56 : decode cX10_isAhead 56 = .ok (.invokevirtual 122, 3) := by decide +kernel
theorem dX10_isAhead_59 : decode cX10_isAhead 59 = .ok (.if_icmp .ge 7, 3) := by decide +kernel
theorem dX10_isAhead_62 : decode cX10_isAhead 62 = .ok (.iconst 1, 1) := by decide +kernel
theorem dX10_isAhead_63 : decode cX10_isAhead 63 = .ok (.goto 17, 3) := by decide +kernel
theorem dX10_isAhead_66 : decode cX10_isAhead 66 = .ok (.iconst 0, 1) := by decide +kernel
theorem dX10_isAhead_67 : decode cX10_isAhead 67 = .ok (.goto 13, 3) := by decide +kernel
theorem dX10_isAhead_70 : decode cX10_isAhead 70 = .ok (.iload_n 1, 1) := by decide +kernel
theorem dX10_isAhead_71 : decode cX10_isAhead 71 = .ok (.iload_n 2, 1) := by decide +kernel
theorem dX10_isAhead_72 : decode cX10_isAhead 72 = .ok (.if_icmp .ge 7, 3) := by decide +kernel
theorem dX10_isAhead_75 : decode cX10_isAhead 75 = .ok (.iconst 1, 1) := by decide +kernel
theorem dX10_isAhead_76 : decode cX10_isAhead 76 = .ok (.goto 4, 3) := by decide +kernel
theorem dX10_isAhead_79 : decode cX10_isAhead 79 = .ok (.iconst 0, 1) := by decide +kernel
theorem dX10_isAhead_80 : decode cX10_isAhead 80 = .ok (.ireturn, 1) := by decide +kernel
theorem dX10_next_0 : decode cX10_next 0 = .ok (.iload_n 1, 1) := by decide +kernel
theorem dX10_next_1 : decode cX10_next 1 = .ok (.invokestatic 117, 3) := by decide +kernel
theorem dX10_next_4 : decode cX10_next 4 = .ok (.ifCond .ne 5, 3) := by decide +kernel
theorem dX10_next_7 : decode cX10_next 7 = .ok (.iconst (-1), 1) := by decide +kernel
theorem dX10_next_8 : decode cX10_next 8 = .ok (.ireturn, 1) := by decide +kernel
theorem dX10_next_9 : decode cX10_next 9 = .ok (.iconst 0, 1) := by decide +kernel
theorem dX10_next_10 : decode cX10_next 10 = .ok (.istore_n 3, 1) := by decide +kernel
theorem dX10_next_11 : decode cX10_next 11 = .ok (.iload_n 3, 1) := by decide +kernel
theorem dX10_next_12 : decode cX10_next 12 = .ok (.aload_n 0, 1) := by decide +kernel
theorem dX10_next_13 : decode cX10_next 13 = .ok (.getfield 9, 3) := by decide +kernel
theorem dX10_next_16 : decode cX10_next 16 = .ok (.iconst 0, 1) := by decide +kernel
theorem dX10_next_17 : decode cX10_next 17 = .ok (.iaload, 1) := by decide +kernel
theorem dX10_next_18 : decode cX10_next 18 = .ok (.if_icmp .ge 84, 3) := by decide +kernel
theorem dX10_next_21 : decode cX10_next 21 = .ok (.iconst 0, 1) := by decide +kernel
theorem dX10_next_22 : decode cX10_next 22 = .ok (.istore 4, 2) := by decide +kernel
theorem dX10_next_24 : decode cX10_next 24 = .ok (.iconst 0, 1) := by decide +kernel
theorem dX10_next_25 : decode cX10_next 25 = .ok (.istore 5, 2) := by decide +kernel
theorem dX10_next_27 : decode cX10_next 27 = .ok (.iload 5, 2) := by decide +kernel
theorem dX10_next_29 : decode cX10_next 29 = .ok (.aload_n 0, 1) := by decide +kernel
theorem dX10_next_30 : decode cX10_next 30 = .ok (.getfield 9, 3) := by decide +kernel
theorem dX10_next_33 : decode cX10_next 33 = .ok (.iconst 0, 1) := by decide +kernel
theorem dX10_next_34 : decode cX10_next 34 = .ok (.iaload, 1) := by decide +kernel
theorem dX10_next_35 : decode cX10_next 35 = .ok (.if_icmp .ge 45, 3) := by decide +kernel
theorem dX10_next_38 : decode cX10_next 38 = .ok (.iload 4, 2) := by decide +kernel
theorem dX10_next_40 : decode cX10_next 40 = .ok (.aload_n 0, 1) := by decide +kernel
theorem dX10_next_41 : decode cX10_next 41 = .ok (.iload 5, 2) := by decide +kernel
theorem dX10_next_43 : decode cX10_next 43 = .ok (.invokevirtual 100, 3) := by decide +kernel
theorem dX10_next_46 : decode cX10_next 46 = .ok (.ifCond .eq 24, 3) := by decide +kernel
theorem dX10_next_49 : decode cX10_next 49 = .ok (.iload 5, 2) := by decide +kernel
theorem dX10_next_51 : decode cX10_next 51 = .ok (.iload_n 3, 1) := by decide +kernel
theorem dX10_next_52 : decode cX10_next 52 = .ok (.if_icmp .eq 18, 3) := by decide +kernel
theorem dX10_next_55 : decode cX10_next 55 = .ok (.aload_n 0, 1) := by decide +kernel
theorem dX10_next_56 : decode cX10_next 56 = .ok (.iload 5, 2) := by decide +kernel
theorem dX10_next_58 : decode cX10_next 58 = .ok (.iload_n 3, 1) := by decide +kernel
theorem dX10_next_59 : decode cX10_next 59 = .ok (.iload_n 1, 1) := by decide +kernel
theorem dX10_next_60 : decode cX10_next 60 = .ok (.invokevirtual 236, 3) := by decide +kernel
theorem dX10_next_63 : decode cX10_next 63 = .ok (.ifCond .eq 7, 3) := by decide +kernel
theorem dX10_next_66 : decode cX10_next 66 = .ok (.iconst 1, 1) := by decide +kernel
theorem dX10_next_67 : decode cX10_next 67 = .ok (.goto 4, 3) := by decide +kernel
theorem dX10_next_70 : decode cX10_next 70 = .ok (.iconst 0, 1) := by decide +kernel
theorem dX10_next_71 : decode cX10_next 71 = .ok (.iadd, 1) := by decide +kernel
theorem dX10_next_72 : decode cX10_next 72 = .ok (.istore 4, 2) := by decide +kernel
theorem dX10_next_74 : decode cX10_next 74 = .ok (.iinc 5 1, 3) := by decide +kernel
theorem dX10_next_77 : decode cX10_next 77 = .ok (.goto (-50), 3) := by decide +kernel
theorem dX10_next_80 : decode cX10_next 80 = .ok (.aload_n 0, 1) := by decide +kernel
theorem dX10_next_81 : decode cX10_next 81 = .ok (.iload_n 3, 1) := by decide +kernel
theorem dX10_next_82 : decode cX10_next 82 = .ok (.invokevirtual 100, 3) := by decide +kernel
theorem dX10_next_85 : decode cX10_next 85 = .ok (.ifCond .eq 11, 3) := by decide +kernel
theorem dX10_next_88 : decode cX10_next 88 = .ok (.iload 4, 2) := by decide +kernel
theorem dX10_next_90 : decode cX10_next 90 = .ok (.iload_n 2, 1) := by decide +kernel
theorem dX10_next_91 : decode cX10_next 91 = .ok (.if_icmp .ne 5, 3) := by decide +kernel
theorem dX10_next_94 : decode cX10_next 94 = .ok (.iload_n 3, 1) := by decide +kernel
theorem dX10_next_95 : decode cX10_next 95 = .ok (.ireturn, 1) := by decide +kernel
theorem dX10_next_96 : decode cX10_next 96 = .ok (.iinc 3 1, 3) := by decide +kernel
theorem dX10_next_99 : decode cX10_next 99 = .ok (.goto (-88), 3) := by decide +kernel
theorem dX10_next_102 : decode cX10_next 102 = .ok (.iconst (-1), 1) := by decide +kernel
theorem dX10_next_103 : decode cX10_next 103 = .ok (.ireturn, 1) := by decide +kernel
theorem dX10_near_0 : decode cX10_near 0 = .ok (.iconst 0, 1) := by decide +kernel
theorem dX10_near_1 : decode cX10_near 1 = .ok (.istore_n 1, 1) := by decide +kernel
theorem dX10_near_2 : decode cX10_near 2 = .ok (.iconst 0, 1) := by decide +kernel
theorem dX10_near_3 : decode cX10_near 3 = .ok (.istore_n 2, 1) := by decide +kernel
theorem dX10_near_4 : decode cX10_near 4 = .ok (.iload_n 2, 1) := by decide +kernel
theorem dX10_near_5 : decode cX10_near 5 = .ok (.aload_n 0, 1) := by decide +kernel
theorem dX10_near_6 : decode cX10_near 6 = .ok (.getfield 9, 3) := by decide +kernel
theorem dX10_near_9 : decode cX10_near 9 = .ok (.iconst 2, 1) := by decide +kernel
theorem dX10_near_10 : decode cX10_near 10 = .ok (.iaload, 1) := by decide +kernel
theorem dX10_near_11 : decode cX10_near 11 = .ok (.if_icmp .ge 86, 3) := by decide +kernel
theorem dX10_near_14 : decode cX10_near 14 = .ok (.iload_n 2, 1) := by decide +kernel
theorem dX10_near_15 : decode cX10_near 15 = .ok (.iconst 1, 1) := by decide +kernel
theorem dX10_near_16 : decode cX10_near 16 = .ok (.iadd, 1) := by decide +kernel
theorem dX10_near_17 : decode cX10_near 17 = .ok (.istore_n 3, 1) := by decide +kernel
theorem dX10_near_18 : decode cX10_near 18 = .ok (.iload_n 3, 1) := by decide +kernel
theorem dX10_near_19 : decode cX10_near 19 = .ok (.aload_n 0, 1) := by decide +kernel
theorem dX10_near_20 : decode cX10_near 20 = .ok (.getfield 9, 3) := by decide +kernel
theorem dX10_near_23 : decode cX10_near 23 = .ok (.iconst 2, 1) := by decide +kernel
theorem dX10_near_24 : decode cX10_near 24 = .ok (.iaload, 1) := by decide +kernel
theorem dX10_near_25 : decode cX10_near 25 = .ok (.if_icmp .ge 66, 3) := by decide +kernel
theorem dX10_near_28 : decode cX10_near 28 = .ok (.iload_n 1, 1) := by decide +kernel
theorem dX10_near_29 : decode cX10_near 29 = .ok (.aload_n 0, 1) := by decide +kernel
theorem dX10_near_30 : decode cX10_near 30 = .ok (.iload_n 2, 1) := by decide +kernel
theorem dX10_near_31 : decode cX10_near 31 = .ok (.invokevirtual 78, 3) := by decide +kernel
theorem dX10_near_34 : decode cX10_near 34 = .ok (.ifCond .lt 48, 3) := by decide +kernel
theorem dX10_near_37 : decode cX10_near 37 = .ok (.aload_n 0, 1) := by decide +kernel
theorem dX10_near_38 : decode cX10_near 38 = .ok (.iload_n 2, 1) := by decide +kernel
theorem dX10_near_39 : decode cX10_near 39 = .ok (.invokevirtual 78, 3) := by decide +kernel
theorem dX10_near_42 : decode cX10_near 42 = .ok (.aload_n 0, 1) := by decide +kernel
theorem dX10_near_43 : decode cX10_near 43 = .ok (.iload_n 3, 1) := by decide +kernel
theorem dX10_near_44 : decode cX10_near 44 = .ok (.invokevirtual 78, 3) := by decide +kernel
theorem dX10_near_47 : decode cX10_near 47 = .ok (.if_icmp .ne 35, 3) := by decide +kernel
theorem dX10_near_50 : decode cX10_near 50 = .ok (.aload_n 0, 1) := by decide +kernel
theorem dX10_near_51 : decode cX10_near 51 = .ok (.getfield 9, 3) := by decide +kernel
theorem dX10_near_54 : decode cX10_near 54 = .ok (.sipush 251, 3) := by decide +kernel
theorem dX10_near_57 : decode cX10_near 57 = .ok (.iload_n 2, 1) := by decide +kernel
theorem dX10_near_58 : decode cX10_near 58 = .ok (.iadd, 1) := by decide +kernel
theorem dX10_near_59 : decode cX10_near 59 = .ok (.iaload, 1) := by decide +kernel
theorem dX10_near_60 : decode cX10_near 60 = .ok (.aload_n 0, 1) := by decide +kernel
theorem dX10_near_61 : decode cX10_near 61 = .ok (.getfield 9, 3) := by decide +kernel
theorem dX10_near_64 : decode cX10_near 64 = .ok (.sipush 251, 3) := by decide +kernel
theorem dX10_near_67 : decode cX10_near 67 = .ok (.iload_n 3, 1) := by decide +kernel
theorem dX10_near_68 : decode cX10_near 68 = .ok (.iadd, 1) := by decide +kernel
theorem dX10_near_69 : decode cX10_near 69 = .ok (.iaload, 1) := by decide +kernel
theorem dX10_near_70 : decode cX10_near 70 = .ok (.isub, 1) := by decide +kernel
theorem dX10_near_71 : decode cX10_near 71 = .ok (.invokestatic 240, 3) := by decide +kernel
theorem dX10_near_74 : decode cX10_near 74 = .ok (.iconst 2, 1) := by decide +kernel
theorem dX10_near_75 : decode cX10_near 75 = .ok (.if_icmp .ge 7, 3) := by decide +kernel
theorem dX10_near_78 : decode cX10_near 78 = .ok (.iconst 1, 1) := by decide +kernel
theorem dX10_near_79 : decode cX10_near 79 = .ok (.goto 4, 3) := by decide +kernel
theorem dX10_near_82 : decode cX10_near 82 = .ok (.iconst 0, 1) := by decide +kernel
theorem dX10_near_83 : decode cX10_near 83 = .ok (.iadd, 1) := by decide +kernel
theorem dX10_near_84 : decode cX10_near 84 = .ok (.istore_n 1, 1) := by decide +kernel
theorem dX10_near_85 : decode cX10_near 85 = .ok (.iinc 3 1, 3) := by decide +kernel
theorem dX10_near_88 : decode cX10_near 88 = .ok (.goto (-70), 3) := by decide +kernel
theorem dX10_near_91 : decode cX10_near 91 = .ok (.iinc 2 1, 3) := by decide +kernel
theorem dX10_near_94 : decode cX10_near 94 = .ok (.goto (-90), 3) := by decide +kernel
theorem dX10_near_97 : decode cX10_near 97 = .ok (.iload_n 1, 1) := by decide +kernel
theorem dX10_near_98 : decode cX10_near 98 = .ok (.ireturn, 1) := by decide +kernel
theorem dX10_heaviest_0 : decode cX10_heaviest 0 = .ok (.bipush (-5), 2) := by decide +kernel
theorem dX10_heaviest_2 : decode cX10_heaviest 2 = .ok (.istore_n 1, 1) := by decide +kernel
theorem dX10_heaviest_3 : decode cX10_heaviest 3 = .ok (.iconst 0, 1) := by decide +kernel
theorem dX10_heaviest_4 : decode cX10_heaviest 4 = .ok (.istore_n 2, 1) := by decide +kernel
theorem dX10_heaviest_5 : decode cX10_heaviest 5 = .ok (.iload_n 2, 1) := by decide +kernel
theorem dX10_heaviest_6 : decode cX10_heaviest 6 = .ok (.aload_n 0, 1) := by decide +kernel
theorem dX10_heaviest_7 : decode cX10_heaviest 7 = .ok (.getfield 9, 3) := by decide +kernel
theorem dX10_heaviest_10 : decode cX10_heaviest 10 = .ok (.iconst 0, 1) := by decide +kernel
theorem dX10_heaviest_11 : decode cX10_heaviest 11 = .ok (.iaload, 1) := by decide +kernel
theorem dX10_heaviest_12 : decode cX10_heaviest 12 = .ok (.if_icmp .ge 40, 3) := by decide +kernel
theorem dX10_heaviest_15 : decode cX10_heaviest 15 = .ok (.aload_n 0, 1) := by decide +kernel
theorem dX10_heaviest_16 : decode cX10_heaviest 16 = .ok (.iload_n 2, 1) := by decide +kernel
theorem dX10_heaviest_17 : decode cX10_heaviest 17 = .ok (.invokevirtual 100, 3) := by decide +kernel
theorem dX10_heaviest_20 : decode cX10_heaviest 20 = .ok (.ifCond .eq 24, 3) := by decide +kernel
theorem dX10_heaviest_23 : decode cX10_heaviest 23 = .ok (.iload_n 1, 1) := by decide +kernel
theorem dX10_heaviest_24 : decode cX10_heaviest 24 = .ok (.ifCond .lt 16, 3) := by decide +kernel
theorem dX10_heaviest_27 : decode cX10_heaviest 27 = .ok (.aload_n 0, 1) := by decide +kernel
theorem dX10_heaviest_28 : decode cX10_heaviest 28 = .ok (.iload_n 2, 1) := by decide +kernel
theorem dX10_heaviest_29 : decode cX10_heaviest 29 = .ok (.invokevirtual 122, 3) := by decide +kernel
theorem dX10_heaviest_32 : decode cX10_heaviest 32 = .ok (.aload_n 0, 1) := by decide +kernel
theorem dX10_heaviest_33 : decode cX10_heaviest 33 = .ok (.iload_n 1, 1) := by decide +kernel
theorem dX10_heaviest_34 : decode cX10_heaviest 34 = .ok (.invokevirtual 122, 3) := by decide +kernel
theorem dX10_heaviest_37 : decode cX10_heaviest 37 = .ok (.if_icmp .le 7, 3) := by decide +kernel
theorem dX10_heaviest_40 : decode cX10_heaviest 40 = .ok (.iload_n 2, 1) := by decide +kernel
theorem dX10_heaviest_41 : decode cX10_heaviest 41 = .ok (.goto 4, 3) := by decide +kernel
theorem dX10_heaviest_44 : decode cX10_heaviest 44 = .ok (.iload_n 1, 1) := by decide +kernel
theorem dX10_heaviest_45 : decode cX10_heaviest 45 = .ok (.istore_n 1, 1) := by decide +kernel
theorem dX10_heaviest_46 : decode cX10_heaviest 46 = .ok (.iinc 2 1, 3) := by decide +kernel
theorem dX10_heaviest_49 : decode cX10_heaviest 49 = .ok (.goto (-44), 3) := by decide +kernel
theorem dX10_heaviest_52 : decode cX10_heaviest 52 = .ok (.iload_n 1, 1) := by decide +kernel
theorem dX10_heaviest_53 : decode cX10_heaviest 53 = .ok (.ireturn, 1) := by decide +kernel
theorem dX10_feed_0 : decode cX10_feed 0 = .ok (.iload_n 1, 1) := by decide +kernel
theorem dX10_feed_1 : decode cX10_feed 1 = .ok (.i2l, 1) := by decide +kernel
theorem dX10_feed_2 : decode cX10_feed 2 = .ok (.lconst 1, 1) := by decide +kernel
theorem dX10_feed_3 : decode cX10_feed 3 = .ok (.ldc2_w 243, 3) := by decide +kernel
theorem dX10_feed_6 : decode cX10_feed 6 = .ok (.invokestatic 68, 3) := by decide +kernel
theorem dX10_feed_9 : decode cX10_feed 9 = .ok (.ifCond .ne 6, 3) := by decide +kernel
theorem dX10_feed_12 : decode cX10_feed 12 = .ok (.bipush (-2), 2) := by decide +kernel
theorem dX10_feed_14 : decode cX10_feed 14 = .ok (.ireturn, 1) := by decide +kernel
theorem dX10_feed_15 : decode cX10_feed 15 = .ok (.aload_n 0, 1) := by decide +kernel
theorem dX10_feed_16 : decode cX10_feed 16 = .ok (.getfield 245, 3) := by decide +kernel
theorem dX10_feed_19 : decode cX10_feed 19 = .ok (.sipush 150, 3) := by decide +kernel
theorem dX10_feed_22 : decode cX10_feed 22 = .ok (.if_icmp .ne 6, 3) := by decide +kernel
theorem dX10_feed_25 : decode cX10_feed 25 = .ok (.bipush (-4), 2) := by decide +kernel
theorem dX10_feed_27 : decode cX10_feed 27 = .ok (.ireturn, 1) := by decide +kernel
theorem dX10_feed_28 : decode cX10_feed 28 = .ok (.aload_n 0, 1) := by decide +kernel
theorem dX10_feed_29 : decode cX10_feed 29 = .ok (.getfield 44, 3) := by decide +kernel
theorem dX10_feed_32 : decode cX10_feed 32 = .ok (.aload_n 0, 1) := by decide +kernel
theorem dX10_feed_33 : decode cX10_feed 33 = .ok (.getfield 245, 3) := by decide +kernel
theorem dX10_feed_36 : decode cX10_feed 36 = .ok (.iload_n 1, 1) := by decide +kernel
theorem dX10_feed_37 : decode cX10_feed 37 = .ok (.iastore, 1) := by decide +kernel
theorem dX10_feed_38 : decode cX10_feed 38 = .ok (.aload_n 0, 1) := by decide +kernel
theorem dX10_feed_39 : decode cX10_feed 39 = .ok (.dup, 1) := by decide +kernel
theorem dX10_feed_40 : decode cX10_feed 40 = .ok (.getfield 245, 3) := by decide +kernel
theorem dX10_feed_43 : decode cX10_feed 43 = .ok (.iconst 1, 1) := by decide +kernel
theorem dX10_feed_44 : decode cX10_feed 44 = .ok (.iadd, 1) := by decide +kernel
theorem dX10_feed_45 : decode cX10_feed 45 = .ok (.putfield 245, 3) := by decide +kernel
theorem dX10_feed_48 : decode cX10_feed 48 = .ok (.aload_n 0, 1) := by decide +kernel
theorem dX10_feed_49 : decode cX10_feed 49 = .ok (.getfield 245, 3) := by decide +kernel
theorem dX10_feed_52 : decode cX10_feed 52 = .ok (.ireturn, 1) := by decide +kernel
theorem dX10_clear_0 : decode cX10_clear 0 = .ok (.aload_n 0, 1) := by decide +kernel
theorem dX10_clear_1 : decode cX10_clear 1 = .ok (.getfield 245, 3) := by decide +kernel
theorem dX10_clear_4 : decode cX10_clear 4 = .ok (.istore_n 1, 1) := by decide +kernel
theorem dX10_clear_5 : decode cX10_clear 5 = .ok (.aload_n 0, 1) := by decide +kernel
theorem dX10_clear_6 : decode cX10_clear 6 = .ok (.iconst 0, 1) := by decide +kernel
theorem dX10_clear_7 : decode cX10_clear 7 = .ok (.putfield 245, 3) := by decide +kernel
theorem dX10_clear_10 : decode cX10_clear 10 = .ok (.iload_n 1, 1) := by decide +kernel
theorem dX10_clear_11 : decode cX10_clear 11 = .ok (.ireturn, 1) := by decide +kernel
theorem dX10_here_0 : decode cX10_here 0 = .ok (.aload_n 0, 1) := by decide +kernel
theorem dX10_here_1 : decode cX10_here 1 = .ok (.getfield 248, 3) := by decide +kernel
theorem dX10_here_4 : decode cX10_here 4 = .ok (.ifCond .ge 26, 3) := by decide +kernel
theorem dX10_here_7 : decode cX10_here 7 = .ok (.aload_n 0, 1) := by decide +kernel
theorem dX10_here_8 : decode cX10_here 8 = .ok (.getfield 251, 3) := by decide +kernel
theorem dX10_here_11 : decode cX10_here 11 = .ok (.aload_n 0, 1) := by decide +kernel
theorem dX10_here_12 : decode cX10_here 12 = .ok (.getfield 245, 3) := by decide +kernel
theorem dX10_here_15 : decode cX10_here 15 = .ok (.if_icmp .ge 15, 3) := by decide +kernel
theorem dX10_here_18 : decode cX10_here 18 = .ok (.aload_n 0, 1) := by decide +kernel
theorem dX10_here_19 : decode cX10_here 19 = .ok (.getfield 44, 3) := by decide +kernel
theorem dX10_here_22 : decode cX10_here 22 = .ok (.aload_n 0, 1) := by decide +kernel
theorem dX10_here_23 : decode cX10_here 23 = .ok (.getfield 251, 3) := by decide +kernel
theorem dX10_here_26 : decode cX10_here 26 = .ok (.iaload, 1) := by decide +kernel
theorem dX10_here_27 : decode cX10_here 27 = .ok (.goto 4, 3) := by decide +kernel
theorem dX10_here_30 : decode cX10_here 30 = .ok (.iconst (-1), 1) := by decide +kernel
theorem dX10_here_31 : decode cX10_here 31 = .ok (.ireturn, 1) := by decide +kernel
theorem dX10_faults_0 : decode cX10_faults 0 = .ok (.aload_n 0, 1) := by decide +kernel
theorem dX10_faults_1 : decode cX10_faults 1 = .ok (.aload_n 0, 1) := by decide +kernel
theorem dX10_faults_2 : decode cX10_faults 2 = .ok (.getfield 248, 3) := by decide +kernel
theorem dX10_faults_5 : decode cX10_faults 5 = .ok (.ifCond .ge 7, 3) := by decide +kernel
theorem dX10_faults_8 : decode cX10_faults 8 = .ok (.iload_n 1, 1) := by decide +kernel
theorem dX10_faults_9 : decode cX10_faults 9 = .ok (.goto 7, 3) := by decide +kernel
theorem dX10_faults_12 : decode cX10_faults 12 = .ok (.aload_n 0, 1) := by decide +kernel
theorem dX10_faults_13 : decode cX10_faults 13 = .ok (.getfield 248, 3) := by decide +kernel
theorem dX10_faults_16 : decode cX10_faults 16 = .ok (.putfield 248, 3) := by decide +kernel
theorem dX10_faults_19 : decode cX10_faults 19 = .ok (.return_, 1) := by decide +kernel
theorem dX10_opensTape_0 : decode cX10_opensTape 0 = .ok (.aload_n 0, 1) := by decide +kernel
theorem dX10_opensTape_1 : decode cX10_opensTape 1 = .ok (.iconst 0, 1) := by decide +kernel
theorem dX10_opensTape_2 : decode cX10_opensTape 2 = .ok (.putfield 251, 3) := by decide +kernel
theorem dX10_opensTape_5 : decode cX10_opensTape 5 = .ok (.aload_n 0, 1) := by decide +kernel
theorem dX10_opensTape_6 : decode cX10_opensTape 6 = .ok (.iconst (-1), 1) := by decide +kernel
theorem dX10_opensTape_7 : decode cX10_opensTape 7 = .ok (.putfield 248, 3) := by decide +kernel
theorem dX10_opensTape_10 : decode cX10_opensTape 10 = .ok (.return_, 1) := by decide +kernel
theorem dX10_takes_0 : decode cX10_takes 0 = .ok (.aload_n 0, 1) := by decide +kernel
theorem dX10_takes_1 : decode cX10_takes 1 = .ok (.invokevirtual 254, 3) := by decide +kernel
theorem dX10_takes_4 : decode cX10_takes 4 = .ok (.iload_n 1, 1) := by decide +kernel
theorem dX10_takes_5 : decode cX10_takes 5 = .ok (.if_icmp .eq 5, 3) := by decide +kernel
theorem dX10_takes_8 : decode cX10_takes 8 = .ok (.iconst 0, 1) := by decide +kernel
theorem dX10_takes_9 : decode cX10_takes 9 = .ok (.ireturn, 1) := by decide +kernel
theorem dX10_takes_10 : decode cX10_takes 10 = .ok (.aload_n 0, 1) := by decide +kernel
theorem dX10_takes_11 : decode cX10_takes 11 = .ok (.dup, 1) := by decide +kernel
theorem dX10_takes_12 : decode cX10_takes 12 = .ok (.getfield 251, 3) := by decide +kernel
theorem dX10_takes_15 : decode cX10_takes 15 = .ok (.iconst 1, 1) := by decide +kernel
theorem dX10_takes_16 : decode cX10_takes 16 = .ok (.iadd, 1) := by decide +kernel
theorem dX10_takes_17 : decode cX10_takes 17 = .ok (.putfield 251, 3) := by decide +kernel
theorem dX10_takes_20 : decode cX10_takes 20 = .ok (.iconst 1, 1) := by decide +kernel
theorem dX10_takes_21 : decode cX10_takes 21 = .ok (.ireturn, 1) := by decide +kernel
theorem dX10_must_0 : decode cX10_must 0 = .ok (.aload_n 0, 1) := by decide +kernel
theorem dX10_must_1 : decode cX10_must 1 = .ok (.iload_n 1, 1) := by decide +kernel
theorem dX10_must_2 : decode cX10_must 2 = .ok (.invokevirtual 257, 3) := by decide +kernel
theorem dX10_must_5 : decode cX10_must 5 = .ok (.ifCond .ne 11, 3) := by decide +kernel
theorem dX10_must_8 : decode cX10_must 8 = .ok (.aload_n 0, 1) := by decide +kernel
theorem dX10_must_9 : decode cX10_must 9 = .ok (.aload_n 0, 1) := by decide +kernel
theorem dX10_must_10 : decode cX10_must 10 = .ok (.getfield 251, 3) := by decide +kernel
theorem dX10_must_13 : decode cX10_must 13 = .ok (.invokevirtual 260, 3) := by decide +kernel
theorem dX10_must_16 : decode cX10_must 16 = .ok (.return_, 1) := by decide +kernel
theorem dX10_number_0 : decode cX10_number 0 = .ok (.aload_n 0, 1) := by decide +kernel
theorem dX10_number_1 : decode cX10_number 1 = .ok (.aload_n 0, 1) := by decide +kernel
theorem dX10_number_2 : decode cX10_number 2 = .ok (.getfield 251, 3) := by decide +kernel
theorem dX10_number_5 : decode cX10_number 5 = .ok (.putfield 263, 3) := by decide +kernel
theorem dX10_number_8 : decode cX10_number 8 = .ok (.iconst 0, 1) := by decide +kernel
theorem dX10_number_9 : decode cX10_number 9 = .ok (.istore_n 3, 1) := by decide +kernel
theorem dX10_number_10 : decode cX10_number 10 = .ok (.aload_n 0, 1) := by decide +kernel
theorem dX10_number_11 : decode cX10_number 11 = .ok (.invokevirtual 254, 3) := by decide +kernel
theorem dX10_number_14 : decode cX10_number 14 = .ok (.i2l, 1) := by decide +kernel
theorem dX10_number_15 : decode cX10_number 15 = .ok (.ldc2_w 266, 3) := by decide +kernel
theorem dX10_number_18 : decode cX10_number 18 = .ok (.ldc2_w 268, 3) := by decide +kernel
theorem dX10_number_21 : decode cX10_number 21 = .ok (.invokestatic 68, 3) := by decide +kernel
theorem dX10_number_24 : decode cX10_number 24 = .ok (.ifCond .eq 42, 3) := by decide +kernel
theorem dX10_number_27 : decode cX10_number 27 = .ok (.aload_n 0, 1) := by decide +kernel
theorem dX10_number_28 : decode cX10_number 28 = .ok (.getfield 251, 3) := by decide +kernel
theorem dX10_number_31 : decode cX10_number 31 = .ok (.aload_n 0, 1) := by decide +kernel
theorem dX10_number_32 : decode cX10_number 32 = .ok (.getfield 263, 3) := by decide +kernel
theorem dX10_number_35 : decode cX10_number 35 = .ok (.isub, 1) := by decide +kernel
theorem dX10_number_36 : decode cX10_number 36 = .ok (.iconst 3, 1) := by decide +kernel
theorem dX10_number_37 : decode cX10_number 37 = .ok (.if_icmp .ge 29, 3) := by decide +kernel
theorem dX10_number_40 : decode cX10_number 40 = .ok (.bipush 10, 2) := by decide +kernel
theorem dX10_number_42 : decode cX10_number 42 = .ok (.iload_n 3, 1) := by decide +kernel
theorem dX10_number_43 : decode cX10_number 43 = .ok (.imul, 1) := by decide +kernel
theorem dX10_number_44 : decode cX10_number 44 = .ok (.aload_n 0, 1) := by decide +kernel
theorem dX10_number_45 : decode cX10_number 45 = .ok (.invokevirtual 254, 3) := by decide +kernel
theorem dX10_number_48 : decode cX10_number 48 = .ok (.iadd, 1) := by decide +kernel
theorem dX10_number_49 : decode cX10_number 49 = .ok (.bipush 48, 2) := by decide +kernel
theorem dX10_number_51 : decode cX10_number 51 = .ok (.isub, 1) := by decide +kernel
theorem dX10_number_52 : decode cX10_number 52 = .ok (.istore_n 3, 1) := by decide +kernel
theorem dX10_number_53 : decode cX10_number 53 = .ok (.aload_n 0, 1) := by decide +kernel
theorem dX10_number_54 : decode cX10_number 54 = .ok (.dup, 1) := by decide +kernel
theorem dX10_number_55 : decode cX10_number 55 = .ok (.getfield 251, 3) := by decide +kernel
theorem dX10_number_58 : decode cX10_number 58 = .ok (.iconst 1, 1) := by decide +kernel
theorem dX10_number_59 : decode cX10_number 59 = .ok (.iadd, 1) := by decide +kernel
theorem dX10_number_60 : decode cX10_number 60 = .ok (.putfield 251, 3) := by decide +kernel
theorem dX10_number_63 : decode cX10_number 63 = .ok (.goto (-53), 3) := by decide +kernel
theorem dX10_number_66 : decode cX10_number 66 = .ok (.aload_n 0, 1) := by decide +kernel
theorem dX10_number_67 : decode cX10_number 67 = .ok (.getfield 251, 3) := by decide +kernel
theorem dX10_number_70 : decode cX10_number 70 = .ok (.aload_n 0, 1) := by decide +kernel
theorem dX10_number_71 : decode cX10_number 71 = .ok (.getfield 263, 3) := by decide +kernel
theorem dX10_number_74 : decode cX10_number 74 = .ok (.if_icmp .eq 15, 3) := by decide +kernel
theorem dX10_number_77 : decode cX10_number 77 = .ok (.iload_n 3, 1) := by decide +kernel
theorem dX10_number_78 : decode cX10_number 78 = .ok (.i2l, 1) := by decide +kernel
theorem dX10_number_79 : decode cX10_number 79 = .ok (.iload_n 1, 1) := by decide +kernel
theorem dX10_number_80 : decode cX10_number 80 = .ok (.i2l, 1) := by decide +kernel
theorem dX10_number_81 : decode cX10_number 81 = .ok (.iload_n 2, 1) := by decide +kernel
theorem dX10_number_82 : decode cX10_number 82 = .ok (.i2l, 1) := by decide +kernel
theorem dX10_number_83 : decode cX10_number 83 = .ok (.invokestatic 68, 3) := by decide +kernel
theorem dX10_number_86 : decode cX10_number 86 = .ok (.ifCond .ne 11, 3) := by decide +kernel
theorem dX10_number_89 : decode cX10_number 89 = .ok (.aload_n 0, 1) := by decide +kernel
theorem dX10_number_90 : decode cX10_number 90 = .ok (.aload_n 0, 1) := by decide +kernel
theorem dX10_number_91 : decode cX10_number 91 = .ok (.getfield 263, 3) := by decide +kernel
theorem dX10_number_94 : decode cX10_number 94 = .ok (.invokevirtual 260, 3) := by decide +kernel
theorem dX10_number_97 : decode cX10_number 97 = .ok (.iload_n 3, 1) := by decide +kernel
theorem dX10_number_98 : decode cX10_number 98 = .ok (.ireturn, 1) := by decide +kernel
theorem dX10_kindLetter_0 : decode cX10_kindLetter 0 = .ok (.iconst 0, 1) := by decide +kernel
theorem dX10_kindLetter_1 : decode cX10_kindLetter 1 = .ok (.istore_n 1, 1) := by decide +kernel
theorem dX10_kindLetter_2 : decode cX10_kindLetter 2 = .ok (.iload_n 1, 1) := by decide +kernel
theorem dX10_kindLetter_3 : decode cX10_kindLetter 3 = .ok (.iconst 4, 1) := by decide +kernel
theorem dX10_kindLetter_4 : decode cX10_kindLetter 4 = .ok (.if_icmp .ge 24, 3) := by decide +kernel
theorem dX10_kindLetter_7 : decode cX10_kindLetter 7 = .ok (.aload_n 0, 1) := by decide +kernel
theorem dX10_kindLetter_8 : decode cX10_kindLetter 8 = .ok (.aload_n 0, 1) := by decide +kernel
theorem dX10_kindLetter_9 : decode cX10_kindLetter 9 = .ok (.getfield 16, 3) := by decide +kernel
theorem dX10_kindLetter_12 : decode cX10_kindLetter 12 = .ok (.iload_n 1, 1) := by decide +kernel
theorem dX10_kindLetter_13 : decode cX10_kindLetter 13 = .ok (.iaload, 1) := by decide +kernel
theorem dX10_kindLetter_14 : decode cX10_kindLetter 14 = .ok (.invokevirtual 257, 3) := by decide +kernel
theorem dX10_kindLetter_17 : decode cX10_kindLetter 17 = .ok (.ifCond .eq 5, 3) := by decide +kernel
theorem dX10_kindLetter_20 : decode cX10_kindLetter 20 = .ok (.iload_n 1, 1) := by decide +kernel
theorem dX10_kindLetter_21 : decode cX10_kindLetter 21 = .ok (.ireturn, 1) := by decide +kernel
theorem dX10_kindLetter_22 : decode cX10_kindLetter 22 = .ok (.iinc 1 1, 3) := by decide +kernel
theorem dX10_kindLetter_25 : decode cX10_kindLetter 25 = .ok (.goto (-23), 3) := by decide +kernel
theorem dX10_kindLetter_28 : decode cX10_kindLetter 28 = .ok (.aload_n 0, 1) := by decide +kernel
theorem dX10_kindLetter_29 : decode cX10_kindLetter 29 = .ok (.aload_n 0, 1) := by decide +kernel
theorem dX10_kindLetter_30 : decode cX10_kindLetter 30 = .ok (.getfield 251, 3) := by decide +kernel
theorem dX10_kindLetter_33 : decode cX10_kindLetter 33 = .ok (.invokevirtual 260, 3) := by decide +kernel
theorem dX10_kindLetter_36 : decode cX10_kindLetter 36 = .ok (.iconst 0, 1) := by decide +kernel
theorem dX10_kindLetter_37 : decode cX10_kindLetter 37 = .ok (.ireturn, 1) := by decide +kernel
theorem dX10_closes_0 : decode cX10_closes 0 = .ok (.aload_n 0, 1) := by decide +kernel
theorem dX10_closes_1 : decode cX10_closes 1 = .ok (.getfield 251, 3) := by decide +kernel
theorem dX10_closes_4 : decode cX10_closes 4 = .ok (.aload_n 0, 1) := by decide +kernel
theorem dX10_closes_5 : decode cX10_closes 5 = .ok (.getfield 245, 3) := by decide +kernel
theorem dX10_closes_8 : decode cX10_closes 8 = .ok (.if_icmp .ge 11, 3) := by decide +kernel
theorem dX10_closes_11 : decode cX10_closes 11 = .ok (.aload_n 0, 1) := by decide +kernel
theorem dX10_closes_12 : decode cX10_closes 12 = .ok (.aload_n 0, 1) := by decide +kernel
theorem dX10_closes_13 : decode cX10_closes 13 = .ok (.getfield 251, 3) := by decide +kernel
theorem dX10_closes_16 : decode cX10_closes 16 = .ok (.invokevirtual 260, 3) := by decide +kernel
theorem dX10_closes_19 : decode cX10_closes 19 = .ok (.aload_n 0, 1) := by decide +kernel
theorem dX10_closes_20 : decode cX10_closes 20 = .ok (.iconst 0, 1) := by decide +kernel
theorem dX10_closes_21 : decode cX10_closes 21 = .ok (.putfield 245, 3) := by decide +kernel
theorem dX10_closes_24 : decode cX10_closes 24 = .ok (.aload_n 0, 1) := by decide +kernel
theorem dX10_closes_25 : decode cX10_closes 25 = .ok (.getfield 248, 3) := by decide +kernel
theorem dX10_closes_28 : decode cX10_closes 28 = .ok (.ifCond .lt 13, 3) := by decide +kernel
theorem dX10_closes_31 : decode cX10_closes 31 = .ok (.bipush (-100), 2) := by decide +kernel
theorem dX10_closes_33 : decode cX10_closes 33 = .ok (.aload_n 0, 1) := by decide +kernel
theorem dX10_closes_34 : decode cX10_closes 34 = .ok (.getfield 248, 3) := by decide +kernel
theorem dX10_closes_37 : decode cX10_closes 37 = .ok (.isub, 1) := by decide +kernel
theorem dX10_closes_38 : decode cX10_closes 38 = .ok (.goto 4, 3) := by decide +kernel
theorem dX10_closes_41 : decode cX10_closes 41 = .ok (.iload_n 1, 1) := by decide +kernel
theorem dX10_closes_42 : decode cX10_closes 42 = .ok (.ireturn, 1) := by decide +kernel
theorem dX10_readsRule_0 : decode cX10_readsRule 0 = .ok (.aload_n 0, 1) := by decide +kernel
theorem dX10_readsRule_1 : decode cX10_readsRule 1 = .ok (.getfield 270, 3) := by decide +kernel
theorem dX10_readsRule_4 : decode cX10_readsRule 4 = .ok (.iload_n 1, 1) := by decide +kernel
theorem dX10_readsRule_5 : decode cX10_readsRule 5 = .ok (.if_icmp .lt 12, 3) := by decide +kernel
theorem dX10_readsRule_8 : decode cX10_readsRule 8 = .ok (.aload_n 0, 1) := by decide +kernel
theorem dX10_readsRule_9 : decode cX10_readsRule 9 = .ok (.aload_n 0, 1) := by decide +kernel
theorem dX10_readsRule_10 : decode cX10_readsRule 10 = .ok (.getfield 251, 3) := by decide +kernel
theorem dX10_readsRule_13 : decode cX10_readsRule 13 = .ok (.invokevirtual 260, 3) := by decide +kernel
theorem dX10_readsRule_16 : decode cX10_readsRule 16 = .ok (.return_, 1) := by decide +kernel
theorem dX10_readsRule_17 : decode cX10_readsRule 17 = .ok (.iconst 3, 1) := by decide +kernel
theorem dX10_readsRule_18 : decode cX10_readsRule 18 = .ok (.aload_n 0, 1) := by decide +kernel
theorem dX10_readsRule_19 : decode cX10_readsRule 19 = .ok (.getfield 270, 3) := by decide +kernel
theorem dX10_readsRule_22 : decode cX10_readsRule 22 = .ok (.imul, 1) := by decide +kernel
theorem dX10_readsRule_23 : decode cX10_readsRule 23 = .ok (.istore_n 2, 1) := by decide +kernel
theorem dX10_readsRule_24 : decode cX10_readsRule 24 = .ok (.aload_n 0, 1) := by decide +kernel
theorem dX10_readsRule_25 : decode cX10_readsRule 25 = .ok (.bipush 100, 2) := by decide +kernel
theorem dX10_readsRule_27 : decode cX10_readsRule 27 = .ok (.invokevirtual 257, 3) := by decide +kernel
theorem dX10_readsRule_30 : decode cX10_readsRule 30 = .ok (.ifCond .eq 58, 3) := by decide +kernel
theorem dX10_readsRule_33 : decode cX10_readsRule 33 = .ok (.aload_n 0, 1) := by decide +kernel
theorem dX10_readsRule_34 : decode cX10_readsRule 34 = .ok (.getfield 47, 3) := by decide +kernel
theorem dX10_readsRule_37 : decode cX10_readsRule 37 = .ok (.iload_n 2, 1) := by decide +kernel
theorem dX10_readsRule_38 : decode cX10_readsRule 38 = .ok (.iconst 0, 1) := by decide +kernel
theorem dX10_readsRule_39 : decode cX10_readsRule 39 = .ok (.iastore, 1) := by decide +kernel
theorem dX10_readsRule_40 : decode cX10_readsRule 40 = .ok (.aload_n 0, 1) := by decide +kernel
theorem dX10_readsRule_41 : decode cX10_readsRule 41 = .ok (.getfield 47, 3) := by decide +kernel
theorem dX10_readsRule_44 : decode cX10_readsRule 44 = .ok (.iload_n 2, 1) := by decide +kernel
theorem dX10_readsRule_45 : decode cX10_readsRule 45 = .ok (.iconst 1, 1) := by decide +kernel
theorem dX10_readsRule_46 : decode cX10_readsRule 46 = .ok (.iadd, 1) := by decide +kernel
theorem dX10_readsRule_47 : decode cX10_readsRule 47 = .ok (.aload_n 0, 1) := by decide +kernel
theorem dX10_readsRule_48 : decode cX10_readsRule 48 = .ok (.iconst 0, 1) := by decide +kernel
theorem dX10_readsRule_49 : decode cX10_readsRule 49 = .ok (.sipush 365, 3) := by decide +kernel
theorem dX10_readsRule_52 : decode cX10_readsRule 52 = .ok (.invokevirtual 273, 3) := by decide +kernel
theorem dX10_readsRule_55 : decode cX10_readsRule 55 = .ok (.iastore, 1) := by decide +kernel
theorem dX10_readsRule_56 : decode cX10_readsRule 56 = .ok (.aload_n 0, 1) := by decide +kernel
theorem dX10_readsRule_57 : decode cX10_readsRule 57 = .ok (.bipush 45, 2) := by decide +kernel
theorem dX10_readsRule_59 : decode cX10_readsRule 59 = .ok (.invokevirtual 276, 3) := by decide +kernel
theorem dX10_readsRule_62 : decode cX10_readsRule 62 = .ok (.aload_n 0, 1) := by decide +kernel
theorem dX10_readsRule_63 : decode cX10_readsRule 63 = .ok (.getfield 47, 3) := by decide +kernel
theorem dX10_readsRule_66 : decode cX10_readsRule 66 = .ok (.iload_n 2, 1) := by decide +kernel
theorem dX10_readsRule_67 : decode cX10_readsRule 67 = .ok (.iconst 2, 1) := by decide +kernel
theorem dX10_readsRule_68 : decode cX10_readsRule 68 = .ok (.iadd, 1) := by decide +kernel
theorem dX10_readsRule_69 : decode cX10_readsRule 69 = .ok (.aload_n 0, 1) := by decide +kernel
theorem dX10_readsRule_70 : decode cX10_readsRule 70 = .ok (.aload_n 0, 1) := by decide +kernel
theorem dX10_readsRule_71 : decode cX10_readsRule 71 = .ok (.getfield 47, 3) := by decide +kernel
theorem dX10_readsRule_74 : decode cX10_readsRule 74 = .ok (.iload_n 2, 1) := by decide +kernel
theorem dX10_readsRule_75 : decode cX10_readsRule 75 = .ok (.iconst 1, 1) := by decide +kernel
theorem dX10_readsRule_76 : decode cX10_readsRule 76 = .ok (.iadd, 1) := by decide +kernel
theorem dX10_readsRule_77 : decode cX10_readsRule 77 = .ok (.iaload, 1) := by decide +kernel
theorem dX10_readsRule_78 : decode cX10_readsRule 78 = .ok (.sipush 365, 3) := by decide +kernel
theorem dX10_readsRule_81 : decode cX10_readsRule 81 = .ok (.invokevirtual 273, 3) := by decide +kernel
theorem dX10_readsRule_84 : decode cX10_readsRule 84 = .ok (.iastore, 1) := by decide +kernel
theorem dX10_readsRule_85 : decode cX10_readsRule 85 = .ok (.goto 91, 3) := by decide +kernel
theorem dX10_readsRule_88 : decode cX10_readsRule 88 = .ok (.aload_n 0, 1) := by decide +kernel
theorem dX10_readsRule_89 : decode cX10_readsRule 89 = .ok (.bipush 107, 2) := by decide +kernel
theorem dX10_readsRule_91 : decode cX10_readsRule 91 = .ok (.invokevirtual 257, 3) := by decide +kernel
theorem dX10_readsRule_94 : decode cX10_readsRule 94 = .ok (.ifCond .eq 25, 3) := by decide +kernel
theorem dX10_readsRule_97 : decode cX10_readsRule 97 = .ok (.aload_n 0, 1) := by decide +kernel
theorem dX10_readsRule_98 : decode cX10_readsRule 98 = .ok (.getfield 47, 3) := by decide +kernel
theorem dX10_readsRule_101 : decode cX10_readsRule 101 = .ok (.iload_n 2, 1) := by decide +kernel
theorem dX10_readsRule_102 : decode cX10_readsRule 102 = .ok (.iconst 1, 1) := by decide +kernel
theorem dX10_readsRule_103 : decode cX10_readsRule 103 = .ok (.iastore, 1) := by decide +kernel
theorem dX10_readsRule_104 : decode cX10_readsRule 104 = .ok (.aload_n 0, 1) := by decide +kernel
theorem dX10_readsRule_105 : decode cX10_readsRule 105 = .ok (.getfield 47, 3) := by decide +kernel
theorem dX10_readsRule_108 : decode cX10_readsRule 108 = .ok (.iload_n 2, 1) := by decide +kernel
theorem dX10_readsRule_109 : decode cX10_readsRule 109 = .ok (.iconst 1, 1) := by decide +kernel
theorem dX10_readsRule_110 : decode cX10_readsRule 110 = .ok (.iadd, 1) := by decide +kernel
theorem dX10_readsRule_111 : decode cX10_readsRule 111 = .ok (.aload_n 0, 1) := by decide +kernel
theorem dX10_readsRule_112 : decode cX10_readsRule 112 = .ok (.invokevirtual 279, 3) := by decide +kernel
theorem dX10_readsRule_115 : decode cX10_readsRule 115 = .ok (.iastore, 1) := by decide +kernel
theorem dX10_readsRule_116 : decode cX10_readsRule 116 = .ok (.goto 60, 3) := by decide +kernel
theorem dX10_readsRule_119 : decode cX10_readsRule 119 = .ok (.aload_n 0, 1) := by decide +kernel
theorem dX10_readsRule_120 : decode cX10_readsRule 120 = .ok (.bipush 114, 2) := by decide +kernel
theorem dX10_readsRule_122 : decode cX10_readsRule 122 = .ok (.invokevirtual 276, 3) := by decide +kernel
theorem dX10_readsRule_125 : decode cX10_readsRule 125 = .ok (.aload_n 0, 1) := by decide +kernel
theorem dX10_readsRule_126 : decode cX10_readsRule 126 = .ok (.getfield 47, 3) := by decide +kernel
theorem dX10_readsRule_129 : decode cX10_readsRule 129 = .ok (.iload_n 2, 1) := by decide +kernel
theorem dX10_readsRule_130 : decode cX10_readsRule 130 = .ok (.iconst 2, 1) := by decide +kernel
theorem dX10_readsRule_131 : decode cX10_readsRule 131 = .ok (.iastore, 1) := by decide +kernel
theorem dX10_readsRule_132 : decode cX10_readsRule 132 = .ok (.aload_n 0, 1) := by decide +kernel
theorem dX10_readsRule_133 : decode cX10_readsRule 133 = .ok (.getfield 47, 3) := by decide +kernel
theorem dX10_readsRule_136 : decode cX10_readsRule 136 = .ok (.iload_n 2, 1) := by decide +kernel
theorem dX10_readsRule_137 : decode cX10_readsRule 137 = .ok (.iconst 1, 1) := by decide +kernel
theorem dX10_readsRule_138 : decode cX10_readsRule 138 = .ok (.iadd, 1) := by decide +kernel
theorem dX10_readsRule_139 : decode cX10_readsRule 139 = .ok (.aload_n 0, 1) := by decide +kernel
theorem dX10_readsRule_140 : decode cX10_readsRule 140 = .ok (.iconst 2, 1) := by decide +kernel
theorem dX10_readsRule_141 : decode cX10_readsRule 141 = .ok (.bipush 9, 2) := by decide +kernel
theorem dX10_readsRule_143 : decode cX10_readsRule 143 = .ok (.invokevirtual 273, 3) := by decide +kernel
theorem dX10_readsRule_146 : decode cX10_readsRule 146 = .ok (.iastore, 1) := by decide +kernel
theorem dX10_readsRule_147 : decode cX10_readsRule 147 = .ok (.aload_n 0, 1) := by decide +kernel
theorem dX10_readsRule_148 : decode cX10_readsRule 148 = .ok (.bipush 58, 2) := by decide +kernel
theorem dX10_readsRule_150 : decode cX10_readsRule 150 = .ok (.invokevirtual 276, 3) := by decide +kernel
theorem dX10_readsRule_153 : decode cX10_readsRule 153 = .ok (.aload_n 0, 1) := by decide +kernel
theorem dX10_readsRule_154 : decode cX10_readsRule 154 = .ok (.getfield 47, 3) := by decide +kernel
theorem dX10_readsRule_157 : decode cX10_readsRule 157 = .ok (.iload_n 2, 1) := by decide +kernel
theorem dX10_readsRule_158 : decode cX10_readsRule 158 = .ok (.iconst 2, 1) := by decide +kernel
theorem dX10_readsRule_159 : decode cX10_readsRule 159 = .ok (.iadd, 1) := by decide +kernel
theorem dX10_readsRule_160 : decode cX10_readsRule 160 = .ok (.aload_n 0, 1) := by decide +kernel
theorem dX10_readsRule_161 : decode cX10_readsRule 161 = .ok (.iconst 0, 1) := by decide +kernel
theorem dX10_readsRule_162 : decode cX10_readsRule 162 = .ok (.aload_n 0, 1) := by decide +kernel
theorem dX10_readsRule_163 : decode cX10_readsRule 163 = .ok (.getfield 47, 3) := by decide +kernel
theorem dX10_readsRule_166 : decode cX10_readsRule 166 = .ok (.iload_n 2, 1) := by decide +kernel
theorem dX10_readsRule_167 : decode cX10_readsRule 167 = .ok (.iconst 1, 1) := by decide +kernel
theorem dX10_readsRule_168 : decode cX10_readsRule 168 = .ok (.iadd, 1) := by decide +kernel
theorem dX10_readsRule_169 : decode cX10_readsRule 169 = .ok (.iaload, 1) := by decide +kernel
theorem dX10_readsRule_170 : decode cX10_readsRule 170 = .ok (.iconst 1, 1) := by decide +kernel
theorem dX10_readsRule_171 : decode cX10_readsRule 171 = .ok (.isub, 1) := by decide +kernel
theorem dX10_readsRule_172 : decode cX10_readsRule 172 = .ok (.invokevirtual 273, 3) := by decide +kernel
theorem dX10_readsRule_175 : decode cX10_readsRule 175 = .ok (.iastore, 1) := by decide +kernel
theorem dX10_readsRule_176 : decode cX10_readsRule 176 = .ok (.aload_n 0, 1) := by decide +kernel
theorem dX10_readsRule_177 : decode cX10_readsRule 177 = .ok (.dup, 1) := by decide +kernel
theorem dX10_readsRule_178 : decode cX10_readsRule 178 = .ok (.getfield 270, 3) := by decide +kernel
theorem dX10_readsRule_181 : decode cX10_readsRule 181 = .ok (.iconst 1, 1) := by decide +kernel
theorem dX10_readsRule_182 : decode cX10_readsRule 182 = .ok (.iadd, 1) := by decide +kernel
theorem dX10_readsRule_183 : decode cX10_readsRule 183 = .ok (.putfield 270, 3) := by decide +kernel
theorem dX10_readsRule_186 : decode cX10_readsRule 186 = .ok (.return_, 1) := by decide +kernel
theorem dX10_rules_0 : decode cX10_rules 0 = .ok (.aload_n 0, 1) := by decide +kernel
theorem dX10_rules_1 : decode cX10_rules 1 = .ok (.iload_n 1, 1) := by decide +kernel
theorem dX10_rules_2 : decode cX10_rules 2 = .ok (.invokevirtual 72, 3) := by decide +kernel
theorem dX10_rules_5 : decode cX10_rules 5 = .ok (.ifCond .ne 5, 3) := by decide +kernel
theorem dX10_rules_8 : decode cX10_rules 8 = .ok (.iconst (-1), 1) := by decide +kernel
theorem dX10_rules_9 : decode cX10_rules 9 = .ok (.ireturn, 1) := by decide +kernel
theorem dX10_rules_10 : decode cX10_rules 10 = .ok (.aload_n 0, 1) := by decide +kernel
theorem dX10_rules_11 : decode cX10_rules 11 = .ok (.iload_n 1, 1) := by decide +kernel
theorem dX10_rules_12 : decode cX10_rules 12 = .ok (.invokevirtual 100, 3) := by decide +kernel
theorem dX10_rules_15 : decode cX10_rules 15 = .ok (.ifCond .ne 6, 3) := by decide +kernel
theorem dX10_rules_18 : decode cX10_rules 18 = .ok (.bipush (-3), 2) := by decide +kernel
theorem dX10_rules_20 : decode cX10_rules 20 = .ok (.ireturn, 1) := by decide +kernel
theorem dX10_rules_21 : decode cX10_rules 21 = .ok (.aload_n 0, 1) := by decide +kernel
theorem dX10_rules_22 : decode cX10_rules 22 = .ok (.invokevirtual 282, 3) := by decide +kernel
theorem dX10_rules_25 : decode cX10_rules 25 = .ok (.aload_n 0, 1) := by decide +kernel
theorem dX10_rules_26 : decode cX10_rules 26 = .ok (.iconst 0, 1) := by decide +kernel
theorem dX10_rules_27 : decode cX10_rules 27 = .ok (.putfield 270, 3) := by decide +kernel
theorem dX10_rules_30 : decode cX10_rules 30 = .ok (.aload_n 0, 1) := by decide +kernel
theorem dX10_rules_31 : decode cX10_rules 31 = .ok (.bipush 8, 2) := by decide +kernel
theorem dX10_rules_33 : decode cX10_rules 33 = .ok (.aload_n 0, 1) := by decide +kernel
theorem dX10_rules_34 : decode cX10_rules 34 = .ok (.getfield 9, 3) := by decide +kernel
theorem dX10_rules_37 : decode cX10_rules 37 = .ok (.bipush 51, 2) := by decide +kernel
theorem dX10_rules_39 : decode cX10_rules 39 = .ok (.iload_n 1, 1) := by decide +kernel
theorem dX10_rules_40 : decode cX10_rules 40 = .ok (.iadd, 1) := by decide +kernel
theorem dX10_rules_41 : decode cX10_rules 41 = .ok (.iaload, 1) := by decide +kernel
theorem dX10_rules_42 : decode cX10_rules 42 = .ok (.isub, 1) := by decide +kernel
theorem dX10_rules_43 : decode cX10_rules 43 = .ok (.invokevirtual 285, 3) := by decide +kernel
theorem dX10_rules_46 : decode cX10_rules 46 = .ok (.aload_n 0, 1) := by decide +kernel
theorem dX10_rules_47 : decode cX10_rules 47 = .ok (.bipush 59, 2) := by decide +kernel
theorem dX10_rules_49 : decode cX10_rules 49 = .ok (.invokevirtual 257, 3) := by decide +kernel
theorem dX10_rules_52 : decode cX10_rules 52 = .ok (.ifCond .ne (-22), 3) := by decide +kernel
theorem dX10_rules_55 : decode cX10_rules 55 = .ok (.aload_n 0, 1) := by decide +kernel
theorem dX10_rules_56 : decode cX10_rules 56 = .ok (.aload_n 0, 1) := by decide +kernel
theorem dX10_rules_57 : decode cX10_rules 57 = .ok (.getfield 270, 3) := by decide +kernel
theorem dX10_rules_60 : decode cX10_rules 60 = .ok (.invokevirtual 288, 3) := by decide +kernel
theorem dX10_rules_63 : decode cX10_rules 63 = .ok (.istore_n 2, 1) := by decide +kernel
theorem dX10_rules_64 : decode cX10_rules 64 = .ok (.iconst 0, 1) := by decide +kernel
theorem dX10_rules_65 : decode cX10_rules 65 = .ok (.istore_n 3, 1) := by decide +kernel
theorem dX10_rules_66 : decode cX10_rules 66 = .ok (.iload_n 3, 1) := by decide +kernel
theorem dX10_rules_67 : decode cX10_rules 67 = .ok (.iconst 3, 1) := by decide +kernel
theorem dX10_rules_68 : decode cX10_rules 68 = .ok (.iload_n 2, 1) := by decide +kernel
theorem dX10_rules_69 : decode cX10_rules 69 = .ok (.imul, 1) := by decide +kernel
theorem dX10_rules_70 : decode cX10_rules 70 = .ok (.if_icmp .ge 41, 3) := by decide +kernel
theorem dX10_rules_73 : decode cX10_rules 73 = .ok (.aload_n 0, 1) := by decide +kernel
theorem dX10_rules_74 : decode cX10_rules 74 = .ok (.getfield 9, 3) := by decide +kernel
theorem dX10_rules_77 : decode cX10_rules 77 = .ok (.bipush 59, 2) := by decide +kernel
theorem dX10_rules_79 : decode cX10_rules 79 = .ok (.bipush 24, 2) := by decide +kernel
theorem dX10_rules_81 : decode cX10_rules 81 = .ok (.iload_n 1, 1) := by decide +kernel
theorem dX10_rules_82 : decode cX10_rules 82 = .ok (.imul, 1) := by decide +kernel
theorem dX10_rules_83 : decode cX10_rules 83 = .ok (.iadd, 1) := by decide +kernel
theorem dX10_rules_84 : decode cX10_rules 84 = .ok (.iconst 3, 1) := by decide +kernel
theorem dX10_rules_85 : decode cX10_rules 85 = .ok (.aload_n 0, 1) := by decide +kernel
theorem dX10_rules_86 : decode cX10_rules 86 = .ok (.getfield 9, 3) := by decide +kernel
theorem dX10_rules_89 : decode cX10_rules 89 = .ok (.bipush 51, 2) := by decide +kernel
theorem dX10_rules_91 : decode cX10_rules 91 = .ok (.iload_n 1, 1) := by decide +kernel
theorem dX10_rules_92 : decode cX10_rules 92 = .ok (.iadd, 1) := by decide +kernel
theorem dX10_rules_93 : decode cX10_rules 93 = .ok (.iaload, 1) := by decide +kernel
theorem dX10_rules_94 : decode cX10_rules 94 = .ok (.imul, 1) := by decide +kernel
theorem dX10_rules_95 : decode cX10_rules 95 = .ok (.iadd, 1) := by decide +kernel
theorem dX10_rules_96 : decode cX10_rules 96 = .ok (.iload_n 3, 1) := by decide +kernel
theorem dX10_rules_97 : decode cX10_rules 97 = .ok (.iadd, 1) := by decide +kernel
theorem dX10_rules_98 : decode cX10_rules 98 = .ok (.aload_n 0, 1) := by decide +kernel
theorem dX10_rules_99 : decode cX10_rules 99 = .ok (.getfield 47, 3) := by decide +kernel
theorem dX10_rules_102 : decode cX10_rules 102 = .ok (.iload_n 3, 1) := by decide +kernel
theorem dX10_rules_103 : decode cX10_rules 103 = .ok (.iaload, 1) := by decide +kernel
theorem dX10_rules_104 : decode cX10_rules 104 = .ok (.iastore, 1) := by decide +kernel
theorem dX10_rules_105 : decode cX10_rules 105 = .ok (.iinc 3 1, 3) := by decide +kernel
theorem dX10_rules_108 : decode cX10_rules 108 = .ok (.goto (-42), 3) := by decide +kernel
theorem dX10_rules_111 : decode cX10_rules 111 = .ok (.aload_n 0, 1) := by decide +kernel
theorem dX10_rules_112 : decode cX10_rules 112 = .ok (.getfield 9, 3) := by decide +kernel
theorem dX10_rules_115 : decode cX10_rules 115 = .ok (.bipush 51, 2) := by decide +kernel
theorem dX10_rules_117 : decode cX10_rules 117 = .ok (.iload_n 1, 1) := by decide +kernel
theorem dX10_rules_118 : decode cX10_rules 118 = .ok (.iadd, 1) := by decide +kernel
theorem dX10_rules_119 : decode cX10_rules 119 = .ok (.dup2, 1) := by decide +kernel
theorem dX10_rules_120 : decode cX10_rules 120 = .ok (.iaload, 1) := by decide +kernel
theorem dX10_rules_121 : decode cX10_rules 121 = .ok (.iload_n 2, 1) := by decide +kernel
theorem dX10_rules_122 : decode cX10_rules 122 = .ok (.ifCond .le 7, 3) := by decide +kernel
theorem dX10_rules_125 : decode cX10_rules 125 = .ok (.iload_n 2, 1) := by decide +kernel
theorem dX10_rules_126 : decode cX10_rules 126 = .ok (.goto 4, 3) := by decide +kernel
theorem dX10_rules_129 : decode cX10_rules 129 = .ok (.iconst 0, 1) := by decide +kernel
theorem dX10_rules_130 : decode cX10_rules 130 = .ok (.iadd, 1) := by decide +kernel
theorem dX10_rules_131 : decode cX10_rules 131 = .ok (.iastore, 1) := by decide +kernel
theorem dX10_rules_132 : decode cX10_rules 132 = .ok (.aload_n 0, 1) := by decide +kernel
theorem dX10_rules_133 : decode cX10_rules 133 = .ok (.iload_n 1, 1) := by decide +kernel
theorem dX10_rules_134 : decode cX10_rules 134 = .ok (.invokevirtual 109, 3) := by decide +kernel
theorem dX10_rules_137 : decode cX10_rules 137 = .ok (.iload_n 2, 1) := by decide +kernel
theorem dX10_rules_138 : decode cX10_rules 138 = .ok (.ireturn, 1) := by decide +kernel
theorem dX10_calendar_0 : decode cX10_calendar 0 = .ok (.aload_n 0, 1) := by decide +kernel
theorem dX10_calendar_1 : decode cX10_calendar 1 = .ok (.invokevirtual 282, 3) := by decide +kernel
theorem dX10_calendar_4 : decode cX10_calendar 4 = .ok (.aload_n 0, 1) := by decide +kernel
theorem dX10_calendar_5 : decode cX10_calendar 5 = .ok (.iconst 0, 1) := by decide +kernel
theorem dX10_calendar_6 : decode cX10_calendar 6 = .ok (.putfield 270, 3) := by decide +kernel
theorem dX10_calendar_9 : decode cX10_calendar 9 = .ok (.aload_n 0, 1) := by decide +kernel
theorem dX10_calendar_10 : decode cX10_calendar 10 = .ok (.getfield 9, 3) := by decide +kernel
theorem dX10_calendar_13 : decode cX10_calendar 13 = .ok (.iconst 2, 1) := by decide +kernel
theorem dX10_calendar_14 : decode cX10_calendar 14 = .ok (.iaload, 1) := by decide +kernel
theorem dX10_calendar_15 : decode cX10_calendar 15 = .ok (.aload_n 0, 1) := by decide +kernel
theorem dX10_calendar_16 : decode cX10_calendar 16 = .ok (.getfield 270, 3) := by decide +kernel
theorem dX10_calendar_19 : decode cX10_calendar 19 = .ok (.iadd, 1) := by decide +kernel
theorem dX10_calendar_20 : decode cX10_calendar 20 = .ok (.bipush 24, 2) := by decide +kernel
theorem dX10_calendar_22 : decode cX10_calendar 22 = .ok (.if_icmp .lt 14, 3) := by decide +kernel
theorem dX10_calendar_25 : decode cX10_calendar 25 = .ok (.aload_n 0, 1) := by decide +kernel
theorem dX10_calendar_26 : decode cX10_calendar 26 = .ok (.aload_n 0, 1) := by decide +kernel
theorem dX10_calendar_27 : decode cX10_calendar 27 = .ok (.getfield 251, 3) := by decide +kernel
theorem dX10_calendar_30 : decode cX10_calendar 30 = .ok (.invokevirtual 260, 3) := by decide +kernel
theorem dX10_calendar_33 : decode cX10_calendar 33 = .ok (.goto 49, 3) := by decide +kernel
theorem dX10_calendar_36 : decode cX10_calendar 36 = .ok (.aload_n 0, 1) := by decide +kernel
theorem dX10_calendar_37 : decode cX10_calendar 37 = .ok (.getfield 47, 3) := by decide +kernel
theorem dX10_calendar_40 : decode cX10_calendar 40 = .ok (.iconst 3, 1) := by decide +kernel
theorem dX10_calendar_41 : decode cX10_calendar 41 = .ok (.aload_n 0, 1) := by decide +kernel
theorem dX10_calendar_42 : decode cX10_calendar 42 = .ok (.getfield 270, 3) := by decide +kernel
theorem dX10_calendar_45 : decode cX10_calendar 45 = .ok (.imul, 1) := by decide +kernel
theorem dX10_calendar_46 : decode cX10_calendar 46 = .ok (.aload_n 0, 1) := by decide +kernel
theorem dX10_calendar_47 : decode cX10_calendar 47 = .ok (.iconst 0, 1) := by decide +kernel
theorem dX10_calendar_48 : decode cX10_calendar 48 = .ok (.sipush 365, 3) := by decide +kernel
theorem dX10_calendar_51 : decode cX10_calendar 51 = .ok (.invokevirtual 273, 3) := by decide +kernel
theorem dX10_calendar_54 : decode cX10_calendar 54 = .ok (.iastore, 1) := by decide +kernel
theorem dX10_calendar_55 : decode cX10_calendar 55 = .ok (.aload_n 0, 1) := by decide +kernel
theorem dX10_calendar_56 : decode cX10_calendar 56 = .ok (.getfield 47, 3) := by decide +kernel
theorem dX10_calendar_59 : decode cX10_calendar 59 = .ok (.iconst 3, 1) := by decide +kernel
theorem dX10_calendar_60 : decode cX10_calendar 60 = .ok (.aload_n 0, 1) := by decide +kernel
theorem dX10_calendar_61 : decode cX10_calendar 61 = .ok (.getfield 270, 3) := by decide +kernel
theorem dX10_calendar_64 : decode cX10_calendar 64 = .ok (.imul, 1) := by decide +kernel
theorem dX10_calendar_65 : decode cX10_calendar 65 = .ok (.iconst 1, 1) := by decide +kernel
theorem dX10_calendar_66 : decode cX10_calendar 66 = .ok (.iadd, 1) := by decide +kernel
theorem dX10_calendar_67 : decode cX10_calendar 67 = .ok (.aload_n 0, 1) := by decide +kernel
theorem dX10_calendar_68 : decode cX10_calendar 68 = .ok (.invokevirtual 279, 3) := by decide +kernel
theorem dX10_calendar_71 : decode cX10_calendar 71 = .ok (.iastore, 1) := by decide +kernel
theorem dX10_calendar_72 : decode cX10_calendar 72 = .ok (.aload_n 0, 1) := by decide +kernel
theorem dX10_calendar_73 : decode cX10_calendar 73 = .ok (.dup, 1) := by decide +kernel
theorem dX10_calendar_74 : decode cX10_calendar 74 = .ok (.getfield 270, 3) := by decide +kernel
theorem dX10_calendar_77 : decode cX10_calendar 77 = .ok (.iconst 1, 1) := by decide +kernel
theorem dX10_calendar_78 : decode cX10_calendar 78 = .ok (.iadd, 1) := by decide +kernel
theorem dX10_calendar_79 : decode cX10_calendar 79 = .ok (.putfield 270, 3) := by decide +kernel
theorem dX10_calendar_82 : decode cX10_calendar 82 = .ok (.aload_n 0, 1) := by decide +kernel
theorem dX10_calendar_83 : decode cX10_calendar 83 = .ok (.bipush 59, 2) := by decide +kernel
theorem dX10_calendar_85 : decode cX10_calendar 85 = .ok (.invokevirtual 257, 3) := by decide +kernel
theorem dX10_calendar_88 : decode cX10_calendar 88 = .ok (.ifCond .ne (-79), 3) := by decide +kernel
theorem dX10_calendar_91 : decode cX10_calendar 91 = .ok (.aload_n 0, 1) := by decide +kernel
theorem dX10_calendar_92 : decode cX10_calendar 92 = .ok (.aload_n 0, 1) := by decide +kernel
theorem dX10_calendar_93 : decode cX10_calendar 93 = .ok (.getfield 270, 3) := by decide +kernel
theorem dX10_calendar_96 : decode cX10_calendar 96 = .ok (.invokevirtual 288, 3) := by decide +kernel
theorem dX10_calendar_99 : decode cX10_calendar 99 = .ok (.istore_n 1, 1) := by decide +kernel
theorem dX10_calendar_100 : decode cX10_calendar 100 = .ok (.iconst 0, 1) := by decide +kernel
theorem dX10_calendar_101 : decode cX10_calendar 101 = .ok (.istore_n 2, 1) := by decide +kernel
theorem dX10_calendar_102 : decode cX10_calendar 102 = .ok (.iload_n 2, 1) := by decide +kernel
theorem dX10_calendar_103 : decode cX10_calendar 103 = .ok (.iload_n 1, 1) := by decide +kernel
theorem dX10_calendar_104 : decode cX10_calendar 104 = .ok (.if_icmp .ge 31, 3) := by decide +kernel
theorem dX10_calendar_107 : decode cX10_calendar 107 = .ok (.aload_n 0, 1) := by decide +kernel
theorem dX10_calendar_108 : decode cX10_calendar 108 = .ok (.aload_n 0, 1) := by decide +kernel
theorem dX10_calendar_109 : decode cX10_calendar 109 = .ok (.getfield 47, 3) := by decide +kernel
theorem dX10_calendar_112 : decode cX10_calendar 112 = .ok (.iconst 3, 1) := by decide +kernel
theorem dX10_calendar_113 : decode cX10_calendar 113 = .ok (.iload_n 2, 1) := by decide +kernel
theorem dX10_calendar_114 : decode cX10_calendar 114 = .ok (.imul, 1) := by decide +kernel
theorem dX10_calendar_115 : decode cX10_calendar 115 = .ok (.iaload, 1) := by decide +kernel
theorem dX10_calendar_116 : decode cX10_calendar 116 = .ok (.aload_n 0, 1) := by decide +kernel
theorem dX10_calendar_117 : decode cX10_calendar 117 = .ok (.getfield 47, 3) := by decide +kernel
theorem dX10_calendar_120 : decode cX10_calendar 120 = .ok (.iconst 3, 1) := by decide +kernel
theorem dX10_calendar_121 : decode cX10_calendar 121 = .ok (.iload_n 2, 1) := by decide +kernel
theorem dX10_calendar_122 : decode cX10_calendar 122 = .ok (.imul, 1) := by decide +kernel
theorem dX10_calendar_123 : decode cX10_calendar 123 = .ok (.iconst 1, 1) := by decide +kernel
theorem dX10_calendar_124 : decode cX10_calendar 124 = .ok (.iadd, 1) := by decide +kernel
theorem dX10_calendar_125 : decode cX10_calendar 125 = .ok (.iaload, 1) := by decide +kernel
theorem dX10_calendar_126 : decode cX10_calendar 126 = .ok (.invokevirtual 137, 3) := by decide +kernel
theorem dX10_calendar_129 : decode cX10_calendar 129 = .ok (.iinc 2 1, 3) := by decide +kernel
theorem dX10_calendar_132 : decode cX10_calendar 132 = .ok (.goto (-30), 3) := by decide +kernel
theorem dX10_calendar_135 : decode cX10_calendar 135 = .ok (.iload_n 1, 1) := by decide +kernel
theorem dX10_calendar_136 : decode cX10_calendar 136 = .ok (.ireturn, 1) := by decide +kernel
theorem dX10_wordEnd_0 : decode cX10_wordEnd 0 = .ok (.aload_n 0, 1) := by decide +kernel
theorem dX10_wordEnd_1 : decode cX10_wordEnd 1 = .ok (.getfield 251, 3) := by decide +kernel
theorem dX10_wordEnd_4 : decode cX10_wordEnd 4 = .ok (.istore_n 1, 1) := by decide +kernel
theorem dX10_wordEnd_5 : decode cX10_wordEnd 5 = .ok (.iload_n 1, 1) := by decide +kernel
theorem dX10_wordEnd_6 : decode cX10_wordEnd 6 = .ok (.aload_n 0, 1) := by decide +kernel
theorem dX10_wordEnd_7 : decode cX10_wordEnd 7 = .ok (.getfield 245, 3) := by decide +kernel
theorem dX10_wordEnd_10 : decode cX10_wordEnd 10 = .ok (.if_icmp .ge 28, 3) := by decide +kernel
theorem dX10_wordEnd_13 : decode cX10_wordEnd 13 = .ok (.aload_n 0, 1) := by decide +kernel
theorem dX10_wordEnd_14 : decode cX10_wordEnd 14 = .ok (.getfield 44, 3) := by decide +kernel
theorem dX10_wordEnd_17 : decode cX10_wordEnd 17 = .ok (.iload_n 1, 1) := by decide +kernel
theorem dX10_wordEnd_18 : decode cX10_wordEnd 18 = .ok (.iaload, 1) := by decide +kernel
theorem dX10_wordEnd_19 : decode cX10_wordEnd 19 = .ok (.i2l, 1) := by decide +kernel
theorem dX10_wordEnd_20 : decode cX10_wordEnd 20 = .ok (.ldc2_w 291, 3) := by decide +kernel
theorem dX10_wordEnd_23 : decode cX10_wordEnd 23 = .ok (.ldc2_w 293, 3) := by decide +kernel
theorem dX10_wordEnd_26 : decode cX10_wordEnd 26 = .ok (.invokestatic 68, 3) := by decide +kernel
theorem dX10_wordEnd_29 : decode cX10_wordEnd 29 = .ok (.ifCond .eq 9, 3) := by decide +kernel
theorem dX10_wordEnd_32 : decode cX10_wordEnd 32 = .ok (.iinc 1 1, 3) := by decide +kernel
theorem dX10_wordEnd_35 : decode cX10_wordEnd 35 = .ok (.goto (-30), 3) := by decide +kernel
theorem dX10_wordEnd_38 : decode cX10_wordEnd 38 = .ok (.iload_n 1, 1) := by decide +kernel
theorem dX10_wordEnd_39 : decode cX10_wordEnd 39 = .ok (.ireturn, 1) := by decide +kernel
theorem dX10_isWord_0 : decode cX10_isWord 0 = .ok (.iload 5, 2) := by decide +kernel
theorem dX10_isWord_2 : decode cX10_isWord 2 = .ok (.ifCond .eq 7, 3) := by decide +kernel
theorem dX10_isWord_5 : decode cX10_isWord 5 = .ok (.iconst 4, 1) := by decide +kernel
theorem dX10_isWord_6 : decode cX10_isWord 6 = .ok (.goto 4, 3) := by decide +kernel
theorem dX10_isWord_9 : decode cX10_isWord 9 = .ok (.iconst 3, 1) := by decide +kernel
theorem dX10_isWord_10 : decode cX10_isWord 10 = .ok (.istore 6, 2) := by decide +kernel
theorem dX10_isWord_12 : decode cX10_isWord 12 = .ok (.iload_n 1, 1) := by decide +kernel
theorem dX10_isWord_13 : decode cX10_isWord 13 = .ok (.aload_n 0, 1) := by decide +kernel
theorem dX10_isWord_14 : decode cX10_isWord 14 = .ok (.getfield 251, 3) := by decide +kernel
theorem dX10_isWord_17 : decode cX10_isWord 17 = .ok (.isub, 1) := by decide +kernel
theorem dX10_isWord_18 : decode cX10_isWord 18 = .ok (.iload 6, 2) := by decide +kernel
theorem dX10_isWord_20 : decode cX10_isWord 20 = .ok (.if_icmp .ne 72, 3) := by decide +kernel
theorem dX10_isWord_23 : decode cX10_isWord 23 = .ok (.aload_n 0, 1) := by decide +kernel
theorem dX10_isWord_24 : decode cX10_isWord 24 = .ok (.getfield 44, 3) := by decide +kernel
theorem dX10_isWord_27 : decode cX10_isWord 27 = .ok (.aload_n 0, 1) := by decide +kernel
theorem dX10_isWord_28 : decode cX10_isWord 28 = .ok (.getfield 251, 3) := by decide +kernel
theorem dX10_isWord_31 : decode cX10_isWord 31 = .ok (.iaload, 1) := by decide +kernel
theorem dX10_isWord_32 : decode cX10_isWord 32 = .ok (.iload_n 2, 1) := by decide +kernel
theorem dX10_isWord_33 : decode cX10_isWord 33 = .ok (.if_icmp .ne 59, 3) := by decide +kernel
theorem dX10_isWord_36 : decode cX10_isWord 36 = .ok (.aload_n 0, 1) := by decide +kernel
theorem dX10_isWord_37 : decode cX10_isWord 37 = .ok (.getfield 44, 3) := by decide +kernel
theorem dX10_isWord_40 : decode cX10_isWord 40 = .ok (.aload_n 0, 1) := by decide +kernel
theorem dX10_isWord_41 : decode cX10_isWord 41 = .ok (.getfield 251, 3) := by decide +kernel
theorem dX10_isWord_44 : decode cX10_isWord 44 = .ok (.iconst 1, 1) := by decide +kernel
theorem dX10_isWord_45 : decode cX10_isWord 45 = .ok (.iadd, 1) := by decide +kernel
theorem dX10_isWord_46 : decode cX10_isWord 46 = .ok (.iaload, 1) := by decide +kernel
theorem dX10_isWord_47 : decode cX10_isWord 47 = .ok (.iload_n 3, 1) := by decide +kernel
theorem dX10_isWord_48 : decode cX10_isWord 48 = .ok (.if_icmp .ne 44, 3) := by decide +kernel
theorem dX10_isWord_51 : decode cX10_isWord 51 = .ok (.aload_n 0, 1) := by decide +kernel
theorem dX10_isWord_52 : decode cX10_isWord 52 = .ok (.getfield 44, 3) := by decide +kernel
theorem dX10_isWord_55 : decode cX10_isWord 55 = .ok (.aload_n 0, 1) := by decide +kernel
theorem dX10_isWord_56 : decode cX10_isWord 56 = .ok (.getfield 251, 3) := by decide +kernel
theorem dX10_isWord_59 : decode cX10_isWord 59 = .ok (.iconst 2, 1) := by decide +kernel
theorem dX10_isWord_60 : decode cX10_isWord 60 = .ok (.iadd, 1) := by decide +kernel
theorem dX10_isWord_61 : decode cX10_isWord 61 = .ok (.iaload, 1) := by decide +kernel
theorem dX10_isWord_62 : decode cX10_isWord 62 = .ok (.iload 4, 2) := by decide +kernel
theorem dX10_isWord_64 : decode cX10_isWord 64 = .ok (.if_icmp .ne 28, 3) := by decide +kernel
theorem dX10_isWord_67 : decode cX10_isWord 67 = .ok (.iload 5, 2) := by decide +kernel
theorem dX10_isWord_69 : decode cX10_isWord 69 = .ok (.ifCond .eq 19, 3) := by decide +kernel
theorem dX10_isWord_72 : decode cX10_isWord 72 = .ok (.aload_n 0, 1) := by decide +kernel
theorem dX10_isWord_73 : decode cX10_isWord 73 = .ok (.getfield 44, 3) := by decide +kernel
theorem dX10_isWord_76 : decode cX10_isWord 76 = .ok (.aload_n 0, 1) := by decide +kernel
theorem dX10_isWord_77 : decode cX10_isWord 77 = .ok (.getfield 251, 3) := by decide +kernel
theorem dX10_isWord_80 : decode cX10_isWord 80 = .ok (.iconst 3, 1) := by decide +kernel
theorem dX10_isWord_81 : decode cX10_isWord 81 = .ok (.iadd, 1) := by decide +kernel
theorem dX10_isWord_82 : decode cX10_isWord 82 = .ok (.iaload, 1) := by decide +kernel
theorem dX10_isWord_83 : decode cX10_isWord 83 = .ok (.iload 5, 2) := by decide +kernel
theorem dX10_isWord_85 : decode cX10_isWord 85 = .ok (.if_icmp .ne 7, 3) := by decide +kernel
theorem dX10_isWord_88 : decode cX10_isWord 88 = .ok (.iconst 1, 1) := by decide +kernel
theorem dX10_isWord_89 : decode cX10_isWord 89 = .ok (.goto 4, 3) := by decide +kernel
theorem dX10_isWord_92 : decode cX10_isWord 92 = .ok (.iconst 0, 1) := by decide +kernel
theorem dX10_isWord_93 : decode cX10_isWord 93 = .ok (.ireturn, 1) := by decide +kernel
theorem dX10_isDislike_0 : decode cX10_isDislike 0 = .ok (.iload_n 1, 1) := by decide +kernel
theorem dX10_isDislike_1 : decode cX10_isDislike 1 = .ok (.aload_n 0, 1) := by decide +kernel
theorem dX10_isDislike_2 : decode cX10_isDislike 2 = .ok (.getfield 251, 3) := by decide +kernel
theorem dX10_isDislike_5 : decode cX10_isDislike 5 = .ok (.isub, 1) := by decide +kernel
theorem dX10_isDislike_6 : decode cX10_isDislike 6 = .ok (.bipush 7, 2) := by decide +kernel
theorem dX10_isDislike_8 : decode cX10_isDislike 8 = .ok (.if_icmp .ne 118, 3) := by decide +kernel
theorem dX10_isDislike_11 : decode cX10_isDislike 11 = .ok (.aload_n 0, 1) := by decide +kernel
theorem dX10_isDislike_12 : decode cX10_isDislike 12 = .ok (.getfield 44, 3) := by decide +kernel
theorem dX10_isDislike_15 : decode cX10_isDislike 15 = .ok (.aload_n 0, 1) := by decide +kernel
theorem dX10_isDislike_16 : decode cX10_isDislike 16 = .ok (.getfield 251, 3) := by decide +kernel
theorem dX10_isDislike_19 : decode cX10_isDislike 19 = .ok (.iaload, 1) := by decide +kernel
theorem dX10_isDislike_20 : decode cX10_isDislike 20 = .ok (.bipush 100, 2) := by decide +kernel
theorem dX10_isDislike_22 : decode cX10_isDislike 22 = .ok (.if_icmp .ne 104, 3) := by decide +kernel
theorem dX10_isDislike_25 : decode cX10_isDislike 25 = .ok (.aload_n 0, 1) := by decide +kernel
theorem dX10_isDislike_26 : decode cX10_isDislike 26 = .ok (.getfield 44, 3) := by decide +kernel
theorem dX10_isDislike_29 : decode cX10_isDislike 29 = .ok (.aload_n 0, 1) := by decide +kernel
theorem dX10_isDislike_30 : decode cX10_isDislike 30 = .ok (.getfield 251, 3) := by decide +kernel
theorem dX10_isDislike_33 : decode cX10_isDislike 33 = .ok (.iconst 1, 1) := by decide +kernel
theorem dX10_isDislike_34 : decode cX10_isDislike 34 = .ok (.iadd, 1) := by decide +kernel
theorem dX10_isDislike_35 : decode cX10_isDislike 35 = .ok (.iaload, 1) := by decide +kernel
theorem dX10_isDislike_36 : decode cX10_isDislike 36 = .ok (.bipush 105, 2) := by decide +kernel
theorem dX10_isDislike_38 : decode cX10_isDislike 38 = .ok (.if_icmp .ne 88, 3) := by decide +kernel
theorem dX10_isDislike_41 : decode cX10_isDislike 41 = .ok (.aload_n 0, 1) := by decide +kernel
theorem dX10_isDislike_42 : decode cX10_isDislike 42 = .ok (.getfield 44, 3) := by decide +kernel
theorem dX10_isDislike_45 : decode cX10_isDislike 45 = .ok (.aload_n 0, 1) := by decide +kernel
theorem dX10_isDislike_46 : decode cX10_isDislike 46 = .ok (.getfield 251, 3) := by decide +kernel
theorem dX10_isDislike_49 : decode cX10_isDislike 49 = .ok (.iconst 2, 1) := by decide +kernel
theorem dX10_isDislike_50 : decode cX10_isDislike 50 = .ok (.iadd, 1) := by decide +kernel
theorem dX10_isDislike_51 : decode cX10_isDislike 51 = .ok (.iaload, 1) := by decide +kernel
theorem dX10_isDislike_52 : decode cX10_isDislike 52 = .ok (.bipush 115, 2) := by decide +kernel
theorem dX10_isDislike_54 : decode cX10_isDislike 54 = .ok (.if_icmp .ne 72, 3) := by decide +kernel
theorem dX10_isDislike_57 : decode cX10_isDislike 57 = .ok (.aload_n 0, 1) := by decide +kernel
theorem dX10_isDislike_58 : decode cX10_isDislike 58 = .ok (.getfield 44, 3) := by decide +kernel
theorem dX10_isDislike_61 : decode cX10_isDislike 61 = .ok (.aload_n 0, 1) := by decide +kernel
theorem dX10_isDislike_62 : decode cX10_isDislike 62 = .ok (.getfield 251, 3) := by decide +kernel
theorem dX10_isDislike_65 : decode cX10_isDislike 65 = .ok (.iconst 3, 1) := by decide +kernel
theorem dX10_isDislike_66 : decode cX10_isDislike 66 = .ok (.iadd, 1) := by decide +kernel
theorem dX10_isDislike_67 : decode cX10_isDislike 67 = .ok (.iaload, 1) := by decide +kernel
theorem dX10_isDislike_68 : decode cX10_isDislike 68 = .ok (.bipush 108, 2) := by decide +kernel
theorem dX10_isDislike_70 : decode cX10_isDislike 70 = .ok (.if_icmp .ne 56, 3) := by decide +kernel
theorem dX10_isDislike_73 : decode cX10_isDislike 73 = .ok (.aload_n 0, 1) := by decide +kernel
theorem dX10_isDislike_74 : decode cX10_isDislike 74 = .ok (.getfield 44, 3) := by decide +kernel
theorem dX10_isDislike_77 : decode cX10_isDislike 77 = .ok (.aload_n 0, 1) := by decide +kernel
theorem dX10_isDislike_78 : decode cX10_isDislike 78 = .ok (.getfield 251, 3) := by decide +kernel
theorem dX10_isDislike_81 : decode cX10_isDislike 81 = .ok (.iconst 4, 1) := by decide +kernel
theorem dX10_isDislike_82 : decode cX10_isDislike 82 = .ok (.iadd, 1) := by decide +kernel
theorem dX10_isDislike_83 : decode cX10_isDislike 83 = .ok (.iaload, 1) := by decide +kernel
theorem dX10_isDislike_84 : decode cX10_isDislike 84 = .ok (.bipush 105, 2) := by decide +kernel
theorem dX10_isDislike_86 : decode cX10_isDislike 86 = .ok (.if_icmp .ne 40, 3) := by decide +kernel
theorem dX10_isDislike_89 : decode cX10_isDislike 89 = .ok (.aload_n 0, 1) := by decide +kernel
theorem dX10_isDislike_90 : decode cX10_isDislike 90 = .ok (.getfield 44, 3) := by decide +kernel
theorem dX10_isDislike_93 : decode cX10_isDislike 93 = .ok (.aload_n 0, 1) := by decide +kernel
theorem dX10_isDislike_94 : decode cX10_isDislike 94 = .ok (.getfield 251, 3) := by decide +kernel
theorem dX10_isDislike_97 : decode cX10_isDislike 97 = .ok (.iconst 5, 1) := by decide +kernel
theorem dX10_isDislike_98 : decode cX10_isDislike 98 = .ok (.iadd, 1) := by decide +kernel
theorem dX10_isDislike_99 : decode cX10_isDislike 99 = .ok (.iaload, 1) := by decide +kernel
theorem dX10_isDislike_100 : decode cX10_isDislike 100 = .ok (.bipush 107, 2) := by decide +kernel
theorem dX10_isDislike_102 : decode cX10_isDislike 102 = .ok (.if_icmp .ne 24, 3) := by decide +kernel
theorem dX10_isDislike_105 : decode cX10_isDislike 105 = .ok (.aload_n 0, 1) := by decide +kernel
theorem dX10_isDislike_106 : decode cX10_isDislike 106 = .ok (.getfield 44, 3) := by decide +kernel
theorem dX10_isDislike_109 : decode cX10_isDislike 109 = .ok (.aload_n 0, 1) := by decide +kernel
theorem dX10_isDislike_110 : decode cX10_isDislike 110 = .ok (.getfield 251, 3) := by decide +kernel
theorem dX10_isDislike_113 : decode cX10_isDislike 113 = .ok (.bipush 6, 2) := by decide +kernel
theorem dX10_isDislike_115 : decode cX10_isDislike 115 = .ok (.iadd, 1) := by decide +kernel
theorem dX10_isDislike_116 : decode cX10_isDislike 116 = .ok (.iaload, 1) := by decide +kernel
theorem dX10_isDislike_117 : decode cX10_isDislike 117 = .ok (.bipush 101, 2) := by decide +kernel
theorem dX10_isDislike_119 : decode cX10_isDislike 119 = .ok (.if_icmp .ne 7, 3) := by decide +kernel
theorem dX10_isDislike_122 : decode cX10_isDislike 122 = .ok (.iconst 1, 1) := by decide +kernel
theorem dX10_isDislike_123 : decode cX10_isDislike 123 = .ok (.goto 4, 3) := by decide +kernel
theorem dX10_isDislike_126 : decode cX10_isDislike 126 = .ok (.iconst 0, 1) := by decide +kernel
theorem dX10_isDislike_127 : decode cX10_isDislike 127 = .ok (.ireturn, 1) := by decide +kernel
theorem dX10_worthOf_0 : decode cX10_worthOf 0 = .ok (.aload_n 0, 1) := by decide +kernel
theorem dX10_worthOf_1 : decode cX10_worthOf 1 = .ok (.aload_n 0, 1) := by decide +kernel
theorem dX10_worthOf_2 : decode cX10_worthOf 2 = .ok (.getfield 295, 3) := by decide +kernel
theorem dX10_worthOf_5 : decode cX10_worthOf 5 = .ok (.invokevirtual 78, 3) := by decide +kernel
theorem dX10_worthOf_8 : decode cX10_worthOf 8 = .ok (.istore_n 2, 1) := by decide +kernel
theorem dX10_worthOf_9 : decode cX10_worthOf 9 = .ok (.aload_n 0, 1) := by decide +kernel
theorem dX10_worthOf_10 : decode cX10_worthOf 10 = .ok (.iload_n 1, 1) := by decide +kernel
theorem dX10_worthOf_11 : decode cX10_worthOf 11 = .ok (.bipush 100, 2) := by decide +kernel
theorem dX10_worthOf_13 : decode cX10_worthOf 13 = .ok (.bipush 97, 2) := by decide +kernel
theorem dX10_worthOf_15 : decode cX10_worthOf 15 = .ok (.bipush 121, 2) := by decide +kernel
theorem dX10_worthOf_17 : decode cX10_worthOf 17 = .ok (.iconst 0, 1) := by decide +kernel
theorem dX10_worthOf_18 : decode cX10_worthOf 18 = .ok (.invokevirtual 298, 3) := by decide +kernel
theorem dX10_worthOf_21 : decode cX10_worthOf 21 = .ok (.ifCond .eq 17, 3) := by decide +kernel
theorem dX10_worthOf_24 : decode cX10_worthOf 24 = .ok (.aload_n 0, 1) := by decide +kernel
theorem dX10_worthOf_25 : decode cX10_worthOf 25 = .ok (.getfield 9, 3) := by decide +kernel
theorem dX10_worthOf_28 : decode cX10_worthOf 28 = .ok (.sipush 251, 3) := by decide +kernel
theorem dX10_worthOf_31 : decode cX10_worthOf 31 = .ok (.aload_n 0, 1) := by decide +kernel
theorem dX10_worthOf_32 : decode cX10_worthOf 32 = .ok (.getfield 295, 3) := by decide +kernel
theorem dX10_worthOf_35 : decode cX10_worthOf 35 = .ok (.iadd, 1) := by decide +kernel
theorem dX10_worthOf_36 : decode cX10_worthOf 36 = .ok (.iaload, 1) := by decide +kernel
theorem dX10_worthOf_37 : decode cX10_worthOf 37 = .ok (.ireturn, 1) := by decide +kernel
theorem dX10_worthOf_38 : decode cX10_worthOf 38 = .ok (.aload_n 0, 1) := by decide +kernel
theorem dX10_worthOf_39 : decode cX10_worthOf 39 = .ok (.iload_n 1, 1) := by decide +kernel
theorem dX10_worthOf_40 : decode cX10_worthOf 40 = .ok (.bipush 107, 2) := by decide +kernel
theorem dX10_worthOf_42 : decode cX10_worthOf 42 = .ok (.bipush 105, 2) := by decide +kernel
theorem dX10_worthOf_44 : decode cX10_worthOf 44 = .ok (.bipush 110, 2) := by decide +kernel
theorem dX10_worthOf_46 : decode cX10_worthOf 46 = .ok (.bipush 100, 2) := by decide +kernel
theorem dX10_worthOf_48 : decode cX10_worthOf 48 = .ok (.invokevirtual 298, 3) := by decide +kernel
theorem dX10_worthOf_51 : decode cX10_worthOf 51 = .ok (.ifCond .eq 17, 3) := by decide +kernel
theorem dX10_worthOf_54 : decode cX10_worthOf 54 = .ok (.aload_n 0, 1) := by decide +kernel
theorem dX10_worthOf_55 : decode cX10_worthOf 55 = .ok (.getfield 9, 3) := by decide +kernel
theorem dX10_worthOf_58 : decode cX10_worthOf 58 = .ok (.sipush 275, 3) := by decide +kernel
theorem dX10_worthOf_61 : decode cX10_worthOf 61 = .ok (.aload_n 0, 1) := by decide +kernel
theorem dX10_worthOf_62 : decode cX10_worthOf 62 = .ok (.getfield 295, 3) := by decide +kernel
theorem dX10_worthOf_65 : decode cX10_worthOf 65 = .ok (.iadd, 1) := by decide +kernel
theorem dX10_worthOf_66 : decode cX10_worthOf 66 = .ok (.iaload, 1) := by decide +kernel
theorem dX10_worthOf_67 : decode cX10_worthOf 67 = .ok (.ireturn, 1) := by decide +kernel
theorem dX10_worthOf_68 : decode cX10_worthOf 68 = .ok (.aload_n 0, 1) := by decide +kernel
theorem dX10_worthOf_69 : decode cX10_worthOf 69 = .ok (.iload_n 1, 1) := by decide +kernel
theorem dX10_worthOf_70 : decode cX10_worthOf 70 = .ok (.bipush 119, 2) := by decide +kernel
theorem dX10_worthOf_72 : decode cX10_worthOf 72 = .ok (.bipush 104, 2) := by decide +kernel
theorem dX10_worthOf_74 : decode cX10_worthOf 74 = .ok (.bipush 111, 2) := by decide +kernel
theorem dX10_worthOf_76 : decode cX10_worthOf 76 = .ok (.iconst 0, 1) := by decide +kernel
theorem dX10_worthOf_77 : decode cX10_worthOf 77 = .ok (.invokevirtual 298, 3) := by decide +kernel
theorem dX10_worthOf_80 : decode cX10_worthOf 80 = .ok (.ifCond .eq 14, 3) := by decide +kernel
theorem dX10_worthOf_83 : decode cX10_worthOf 83 = .ok (.iload_n 2, 1) := by decide +kernel
theorem dX10_worthOf_84 : decode cX10_worthOf 84 = .ok (.ifCond .ge 8, 3) := by decide +kernel
theorem dX10_worthOf_87 : decode cX10_worthOf 87 = .ok (.bipush 10, 2) := by decide +kernel
theorem dX10_worthOf_89 : decode cX10_worthOf 89 = .ok (.goto 4, 3) := by decide +kernel
theorem dX10_worthOf_92 : decode cX10_worthOf 92 = .ok (.iload_n 2, 1) := by decide +kernel
theorem dX10_worthOf_93 : decode cX10_worthOf 93 = .ok (.ireturn, 1) := by decide +kernel
theorem dX10_worthOf_94 : decode cX10_worthOf 94 = .ok (.aload_n 0, 1) := by decide +kernel
theorem dX10_worthOf_95 : decode cX10_worthOf 95 = .ok (.iload_n 1, 1) := by decide +kernel
theorem dX10_worthOf_96 : decode cX10_worthOf 96 = .ok (.bipush 104, 2) := by decide +kernel
theorem dX10_worthOf_98 : decode cX10_worthOf 98 = .ok (.bipush 101, 2) := by decide +kernel
theorem dX10_worthOf_100 : decode cX10_worthOf 100 = .ok (.bipush 108, 2) := by decide +kernel
theorem dX10_worthOf_102 : decode cX10_worthOf 102 = .ok (.bipush 100, 2) := by decide +kernel
theorem dX10_worthOf_104 : decode cX10_worthOf 104 = .ok (.invokevirtual 298, 3) := by decide +kernel
theorem dX10_worthOf_107 : decode cX10_worthOf 107 = .ok (.ifCond .eq 13, 3) := by decide +kernel
theorem dX10_worthOf_110 : decode cX10_worthOf 110 = .ok (.iload_n 2, 1) := by decide +kernel
theorem dX10_worthOf_111 : decode cX10_worthOf 111 = .ok (.ifCond .ge 7, 3) := by decide +kernel
theorem dX10_worthOf_114 : decode cX10_worthOf 114 = .ok (.iconst 0, 1) := by decide +kernel
theorem dX10_worthOf_115 : decode cX10_worthOf 115 = .ok (.goto 4, 3) := by decide +kernel
theorem dX10_worthOf_118 : decode cX10_worthOf 118 = .ok (.iconst 1, 1) := by decide +kernel
theorem dX10_worthOf_119 : decode cX10_worthOf 119 = .ok (.ireturn, 1) := by decide +kernel
theorem dX10_worthOf_120 : decode cX10_worthOf 120 = .ok (.aload_n 0, 1) := by decide +kernel
theorem dX10_worthOf_121 : decode cX10_worthOf 121 = .ok (.iload_n 1, 1) := by decide +kernel
theorem dX10_worthOf_122 : decode cX10_worthOf 122 = .ok (.bipush 119, 2) := by decide +kernel
theorem dX10_worthOf_124 : decode cX10_worthOf 124 = .ok (.bipush 101, 2) := by decide +kernel
theorem dX10_worthOf_126 : decode cX10_worthOf 126 = .ok (.bipush 101, 2) := by decide +kernel
theorem dX10_worthOf_128 : decode cX10_worthOf 128 = .ok (.bipush 107, 2) := by decide +kernel
theorem dX10_worthOf_130 : decode cX10_worthOf 130 = .ok (.invokevirtual 298, 3) := by decide +kernel
theorem dX10_worthOf_133 : decode cX10_worthOf 133 = .ok (.ifCond .eq 20, 3) := by decide +kernel
theorem dX10_worthOf_136 : decode cX10_worthOf 136 = .ok (.aload_n 0, 1) := by decide +kernel
theorem dX10_worthOf_137 : decode cX10_worthOf 137 = .ok (.getfield 9, 3) := by decide +kernel
theorem dX10_worthOf_140 : decode cX10_worthOf 140 = .ok (.sipush 251, 3) := by decide +kernel
theorem dX10_worthOf_143 : decode cX10_worthOf 143 = .ok (.aload_n 0, 1) := by decide +kernel
theorem dX10_worthOf_144 : decode cX10_worthOf 144 = .ok (.getfield 295, 3) := by decide +kernel
theorem dX10_worthOf_147 : decode cX10_worthOf 147 = .ok (.iadd, 1) := by decide +kernel
theorem dX10_worthOf_148 : decode cX10_worthOf 148 = .ok (.iaload, 1) := by decide +kernel
theorem dX10_worthOf_149 : decode cX10_worthOf 149 = .ok (.bipush 7, 2) := by decide +kernel
theorem dX10_worthOf_151 : decode cX10_worthOf 151 = .ok (.idiv, 1) := by decide +kernel
theorem dX10_worthOf_152 : decode cX10_worthOf 152 = .ok (.ireturn, 1) := by decide +kernel
theorem dX10_worthOf_153 : decode cX10_worthOf 153 = .ok (.aload_n 0, 1) := by decide +kernel
theorem dX10_worthOf_154 : decode cX10_worthOf 154 = .ok (.iload_n 1, 1) := by decide +kernel
theorem dX10_worthOf_155 : decode cX10_worthOf 155 = .ok (.invokevirtual 302, 3) := by decide +kernel
theorem dX10_worthOf_158 : decode cX10_worthOf 158 = .ok (.ifCond .eq 23, 3) := by decide +kernel
theorem dX10_worthOf_161 : decode cX10_worthOf 161 = .ok (.iload_n 2, 1) := by decide +kernel
theorem dX10_worthOf_162 : decode cX10_worthOf 162 = .ok (.ifCond .ge 7, 3) := by decide +kernel
theorem dX10_worthOf_165 : decode cX10_worthOf 165 = .ok (.iconst 0, 1) := by decide +kernel
theorem dX10_worthOf_166 : decode cX10_worthOf 166 = .ok (.goto 16, 3) := by decide +kernel
theorem dX10_worthOf_169 : decode cX10_worthOf 169 = .ok (.aload_n 0, 1) := by decide +kernel
theorem dX10_worthOf_170 : decode cX10_worthOf 170 = .ok (.iload_n 2, 1) := by decide +kernel
theorem dX10_worthOf_171 : decode cX10_worthOf 171 = .ok (.aload_n 0, 1) := by decide +kernel
theorem dX10_worthOf_172 : decode cX10_worthOf 172 = .ok (.getfield 295, 3) := by decide +kernel
theorem dX10_worthOf_175 : decode cX10_worthOf 175 = .ok (.invokevirtual 197, 3) := by decide +kernel
theorem dX10_worthOf_178 : decode cX10_worthOf 178 = .ok (.goto 4, 3) := by decide +kernel
theorem dX10_worthOf_181 : decode cX10_worthOf 181 = .ok (.iconst (-1), 1) := by decide +kernel
theorem dX10_worthOf_182 : decode cX10_worthOf 182 = .ok (.ireturn, 1) := by decide +kernel
theorem dX10_compared_0 : decode cX10_compared 0 = .ok (.aload_n 0, 1) := by decide +kernel
theorem dX10_compared_1 : decode cX10_compared 1 = .ok (.invokevirtual 305, 3) := by decide +kernel
theorem dX10_compared_4 : decode cX10_compared 4 = .ok (.istore_n 1, 1) := by decide +kernel
theorem dX10_compared_5 : decode cX10_compared 5 = .ok (.aload_n 0, 1) := by decide +kernel
theorem dX10_compared_6 : decode cX10_compared 6 = .ok (.getfield 248, 3) := by decide +kernel
theorem dX10_compared_9 : decode cX10_compared 9 = .ok (.ifCond .ge 11, 3) := by decide +kernel
theorem dX10_compared_12 : decode cX10_compared 12 = .ok (.aload_n 0, 1) := by decide +kernel
theorem dX10_compared_13 : decode cX10_compared 13 = .ok (.iload_n 1, 1) := by decide +kernel
theorem dX10_compared_14 : decode cX10_compared 14 = .ok (.invokevirtual 308, 3) := by decide +kernel
theorem dX10_compared_17 : decode cX10_compared 17 = .ok (.goto 4, 3) := by decide +kernel
theorem dX10_compared_20 : decode cX10_compared 20 = .ok (.iconst 0, 1) := by decide +kernel
theorem dX10_compared_21 : decode cX10_compared 21 = .ok (.istore_n 2, 1) := by decide +kernel
theorem dX10_compared_22 : decode cX10_compared 22 = .ok (.iload_n 2, 1) := by decide +kernel
theorem dX10_compared_23 : decode cX10_compared 23 = .ok (.ifCond .ge 11, 3) := by decide +kernel
theorem dX10_compared_26 : decode cX10_compared 26 = .ok (.aload_n 0, 1) := by decide +kernel
theorem dX10_compared_27 : decode cX10_compared 27 = .ok (.aload_n 0, 1) := by decide +kernel
theorem dX10_compared_28 : decode cX10_compared 28 = .ok (.getfield 251, 3) := by decide +kernel
theorem dX10_compared_31 : decode cX10_compared 31 = .ok (.invokevirtual 260, 3) := by decide +kernel
theorem dX10_compared_34 : decode cX10_compared 34 = .ok (.aload_n 0, 1) := by decide +kernel
theorem dX10_compared_35 : decode cX10_compared 35 = .ok (.aload_n 0, 1) := by decide +kernel
theorem dX10_compared_36 : decode cX10_compared 36 = .ok (.getfield 248, 3) := by decide +kernel
theorem dX10_compared_39 : decode cX10_compared 39 = .ok (.ifCond .ge 7, 3) := by decide +kernel
theorem dX10_compared_42 : decode cX10_compared 42 = .ok (.iload_n 1, 1) := by decide +kernel
theorem dX10_compared_43 : decode cX10_compared 43 = .ok (.goto 7, 3) := by decide +kernel
theorem dX10_compared_46 : decode cX10_compared 46 = .ok (.aload_n 0, 1) := by decide +kernel
theorem dX10_compared_47 : decode cX10_compared 47 = .ok (.getfield 251, 3) := by decide +kernel
theorem dX10_compared_50 : decode cX10_compared 50 = .ok (.putfield 251, 3) := by decide +kernel
theorem dX10_compared_53 : decode cX10_compared 53 = .ok (.aload_n 0, 1) := by decide +kernel
theorem dX10_compared_54 : decode cX10_compared 54 = .ok (.invokevirtual 254, 3) := by decide +kernel
theorem dX10_compared_57 : decode cX10_compared 57 = .ok (.istore_n 3, 1) := by decide +kernel
theorem dX10_compared_58 : decode cX10_compared 58 = .ok (.iload_n 3, 1) := by decide +kernel
theorem dX10_compared_59 : decode cX10_compared 59 = .ok (.bipush 60, 2) := by decide +kernel
theorem dX10_compared_61 : decode cX10_compared 61 = .ok (.if_icmp .eq 23, 3) := by decide +kernel
theorem dX10_compared_64 : decode cX10_compared 64 = .ok (.iload_n 3, 1) := by decide +kernel
theorem dX10_compared_65 : decode cX10_compared 65 = .ok (.bipush 61, 2) := by decide +kernel
theorem dX10_compared_67 : decode cX10_compared 67 = .ok (.if_icmp .eq 17, 3) := by decide +kernel
theorem dX10_compared_70 : decode cX10_compared 70 = .ok (.iload_n 3, 1) := by decide +kernel
theorem dX10_compared_71 : decode cX10_compared 71 = .ok (.bipush 62, 2) := by decide +kernel
theorem dX10_compared_73 : decode cX10_compared 73 = .ok (.if_icmp .eq 11, 3) := by decide +kernel
theorem dX10_compared_76 : decode cX10_compared 76 = .ok (.aload_n 0, 1) := by decide +kernel
theorem dX10_compared_77 : decode cX10_compared 77 = .ok (.aload_n 0, 1) := by decide +kernel
theorem dX10_compared_78 : decode cX10_compared 78 = .ok (.getfield 251, 3) := by decide +kernel
theorem dX10_compared_81 : decode cX10_compared 81 = .ok (.invokevirtual 260, 3) := by decide +kernel
theorem dX10_compared_84 : decode cX10_compared 84 = .ok (.aload_n 0, 1) := by decide +kernel
theorem dX10_compared_85 : decode cX10_compared 85 = .ok (.dup, 1) := by decide +kernel
theorem dX10_compared_86 : decode cX10_compared 86 = .ok (.getfield 251, 3) := by decide +kernel
theorem dX10_compared_89 : decode cX10_compared 89 = .ok (.aload_n 0, 1) := by decide +kernel
theorem dX10_compared_90 : decode cX10_compared 90 = .ok (.getfield 248, 3) := by decide +kernel
theorem dX10_compared_93 : decode cX10_compared 93 = .ok (.ifCond .ge 7, 3) := by decide +kernel
theorem dX10_compared_96 : decode cX10_compared 96 = .ok (.iconst 1, 1) := by decide +kernel
theorem dX10_compared_97 : decode cX10_compared 97 = .ok (.goto 4, 3) := by decide +kernel
theorem dX10_compared_100 : decode cX10_compared 100 = .ok (.iconst 0, 1) := by decide +kernel
theorem dX10_compared_101 : decode cX10_compared 101 = .ok (.iadd, 1) := by decide +kernel
theorem dX10_compared_102 : decode cX10_compared 102 = .ok (.putfield 251, 3) := by decide +kernel
theorem dX10_compared_105 : decode cX10_compared 105 = .ok (.aload_n 0, 1) := by decide +kernel
theorem dX10_compared_106 : decode cX10_compared 106 = .ok (.iconst 0, 1) := by decide +kernel
theorem dX10_compared_107 : decode cX10_compared 107 = .ok (.sipush 999, 3) := by decide +kernel
theorem dX10_compared_110 : decode cX10_compared 110 = .ok (.invokevirtual 273, 3) := by decide +kernel
theorem dX10_compared_113 : decode cX10_compared 113 = .ok (.istore 4, 2) := by decide +kernel
theorem dX10_compared_115 : decode cX10_compared 115 = .ok (.iload_n 3, 1) := by decide +kernel
theorem dX10_compared_116 : decode cX10_compared 116 = .ok (.bipush 60, 2) := by decide +kernel
theorem dX10_compared_118 : decode cX10_compared 118 = .ok (.if_icmp .ne 17, 3) := by decide +kernel
theorem dX10_compared_121 : decode cX10_compared 121 = .ok (.iload_n 2, 1) := by decide +kernel
theorem dX10_compared_122 : decode cX10_compared 122 = .ok (.iload 4, 2) := by decide +kernel
theorem dX10_compared_124 : decode cX10_compared 124 = .ok (.if_icmp .ge 7, 3) := by decide +kernel
theorem dX10_compared_127 : decode cX10_compared 127 = .ok (.iconst 1, 1) := by decide +kernel
theorem dX10_compared_128 : decode cX10_compared 128 = .ok (.goto 38, 3) := by decide +kernel
theorem dX10_compared_131 : decode cX10_compared 131 = .ok (.iconst 0, 1) := by decide +kernel
theorem dX10_compared_132 : decode cX10_compared 132 = .ok (.goto 34, 3) := by decide +kernel
theorem dX10_compared_135 : decode cX10_compared 135 = .ok (.iload_n 3, 1) := by decide +kernel
theorem dX10_compared_136 : decode cX10_compared 136 = .ok (.bipush 61, 2) := by decide +kernel
theorem dX10_compared_138 : decode cX10_compared 138 = .ok (.if_icmp .ne 17, 3) := by decide +kernel
theorem dX10_compared_141 : decode cX10_compared 141 = .ok (.iload_n 2, 1) := by decide +kernel
theorem dX10_compared_142 : decode cX10_compared 142 = .ok (.iload 4, 2) := by decide +kernel
theorem dX10_compared_144 : decode cX10_compared 144 = .ok (.if_icmp .ne 7, 3) := by decide +kernel
theorem dX10_compared_147 : decode cX10_compared 147 = .ok (.iconst 1, 1) := by decide +kernel
theorem dX10_compared_148 : decode cX10_compared 148 = .ok (.goto 18, 3) := by decide +kernel
theorem dX10_compared_151 : decode cX10_compared 151 = .ok (.iconst 0, 1) := by decide +kernel
theorem dX10_compared_152 : decode cX10_compared 152 = .ok (.goto 14, 3) := by decide +kernel
theorem dX10_compared_155 : decode cX10_compared 155 = .ok (.iload_n 2, 1) := by decide +kernel
theorem dX10_compared_156 : decode cX10_compared 156 = .ok (.iload 4, 2) := by decide +kernel
theorem dX10_compared_158 : decode cX10_compared 158 = .ok (.if_icmp .le 7, 3) := by decide +kernel
theorem dX10_compared_161 : decode cX10_compared 161 = .ok (.iconst 1, 1) := by decide +kernel
theorem dX10_compared_162 : decode cX10_compared 162 = .ok (.goto 4, 3) := by decide +kernel
theorem dX10_compared_165 : decode cX10_compared 165 = .ok (.iconst 0, 1) := by decide +kernel
theorem dX10_compared_166 : decode cX10_compared 166 = .ok (.ireturn, 1) := by decide +kernel
theorem dX10_factor_0 : decode cX10_factor 0 = .ok (.aload_n 0, 1) := by decide +kernel
theorem dX10_factor_1 : decode cX10_factor 1 = .ok (.getfield 311, 3) := by decide +kernel
theorem dX10_factor_4 : decode cX10_factor 4 = .ok (.iconst 4, 1) := by decide +kernel
theorem dX10_factor_5 : decode cX10_factor 5 = .ok (.if_icmp .ge 47, 3) := by decide +kernel
theorem dX10_factor_8 : decode cX10_factor 8 = .ok (.aload_n 0, 1) := by decide +kernel
theorem dX10_factor_9 : decode cX10_factor 9 = .ok (.bipush 33, 2) := by decide +kernel
theorem dX10_factor_11 : decode cX10_factor 11 = .ok (.invokevirtual 257, 3) := by decide +kernel
theorem dX10_factor_14 : decode cX10_factor 14 = .ok (.ifCond .eq 38, 3) := by decide +kernel
theorem dX10_factor_17 : decode cX10_factor 17 = .ok (.aload_n 0, 1) := by decide +kernel
theorem dX10_factor_18 : decode cX10_factor 18 = .ok (.dup, 1) := by decide +kernel
theorem dX10_factor_19 : decode cX10_factor 19 = .ok (.getfield 311, 3) := by decide +kernel
theorem dX10_factor_22 : decode cX10_factor 22 = .ok (.iconst 1, 1) := by decide +kernel
theorem dX10_factor_23 : decode cX10_factor 23 = .ok (.iadd, 1) := by decide +kernel
theorem dX10_factor_24 : decode cX10_factor 24 = .ok (.putfield 311, 3) := by decide +kernel
theorem dX10_factor_27 : decode cX10_factor 27 = .ok (.aload_n 0, 1) := by decide +kernel
theorem dX10_factor_28 : decode cX10_factor 28 = .ok (.invokevirtual 314, 3) := by decide +kernel
theorem dX10_factor_31 : decode cX10_factor 31 = .ok (.istore_n 1, 1) := by decide +kernel
theorem dX10_factor_32 : decode cX10_factor 32 = .ok (.aload_n 0, 1) := by decide +kernel
theorem dX10_factor_33 : decode cX10_factor 33 = .ok (.dup, 1) := by decide +kernel
theorem dX10_factor_34 : decode cX10_factor 34 = .ok (.getfield 311, 3) := by decide +kernel
theorem dX10_factor_37 : decode cX10_factor 37 = .ok (.iconst 1, 1) := by decide +kernel
theorem dX10_factor_38 : decode cX10_factor 38 = .ok (.isub, 1) := by decide +kernel
theorem dX10_factor_39 : decode cX10_factor 39 = .ok (.putfield 311, 3) := by decide +kernel
theorem dX10_factor_42 : decode cX10_factor 42 = .ok (.iload_n 1, 1) := by decide +kernel
theorem dX10_factor_43 : decode cX10_factor 43 = .ok (.ifCond .ne 7, 3) := by decide +kernel
theorem dX10_factor_46 : decode cX10_factor 46 = .ok (.iconst 1, 1) := by decide +kernel
theorem dX10_factor_47 : decode cX10_factor 47 = .ok (.goto 4, 3) := by decide +kernel
theorem dX10_factor_50 : decode cX10_factor 50 = .ok (.iconst 0, 1) := by decide +kernel
theorem dX10_factor_51 : decode cX10_factor 51 = .ok (.ireturn, 1) := by decide +kernel
theorem dX10_factor_52 : decode cX10_factor 52 = .ok (.aload_n 0, 1) := by decide +kernel
theorem dX10_factor_53 : decode cX10_factor 53 = .ok (.getfield 311, 3) := by decide +kernel
theorem dX10_factor_56 : decode cX10_factor 56 = .ok (.iconst 4, 1) := by decide +kernel
theorem dX10_factor_57 : decode cX10_factor 57 = .ok (.if_icmp .ge 45, 3) := by decide +kernel
theorem dX10_factor_60 : decode cX10_factor 60 = .ok (.aload_n 0, 1) := by decide +kernel
theorem dX10_factor_61 : decode cX10_factor 61 = .ok (.bipush 40, 2) := by decide +kernel
theorem dX10_factor_63 : decode cX10_factor 63 = .ok (.invokevirtual 257, 3) := by decide +kernel
theorem dX10_factor_66 : decode cX10_factor 66 = .ok (.ifCond .eq 36, 3) := by decide +kernel
theorem dX10_factor_69 : decode cX10_factor 69 = .ok (.aload_n 0, 1) := by decide +kernel
theorem dX10_factor_70 : decode cX10_factor 70 = .ok (.dup, 1) := by decide +kernel
theorem dX10_factor_71 : decode cX10_factor 71 = .ok (.getfield 311, 3) := by decide +kernel
theorem dX10_factor_74 : decode cX10_factor 74 = .ok (.iconst 1, 1) := by decide +kernel
theorem dX10_factor_75 : decode cX10_factor 75 = .ok (.iadd, 1) := by decide +kernel
theorem dX10_factor_76 : decode cX10_factor 76 = .ok (.putfield 311, 3) := by decide +kernel
theorem dX10_factor_79 : decode cX10_factor 79 = .ok (.aload_n 0, 1) := by decide +kernel
theorem dX10_factor_80 : decode cX10_factor 80 = .ok (.invokevirtual 318, 3) := by decide +kernel
theorem dX10_factor_83 : decode cX10_factor 83 = .ok (.istore_n 1, 1) := by decide +kernel
theorem dX10_factor_84 : decode cX10_factor 84 = .ok (.aload_n 0, 1) := by decide +kernel
theorem dX10_factor_85 : decode cX10_factor 85 = .ok (.bipush 41, 2) := by decide +kernel
theorem dX10_factor_87 : decode cX10_factor 87 = .ok (.invokevirtual 276, 3) := by decide +kernel
theorem dX10_factor_90 : decode cX10_factor 90 = .ok (.aload_n 0, 1) := by decide +kernel
theorem dX10_factor_91 : decode cX10_factor 91 = .ok (.dup, 1) := by decide +kernel
theorem dX10_factor_92 : decode cX10_factor 92 = .ok (.getfield 311, 3) := by decide +kernel
theorem dX10_factor_95 : decode cX10_factor 95 = .ok (.iconst 1, 1) := by decide +kernel
theorem dX10_factor_96 : decode cX10_factor 96 = .ok (.isub, 1) := by decide +kernel
theorem dX10_factor_97 : decode cX10_factor 97 = .ok (.putfield 311, 3) := by decide +kernel
theorem dX10_factor_100 : decode cX10_factor 100 = .ok (.iload_n 1, 1) := by decide +kernel
theorem dX10_factor_101 : decode cX10_factor 101 = .ok (.ireturn, 1) := by decide +kernel
theorem dX10_factor_102 : decode cX10_factor 102 = .ok (.aload_n 0, 1) := by decide +kernel
theorem dX10_factor_103 : decode cX10_factor 103 = .ok (.invokevirtual 321, 3) := by decide +kernel
theorem dX10_factor_106 : decode cX10_factor 106 = .ok (.ireturn, 1) := by decide +kernel
theorem dX10_both_0 : decode cX10_both 0 = .ok (.aload_n 0, 1) := by decide +kernel
theorem dX10_both_1 : decode cX10_both 1 = .ok (.invokevirtual 314, 3) := by decide +kernel
theorem dX10_both_4 : decode cX10_both 4 = .ok (.istore_n 1, 1) := by decide +kernel
theorem dX10_both_5 : decode cX10_both 5 = .ok (.aload_n 0, 1) := by decide +kernel
theorem dX10_both_6 : decode cX10_both 6 = .ok (.bipush 38, 2) := by decide +kernel
theorem dX10_both_8 : decode cX10_both 8 = .ok (.invokevirtual 257, 3) := by decide +kernel
theorem dX10_both_11 : decode cX10_both 11 = .ok (.ifCond .eq 25, 3) := by decide +kernel
theorem dX10_both_14 : decode cX10_both 14 = .ok (.aload_n 0, 1) := by decide +kernel
theorem dX10_both_15 : decode cX10_both 15 = .ok (.invokevirtual 314, 3) := by decide +kernel
theorem dX10_both_18 : decode cX10_both 18 = .ok (.istore_n 2, 1) := by decide +kernel
theorem dX10_both_19 : decode cX10_both 19 = .ok (.iload_n 1, 1) := by decide +kernel
theorem dX10_both_20 : decode cX10_both 20 = .ok (.ifCond .eq 11, 3) := by decide +kernel
theorem dX10_both_23 : decode cX10_both 23 = .ok (.iload_n 2, 1) := by decide +kernel
theorem dX10_both_24 : decode cX10_both 24 = .ok (.ifCond .eq 7, 3) := by decide +kernel
theorem dX10_both_27 : decode cX10_both 27 = .ok (.iconst 1, 1) := by decide +kernel
theorem dX10_both_28 : decode cX10_both 28 = .ok (.goto 4, 3) := by decide +kernel
theorem dX10_both_31 : decode cX10_both 31 = .ok (.iconst 0, 1) := by decide +kernel
theorem dX10_both_32 : decode cX10_both 32 = .ok (.istore_n 1, 1) := by decide +kernel
theorem dX10_both_33 : decode cX10_both 33 = .ok (.goto (-28), 3) := by decide +kernel
theorem dX10_both_36 : decode cX10_both 36 = .ok (.iload_n 1, 1) := by decide +kernel
theorem dX10_both_37 : decode cX10_both 37 = .ok (.ireturn, 1) := by decide +kernel
theorem dX10_either_0 : decode cX10_either 0 = .ok (.aload_n 0, 1) := by decide +kernel
theorem dX10_either_1 : decode cX10_either 1 = .ok (.invokevirtual 324, 3) := by decide +kernel
theorem dX10_either_4 : decode cX10_either 4 = .ok (.istore_n 1, 1) := by decide +kernel
theorem dX10_either_5 : decode cX10_either 5 = .ok (.aload_n 0, 1) := by decide +kernel
theorem dX10_either_6 : decode cX10_either 6 = .ok (.bipush 124, 2) := by decide +kernel
theorem dX10_either_8 : decode cX10_either 8 = .ok (.invokevirtual 257, 3) := by decide +kernel
theorem dX10_either_11 : decode cX10_either 11 = .ok (.ifCond .eq 25, 3) := by decide +kernel
theorem dX10_either_14 : decode cX10_either 14 = .ok (.aload_n 0, 1) := by decide +kernel
theorem dX10_either_15 : decode cX10_either 15 = .ok (.invokevirtual 324, 3) := by decide +kernel
theorem dX10_either_18 : decode cX10_either 18 = .ok (.istore_n 2, 1) := by decide +kernel
theorem dX10_either_19 : decode cX10_either 19 = .ok (.iload_n 1, 1) := by decide +kernel
theorem dX10_either_20 : decode cX10_either 20 = .ok (.ifCond .ne 7, 3) := by decide +kernel
theorem dX10_either_23 : decode cX10_either 23 = .ok (.iload_n 2, 1) := by decide +kernel
theorem dX10_either_24 : decode cX10_either 24 = .ok (.ifCond .eq 7, 3) := by decide +kernel
theorem dX10_either_27 : decode cX10_either 27 = .ok (.iconst 1, 1) := by decide +kernel
theorem dX10_either_28 : decode cX10_either 28 = .ok (.goto 4, 3) := by decide +kernel
theorem dX10_either_31 : decode cX10_either 31 = .ok (.iconst 0, 1) := by decide +kernel
theorem dX10_either_32 : decode cX10_either 32 = .ok (.istore_n 1, 1) := by decide +kernel
theorem dX10_either_33 : decode cX10_either 33 = .ok (.goto (-28), 3) := by decide +kernel
theorem dX10_either_36 : decode cX10_either 36 = .ok (.iload_n 1, 1) := by decide +kernel
theorem dX10_either_37 : decode cX10_either 37 = .ok (.ireturn, 1) := by decide +kernel
theorem dX10_picked_0 : decode cX10_picked 0 = .ok (.iconst 0, 1) := by decide +kernel
theorem dX10_picked_1 : decode cX10_picked 1 = .ok (.istore_n 1, 1) := by decide +kernel
theorem dX10_picked_2 : decode cX10_picked 2 = .ok (.aload_n 0, 1) := by decide +kernel
theorem dX10_picked_3 : decode cX10_picked 3 = .ok (.getfield 9, 3) := by decide +kernel
theorem dX10_picked_6 : decode cX10_picked 6 = .ok (.iconst 2, 1) := by decide +kernel
theorem dX10_picked_7 : decode cX10_picked 7 = .ok (.iaload, 1) := by decide +kernel
theorem dX10_picked_8 : decode cX10_picked 8 = .ok (.ifCond .ne 7, 3) := by decide +kernel
theorem dX10_picked_11 : decode cX10_picked 11 = .ok (.iconst 1, 1) := by decide +kernel
theorem dX10_picked_12 : decode cX10_picked 12 = .ok (.goto 9, 3) := by decide +kernel
theorem dX10_picked_15 : decode cX10_picked 15 = .ok (.aload_n 0, 1) := by decide +kernel
theorem dX10_picked_16 : decode cX10_picked 16 = .ok (.getfield 9, 3) := by decide +kernel
theorem dX10_picked_19 : decode cX10_picked 19 = .ok (.iconst 2, 1) := by decide +kernel
theorem dX10_picked_20 : decode cX10_picked 20 = .ok (.iaload, 1) := by decide +kernel
theorem dX10_picked_21 : decode cX10_picked 21 = .ok (.istore_n 2, 1) := by decide +kernel
theorem dX10_picked_22 : decode cX10_picked 22 = .ok (.iconst 0, 1) := by decide +kernel
theorem dX10_picked_23 : decode cX10_picked 23 = .ok (.istore_n 3, 1) := by decide +kernel
theorem dX10_picked_24 : decode cX10_picked 24 = .ok (.iload_n 3, 1) := by decide +kernel
theorem dX10_picked_25 : decode cX10_picked 25 = .ok (.iload_n 2, 1) := by decide +kernel
theorem dX10_picked_26 : decode cX10_picked 26 = .ok (.if_icmp .ge 54, 3) := by decide +kernel
theorem dX10_picked_29 : decode cX10_picked 29 = .ok (.aload_n 0, 1) := by decide +kernel
theorem dX10_picked_30 : decode cX10_picked 30 = .ok (.invokevirtual 282, 3) := by decide +kernel
theorem dX10_picked_33 : decode cX10_picked 33 = .ok (.aload_n 0, 1) := by decide +kernel
theorem dX10_picked_34 : decode cX10_picked 34 = .ok (.iconst 0, 1) := by decide +kernel
theorem dX10_picked_35 : decode cX10_picked 35 = .ok (.putfield 311, 3) := by decide +kernel
theorem dX10_picked_38 : decode cX10_picked 38 = .ok (.aload_n 0, 1) := by decide +kernel
theorem dX10_picked_39 : decode cX10_picked 39 = .ok (.iload_n 3, 1) := by decide +kernel
theorem dX10_picked_40 : decode cX10_picked 40 = .ok (.putfield 295, 3) := by decide +kernel
theorem dX10_picked_43 : decode cX10_picked 43 = .ok (.aload_n 0, 1) := by decide +kernel
theorem dX10_picked_44 : decode cX10_picked 44 = .ok (.invokevirtual 318, 3) := by decide +kernel
theorem dX10_picked_47 : decode cX10_picked 47 = .ok (.istore 4, 2) := by decide +kernel
theorem dX10_picked_49 : decode cX10_picked 49 = .ok (.iload_n 1, 1) := by decide +kernel
theorem dX10_picked_50 : decode cX10_picked 50 = .ok (.iload 4, 2) := by decide +kernel
theorem dX10_picked_52 : decode cX10_picked 52 = .ok (.ifCond .eq 19, 3) := by decide +kernel
theorem dX10_picked_55 : decode cX10_picked 55 = .ok (.iload_n 3, 1) := by decide +kernel
theorem dX10_picked_56 : decode cX10_picked 56 = .ok (.aload_n 0, 1) := by decide +kernel
theorem dX10_picked_57 : decode cX10_picked 57 = .ok (.getfield 9, 3) := by decide +kernel
theorem dX10_picked_60 : decode cX10_picked 60 = .ok (.iconst 2, 1) := by decide +kernel
theorem dX10_picked_61 : decode cX10_picked 61 = .ok (.iaload, 1) := by decide +kernel
theorem dX10_picked_62 : decode cX10_picked 62 = .ok (.if_icmp .ge 9, 3) := by decide +kernel
theorem dX10_picked_65 : decode cX10_picked 65 = .ok (.iconst 1, 1) := by decide +kernel
theorem dX10_picked_66 : decode cX10_picked 66 = .ok (.iload_n 3, 1) := by decide +kernel
theorem dX10_picked_67 : decode cX10_picked 67 = .ok (.ishl, 1) := by decide +kernel
theorem dX10_picked_68 : decode cX10_picked 68 = .ok (.goto 4, 3) := by decide +kernel
theorem dX10_picked_71 : decode cX10_picked 71 = .ok (.iconst 0, 1) := by decide +kernel
theorem dX10_picked_72 : decode cX10_picked 72 = .ok (.ior, 1) := by decide +kernel
theorem dX10_picked_73 : decode cX10_picked 73 = .ok (.istore_n 1, 1) := by decide +kernel
theorem dX10_picked_74 : decode cX10_picked 74 = .ok (.iinc 3 1, 3) := by decide +kernel
theorem dX10_picked_77 : decode cX10_picked 77 = .ok (.goto (-53), 3) := by decide +kernel
theorem dX10_picked_80 : decode cX10_picked 80 = .ok (.aload_n 0, 1) := by decide +kernel
theorem dX10_picked_81 : decode cX10_picked 81 = .ok (.iload_n 1, 1) := by decide +kernel
theorem dX10_picked_82 : decode cX10_picked 82 = .ok (.invokevirtual 288, 3) := by decide +kernel
theorem dX10_picked_85 : decode cX10_picked 85 = .ok (.ireturn, 1) := by decide +kernel
theorem dX10_pick_0 : decode cX10_pick 0 = .ok (.aload_n 0, 1) := by decide +kernel
theorem dX10_pick_1 : decode cX10_pick 1 = .ok (.invokevirtual 327, 3) := by decide +kernel
theorem dX10_pick_4 : decode cX10_pick 4 = .ok (.ireturn, 1) := by decide +kernel
theorem dX10_openAll_0 : decode cX10_openAll 0 = .ok (.aload_n 0, 1) := by decide +kernel
theorem dX10_openAll_1 : decode cX10_openAll 1 = .ok (.invokevirtual 327, 3) := by decide +kernel
theorem dX10_openAll_4 : decode cX10_openAll 4 = .ok (.istore_n 1, 1) := by decide +kernel
theorem dX10_openAll_5 : decode cX10_openAll 5 = .ok (.iconst 0, 1) := by decide +kernel
theorem dX10_openAll_6 : decode cX10_openAll 6 = .ok (.istore_n 2, 1) := by decide +kernel
theorem dX10_openAll_7 : decode cX10_openAll 7 = .ok (.iconst 0, 1) := by decide +kernel
theorem dX10_openAll_8 : decode cX10_openAll 8 = .ok (.istore_n 3, 1) := by decide +kernel
theorem dX10_openAll_9 : decode cX10_openAll 9 = .ok (.iload_n 3, 1) := by decide +kernel
theorem dX10_openAll_10 : decode cX10_openAll 10 = .ok (.aload_n 0, 1) := by decide +kernel
theorem dX10_openAll_11 : decode cX10_openAll 11 = .ok (.getfield 9, 3) := by decide +kernel
theorem dX10_openAll_14 : decode cX10_openAll 14 = .ok (.iconst 2, 1) := by decide +kernel
theorem dX10_openAll_15 : decode cX10_openAll 15 = .ok (.iaload, 1) := by decide +kernel
theorem dX10_openAll_16 : decode cX10_openAll 16 = .ok (.if_icmp .ge 44, 3) := by decide +kernel
theorem dX10_openAll_19 : decode cX10_openAll 19 = .ok (.iload_n 1, 1) := by decide +kernel
theorem dX10_openAll_20 : decode cX10_openAll 20 = .ok (.ifCond .lt 40, 3) := by decide +kernel
theorem dX10_openAll_23 : decode cX10_openAll 23 = .ok (.iload_n 1, 1) := by decide +kernel
theorem dX10_openAll_24 : decode cX10_openAll 24 = .ok (.iload_n 3, 1) := by decide +kernel
theorem dX10_openAll_25 : decode cX10_openAll 25 = .ok (.ishr, 1) := by decide +kernel
theorem dX10_openAll_26 : decode cX10_openAll 26 = .ok (.iconst 1, 1) := by decide +kernel
theorem dX10_openAll_27 : decode cX10_openAll 27 = .ok (.iand, 1) := by decide +kernel
theorem dX10_openAll_28 : decode cX10_openAll 28 = .ok (.iconst 1, 1) := by decide +kernel
theorem dX10_openAll_29 : decode cX10_openAll 29 = .ok (.if_icmp .ne 25, 3) := by decide +kernel
theorem dX10_openAll_32 : decode cX10_openAll 32 = .ok (.aload_n 0, 1) := by decide +kernel
theorem dX10_openAll_33 : decode cX10_openAll 33 = .ok (.iload_n 3, 1) := by decide +kernel
theorem dX10_openAll_34 : decode cX10_openAll 34 = .ok (.invokevirtual 78, 3) := by decide +kernel
theorem dX10_openAll_37 : decode cX10_openAll 37 = .ok (.ifCond .lt 17, 3) := by decide +kernel
theorem dX10_openAll_40 : decode cX10_openAll 40 = .ok (.aload_n 0, 1) := by decide +kernel
theorem dX10_openAll_41 : decode cX10_openAll 41 = .ok (.getfield 9, 3) := by decide +kernel
theorem dX10_openAll_44 : decode cX10_openAll 44 = .ok (.sipush 299, 3) := by decide +kernel
theorem dX10_openAll_47 : decode cX10_openAll 47 = .ok (.iload_n 3, 1) := by decide +kernel
theorem dX10_openAll_48 : decode cX10_openAll 48 = .ok (.iadd, 1) := by decide +kernel
theorem dX10_openAll_49 : decode cX10_openAll 49 = .ok (.iconst (-1), 1) := by decide +kernel
theorem dX10_openAll_50 : decode cX10_openAll 50 = .ok (.iastore, 1) := by decide +kernel
theorem dX10_openAll_51 : decode cX10_openAll 51 = .ok (.iinc 2 1, 3) := by decide +kernel
theorem dX10_openAll_54 : decode cX10_openAll 54 = .ok (.iinc 3 1, 3) := by decide +kernel
theorem dX10_openAll_57 : decode cX10_openAll 57 = .ok (.goto (-48), 3) := by decide +kernel
theorem dX10_openAll_60 : decode cX10_openAll 60 = .ok (.iload_n 1, 1) := by decide +kernel
theorem dX10_openAll_61 : decode cX10_openAll 61 = .ok (.ifCond .ge 7, 3) := by decide +kernel
theorem dX10_openAll_64 : decode cX10_openAll 64 = .ok (.iload_n 1, 1) := by decide +kernel
theorem dX10_openAll_65 : decode cX10_openAll 65 = .ok (.goto 4, 3) := by decide +kernel
theorem dX10_openAll_68 : decode cX10_openAll 68 = .ok (.iload_n 2, 1) := by decide +kernel
theorem dX10_openAll_69 : decode cX10_openAll 69 = .ok (.ireturn, 1) := by decide +kernel
theorem dX10_readsRoster_0 : decode cX10_readsRoster 0 = .ok (.aload_n 0, 1) := by decide +kernel
theorem dX10_readsRoster_1 : decode cX10_readsRoster 1 = .ok (.invokevirtual 282, 3) := by decide +kernel
theorem dX10_readsRoster_4 : decode cX10_readsRoster 4 = .ok (.aload_n 0, 1) := by decide +kernel
theorem dX10_readsRoster_5 : decode cX10_readsRoster 5 = .ok (.invokevirtual 103, 3) := by decide +kernel
theorem dX10_readsRoster_8 : decode cX10_readsRoster 8 = .ok (.iconst 0, 1) := by decide +kernel
theorem dX10_readsRoster_9 : decode cX10_readsRoster 9 = .ok (.istore_n 1, 1) := by decide +kernel
theorem dX10_readsRoster_10 : decode cX10_readsRoster 10 = .ok (.iload_n 1, 1) := by decide +kernel
theorem dX10_readsRoster_11 : decode cX10_readsRoster 11 = .ok (.aload_n 0, 1) := by decide +kernel
theorem dX10_readsRoster_12 : decode cX10_readsRoster 12 = .ok (.getfield 9, 3) := by decide +kernel
theorem dX10_readsRoster_15 : decode cX10_readsRoster 15 = .ok (.iconst 2, 1) := by decide +kernel
theorem dX10_readsRoster_16 : decode cX10_readsRoster 16 = .ok (.iaload, 1) := by decide +kernel
theorem dX10_readsRoster_17 : decode cX10_readsRoster 17 = .ok (.if_icmp .ge 164, 3) := by decide +kernel
theorem dX10_readsRoster_20 : decode cX10_readsRoster 20 = .ok (.aload_n 0, 1) := by decide +kernel
theorem dX10_readsRoster_21 : decode cX10_readsRoster 21 = .ok (.getfield 22, 3) := by decide +kernel
theorem dX10_readsRoster_24 : decode cX10_readsRoster 24 = .ok (.iload_n 1, 1) := by decide +kernel
theorem dX10_readsRoster_25 : decode cX10_readsRoster 25 = .ok (.iaload, 1) := by decide +kernel
theorem dX10_readsRoster_26 : decode cX10_readsRoster 26 = .ok (.istore_n 2, 1) := by decide +kernel
theorem dX10_readsRoster_27 : decode cX10_readsRoster 27 = .ok (.iload_n 1, 1) := by decide +kernel
theorem dX10_readsRoster_28 : decode cX10_readsRoster 28 = .ok (.ifCond .le 9, 3) := by decide +kernel
theorem dX10_readsRoster_31 : decode cX10_readsRoster 31 = .ok (.aload_n 0, 1) := by decide +kernel
theorem dX10_readsRoster_32 : decode cX10_readsRoster 32 = .ok (.bipush 59, 2) := by decide +kernel
theorem dX10_readsRoster_34 : decode cX10_readsRoster 34 = .ok (.invokevirtual 276, 3) := by decide +kernel
theorem dX10_readsRoster_37 : decode cX10_readsRoster 37 = .ok (.aload_n 0, 1) := by decide +kernel
theorem dX10_readsRoster_38 : decode cX10_readsRoster 38 = .ok (.aload_n 0, 1) := by decide +kernel
theorem dX10_readsRoster_39 : decode cX10_readsRoster 39 = .ok (.getfield 9, 3) := by decide +kernel
theorem dX10_readsRoster_42 : decode cX10_readsRoster 42 = .ok (.sipush 251, 3) := by decide +kernel
theorem dX10_readsRoster_45 : decode cX10_readsRoster 45 = .ok (.iload_n 2, 1) := by decide +kernel
theorem dX10_readsRoster_46 : decode cX10_readsRoster 46 = .ok (.iadd, 1) := by decide +kernel
theorem dX10_readsRoster_47 : decode cX10_readsRoster 47 = .ok (.iaload, 1) := by decide +kernel
theorem dX10_readsRoster_48 : decode cX10_readsRoster 48 = .ok (.aload_n 0, 1) := by decide +kernel
theorem dX10_readsRoster_49 : decode cX10_readsRoster 49 = .ok (.getfield 9, 3) := by decide +kernel
theorem dX10_readsRoster_52 : decode cX10_readsRoster 52 = .ok (.sipush 251, 3) := by decide +kernel
theorem dX10_readsRoster_55 : decode cX10_readsRoster 55 = .ok (.iload_n 2, 1) := by decide +kernel
theorem dX10_readsRoster_56 : decode cX10_readsRoster 56 = .ok (.iadd, 1) := by decide +kernel
theorem dX10_readsRoster_57 : decode cX10_readsRoster 57 = .ok (.iaload, 1) := by decide +kernel
theorem dX10_readsRoster_58 : decode cX10_readsRoster 58 = .ok (.invokevirtual 273, 3) := by decide +kernel
theorem dX10_readsRoster_61 : decode cX10_readsRoster 61 = .ok (.pop, 1) := by decide +kernel
theorem dX10_readsRoster_62 : decode cX10_readsRoster 62 = .ok (.aload_n 0, 1) := by decide +kernel
theorem dX10_readsRoster_63 : decode cX10_readsRoster 63 = .ok (.aload_n 0, 1) := by decide +kernel
theorem dX10_readsRoster_64 : decode cX10_readsRoster 64 = .ok (.getfield 16, 3) := by decide +kernel
theorem dX10_readsRoster_67 : decode cX10_readsRoster 67 = .ok (.aload_n 0, 1) := by decide +kernel
theorem dX10_readsRoster_68 : decode cX10_readsRoster 68 = .ok (.getfield 9, 3) := by decide +kernel
theorem dX10_readsRoster_71 : decode cX10_readsRoster 71 = .ok (.sipush 275, 3) := by decide +kernel
theorem dX10_readsRoster_74 : decode cX10_readsRoster 74 = .ok (.iload_n 2, 1) := by decide +kernel
theorem dX10_readsRoster_75 : decode cX10_readsRoster 75 = .ok (.iadd, 1) := by decide +kernel
theorem dX10_readsRoster_76 : decode cX10_readsRoster 76 = .ok (.iaload, 1) := by decide +kernel
theorem dX10_readsRoster_77 : decode cX10_readsRoster 77 = .ok (.iaload, 1) := by decide +kernel
theorem dX10_readsRoster_78 : decode cX10_readsRoster 78 = .ok (.invokevirtual 276, 3) := by decide +kernel
theorem dX10_readsRoster_81 : decode cX10_readsRoster 81 = .ok (.aload_n 0, 1) := by decide +kernel
theorem dX10_readsRoster_82 : decode cX10_readsRoster 82 = .ok (.bipush 61, 2) := by decide +kernel
theorem dX10_readsRoster_84 : decode cX10_readsRoster 84 = .ok (.invokevirtual 276, 3) := by decide +kernel
theorem dX10_readsRoster_87 : decode cX10_readsRoster 87 = .ok (.aload_n 0, 1) := by decide +kernel
theorem dX10_readsRoster_88 : decode cX10_readsRoster 88 = .ok (.getfield 50, 3) := by decide +kernel
theorem dX10_readsRoster_91 : decode cX10_readsRoster 91 = .ok (.iload_n 2, 1) := by decide +kernel
theorem dX10_readsRoster_92 : decode cX10_readsRoster 92 = .ok (.iconst (-1), 1) := by decide +kernel
theorem dX10_readsRoster_93 : decode cX10_readsRoster 93 = .ok (.iastore, 1) := by decide +kernel
theorem dX10_readsRoster_94 : decode cX10_readsRoster 94 = .ok (.aload_n 0, 1) := by decide +kernel
theorem dX10_readsRoster_95 : decode cX10_readsRoster 95 = .ok (.bipush 45, 2) := by decide +kernel
theorem dX10_readsRoster_97 : decode cX10_readsRoster 97 = .ok (.invokevirtual 257, 3) := by decide +kernel
theorem dX10_readsRoster_100 : decode cX10_readsRoster 100 = .ok (.ifCond .ne 75, 3) := by decide +kernel
theorem dX10_readsRoster_103 : decode cX10_readsRoster 103 = .ok (.aload_n 0, 1) := by decide +kernel
theorem dX10_readsRoster_104 : decode cX10_readsRoster 104 = .ok (.getfield 50, 3) := by decide +kernel
theorem dX10_readsRoster_107 : decode cX10_readsRoster 107 = .ok (.iload_n 2, 1) := by decide +kernel
theorem dX10_readsRoster_108 : decode cX10_readsRoster 108 = .ok (.aload_n 0, 1) := by decide +kernel
theorem dX10_readsRoster_109 : decode cX10_readsRoster 109 = .ok (.invokevirtual 254, 3) := by decide +kernel
theorem dX10_readsRoster_112 : decode cX10_readsRoster 112 = .ok (.bipush 48, 2) := by decide +kernel
theorem dX10_readsRoster_114 : decode cX10_readsRoster 114 = .ok (.isub, 1) := by decide +kernel
theorem dX10_readsRoster_115 : decode cX10_readsRoster 115 = .ok (.iastore, 1) := by decide +kernel
theorem dX10_readsRoster_116 : decode cX10_readsRoster 116 = .ok (.aload_n 0, 1) := by decide +kernel
theorem dX10_readsRoster_117 : decode cX10_readsRoster 117 = .ok (.invokevirtual 254, 3) := by decide +kernel
theorem dX10_readsRoster_120 : decode cX10_readsRoster 120 = .ok (.i2l, 1) := by decide +kernel
theorem dX10_readsRoster_121 : decode cX10_readsRoster 121 = .ok (.ldc2_w 266, 3) := by decide +kernel
theorem dX10_readsRoster_124 : decode cX10_readsRoster 124 = .ok (.ldc2_w 268, 3) := by decide +kernel
theorem dX10_readsRoster_127 : decode cX10_readsRoster 127 = .ok (.invokestatic 68, 3) := by decide +kernel
theorem dX10_readsRoster_130 : decode cX10_readsRoster 130 = .ok (.ifCond .eq 16, 3) := by decide +kernel
theorem dX10_readsRoster_133 : decode cX10_readsRoster 133 = .ok (.aload_n 0, 1) := by decide +kernel
theorem dX10_readsRoster_134 : decode cX10_readsRoster 134 = .ok (.aload_n 0, 1) := by decide +kernel
theorem dX10_readsRoster_135 : decode cX10_readsRoster 135 = .ok (.getfield 50, 3) := by decide +kernel
theorem dX10_readsRoster_138 : decode cX10_readsRoster 138 = .ok (.iload_n 2, 1) := by decide +kernel
theorem dX10_readsRoster_139 : decode cX10_readsRoster 139 = .ok (.iaload, 1) := by decide +kernel
theorem dX10_readsRoster_140 : decode cX10_readsRoster 140 = .ok (.invokevirtual 100, 3) := by decide +kernel
theorem dX10_readsRoster_143 : decode cX10_readsRoster 143 = .ok (.ifCond .ne 11, 3) := by decide +kernel
theorem dX10_readsRoster_146 : decode cX10_readsRoster 146 = .ok (.aload_n 0, 1) := by decide +kernel
theorem dX10_readsRoster_147 : decode cX10_readsRoster 147 = .ok (.aload_n 0, 1) := by decide +kernel
theorem dX10_readsRoster_148 : decode cX10_readsRoster 148 = .ok (.getfield 251, 3) := by decide +kernel
theorem dX10_readsRoster_151 : decode cX10_readsRoster 151 = .ok (.invokevirtual 260, 3) := by decide +kernel
theorem dX10_readsRoster_154 : decode cX10_readsRoster 154 = .ok (.aload_n 0, 1) := by decide +kernel
theorem dX10_readsRoster_155 : decode cX10_readsRoster 155 = .ok (.dup, 1) := by decide +kernel
theorem dX10_readsRoster_156 : decode cX10_readsRoster 156 = .ok (.getfield 251, 3) := by decide +kernel
theorem dX10_readsRoster_159 : decode cX10_readsRoster 159 = .ok (.aload_n 0, 1) := by decide +kernel
theorem dX10_readsRoster_160 : decode cX10_readsRoster 160 = .ok (.getfield 248, 3) := by decide +kernel
theorem dX10_readsRoster_163 : decode cX10_readsRoster 163 = .ok (.ifCond .ge 7, 3) := by decide +kernel
theorem dX10_readsRoster_166 : decode cX10_readsRoster 166 = .ok (.iconst 1, 1) := by decide +kernel
theorem dX10_readsRoster_167 : decode cX10_readsRoster 167 = .ok (.goto 4, 3) := by decide +kernel
theorem dX10_readsRoster_170 : decode cX10_readsRoster 170 = .ok (.iconst 0, 1) := by decide +kernel
theorem dX10_readsRoster_171 : decode cX10_readsRoster 171 = .ok (.iadd, 1) := by decide +kernel
theorem dX10_readsRoster_172 : decode cX10_readsRoster 172 = .ok (.putfield 251, 3) := by decide +kernel
theorem dX10_readsRoster_175 : decode cX10_readsRoster 175 = .ok (.iinc 1 1, 3) := by decide +kernel
theorem dX10_readsRoster_178 : decode cX10_readsRoster 178 = .ok (.goto (-168), 3) := by decide +kernel
theorem dX10_readsRoster_181 : decode cX10_readsRoster 181 = .ok (.return_, 1) := by decide +kernel
theorem dX10_firstBarred_0 : decode cX10_firstBarred 0 = .ok (.iconst 0, 1) := by decide +kernel
theorem dX10_firstBarred_1 : decode cX10_firstBarred 1 = .ok (.istore_n 1, 1) := by decide +kernel
theorem dX10_firstBarred_2 : decode cX10_firstBarred 2 = .ok (.iload_n 1, 1) := by decide +kernel
theorem dX10_firstBarred_3 : decode cX10_firstBarred 3 = .ok (.aload_n 0, 1) := by decide +kernel
theorem dX10_firstBarred_4 : decode cX10_firstBarred 4 = .ok (.getfield 9, 3) := by decide +kernel
theorem dX10_firstBarred_7 : decode cX10_firstBarred 7 = .ok (.iconst 2, 1) := by decide +kernel
theorem dX10_firstBarred_8 : decode cX10_firstBarred 8 = .ok (.iaload, 1) := by decide +kernel
theorem dX10_firstBarred_9 : decode cX10_firstBarred 9 = .ok (.if_icmp .ge 41, 3) := by decide +kernel
theorem dX10_firstBarred_12 : decode cX10_firstBarred 12 = .ok (.aload_n 0, 1) := by decide +kernel
theorem dX10_firstBarred_13 : decode cX10_firstBarred 13 = .ok (.getfield 22, 3) := by decide +kernel
theorem dX10_firstBarred_16 : decode cX10_firstBarred 16 = .ok (.iload_n 1, 1) := by decide +kernel
theorem dX10_firstBarred_17 : decode cX10_firstBarred 17 = .ok (.iaload, 1) := by decide +kernel
theorem dX10_firstBarred_18 : decode cX10_firstBarred 18 = .ok (.istore_n 2, 1) := by decide +kernel
theorem dX10_firstBarred_19 : decode cX10_firstBarred 19 = .ok (.aload_n 0, 1) := by decide +kernel
theorem dX10_firstBarred_20 : decode cX10_firstBarred 20 = .ok (.getfield 50, 3) := by decide +kernel
theorem dX10_firstBarred_23 : decode cX10_firstBarred 23 = .ok (.iload_n 2, 1) := by decide +kernel
theorem dX10_firstBarred_24 : decode cX10_firstBarred 24 = .ok (.iaload, 1) := by decide +kernel
theorem dX10_firstBarred_25 : decode cX10_firstBarred 25 = .ok (.ifCond .lt 19, 3) := by decide +kernel
theorem dX10_firstBarred_28 : decode cX10_firstBarred 28 = .ok (.aload_n 0, 1) := by decide +kernel
theorem dX10_firstBarred_29 : decode cX10_firstBarred 29 = .ok (.aload_n 0, 1) := by decide +kernel
theorem dX10_firstBarred_30 : decode cX10_firstBarred 30 = .ok (.getfield 50, 3) := by decide +kernel
theorem dX10_firstBarred_33 : decode cX10_firstBarred 33 = .ok (.iload_n 2, 1) := by decide +kernel
theorem dX10_firstBarred_34 : decode cX10_firstBarred 34 = .ok (.iaload, 1) := by decide +kernel
theorem dX10_firstBarred_35 : decode cX10_firstBarred 35 = .ok (.iload_n 2, 1) := by decide +kernel
theorem dX10_firstBarred_36 : decode cX10_firstBarred 36 = .ok (.invokevirtual 113, 3) := by decide +kernel
theorem dX10_firstBarred_39 : decode cX10_firstBarred 39 = .ok (.ifCond .ne 5, 3) := by decide +kernel
theorem dX10_firstBarred_42 : decode cX10_firstBarred 42 = .ok (.iload_n 2, 1) := by decide +kernel
theorem dX10_firstBarred_43 : decode cX10_firstBarred 43 = .ok (.ireturn, 1) := by decide +kernel
theorem dX10_firstBarred_44 : decode cX10_firstBarred 44 = .ok (.iinc 1 1, 3) := by decide +kernel
theorem dX10_firstBarred_47 : decode cX10_firstBarred 47 = .ok (.goto (-45), 3) := by decide +kernel
theorem dX10_firstBarred_50 : decode cX10_firstBarred 50 = .ok (.iconst (-1), 1) := by decide +kernel
theorem dX10_firstBarred_51 : decode cX10_firstBarred 51 = .ok (.ireturn, 1) := by decide +kernel
theorem dX10_becomes_0 : decode cX10_becomes 0 = .ok (.iconst 0, 1) := by decide +kernel
theorem dX10_becomes_1 : decode cX10_becomes 1 = .ok (.istore_n 2, 1) := by decide +kernel
theorem dX10_becomes_2 : decode cX10_becomes 2 = .ok (.iload_n 2, 1) := by decide +kernel
theorem dX10_becomes_3 : decode cX10_becomes 3 = .ok (.aload_n 0, 1) := by decide +kernel
theorem dX10_becomes_4 : decode cX10_becomes 4 = .ok (.getfield 9, 3) := by decide +kernel
theorem dX10_becomes_7 : decode cX10_becomes 7 = .ok (.iconst 2, 1) := by decide +kernel
theorem dX10_becomes_8 : decode cX10_becomes 8 = .ok (.iaload, 1) := by decide +kernel
theorem dX10_becomes_9 : decode cX10_becomes 9 = .ok (.if_icmp .ge 22, 3) := by decide +kernel
theorem dX10_becomes_12 : decode cX10_becomes 12 = .ok (.aload_n 0, 1) := by decide +kernel
theorem dX10_becomes_13 : decode cX10_becomes 13 = .ok (.getfield 9, 3) := by decide +kernel
theorem dX10_becomes_16 : decode cX10_becomes 16 = .ok (.sipush 299, 3) := by decide +kernel
theorem dX10_becomes_19 : decode cX10_becomes 19 = .ok (.iload_n 2, 1) := by decide +kernel
theorem dX10_becomes_20 : decode cX10_becomes 20 = .ok (.iadd, 1) := by decide +kernel
theorem dX10_becomes_21 : decode cX10_becomes 21 = .ok (.aload_n 1, 1) := by decide +kernel
theorem dX10_becomes_22 : decode cX10_becomes 22 = .ok (.iload_n 2, 1) := by decide +kernel
theorem dX10_becomes_23 : decode cX10_becomes 23 = .ok (.iaload, 1) := by decide +kernel
theorem dX10_becomes_24 : decode cX10_becomes 24 = .ok (.iastore, 1) := by decide +kernel
theorem dX10_becomes_25 : decode cX10_becomes 25 = .ok (.iinc 2 1, 3) := by decide +kernel
theorem dX10_becomes_28 : decode cX10_becomes 28 = .ok (.goto (-26), 3) := by decide +kernel
theorem dX10_becomes_31 : decode cX10_becomes 31 = .ok (.return_, 1) := by decide +kernel
theorem dX10_openIn_0 : decode cX10_openIn 0 = .ok (.iconst 0, 1) := by decide +kernel
theorem dX10_openIn_1 : decode cX10_openIn 1 = .ok (.istore_n 2, 1) := by decide +kernel
theorem dX10_openIn_2 : decode cX10_openIn 2 = .ok (.iconst 0, 1) := by decide +kernel
theorem dX10_openIn_3 : decode cX10_openIn 3 = .ok (.istore_n 3, 1) := by decide +kernel
theorem dX10_openIn_4 : decode cX10_openIn 4 = .ok (.iload_n 3, 1) := by decide +kernel
theorem dX10_openIn_5 : decode cX10_openIn 5 = .ok (.aload_n 0, 1) := by decide +kernel
theorem dX10_openIn_6 : decode cX10_openIn 6 = .ok (.getfield 9, 3) := by decide +kernel
theorem dX10_openIn_9 : decode cX10_openIn 9 = .ok (.iconst 2, 1) := by decide +kernel
theorem dX10_openIn_10 : decode cX10_openIn 10 = .ok (.iaload, 1) := by decide +kernel
theorem dX10_openIn_11 : decode cX10_openIn 11 = .ok (.if_icmp .ge 39, 3) := by decide +kernel
theorem dX10_openIn_14 : decode cX10_openIn 14 = .ok (.iload_n 2, 1) := by decide +kernel
theorem dX10_openIn_15 : decode cX10_openIn 15 = .ok (.aload_n 0, 1) := by decide +kernel
theorem dX10_openIn_16 : decode cX10_openIn 16 = .ok (.iload_n 3, 1) := by decide +kernel
theorem dX10_openIn_17 : decode cX10_openIn 17 = .ok (.invokevirtual 78, 3) := by decide +kernel
theorem dX10_openIn_20 : decode cX10_openIn 20 = .ok (.ifCond .ge 21, 3) := by decide +kernel
theorem dX10_openIn_23 : decode cX10_openIn 23 = .ok (.aload_n 0, 1) := by decide +kernel
theorem dX10_openIn_24 : decode cX10_openIn 24 = .ok (.getfield 9, 3) := by decide +kernel
theorem dX10_openIn_27 : decode cX10_openIn 27 = .ok (.sipush 275, 3) := by decide +kernel
theorem dX10_openIn_30 : decode cX10_openIn 30 = .ok (.iload_n 3, 1) := by decide +kernel
theorem dX10_openIn_31 : decode cX10_openIn 31 = .ok (.iadd, 1) := by decide +kernel
theorem dX10_openIn_32 : decode cX10_openIn 32 = .ok (.iaload, 1) := by decide +kernel
theorem dX10_openIn_33 : decode cX10_openIn 33 = .ok (.iload_n 1, 1) := by decide +kernel
theorem dX10_openIn_34 : decode cX10_openIn 34 = .ok (.if_icmp .ne 7, 3) := by decide +kernel
theorem dX10_openIn_37 : decode cX10_openIn 37 = .ok (.iconst 1, 1) := by decide +kernel
theorem dX10_openIn_38 : decode cX10_openIn 38 = .ok (.goto 4, 3) := by decide +kernel
theorem dX10_openIn_41 : decode cX10_openIn 41 = .ok (.iconst 0, 1) := by decide +kernel
theorem dX10_openIn_42 : decode cX10_openIn 42 = .ok (.iadd, 1) := by decide +kernel
theorem dX10_openIn_43 : decode cX10_openIn 43 = .ok (.istore_n 2, 1) := by decide +kernel
theorem dX10_openIn_44 : decode cX10_openIn 44 = .ok (.iinc 3 1, 3) := by decide +kernel
theorem dX10_openIn_47 : decode cX10_openIn 47 = .ok (.goto (-43), 3) := by decide +kernel
theorem dX10_openIn_50 : decode cX10_openIn 50 = .ok (.iload_n 2, 1) := by decide +kernel
theorem dX10_openIn_51 : decode cX10_openIn 51 = .ok (.ireturn, 1) := by decide +kernel
theorem dX10_compares_0 : decode cX10_compares 0 = .ok (.aload_n 0, 1) := by decide +kernel
theorem dX10_compares_1 : decode cX10_compares 1 = .ok (.aload_n 0, 1) := by decide +kernel
theorem dX10_compares_2 : decode cX10_compares 2 = .ok (.getfield 53, 3) := by decide +kernel
theorem dX10_compares_5 : decode cX10_compares 5 = .ok (.invokevirtual 330, 3) := by decide +kernel
theorem dX10_compares_8 : decode cX10_compares 8 = .ok (.aload_n 0, 1) := by decide +kernel
theorem dX10_compares_9 : decode cX10_compares 9 = .ok (.iload_n 1, 1) := by decide +kernel
theorem dX10_compares_10 : decode cX10_compares 10 = .ok (.invokevirtual 183, 3) := by decide +kernel
theorem dX10_compares_13 : decode cX10_compares 13 = .ok (.iconst 0, 1) := by decide +kernel
theorem dX10_compares_14 : decode cX10_compares 14 = .ok (.istore_n 2, 1) := by decide +kernel
theorem dX10_compares_15 : decode cX10_compares 15 = .ok (.iload_n 2, 1) := by decide +kernel
theorem dX10_compares_16 : decode cX10_compares 16 = .ok (.aload_n 0, 1) := by decide +kernel
theorem dX10_compares_17 : decode cX10_compares 17 = .ok (.getfield 180, 3) := by decide +kernel
theorem dX10_compares_20 : decode cX10_compares 20 = .ok (.if_icmp .ge 21, 3) := by decide +kernel
theorem dX10_compares_23 : decode cX10_compares 23 = .ok (.aload_n 0, 1) := by decide +kernel
theorem dX10_compares_24 : decode cX10_compares 24 = .ok (.getfield 56, 3) := by decide +kernel
theorem dX10_compares_27 : decode cX10_compares 27 = .ok (.iload_n 2, 1) := by decide +kernel
theorem dX10_compares_28 : decode cX10_compares 28 = .ok (.aload_n 0, 1) := by decide +kernel
theorem dX10_compares_29 : decode cX10_compares 29 = .ok (.getfield 35, 3) := by decide +kernel
theorem dX10_compares_32 : decode cX10_compares 32 = .ok (.iload_n 2, 1) := by decide +kernel
theorem dX10_compares_33 : decode cX10_compares 33 = .ok (.iaload, 1) := by decide +kernel
theorem dX10_compares_34 : decode cX10_compares 34 = .ok (.iastore, 1) := by decide +kernel
theorem dX10_compares_35 : decode cX10_compares 35 = .ok (.iinc 2 1, 3) := by decide +kernel
theorem dX10_compares_38 : decode cX10_compares 38 = .ok (.goto (-23), 3) := by decide +kernel
theorem dX10_compares_41 : decode cX10_compares 41 = .ok (.aload_n 0, 1) := by decide +kernel
theorem dX10_compares_42 : decode cX10_compares 42 = .ok (.aload_n 0, 1) := by decide +kernel
theorem dX10_compares_43 : decode cX10_compares 43 = .ok (.getfield 50, 3) := by decide +kernel
theorem dX10_compares_46 : decode cX10_compares 46 = .ok (.invokevirtual 330, 3) := by decide +kernel
theorem dX10_compares_49 : decode cX10_compares 49 = .ok (.aload_n 0, 1) := by decide +kernel
theorem dX10_compares_50 : decode cX10_compares 50 = .ok (.iload_n 1, 1) := by decide +kernel
theorem dX10_compares_51 : decode cX10_compares 51 = .ok (.invokevirtual 183, 3) := by decide +kernel
theorem dX10_compares_54 : decode cX10_compares 54 = .ok (.iconst 0, 1) := by decide +kernel
theorem dX10_compares_55 : decode cX10_compares 55 = .ok (.istore_n 2, 1) := by decide +kernel
theorem dX10_compares_56 : decode cX10_compares 56 = .ok (.iload_n 2, 1) := by decide +kernel
theorem dX10_compares_57 : decode cX10_compares 57 = .ok (.aload_n 0, 1) := by decide +kernel
theorem dX10_compares_58 : decode cX10_compares 58 = .ok (.getfield 180, 3) := by decide +kernel
theorem dX10_compares_61 : decode cX10_compares 61 = .ok (.if_icmp .ge 38, 3) := by decide +kernel
theorem dX10_compares_64 : decode cX10_compares 64 = .ok (.aload_n 0, 1) := by decide +kernel
theorem dX10_compares_65 : decode cX10_compares 65 = .ok (.getfield 35, 3) := by decide +kernel
theorem dX10_compares_68 : decode cX10_compares 68 = .ok (.iload_n 2, 1) := by decide +kernel
theorem dX10_compares_69 : decode cX10_compares 69 = .ok (.iaload, 1) := by decide +kernel
theorem dX10_compares_70 : decode cX10_compares 70 = .ok (.aload_n 0, 1) := by decide +kernel
theorem dX10_compares_71 : decode cX10_compares 71 = .ok (.getfield 56, 3) := by decide +kernel
theorem dX10_compares_74 : decode cX10_compares 74 = .ok (.iload_n 2, 1) := by decide +kernel
theorem dX10_compares_75 : decode cX10_compares 75 = .ok (.iaload, 1) := by decide +kernel
theorem dX10_compares_76 : decode cX10_compares 76 = .ok (.if_icmp .eq 17, 3) := by decide +kernel
theorem dX10_compares_79 : decode cX10_compares 79 = .ok (.aload_n 0, 1) := by decide +kernel
theorem dX10_compares_80 : decode cX10_compares 80 = .ok (.getfield 35, 3) := by decide +kernel
theorem dX10_compares_83 : decode cX10_compares 83 = .ok (.iload_n 2, 1) := by decide +kernel
theorem dX10_compares_84 : decode cX10_compares 84 = .ok (.iaload, 1) := by decide +kernel
theorem dX10_compares_85 : decode cX10_compares 85 = .ok (.aload_n 0, 1) := by decide +kernel
theorem dX10_compares_86 : decode cX10_compares 86 = .ok (.getfield 56, 3) := by decide +kernel
theorem dX10_compares_89 : decode cX10_compares 89 = .ok (.iload_n 2, 1) := by decide +kernel
theorem dX10_compares_90 : decode cX10_compares 90 = .ok (.iaload, 1) := by decide +kernel
theorem dX10_compares_91 : decode cX10_compares 91 = .ok (.isub, 1) := by decide +kernel
theorem dX10_compares_92 : decode cX10_compares 92 = .ok (.ireturn, 1) := by decide +kernel
theorem dX10_compares_93 : decode cX10_compares 93 = .ok (.iinc 2 1, 3) := by decide +kernel
theorem dX10_compares_96 : decode cX10_compares 96 = .ok (.goto (-40), 3) := by decide +kernel
theorem dX10_compares_99 : decode cX10_compares 99 = .ok (.iconst 0, 1) := by decide +kernel
theorem dX10_compares_100 : decode cX10_compares 100 = .ok (.ireturn, 1) := by decide +kernel
theorem dX10_judged_0 : decode cX10_judged 0 = .ok (.aload_n 0, 1) := by decide +kernel
theorem dX10_judged_1 : decode cX10_judged 1 = .ok (.invokevirtual 334, 3) := by decide +kernel
theorem dX10_judged_4 : decode cX10_judged 4 = .ok (.istore_n 1, 1) := by decide +kernel
theorem dX10_judged_5 : decode cX10_judged 5 = .ok (.iload_n 1, 1) := by decide +kernel
theorem dX10_judged_6 : decode cX10_judged 6 = .ok (.ifCond .lt 5, 3) := by decide +kernel
theorem dX10_judged_9 : decode cX10_judged 9 = .ok (.iload_n 1, 1) := by decide +kernel
theorem dX10_judged_10 : decode cX10_judged 10 = .ok (.ireturn, 1) := by decide +kernel
theorem dX10_judged_11 : decode cX10_judged 11 = .ok (.bipush (-5), 2) := by decide +kernel
theorem dX10_judged_13 : decode cX10_judged 13 = .ok (.istore_n 2, 1) := by decide +kernel
theorem dX10_judged_14 : decode cX10_judged 14 = .ok (.iconst 3, 1) := by decide +kernel
theorem dX10_judged_15 : decode cX10_judged 15 = .ok (.istore_n 3, 1) := by decide +kernel
theorem dX10_judged_16 : decode cX10_judged 16 = .ok (.iload_n 3, 1) := by decide +kernel
theorem dX10_judged_17 : decode cX10_judged 17 = .ok (.ifCond .lt 44, 3) := by decide +kernel
theorem dX10_judged_20 : decode cX10_judged 20 = .ok (.aload_n 0, 1) := by decide +kernel
theorem dX10_judged_21 : decode cX10_judged 21 = .ok (.iload_n 3, 1) := by decide +kernel
theorem dX10_judged_22 : decode cX10_judged 22 = .ok (.invokevirtual 337, 3) := by decide +kernel
theorem dX10_judged_25 : decode cX10_judged 25 = .ok (.istore 4, 2) := by decide +kernel
theorem dX10_judged_27 : decode cX10_judged 27 = .ok (.iload 4, 2) := by decide +kernel
theorem dX10_judged_29 : decode cX10_judged 29 = .ok (.ifCond .ge 11, 3) := by decide +kernel
theorem dX10_judged_32 : decode cX10_judged 32 = .ok (.sipush 200, 3) := by decide +kernel
theorem dX10_judged_35 : decode cX10_judged 35 = .ok (.iload_n 3, 1) := by decide +kernel
theorem dX10_judged_36 : decode cX10_judged 36 = .ok (.iadd, 1) := by decide +kernel
theorem dX10_judged_37 : decode cX10_judged 37 = .ok (.goto 17, 3) := by decide +kernel
theorem dX10_judged_40 : decode cX10_judged 40 = .ok (.iload 4, 2) := by decide +kernel
theorem dX10_judged_42 : decode cX10_judged 42 = .ok (.ifCond .le 11, 3) := by decide +kernel
theorem dX10_judged_45 : decode cX10_judged 45 = .ok (.sipush 300, 3) := by decide +kernel
theorem dX10_judged_48 : decode cX10_judged 48 = .ok (.iload_n 3, 1) := by decide +kernel
theorem dX10_judged_49 : decode cX10_judged 49 = .ok (.iadd, 1) := by decide +kernel
theorem dX10_judged_50 : decode cX10_judged 50 = .ok (.goto 4, 3) := by decide +kernel
theorem dX10_judged_53 : decode cX10_judged 53 = .ok (.iload_n 2, 1) := by decide +kernel
theorem dX10_judged_54 : decode cX10_judged 54 = .ok (.istore_n 2, 1) := by decide +kernel
theorem dX10_judged_55 : decode cX10_judged 55 = .ok (.iinc 3 (-1), 3) := by decide +kernel
theorem dX10_judged_58 : decode cX10_judged 58 = .ok (.goto (-42), 3) := by decide +kernel
theorem dX10_judged_61 : decode cX10_judged 61 = .ok (.iconst 3, 1) := by decide +kernel
theorem dX10_judged_62 : decode cX10_judged 62 = .ok (.istore_n 3, 1) := by decide +kernel
theorem dX10_judged_63 : decode cX10_judged 63 = .ok (.iload_n 3, 1) := by decide +kernel
theorem dX10_judged_64 : decode cX10_judged 64 = .ok (.ifCond .lt 51, 3) := by decide +kernel
theorem dX10_judged_67 : decode cX10_judged 67 = .ok (.aload_n 0, 1) := by decide +kernel
theorem dX10_judged_68 : decode cX10_judged 68 = .ok (.aload_n 0, 1) := by decide +kernel
theorem dX10_judged_69 : decode cX10_judged 69 = .ok (.getfield 53, 3) := by decide +kernel
theorem dX10_judged_72 : decode cX10_judged 72 = .ok (.invokevirtual 330, 3) := by decide +kernel
theorem dX10_judged_75 : decode cX10_judged 75 = .ok (.aload_n 0, 1) := by decide +kernel
theorem dX10_judged_76 : decode cX10_judged 76 = .ok (.iload_n 3, 1) := by decide +kernel
theorem dX10_judged_77 : decode cX10_judged 77 = .ok (.invokevirtual 340, 3) := by decide +kernel
theorem dX10_judged_80 : decode cX10_judged 80 = .ok (.istore 4, 2) := by decide +kernel
theorem dX10_judged_82 : decode cX10_judged 82 = .ok (.aload_n 0, 1) := by decide +kernel
theorem dX10_judged_83 : decode cX10_judged 83 = .ok (.aload_n 0, 1) := by decide +kernel
theorem dX10_judged_84 : decode cX10_judged 84 = .ok (.getfield 50, 3) := by decide +kernel
theorem dX10_judged_87 : decode cX10_judged 87 = .ok (.invokevirtual 330, 3) := by decide +kernel
theorem dX10_judged_90 : decode cX10_judged 90 = .ok (.aload_n 0, 1) := by decide +kernel
theorem dX10_judged_91 : decode cX10_judged 91 = .ok (.iload_n 3, 1) := by decide +kernel
theorem dX10_judged_92 : decode cX10_judged 92 = .ok (.invokevirtual 340, 3) := by decide +kernel
theorem dX10_judged_95 : decode cX10_judged 95 = .ok (.iload 4, 2) := by decide +kernel
theorem dX10_judged_97 : decode cX10_judged 97 = .ok (.if_icmp .le 10, 3) := by decide +kernel
theorem dX10_judged_100 : decode cX10_judged 100 = .ok (.bipush 100, 2) := by decide +kernel
theorem dX10_judged_102 : decode cX10_judged 102 = .ok (.iload_n 3, 1) := by decide +kernel
theorem dX10_judged_103 : decode cX10_judged 103 = .ok (.iadd, 1) := by decide +kernel
theorem dX10_judged_104 : decode cX10_judged 104 = .ok (.goto 4, 3) := by decide +kernel
theorem dX10_judged_107 : decode cX10_judged 107 = .ok (.iload_n 2, 1) := by decide +kernel
theorem dX10_judged_108 : decode cX10_judged 108 = .ok (.istore_n 2, 1) := by decide +kernel
theorem dX10_judged_109 : decode cX10_judged 109 = .ok (.iinc 3 (-1), 3) := by decide +kernel
theorem dX10_judged_112 : decode cX10_judged 112 = .ok (.goto (-49), 3) := by decide +kernel
theorem dX10_judged_115 : decode cX10_judged 115 = .ok (.aload_n 0, 1) := by decide +kernel
theorem dX10_judged_116 : decode cX10_judged 116 = .ok (.aload_n 0, 1) := by decide +kernel
theorem dX10_judged_117 : decode cX10_judged 117 = .ok (.getfield 53, 3) := by decide +kernel
theorem dX10_judged_120 : decode cX10_judged 120 = .ok (.invokevirtual 330, 3) := by decide +kernel
theorem dX10_judged_123 : decode cX10_judged 123 = .ok (.iload_n 2, 1) := by decide +kernel
theorem dX10_judged_124 : decode cX10_judged 124 = .ok (.ireturn, 1) := by decide +kernel
theorem dX10_remembers_0 : decode cX10_remembers 0 = .ok (.iconst 0, 1) := by decide +kernel
theorem dX10_remembers_1 : decode cX10_remembers 1 = .ok (.istore_n 1, 1) := by decide +kernel
theorem dX10_remembers_2 : decode cX10_remembers 2 = .ok (.iload_n 1, 1) := by decide +kernel
theorem dX10_remembers_3 : decode cX10_remembers 3 = .ok (.aload_n 0, 1) := by decide +kernel
theorem dX10_remembers_4 : decode cX10_remembers 4 = .ok (.getfield 9, 3) := by decide +kernel
theorem dX10_remembers_7 : decode cX10_remembers 7 = .ok (.iconst 2, 1) := by decide +kernel
theorem dX10_remembers_8 : decode cX10_remembers 8 = .ok (.iaload, 1) := by decide +kernel
theorem dX10_remembers_9 : decode cX10_remembers 9 = .ok (.if_icmp .ge 20, 3) := by decide +kernel
theorem dX10_remembers_12 : decode cX10_remembers 12 = .ok (.aload_n 0, 1) := by decide +kernel
theorem dX10_remembers_13 : decode cX10_remembers 13 = .ok (.getfield 53, 3) := by decide +kernel
theorem dX10_remembers_16 : decode cX10_remembers 16 = .ok (.iload_n 1, 1) := by decide +kernel
theorem dX10_remembers_17 : decode cX10_remembers 17 = .ok (.aload_n 0, 1) := by decide +kernel
theorem dX10_remembers_18 : decode cX10_remembers 18 = .ok (.iload_n 1, 1) := by decide +kernel
theorem dX10_remembers_19 : decode cX10_remembers 19 = .ok (.invokevirtual 78, 3) := by decide +kernel
theorem dX10_remembers_22 : decode cX10_remembers 22 = .ok (.iastore, 1) := by decide +kernel
theorem dX10_remembers_23 : decode cX10_remembers 23 = .ok (.iinc 1 1, 3) := by decide +kernel
theorem dX10_remembers_26 : decode cX10_remembers 26 = .ok (.goto (-24), 3) := by decide +kernel
theorem dX10_remembers_29 : decode cX10_remembers 29 = .ok (.return_, 1) := by decide +kernel
theorem dX10_judge_0 : decode cX10_judge 0 = .ok (.aload_n 0, 1) := by decide +kernel
theorem dX10_judge_1 : decode cX10_judge 1 = .ok (.getfield 9, 3) := by decide +kernel
theorem dX10_judge_4 : decode cX10_judge 4 = .ok (.iconst 2, 1) := by decide +kernel
theorem dX10_judge_5 : decode cX10_judge 5 = .ok (.iaload, 1) := by decide +kernel
theorem dX10_judge_6 : decode cX10_judge 6 = .ok (.ifCond .ne 11, 3) := by decide +kernel
theorem dX10_judge_9 : decode cX10_judge 9 = .ok (.aload_n 0, 1) := by decide +kernel
theorem dX10_judge_10 : decode cX10_judge 10 = .ok (.iconst 0, 1) := by decide +kernel
theorem dX10_judge_11 : decode cX10_judge 11 = .ok (.putfield 245, 3) := by decide +kernel
theorem dX10_judge_14 : decode cX10_judge 14 = .ok (.bipush (-3), 2) := by decide +kernel
theorem dX10_judge_16 : decode cX10_judge 16 = .ok (.ireturn, 1) := by decide +kernel
theorem dX10_judge_17 : decode cX10_judge 17 = .ok (.aload_n 0, 1) := by decide +kernel
theorem dX10_judge_18 : decode cX10_judge 18 = .ok (.invokevirtual 343, 3) := by decide +kernel
theorem dX10_judge_21 : decode cX10_judge 21 = .ok (.aload_n 0, 1) := by decide +kernel
theorem dX10_judge_22 : decode cX10_judge 22 = .ok (.iconst 0, 1) := by decide +kernel
theorem dX10_judge_23 : decode cX10_judge 23 = .ok (.invokevirtual 288, 3) := by decide +kernel
theorem dX10_judge_26 : decode cX10_judge 26 = .ok (.istore_n 1, 1) := by decide +kernel
theorem dX10_judge_27 : decode cX10_judge 27 = .ok (.aload_n 0, 1) := by decide +kernel
theorem dX10_judge_28 : decode cX10_judge 28 = .ok (.invokevirtual 346, 3) := by decide +kernel
theorem dX10_judge_31 : decode cX10_judge 31 = .ok (.iload_n 1, 1) := by decide +kernel
theorem dX10_judge_32 : decode cX10_judge 32 = .ok (.ifCond .ge 7, 3) := by decide +kernel
theorem dX10_judge_35 : decode cX10_judge 35 = .ok (.iload_n 1, 1) := by decide +kernel
theorem dX10_judge_36 : decode cX10_judge 36 = .ok (.goto 7, 3) := by decide +kernel
theorem dX10_judge_39 : decode cX10_judge 39 = .ok (.aload_n 0, 1) := by decide +kernel
theorem dX10_judge_40 : decode cX10_judge 40 = .ok (.invokevirtual 349, 3) := by decide +kernel
theorem dX10_judge_43 : decode cX10_judge 43 = .ok (.ireturn, 1) := by decide +kernel
theorem dX10_roster_0 : decode cX10_roster 0 = .ok (.aload_n 0, 1) := by decide +kernel
theorem dX10_roster_1 : decode cX10_roster 1 = .ok (.getfield 9, 3) := by decide +kernel
theorem dX10_roster_4 : decode cX10_roster 4 = .ok (.iconst 2, 1) := by decide +kernel
theorem dX10_roster_5 : decode cX10_roster 5 = .ok (.iaload, 1) := by decide +kernel
theorem dX10_roster_6 : decode cX10_roster 6 = .ok (.ifCond .ne 11, 3) := by decide +kernel
theorem dX10_roster_9 : decode cX10_roster 9 = .ok (.aload_n 0, 1) := by decide +kernel
theorem dX10_roster_10 : decode cX10_roster 10 = .ok (.iconst 0, 1) := by decide +kernel
theorem dX10_roster_11 : decode cX10_roster 11 = .ok (.putfield 245, 3) := by decide +kernel
theorem dX10_roster_14 : decode cX10_roster 14 = .ok (.bipush (-3), 2) := by decide +kernel
theorem dX10_roster_16 : decode cX10_roster 16 = .ok (.ireturn, 1) := by decide +kernel
theorem dX10_roster_17 : decode cX10_roster 17 = .ok (.aload_n 0, 1) := by decide +kernel
theorem dX10_roster_18 : decode cX10_roster 18 = .ok (.invokevirtual 343, 3) := by decide +kernel
theorem dX10_roster_21 : decode cX10_roster 21 = .ok (.aload_n 0, 1) := by decide +kernel
theorem dX10_roster_22 : decode cX10_roster 22 = .ok (.iconst 0, 1) := by decide +kernel
theorem dX10_roster_23 : decode cX10_roster 23 = .ok (.invokevirtual 288, 3) := by decide +kernel
theorem dX10_roster_26 : decode cX10_roster 26 = .ok (.istore_n 1, 1) := by decide +kernel
theorem dX10_roster_27 : decode cX10_roster 27 = .ok (.iload_n 1, 1) := by decide +kernel
theorem dX10_roster_28 : decode cX10_roster 28 = .ok (.ifCond .lt 10, 3) := by decide +kernel
theorem dX10_roster_31 : decode cX10_roster 31 = .ok (.aload_n 0, 1) := by decide +kernel
theorem dX10_roster_32 : decode cX10_roster 32 = .ok (.invokevirtual 334, 3) := by decide +kernel
theorem dX10_roster_35 : decode cX10_roster 35 = .ok (.ifCond .lt 14, 3) := by decide +kernel
theorem dX10_roster_38 : decode cX10_roster 38 = .ok (.iload_n 1, 1) := by decide +kernel
theorem dX10_roster_39 : decode cX10_roster 39 = .ok (.ifCond .ge 7, 3) := by decide +kernel
theorem dX10_roster_42 : decode cX10_roster 42 = .ok (.iload_n 1, 1) := by decide +kernel
theorem dX10_roster_43 : decode cX10_roster 43 = .ok (.goto 5, 3) := by decide +kernel
theorem dX10_roster_46 : decode cX10_roster 46 = .ok (.bipush (-7), 2) := by decide +kernel
theorem dX10_roster_48 : decode cX10_roster 48 = .ok (.ireturn, 1) := by decide +kernel
theorem dX10_roster_49 : decode cX10_roster 49 = .ok (.aload_n 0, 1) := by decide +kernel
theorem dX10_roster_50 : decode cX10_roster 50 = .ok (.aload_n 0, 1) := by decide +kernel
theorem dX10_roster_51 : decode cX10_roster 51 = .ok (.getfield 50, 3) := by decide +kernel
theorem dX10_roster_54 : decode cX10_roster 54 = .ok (.invokevirtual 330, 3) := by decide +kernel
theorem dX10_roster_57 : decode cX10_roster 57 = .ok (.aload_n 0, 1) := by decide +kernel
theorem dX10_roster_58 : decode cX10_roster 58 = .ok (.getfield 9, 3) := by decide +kernel
theorem dX10_roster_61 : decode cX10_roster 61 = .ok (.iconst 2, 1) := by decide +kernel
theorem dX10_roster_62 : decode cX10_roster 62 = .ok (.iaload, 1) := by decide +kernel
theorem dX10_roster_63 : decode cX10_roster 63 = .ok (.aload_n 0, 1) := by decide +kernel
theorem dX10_roster_64 : decode cX10_roster 64 = .ok (.invokevirtual 228, 3) := by decide +kernel
theorem dX10_roster_67 : decode cX10_roster 67 = .ok (.isub, 1) := by decide +kernel
theorem dX10_roster_68 : decode cX10_roster 68 = .ok (.ireturn, 1) := by decide +kernel
theorem dX10_writes_0 : decode cX10_writes 0 = .ok (.aload_n 0, 1) := by decide +kernel
theorem dX10_writes_1 : decode cX10_writes 1 = .ok (.getfield 59, 3) := by decide +kernel
theorem dX10_writes_4 : decode cX10_writes 4 = .ok (.aload_n 0, 1) := by decide +kernel
theorem dX10_writes_5 : decode cX10_writes 5 = .ok (.getfield 352, 3) := by decide +kernel
theorem dX10_writes_8 : decode cX10_writes 8 = .ok (.iload_n 1, 1) := by decide +kernel
theorem dX10_writes_9 : decode cX10_writes 9 = .ok (.iastore, 1) := by decide +kernel
theorem dX10_writes_10 : decode cX10_writes 10 = .ok (.aload_n 0, 1) := by decide +kernel
theorem dX10_writes_11 : decode cX10_writes 11 = .ok (.dup, 1) := by decide +kernel
theorem dX10_writes_12 : decode cX10_writes 12 = .ok (.getfield 352, 3) := by decide +kernel
theorem dX10_writes_15 : decode cX10_writes 15 = .ok (.iconst 1, 1) := by decide +kernel
theorem dX10_writes_16 : decode cX10_writes 16 = .ok (.iadd, 1) := by decide +kernel
theorem dX10_writes_17 : decode cX10_writes 17 = .ok (.putfield 352, 3) := by decide +kernel
theorem dX10_writes_20 : decode cX10_writes 20 = .ok (.return_, 1) := by decide +kernel
theorem dX10_writesDay_0 : decode cX10_writesDay 0 = .ok (.iload_n 1, 1) := by decide +kernel
theorem dX10_writesDay_1 : decode cX10_writesDay 1 = .ok (.bipush 99, 2) := by decide +kernel
theorem dX10_writesDay_3 : decode cX10_writesDay 3 = .ok (.if_icmp .le 14, 3) := by decide +kernel
theorem dX10_writesDay_6 : decode cX10_writesDay 6 = .ok (.aload_n 0, 1) := by decide +kernel
theorem dX10_writesDay_7 : decode cX10_writesDay 7 = .ok (.bipush 48, 2) := by decide +kernel
theorem dX10_writesDay_9 : decode cX10_writesDay 9 = .ok (.iload_n 1, 1) := by decide +kernel
theorem dX10_writesDay_10 : decode cX10_writesDay 10 = .ok (.bipush 100, 2) := by decide +kernel
theorem dX10_writesDay_12 : decode cX10_writesDay 12 = .ok (.idiv, 1) := by decide +kernel
theorem dX10_writesDay_13 : decode cX10_writesDay 13 = .ok (.iadd, 1) := by decide +kernel
theorem dX10_writesDay_14 : decode cX10_writesDay 14 = .ok (.invokevirtual 355, 3) := by decide +kernel
theorem dX10_writesDay_17 : decode cX10_writesDay 17 = .ok (.iload_n 1, 1) := by decide +kernel
theorem dX10_writesDay_18 : decode cX10_writesDay 18 = .ok (.bipush 9, 2) := by decide +kernel
theorem dX10_writesDay_20 : decode cX10_writesDay 20 = .ok (.if_icmp .le 17, 3) := by decide +kernel
theorem dX10_writesDay_23 : decode cX10_writesDay 23 = .ok (.aload_n 0, 1) := by decide +kernel
theorem dX10_writesDay_24 : decode cX10_writesDay 24 = .ok (.bipush 48, 2) := by decide +kernel
theorem dX10_writesDay_26 : decode cX10_writesDay 26 = .ok (.iload_n 1, 1) := by decide +kernel
theorem dX10_writesDay_27 : decode cX10_writesDay 27 = .ok (.bipush 10, 2) := by decide +kernel
theorem dX10_writesDay_29 : decode cX10_writesDay 29 = .ok (.idiv, 1) := by decide +kernel
theorem dX10_writesDay_30 : decode cX10_writesDay 30 = .ok (.bipush 10, 2) := by decide +kernel
theorem dX10_writesDay_32 : decode cX10_writesDay 32 = .ok (.irem, 1) := by decide +kernel
theorem dX10_writesDay_33 : decode cX10_writesDay 33 = .ok (.iadd, 1) := by decide +kernel
theorem dX10_writesDay_34 : decode cX10_writesDay 34 = .ok (.invokevirtual 355, 3) := by decide +kernel
theorem dX10_writesDay_37 : decode cX10_writesDay 37 = .ok (.aload_n 0, 1) := by decide +kernel
theorem dX10_writesDay_38 : decode cX10_writesDay 38 = .ok (.bipush 48, 2) := by decide +kernel
theorem dX10_writesDay_40 : decode cX10_writesDay 40 = .ok (.iload_n 1, 1) := by decide +kernel
theorem dX10_writesDay_41 : decode cX10_writesDay 41 = .ok (.bipush 10, 2) := by decide +kernel
theorem dX10_writesDay_43 : decode cX10_writesDay 43 = .ok (.irem, 1) := by decide +kernel
theorem dX10_writesDay_44 : decode cX10_writesDay 44 = .ok (.iadd, 1) := by decide +kernel
theorem dX10_writesDay_45 : decode cX10_writesDay 45 = .ok (.invokevirtual 355, 3) := by decide +kernel
theorem dX10_writesDay_48 : decode cX10_writesDay 48 = .ok (.return_, 1) := by decide +kernel
theorem dX10_spell_0 : decode cX10_spell 0 = .ok (.aload_n 0, 1) := by decide +kernel
theorem dX10_spell_1 : decode cX10_spell 1 = .ok (.iconst 0, 1) := by decide +kernel
theorem dX10_spell_2 : decode cX10_spell 2 = .ok (.putfield 352, 3) := by decide +kernel
theorem dX10_spell_5 : decode cX10_spell 5 = .ok (.aload_n 0, 1) := by decide +kernel
theorem dX10_spell_6 : decode cX10_spell 6 = .ok (.invokevirtual 103, 3) := by decide +kernel
theorem dX10_spell_9 : decode cX10_spell 9 = .ok (.iconst 0, 1) := by decide +kernel
theorem dX10_spell_10 : decode cX10_spell 10 = .ok (.istore_n 1, 1) := by decide +kernel
theorem dX10_spell_11 : decode cX10_spell 11 = .ok (.iload_n 1, 1) := by decide +kernel
theorem dX10_spell_12 : decode cX10_spell 12 = .ok (.aload_n 0, 1) := by decide +kernel
theorem dX10_spell_13 : decode cX10_spell 13 = .ok (.getfield 9, 3) := by decide +kernel
theorem dX10_spell_16 : decode cX10_spell 16 = .ok (.iconst 2, 1) := by decide +kernel
theorem dX10_spell_17 : decode cX10_spell 17 = .ok (.iaload, 1) := by decide +kernel
theorem dX10_spell_18 : decode cX10_spell 18 = .ok (.if_icmp .ge 90, 3) := by decide +kernel
theorem dX10_spell_21 : decode cX10_spell 21 = .ok (.aload_n 0, 1) := by decide +kernel
theorem dX10_spell_22 : decode cX10_spell 22 = .ok (.getfield 22, 3) := by decide +kernel
theorem dX10_spell_25 : decode cX10_spell 25 = .ok (.iload_n 1, 1) := by decide +kernel
theorem dX10_spell_26 : decode cX10_spell 26 = .ok (.iaload, 1) := by decide +kernel
theorem dX10_spell_27 : decode cX10_spell 27 = .ok (.istore_n 2, 1) := by decide +kernel
theorem dX10_spell_28 : decode cX10_spell 28 = .ok (.iload_n 1, 1) := by decide +kernel
theorem dX10_spell_29 : decode cX10_spell 29 = .ok (.ifCond .le 9, 3) := by decide +kernel
theorem dX10_spell_32 : decode cX10_spell 32 = .ok (.aload_n 0, 1) := by decide +kernel
theorem dX10_spell_33 : decode cX10_spell 33 = .ok (.bipush 59, 2) := by decide +kernel
theorem dX10_spell_35 : decode cX10_spell 35 = .ok (.invokevirtual 355, 3) := by decide +kernel
theorem dX10_spell_38 : decode cX10_spell 38 = .ok (.aload_n 0, 1) := by decide +kernel
theorem dX10_spell_39 : decode cX10_spell 39 = .ok (.aload_n 0, 1) := by decide +kernel
theorem dX10_spell_40 : decode cX10_spell 40 = .ok (.getfield 9, 3) := by decide +kernel
theorem dX10_spell_43 : decode cX10_spell 43 = .ok (.sipush 251, 3) := by decide +kernel
theorem dX10_spell_46 : decode cX10_spell 46 = .ok (.iload_n 2, 1) := by decide +kernel
theorem dX10_spell_47 : decode cX10_spell 47 = .ok (.iadd, 1) := by decide +kernel
theorem dX10_spell_48 : decode cX10_spell 48 = .ok (.iaload, 1) := by decide +kernel
theorem dX10_spell_49 : decode cX10_spell 49 = .ok (.invokevirtual 358, 3) := by decide +kernel
theorem dX10_spell_52 : decode cX10_spell 52 = .ok (.aload_n 0, 1) := by decide +kernel
theorem dX10_spell_53 : decode cX10_spell 53 = .ok (.aload_n 0, 1) := by decide +kernel
theorem dX10_spell_54 : decode cX10_spell 54 = .ok (.getfield 16, 3) := by decide +kernel
theorem dX10_spell_57 : decode cX10_spell 57 = .ok (.aload_n 0, 1) := by decide +kernel
theorem dX10_spell_58 : decode cX10_spell 58 = .ok (.getfield 9, 3) := by decide +kernel
theorem dX10_spell_61 : decode cX10_spell 61 = .ok (.sipush 275, 3) := by decide +kernel
theorem dX10_spell_64 : decode cX10_spell 64 = .ok (.iload_n 2, 1) := by decide +kernel
theorem dX10_spell_65 : decode cX10_spell 65 = .ok (.iadd, 1) := by decide +kernel
theorem dX10_spell_66 : decode cX10_spell 66 = .ok (.iaload, 1) := by decide +kernel
theorem dX10_spell_67 : decode cX10_spell 67 = .ok (.iaload, 1) := by decide +kernel
theorem dX10_spell_68 : decode cX10_spell 68 = .ok (.invokevirtual 355, 3) := by decide +kernel
theorem dX10_spell_71 : decode cX10_spell 71 = .ok (.aload_n 0, 1) := by decide +kernel
theorem dX10_spell_72 : decode cX10_spell 72 = .ok (.bipush 61, 2) := by decide +kernel
theorem dX10_spell_74 : decode cX10_spell 74 = .ok (.invokevirtual 355, 3) := by decide +kernel
theorem dX10_spell_77 : decode cX10_spell 77 = .ok (.aload_n 0, 1) := by decide +kernel
theorem dX10_spell_78 : decode cX10_spell 78 = .ok (.aload_n 0, 1) := by decide +kernel
theorem dX10_spell_79 : decode cX10_spell 79 = .ok (.iload_n 2, 1) := by decide +kernel
theorem dX10_spell_80 : decode cX10_spell 80 = .ok (.invokevirtual 78, 3) := by decide +kernel
theorem dX10_spell_83 : decode cX10_spell 83 = .ok (.ifCond .ge 8, 3) := by decide +kernel
theorem dX10_spell_86 : decode cX10_spell 86 = .ok (.bipush 45, 2) := by decide +kernel
theorem dX10_spell_88 : decode cX10_spell 88 = .ok (.goto 11, 3) := by decide +kernel
theorem dX10_spell_91 : decode cX10_spell 91 = .ok (.bipush 48, 2) := by decide +kernel
theorem dX10_spell_93 : decode cX10_spell 93 = .ok (.aload_n 0, 1) := by decide +kernel
theorem dX10_spell_94 : decode cX10_spell 94 = .ok (.iload_n 2, 1) := by decide +kernel
theorem dX10_spell_95 : decode cX10_spell 95 = .ok (.invokevirtual 78, 3) := by decide +kernel
theorem dX10_spell_98 : decode cX10_spell 98 = .ok (.iadd, 1) := by decide +kernel
theorem dX10_spell_99 : decode cX10_spell 99 = .ok (.invokevirtual 355, 3) := by decide +kernel
theorem dX10_spell_102 : decode cX10_spell 102 = .ok (.iinc 1 1, 3) := by decide +kernel
theorem dX10_spell_105 : decode cX10_spell 105 = .ok (.goto (-94), 3) := by decide +kernel
theorem dX10_spell_108 : decode cX10_spell 108 = .ok (.aload_n 0, 1) := by decide +kernel
theorem dX10_spell_109 : decode cX10_spell 109 = .ok (.getfield 352, 3) := by decide +kernel
theorem dX10_spell_112 : decode cX10_spell 112 = .ok (.ireturn, 1) := by decide +kernel
theorem dX10_paper_0 : decode cX10_paper 0 = .ok (.iload_n 1, 1) := by decide +kernel
theorem dX10_paper_1 : decode cX10_paper 1 = .ok (.i2l, 1) := by decide +kernel
theorem dX10_paper_2 : decode cX10_paper 2 = .ok (.lconst 0, 1) := by decide +kernel
theorem dX10_paper_3 : decode cX10_paper 3 = .ok (.aload_n 0, 1) := by decide +kernel
theorem dX10_paper_4 : decode cX10_paper 4 = .ok (.getfield 352, 3) := by decide +kernel
theorem dX10_paper_7 : decode cX10_paper 7 = .ok (.iconst 1, 1) := by decide +kernel
theorem dX10_paper_8 : decode cX10_paper 8 = .ok (.isub, 1) := by decide +kernel
theorem dX10_paper_9 : decode cX10_paper 9 = .ok (.i2l, 1) := by decide +kernel
theorem dX10_paper_10 : decode cX10_paper 10 = .ok (.invokestatic 68, 3) := by decide +kernel
theorem dX10_paper_13 : decode cX10_paper 13 = .ok (.ifCond .eq 12, 3) := by decide +kernel
theorem dX10_paper_16 : decode cX10_paper 16 = .ok (.aload_n 0, 1) := by decide +kernel
theorem dX10_paper_17 : decode cX10_paper 17 = .ok (.getfield 59, 3) := by decide +kernel
theorem dX10_paper_20 : decode cX10_paper 20 = .ok (.iload_n 1, 1) := by decide +kernel
theorem dX10_paper_21 : decode cX10_paper 21 = .ok (.iaload, 1) := by decide +kernel
theorem dX10_paper_22 : decode cX10_paper 22 = .ok (.goto 4, 3) := by decide +kernel
theorem dX10_paper_25 : decode cX10_paper 25 = .ok (.iconst (-1), 1) := by decide +kernel
theorem dX10_paper_26 : decode cX10_paper 26 = .ok (.ireturn, 1) := by decide +kernel
theorem dX10_daysUnlike_0 : decode cX10_daysUnlike 0 = .ok (.aload_n 0, 1) := by decide +kernel
theorem dX10_daysUnlike_1 : decode cX10_daysUnlike 1 = .ok (.invokevirtual 103, 3) := by decide +kernel
theorem dX10_daysUnlike_4 : decode cX10_daysUnlike 4 = .ok (.iconst 0, 1) := by decide +kernel
theorem dX10_daysUnlike_5 : decode cX10_daysUnlike 5 = .ok (.istore_n 1, 1) := by decide +kernel
theorem dX10_daysUnlike_6 : decode cX10_daysUnlike 6 = .ok (.iconst 0, 1) := by decide +kernel
theorem dX10_daysUnlike_7 : decode cX10_daysUnlike 7 = .ok (.istore_n 2, 1) := by decide +kernel
theorem dX10_daysUnlike_8 : decode cX10_daysUnlike 8 = .ok (.iload_n 2, 1) := by decide +kernel
theorem dX10_daysUnlike_9 : decode cX10_daysUnlike 9 = .ok (.aload_n 0, 1) := by decide +kernel
theorem dX10_daysUnlike_10 : decode cX10_daysUnlike 10 = .ok (.getfield 9, 3) := by decide +kernel
theorem dX10_daysUnlike_13 : decode cX10_daysUnlike 13 = .ok (.iconst 2, 1) := by decide +kernel
theorem dX10_daysUnlike_14 : decode cX10_daysUnlike 14 = .ok (.iaload, 1) := by decide +kernel
theorem dX10_daysUnlike_15 : decode cX10_daysUnlike 15 = .ok (.if_icmp .ge 56, 3) := by decide +kernel
theorem dX10_daysUnlike_18 : decode cX10_daysUnlike 18 = .ok (.iload_n 1, 1) := by decide +kernel
theorem dX10_daysUnlike_19 : decode cX10_daysUnlike 19 = .ok (.iload_n 2, 1) := by decide +kernel
theorem dX10_daysUnlike_20 : decode cX10_daysUnlike 20 = .ok (.ifCond .eq 38, 3) := by decide +kernel
theorem dX10_daysUnlike_23 : decode cX10_daysUnlike 23 = .ok (.aload_n 0, 1) := by decide +kernel
theorem dX10_daysUnlike_24 : decode cX10_daysUnlike 24 = .ok (.getfield 9, 3) := by decide +kernel
theorem dX10_daysUnlike_27 : decode cX10_daysUnlike 27 = .ok (.sipush 251, 3) := by decide +kernel
theorem dX10_daysUnlike_30 : decode cX10_daysUnlike 30 = .ok (.aload_n 0, 1) := by decide +kernel
theorem dX10_daysUnlike_31 : decode cX10_daysUnlike 31 = .ok (.getfield 22, 3) := by decide +kernel
theorem dX10_daysUnlike_34 : decode cX10_daysUnlike 34 = .ok (.iload_n 2, 1) := by decide +kernel
theorem dX10_daysUnlike_35 : decode cX10_daysUnlike 35 = .ok (.iaload, 1) := by decide +kernel
theorem dX10_daysUnlike_36 : decode cX10_daysUnlike 36 = .ok (.iadd, 1) := by decide +kernel
theorem dX10_daysUnlike_37 : decode cX10_daysUnlike 37 = .ok (.iaload, 1) := by decide +kernel
theorem dX10_daysUnlike_38 : decode cX10_daysUnlike 38 = .ok (.aload_n 0, 1) := by decide +kernel
theorem dX10_daysUnlike_39 : decode cX10_daysUnlike 39 = .ok (.getfield 9, 3) := by decide +kernel
theorem dX10_daysUnlike_42 : decode cX10_daysUnlike 42 = .ok (.sipush 251, 3) := by decide +kernel
theorem dX10_daysUnlike_45 : decode cX10_daysUnlike 45 = .ok (.aload_n 0, 1) := by decide +kernel
theorem dX10_daysUnlike_46 : decode cX10_daysUnlike 46 = .ok (.getfield 22, 3) := by decide +kernel
theorem dX10_daysUnlike_49 : decode cX10_daysUnlike 49 = .ok (.iload_n 2, 1) := by decide +kernel
theorem dX10_daysUnlike_50 : decode cX10_daysUnlike 50 = .ok (.iconst 1, 1) := by decide +kernel
theorem dX10_daysUnlike_51 : decode cX10_daysUnlike 51 = .ok (.isub, 1) := by decide +kernel
theorem dX10_daysUnlike_52 : decode cX10_daysUnlike 52 = .ok (.iaload, 1) := by decide +kernel
theorem dX10_daysUnlike_53 : decode cX10_daysUnlike 53 = .ok (.iadd, 1) := by decide +kernel
theorem dX10_daysUnlike_54 : decode cX10_daysUnlike 54 = .ok (.iaload, 1) := by decide +kernel
theorem dX10_daysUnlike_55 : decode cX10_daysUnlike 55 = .ok (.if_icmp .eq 7, 3) := by decide +kernel
theorem dX10_daysUnlike_58 : decode cX10_daysUnlike 58 = .ok (.iconst 1, 1) := by decide +kernel
theorem dX10_daysUnlike_59 : decode cX10_daysUnlike 59 = .ok (.goto 4, 3) := by decide +kernel
theorem dX10_daysUnlike_62 : decode cX10_daysUnlike 62 = .ok (.iconst 0, 1) := by decide +kernel
theorem dX10_daysUnlike_63 : decode cX10_daysUnlike 63 = .ok (.iadd, 1) := by decide +kernel
theorem dX10_daysUnlike_64 : decode cX10_daysUnlike 64 = .ok (.istore_n 1, 1) := by decide +kernel
theorem dX10_daysUnlike_65 : decode cX10_daysUnlike 65 = .ok (.iinc 2 1, 3) := by decide +kernel
theorem dX10_daysUnlike_68 : decode cX10_daysUnlike 68 = .ok (.goto (-60), 3) := by decide +kernel
theorem dX10_daysUnlike_71 : decode cX10_daysUnlike 71 = .ok (.iload_n 1, 1) := by decide +kernel
theorem dX10_daysUnlike_72 : decode cX10_daysUnlike 72 = .ok (.ireturn, 1) := by decide +kernel
theorem dX10_dayAt_0 : decode cX10_dayAt 0 = .ok (.aload_n 0, 1) := by decide +kernel
theorem dX10_dayAt_1 : decode cX10_dayAt 1 = .ok (.invokevirtual 103, 3) := by decide +kernel
theorem dX10_dayAt_4 : decode cX10_dayAt 4 = .ok (.aload_n 0, 1) := by decide +kernel
theorem dX10_dayAt_5 : decode cX10_dayAt 5 = .ok (.getfield 9, 3) := by decide +kernel
theorem dX10_dayAt_8 : decode cX10_dayAt 8 = .ok (.iconst 2, 1) := by decide +kernel
theorem dX10_dayAt_9 : decode cX10_dayAt 9 = .ok (.iaload, 1) := by decide +kernel
theorem dX10_dayAt_10 : decode cX10_dayAt 10 = .ok (.ifCond .ne 7, 3) := by decide +kernel
theorem dX10_dayAt_13 : decode cX10_dayAt 13 = .ok (.iconst (-1), 1) := by decide +kernel
theorem dX10_dayAt_14 : decode cX10_dayAt 14 = .ok (.goto 18, 3) := by decide +kernel
theorem dX10_dayAt_17 : decode cX10_dayAt 17 = .ok (.aload_n 0, 1) := by decide +kernel
theorem dX10_dayAt_18 : decode cX10_dayAt 18 = .ok (.getfield 9, 3) := by decide +kernel
theorem dX10_dayAt_21 : decode cX10_dayAt 21 = .ok (.sipush 251, 3) := by decide +kernel
theorem dX10_dayAt_24 : decode cX10_dayAt 24 = .ok (.aload_n 0, 1) := by decide +kernel
theorem dX10_dayAt_25 : decode cX10_dayAt 25 = .ok (.getfield 22, 3) := by decide +kernel
theorem dX10_dayAt_28 : decode cX10_dayAt 28 = .ok (.iload_n 1, 1) := by decide +kernel
theorem dX10_dayAt_29 : decode cX10_dayAt 29 = .ok (.iaload, 1) := by decide +kernel
theorem dX10_dayAt_30 : decode cX10_dayAt 30 = .ok (.iadd, 1) := by decide +kernel
theorem dX10_dayAt_31 : decode cX10_dayAt 31 = .ok (.iaload, 1) := by decide +kernel
theorem dX10_dayAt_32 : decode cX10_dayAt 32 = .ok (.ireturn, 1) := by decide +kernel
theorem dX10_ofKind_0 : decode cX10_ofKind 0 = .ok (.iconst 0, 1) := by decide +kernel
theorem dX10_ofKind_1 : decode cX10_ofKind 1 = .ok (.istore_n 2, 1) := by decide +kernel
theorem dX10_ofKind_2 : decode cX10_ofKind 2 = .ok (.iconst 0, 1) := by decide +kernel
theorem dX10_ofKind_3 : decode cX10_ofKind 3 = .ok (.istore_n 3, 1) := by decide +kernel
theorem dX10_ofKind_4 : decode cX10_ofKind 4 = .ok (.iload_n 3, 1) := by decide +kernel
theorem dX10_ofKind_5 : decode cX10_ofKind 5 = .ok (.aload_n 0, 1) := by decide +kernel
theorem dX10_ofKind_6 : decode cX10_ofKind 6 = .ok (.getfield 9, 3) := by decide +kernel
theorem dX10_ofKind_9 : decode cX10_ofKind 9 = .ok (.iconst 2, 1) := by decide +kernel
theorem dX10_ofKind_10 : decode cX10_ofKind 10 = .ok (.iaload, 1) := by decide +kernel
theorem dX10_ofKind_11 : decode cX10_ofKind 11 = .ok (.if_icmp .ge 31, 3) := by decide +kernel
theorem dX10_ofKind_14 : decode cX10_ofKind 14 = .ok (.iload_n 2, 1) := by decide +kernel
theorem dX10_ofKind_15 : decode cX10_ofKind 15 = .ok (.aload_n 0, 1) := by decide +kernel
theorem dX10_ofKind_16 : decode cX10_ofKind 16 = .ok (.getfield 9, 3) := by decide +kernel
theorem dX10_ofKind_19 : decode cX10_ofKind 19 = .ok (.sipush 275, 3) := by decide +kernel
theorem dX10_ofKind_22 : decode cX10_ofKind 22 = .ok (.iload_n 3, 1) := by decide +kernel
theorem dX10_ofKind_23 : decode cX10_ofKind 23 = .ok (.iadd, 1) := by decide +kernel
theorem dX10_ofKind_24 : decode cX10_ofKind 24 = .ok (.iaload, 1) := by decide +kernel
theorem dX10_ofKind_25 : decode cX10_ofKind 25 = .ok (.iload_n 1, 1) := by decide +kernel
theorem dX10_ofKind_26 : decode cX10_ofKind 26 = .ok (.if_icmp .ne 7, 3) := by decide +kernel
theorem dX10_ofKind_29 : decode cX10_ofKind 29 = .ok (.iconst 1, 1) := by decide +kernel
theorem dX10_ofKind_30 : decode cX10_ofKind 30 = .ok (.goto 4, 3) := by decide +kernel
theorem dX10_ofKind_33 : decode cX10_ofKind 33 = .ok (.iconst 0, 1) := by decide +kernel
theorem dX10_ofKind_34 : decode cX10_ofKind 34 = .ok (.iadd, 1) := by decide +kernel
theorem dX10_ofKind_35 : decode cX10_ofKind 35 = .ok (.istore_n 2, 1) := by decide +kernel
theorem dX10_ofKind_36 : decode cX10_ofKind 36 = .ok (.iinc 3 1, 3) := by decide +kernel
theorem dX10_ofKind_39 : decode cX10_ofKind 39 = .ok (.goto (-35), 3) := by decide +kernel
theorem dX10_ofKind_42 : decode cX10_ofKind 42 = .ok (.iload_n 2, 1) := by decide +kernel
theorem dX10_ofKind_43 : decode cX10_ofKind 43 = .ok (.ireturn, 1) := by decide +kernel
theorem dX10_told_0 : decode cX10_told 0 = .ok (.iload_n 1, 1) := by decide +kernel
theorem dX10_told_1 : decode cX10_told 1 = .ok (.tableswitch 124 0 9 #[55, 62, 67, 74, 79, 86, 91, 96, 101, 107], 55) := by decide +kernel
theorem dX10_told_56 : decode cX10_told 56 = .ok (.aload_n 0, 1) := by decide +kernel
theorem dX10_told_57 : decode cX10_told 57 = .ok (.getfield 9, 3) := by decide +kernel
theorem dX10_told_60 : decode cX10_told 60 = .ok (.iconst 0, 1) := by decide +kernel
theorem dX10_told_61 : decode cX10_told 61 = .ok (.iaload, 1) := by decide +kernel
theorem dX10_told_62 : decode cX10_told 62 = .ok (.ireturn, 1) := by decide +kernel
theorem dX10_told_63 : decode cX10_told 63 = .ok (.aload_n 0, 1) := by decide +kernel
theorem dX10_told_64 : decode cX10_told 64 = .ok (.invokevirtual 96, 3) := by decide +kernel
theorem dX10_told_67 : decode cX10_told 67 = .ok (.ireturn, 1) := by decide +kernel
theorem dX10_told_68 : decode cX10_told 68 = .ok (.aload_n 0, 1) := by decide +kernel
theorem dX10_told_69 : decode cX10_told 69 = .ok (.getfield 9, 3) := by decide +kernel
theorem dX10_told_72 : decode cX10_told 72 = .ok (.iconst 2, 1) := by decide +kernel
theorem dX10_told_73 : decode cX10_told 73 = .ok (.iaload, 1) := by decide +kernel
theorem dX10_told_74 : decode cX10_told 74 = .ok (.ireturn, 1) := by decide +kernel
theorem dX10_told_75 : decode cX10_told 75 = .ok (.aload_n 0, 1) := by decide +kernel
theorem dX10_told_76 : decode cX10_told 76 = .ok (.invokevirtual 228, 3) := by decide +kernel
theorem dX10_told_79 : decode cX10_told 79 = .ok (.ireturn, 1) := by decide +kernel
theorem dX10_told_80 : decode cX10_told 80 = .ok (.aload_n 0, 1) := by decide +kernel
theorem dX10_told_81 : decode cX10_told 81 = .ok (.getfield 9, 3) := by decide +kernel
theorem dX10_told_84 : decode cX10_told 84 = .ok (.iconst 1, 1) := by decide +kernel
theorem dX10_told_85 : decode cX10_told 85 = .ok (.iaload, 1) := by decide +kernel
theorem dX10_told_86 : decode cX10_told 86 = .ok (.ireturn, 1) := by decide +kernel
theorem dX10_told_87 : decode cX10_told 87 = .ok (.aload_n 0, 1) := by decide +kernel
theorem dX10_told_88 : decode cX10_told 88 = .ok (.getfield 245, 3) := by decide +kernel
theorem dX10_told_91 : decode cX10_told 91 = .ok (.ireturn, 1) := by decide +kernel
theorem dX10_told_92 : decode cX10_told 92 = .ok (.aload_n 0, 1) := by decide +kernel
theorem dX10_told_93 : decode cX10_told 93 = .ok (.getfield 352, 3) := by decide +kernel
theorem dX10_told_96 : decode cX10_told 96 = .ok (.ireturn, 1) := by decide +kernel
theorem dX10_told_97 : decode cX10_told 97 = .ok (.aload_n 0, 1) := by decide +kernel
theorem dX10_told_98 : decode cX10_told 98 = .ok (.invokevirtual 361, 3) := by decide +kernel
theorem dX10_told_101 : decode cX10_told 101 = .ok (.ireturn, 1) := by decide +kernel
theorem dX10_told_102 : decode cX10_told 102 = .ok (.aload_n 0, 1) := by decide +kernel
theorem dX10_told_103 : decode cX10_told 103 = .ok (.iconst 0, 1) := by decide +kernel
theorem dX10_told_104 : decode cX10_told 104 = .ok (.invokevirtual 364, 3) := by decide +kernel
theorem dX10_told_107 : decode cX10_told 107 = .ok (.ireturn, 1) := by decide +kernel
theorem dX10_told_108 : decode cX10_told 108 = .ok (.aload_n 0, 1) := by decide +kernel
theorem dX10_told_109 : decode cX10_told 109 = .ok (.iconst 0, 1) := by decide +kernel
theorem dX10_told_110 : decode cX10_told 110 = .ok (.aload_n 0, 1) := by decide +kernel
theorem dX10_told_111 : decode cX10_told 111 = .ok (.getfield 9, 3) := by decide +kernel
theorem dX10_told_114 : decode cX10_told 114 = .ok (.iconst 2, 1) := by decide +kernel
theorem dX10_told_115 : decode cX10_told 115 = .ok (.iaload, 1) := by decide +kernel
theorem dX10_told_116 : decode cX10_told 116 = .ok (.iconst 1, 1) := by decide +kernel
theorem dX10_told_117 : decode cX10_told 117 = .ok (.isub, 1) := by decide +kernel
theorem dX10_told_118 : decode cX10_told 118 = .ok (.invokestatic 367, 3) := by decide +kernel
theorem dX10_told_121 : decode cX10_told 121 = .ok (.invokevirtual 364, 3) := by decide +kernel
theorem dX10_told_124 : decode cX10_told 124 = .ok (.ireturn, 1) := by decide +kernel
theorem dX10_told_125 : decode cX10_told 125 = .ok (.iload_n 1, 1) := by decide +kernel
theorem dX10_told_126 : decode cX10_told 126 = .ok (.i2l, 1) := by decide +kernel
theorem dX10_told_127 : decode cX10_told 127 = .ok (.ldc2_w 128, 3) := by decide +kernel
theorem dX10_told_130 : decode cX10_told 130 = .ok (.ldc2_w 218, 3) := by decide +kernel
theorem dX10_told_133 : decode cX10_told 133 = .ok (.invokestatic 68, 3) := by decide +kernel
theorem dX10_told_136 : decode cX10_told 136 = .ok (.ifCond .eq 14, 3) := by decide +kernel
theorem dX10_told_139 : decode cX10_told 139 = .ok (.aload_n 0, 1) := by decide +kernel
theorem dX10_told_140 : decode cX10_told 140 = .ok (.iload_n 1, 1) := by decide +kernel
theorem dX10_told_141 : decode cX10_told 141 = .ok (.bipush 10, 2) := by decide +kernel
theorem dX10_told_143 : decode cX10_told 143 = .ok (.isub, 1) := by decide +kernel
theorem dX10_told_144 : decode cX10_told 144 = .ok (.invokevirtual 370, 3) := by decide +kernel
theorem dX10_told_147 : decode cX10_told 147 = .ok (.goto 29, 3) := by decide +kernel
theorem dX10_told_150 : decode cX10_told 150 = .ok (.iload_n 1, 1) := by decide +kernel
theorem dX10_told_151 : decode cX10_told 151 = .ok (.i2l, 1) := by decide +kernel
theorem dX10_told_152 : decode cX10_told 152 = .ok (.ldc2_w 373, 3) := by decide +kernel
theorem dX10_told_155 : decode cX10_told 155 = .ok (.ldc2_w 375, 3) := by decide +kernel
theorem dX10_told_158 : decode cX10_told 158 = .ok (.invokestatic 68, 3) := by decide +kernel
theorem dX10_told_161 : decode cX10_told 161 = .ok (.ifCond .eq 14, 3) := by decide +kernel
theorem dX10_told_164 : decode cX10_told 164 = .ok (.aload_n 0, 1) := by decide +kernel
theorem dX10_told_165 : decode cX10_told 165 = .ok (.iload_n 1, 1) := by decide +kernel
theorem dX10_told_166 : decode cX10_told 166 = .ok (.bipush 20, 2) := by decide +kernel
theorem dX10_told_168 : decode cX10_told 168 = .ok (.isub, 1) := by decide +kernel
theorem dX10_told_169 : decode cX10_told 169 = .ok (.invokevirtual 340, 3) := by decide +kernel
theorem dX10_told_172 : decode cX10_told 172 = .ok (.goto 4, 3) := by decide +kernel
theorem dX10_told_175 : decode cX10_told 175 = .ok (.iconst (-1), 1) := by decide +kernel
theorem dX10_told_176 : decode cX10_told 176 = .ok (.ireturn, 1) := by decide +kernel
theorem dX10_isList_0 : decode cX10_isList 0 = .ok (.iload_n 0, 1) := by decide +kernel
theorem dX10_isList_1 : decode cX10_isList 1 = .ok (.i2l, 1) := by decide +kernel
theorem dX10_isList_2 : decode cX10_isList 2 = .ok (.lconst 0, 1) := by decide +kernel
theorem dX10_isList_3 : decode cX10_isList 3 = .ok (.ldc2_w 76, 3) := by decide +kernel
theorem dX10_isList_6 : decode cX10_isList 6 = .ok (.invokestatic 68, 3) := by decide +kernel
theorem dX10_isList_9 : decode cX10_isList 9 = .ok (.ireturn, 1) := by decide +kernel
theorem dX10_list_0 : decode cX10_list 0 = .ok (.iload_n 1, 1) := by decide +kernel
theorem dX10_list_1 : decode cX10_list 1 = .ok (.invokestatic 377, 3) := by decide +kernel
theorem dX10_list_4 : decode cX10_list 4 = .ok (.ifCond .ne 5, 3) := by decide +kernel
theorem dX10_list_7 : decode cX10_list 7 = .ok (.iconst (-1), 1) := by decide +kernel
theorem dX10_list_8 : decode cX10_list 8 = .ok (.ireturn, 1) := by decide +kernel
theorem dX10_list_9 : decode cX10_list 9 = .ok (.iload_n 2, 1) := by decide +kernel
theorem dX10_list_10 : decode cX10_list 10 = .ok (.bipush 30, 2) := by decide +kernel
theorem dX10_list_12 : decode cX10_list 12 = .ok (.if_icmp .le 6, 3) := by decide +kernel
theorem dX10_list_15 : decode cX10_list 15 = .ok (.bipush (-2), 2) := by decide +kernel
theorem dX10_list_17 : decode cX10_list 17 = .ok (.ireturn, 1) := by decide +kernel
theorem dX10_list_18 : decode cX10_list 18 = .ok (.iload_n 2, 1) := by decide +kernel
theorem dX10_list_19 : decode cX10_list 19 = .ok (.ifCond .ge 6, 3) := by decide +kernel
theorem dX10_list_22 : decode cX10_list 22 = .ok (.bipush (-14), 2) := by decide +kernel
theorem dX10_list_24 : decode cX10_list 24 = .ok (.ireturn, 1) := by decide +kernel
theorem dX10_list_25 : decode cX10_list 25 = .ok (.aload_n 0, 1) := by decide +kernel
theorem dX10_list_26 : decode cX10_list 26 = .ok (.getfield 62, 3) := by decide +kernel
theorem dX10_list_29 : decode cX10_list 29 = .ok (.iload_n 1, 1) := by decide +kernel
theorem dX10_list_30 : decode cX10_list 30 = .ok (.iload_n 2, 1) := by decide +kernel
theorem dX10_list_31 : decode cX10_list 31 = .ok (.iastore, 1) := by decide +kernel
theorem dX10_list_32 : decode cX10_list 32 = .ok (.iconst 0, 1) := by decide +kernel
theorem dX10_list_33 : decode cX10_list 33 = .ok (.istore_n 3, 1) := by decide +kernel
theorem dX10_list_34 : decode cX10_list 34 = .ok (.iload_n 3, 1) := by decide +kernel
theorem dX10_list_35 : decode cX10_list 35 = .ok (.bipush 30, 2) := by decide +kernel
theorem dX10_list_37 : decode cX10_list 37 = .ok (.if_icmp .ge 21, 3) := by decide +kernel
theorem dX10_list_40 : decode cX10_list 40 = .ok (.aload_n 0, 1) := by decide +kernel
theorem dX10_list_41 : decode cX10_list 41 = .ok (.getfield 65, 3) := by decide +kernel
theorem dX10_list_44 : decode cX10_list 44 = .ok (.bipush 30, 2) := by decide +kernel
theorem dX10_list_46 : decode cX10_list 46 = .ok (.iload_n 1, 1) := by decide +kernel
theorem dX10_list_47 : decode cX10_list 47 = .ok (.imul, 1) := by decide +kernel
theorem dX10_list_48 : decode cX10_list 48 = .ok (.iload_n 3, 1) := by decide +kernel
theorem dX10_list_49 : decode cX10_list 49 = .ok (.iadd, 1) := by decide +kernel
theorem dX10_list_50 : decode cX10_list 50 = .ok (.iconst 0, 1) := by decide +kernel
theorem dX10_list_51 : decode cX10_list 51 = .ok (.iastore, 1) := by decide +kernel
theorem dX10_list_52 : decode cX10_list 52 = .ok (.iinc 3 1, 3) := by decide +kernel
theorem dX10_list_55 : decode cX10_list 55 = .ok (.goto (-21), 3) := by decide +kernel
theorem dX10_list_58 : decode cX10_list 58 = .ok (.iconst 1, 1) := by decide +kernel
theorem dX10_list_59 : decode cX10_list 59 = .ok (.ireturn, 1) := by decide +kernel
theorem dX10_set_0 : decode cX10_set 0 = .ok (.iload_n 1, 1) := by decide +kernel
theorem dX10_set_1 : decode cX10_set 1 = .ok (.invokestatic 377, 3) := by decide +kernel
theorem dX10_set_4 : decode cX10_set 4 = .ok (.ifCond .ne 5, 3) := by decide +kernel
theorem dX10_set_7 : decode cX10_set 7 = .ok (.iconst (-1), 1) := by decide +kernel
theorem dX10_set_8 : decode cX10_set 8 = .ok (.ireturn, 1) := by decide +kernel
theorem dX10_set_9 : decode cX10_set 9 = .ok (.aload_n 0, 1) := by decide +kernel
theorem dX10_set_10 : decode cX10_set 10 = .ok (.getfield 62, 3) := by decide +kernel
theorem dX10_set_13 : decode cX10_set 13 = .ok (.iload_n 1, 1) := by decide +kernel
theorem dX10_set_14 : decode cX10_set 14 = .ok (.iaload, 1) := by decide +kernel
theorem dX10_set_15 : decode cX10_set 15 = .ok (.ifCond .ge 6, 3) := by decide +kernel
theorem dX10_set_18 : decode cX10_set 18 = .ok (.bipush (-11), 2) := by decide +kernel
theorem dX10_set_20 : decode cX10_set 20 = .ok (.ireturn, 1) := by decide +kernel
theorem dX10_set_21 : decode cX10_set 21 = .ok (.iload_n 2, 1) := by decide +kernel
theorem dX10_set_22 : decode cX10_set 22 = .ok (.i2l, 1) := by decide +kernel
theorem dX10_set_23 : decode cX10_set 23 = .ok (.lconst 0, 1) := by decide +kernel
theorem dX10_set_24 : decode cX10_set 24 = .ok (.aload_n 0, 1) := by decide +kernel
theorem dX10_set_25 : decode cX10_set 25 = .ok (.getfield 62, 3) := by decide +kernel
theorem dX10_set_28 : decode cX10_set 28 = .ok (.iload_n 1, 1) := by decide +kernel
theorem dX10_set_29 : decode cX10_set 29 = .ok (.iaload, 1) := by decide +kernel
theorem dX10_set_30 : decode cX10_set 30 = .ok (.iconst 1, 1) := by decide +kernel
theorem dX10_set_31 : decode cX10_set 31 = .ok (.isub, 1) := by decide +kernel
theorem dX10_set_32 : decode cX10_set 32 = .ok (.i2l, 1) := by decide +kernel
theorem dX10_set_33 : decode cX10_set 33 = .ok (.invokestatic 68, 3) := by decide +kernel
theorem dX10_set_36 : decode cX10_set 36 = .ok (.ifCond .ne 6, 3) := by decide +kernel
theorem dX10_set_39 : decode cX10_set 39 = .ok (.bipush (-13), 2) := by decide +kernel
theorem dX10_set_41 : decode cX10_set 41 = .ok (.ireturn, 1) := by decide +kernel
theorem dX10_set_42 : decode cX10_set 42 = .ok (.aload_n 0, 1) := by decide +kernel
theorem dX10_set_43 : decode cX10_set 43 = .ok (.getfield 65, 3) := by decide +kernel
theorem dX10_set_46 : decode cX10_set 46 = .ok (.bipush 30, 2) := by decide +kernel
theorem dX10_set_48 : decode cX10_set 48 = .ok (.iload_n 1, 1) := by decide +kernel
theorem dX10_set_49 : decode cX10_set 49 = .ok (.imul, 1) := by decide +kernel
theorem dX10_set_50 : decode cX10_set 50 = .ok (.iload_n 2, 1) := by decide +kernel
theorem dX10_set_51 : decode cX10_set 51 = .ok (.iadd, 1) := by decide +kernel
theorem dX10_set_52 : decode cX10_set 52 = .ok (.iload_n 3, 1) := by decide +kernel
theorem dX10_set_53 : decode cX10_set 53 = .ok (.iastore, 1) := by decide +kernel
theorem dX10_set_54 : decode cX10_set 54 = .ok (.iconst 1, 1) := by decide +kernel
theorem dX10_set_55 : decode cX10_set 55 = .ok (.ireturn, 1) := by decide +kernel
theorem dX10_get_0 : decode cX10_get 0 = .ok (.iload_n 1, 1) := by decide +kernel
theorem dX10_get_1 : decode cX10_get 1 = .ok (.invokestatic 377, 3) := by decide +kernel
theorem dX10_get_4 : decode cX10_get 4 = .ok (.ifCond .eq 36, 3) := by decide +kernel
theorem dX10_get_7 : decode cX10_get 7 = .ok (.iload_n 2, 1) := by decide +kernel
theorem dX10_get_8 : decode cX10_get 8 = .ok (.i2l, 1) := by decide +kernel
theorem dX10_get_9 : decode cX10_get 9 = .ok (.lconst 0, 1) := by decide +kernel
theorem dX10_get_10 : decode cX10_get 10 = .ok (.aload_n 0, 1) := by decide +kernel
theorem dX10_get_11 : decode cX10_get 11 = .ok (.getfield 62, 3) := by decide +kernel
theorem dX10_get_14 : decode cX10_get 14 = .ok (.iload_n 1, 1) := by decide +kernel
theorem dX10_get_15 : decode cX10_get 15 = .ok (.iaload, 1) := by decide +kernel
theorem dX10_get_16 : decode cX10_get 16 = .ok (.iconst 1, 1) := by decide +kernel
theorem dX10_get_17 : decode cX10_get 17 = .ok (.isub, 1) := by decide +kernel
theorem dX10_get_18 : decode cX10_get 18 = .ok (.i2l, 1) := by decide +kernel
theorem dX10_get_19 : decode cX10_get 19 = .ok (.invokestatic 68, 3) := by decide +kernel
theorem dX10_get_22 : decode cX10_get 22 = .ok (.ifCond .eq 18, 3) := by decide +kernel
theorem dX10_get_25 : decode cX10_get 25 = .ok (.aload_n 0, 1) := by decide +kernel
theorem dX10_get_26 : decode cX10_get 26 = .ok (.getfield 65, 3) := by decide +kernel
theorem dX10_get_29 : decode cX10_get 29 = .ok (.bipush 30, 2) := by decide +kernel
theorem dX10_get_31 : decode cX10_get 31 = .ok (.iload_n 1, 1) := by decide +kernel
theorem dX10_get_32 : decode cX10_get 32 = .ok (.imul, 1) := by decide +kernel
theorem dX10_get_33 : decode cX10_get 33 = .ok (.iload_n 2, 1) := by decide +kernel
theorem dX10_get_34 : decode cX10_get 34 = .ok (.iadd, 1) := by decide +kernel
theorem dX10_get_35 : decode cX10_get 35 = .ok (.iaload, 1) := by decide +kernel
theorem dX10_get_36 : decode cX10_get 36 = .ok (.i2l, 1) := by decide +kernel
theorem dX10_get_37 : decode cX10_get 37 = .ok (.goto 6, 3) := by decide +kernel
theorem dX10_get_40 : decode cX10_get 40 = .ok (.ldc2_w 382, 3) := by decide +kernel
theorem dX10_get_43 : decode cX10_get 43 = .ok (.lreturn, 1) := by decide +kernel
theorem dX10_lay_0 : decode cX10_lay 0 = .ok (.iload_n 1, 1) := by decide +kernel
theorem dX10_lay_1 : decode cX10_lay 1 = .ok (.invokestatic 377, 3) := by decide +kernel
theorem dX10_lay_4 : decode cX10_lay 4 = .ok (.ifCond .ne 5, 3) := by decide +kernel
theorem dX10_lay_7 : decode cX10_lay 7 = .ok (.iconst (-1), 1) := by decide +kernel
theorem dX10_lay_8 : decode cX10_lay 8 = .ok (.ireturn, 1) := by decide +kernel
theorem dX10_lay_9 : decode cX10_lay 9 = .ok (.aload_n 0, 1) := by decide +kernel
theorem dX10_lay_10 : decode cX10_lay 10 = .ok (.getfield 62, 3) := by decide +kernel
theorem dX10_lay_13 : decode cX10_lay 13 = .ok (.iload_n 1, 1) := by decide +kernel
theorem dX10_lay_14 : decode cX10_lay 14 = .ok (.iaload, 1) := by decide +kernel
theorem dX10_lay_15 : decode cX10_lay 15 = .ok (.ifCond .ge 6, 3) := by decide +kernel
theorem dX10_lay_18 : decode cX10_lay 18 = .ok (.bipush (-11), 2) := by decide +kernel
theorem dX10_lay_20 : decode cX10_lay 20 = .ok (.ireturn, 1) := by decide +kernel
theorem dX10_lay_21 : decode cX10_lay 21 = .ok (.aload_n 0, 1) := by decide +kernel
theorem dX10_lay_22 : decode cX10_lay 22 = .ok (.invokevirtual 103, 3) := by decide +kernel
theorem dX10_lay_25 : decode cX10_lay 25 = .ok (.iconst 0, 1) := by decide +kernel
theorem dX10_lay_26 : decode cX10_lay 26 = .ok (.istore_n 3, 1) := by decide +kernel
theorem dX10_lay_27 : decode cX10_lay 27 = .ok (.iload_n 3, 1) := by decide +kernel
theorem dX10_lay_28 : decode cX10_lay 28 = .ok (.aload_n 0, 1) := by decide +kernel
theorem dX10_lay_29 : decode cX10_lay 29 = .ok (.getfield 9, 3) := by decide +kernel
theorem dX10_lay_32 : decode cX10_lay 32 = .ok (.iconst 2, 1) := by decide +kernel
theorem dX10_lay_33 : decode cX10_lay 33 = .ok (.iaload, 1) := by decide +kernel
theorem dX10_lay_34 : decode cX10_lay 34 = .ok (.if_icmp .ge 51, 3) := by decide +kernel
theorem dX10_lay_37 : decode cX10_lay 37 = .ok (.iload_n 2, 1) := by decide +kernel
theorem dX10_lay_38 : decode cX10_lay 38 = .ok (.ifCond .lt 15, 3) := by decide +kernel
theorem dX10_lay_41 : decode cX10_lay 41 = .ok (.iload_n 2, 1) := by decide +kernel
theorem dX10_lay_42 : decode cX10_lay 42 = .ok (.aload_n 0, 1) := by decide +kernel
theorem dX10_lay_43 : decode cX10_lay 43 = .ok (.getfield 62, 3) := by decide +kernel
theorem dX10_lay_46 : decode cX10_lay 46 = .ok (.iload_n 1, 1) := by decide +kernel
theorem dX10_lay_47 : decode cX10_lay 47 = .ok (.iaload, 1) := by decide +kernel
theorem dX10_lay_48 : decode cX10_lay 48 = .ok (.iload_n 3, 1) := by decide +kernel
theorem dX10_lay_49 : decode cX10_lay 49 = .ok (.isub, 1) := by decide +kernel
theorem dX10_lay_50 : decode cX10_lay 50 = .ok (.if_icmp .lt 6, 3) := by decide +kernel
theorem dX10_lay_53 : decode cX10_lay 53 = .ok (.bipush (-13), 2) := by decide +kernel
theorem dX10_lay_55 : decode cX10_lay 55 = .ok (.ireturn, 1) := by decide +kernel
theorem dX10_lay_56 : decode cX10_lay 56 = .ok (.aload_n 0, 1) := by decide +kernel
theorem dX10_lay_57 : decode cX10_lay 57 = .ok (.getfield 65, 3) := by decide +kernel
theorem dX10_lay_60 : decode cX10_lay 60 = .ok (.bipush 30, 2) := by decide +kernel
theorem dX10_lay_62 : decode cX10_lay 62 = .ok (.iload_n 1, 1) := by decide +kernel
theorem dX10_lay_63 : decode cX10_lay 63 = .ok (.imul, 1) := by decide +kernel
theorem dX10_lay_64 : decode cX10_lay 64 = .ok (.iload_n 2, 1) := by decide +kernel
theorem dX10_lay_65 : decode cX10_lay 65 = .ok (.iadd, 1) := by decide +kernel
theorem dX10_lay_66 : decode cX10_lay 66 = .ok (.iload_n 3, 1) := by decide +kernel
theorem dX10_lay_67 : decode cX10_lay 67 = .ok (.iadd, 1) := by decide +kernel
theorem dX10_lay_68 : decode cX10_lay 68 = .ok (.aload_n 0, 1) := by decide +kernel
theorem dX10_lay_69 : decode cX10_lay 69 = .ok (.aload_n 0, 1) := by decide +kernel
theorem dX10_lay_70 : decode cX10_lay 70 = .ok (.getfield 22, 3) := by decide +kernel
theorem dX10_lay_73 : decode cX10_lay 73 = .ok (.iload_n 3, 1) := by decide +kernel
theorem dX10_lay_74 : decode cX10_lay 74 = .ok (.iaload, 1) := by decide +kernel
theorem dX10_lay_75 : decode cX10_lay 75 = .ok (.invokevirtual 78, 3) := by decide +kernel
theorem dX10_lay_78 : decode cX10_lay 78 = .ok (.iastore, 1) := by decide +kernel
theorem dX10_lay_79 : decode cX10_lay 79 = .ok (.iinc 3 1, 3) := by decide +kernel
theorem dX10_lay_82 : decode cX10_lay 82 = .ok (.goto (-55), 3) := by decide +kernel
theorem dX10_lay_85 : decode cX10_lay 85 = .ok (.aload_n 0, 1) := by decide +kernel
theorem dX10_lay_86 : decode cX10_lay 86 = .ok (.getfield 9, 3) := by decide +kernel
theorem dX10_lay_89 : decode cX10_lay 89 = .ok (.iconst 2, 1) := by decide +kernel
theorem dX10_lay_90 : decode cX10_lay 90 = .ok (.iaload, 1) := by decide +kernel
theorem dX10_lay_91 : decode cX10_lay 91 = .ok (.ireturn, 1) := by decide +kernel
theorem dX10_copies_0 : decode cX10_copies 0 = .ok (.iconst 0, 1) := by decide +kernel
theorem dX10_copies_1 : decode cX10_copies 1 = .ok (.istore_n 2, 1) := by decide +kernel
theorem dX10_copies_2 : decode cX10_copies 2 = .ok (.iload_n 2, 1) := by decide +kernel
theorem dX10_copies_3 : decode cX10_copies 3 = .ok (.sipush 515, 3) := by decide +kernel
theorem dX10_copies_6 : decode cX10_copies 6 = .ok (.if_icmp .ge 15, 3) := by decide +kernel
theorem dX10_copies_9 : decode cX10_copies 9 = .ok (.aload_n 1, 1) := by decide +kernel
theorem dX10_copies_10 : decode cX10_copies 10 = .ok (.iload_n 2, 1) := by decide +kernel
theorem dX10_copies_11 : decode cX10_copies 11 = .ok (.aload_n 0, 1) := by decide +kernel
theorem dX10_copies_12 : decode cX10_copies 12 = .ok (.iload_n 2, 1) := by decide +kernel
theorem dX10_copies_13 : decode cX10_copies 13 = .ok (.iaload, 1) := by decide +kernel
theorem dX10_copies_14 : decode cX10_copies 14 = .ok (.iastore, 1) := by decide +kernel
theorem dX10_copies_15 : decode cX10_copies 15 = .ok (.iinc 2 1, 3) := by decide +kernel
theorem dX10_copies_18 : decode cX10_copies 18 = .ok (.goto (-16), 3) := by decide +kernel
theorem dX10_copies_21 : decode cX10_copies 21 = .ok (.return_, 1) := by decide +kernel
theorem dX10_image_0 : decode cX10_image 0 = .ok (.aload_n 0, 1) := by decide +kernel
theorem dX10_image_1 : decode cX10_image 1 = .ok (.iconst 1, 1) := by decide +kernel
theorem dX10_image_2 : decode cX10_image 2 = .ok (.putfield 384, 3) := by decide +kernel
theorem dX10_image_5 : decode cX10_image 5 = .ok (.aload_n 0, 1) := by decide +kernel
theorem dX10_image_6 : decode cX10_image 6 = .ok (.getfield 9, 3) := by decide +kernel
theorem dX10_image_9 : decode cX10_image 9 = .ok (.aload_n 0, 1) := by decide +kernel
theorem dX10_image_10 : decode cX10_image 10 = .ok (.getfield 13, 3) := by decide +kernel
theorem dX10_image_13 : decode cX10_image 13 = .ok (.invokestatic 388, 3) := by decide +kernel
theorem dX10_image_16 : decode cX10_image 16 = .ok (.aload_n 0, 1) := by decide +kernel
theorem dX10_image_17 : decode cX10_image 17 = .ok (.getfield 9, 3) := by decide +kernel
theorem dX10_image_20 : decode cX10_image 20 = .ok (.iconst 0, 1) := by decide +kernel
theorem dX10_image_21 : decode cX10_image 21 = .ok (.iaload, 1) := by decide +kernel
theorem dX10_image_22 : decode cX10_image 22 = .ok (.ireturn, 1) := by decide +kernel
theorem dX10_undo_0 : decode cX10_undo 0 = .ok (.aload_n 0, 1) := by decide +kernel
theorem dX10_undo_1 : decode cX10_undo 1 = .ok (.getfield 384, 3) := by decide +kernel
theorem dX10_undo_4 : decode cX10_undo 4 = .ok (.ifCond .ne 6, 3) := by decide +kernel
theorem dX10_undo_7 : decode cX10_undo 7 = .ok (.bipush (-3), 2) := by decide +kernel
theorem dX10_undo_9 : decode cX10_undo 9 = .ok (.ireturn, 1) := by decide +kernel
theorem dX10_undo_10 : decode cX10_undo 10 = .ok (.aload_n 0, 1) := by decide +kernel
theorem dX10_undo_11 : decode cX10_undo 11 = .ok (.getfield 13, 3) := by decide +kernel
theorem dX10_undo_14 : decode cX10_undo 14 = .ok (.aload_n 0, 1) := by decide +kernel
theorem dX10_undo_15 : decode cX10_undo 15 = .ok (.getfield 9, 3) := by decide +kernel
theorem dX10_undo_18 : decode cX10_undo 18 = .ok (.invokestatic 388, 3) := by decide +kernel
theorem dX10_undo_21 : decode cX10_undo 21 = .ok (.aload_n 0, 1) := by decide +kernel
theorem dX10_undo_22 : decode cX10_undo 22 = .ok (.getfield 9, 3) := by decide +kernel
theorem dX10_undo_25 : decode cX10_undo 25 = .ok (.iconst 0, 1) := by decide +kernel
theorem dX10_undo_26 : decode cX10_undo 26 = .ok (.iaload, 1) := by decide +kernel
theorem dX10_undo_27 : decode cX10_undo 27 = .ok (.ireturn, 1) := by decide +kernel
