theorem dX7_takesIf_12 : decode cX7_takesIf 12 = .ok (.iload_n 1, 1) := by decide +kernel
theorem dX7_takesIf_13 : decode cX7_takesIf 13 = .ok (.if_icmp .eq 5, 3) := by decide +kernel
theorem dX7_takesIf_16 : decode cX7_takesIf 16 = .ok (.iconst 0, 1) := by decide +kernel
theorem dX7_takesIf_17 : decode cX7_takesIf 17 = .ok (.ireturn, 1) := by decide +kernel
theorem dX7_takesIf_18 : decode cX7_takesIf 18 = .ok (.aload_n 0, 1) := by decide +kernel
theorem dX7_takesIf_19 : decode cX7_takesIf 19 = .ok (.dup, 1) := by decide +kernel
theorem dX7_takesIf_20 : decode cX7_takesIf 20 = .ok (.getfield 19, 3) := by decide +kernel
theorem dX7_takesIf_23 : decode cX7_takesIf 23 = .ok (.iconst 1, 1) := by decide +kernel
theorem dX7_takesIf_24 : decode cX7_takesIf 24 = .ok (.iadd, 1) := by decide +kernel
theorem dX7_takesIf_25 : decode cX7_takesIf 25 = .ok (.putfield 19, 3) := by decide +kernel
theorem dX7_takesIf_28 : decode cX7_takesIf 28 = .ok (.iconst 1, 1) := by decide +kernel
theorem dX7_takesIf_29 : decode cX7_takesIf 29 = .ok (.ireturn, 1) := by decide +kernel
theorem dX7_take_0 : decode cX7_take 0 = .ok (.aload_n 0, 1) := by decide +kernel
theorem dX7_take_1 : decode cX7_take 1 = .ok (.iload_n 1, 1) := by decide +kernel
theorem dX7_take_2 : decode cX7_take 2 = .ok (.invokevirtual 29, 3) := by decide +kernel
theorem dX7_take_5 : decode cX7_take 5 = .ok (.ifCond .ne 11, 3) := by decide +kernel
theorem dX7_take_8 : decode cX7_take 8 = .ok (.aload_n 0, 1) := by decide +kernel
theorem dX7_take_9 : decode cX7_take 9 = .ok (.aload_n 0, 1) := by decide +kernel
theorem dX7_take_10 : decode cX7_take 10 = .ok (.getfield 19, 3) := by decide +kernel
theorem dX7_take_13 : decode cX7_take 13 = .ok (.invokevirtual 33, 3) := by decide +kernel
theorem dX7_take_16 : decode cX7_take 16 = .ok (.return_, 1) := by decide +kernel
theorem dX7_end_0 : decode cX7_end 0 = .ok (.aload_n 0, 1) := by decide +kernel
theorem dX7_end_1 : decode cX7_end 1 = .ok (.invokevirtual 25, 3) := by decide +kernel
theorem dX7_end_4 : decode cX7_end 4 = .ok (.ifCond .eq 11, 3) := by decide +kernel
theorem dX7_end_7 : decode cX7_end 7 = .ok (.aload_n 0, 1) := by decide +kernel
theorem dX7_end_8 : decode cX7_end 8 = .ok (.aload_n 0, 1) := by decide +kernel
theorem dX7_end_9 : decode cX7_end 9 = .ok (.getfield 19, 3) := by decide +kernel
theorem dX7_end_12 : decode cX7_end 12 = .ok (.invokevirtual 33, 3) := by decide +kernel
theorem dX7_end_15 : decode cX7_end 15 = .ok (.return_, 1) := by decide +kernel
theorem dX7_takesPart_0 : decode cX7_takesPart 0 = .ok (.aload_n 0, 1) := by decide +kernel
theorem dX7_takesPart_1 : decode cX7_takesPart 1 = .ok (.bipush 59, 2) := by decide +kernel
theorem dX7_takesPart_3 : decode cX7_takesPart 3 = .ok (.invokevirtual 29, 3) := by decide +kernel
theorem dX7_takesPart_6 : decode cX7_takesPart 6 = .ok (.ifCond .eq 5, 3) := by decide +kernel
theorem dX7_takesPart_9 : decode cX7_takesPart 9 = .ok (.iconst 1, 1) := by decide +kernel
theorem dX7_takesPart_10 : decode cX7_takesPart 10 = .ok (.ireturn, 1) := by decide +kernel
theorem dX7_takesPart_11 : decode cX7_takesPart 11 = .ok (.aload_n 0, 1) := by decide +kernel
theorem dX7_takesPart_12 : decode cX7_takesPart 12 = .ok (.invokevirtual 37, 3) := by decide +kernel
theorem dX7_takesPart_15 : decode cX7_takesPart 15 = .ok (.iconst 0, 1) := by decide +kernel
theorem dX7_takesPart_16 : decode cX7_takesPart 16 = .ok (.ireturn, 1) := by decide +kernel
theorem dX7_takeFigure_0 : decode cX7_takeFigure 0 = .ok (.aload_n 0, 1) := by decide +kernel
theorem dX7_takeFigure_1 : decode cX7_takeFigure 1 = .ok (.invokevirtual 25, 3) := by decide +kernel
theorem dX7_takeFigure_4 : decode cX7_takeFigure 4 = .ok (.bipush 48, 2) := by decide +kernel
theorem dX7_takeFigure_6 : decode cX7_takeFigure 6 = .ok (.isub, 1) := by decide +kernel
theorem dX7_takeFigure_7 : decode cX7_takeFigure 7 = .ok (.istore_n 1, 1) := by decide +kernel
theorem dX7_takeFigure_8 : decode cX7_takeFigure 8 = .ok (.iload_n 1, 1) := by decide +kernel
theorem dX7_takeFigure_9 : decode cX7_takeFigure 9 = .ok (.ifCond .lt 9, 3) := by decide +kernel
theorem dX7_takeFigure_12 : decode cX7_takeFigure 12 = .ok (.iload_n 1, 1) := by decide +kernel
theorem dX7_takeFigure_13 : decode cX7_takeFigure 13 = .ok (.bipush 9, 2) := by decide +kernel
theorem dX7_takeFigure_15 : decode cX7_takeFigure 15 = .ok (.if_icmp .le 13, 3) := by decide +kernel
theorem dX7_takeFigure_18 : decode cX7_takeFigure 18 = .ok (.aload_n 0, 1) := by decide +kernel
theorem dX7_takeFigure_19 : decode cX7_takeFigure 19 = .ok (.aload_n 0, 1) := by decide +kernel
theorem dX7_takeFigure_20 : decode cX7_takeFigure 20 = .ok (.getfield 19, 3) := by decide +kernel
theorem dX7_takeFigure_23 : decode cX7_takeFigure 23 = .ok (.invokevirtual 33, 3) := by decide +kernel
theorem dX7_takeFigure_26 : decode cX7_takeFigure 26 = .ok (.iconst (-1), 1) := by decide +kernel
theorem dX7_takeFigure_27 : decode cX7_takeFigure 27 = .ok (.ireturn, 1) := by decide +kernel
theorem dX7_takeFigure_28 : decode cX7_takeFigure 28 = .ok (.aload_n 0, 1) := by decide +kernel
theorem dX7_takeFigure_29 : decode cX7_takeFigure 29 = .ok (.dup, 1) := by decide +kernel
theorem dX7_takeFigure_30 : decode cX7_takeFigure 30 = .ok (.getfield 19, 3) := by decide +kernel
theorem dX7_takeFigure_33 : decode cX7_takeFigure 33 = .ok (.iconst 1, 1) := by decide +kernel
theorem dX7_takeFigure_34 : decode cX7_takeFigure 34 = .ok (.iadd, 1) := by decide +kernel
theorem dX7_takeFigure_35 : decode cX7_takeFigure 35 = .ok (.putfield 19, 3) := by decide +kernel
theorem dX7_takeFigure_38 : decode cX7_takeFigure 38 = .ok (.iload_n 1, 1) := by decide +kernel
theorem dX7_takeFigure_39 : decode cX7_takeFigure 39 = .ok (.ireturn, 1) := by decide +kernel
theorem dX7_takeNumber_0 : decode cX7_takeNumber 0 = .ok (.aload_n 0, 1) := by decide +kernel
theorem dX7_takeNumber_1 : decode cX7_takeNumber 1 = .ok (.getfield 19, 3) := by decide +kernel
theorem dX7_takeNumber_4 : decode cX7_takeNumber 4 = .ok (.istore_n 3, 1) := by decide +kernel
theorem dX7_takeNumber_5 : decode cX7_takeNumber 5 = .ok (.iconst 0, 1) := by decide +kernel
theorem dX7_takeNumber_6 : decode cX7_takeNumber 6 = .ok (.istore 4, 2) := by decide +kernel
theorem dX7_takeNumber_8 : decode cX7_takeNumber 8 = .ok (.iconst 0, 1) := by decide +kernel
theorem dX7_takeNumber_9 : decode cX7_takeNumber 9 = .ok (.istore 5, 2) := by decide +kernel
theorem dX7_takeNumber_11 : decode cX7_takeNumber 11 = .ok (.iload 5, 2) := by decide +kernel
theorem dX7_takeNumber_13 : decode cX7_takeNumber 13 = .ok (.iconst 3, 1) := by decide +kernel
theorem dX7_takeNumber_14 : decode cX7_takeNumber 14 = .ok (.if_icmp .ge 53, 3) := by decide +kernel
theorem dX7_takeNumber_17 : decode cX7_takeNumber 17 = .ok (.aload_n 0, 1) := by decide +kernel
theorem dX7_takeNumber_18 : decode cX7_takeNumber 18 = .ok (.invokevirtual 25, 3) := by decide +kernel
theorem dX7_takeNumber_21 : decode cX7_takeNumber 21 = .ok (.bipush 48, 2) := by decide +kernel
theorem dX7_takeNumber_23 : decode cX7_takeNumber 23 = .ok (.isub, 1) := by decide +kernel
theorem dX7_takeNumber_24 : decode cX7_takeNumber 24 = .ok (.istore 6, 2) := by decide +kernel
theorem dX7_takeNumber_26 : decode cX7_takeNumber 26 = .ok (.iload 6, 2) := by decide +kernel
theorem dX7_takeNumber_28 : decode cX7_takeNumber 28 = .ok (.ifCond .lt 39, 3) := by decide +kernel
theorem dX7_takeNumber_31 : decode cX7_takeNumber 31 = .ok (.iload 6, 2) := by decide +kernel
theorem dX7_takeNumber_33 : decode cX7_takeNumber 33 = .ok (.bipush 9, 2) := by decide +kernel
theorem dX7_takeNumber_35 : decode cX7_takeNumber 35 = .ok (.if_icmp .le 6, 3) := by decide +kernel
theorem dX7_takeNumber_38 : decode cX7_takeNumber 38 = .ok (.goto 29, 3) := by decide +kernel
theorem dX7_takeNumber_41 : decode cX7_takeNumber 41 = .ok (.iload 4, 2) := by decide +kernel
theorem dX7_takeNumber_43 : decode cX7_takeNumber 43 = .ok (.bipush 10, 2) := by decide +kernel
theorem dX7_takeNumber_45 : decode cX7_takeNumber 45 = .ok (.imul, 1) := by decide +kernel
theorem dX7_takeNumber_46 : decode cX7_takeNumber 46 = .ok (.iload 6, 2) := by decide +kernel
theorem dX7_takeNumber_48 : decode cX7_takeNumber 48 = .ok (.iadd, 1) := by decide +kernel
theorem dX7_takeNumber_49 : decode cX7_takeNumber 49 = .ok (.istore 4, 2) := by decide +kernel
theorem dX7_takeNumber_51 : decode cX7_takeNumber 51 = .ok (.aload_n 0, 1) := by decide +kernel
theorem dX7_takeNumber_52 : decode cX7_takeNumber 52 = .ok (.dup, 1) := by decide +kernel
theorem dX7_takeNumber_53 : decode cX7_takeNumber 53 = .ok (.getfield 19, 3) := by decide +kernel
theorem dX7_takeNumber_56 : decode cX7_takeNumber 56 = .ok (.iconst 1, 1) := by decide +kernel
theorem dX7_takeNumber_57 : decode cX7_takeNumber 57 = .ok (.iadd, 1) := by decide +kernel
theorem dX7_takeNumber_58 : decode cX7_takeNumber 58 = .ok (.putfield 19, 3) := by decide +kernel
theorem dX7_takeNumber_61 : decode cX7_takeNumber 61 = .ok (.iinc 5 1, 3) := by decide +kernel
theorem dX7_takeNumber_64 : decode cX7_takeNumber 64 = .ok (.goto (-53), 3) := by decide +kernel
theorem dX7_takeNumber_67 : decode cX7_takeNumber 67 = .ok (.aload_n 0, 1) := by decide +kernel
theorem dX7_takeNumber_68 : decode cX7_takeNumber 68 = .ok (.getfield 19, 3) := by decide +kernel
theorem dX7_takeNumber_71 : decode cX7_takeNumber 71 = .ok (.iload_n 3, 1) := by decide +kernel
theorem dX7_takeNumber_72 : decode cX7_takeNumber 72 = .ok (.if_icmp .eq 15, 3) := by decide +kernel
theorem dX7_takeNumber_75 : decode cX7_takeNumber 75 = .ok (.iload 4, 2) := by decide +kernel
theorem dX7_takeNumber_77 : decode cX7_takeNumber 77 = .ok (.iload_n 1, 1) := by decide +kernel
theorem dX7_takeNumber_78 : decode cX7_takeNumber 78 = .ok (.if_icmp .lt 9, 3) := by decide +kernel
theorem dX7_takeNumber_81 : decode cX7_takeNumber 81 = .ok (.iload 4, 2) := by decide +kernel
theorem dX7_takeNumber_83 : decode cX7_takeNumber 83 = .ok (.iload_n 2, 1) := by decide +kernel
theorem dX7_takeNumber_84 : decode cX7_takeNumber 84 = .ok (.if_icmp .le 8, 3) := by decide +kernel
theorem dX7_takeNumber_87 : decode cX7_takeNumber 87 = .ok (.aload_n 0, 1) := by decide +kernel
theorem dX7_takeNumber_88 : decode cX7_takeNumber 88 = .ok (.iload_n 3, 1) := by decide +kernel
theorem dX7_takeNumber_89 : decode cX7_takeNumber 89 = .ok (.invokevirtual 33, 3) := by decide +kernel
theorem dX7_takeNumber_92 : decode cX7_takeNumber 92 = .ok (.iload 4, 2) := by decide +kernel
theorem dX7_takeNumber_94 : decode cX7_takeNumber 94 = .ok (.ireturn, 1) := by decide +kernel
theorem dX7_takeKind_0 : decode cX7_takeKind 0 = .ok (.iconst 0, 1) := by decide +kernel
theorem dX7_takeKind_1 : decode cX7_takeKind 1 = .ok (.istore_n 1, 1) := by decide +kernel
theorem dX7_takeKind_2 : decode cX7_takeKind 2 = .ok (.iload_n 1, 1) := by decide +kernel
theorem dX7_takeKind_3 : decode cX7_takeKind 3 = .ok (.iconst 4, 1) := by decide +kernel
theorem dX7_takeKind_4 : decode cX7_takeKind 4 = .ok (.if_icmp .ge 23, 3) := by decide +kernel
theorem dX7_takeKind_7 : decode cX7_takeKind 7 = .ok (.aload_n 0, 1) := by decide +kernel
theorem dX7_takeKind_8 : decode cX7_takeKind 8 = .ok (.getstatic 40, 3) := by decide +kernel
theorem dX7_takeKind_11 : decode cX7_takeKind 11 = .ok (.iload_n 1, 1) := by decide +kernel
theorem dX7_takeKind_12 : decode cX7_takeKind 12 = .ok (.caload, 1) := by decide +kernel
theorem dX7_takeKind_13 : decode cX7_takeKind 13 = .ok (.invokevirtual 29, 3) := by decide +kernel
theorem dX7_takeKind_16 : decode cX7_takeKind 16 = .ok (.ifCond .eq 5, 3) := by decide +kernel
theorem dX7_takeKind_19 : decode cX7_takeKind 19 = .ok (.iload_n 1, 1) := by decide +kernel
theorem dX7_takeKind_20 : decode cX7_takeKind 20 = .ok (.ireturn, 1) := by decide +kernel
theorem dX7_takeKind_21 : decode cX7_takeKind 21 = .ok (.iinc 1 1, 3) := by decide +kernel
theorem dX7_takeKind_24 : decode cX7_takeKind 24 = .ok (.goto (-22), 3) := by decide +kernel
theorem dX7_takeKind_27 : decode cX7_takeKind 27 = .ok (.aload_n 0, 1) := by decide +kernel
theorem dX7_takeKind_28 : decode cX7_takeKind 28 = .ok (.aload_n 0, 1) := by decide +kernel
theorem dX7_takeKind_29 : decode cX7_takeKind 29 = .ok (.getfield 19, 3) := by decide +kernel
theorem dX7_takeKind_32 : decode cX7_takeKind 32 = .ok (.invokevirtual 33, 3) := by decide +kernel
theorem dX7_takeKind_35 : decode cX7_takeKind 35 = .ok (.iconst (-1), 1) := by decide +kernel
theorem dX7_takeKind_36 : decode cX7_takeKind 36 = .ok (.ireturn, 1) := by decide +kernel
theorem dX7_passWord_0 : decode cX7_passWord 0 = .ok (.iconst 0, 1) := by decide +kernel
theorem dX7_passWord_1 : decode cX7_passWord 1 = .ok (.istore_n 1, 1) := by decide +kernel
theorem dX7_passWord_2 : decode cX7_passWord 2 = .ok (.iload_n 1, 1) := by decide +kernel
theorem dX7_passWord_3 : decode cX7_passWord 3 = .ok (.sipush 150, 3) := by decide +kernel
theorem dX7_passWord_6 : decode cX7_passWord 6 = .ok (.if_icmp .ge 37, 3) := by decide +kernel
theorem dX7_passWord_9 : decode cX7_passWord 9 = .ok (.aload_n 0, 1) := by decide +kernel
theorem dX7_passWord_10 : decode cX7_passWord 10 = .ok (.invokevirtual 25, 3) := by decide +kernel
theorem dX7_passWord_13 : decode cX7_passWord 13 = .ok (.bipush 97, 2) := by decide +kernel
theorem dX7_passWord_15 : decode cX7_passWord 15 = .ok (.if_icmp .lt 28, 3) := by decide +kernel
theorem dX7_passWord_18 : decode cX7_passWord 18 = .ok (.aload_n 0, 1) := by decide +kernel
theorem dX7_passWord_19 : decode cX7_passWord 19 = .ok (.invokevirtual 25, 3) := by decide +kernel
theorem dX7_passWord_22 : decode cX7_passWord 22 = .ok (.bipush 122, 2) := by decide +kernel
theorem dX7_passWord_24 : decode cX7_passWord 24 = .ok (.if_icmp .gt 19, 3) := by decide +kernel
theorem dX7_passWord_27 : decode cX7_passWord 27 = .ok (.aload_n 0, 1) := by decide +kernel
theorem dX7_passWord_28 : decode cX7_passWord 28 = .ok (.dup, 1) := by decide +kernel
theorem dX7_passWord_29 : decode cX7_passWord 29 = .ok (.getfield 19, 3) := by decide +kernel
theorem dX7_passWord_32 : decode cX7_passWord 32 = .ok (.iconst 1, 1) := by decide +kernel
theorem dX7_passWord_33 : decode cX7_passWord 33 = .ok (.iadd, 1) := by decide +kernel
theorem dX7_passWord_34 : decode cX7_passWord 34 = .ok (.putfield 19, 3) := by decide +kernel
theorem dX7_passWord_37 : decode cX7_passWord 37 = .ok (.iinc 1 1, 3) := by decide +kernel
theorem dX7_passWord_40 : decode cX7_passWord 40 = .ok (.goto (-38), 3) := by decide +kernel
theorem dX7_passWord_43 : decode cX7_passWord 43 = .ok (.return_, 1) := by decide +kernel
theorem dX7_isWordFrom_0 : decode cX7_isWordFrom 0 = .ok (.iload_n 1, 1) := by decide +kernel
theorem dX7_isWordFrom_1 : decode cX7_isWordFrom 1 = .ok (.ifCond .lt 26, 3) := by decide +kernel
theorem dX7_isWordFrom_4 : decode cX7_isWordFrom 4 = .ok (.aload_n 0, 1) := by decide +kernel
theorem dX7_isWordFrom_5 : decode cX7_isWordFrom 5 = .ok (.getfield 19, 3) := by decide +kernel
theorem dX7_isWordFrom_8 : decode cX7_isWordFrom 8 = .ok (.sipush 150, 3) := by decide +kernel
theorem dX7_isWordFrom_11 : decode cX7_isWordFrom 11 = .ok (.if_icmp .gt 16, 3) := by decide +kernel
theorem dX7_isWordFrom_14 : decode cX7_isWordFrom 14 = .ok (.aload_n 0, 1) := by decide +kernel
theorem dX7_isWordFrom_15 : decode cX7_isWordFrom 15 = .ok (.getfield 19, 3) := by decide +kernel
theorem dX7_isWordFrom_18 : decode cX7_isWordFrom 18 = .ok (.iload_n 1, 1) := by decide +kernel
theorem dX7_isWordFrom_19 : decode cX7_isWordFrom 19 = .ok (.isub, 1) := by decide +kernel
theorem dX7_isWordFrom_20 : decode cX7_isWordFrom 20 = .ok (.aload_n 2, 1) := by decide +kernel
theorem dX7_isWordFrom_21 : decode cX7_isWordFrom 21 = .ok (.invokevirtual 44, 3) := by decide +kernel
theorem dX7_isWordFrom_24 : decode cX7_isWordFrom 24 = .ok (.if_icmp .eq 5, 3) := by decide +kernel
theorem dX7_isWordFrom_27 : decode cX7_isWordFrom 27 = .ok (.iconst 0, 1) := by decide +kernel
theorem dX7_isWordFrom_28 : decode cX7_isWordFrom 28 = .ok (.ireturn, 1) := by decide +kernel
theorem dX7_isWordFrom_29 : decode cX7_isWordFrom 29 = .ok (.iconst 0, 1) := by decide +kernel
theorem dX7_isWordFrom_30 : decode cX7_isWordFrom 30 = .ok (.istore_n 3, 1) := by decide +kernel
theorem dX7_isWordFrom_31 : decode cX7_isWordFrom 31 = .ok (.iload_n 3, 1) := by decide +kernel
theorem dX7_isWordFrom_32 : decode cX7_isWordFrom 32 = .ok (.aload_n 2, 1) := by decide +kernel
theorem dX7_isWordFrom_33 : decode cX7_isWordFrom 33 = .ok (.invokevirtual 44, 3) := by decide +kernel
theorem dX7_isWordFrom_36 : decode cX7_isWordFrom 36 = .ok (.if_icmp .ge 27, 3) := by decide +kernel
theorem dX7_isWordFrom_39 : decode cX7_isWordFrom 39 = .ok (.aload_n 0, 1) := by decide +kernel
theorem dX7_isWordFrom_40 : decode cX7_isWordFrom 40 = .ok (.getfield 9, 3) := by decide +kernel
theorem dX7_isWordFrom_43 : decode cX7_isWordFrom 43 = .ok (.iload_n 1, 1) := by decide +kernel
theorem dX7_isWordFrom_44 : decode cX7_isWordFrom 44 = .ok (.iload_n 3, 1) := by decide +kernel
theorem dX7_isWordFrom_45 : decode cX7_isWordFrom 45 = .ok (.iadd, 1) := by decide +kernel
theorem dX7_isWordFrom_46 : decode cX7_isWordFrom 46 = .ok (.iaload, 1) := by decide +kernel
theorem dX7_isWordFrom_47 : decode cX7_isWordFrom 47 = .ok (.aload_n 2, 1) := by decide +kernel
theorem dX7_isWordFrom_48 : decode cX7_isWordFrom 48 = .ok (.iload_n 3, 1) := by decide +kernel
theorem dX7_isWordFrom_49 : decode cX7_isWordFrom 49 = .ok (.invokevirtual 49, 3) := by decide +kernel
theorem dX7_isWordFrom_52 : decode cX7_isWordFrom 52 = .ok (.if_icmp .eq 5, 3) := by decide +kernel
theorem dX7_isWordFrom_55 : decode cX7_isWordFrom 55 = .ok (.iconst 0, 1) := by decide +kernel
theorem dX7_isWordFrom_56 : decode cX7_isWordFrom 56 = .ok (.ireturn, 1) := by decide +kernel
theorem dX7_isWordFrom_57 : decode cX7_isWordFrom 57 = .ok (.iinc 3 1, 3) := by decide +kernel
theorem dX7_isWordFrom_60 : decode cX7_isWordFrom 60 = .ok (.goto (-29), 3) := by decide +kernel
theorem dX7_isWordFrom_63 : decode cX7_isWordFrom 63 = .ok (.iconst 1, 1) := by decide +kernel
theorem dX7_isWordFrom_64 : decode cX7_isWordFrom 64 = .ok (.ireturn, 1) := by decide +kernel
theorem dX8_init_0 : decode cX8_init 0 = .ok (.aload_n 0, 1) := by decide +kernel
theorem dX8_init_1 : decode cX8_init 1 = .ok (.invokespecial 3, 3) := by decide +kernel
theorem dX8_init_4 : decode cX8_init 4 = .ok (.aload_n 0, 1) := by decide +kernel
theorem dX8_init_5 : decode cX8_init 5 = .ok (.bipush 8, 2) := by decide +kernel
theorem dX8_init_7 : decode cX8_init 7 = .ok (.newarray .int, 2) := by decide +kernel
theorem dX8_init_9 : decode cX8_init 9 = .ok (.putfield 9, 3) := by decide +kernel
theorem dX8_init_12 : decode cX8_init 12 = .ok (.aload_n 0, 1) := by decide +kernel
theorem dX8_init_13 : decode cX8_init 13 = .ok (.bipush 8, 2) := by decide +kernel
theorem dX8_init_15 : decode cX8_init 15 = .ok (.newarray .int, 2) := by decide +kernel
theorem dX8_init_17 : decode cX8_init 17 = .ok (.putfield 15, 3) := by decide +kernel
theorem dX8_init_20 : decode cX8_init 20 = .ok (.aload_n 0, 1) := by decide +kernel
theorem dX8_init_21 : decode cX8_init 21 = .ok (.bipush 8, 2) := by decide +kernel
theorem dX8_init_23 : decode cX8_init 23 = .ok (.newarray .int, 2) := by decide +kernel
theorem dX8_init_25 : decode cX8_init 25 = .ok (.putfield 18, 3) := by decide +kernel
theorem dX8_init_28 : decode cX8_init 28 = .ok (.aload_n 0, 1) := by decide +kernel
theorem dX8_init_29 : decode cX8_init 29 = .ok (.bipush 24, 2) := by decide +kernel
theorem dX8_init_31 : decode cX8_init 31 = .ok (.newarray .int, 2) := by decide +kernel
theorem dX8_init_33 : decode cX8_init 33 = .ok (.putfield 21, 3) := by decide +kernel
theorem dX8_init_36 : decode cX8_init 36 = .ok (.aload_n 0, 1) := by decide +kernel
theorem dX8_init_37 : decode cX8_init 37 = .ok (.bipush 24, 2) := by decide +kernel
theorem dX8_init_39 : decode cX8_init 39 = .ok (.newarray .int, 2) := by decide +kernel
theorem dX8_init_41 : decode cX8_init 41 = .ok (.putfield 24, 3) := by decide +kernel
theorem dX8_init_44 : decode cX8_init 44 = .ok (.aload_n 0, 1) := by decide +kernel
theorem dX8_init_45 : decode cX8_init 45 = .ok (.bipush 24, 2) := by decide +kernel
theorem dX8_init_47 : decode cX8_init 47 = .ok (.newarray .int, 2) := by decide +kernel
theorem dX8_init_49 : decode cX8_init 49 = .ok (.putfield 27, 3) := by decide +kernel
theorem dX8_init_52 : decode cX8_init 52 = .ok (.aload_n 0, 1) := by decide +kernel
theorem dX8_init_53 : decode cX8_init 53 = .ok (.aload_n 1, 1) := by decide +kernel
theorem dX8_init_54 : decode cX8_init 54 = .ok (.putfield 30, 3) := by decide +kernel
theorem dX8_init_57 : decode cX8_init 57 = .ok (.aload_n 0, 1) := by decide +kernel
theorem dX8_init_58 : decode cX8_init 58 = .ok (.aload_n 2, 1) := by decide +kernel
theorem dX8_init_59 : decode cX8_init 59 = .ok (.putfield 34, 3) := by decide +kernel
theorem dX8_init_62 : decode cX8_init 62 = .ok (.aload_n 0, 1) := by decide +kernel
theorem dX8_init_63 : decode cX8_init 63 = .ok (.iconst 0, 1) := by decide +kernel
theorem dX8_init_64 : decode cX8_init 64 = .ok (.putfield 38, 3) := by decide +kernel
theorem dX8_init_67 : decode cX8_init 67 = .ok (.return_, 1) := by decide +kernel
theorem dX8_readRules_0 : decode cX8_readRules 0 = .ok (.bipush 8, 2) := by decide +kernel
theorem dX8_readRules_2 : decode cX8_readRules 2 = .ok (.aload_n 0, 1) := by decide +kernel
theorem dX8_readRules_3 : decode cX8_readRules 3 = .ok (.getfield 30, 3) := by decide +kernel
theorem dX8_readRules_6 : decode cX8_readRules 6 = .ok (.iload_n 1, 1) := by decide +kernel
theorem dX8_readRules_7 : decode cX8_readRules 7 = .ok (.invokevirtual 42, 3) := by decide +kernel
theorem dX8_readRules_10 : decode cX8_readRules 10 = .ok (.isub, 1) := by decide +kernel
theorem dX8_readRules_11 : decode cX8_readRules 11 = .ok (.istore_n 2, 1) := by decide +kernel
theorem dX8_readRules_12 : decode cX8_readRules 12 = .ok (.aload_n 0, 1) := by decide +kernel
theorem dX8_readRules_13 : decode cX8_readRules 13 = .ok (.getfield 34, 3) := by decide +kernel
theorem dX8_readRules_16 : decode cX8_readRules 16 = .ok (.invokevirtual 48, 3) := by decide +kernel
theorem dX8_readRules_19 : decode cX8_readRules 19 = .ok (.iconst 0, 1) := by decide +kernel
theorem dX8_readRules_20 : decode cX8_readRules 20 = .ok (.istore_n 3, 1) := by decide +kernel
theorem dX8_readRules_21 : decode cX8_readRules 21 = .ok (.iload_n 3, 1) := by decide +kernel
theorem dX8_readRules_22 : decode cX8_readRules 22 = .ok (.iload_n 2, 1) := by decide +kernel
theorem dX8_readRules_23 : decode cX8_readRules 23 = .ok (.if_icmp .ge 48, 3) := by decide +kernel
theorem dX8_readRules_26 : decode cX8_readRules 26 = .ok (.iload_n 3, 1) := by decide +kernel
theorem dX8_readRules_27 : decode cX8_readRules 27 = .ok (.bipush 8, 2) := by decide +kernel
theorem dX8_readRules_29 : decode cX8_readRules 29 = .ok (.if_icmp .ge 42, 3) := by decide +kernel
theorem dX8_readRules_32 : decode cX8_readRules 32 = .ok (.aload_n 0, 1) := by decide +kernel
theorem dX8_readRules_33 : decode cX8_readRules 33 = .ok (.iload_n 3, 1) := by decide +kernel
theorem dX8_readRules_34 : decode cX8_readRules 34 = .ok (.invokevirtual 53, 3) := by decide +kernel
theorem dX8_readRules_37 : decode cX8_readRules 37 = .ok (.aload_n 0, 1) := by decide +kernel
theorem dX8_readRules_38 : decode cX8_readRules 38 = .ok (.iload_n 3, 1) := by decide +kernel
theorem dX8_readRules_39 : decode cX8_readRules 39 = .ok (.iconst 1, 1) := by decide +kernel
theorem dX8_readRules_40 : decode cX8_readRules 40 = .ok (.iadd, 1) := by decide +kernel
theorem dX8_readRules_41 : decode cX8_readRules 41 = .ok (.putfield 38, 3) := by decide +kernel
theorem dX8_readRules_44 : decode cX8_readRules 44 = .ok (.aload_n 0, 1) := by decide +kernel
theorem dX8_readRules_45 : decode cX8_readRules 45 = .ok (.getfield 34, 3) := by decide +kernel
theorem dX8_readRules_48 : decode cX8_readRules 48 = .ok (.invokevirtual 57, 3) := by decide +kernel
theorem dX8_readRules_51 : decode cX8_readRules 51 = .ok (.ifCond .ne 13, 3) := by decide +kernel
theorem dX8_readRules_54 : decode cX8_readRules 54 = .ok (.aload_n 0, 1) := by decide +kernel
theorem dX8_readRules_55 : decode cX8_readRules 55 = .ok (.getfield 34, 3) := by decide +kernel
theorem dX8_readRules_58 : decode cX8_readRules 58 = .ok (.invokevirtual 61, 3) := by decide +kernel
theorem dX8_readRules_61 : decode cX8_readRules 61 = .ok (.ifCond .ne 4, 3) := by decide +kernel
theorem dX8_readRules_64 : decode cX8_readRules 64 = .ok (.return_, 1) := by decide +kernel
theorem dX8_readRules_65 : decode cX8_readRules 65 = .ok (.iinc 3 1, 3) := by decide +kernel
theorem dX8_readRules_68 : decode cX8_readRules 68 = .ok (.goto (-47), 3) := by decide +kernel
theorem dX8_readRules_71 : decode cX8_readRules 71 = .ok (.aload_n 0, 1) := by decide +kernel
theorem dX8_readRules_72 : decode cX8_readRules 72 = .ok (.getfield 34, 3) := by decide +kernel
theorem dX8_readRules_75 : decode cX8_readRules 75 = .ok (.aload_n 0, 1) := by decide +kernel
theorem dX8_readRules_76 : decode cX8_readRules 76 = .ok (.getfield 34, 3) := by decide +kernel
theorem dX8_readRules_79 : decode cX8_readRules 79 = .ok (.invokevirtual 64, 3) := by decide +kernel
theorem dX8_readRules_82 : decode cX8_readRules 82 = .ok (.invokevirtual 68, 3) := by decide +kernel
theorem dX8_readRules_85 : decode cX8_readRules 85 = .ok (.return_, 1) := by decide +kernel
theorem dX8_readRule_0 : decode cX8_readRule 0 = .ok (.iload_n 1, 1) := by decide +kernel
theorem dX8_readRule_1 : decode cX8_readRule 1 = .ok (.ifCond .lt 9, 3) := by decide +kernel
theorem dX8_readRule_4 : decode cX8_readRule 4 = .ok (.iload_n 1, 1) := by decide +kernel
theorem dX8_readRule_5 : decode cX8_readRule 5 = .ok (.bipush 8, 2) := by decide +kernel
theorem dX8_readRule_7 : decode cX8_readRule 7 = .ok (.if_icmp .lt 4, 3) := by decide +kernel
theorem dX8_readRule_10 : decode cX8_readRule 10 = .ok (.return_, 1) := by decide +kernel
theorem dX8_readRule_11 : decode cX8_readRule 11 = .ok (.aload_n 0, 1) := by decide +kernel
theorem dX8_readRule_12 : decode cX8_readRule 12 = .ok (.getfield 34, 3) := by decide +kernel
theorem dX8_readRule_15 : decode cX8_readRule 15 = .ok (.bipush 100, 2) := by decide +kernel
theorem dX8_readRule_17 : decode cX8_readRule 17 = .ok (.invokevirtual 71, 3) := by decide +kernel
theorem dX8_readRule_20 : decode cX8_readRule 20 = .ok (.ifCond .eq 61, 3) := by decide +kernel
theorem dX8_readRule_23 : decode cX8_readRule 23 = .ok (.aload_n 0, 1) := by decide +kernel
theorem dX8_readRule_24 : decode cX8_readRule 24 = .ok (.getfield 9, 3) := by decide +kernel
theorem dX8_readRule_27 : decode cX8_readRule 27 = .ok (.iload_n 1, 1) := by decide +kernel
theorem dX8_readRule_28 : decode cX8_readRule 28 = .ok (.iconst 0, 1) := by decide +kernel
theorem dX8_readRule_29 : decode cX8_readRule 29 = .ok (.iastore, 1) := by decide +kernel
theorem dX8_readRule_30 : decode cX8_readRule 30 = .ok (.aload_n 0, 1) := by decide +kernel
theorem dX8_readRule_31 : decode cX8_readRule 31 = .ok (.getfield 15, 3) := by decide +kernel
theorem dX8_readRule_34 : decode cX8_readRule 34 = .ok (.iload_n 1, 1) := by decide +kernel
theorem dX8_readRule_35 : decode cX8_readRule 35 = .ok (.aload_n 0, 1) := by decide +kernel
theorem dX8_readRule_36 : decode cX8_readRule 36 = .ok (.getfield 34, 3) := by decide +kernel
theorem dX8_readRule_39 : decode cX8_readRule 39 = .ok (.iconst 0, 1) := by decide +kernel
theorem dX8_readRule_40 : decode cX8_readRule 40 = .ok (.sipush 365, 3) := by decide +kernel
theorem dX8_readRule_43 : decode cX8_readRule 43 = .ok (.invokevirtual 75, 3) := by decide +kernel
theorem dX8_readRule_46 : decode cX8_readRule 46 = .ok (.iastore, 1) := by decide +kernel
theorem dX8_readRule_47 : decode cX8_readRule 47 = .ok (.aload_n 0, 1) := by decide +kernel
theorem dX8_readRule_48 : decode cX8_readRule 48 = .ok (.getfield 34, 3) := by decide +kernel
theorem dX8_readRule_51 : decode cX8_readRule 51 = .ok (.bipush 45, 2) := by decide +kernel
theorem dX8_readRule_53 : decode cX8_readRule 53 = .ok (.invokevirtual 79, 3) := by decide +kernel
theorem dX8_readRule_56 : decode cX8_readRule 56 = .ok (.aload_n 0, 1) := by decide +kernel
theorem dX8_readRule_57 : decode cX8_readRule 57 = .ok (.getfield 18, 3) := by decide +kernel
theorem dX8_readRule_60 : decode cX8_readRule 60 = .ok (.iload_n 1, 1) := by decide +kernel
theorem dX8_readRule_61 : decode cX8_readRule 61 = .ok (.aload_n 0, 1) := by decide +kernel
theorem dX8_readRule_62 : decode cX8_readRule 62 = .ok (.getfield 34, 3) := by decide +kernel
theorem dX8_readRule_65 : decode cX8_readRule 65 = .ok (.aload_n 0, 1) := by decide +kernel
theorem dX8_readRule_66 : decode cX8_readRule 66 = .ok (.getfield 15, 3) := by decide +kernel
theorem dX8_readRule_69 : decode cX8_readRule 69 = .ok (.iload_n 1, 1) := by decide +kernel
theorem dX8_readRule_70 : decode cX8_readRule 70 = .ok (.iaload, 1) := by decide +kernel
theorem dX8_readRule_71 : decode cX8_readRule 71 = .ok (.sipush 365, 3) := by decide +kernel
theorem dX8_readRule_74 : decode cX8_readRule 74 = .ok (.invokevirtual 75, 3) := by decide +kernel
theorem dX8_readRule_77 : decode cX8_readRule 77 = .ok (.iastore, 1) := by decide +kernel
theorem dX8_readRule_78 : decode cX8_readRule 78 = .ok (.goto 108, 3) := by decide +kernel
theorem dX8_readRule_81 : decode cX8_readRule 81 = .ok (.aload_n 0, 1) := by decide +kernel
theorem dX8_readRule_82 : decode cX8_readRule 82 = .ok (.getfield 34, 3) := by decide +kernel
theorem dX8_readRule_85 : decode cX8_readRule 85 = .ok (.bipush 107, 2) := by decide +kernel
theorem dX8_readRule_87 : decode cX8_readRule 87 = .ok (.invokevirtual 71, 3) := by decide +kernel
theorem dX8_readRule_90 : decode cX8_readRule 90 = .ok (.ifCond .eq 33, 3) := by decide +kernel
theorem dX8_readRule_93 : decode cX8_readRule 93 = .ok (.aload_n 0, 1) := by decide +kernel
theorem dX8_readRule_94 : decode cX8_readRule 94 = .ok (.getfield 9, 3) := by decide +kernel
theorem dX8_readRule_97 : decode cX8_readRule 97 = .ok (.iload_n 1, 1) := by decide +kernel
theorem dX8_readRule_98 : decode cX8_readRule 98 = .ok (.iconst 1, 1) := by decide +kernel
theorem dX8_readRule_99 : decode cX8_readRule 99 = .ok (.iastore, 1) := by decide +kernel
theorem dX8_readRule_100 : decode cX8_readRule 100 = .ok (.aload_n 0, 1) := by decide +kernel
theorem dX8_readRule_101 : decode cX8_readRule 101 = .ok (.getfield 15, 3) := by decide +kernel
theorem dX8_readRule_104 : decode cX8_readRule 104 = .ok (.iload_n 1, 1) := by decide +kernel
theorem dX8_readRule_105 : decode cX8_readRule 105 = .ok (.aload_n 0, 1) := by decide +kernel
theorem dX8_readRule_106 : decode cX8_readRule 106 = .ok (.getfield 34, 3) := by decide +kernel
theorem dX8_readRule_109 : decode cX8_readRule 109 = .ok (.invokevirtual 82, 3) := by decide +kernel
theorem dX8_readRule_112 : decode cX8_readRule 112 = .ok (.iastore, 1) := by decide +kernel
theorem dX8_readRule_113 : decode cX8_readRule 113 = .ok (.aload_n 0, 1) := by decide +kernel
theorem dX8_readRule_114 : decode cX8_readRule 114 = .ok (.getfield 18, 3) := by decide +kernel
theorem dX8_readRule_117 : decode cX8_readRule 117 = .ok (.iload_n 1, 1) := by decide +kernel
theorem dX8_readRule_118 : decode cX8_readRule 118 = .ok (.iconst 0, 1) := by decide +kernel
theorem dX8_readRule_119 : decode cX8_readRule 119 = .ok (.iastore, 1) := by decide +kernel
theorem dX8_readRule_120 : decode cX8_readRule 120 = .ok (.goto 66, 3) := by decide +kernel
theorem dX8_readRule_123 : decode cX8_readRule 123 = .ok (.aload_n 0, 1) := by decide +kernel
theorem dX8_readRule_124 : decode cX8_readRule 124 = .ok (.getfield 34, 3) := by decide +kernel
theorem dX8_readRule_127 : decode cX8_readRule 127 = .ok (.bipush 114, 2) := by decide +kernel
theorem dX8_readRule_129 : decode cX8_readRule 129 = .ok (.invokevirtual 79, 3) := by decide +kernel
theorem dX8_readRule_132 : decode cX8_readRule 132 = .ok (.aload_n 0, 1) := by decide +kernel
theorem dX8_readRule_133 : decode cX8_readRule 133 = .ok (.getfield 9, 3) := by decide +kernel
theorem dX8_readRule_136 : decode cX8_readRule 136 = .ok (.iload_n 1, 1) := by decide +kernel
theorem dX8_readRule_137 : decode cX8_readRule 137 = .ok (.iconst 2, 1) := by decide +kernel
theorem dX8_readRule_138 : decode cX8_readRule 138 = .ok (.iastore, 1) := by decide +kernel
theorem dX8_readRule_139 : decode cX8_readRule 139 = .ok (.aload_n 0, 1) := by decide +kernel
theorem dX8_readRule_140 : decode cX8_readRule 140 = .ok (.getfield 15, 3) := by decide +kernel
theorem dX8_readRule_143 : decode cX8_readRule 143 = .ok (.iload_n 1, 1) := by decide +kernel
theorem dX8_readRule_144 : decode cX8_readRule 144 = .ok (.aload_n 0, 1) := by decide +kernel
theorem dX8_readRule_145 : decode cX8_readRule 145 = .ok (.getfield 34, 3) := by decide +kernel
theorem dX8_readRule_148 : decode cX8_readRule 148 = .ok (.iconst 2, 1) := by decide +kernel
theorem dX8_readRule_149 : decode cX8_readRule 149 = .ok (.bipush 9, 2) := by decide +kernel
theorem dX8_readRule_151 : decode cX8_readRule 151 = .ok (.invokevirtual 75, 3) := by decide +kernel
theorem dX8_readRule_154 : decode cX8_readRule 154 = .ok (.iastore, 1) := by decide +kernel
theorem dX8_readRule_155 : decode cX8_readRule 155 = .ok (.aload_n 0, 1) := by decide +kernel
theorem dX8_readRule_156 : decode cX8_readRule 156 = .ok (.getfield 34, 3) := by decide +kernel
theorem dX8_readRule_159 : decode cX8_readRule 159 = .ok (.bipush 58, 2) := by decide +kernel
theorem dX8_readRule_161 : decode cX8_readRule 161 = .ok (.invokevirtual 79, 3) := by decide +kernel
theorem dX8_readRule_164 : decode cX8_readRule 164 = .ok (.aload_n 0, 1) := by decide +kernel
theorem dX8_readRule_165 : decode cX8_readRule 165 = .ok (.getfield 18, 3) := by decide +kernel
theorem dX8_readRule_168 : decode cX8_readRule 168 = .ok (.iload_n 1, 1) := by decide +kernel
theorem dX8_readRule_169 : decode cX8_readRule 169 = .ok (.aload_n 0, 1) := by decide +kernel
theorem dX8_readRule_170 : decode cX8_readRule 170 = .ok (.getfield 34, 3) := by decide +kernel
theorem dX8_readRule_173 : decode cX8_readRule 173 = .ok (.iconst 0, 1) := by decide +kernel
theorem dX8_readRule_174 : decode cX8_readRule 174 = .ok (.aload_n 0, 1) := by decide +kernel
theorem dX8_readRule_175 : decode cX8_readRule 175 = .ok (.getfield 15, 3) := by decide +kernel
theorem dX8_readRule_178 : decode cX8_readRule 178 = .ok (.iload_n 1, 1) := by decide +kernel
theorem dX8_readRule_179 : decode cX8_readRule 179 = .ok (.iaload, 1) := by decide +kernel
theorem dX8_readRule_180 : decode cX8_readRule 180 = .ok (.iconst 1, 1) := by decide +kernel
theorem dX8_readRule_181 : decode cX8_readRule 181 = .ok (.isub, 1) := by decide +kernel
theorem dX8_readRule_182 : decode cX8_readRule 182 = .ok (.invokevirtual 75, 3) := by decide +kernel
theorem dX8_readRule_185 : decode cX8_readRule 185 = .ok (.iastore, 1) := by decide +kernel
theorem dX8_readRule_186 : decode cX8_readRule 186 = .ok (.return_, 1) := by decide +kernel
theorem dX8_giveRules_0 : decode cX8_giveRules 0 = .ok (.iconst 0, 1) := by decide +kernel
theorem dX8_giveRules_1 : decode cX8_giveRules 1 = .ok (.istore_n 2, 1) := by decide +kernel
theorem dX8_giveRules_2 : decode cX8_giveRules 2 = .ok (.iload_n 2, 1) := by decide +kernel
theorem dX8_giveRules_3 : decode cX8_giveRules 3 = .ok (.aload_n 0, 1) := by decide +kernel
theorem dX8_giveRules_4 : decode cX8_giveRules 4 = .ok (.getfield 38, 3) := by decide +kernel
theorem dX8_giveRules_7 : decode cX8_giveRules 7 = .ok (.if_icmp .ge 41, 3) := by decide +kernel
theorem dX8_giveRules_10 : decode cX8_giveRules 10 = .ok (.iload_n 2, 1) := by decide +kernel
theorem dX8_giveRules_11 : decode cX8_giveRules 11 = .ok (.bipush 8, 2) := by decide +kernel
theorem dX8_giveRules_13 : decode cX8_giveRules 13 = .ok (.if_icmp .ge 35, 3) := by decide +kernel
theorem dX8_giveRules_16 : decode cX8_giveRules 16 = .ok (.aload_n 0, 1) := by decide +kernel
theorem dX8_giveRules_17 : decode cX8_giveRules 17 = .ok (.getfield 30, 3) := by decide +kernel
theorem dX8_giveRules_20 : decode cX8_giveRules 20 = .ok (.iload_n 1, 1) := by decide +kernel
theorem dX8_giveRules_21 : decode cX8_giveRules 21 = .ok (.aload_n 0, 1) := by decide +kernel
theorem dX8_giveRules_22 : decode cX8_giveRules 22 = .ok (.getfield 9, 3) := by decide +kernel
theorem dX8_giveRules_25 : decode cX8_giveRules 25 = .ok (.iload_n 2, 1) := by decide +kernel
theorem dX8_giveRules_26 : decode cX8_giveRules 26 = .ok (.iaload, 1) := by decide +kernel
theorem dX8_giveRules_27 : decode cX8_giveRules 27 = .ok (.aload_n 0, 1) := by decide +kernel
theorem dX8_giveRules_28 : decode cX8_giveRules 28 = .ok (.getfield 15, 3) := by decide +kernel
theorem dX8_giveRules_31 : decode cX8_giveRules 31 = .ok (.iload_n 2, 1) := by decide +kernel
theorem dX8_giveRules_32 : decode cX8_giveRules 32 = .ok (.iaload, 1) := by decide +kernel
theorem dX8_giveRules_33 : decode cX8_giveRules 33 = .ok (.aload_n 0, 1) := by decide +kernel
theorem dX8_giveRules_34 : decode cX8_giveRules 34 = .ok (.getfield 18, 3) := by decide +kernel
theorem dX8_giveRules_37 : decode cX8_giveRules 37 = .ok (.iload_n 2, 1) := by decide +kernel
theorem dX8_giveRules_38 : decode cX8_giveRules 38 = .ok (.iaload, 1) := by decide +kernel
theorem dX8_giveRules_39 : decode cX8_giveRules 39 = .ok (.invokevirtual 85, 3) := by decide +kernel
theorem dX8_giveRules_42 : decode cX8_giveRules 42 = .ok (.iinc 2 1, 3) := by decide +kernel
theorem dX8_giveRules_45 : decode cX8_giveRules 45 = .ok (.goto (-43), 3) := by decide +kernel
theorem dX8_giveRules_48 : decode cX8_giveRules 48 = .ok (.aload_n 0, 1) := by decide +kernel
theorem dX8_giveRules_49 : decode cX8_giveRules 49 = .ok (.getfield 38, 3) := by decide +kernel
theorem dX8_giveRules_52 : decode cX8_giveRules 52 = .ok (.ireturn, 1) := by decide +kernel
theorem dX8_readCalendar_0 : decode cX8_readCalendar 0 = .ok (.bipush 24, 2) := by decide +kernel
theorem dX8_readCalendar_2 : decode cX8_readCalendar 2 = .ok (.aload_n 0, 1) := by decide +kernel
theorem dX8_readCalendar_3 : decode cX8_readCalendar 3 = .ok (.getfield 30, 3) := by decide +kernel
theorem dX8_readCalendar_6 : decode cX8_readCalendar 6 = .ok (.getfield 89, 3) := by decide +kernel
theorem dX8_readCalendar_9 : decode cX8_readCalendar 9 = .ok (.isub, 1) := by decide +kernel
theorem dX8_readCalendar_10 : decode cX8_readCalendar 10 = .ok (.istore_n 1, 1) := by decide +kernel
theorem dX8_readCalendar_11 : decode cX8_readCalendar 11 = .ok (.aload_n 0, 1) := by decide +kernel
theorem dX8_readCalendar_12 : decode cX8_readCalendar 12 = .ok (.getfield 34, 3) := by decide +kernel
theorem dX8_readCalendar_15 : decode cX8_readCalendar 15 = .ok (.invokevirtual 48, 3) := by decide +kernel
theorem dX8_readCalendar_18 : decode cX8_readCalendar 18 = .ok (.iconst 0, 1) := by decide +kernel
theorem dX8_readCalendar_19 : decode cX8_readCalendar 19 = .ok (.istore_n 2, 1) := by decide +kernel
theorem dX8_readCalendar_20 : decode cX8_readCalendar 20 = .ok (.iload_n 2, 1) := by decide +kernel
theorem dX8_readCalendar_21 : decode cX8_readCalendar 21 = .ok (.iload_n 1, 1) := by decide +kernel
theorem dX8_readCalendar_22 : decode cX8_readCalendar 22 = .ok (.if_icmp .ge 73, 3) := by decide +kernel
theorem dX8_readCalendar_25 : decode cX8_readCalendar 25 = .ok (.iload_n 2, 1) := by decide +kernel
theorem dX8_readCalendar_26 : decode cX8_readCalendar 26 = .ok (.bipush 24, 2) := by decide +kernel
theorem dX8_readCalendar_28 : decode cX8_readCalendar 28 = .ok (.if_icmp .ge 67, 3) := by decide +kernel
theorem dX8_readCalendar_31 : decode cX8_readCalendar 31 = .ok (.aload_n 0, 1) := by decide +kernel
theorem dX8_readCalendar_32 : decode cX8_readCalendar 32 = .ok (.getfield 21, 3) := by decide +kernel
theorem dX8_readCalendar_35 : decode cX8_readCalendar 35 = .ok (.iload_n 2, 1) := by decide +kernel
theorem dX8_readCalendar_36 : decode cX8_readCalendar 36 = .ok (.aload_n 0, 1) := by decide +kernel
theorem dX8_readCalendar_37 : decode cX8_readCalendar 37 = .ok (.getfield 34, 3) := by decide +kernel
theorem dX8_readCalendar_40 : decode cX8_readCalendar 40 = .ok (.iconst 0, 1) := by decide +kernel
theorem dX8_readCalendar_41 : decode cX8_readCalendar 41 = .ok (.sipush 365, 3) := by decide +kernel
theorem dX8_readCalendar_44 : decode cX8_readCalendar 44 = .ok (.invokevirtual 75, 3) := by decide +kernel
theorem dX8_readCalendar_47 : decode cX8_readCalendar 47 = .ok (.iastore, 1) := by decide +kernel
theorem dX8_readCalendar_48 : decode cX8_readCalendar 48 = .ok (.aload_n 0, 1) := by decide +kernel
theorem dX8_readCalendar_49 : decode cX8_readCalendar 49 = .ok (.getfield 24, 3) := by decide +kernel
theorem dX8_readCalendar_52 : decode cX8_readCalendar 52 = .ok (.iload_n 2, 1) := by decide +kernel
theorem dX8_readCalendar_53 : decode cX8_readCalendar 53 = .ok (.aload_n 0, 1) := by decide +kernel
theorem dX8_readCalendar_54 : decode cX8_readCalendar 54 = .ok (.getfield 34, 3) := by decide +kernel
theorem dX8_readCalendar_57 : decode cX8_readCalendar 57 = .ok (.invokevirtual 82, 3) := by decide +kernel
theorem dX8_readCalendar_60 : decode cX8_readCalendar 60 = .ok (.iastore, 1) := by decide +kernel
theorem dX8_readCalendar_61 : decode cX8_readCalendar 61 = .ok (.aload_n 0, 1) := by decide +kernel
theorem dX8_readCalendar_62 : decode cX8_readCalendar 62 = .ok (.iload_n 2, 1) := by decide +kernel
theorem dX8_readCalendar_63 : decode cX8_readCalendar 63 = .ok (.iconst 1, 1) := by decide +kernel
theorem dX8_readCalendar_64 : decode cX8_readCalendar 64 = .ok (.iadd, 1) := by decide +kernel
theorem dX8_readCalendar_65 : decode cX8_readCalendar 65 = .ok (.putfield 38, 3) := by decide +kernel
theorem dX8_readCalendar_68 : decode cX8_readCalendar 68 = .ok (.aload_n 0, 1) := by decide +kernel
theorem dX8_readCalendar_69 : decode cX8_readCalendar 69 = .ok (.getfield 34, 3) := by decide +kernel
theorem dX8_readCalendar_72 : decode cX8_readCalendar 72 = .ok (.invokevirtual 57, 3) := by decide +kernel
theorem dX8_readCalendar_75 : decode cX8_readCalendar 75 = .ok (.ifCond .ne 13, 3) := by decide +kernel
theorem dX8_readCalendar_78 : decode cX8_readCalendar 78 = .ok (.aload_n 0, 1) := by decide +kernel
theorem dX8_readCalendar_79 : decode cX8_readCalendar 79 = .ok (.getfield 34, 3) := by decide +kernel
theorem dX8_readCalendar_82 : decode cX8_readCalendar 82 = .ok (.invokevirtual 61, 3) := by decide +kernel
theorem dX8_readCalendar_85 : decode cX8_readCalendar 85 = .ok (.ifCond .ne 4, 3) := by decide +kernel
theorem dX8_readCalendar_88 : decode cX8_readCalendar 88 = .ok (.return_, 1) := by decide +kernel
theorem dX8_readCalendar_89 : decode cX8_readCalendar 89 = .ok (.iinc 2 1, 3) := by decide +kernel
theorem dX8_readCalendar_92 : decode cX8_readCalendar 92 = .ok (.goto (-72), 3) := by decide +kernel
theorem dX8_readCalendar_95 : decode cX8_readCalendar 95 = .ok (.aload_n 0, 1) := by decide +kernel
theorem dX8_readCalendar_96 : decode cX8_readCalendar 96 = .ok (.getfield 34, 3) := by decide +kernel
theorem dX8_readCalendar_99 : decode cX8_readCalendar 99 = .ok (.aload_n 0, 1) := by decide +kernel
theorem dX8_readCalendar_100 : decode cX8_readCalendar 100 = .ok (.getfield 34, 3) := by decide +kernel
theorem dX8_readCalendar_103 : decode cX8_readCalendar 103 = .ok (.invokevirtual 64, 3) := by decide +kernel
theorem dX8_readCalendar_106 : decode cX8_readCalendar 106 = .ok (.invokevirtual 68, 3) := by decide +kernel
theorem dX8_readCalendar_109 : decode cX8_readCalendar 109 = .ok (.return_, 1) := by decide +kernel
theorem dX8_addDuties_0 : decode cX8_addDuties 0 = .ok (.iconst 0, 1) := by decide +kernel
theorem dX8_addDuties_1 : decode cX8_addDuties 1 = .ok (.istore_n 1, 1) := by decide +kernel
theorem dX8_addDuties_2 : decode cX8_addDuties 2 = .ok (.iload_n 1, 1) := by decide +kernel
theorem dX8_addDuties_3 : decode cX8_addDuties 3 = .ok (.aload_n 0, 1) := by decide +kernel
theorem dX8_addDuties_4 : decode cX8_addDuties 4 = .ok (.getfield 38, 3) := by decide +kernel
theorem dX8_addDuties_7 : decode cX8_addDuties 7 = .ok (.if_icmp .ge 35, 3) := by decide +kernel
theorem dX8_addDuties_10 : decode cX8_addDuties 10 = .ok (.iload_n 1, 1) := by decide +kernel
theorem dX8_addDuties_11 : decode cX8_addDuties 11 = .ok (.bipush 24, 2) := by decide +kernel
theorem dX8_addDuties_13 : decode cX8_addDuties 13 = .ok (.if_icmp .ge 29, 3) := by decide +kernel
theorem dX8_addDuties_16 : decode cX8_addDuties 16 = .ok (.aload_n 0, 1) := by decide +kernel
theorem dX8_addDuties_17 : decode cX8_addDuties 17 = .ok (.getfield 30, 3) := by decide +kernel
theorem dX8_addDuties_20 : decode cX8_addDuties 20 = .ok (.aload_n 0, 1) := by decide +kernel
theorem dX8_addDuties_21 : decode cX8_addDuties 21 = .ok (.getfield 21, 3) := by decide +kernel
theorem dX8_addDuties_24 : decode cX8_addDuties 24 = .ok (.iload_n 1, 1) := by decide +kernel
theorem dX8_addDuties_25 : decode cX8_addDuties 25 = .ok (.iaload, 1) := by decide +kernel
theorem dX8_addDuties_26 : decode cX8_addDuties 26 = .ok (.aload_n 0, 1) := by decide +kernel
theorem dX8_addDuties_27 : decode cX8_addDuties 27 = .ok (.getfield 24, 3) := by decide +kernel
theorem dX8_addDuties_30 : decode cX8_addDuties 30 = .ok (.iload_n 1, 1) := by decide +kernel
theorem dX8_addDuties_31 : decode cX8_addDuties 31 = .ok (.iaload, 1) := by decide +kernel
theorem dX8_addDuties_32 : decode cX8_addDuties 32 = .ok (.invokevirtual 92, 3) := by decide +kernel
theorem dX8_addDuties_35 : decode cX8_addDuties 35 = .ok (.pop, 1) := by decide +kernel
theorem dX8_addDuties_36 : decode cX8_addDuties 36 = .ok (.iinc 1 1, 3) := by decide +kernel
theorem dX8_addDuties_39 : decode cX8_addDuties 39 = .ok (.goto (-37), 3) := by decide +kernel
theorem dX8_addDuties_42 : decode cX8_addDuties 42 = .ok (.aload_n 0, 1) := by decide +kernel
theorem dX8_addDuties_43 : decode cX8_addDuties 43 = .ok (.getfield 38, 3) := by decide +kernel
theorem dX8_addDuties_46 : decode cX8_addDuties 46 = .ok (.ireturn, 1) := by decide +kernel
theorem dX8_readRoster_0 : decode cX8_readRoster 0 = .ok (.aload_n 0, 1) := by decide +kernel
theorem dX8_readRoster_1 : decode cX8_readRoster 1 = .ok (.getfield 34, 3) := by decide +kernel
theorem dX8_readRoster_4 : decode cX8_readRoster 4 = .ok (.invokevirtual 48, 3) := by decide +kernel
theorem dX8_readRoster_7 : decode cX8_readRoster 7 = .ok (.iconst 0, 1) := by decide +kernel
theorem dX8_readRoster_8 : decode cX8_readRoster 8 = .ok (.istore_n 1, 1) := by decide +kernel
theorem dX8_readRoster_9 : decode cX8_readRoster 9 = .ok (.iload_n 1, 1) := by decide +kernel
theorem dX8_readRoster_10 : decode cX8_readRoster 10 = .ok (.aload_n 0, 1) := by decide +kernel
theorem dX8_readRoster_11 : decode cX8_readRoster 11 = .ok (.getfield 30, 3) := by decide +kernel
theorem dX8_readRoster_14 : decode cX8_readRoster 14 = .ok (.getfield 89, 3) := by decide +kernel
theorem dX8_readRoster_17 : decode cX8_readRoster 17 = .ok (.if_icmp .ge 44, 3) := by decide +kernel
theorem dX8_readRoster_20 : decode cX8_readRoster 20 = .ok (.aload_n 0, 1) := by decide +kernel
theorem dX8_readRoster_21 : decode cX8_readRoster 21 = .ok (.getfield 34, 3) := by decide +kernel
theorem dX8_readRoster_24 : decode cX8_readRoster 24 = .ok (.invokevirtual 57, 3) := by decide +kernel
theorem dX8_readRoster_27 : decode cX8_readRoster 27 = .ok (.ifCond .ne 34, 3) := by decide +kernel
theorem dX8_readRoster_30 : decode cX8_readRoster 30 = .ok (.iload_n 1, 1) := by decide +kernel
theorem dX8_readRoster_31 : decode cX8_readRoster 31 = .ok (.ifCond .le 12, 3) := by decide +kernel
theorem dX8_readRoster_34 : decode cX8_readRoster 34 = .ok (.aload_n 0, 1) := by decide +kernel
theorem dX8_readRoster_35 : decode cX8_readRoster 35 = .ok (.getfield 34, 3) := by decide +kernel
theorem dX8_readRoster_38 : decode cX8_readRoster 38 = .ok (.bipush 59, 2) := by decide +kernel
theorem dX8_readRoster_40 : decode cX8_readRoster 40 = .ok (.invokevirtual 79, 3) := by decide +kernel
theorem dX8_readRoster_43 : decode cX8_readRoster 43 = .ok (.aload_n 0, 1) := by decide +kernel
theorem dX8_readRoster_44 : decode cX8_readRoster 44 = .ok (.aload_n 0, 1) := by decide +kernel
theorem dX8_readRoster_45 : decode cX8_readRoster 45 = .ok (.getfield 30, 3) := by decide +kernel
theorem dX8_readRoster_48 : decode cX8_readRoster 48 = .ok (.iload_n 1, 1) := by decide +kernel
theorem dX8_readRoster_49 : decode cX8_readRoster 49 = .ok (.invokevirtual 95, 3) := by decide +kernel
theorem dX8_readRoster_52 : decode cX8_readRoster 52 = .ok (.invokevirtual 98, 3) := by decide +kernel
theorem dX8_readRoster_55 : decode cX8_readRoster 55 = .ok (.iinc 1 1, 3) := by decide +kernel
theorem dX8_readRoster_58 : decode cX8_readRoster 58 = .ok (.goto (-49), 3) := by decide +kernel
theorem dX8_readRoster_61 : decode cX8_readRoster 61 = .ok (.aload_n 0, 1) := by decide +kernel
theorem dX8_readRoster_62 : decode cX8_readRoster 62 = .ok (.getfield 34, 3) := by decide +kernel
theorem dX8_readRoster_65 : decode cX8_readRoster 65 = .ok (.invokevirtual 101, 3) := by decide +kernel
theorem dX8_readRoster_68 : decode cX8_readRoster 68 = .ok (.return_, 1) := by decide +kernel
theorem dX8_readHolder_0 : decode cX8_readHolder 0 = .ok (.aload_n 0, 1) := by decide +kernel
theorem dX8_readHolder_1 : decode cX8_readHolder 1 = .ok (.getfield 30, 3) := by decide +kernel
theorem dX8_readHolder_4 : decode cX8_readHolder 4 = .ok (.iload_n 1, 1) := by decide +kernel
theorem dX8_readHolder_5 : decode cX8_readHolder 5 = .ok (.invokevirtual 104, 3) := by decide +kernel
theorem dX8_readHolder_8 : decode cX8_readHolder 8 = .ok (.ifCond .ne 4, 3) := by decide +kernel
theorem dX8_readHolder_11 : decode cX8_readHolder 11 = .ok (.return_, 1) := by decide +kernel
theorem dX8_readHolder_12 : decode cX8_readHolder 12 = .ok (.aload_n 0, 1) := by decide +kernel
theorem dX8_readHolder_13 : decode cX8_readHolder 13 = .ok (.getfield 34, 3) := by decide +kernel
theorem dX8_readHolder_16 : decode cX8_readHolder 16 = .ok (.aload_n 0, 1) := by decide +kernel
theorem dX8_readHolder_17 : decode cX8_readHolder 17 = .ok (.getfield 30, 3) := by decide +kernel
theorem dX8_readHolder_20 : decode cX8_readHolder 20 = .ok (.iload_n 1, 1) := by decide +kernel
theorem dX8_readHolder_21 : decode cX8_readHolder 21 = .ok (.invokevirtual 107, 3) := by decide +kernel
theorem dX8_readHolder_24 : decode cX8_readHolder 24 = .ok (.aload_n 0, 1) := by decide +kernel
theorem dX8_readHolder_25 : decode cX8_readHolder 25 = .ok (.getfield 30, 3) := by decide +kernel
theorem dX8_readHolder_28 : decode cX8_readHolder 28 = .ok (.iload_n 1, 1) := by decide +kernel
theorem dX8_readHolder_29 : decode cX8_readHolder 29 = .ok (.invokevirtual 107, 3) := by decide +kernel
theorem dX8_readHolder_32 : decode cX8_readHolder 32 = .ok (.invokevirtual 75, 3) := by decide +kernel
theorem dX8_readHolder_35 : decode cX8_readHolder 35 = .ok (.pop, 1) := by decide +kernel
theorem dX8_readHolder_36 : decode cX8_readHolder 36 = .ok (.aload_n 0, 1) := by decide +kernel
theorem dX8_readHolder_37 : decode cX8_readHolder 37 = .ok (.getfield 34, 3) := by decide +kernel
theorem dX8_readHolder_40 : decode cX8_readHolder 40 = .ok (.invokevirtual 64, 3) := by decide +kernel
theorem dX8_readHolder_43 : decode cX8_readHolder 43 = .ok (.istore_n 2, 1) := by decide +kernel
theorem dX8_readHolder_44 : decode cX8_readHolder 44 = .ok (.aload_n 0, 1) := by decide +kernel
theorem dX8_readHolder_45 : decode cX8_readHolder 45 = .ok (.getfield 34, 3) := by decide +kernel
theorem dX8_readHolder_48 : decode cX8_readHolder 48 = .ok (.invokevirtual 82, 3) := by decide +kernel
theorem dX8_readHolder_51 : decode cX8_readHolder 51 = .ok (.aload_n 0, 1) := by decide +kernel
theorem dX8_readHolder_52 : decode cX8_readHolder 52 = .ok (.getfield 30, 3) := by decide +kernel
theorem dX8_readHolder_55 : decode cX8_readHolder 55 = .ok (.iload_n 1, 1) := by decide +kernel
theorem dX8_readHolder_56 : decode cX8_readHolder 56 = .ok (.invokevirtual 110, 3) := by decide +kernel
theorem dX8_readHolder_59 : decode cX8_readHolder 59 = .ok (.if_icmp .eq 11, 3) := by decide +kernel
theorem dX8_readHolder_62 : decode cX8_readHolder 62 = .ok (.aload_n 0, 1) := by decide +kernel
theorem dX8_readHolder_63 : decode cX8_readHolder 63 = .ok (.getfield 34, 3) := by decide +kernel
theorem dX8_readHolder_66 : decode cX8_readHolder 66 = .ok (.iload_n 2, 1) := by decide +kernel
theorem dX8_readHolder_67 : decode cX8_readHolder 67 = .ok (.invokevirtual 68, 3) := by decide +kernel
theorem dX8_readHolder_70 : decode cX8_readHolder 70 = .ok (.aload_n 0, 1) := by decide +kernel
theorem dX8_readHolder_71 : decode cX8_readHolder 71 = .ok (.getfield 34, 3) := by decide +kernel
theorem dX8_readHolder_74 : decode cX8_readHolder 74 = .ok (.bipush 61, 2) := by decide +kernel
theorem dX8_readHolder_76 : decode cX8_readHolder 76 = .ok (.invokevirtual 79, 3) := by decide +kernel
theorem dX8_readHolder_79 : decode cX8_readHolder 79 = .ok (.aload_n 0, 1) := by decide +kernel
theorem dX8_readHolder_80 : decode cX8_readHolder 80 = .ok (.getfield 27, 3) := by decide +kernel
theorem dX8_readHolder_83 : decode cX8_readHolder 83 = .ok (.iload_n 1, 1) := by decide +kernel
theorem dX8_readHolder_84 : decode cX8_readHolder 84 = .ok (.iconst (-1), 1) := by decide +kernel
theorem dX8_readHolder_85 : decode cX8_readHolder 85 = .ok (.iastore, 1) := by decide +kernel
theorem dX8_readHolder_86 : decode cX8_readHolder 86 = .ok (.aload_n 0, 1) := by decide +kernel
theorem dX8_readHolder_87 : decode cX8_readHolder 87 = .ok (.getfield 34, 3) := by decide +kernel
theorem dX8_readHolder_90 : decode cX8_readHolder 90 = .ok (.bipush 45, 2) := by decide +kernel
theorem dX8_readHolder_92 : decode cX8_readHolder 92 = .ok (.invokevirtual 71, 3) := by decide +kernel
theorem dX8_readHolder_95 : decode cX8_readHolder 95 = .ok (.ifCond .eq 4, 3) := by decide +kernel
theorem dX8_readHolder_98 : decode cX8_readHolder 98 = .ok (.return_, 1) := by decide +kernel
theorem dX8_readHolder_99 : decode cX8_readHolder 99 = .ok (.aload_n 0, 1) := by decide +kernel
theorem dX8_readHolder_100 : decode cX8_readHolder 100 = .ok (.getfield 34, 3) := by decide +kernel
theorem dX8_readHolder_103 : decode cX8_readHolder 103 = .ok (.invokevirtual 64, 3) := by decide +kernel
theorem dX8_readHolder_106 : decode cX8_readHolder 106 = .ok (.istore_n 3, 1) := by decide +kernel
theorem dX8_readHolder_107 : decode cX8_readHolder 107 = .ok (.aload_n 0, 1) := by decide +kernel
theorem dX8_readHolder_108 : decode cX8_readHolder 108 = .ok (.getfield 27, 3) := by decide +kernel
theorem dX8_readHolder_111 : decode cX8_readHolder 111 = .ok (.iload_n 1, 1) := by decide +kernel
theorem dX8_readHolder_112 : decode cX8_readHolder 112 = .ok (.aload_n 0, 1) := by decide +kernel
theorem dX8_readHolder_113 : decode cX8_readHolder 113 = .ok (.getfield 34, 3) := by decide +kernel
theorem dX8_readHolder_116 : decode cX8_readHolder 116 = .ok (.invokevirtual 113, 3) := by decide +kernel
theorem dX8_readHolder_119 : decode cX8_readHolder 119 = .ok (.iastore, 1) := by decide +kernel
theorem dX8_readHolder_120 : decode cX8_readHolder 120 = .ok (.aload_n 0, 1) := by decide +kernel
theorem dX8_readHolder_121 : decode cX8_readHolder 121 = .ok (.getfield 30, 3) := by decide +kernel
theorem dX8_readHolder_124 : decode cX8_readHolder 124 = .ok (.aload_n 0, 1) := by decide +kernel
theorem dX8_readHolder_125 : decode cX8_readHolder 125 = .ok (.getfield 27, 3) := by decide +kernel
theorem dX8_readHolder_128 : decode cX8_readHolder 128 = .ok (.iload_n 1, 1) := by decide +kernel
theorem dX8_readHolder_129 : decode cX8_readHolder 129 = .ok (.iaload, 1) := by decide +kernel
theorem dX8_readHolder_130 : decode cX8_readHolder 130 = .ok (.invokevirtual 116, 3) := by decide +kernel
theorem dX8_readHolder_133 : decode cX8_readHolder 133 = .ok (.ifCond .ne 11, 3) := by decide +kernel
theorem dX8_readHolder_136 : decode cX8_readHolder 136 = .ok (.aload_n 0, 1) := by decide +kernel
theorem dX8_readHolder_137 : decode cX8_readHolder 137 = .ok (.getfield 34, 3) := by decide +kernel
theorem dX8_readHolder_140 : decode cX8_readHolder 140 = .ok (.iload_n 3, 1) := by decide +kernel
theorem dX8_readHolder_141 : decode cX8_readHolder 141 = .ok (.invokevirtual 68, 3) := by decide +kernel
theorem dX8_readHolder_144 : decode cX8_readHolder 144 = .ok (.return_, 1) := by decide +kernel
theorem dX8_planned_0 : decode cX8_planned 0 = .ok (.aload_n 0, 1) := by decide +kernel
theorem dX8_planned_1 : decode cX8_planned 1 = .ok (.getfield 27, 3) := by decide +kernel
theorem dX8_planned_4 : decode cX8_planned 4 = .ok (.areturn, 1) := by decide +kernel
theorem dX8_firstThatMayNotBe_0 : decode cX8_firstThatMayNotBe 0 = .ok (.iconst 0, 1) := by decide +kernel
theorem dX8_firstThatMayNotBe_1 : decode cX8_firstThatMayNotBe 1 = .ok (.istore_n 1, 1) := by decide +kernel
theorem dX8_firstThatMayNotBe_2 : decode cX8_firstThatMayNotBe 2 = .ok (.iload_n 1, 1) := by decide +kernel
theorem dX8_firstThatMayNotBe_3 : decode cX8_firstThatMayNotBe 3 = .ok (.aload_n 0, 1) := by decide +kernel
theorem dX8_firstThatMayNotBe_4 : decode cX8_firstThatMayNotBe 4 = .ok (.getfield 30, 3) := by decide +kernel
theorem dX8_firstThatMayNotBe_7 : decode cX8_firstThatMayNotBe 7 = .ok (.getfield 89, 3) := by decide +kernel
theorem dX8_firstThatMayNotBe_10 : decode cX8_firstThatMayNotBe 10 = .ok (.if_icmp .ge 61, 3) := by decide +kernel
theorem dX8_firstThatMayNotBe_13 : decode cX8_firstThatMayNotBe 13 = .ok (.aload_n 0, 1) := by decide +kernel
theorem dX8_firstThatMayNotBe_14 : decode cX8_firstThatMayNotBe 14 = .ok (.getfield 30, 3) := by decide +kernel
theorem dX8_firstThatMayNotBe_17 : decode cX8_firstThatMayNotBe 17 = .ok (.iload_n 1, 1) := by decide +kernel
theorem dX8_firstThatMayNotBe_18 : decode cX8_firstThatMayNotBe 18 = .ok (.invokevirtual 95, 3) := by decide +kernel
theorem dX8_firstThatMayNotBe_21 : decode cX8_firstThatMayNotBe 21 = .ok (.istore_n 2, 1) := by decide +kernel
theorem dX8_firstThatMayNotBe_22 : decode cX8_firstThatMayNotBe 22 = .ok (.aload_n 0, 1) := by decide +kernel
theorem dX8_firstThatMayNotBe_23 : decode cX8_firstThatMayNotBe 23 = .ok (.getfield 30, 3) := by decide +kernel
theorem dX8_firstThatMayNotBe_26 : decode cX8_firstThatMayNotBe 26 = .ok (.iload_n 2, 1) := by decide +kernel
theorem dX8_firstThatMayNotBe_27 : decode cX8_firstThatMayNotBe 27 = .ok (.invokevirtual 104, 3) := by decide +kernel
theorem dX8_firstThatMayNotBe_30 : decode cX8_firstThatMayNotBe 30 = .ok (.ifCond .eq 35, 3) := by decide +kernel
theorem dX8_firstThatMayNotBe_33 : decode cX8_firstThatMayNotBe 33 = .ok (.aload_n 0, 1) := by decide +kernel
theorem dX8_firstThatMayNotBe_34 : decode cX8_firstThatMayNotBe 34 = .ok (.getfield 27, 3) := by decide +kernel
theorem dX8_firstThatMayNotBe_37 : decode cX8_firstThatMayNotBe 37 = .ok (.iload_n 2, 1) := by decide +kernel
theorem dX8_firstThatMayNotBe_38 : decode cX8_firstThatMayNotBe 38 = .ok (.iaload, 1) := by decide +kernel
theorem dX8_firstThatMayNotBe_39 : decode cX8_firstThatMayNotBe 39 = .ok (.iconst (-1), 1) := by decide +kernel
theorem dX8_firstThatMayNotBe_40 : decode cX8_firstThatMayNotBe 40 = .ok (.if_icmp .ne 6, 3) := by decide +kernel
theorem dX8_firstThatMayNotBe_43 : decode cX8_firstThatMayNotBe 43 = .ok (.goto 22, 3) := by decide +kernel
theorem dX8_firstThatMayNotBe_46 : decode cX8_firstThatMayNotBe 46 = .ok (.aload_n 0, 1) := by decide +kernel
theorem dX8_firstThatMayNotBe_47 : decode cX8_firstThatMayNotBe 47 = .ok (.getfield 30, 3) := by decide +kernel
theorem dX8_firstThatMayNotBe_50 : decode cX8_firstThatMayNotBe 50 = .ok (.aload_n 0, 1) := by decide +kernel
theorem dX8_firstThatMayNotBe_51 : decode cX8_firstThatMayNotBe 51 = .ok (.getfield 27, 3) := by decide +kernel
theorem dX8_firstThatMayNotBe_54 : decode cX8_firstThatMayNotBe 54 = .ok (.iload_n 2, 1) := by decide +kernel
theorem dX8_firstThatMayNotBe_55 : decode cX8_firstThatMayNotBe 55 = .ok (.iaload, 1) := by decide +kernel
theorem dX8_firstThatMayNotBe_56 : decode cX8_firstThatMayNotBe 56 = .ok (.iload_n 2, 1) := by decide +kernel
theorem dX8_firstThatMayNotBe_57 : decode cX8_firstThatMayNotBe 57 = .ok (.invokevirtual 119, 3) := by decide +kernel
theorem dX8_firstThatMayNotBe_60 : decode cX8_firstThatMayNotBe 60 = .ok (.ifCond .ne 5, 3) := by decide +kernel
theorem dX8_firstThatMayNotBe_63 : decode cX8_firstThatMayNotBe 63 = .ok (.iload_n 2, 1) := by decide +kernel
theorem dX8_firstThatMayNotBe_64 : decode cX8_firstThatMayNotBe 64 = .ok (.ireturn, 1) := by decide +kernel
theorem dX8_firstThatMayNotBe_65 : decode cX8_firstThatMayNotBe 65 = .ok (.iinc 1 1, 3) := by decide +kernel
theorem dX8_firstThatMayNotBe_68 : decode cX8_firstThatMayNotBe 68 = .ok (.goto (-66), 3) := by decide +kernel
theorem dX8_firstThatMayNotBe_71 : decode cX8_firstThatMayNotBe 71 = .ok (.iconst (-1), 1) := by decide +kernel
theorem dX8_firstThatMayNotBe_72 : decode cX8_firstThatMayNotBe 72 = .ok (.ireturn, 1) := by decide +kernel
theorem dX8_holdAsPlanned_0 : decode cX8_holdAsPlanned 0 = .ok (.iconst 0, 1) := by decide +kernel
theorem dX8_holdAsPlanned_1 : decode cX8_holdAsPlanned 1 = .ok (.istore_n 1, 1) := by decide +kernel
theorem dX8_holdAsPlanned_2 : decode cX8_holdAsPlanned 2 = .ok (.iload_n 1, 1) := by decide +kernel
theorem dX8_holdAsPlanned_3 : decode cX8_holdAsPlanned 3 = .ok (.aload_n 0, 1) := by decide +kernel
theorem dX8_holdAsPlanned_4 : decode cX8_holdAsPlanned 4 = .ok (.getfield 30, 3) := by decide +kernel
theorem dX8_holdAsPlanned_7 : decode cX8_holdAsPlanned 7 = .ok (.getfield 89, 3) := by decide +kernel
theorem dX8_holdAsPlanned_10 : decode cX8_holdAsPlanned 10 = .ok (.if_icmp .ge 29, 3) := by decide +kernel
theorem dX8_holdAsPlanned_13 : decode cX8_holdAsPlanned 13 = .ok (.iload_n 1, 1) := by decide +kernel
theorem dX8_holdAsPlanned_14 : decode cX8_holdAsPlanned 14 = .ok (.bipush 24, 2) := by decide +kernel
theorem dX8_holdAsPlanned_16 : decode cX8_holdAsPlanned 16 = .ok (.if_icmp .ge 23, 3) := by decide +kernel
theorem dX8_holdAsPlanned_19 : decode cX8_holdAsPlanned 19 = .ok (.aload_n 0, 1) := by decide +kernel
theorem dX8_holdAsPlanned_20 : decode cX8_holdAsPlanned 20 = .ok (.getfield 30, 3) := by decide +kernel
theorem dX8_holdAsPlanned_23 : decode cX8_holdAsPlanned 23 = .ok (.iload_n 1, 1) := by decide +kernel
theorem dX8_holdAsPlanned_24 : decode cX8_holdAsPlanned 24 = .ok (.aload_n 0, 1) := by decide +kernel
theorem dX8_holdAsPlanned_25 : decode cX8_holdAsPlanned 25 = .ok (.getfield 27, 3) := by decide +kernel
theorem dX8_holdAsPlanned_28 : decode cX8_holdAsPlanned 28 = .ok (.iload_n 1, 1) := by decide +kernel
theorem dX8_holdAsPlanned_29 : decode cX8_holdAsPlanned 29 = .ok (.iaload, 1) := by decide +kernel
theorem dX8_holdAsPlanned_30 : decode cX8_holdAsPlanned 30 = .ok (.invokevirtual 123, 3) := by decide +kernel
theorem dX8_holdAsPlanned_33 : decode cX8_holdAsPlanned 33 = .ok (.iinc 1 1, 3) := by decide +kernel
theorem dX8_holdAsPlanned_36 : decode cX8_holdAsPlanned 36 = .ok (.goto (-34), 3) := by decide +kernel
theorem dX8_holdAsPlanned_39 : decode cX8_holdAsPlanned 39 = .ok (.return_, 1) := by decide +kernel
theorem dX9_init_0 : decode cX9_init 0 = .ok (.aload_n 0, 1) := by decide +kernel
theorem dX9_init_1 : decode cX9_init 1 = .ok (.invokespecial 1, 3) := by decide +kernel
theorem dX9_init_4 : decode cX9_init 4 = .ok (.new 7, 3) := by decide +kernel
theorem dX9_init_7 : decode cX9_init 7 = .ok (.dup, 1) := by decide +kernel
theorem dX9_init_8 : decode cX9_init 8 = .ok (.invokespecial 9, 3) := by decide +kernel
theorem dX9_init_11 : decode cX9_init 11 = .ok (.astore_n 1, 1) := by decide +kernel
theorem dX9_init_12 : decode cX9_init 12 = .ok (.new 10, 3) := by decide +kernel
theorem dX9_init_15 : decode cX9_init 15 = .ok (.dup, 1) := by decide +kernel
theorem dX9_init_16 : decode cX9_init 16 = .ok (.invokespecial 12, 3) := by decide +kernel
theorem dX9_init_19 : decode cX9_init 19 = .ok (.astore_n 2, 1) := by decide +kernel
theorem dX9_init_20 : decode cX9_init 20 = .ok (.aload_n 0, 1) := by decide +kernel
theorem dX9_init_21 : decode cX9_init 21 = .ok (.aload_n 1, 1) := by decide +kernel
theorem dX9_init_22 : decode cX9_init 22 = .ok (.putfield 13, 3) := by decide +kernel
theorem dX9_init_25 : decode cX9_init 25 = .ok (.aload_n 0, 1) := by decide +kernel
theorem dX9_init_26 : decode cX9_init 26 = .ok (.new 7, 3) := by decide +kernel
theorem dX9_init_29 : decode cX9_init 29 = .ok (.dup, 1) := by decide +kernel
theorem dX9_init_30 : decode cX9_init 30 = .ok (.invokespecial 9, 3) := by decide +kernel
theorem dX9_init_33 : decode cX9_init 33 = .ok (.putfield 19, 3) := by decide +kernel
theorem dX9_init_36 : decode cX9_init 36 = .ok (.aload_n 0, 1) := by decide +kernel
theorem dX9_init_37 : decode cX9_init 37 = .ok (.iconst 0, 1) := by decide +kernel
theorem dX9_init_38 : decode cX9_init 38 = .ok (.putfield 22, 3) := by decide +kernel
theorem dX9_init_41 : decode cX9_init 41 = .ok (.aload_n 0, 1) := by decide +kernel
theorem dX9_init_42 : decode cX9_init 42 = .ok (.new 26, 3) := by decide +kernel
theorem dX9_init_45 : decode cX9_init 45 = .ok (.dup, 1) := by decide +kernel
theorem dX9_init_46 : decode cX9_init 46 = .ok (.aload_n 1, 1) := by decide +kernel
theorem dX9_init_47 : decode cX9_init 47 = .ok (.invokespecial 28, 3) := by decide +kernel
theorem dX9_init_50 : decode cX9_init 50 = .ok (.putfield 31, 3) := by decide +kernel
theorem dX9_init_53 : decode cX9_init 53 = .ok (.aload_n 0, 1) := by decide +kernel
theorem dX9_init_54 : decode cX9_init 54 = .ok (.new 35, 3) := by decide +kernel
theorem dX9_init_57 : decode cX9_init 57 = .ok (.dup, 1) := by decide +kernel
theorem dX9_init_58 : decode cX9_init 58 = .ok (.aload_n 1, 1) := by decide +kernel
theorem dX9_init_59 : decode cX9_init 59 = .ok (.invokespecial 37, 3) := by decide +kernel
theorem dX9_init_62 : decode cX9_init 62 = .ok (.putfield 38, 3) := by decide +kernel
theorem dX9_init_65 : decode cX9_init 65 = .ok (.aload_n 0, 1) := by decide +kernel
theorem dX9_init_66 : decode cX9_init 66 = .ok (.new 42, 3) := by decide +kernel
theorem dX9_init_69 : decode cX9_init 69 = .ok (.dup, 1) := by decide +kernel
theorem dX9_init_70 : decode cX9_init 70 = .ok (.aload_n 1, 1) := by decide +kernel
theorem dX9_init_71 : decode cX9_init 71 = .ok (.invokespecial 44, 3) := by decide +kernel
theorem dX9_init_74 : decode cX9_init 74 = .ok (.putfield 45, 3) := by decide +kernel
theorem dX9_init_77 : decode cX9_init 77 = .ok (.aload_n 0, 1) := by decide +kernel
theorem dX9_init_78 : decode cX9_init 78 = .ok (.aload_n 2, 1) := by decide +kernel
theorem dX9_init_79 : decode cX9_init 79 = .ok (.putfield 49, 3) := by decide +kernel
theorem dX9_init_82 : decode cX9_init 82 = .ok (.aload_n 0, 1) := by decide +kernel
theorem dX9_init_83 : decode cX9_init 83 = .ok (.new 53, 3) := by decide +kernel
theorem dX9_init_86 : decode cX9_init 86 = .ok (.dup, 1) := by decide +kernel
theorem dX9_init_87 : decode cX9_init 87 = .ok (.aload_n 1, 1) := by decide +kernel
theorem dX9_init_88 : decode cX9_init 88 = .ok (.aload_n 2, 1) := by decide +kernel
theorem dX9_init_89 : decode cX9_init 89 = .ok (.invokespecial 55, 3) := by decide +kernel
theorem dX9_init_92 : decode cX9_init 92 = .ok (.putfield 58, 3) := by decide +kernel
theorem dX9_init_95 : decode cX9_init 95 = .ok (.aload_n 0, 1) := by decide +kernel
theorem dX9_init_96 : decode cX9_init 96 = .ok (.new 62, 3) := by decide +kernel
theorem dX9_init_99 : decode cX9_init 99 = .ok (.dup, 1) := by decide +kernel
theorem dX9_init_100 : decode cX9_init 100 = .ok (.aload_n 1, 1) := by decide +kernel
theorem dX9_init_101 : decode cX9_init 101 = .ok (.aload_n 2, 1) := by decide +kernel
theorem dX9_init_102 : decode cX9_init 102 = .ok (.invokespecial 64, 3) := by decide +kernel
theorem dX9_init_105 : decode cX9_init 105 = .ok (.putfield 65, 3) := by decide +kernel
theorem dX9_init_108 : decode cX9_init 108 = .ok (.aload_n 0, 1) := by decide +kernel
theorem dX9_init_109 : decode cX9_init 109 = .ok (.new 69, 3) := by decide +kernel
theorem dX9_init_112 : decode cX9_init 112 = .ok (.dup, 1) := by decide +kernel
theorem dX9_init_113 : decode cX9_init 113 = .ok (.invokespecial 71, 3) := by decide +kernel
theorem dX9_init_116 : decode cX9_init 116 = .ok (.putfield 72, 3) := by decide +kernel
theorem dX9_init_119 : decode cX9_init 119 = .ok (.aload_n 0, 1) := by decide +kernel
theorem dX9_init_120 : decode cX9_init 120 = .ok (.new 76, 3) := by decide +kernel
theorem dX9_init_123 : decode cX9_init 123 = .ok (.dup, 1) := by decide +kernel
theorem dX9_init_124 : decode cX9_init 124 = .ok (.invokespecial 78, 3) := by decide +kernel
theorem dX9_init_127 : decode cX9_init 127 = .ok (.putfield 79, 3) := by decide +kernel
theorem dX9_init_130 : decode cX9_init 130 = .ok (.return_, 1) := by decide +kernel
theorem dX9_comes_0 : decode cX9_comes 0 = .ok (.iload_n 1, 1) := by decide +kernel
theorem dX9_comes_1 : decode cX9_comes 1 = .ok (.ifCond .lt 8, 3) := by decide +kernel
theorem dX9_comes_4 : decode cX9_comes 4 = .ok (.iload_n 1, 1) := by decide +kernel
theorem dX9_comes_5 : decode cX9_comes 5 = .ok (.iconst 4, 1) := by decide +kernel
theorem dX9_comes_6 : decode cX9_comes 6 = .ok (.if_icmp .lt 5, 3) := by decide +kernel
theorem dX9_comes_9 : decode cX9_comes 9 = .ok (.iconst (-1), 1) := by decide +kernel
theorem dX9_comes_10 : decode cX9_comes 10 = .ok (.ireturn, 1) := by decide +kernel
theorem dX9_comes_11 : decode cX9_comes 11 = .ok (.aload_n 0, 1) := by decide +kernel
theorem dX9_comes_12 : decode cX9_comes 12 = .ok (.getfield 13, 3) := by decide +kernel
theorem dX9_comes_15 : decode cX9_comes 15 = .ok (.getfield 83, 3) := by decide +kernel
theorem dX9_comes_18 : decode cX9_comes 18 = .ok (.bipush 8, 2) := by decide +kernel
theorem dX9_comes_20 : decode cX9_comes 20 = .ok (.if_icmp .lt 6, 3) := by decide +kernel
theorem dX9_comes_23 : decode cX9_comes 23 = .ok (.bipush (-4), 2) := by decide +kernel
theorem dX9_comes_25 : decode cX9_comes 25 = .ok (.ireturn, 1) := by decide +kernel
theorem dX9_comes_26 : decode cX9_comes 26 = .ok (.aload_n 0, 1) := by decide +kernel
theorem dX9_comes_27 : decode cX9_comes 27 = .ok (.getfield 13, 3) := by decide +kernel
theorem dX9_comes_30 : decode cX9_comes 30 = .ok (.iload_n 1, 1) := by decide +kernel
theorem dX9_comes_31 : decode cX9_comes 31 = .ok (.invokevirtual 87, 3) := by decide +kernel
theorem dX9_comes_34 : decode cX9_comes 34 = .ok (.ireturn, 1) := by decide +kernel
theorem dX9_goes_0 : decode cX9_goes 0 = .ok (.aload_n 0, 1) := by decide +kernel
theorem dX9_goes_1 : decode cX9_goes 1 = .ok (.getfield 13, 3) := by decide +kernel
theorem dX9_goes_4 : decode cX9_goes 4 = .ok (.iload_n 1, 1) := by decide +kernel
theorem dX9_goes_5 : decode cX9_goes 5 = .ok (.invokevirtual 91, 3) := by decide +kernel
theorem dX9_goes_8 : decode cX9_goes 8 = .ok (.ifCond .ne 5, 3) := by decide +kernel
theorem dX9_goes_11 : decode cX9_goes 11 = .ok (.iconst (-1), 1) := by decide +kernel
theorem dX9_goes_12 : decode cX9_goes 12 = .ok (.ireturn, 1) := by decide +kernel
theorem dX9_goes_13 : decode cX9_goes 13 = .ok (.aload_n 0, 1) := by decide +kernel
theorem dX9_goes_14 : decode cX9_goes 14 = .ok (.getfield 13, 3) := by decide +kernel
theorem dX9_goes_17 : decode cX9_goes 17 = .ok (.iload_n 1, 1) := by decide +kernel
theorem dX9_goes_18 : decode cX9_goes 18 = .ok (.invokevirtual 95, 3) := by decide +kernel
theorem dX9_goes_21 : decode cX9_goes 21 = .ok (.ifCond .ne 6, 3) := by decide +kernel
theorem dX9_goes_24 : decode cX9_goes 24 = .ok (.bipush (-3), 2) := by decide +kernel
theorem dX9_goes_26 : decode cX9_goes 26 = .ok (.ireturn, 1) := by decide +kernel
theorem dX9_goes_27 : decode cX9_goes 27 = .ok (.aload_n 0, 1) := by decide +kernel
theorem dX9_goes_28 : decode cX9_goes 28 = .ok (.getfield 13, 3) := by decide +kernel
theorem dX9_goes_31 : decode cX9_goes 31 = .ok (.iload_n 1, 1) := by decide +kernel
theorem dX9_goes_32 : decode cX9_goes 32 = .ok (.invokevirtual 98, 3) := by decide +kernel
theorem dX9_goes_35 : decode cX9_goes 35 = .ok (.aload_n 0, 1) := by decide +kernel
theorem dX9_goes_36 : decode cX9_goes 36 = .ok (.getfield 13, 3) := by decide +kernel
theorem dX9_goes_39 : decode cX9_goes 39 = .ok (.invokevirtual 102, 3) := by decide +kernel
theorem dX9_goes_42 : decode cX9_goes 42 = .ok (.ireturn, 1) := by decide +kernel
theorem dX9_past_0 : decode cX9_past 0 = .ok (.aload_n 0, 1) := by decide +kernel
theorem dX9_past_1 : decode cX9_past 1 = .ok (.getfield 13, 3) := by decide +kernel
theorem dX9_past_4 : decode cX9_past 4 = .ok (.iload_n 1, 1) := by decide +kernel
theorem dX9_past_5 : decode cX9_past 5 = .ok (.invokevirtual 91, 3) := by decide +kernel
theorem dX9_past_8 : decode cX9_past 8 = .ok (.ifCond .eq 10, 3) := by decide +kernel
theorem dX9_past_11 : decode cX9_past 11 = .ok (.iload_n 2, 1) := by decide +kernel
theorem dX9_past_12 : decode cX9_past 12 = .ok (.invokestatic 106, 3) := by decide +kernel
theorem dX9_past_15 : decode cX9_past 15 = .ok (.ifCond .ne 5, 3) := by decide +kernel
theorem dX9_past_18 : decode cX9_past 18 = .ok (.iconst (-1), 1) := by decide +kernel
theorem dX9_past_19 : decode cX9_past 19 = .ok (.ireturn, 1) := by decide +kernel
theorem dX9_past_20 : decode cX9_past 20 = .ok (.iload_n 3, 1) := by decide +kernel
theorem dX9_past_21 : decode cX9_past 21 = .ok (.ifCond .lt 10, 3) := by decide +kernel
theorem dX9_past_24 : decode cX9_past 24 = .ok (.iload_n 3, 1) := by decide +kernel
theorem dX9_past_25 : decode cX9_past 25 = .ok (.sipush 999, 3) := by decide +kernel
theorem dX9_past_28 : decode cX9_past 28 = .ok (.if_icmp .le 6, 3) := by decide +kernel
theorem dX9_past_31 : decode cX9_past 31 = .ok (.bipush (-2), 2) := by decide +kernel
theorem dX9_past_33 : decode cX9_past 33 = .ok (.ireturn, 1) := by decide +kernel
theorem dX9_past_34 : decode cX9_past 34 = .ok (.aload_n 0, 1) := by decide +kernel
theorem dX9_past_35 : decode cX9_past 35 = .ok (.getfield 13, 3) := by decide +kernel
theorem dX9_past_38 : decode cX9_past 38 = .ok (.iload_n 1, 1) := by decide +kernel
theorem dX9_past_39 : decode cX9_past 39 = .ok (.iload_n 2, 1) := by decide +kernel
theorem dX9_past_40 : decode cX9_past 40 = .ok (.invokevirtual 109, 3) := by decide +kernel
theorem dX9_past_43 : decode cX9_past 43 = .ok (.istore 4, 2) := by decide +kernel
theorem dX9_past_45 : decode cX9_past 45 = .ok (.aload_n 0, 1) := by decide +kernel
theorem dX9_past_46 : decode cX9_past 46 = .ok (.getfield 13, 3) := by decide +kernel
theorem dX9_past_49 : decode cX9_past 49 = .ok (.iload_n 1, 1) := by decide +kernel
theorem dX9_past_50 : decode cX9_past 50 = .ok (.iload_n 2, 1) := by decide +kernel
theorem dX9_past_51 : decode cX9_past 51 = .ok (.iload_n 3, 1) := by decide +kernel
theorem dX9_past_52 : decode cX9_past 52 = .ok (.invokevirtual 113, 3) := by decide +kernel
theorem dX9_past_55 : decode cX9_past 55 = .ok (.iload 4, 2) := by decide +kernel
theorem dX9_past_57 : decode cX9_past 57 = .ok (.ireturn, 1) := by decide +kernel
theorem dX9_of_0 : decode cX9_of 0 = .ok (.aload_n 0, 1) := by decide +kernel
theorem dX9_of_1 : decode cX9_of 1 = .ok (.getfield 13, 3) := by decide +kernel
theorem dX9_of_4 : decode cX9_of 4 = .ok (.iload_n 1, 1) := by decide +kernel
theorem dX9_of_5 : decode cX9_of 5 = .ok (.invokevirtual 91, 3) := by decide +kernel
theorem dX9_of_8 : decode cX9_of 8 = .ok (.ifCond .ne 5, 3) := by decide +kernel
theorem dX9_of_11 : decode cX9_of 11 = .ok (.iconst (-1), 1) := by decide +kernel
theorem dX9_of_12 : decode cX9_of 12 = .ok (.ireturn, 1) := by decide +kernel
theorem dX9_of_13 : decode cX9_of 13 = .ok (.bipush 10, 2) := by decide +kernel
theorem dX9_of_15 : decode cX9_of 15 = .ok (.iload_n 2, 1) := by decide +kernel
theorem dX9_of_16 : decode cX9_of 16 = .ok (.invokestatic 117, 3) := by decide +kernel
theorem dX9_of_19 : decode cX9_of 19 = .ok (.ifCond .eq 16, 3) := by decide +kernel
theorem dX9_of_22 : decode cX9_of 22 = .ok (.aload_n 0, 1) := by decide +kernel
theorem dX9_of_23 : decode cX9_of 23 = .ok (.getfield 13, 3) := by decide +kernel
theorem dX9_of_26 : decode cX9_of 26 = .ok (.iload_n 1, 1) := by decide +kernel
theorem dX9_of_27 : decode cX9_of 27 = .ok (.iload_n 2, 1) := by decide +kernel
theorem dX9_of_28 : decode cX9_of 28 = .ok (.bipush 10, 2) := by decide +kernel
theorem dX9_of_30 : decode cX9_of 30 = .ok (.isub, 1) := by decide +kernel
theorem dX9_of_31 : decode cX9_of 31 = .ok (.invokevirtual 109, 3) := by decide +kernel
theorem dX9_of_34 : decode cX9_of 34 = .ok (.ireturn, 1) := by decide +kernel
theorem dX9_of_35 : decode cX9_of 35 = .ok (.bipush 20, 2) := by decide +kernel
theorem dX9_of_37 : decode cX9_of 37 = .ok (.iload_n 2, 1) := by decide +kernel
theorem dX9_of_38 : decode cX9_of 38 = .ok (.invokestatic 117, 3) := by decide +kernel
theorem dX9_of_41 : decode cX9_of 41 = .ok (.ifCond .eq 16, 3) := by decide +kernel
theorem dX9_of_44 : decode cX9_of 44 = .ok (.aload_n 0, 1) := by decide +kernel
theorem dX9_of_45 : decode cX9_of 45 = .ok (.getfield 13, 3) := by decide +kernel
theorem dX9_of_48 : decode cX9_of 48 = .ok (.iload_n 1, 1) := by decide +kernel
theorem dX9_of_49 : decode cX9_of 49 = .ok (.iload_n 2, 1) := by decide +kernel
theorem dX9_of_50 : decode cX9_of 50 = .ok (.bipush 20, 2) := by decide +kernel
theorem dX9_of_52 : decode cX9_of 52 = .ok (.isub, 1) := by decide +kernel
theorem dX9_of_53 : decode cX9_of 53 = .ok (.invokevirtual 121, 3) := by decide +kernel
theorem dX9_of_56 : decode cX9_of 56 = .ok (.ireturn, 1) := by decide +kernel
theorem dX9_of_57 : decode cX9_of 57 = .ok (.bipush 30, 2) := by decide +kernel
theorem dX9_of_59 : decode cX9_of 59 = .ok (.iload_n 2, 1) := by decide +kernel
theorem dX9_of_60 : decode cX9_of 60 = .ok (.invokestatic 117, 3) := by decide +kernel
theorem dX9_of_63 : decode cX9_of 63 = .ok (.ifCond .eq 16, 3) := by decide +kernel
theorem dX9_of_66 : decode cX9_of 66 = .ok (.aload_n 0, 1) := by decide +kernel
theorem dX9_of_67 : decode cX9_of 67 = .ok (.getfield 13, 3) := by decide +kernel
theorem dX9_of_70 : decode cX9_of 70 = .ok (.iload_n 1, 1) := by decide +kernel
theorem dX9_of_71 : decode cX9_of 71 = .ok (.iload_n 2, 1) := by decide +kernel
theorem dX9_of_72 : decode cX9_of 72 = .ok (.bipush 30, 2) := by decide +kernel
theorem dX9_of_74 : decode cX9_of 74 = .ok (.isub, 1) := by decide +kernel
theorem dX9_of_75 : decode cX9_of 75 = .ok (.invokevirtual 124, 3) := by decide +kernel
theorem dX9_of_78 : decode cX9_of 78 = .ok (.ireturn, 1) := by decide +kernel
theorem dX9_of_79 : decode cX9_of 79 = .ok (.iload_n 2, 1) := by decide +kernel
theorem dX9_of_80 : decode cX9_of 80 = .ok (.tableswitch 89 0 4 #[36, 45, 62, 71, 80], 36) := by decide +kernel
theorem dX9_of_116 : decode cX9_of 116 = .ok (.aload_n 0, 1) := by decide +kernel
theorem dX9_of_117 : decode cX9_of 117 = .ok (.getfield 13, 3) := by decide +kernel
theorem dX9_of_120 : decode cX9_of 120 = .ok (.iload_n 1, 1) := by decide +kernel
theorem dX9_of_121 : decode cX9_of 121 = .ok (.invokevirtual 127, 3) := by decide +kernel
theorem dX9_of_124 : decode cX9_of 124 = .ok (.ireturn, 1) := by decide +kernel
theorem dX9_of_125 : decode cX9_of 125 = .ok (.aload_n 0, 1) := by decide +kernel
theorem dX9_of_126 : decode cX9_of 126 = .ok (.getfield 13, 3) := by decide +kernel
theorem dX9_of_129 : decode cX9_of 129 = .ok (.iload_n 1, 1) := by decide +kernel
theorem dX9_of_130 : decode cX9_of 130 = .ok (.invokevirtual 95, 3) := by decide +kernel
theorem dX9_of_133 : decode cX9_of 133 = .ok (.ifCond .eq 7, 3) := by decide +kernel
theorem dX9_of_136 : decode cX9_of 136 = .ok (.iconst 1, 1) := by decide +kernel
theorem dX9_of_137 : decode cX9_of 137 = .ok (.goto 4, 3) := by decide +kernel
theorem dX9_of_140 : decode cX9_of 140 = .ok (.iconst 0, 1) := by decide +kernel
theorem dX9_of_141 : decode cX9_of 141 = .ok (.ireturn, 1) := by decide +kernel
theorem dX9_of_142 : decode cX9_of 142 = .ok (.aload_n 0, 1) := by decide +kernel
theorem dX9_of_143 : decode cX9_of 143 = .ok (.getfield 13, 3) := by decide +kernel
theorem dX9_of_146 : decode cX9_of 146 = .ok (.iload_n 1, 1) := by decide +kernel
theorem dX9_of_147 : decode cX9_of 147 = .ok (.invokevirtual 130, 3) := by decide +kernel
theorem dX9_of_150 : decode cX9_of 150 = .ok (.ireturn, 1) := by decide +kernel
theorem dX9_of_151 : decode cX9_of 151 = .ok (.aload_n 0, 1) := by decide +kernel
theorem dX9_of_152 : decode cX9_of 152 = .ok (.getfield 13, 3) := by decide +kernel
theorem dX9_of_155 : decode cX9_of 155 = .ok (.iload_n 1, 1) := by decide +kernel
theorem dX9_of_156 : decode cX9_of 156 = .ok (.invokevirtual 133, 3) := by decide +kernel
theorem dX9_of_159 : decode cX9_of 159 = .ok (.ireturn, 1) := by decide +kernel
theorem dX9_of_160 : decode cX9_of 160 = .ok (.aload_n 0, 1) := by decide +kernel
theorem dX9_of_161 : decode cX9_of 161 = .ok (.getfield 13, 3) := by decide +kernel
theorem dX9_of_164 : decode cX9_of 164 = .ok (.iload_n 1, 1) := by decide +kernel
theorem dX9_of_165 : decode cX9_of 165 = .ok (.invokevirtual 136, 3) := by decide +kernel
theorem dX9_of_168 : decode cX9_of 168 = .ok (.ireturn, 1) := by decide +kernel
theorem dX9_of_169 : decode cX9_of 169 = .ok (.iconst (-1), 1) := by decide +kernel
theorem dX9_of_170 : decode cX9_of 170 = .ok (.ireturn, 1) := by decide +kernel
theorem dX9_neutral_0 : decode cX9_neutral 0 = .ok (.iload_n 1, 1) := by decide +kernel
theorem dX9_neutral_1 : decode cX9_neutral 1 = .ok (.invokestatic 106, 3) := by decide +kernel
theorem dX9_neutral_4 : decode cX9_neutral 4 = .ok (.ifCond .eq 14, 3) := by decide +kernel
theorem dX9_neutral_7 : decode cX9_neutral 7 = .ok (.aload_n 0, 1) := by decide +kernel
theorem dX9_neutral_8 : decode cX9_neutral 8 = .ok (.getfield 13, 3) := by decide +kernel
theorem dX9_neutral_11 : decode cX9_neutral 11 = .ok (.iload_n 1, 1) := by decide +kernel
theorem dX9_neutral_12 : decode cX9_neutral 12 = .ok (.invokevirtual 139, 3) := by decide +kernel
theorem dX9_neutral_15 : decode cX9_neutral 15 = .ok (.goto 4, 3) := by decide +kernel
theorem dX9_neutral_18 : decode cX9_neutral 18 = .ok (.iconst (-1), 1) := by decide +kernel
theorem dX9_neutral_19 : decode cX9_neutral 19 = .ok (.ireturn, 1) := by decide +kernel
theorem dX9_rules_0 : decode cX9_rules 0 = .ok (.aload_n 0, 1) := by decide +kernel
theorem dX9_rules_1 : decode cX9_rules 1 = .ok (.getfield 13, 3) := by decide +kernel
theorem dX9_rules_4 : decode cX9_rules 4 = .ok (.iload_n 1, 1) := by decide +kernel
theorem dX9_rules_5 : decode cX9_rules 5 = .ok (.invokevirtual 91, 3) := by decide +kernel
theorem dX9_rules_8 : decode cX9_rules 8 = .ok (.ifCond .ne 5, 3) := by decide +kernel
theorem dX9_rules_11 : decode cX9_rules 11 = .ok (.iconst (-1), 1) := by decide +kernel
theorem dX9_rules_12 : decode cX9_rules 12 = .ok (.ireturn, 1) := by decide +kernel
theorem dX9_rules_13 : decode cX9_rules 13 = .ok (.aload_n 0, 1) := by decide +kernel
theorem dX9_rules_14 : decode cX9_rules 14 = .ok (.getfield 13, 3) := by decide +kernel
theorem dX9_rules_17 : decode cX9_rules 17 = .ok (.iload_n 1, 1) := by decide +kernel
theorem dX9_rules_18 : decode cX9_rules 18 = .ok (.invokevirtual 95, 3) := by decide +kernel
theorem dX9_rules_21 : decode cX9_rules 21 = .ok (.ifCond .ne 6, 3) := by decide +kernel
theorem dX9_rules_24 : decode cX9_rules 24 = .ok (.bipush (-3), 2) := by decide +kernel
theorem dX9_rules_26 : decode cX9_rules 26 = .ok (.ireturn, 1) := by decide +kernel
theorem dX9_rules_27 : decode cX9_rules 27 = .ok (.aload_n 0, 1) := by decide +kernel
theorem dX9_rules_28 : decode cX9_rules 28 = .ok (.getfield 58, 3) := by decide +kernel
theorem dX9_rules_31 : decode cX9_rules 31 = .ok (.iload_n 1, 1) := by decide +kernel
theorem dX9_rules_32 : decode cX9_rules 32 = .ok (.invokevirtual 142, 3) := by decide +kernel
theorem dX9_rules_35 : decode cX9_rules 35 = .ok (.aload_n 0, 1) := by decide +kernel
theorem dX9_rules_36 : decode cX9_rules 36 = .ok (.getfield 49, 3) := by decide +kernel
theorem dX9_rules_39 : decode cX9_rules 39 = .ok (.invokevirtual 145, 3) := by decide +kernel
theorem dX9_rules_42 : decode cX9_rules 42 = .ok (.ifCond .eq 8, 3) := by decide +kernel
theorem dX9_rules_45 : decode cX9_rules 45 = .ok (.aload_n 0, 1) := by decide +kernel
theorem dX9_rules_46 : decode cX9_rules 46 = .ok (.invokevirtual 149, 3) := by decide +kernel
theorem dX9_rules_49 : decode cX9_rules 49 = .ok (.ireturn, 1) := by decide +kernel
theorem dX9_rules_50 : decode cX9_rules 50 = .ok (.aload_n 0, 1) := by decide +kernel
theorem dX9_rules_51 : decode cX9_rules 51 = .ok (.getfield 58, 3) := by decide +kernel
theorem dX9_rules_54 : decode cX9_rules 54 = .ok (.iload_n 1, 1) := by decide +kernel
theorem dX9_rules_55 : decode cX9_rules 55 = .ok (.invokevirtual 152, 3) := by decide +kernel
theorem dX9_rules_58 : decode cX9_rules 58 = .ok (.istore_n 2, 1) := by decide +kernel
theorem dX9_rules_59 : decode cX9_rules 59 = .ok (.aload_n 0, 1) := by decide +kernel
theorem dX9_rules_60 : decode cX9_rules 60 = .ok (.getfield 13, 3) := by decide +kernel
theorem dX9_rules_63 : decode cX9_rules 63 = .ok (.iload_n 1, 1) := by decide +kernel
theorem dX9_rules_64 : decode cX9_rules 64 = .ok (.invokevirtual 155, 3) := by decide +kernel
theorem dX9_rules_67 : decode cX9_rules 67 = .ok (.aload_n 0, 1) := by decide +kernel
theorem dX9_rules_68 : decode cX9_rules 68 = .ok (.getfield 49, 3) := by decide +kernel
theorem dX9_rules_71 : decode cX9_rules 71 = .ok (.invokevirtual 158, 3) := by decide +kernel
theorem dX9_rules_74 : decode cX9_rules 74 = .ok (.pop, 1) := by decide +kernel
theorem dX9_rules_75 : decode cX9_rules 75 = .ok (.iload_n 2, 1) := by decide +kernel
theorem dX9_rules_76 : decode cX9_rules 76 = .ok (.ireturn, 1) := by decide +kernel
theorem dX9_frees_0 : decode cX9_frees 0 = .ok (.aload_n 0, 1) := by decide +kernel
theorem dX9_frees_1 : decode cX9_frees 1 = .ok (.getfield 13, 3) := by decide +kernel
theorem dX9_frees_4 : decode cX9_frees 4 = .ok (.iload_n 1, 1) := by decide +kernel
theorem dX9_frees_5 : decode cX9_frees 5 = .ok (.invokevirtual 91, 3) := by decide +kernel
theorem dX9_frees_8 : decode cX9_frees 8 = .ok (.ifCond .eq 14, 3) := by decide +kernel
theorem dX9_frees_11 : decode cX9_frees 11 = .ok (.aload_n 0, 1) := by decide +kernel
theorem dX9_frees_12 : decode cX9_frees 12 = .ok (.getfield 13, 3) := by decide +kernel
theorem dX9_frees_15 : decode cX9_frees 15 = .ok (.iload_n 1, 1) := by decide +kernel
theorem dX9_frees_16 : decode cX9_frees 16 = .ok (.invokevirtual 161, 3) := by decide +kernel
theorem dX9_frees_19 : decode cX9_frees 19 = .ok (.goto 4, 3) := by decide +kernel
theorem dX9_frees_22 : decode cX9_frees 22 = .ok (.iconst (-1), 1) := by decide +kernel
theorem dX9_frees_23 : decode cX9_frees 23 = .ok (.ireturn, 1) := by decide +kernel
theorem dX9_duty_0 : decode cX9_duty 0 = .ok (.iload_n 2, 1) := by decide +kernel
theorem dX9_duty_1 : decode cX9_duty 1 = .ok (.invokestatic 106, 3) := by decide +kernel
theorem dX9_duty_4 : decode cX9_duty 4 = .ok (.ifCond .ne 5, 3) := by decide +kernel
theorem dX9_duty_7 : decode cX9_duty 7 = .ok (.iconst (-1), 1) := by decide +kernel
theorem dX9_duty_8 : decode cX9_duty 8 = .ok (.ireturn, 1) := by decide +kernel
theorem dX9_duty_9 : decode cX9_duty 9 = .ok (.iload_n 1, 1) := by decide +kernel
theorem dX9_duty_10 : decode cX9_duty 10 = .ok (.ifCond .lt 10, 3) := by decide +kernel
theorem dX9_duty_13 : decode cX9_duty 13 = .ok (.iload_n 1, 1) := by decide +kernel
theorem dX9_duty_14 : decode cX9_duty 14 = .ok (.sipush 365, 3) := by decide +kernel
theorem dX9_duty_17 : decode cX9_duty 17 = .ok (.if_icmp .le 6, 3) := by decide +kernel
theorem dX9_duty_20 : decode cX9_duty 20 = .ok (.bipush (-2), 2) := by decide +kernel
theorem dX9_duty_22 : decode cX9_duty 22 = .ok (.ireturn, 1) := by decide +kernel
theorem dX9_duty_23 : decode cX9_duty 23 = .ok (.aload_n 0, 1) := by decide +kernel
theorem dX9_duty_24 : decode cX9_duty 24 = .ok (.getfield 13, 3) := by decide +kernel
theorem dX9_duty_27 : decode cX9_duty 27 = .ok (.getfield 164, 3) := by decide +kernel
theorem dX9_duty_30 : decode cX9_duty 30 = .ok (.bipush 24, 2) := by decide +kernel
theorem dX9_duty_32 : decode cX9_duty 32 = .ok (.if_icmp .lt 6, 3) := by decide +kernel
theorem dX9_duty_35 : decode cX9_duty 35 = .ok (.bipush (-4), 2) := by decide +kernel
theorem dX9_duty_37 : decode cX9_duty 37 = .ok (.ireturn, 1) := by decide +kernel
theorem dX9_duty_38 : decode cX9_duty 38 = .ok (.aload_n 0, 1) := by decide +kernel
theorem dX9_duty_39 : decode cX9_duty 39 = .ok (.getfield 13, 3) := by decide +kernel
theorem dX9_duty_42 : decode cX9_duty 42 = .ok (.iload_n 1, 1) := by decide +kernel
theorem dX9_duty_43 : decode cX9_duty 43 = .ok (.iload_n 2, 1) := by decide +kernel
theorem dX9_duty_44 : decode cX9_duty 44 = .ok (.invokevirtual 167, 3) := by decide +kernel
theorem dX9_duty_47 : decode cX9_duty 47 = .ok (.ireturn, 1) := by decide +kernel
theorem dX9_calendar_0 : decode cX9_calendar 0 = .ok (.aload_n 0, 1) := by decide +kernel
theorem dX9_calendar_1 : decode cX9_calendar 1 = .ok (.getfield 58, 3) := by decide +kernel
theorem dX9_calendar_4 : decode cX9_calendar 4 = .ok (.invokevirtual 170, 3) := by decide +kernel
theorem dX9_calendar_7 : decode cX9_calendar 7 = .ok (.aload_n 0, 1) := by decide +kernel
theorem dX9_calendar_8 : decode cX9_calendar 8 = .ok (.getfield 49, 3) := by decide +kernel
theorem dX9_calendar_11 : decode cX9_calendar 11 = .ok (.invokevirtual 145, 3) := by decide +kernel
theorem dX9_calendar_14 : decode cX9_calendar 14 = .ok (.ifCond .eq 8, 3) := by decide +kernel
theorem dX9_calendar_17 : decode cX9_calendar 17 = .ok (.aload_n 0, 1) := by decide +kernel
theorem dX9_calendar_18 : decode cX9_calendar 18 = .ok (.invokevirtual 149, 3) := by decide +kernel
theorem dX9_calendar_21 : decode cX9_calendar 21 = .ok (.ireturn, 1) := by decide +kernel
theorem dX9_calendar_22 : decode cX9_calendar 22 = .ok (.aload_n 0, 1) := by decide +kernel
theorem dX9_calendar_23 : decode cX9_calendar 23 = .ok (.getfield 58, 3) := by decide +kernel
theorem dX9_calendar_26 : decode cX9_calendar 26 = .ok (.invokevirtual 173, 3) := by decide +kernel
theorem dX9_calendar_29 : decode cX9_calendar 29 = .ok (.istore_n 1, 1) := by decide +kernel
theorem dX9_calendar_30 : decode cX9_calendar 30 = .ok (.aload_n 0, 1) := by decide +kernel
theorem dX9_calendar_31 : decode cX9_calendar 31 = .ok (.getfield 49, 3) := by decide +kernel
theorem dX9_calendar_34 : decode cX9_calendar 34 = .ok (.invokevirtual 158, 3) := by decide +kernel
theorem dX9_calendar_37 : decode cX9_calendar 37 = .ok (.pop, 1) := by decide +kernel
theorem dX9_calendar_38 : decode cX9_calendar 38 = .ok (.iload_n 1, 1) := by decide +kernel
theorem dX9_calendar_39 : decode cX9_calendar 39 = .ok (.ireturn, 1) := by decide +kernel
theorem dX9_dutyOf_0 : decode cX9_dutyOf 0 = .ok (.aload_n 0, 1) := by decide +kernel
theorem dX9_dutyOf_1 : decode cX9_dutyOf 1 = .ok (.getfield 13, 3) := by decide +kernel
theorem dX9_dutyOf_4 : decode cX9_dutyOf 4 = .ok (.iload_n 1, 1) := by decide +kernel
theorem dX9_dutyOf_5 : decode cX9_dutyOf 5 = .ok (.invokevirtual 176, 3) := by decide +kernel
theorem dX9_dutyOf_8 : decode cX9_dutyOf 8 = .ok (.ifCond .ne 5, 3) := by decide +kernel
theorem dX9_dutyOf_11 : decode cX9_dutyOf 11 = .ok (.iconst (-1), 1) := by decide +kernel
theorem dX9_dutyOf_12 : decode cX9_dutyOf 12 = .ok (.ireturn, 1) := by decide +kernel
theorem dX9_dutyOf_13 : decode cX9_dutyOf 13 = .ok (.iload_n 2, 1) := by decide +kernel
theorem dX9_dutyOf_14 : decode cX9_dutyOf 14 = .ok (.tableswitch 82 0 4 #[34, 43, 52, 64, 73], 34) := by decide +kernel
theorem dX9_dutyOf_48 : decode cX9_dutyOf 48 = .ok (.aload_n 0, 1) := by decide +kernel
theorem dX9_dutyOf_49 : decode cX9_dutyOf 49 = .ok (.getfield 13, 3) := by decide +kernel
theorem dX9_dutyOf_52 : decode cX9_dutyOf 52 = .ok (.iload_n 1, 1) := by decide +kernel
theorem dX9_dutyOf_53 : decode cX9_dutyOf 53 = .ok (.invokevirtual 179, 3) := by decide +kernel
theorem dX9_dutyOf_56 : decode cX9_dutyOf 56 = .ok (.ireturn, 1) := by decide +kernel
theorem dX9_dutyOf_57 : decode cX9_dutyOf 57 = .ok (.aload_n 0, 1) := by decide +kernel
theorem dX9_dutyOf_58 : decode cX9_dutyOf 58 = .ok (.getfield 13, 3) := by decide +kernel
theorem dX9_dutyOf_61 : decode cX9_dutyOf 61 = .ok (.iload_n 1, 1) := by decide +kernel
theorem dX9_dutyOf_62 : decode cX9_dutyOf 62 = .ok (.invokevirtual 182, 3) := by decide +kernel
theorem dX9_dutyOf_65 : decode cX9_dutyOf 65 = .ok (.ireturn, 1) := by decide +kernel
theorem dX9_dutyOf_66 : decode cX9_dutyOf 66 = .ok (.aload_n 0, 1) := by decide +kernel
theorem dX9_dutyOf_67 : decode cX9_dutyOf 67 = .ok (.getfield 13, 3) := by decide +kernel
theorem dX9_dutyOf_70 : decode cX9_dutyOf 70 = .ok (.iload_n 1, 1) := by decide +kernel
theorem dX9_dutyOf_71 : decode cX9_dutyOf 71 = .ok (.invokevirtual 185, 3) := by decide +kernel
theorem dX9_dutyOf_74 : decode cX9_dutyOf 74 = .ok (.invokestatic 188, 3) := by decide +kernel
theorem dX9_dutyOf_77 : decode cX9_dutyOf 77 = .ok (.ireturn, 1) := by decide +kernel
theorem dX9_dutyOf_78 : decode cX9_dutyOf 78 = .ok (.aload_n 0, 1) := by decide +kernel
theorem dX9_dutyOf_79 : decode cX9_dutyOf 79 = .ok (.getfield 13, 3) := by decide +kernel
theorem dX9_dutyOf_82 : decode cX9_dutyOf 82 = .ok (.iload_n 1, 1) := by decide +kernel
theorem dX9_dutyOf_83 : decode cX9_dutyOf 83 = .ok (.invokevirtual 191, 3) := by decide +kernel
theorem dX9_dutyOf_86 : decode cX9_dutyOf 86 = .ok (.ireturn, 1) := by decide +kernel
theorem dX9_dutyOf_87 : decode cX9_dutyOf 87 = .ok (.aload_n 0, 1) := by decide +kernel
theorem dX9_dutyOf_88 : decode cX9_dutyOf 88 = .ok (.getfield 13, 3) := by decide +kernel
theorem dX9_dutyOf_91 : decode cX9_dutyOf 91 = .ok (.iload_n 1, 1) := by decide +kernel
theorem dX9_dutyOf_92 : decode cX9_dutyOf 92 = .ok (.invokevirtual 194, 3) := by decide +kernel
theorem dX9_dutyOf_95 : decode cX9_dutyOf 95 = .ok (.ireturn, 1) := by decide +kernel
theorem dX9_dutyOf_96 : decode cX9_dutyOf 96 = .ok (.iconst (-1), 1) := by decide +kernel
theorem dX9_dutyOf_97 : decode cX9_dutyOf 97 = .ok (.ireturn, 1) := by decide +kernel
theorem dX9_stands_0 : decode cX9_stands 0 = .ok (.aload_n 0, 1) := by decide +kernel
theorem dX9_stands_1 : decode cX9_stands 1 = .ok (.getfield 13, 3) := by decide +kernel
theorem dX9_stands_4 : decode cX9_stands 4 = .ok (.iload_n 1, 1) := by decide +kernel
theorem dX9_stands_5 : decode cX9_stands 5 = .ok (.invokevirtual 176, 3) := by decide +kernel
theorem dX9_stands_8 : decode cX9_stands 8 = .ok (.ifCond .eq 14, 3) := by decide +kernel
theorem dX9_stands_11 : decode cX9_stands 11 = .ok (.aload_n 0, 1) := by decide +kernel
theorem dX9_stands_12 : decode cX9_stands 12 = .ok (.getfield 13, 3) := by decide +kernel
theorem dX9_stands_15 : decode cX9_stands 15 = .ok (.iload_n 1, 1) := by decide +kernel
theorem dX9_stands_16 : decode cX9_stands 16 = .ok (.invokevirtual 197, 3) := by decide +kernel
theorem dX9_stands_19 : decode cX9_stands 19 = .ok (.goto 4, 3) := by decide +kernel
theorem dX9_stands_22 : decode cX9_stands 22 = .ok (.iconst (-1), 1) := by decide +kernel
theorem dX9_stands_23 : decode cX9_stands 23 = .ok (.ireturn, 1) := by decide +kernel
theorem dX9_may_0 : decode cX9_may 0 = .ok (.aload_n 0, 1) := by decide +kernel
theorem dX9_may_1 : decode cX9_may 1 = .ok (.getfield 13, 3) := by decide +kernel
theorem dX9_may_4 : decode cX9_may 4 = .ok (.iload_n 1, 1) := by decide +kernel
theorem dX9_may_5 : decode cX9_may 5 = .ok (.invokevirtual 91, 3) := by decide +kernel
theorem dX9_may_8 : decode cX9_may 8 = .ok (.ifCond .eq 14, 3) := by decide +kernel
theorem dX9_may_11 : decode cX9_may 11 = .ok (.aload_n 0, 1) := by decide +kernel
theorem dX9_may_12 : decode cX9_may 12 = .ok (.getfield 13, 3) := by decide +kernel
theorem dX9_may_15 : decode cX9_may 15 = .ok (.iload_n 2, 1) := by decide +kernel
theorem dX9_may_16 : decode cX9_may 16 = .ok (.invokevirtual 176, 3) := by decide +kernel
theorem dX9_may_19 : decode cX9_may 19 = .ok (.ifCond .ne 5, 3) := by decide +kernel
theorem dX9_may_22 : decode cX9_may 22 = .ok (.iconst (-1), 1) := by decide +kernel
theorem dX9_may_23 : decode cX9_may 23 = .ok (.ireturn, 1) := by decide +kernel
theorem dX9_may_24 : decode cX9_may 24 = .ok (.aload_n 0, 1) := by decide +kernel
theorem dX9_may_25 : decode cX9_may 25 = .ok (.getfield 13, 3) := by decide +kernel
theorem dX9_may_28 : decode cX9_may 28 = .ok (.iload_n 1, 1) := by decide +kernel
theorem dX9_may_29 : decode cX9_may 29 = .ok (.iload_n 2, 1) := by decide +kernel
theorem dX9_may_30 : decode cX9_may 30 = .ok (.invokevirtual 200, 3) := by decide +kernel
theorem dX9_may_33 : decode cX9_may 33 = .ok (.ifCond .eq 7, 3) := by decide +kernel
theorem dX9_may_36 : decode cX9_may 36 = .ok (.iconst 1, 1) := by decide +kernel
theorem dX9_may_37 : decode cX9_may 37 = .ok (.goto 4, 3) := by decide +kernel
theorem dX9_may_40 : decode cX9_may 40 = .ok (.iconst 0, 1) := by decide +kernel
theorem dX9_may_41 : decode cX9_may 41 = .ok (.ireturn, 1) := by decide +kernel
theorem dX9_dislike_0 : decode cX9_dislike 0 = .ok (.aload_n 0, 1) := by decide +kernel
theorem dX9_dislike_1 : decode cX9_dislike 1 = .ok (.getfield 13, 3) := by decide +kernel
theorem dX9_dislike_4 : decode cX9_dislike 4 = .ok (.iload_n 1, 1) := by decide +kernel
theorem dX9_dislike_5 : decode cX9_dislike 5 = .ok (.invokevirtual 91, 3) := by decide +kernel
theorem dX9_dislike_8 : decode cX9_dislike 8 = .ok (.ifCond .eq 14, 3) := by decide +kernel
theorem dX9_dislike_11 : decode cX9_dislike 11 = .ok (.aload_n 0, 1) := by decide +kernel
theorem dX9_dislike_12 : decode cX9_dislike 12 = .ok (.getfield 13, 3) := by decide +kernel
theorem dX9_dislike_15 : decode cX9_dislike 15 = .ok (.iload_n 2, 1) := by decide +kernel
theorem dX9_dislike_16 : decode cX9_dislike 16 = .ok (.invokevirtual 176, 3) := by decide +kernel
theorem dX9_dislike_19 : decode cX9_dislike 19 = .ok (.ifCond .ne 5, 3) := by decide +kernel
theorem dX9_dislike_22 : decode cX9_dislike 22 = .ok (.iconst (-1), 1) := by decide +kernel
theorem dX9_dislike_23 : decode cX9_dislike 23 = .ok (.ireturn, 1) := by decide +kernel
theorem dX9_dislike_24 : decode cX9_dislike 24 = .ok (.iload_n 3, 1) := by decide +kernel
theorem dX9_dislike_25 : decode cX9_dislike 25 = .ok (.ifCond .lt 9, 3) := by decide +kernel
theorem dX9_dislike_28 : decode cX9_dislike 28 = .ok (.iload_n 3, 1) := by decide +kernel
theorem dX9_dislike_29 : decode cX9_dislike 29 = .ok (.bipush 9, 2) := by decide +kernel
theorem dX9_dislike_31 : decode cX9_dislike 31 = .ok (.if_icmp .le 6, 3) := by decide +kernel
theorem dX9_dislike_34 : decode cX9_dislike 34 = .ok (.bipush (-2), 2) := by decide +kernel
theorem dX9_dislike_36 : decode cX9_dislike 36 = .ok (.ireturn, 1) := by decide +kernel
theorem dX9_dislike_37 : decode cX9_dislike 37 = .ok (.aload_n 0, 1) := by decide +kernel
theorem dX9_dislike_38 : decode cX9_dislike 38 = .ok (.getfield 13, 3) := by decide +kernel
theorem dX9_dislike_41 : decode cX9_dislike 41 = .ok (.iload_n 1, 1) := by decide +kernel
theorem dX9_dislike_42 : decode cX9_dislike 42 = .ok (.iload_n 2, 1) := by decide +kernel
theorem dX9_dislike_43 : decode cX9_dislike 43 = .ok (.invokevirtual 203, 3) := by decide +kernel
theorem dX9_dislike_46 : decode cX9_dislike 46 = .ok (.istore 4, 2) := by decide +kernel
theorem dX9_dislike_48 : decode cX9_dislike 48 = .ok (.aload_n 0, 1) := by decide +kernel
theorem dX9_dislike_49 : decode cX9_dislike 49 = .ok (.getfield 13, 3) := by decide +kernel
theorem dX9_dislike_52 : decode cX9_dislike 52 = .ok (.iload_n 1, 1) := by decide +kernel
theorem dX9_dislike_53 : decode cX9_dislike 53 = .ok (.iload_n 2, 1) := by decide +kernel
theorem dX9_dislike_54 : decode cX9_dislike 54 = .ok (.iload_n 3, 1) := by decide +kernel
theorem dX9_dislike_55 : decode cX9_dislike 55 = .ok (.invokevirtual 206, 3) := by decide +kernel
theorem dX9_dislike_58 : decode cX9_dislike 58 = .ok (.iload 4, 2) := by decide +kernel
theorem dX9_dislike_60 : decode cX9_dislike 60 = .ok (.ireturn, 1) := by decide +kernel
theorem dX9_hold_0 : decode cX9_hold 0 = .ok (.aload_n 0, 1) := by decide +kernel
theorem dX9_hold_1 : decode cX9_hold 1 = .ok (.getfield 13, 3) := by decide +kernel
theorem dX9_hold_4 : decode cX9_hold 4 = .ok (.iload_n 1, 1) := by decide +kernel
theorem dX9_hold_5 : decode cX9_hold 5 = .ok (.invokevirtual 176, 3) := by decide +kernel
theorem dX9_hold_8 : decode cX9_hold 8 = .ok (.ifCond .eq 14, 3) := by decide +kernel
theorem dX9_hold_11 : decode cX9_hold 11 = .ok (.aload_n 0, 1) := by decide +kernel
theorem dX9_hold_12 : decode cX9_hold 12 = .ok (.getfield 13, 3) := by decide +kernel
theorem dX9_hold_15 : decode cX9_hold 15 = .ok (.iload_n 2, 1) := by decide +kernel
theorem dX9_hold_16 : decode cX9_hold 16 = .ok (.invokevirtual 91, 3) := by decide +kernel
theorem dX9_hold_19 : decode cX9_hold 19 = .ok (.ifCond .ne 5, 3) := by decide +kernel
theorem dX9_hold_22 : decode cX9_hold 22 = .ok (.iconst (-1), 1) := by decide +kernel
theorem dX9_hold_23 : decode cX9_hold 23 = .ok (.ireturn, 1) := by decide +kernel
theorem dX9_hold_24 : decode cX9_hold 24 = .ok (.aload_n 0, 1) := by decide +kernel
theorem dX9_hold_25 : decode cX9_hold 25 = .ok (.getfield 13, 3) := by decide +kernel
theorem dX9_hold_28 : decode cX9_hold 28 = .ok (.iload_n 2, 1) := by decide +kernel
theorem dX9_hold_29 : decode cX9_hold 29 = .ok (.iload_n 1, 1) := by decide +kernel
theorem dX9_hold_30 : decode cX9_hold 30 = .ok (.invokevirtual 200, 3) := by decide +kernel
theorem dX9_hold_33 : decode cX9_hold 33 = .ok (.ifCond .ne 6, 3) := by decide +kernel
theorem dX9_hold_36 : decode cX9_hold 36 = .ok (.bipush (-7), 2) := by decide +kernel
theorem dX9_hold_38 : decode cX9_hold 38 = .ok (.ireturn, 1) := by decide +kernel
theorem dX9_hold_39 : decode cX9_hold 39 = .ok (.aload_n 0, 1) := by decide +kernel
theorem dX9_hold_40 : decode cX9_hold 40 = .ok (.getfield 13, 3) := by decide +kernel
theorem dX9_hold_43 : decode cX9_hold 43 = .ok (.iload_n 1, 1) := by decide +kernel
theorem dX9_hold_44 : decode cX9_hold 44 = .ok (.invokevirtual 185, 3) := by decide +kernel
theorem dX9_hold_47 : decode cX9_hold 47 = .ok (.istore_n 3, 1) := by decide +kernel
theorem dX9_hold_48 : decode cX9_hold 48 = .ok (.aload_n 0, 1) := by decide +kernel
theorem dX9_hold_49 : decode cX9_hold 49 = .ok (.getfield 13, 3) := by decide +kernel
theorem dX9_hold_52 : decode cX9_hold 52 = .ok (.iload_n 1, 1) := by decide +kernel
theorem dX9_hold_53 : decode cX9_hold 53 = .ok (.iload_n 2, 1) := by decide +kernel
theorem dX9_hold_54 : decode cX9_hold 54 = .ok (.invokevirtual 209, 3) := by decide +kernel
theorem dX9_hold_57 : decode cX9_hold 57 = .ok (.iload_n 3, 1) := by decide +kernel
theorem dX9_hold_58 : decode cX9_hold 58 = .ok (.invokestatic 188, 3) := by decide +kernel
theorem dX9_hold_61 : decode cX9_hold 61 = .ok (.ireturn, 1) := by decide +kernel
theorem dX9_open_0 : decode cX9_open 0 = .ok (.aload_n 0, 1) := by decide +kernel
theorem dX9_open_1 : decode cX9_open 1 = .ok (.getfield 13, 3) := by decide +kernel
theorem dX9_open_4 : decode cX9_open 4 = .ok (.iload_n 1, 1) := by decide +kernel
theorem dX9_open_5 : decode cX9_open 5 = .ok (.invokevirtual 176, 3) := by decide +kernel
theorem dX9_open_8 : decode cX9_open 8 = .ok (.ifCond .ne 5, 3) := by decide +kernel
theorem dX9_open_11 : decode cX9_open 11 = .ok (.iconst (-1), 1) := by decide +kernel
theorem dX9_open_12 : decode cX9_open 12 = .ok (.ireturn, 1) := by decide +kernel
theorem dX9_open_13 : decode cX9_open 13 = .ok (.aload_n 0, 1) := by decide +kernel
theorem dX9_open_14 : decode cX9_open 14 = .ok (.getfield 13, 3) := by decide +kernel
theorem dX9_open_17 : decode cX9_open 17 = .ok (.iload_n 1, 1) := by decide +kernel
theorem dX9_open_18 : decode cX9_open 18 = .ok (.invokevirtual 185, 3) := by decide +kernel
theorem dX9_open_21 : decode cX9_open 21 = .ok (.istore_n 2, 1) := by decide +kernel
theorem dX9_open_22 : decode cX9_open 22 = .ok (.iload_n 2, 1) := by decide +kernel
theorem dX9_open_23 : decode cX9_open 23 = .ok (.iconst (-1), 1) := by decide +kernel
theorem dX9_open_24 : decode cX9_open 24 = .ok (.if_icmp .ne 6, 3) := by decide +kernel
theorem dX9_open_27 : decode cX9_open 27 = .ok (.bipush (-3), 2) := by decide +kernel
theorem dX9_open_29 : decode cX9_open 29 = .ok (.ireturn, 1) := by decide +kernel
theorem dX9_open_30 : decode cX9_open 30 = .ok (.aload_n 0, 1) := by decide +kernel
theorem dX9_open_31 : decode cX9_open 31 = .ok (.getfield 13, 3) := by decide +kernel
theorem dX9_open_34 : decode cX9_open 34 = .ok (.iload_n 1, 1) := by decide +kernel
theorem dX9_open_35 : decode cX9_open 35 = .ok (.iconst (-1), 1) := by decide +kernel
theorem dX9_open_36 : decode cX9_open 36 = .ok (.invokevirtual 209, 3) := by decide +kernel
theorem dX9_open_39 : decode cX9_open 39 = .ok (.iload_n 2, 1) := by decide +kernel
theorem dX9_open_40 : decode cX9_open 40 = .ok (.ireturn, 1) := by decide +kernel
theorem dX9_fill_0 : decode cX9_fill 0 = .ok (.iload_n 1, 1) := by decide +kernel
theorem dX9_fill_1 : decode cX9_fill 1 = .ok (.iconst (-1), 1) := by decide +kernel
theorem dX9_fill_2 : decode cX9_fill 2 = .ok (.if_icmp .eq 12, 3) := by decide +kernel
theorem dX9_fill_5 : decode cX9_fill 5 = .ok (.iload_n 1, 1) := by decide +kernel
theorem dX9_fill_6 : decode cX9_fill 6 = .ok (.invokestatic 106, 3) := by decide +kernel
theorem dX9_fill_9 : decode cX9_fill 9 = .ok (.ifCond .ne 5, 3) := by decide +kernel
theorem dX9_fill_12 : decode cX9_fill 12 = .ok (.iconst (-1), 1) := by decide +kernel
theorem dX9_fill_13 : decode cX9_fill 13 = .ok (.ireturn, 1) := by decide +kernel
theorem dX9_fill_14 : decode cX9_fill 14 = .ok (.iload_n 1, 1) := by decide +kernel
theorem dX9_fill_15 : decode cX9_fill 15 = .ok (.iconst (-1), 1) := by decide +kernel
theorem dX9_fill_16 : decode cX9_fill 16 = .ok (.if_icmp .eq 12, 3) := by decide +kernel
theorem dX9_fill_19 : decode cX9_fill 19 = .ok (.aload_n 0, 1) := by decide +kernel
theorem dX9_fill_20 : decode cX9_fill 20 = .ok (.getfield 38, 3) := by decide +kernel
theorem dX9_fill_23 : decode cX9_fill 23 = .ok (.iload_n 1, 1) := by decide +kernel
theorem dX9_fill_24 : decode cX9_fill 24 = .ok (.invokevirtual 213, 3) := by decide +kernel
theorem dX9_fill_27 : decode cX9_fill 27 = .ok (.ireturn, 1) := by decide +kernel
theorem dX9_fill_28 : decode cX9_fill 28 = .ok (.iconst 0, 1) := by decide +kernel
theorem dX9_fill_29 : decode cX9_fill 29 = .ok (.istore_n 2, 1) := by decide +kernel
theorem dX9_fill_30 : decode cX9_fill 30 = .ok (.iconst 0, 1) := by decide +kernel
theorem dX9_fill_31 : decode cX9_fill 31 = .ok (.istore_n 3, 1) := by decide +kernel
theorem dX9_fill_32 : decode cX9_fill 32 = .ok (.iload_n 3, 1) := by decide +kernel
theorem dX9_fill_33 : decode cX9_fill 33 = .ok (.iconst 4, 1) := by decide +kernel
theorem dX9_fill_34 : decode cX9_fill 34 = .ok (.if_icmp .ge 20, 3) := by decide +kernel
theorem dX9_fill_37 : decode cX9_fill 37 = .ok (.iload_n 2, 1) := by decide +kernel
theorem dX9_fill_38 : decode cX9_fill 38 = .ok (.aload_n 0, 1) := by decide +kernel
theorem dX9_fill_39 : decode cX9_fill 39 = .ok (.getfield 38, 3) := by decide +kernel
theorem dX9_fill_42 : decode cX9_fill 42 = .ok (.iload_n 3, 1) := by decide +kernel
theorem dX9_fill_43 : decode cX9_fill 43 = .ok (.invokevirtual 213, 3) := by decide +kernel
theorem dX9_fill_46 : decode cX9_fill 46 = .ok (.iadd, 1) := by decide +kernel
theorem dX9_fill_47 : decode cX9_fill 47 = .ok (.istore_n 2, 1) := by decide +kernel
theorem dX9_fill_48 : decode cX9_fill 48 = .ok (.iinc 3 1, 3) := by decide +kernel
theorem dX9_fill_51 : decode cX9_fill 51 = .ok (.goto (-19), 3) := by decide +kernel
theorem dX9_fill_54 : decode cX9_fill 54 = .ok (.iload_n 2, 1) := by decide +kernel
theorem dX9_fill_55 : decode cX9_fill 55 = .ok (.ireturn, 1) := by decide +kernel
theorem dX9_load_0 : decode cX9_load 0 = .ok (.iload_n 1, 1) := by decide +kernel
theorem dX9_load_1 : decode cX9_load 1 = .ok (.invokestatic 106, 3) := by decide +kernel
theorem dX9_load_4 : decode cX9_load 4 = .ok (.ifCond .eq 18, 3) := by decide +kernel
theorem dX9_load_7 : decode cX9_load 7 = .ok (.iload_n 2, 1) := by decide +kernel
theorem dX9_load_8 : decode cX9_load 8 = .ok (.ifCond .lt 14, 3) := by decide +kernel
theorem dX9_load_11 : decode cX9_load 11 = .ok (.iload_n 2, 1) := by decide +kernel
theorem dX9_load_12 : decode cX9_load 12 = .ok (.aload_n 0, 1) := by decide +kernel
theorem dX9_load_13 : decode cX9_load 13 = .ok (.getfield 13, 3) := by decide +kernel
theorem dX9_load_16 : decode cX9_load 16 = .ok (.invokevirtual 102, 3) := by decide +kernel
theorem dX9_load_19 : decode cX9_load 19 = .ok (.if_icmp .lt 5, 3) := by decide +kernel
theorem dX9_load_22 : decode cX9_load 22 = .ok (.iconst (-1), 1) := by decide +kernel
theorem dX9_load_23 : decode cX9_load 23 = .ok (.ireturn, 1) := by decide +kernel
theorem dX9_load_24 : decode cX9_load 24 = .ok (.aload_n 0, 1) := by decide +kernel
theorem dX9_load_25 : decode cX9_load 25 = .ok (.getfield 31, 3) := by decide +kernel
theorem dX9_load_28 : decode cX9_load 28 = .ok (.iload_n 1, 1) := by decide +kernel
theorem dX9_load_29 : decode cX9_load 29 = .ok (.iload_n 2, 1) := by decide +kernel
theorem dX9_load_30 : decode cX9_load 30 = .ok (.invokevirtual 216, 3) := by decide +kernel
theorem dX9_load_33 : decode cX9_load 33 = .ok (.ireturn, 1) := by decide +kernel
theorem dX9_lesser_0 : decode cX9_lesser 0 = .ok (.iload_n 1, 1) := by decide +kernel
theorem dX9_lesser_1 : decode cX9_lesser 1 = .ok (.invokestatic 106, 3) := by decide +kernel
theorem dX9_lesser_4 : decode cX9_lesser 4 = .ok (.ifCond .eq 12, 3) := by decide +kernel
theorem dX9_lesser_7 : decode cX9_lesser 7 = .ok (.iload_n 2, 1) := by decide +kernel
theorem dX9_lesser_8 : decode cX9_lesser 8 = .ok (.ifCond .lt 8, 3) := by decide +kernel
theorem dX9_lesser_11 : decode cX9_lesser 11 = .ok (.iload_n 2, 1) := by decide +kernel
theorem dX9_lesser_12 : decode cX9_lesser 12 = .ok (.iconst 2, 1) := by decide +kernel
theorem dX9_lesser_13 : decode cX9_lesser 13 = .ok (.if_icmp .le 5, 3) := by decide +kernel
theorem dX9_lesser_16 : decode cX9_lesser 16 = .ok (.iconst (-1), 1) := by decide +kernel
theorem dX9_lesser_17 : decode cX9_lesser 17 = .ok (.ireturn, 1) := by decide +kernel
theorem dX9_lesser_18 : decode cX9_lesser 18 = .ok (.aload_n 0, 1) := by decide +kernel
theorem dX9_lesser_19 : decode cX9_lesser 19 = .ok (.getfield 38, 3) := by decide +kernel
theorem dX9_lesser_22 : decode cX9_lesser 22 = .ok (.iload_n 1, 1) := by decide +kernel
theorem dX9_lesser_23 : decode cX9_lesser 23 = .ok (.invokevirtual 219, 3) := by decide +kernel
theorem dX9_lesser_26 : decode cX9_lesser 26 = .ok (.istore_n 3, 1) := by decide +kernel
theorem dX9_lesser_27 : decode cX9_lesser 27 = .ok (.iload_n 2, 1) := by decide +kernel
theorem dX9_lesser_28 : decode cX9_lesser 28 = .ok (.ifCond .ne 13, 3) := by decide +kernel
theorem dX9_lesser_31 : decode cX9_lesser 31 = .ok (.iload_n 3, 1) := by decide +kernel
theorem dX9_lesser_32 : decode cX9_lesser 32 = .ok (.ifCond .eq 7, 3) := by decide +kernel
theorem dX9_lesser_35 : decode cX9_lesser 35 = .ok (.iconst 1, 1) := by decide +kernel
theorem dX9_lesser_36 : decode cX9_lesser 36 = .ok (.goto 4, 3) := by decide +kernel
theorem dX9_lesser_39 : decode cX9_lesser 39 = .ok (.iconst 0, 1) := by decide +kernel
theorem dX9_lesser_40 : decode cX9_lesser 40 = .ok (.ireturn, 1) := by decide +kernel
theorem dX9_lesser_41 : decode cX9_lesser 41 = .ok (.iload_n 3, 1) := by decide +kernel
theorem dX9_lesser_42 : decode cX9_lesser 42 = .ok (.ifCond .ne 6, 3) := by decide +kernel
theorem dX9_lesser_45 : decode cX9_lesser 45 = .ok (.bipush (-5), 2) := by decide +kernel
theorem dX9_lesser_47 : decode cX9_lesser 47 = .ok (.ireturn, 1) := by decide +kernel
theorem dX9_lesser_48 : decode cX9_lesser 48 = .ok (.iload_n 2, 1) := by decide +kernel
theorem dX9_lesser_49 : decode cX9_lesser 49 = .ok (.iconst 1, 1) := by decide +kernel
theorem dX9_lesser_50 : decode cX9_lesser 50 = .ok (.if_icmp .ne 13, 3) := by decide +kernel
theorem dX9_lesser_53 : decode cX9_lesser 53 = .ok (.aload_n 0, 1) := by decide +kernel
theorem dX9_lesser_54 : decode cX9_lesser 54 = .ok (.getfield 38, 3) := by decide +kernel
theorem dX9_lesser_57 : decode cX9_lesser 57 = .ok (.invokevirtual 222, 3) := by decide +kernel
theorem dX9_lesser_60 : decode cX9_lesser 60 = .ok (.goto 10, 3) := by decide +kernel
theorem dX9_lesser_63 : decode cX9_lesser 63 = .ok (.aload_n 0, 1) := by decide +kernel
theorem dX9_lesser_64 : decode cX9_lesser 64 = .ok (.getfield 38, 3) := by decide +kernel
theorem dX9_lesser_67 : decode cX9_lesser 67 = .ok (.invokevirtual 225, 3) := by decide +kernel
theorem dX9_lesser_70 : decode cX9_lesser 70 = .ok (.ireturn, 1) := by decide +kernel
theorem dX9_eases_0 : decode cX9_eases 0 = .ok (.iload_n 1, 1) := by decide +kernel
theorem dX9_eases_1 : decode cX9_eases 1 = .ok (.invokestatic 106, 3) := by decide +kernel
theorem dX9_eases_4 : decode cX9_eases 4 = .ok (.ifCond .eq 14, 3) := by decide +kernel
theorem dX9_eases_7 : decode cX9_eases 7 = .ok (.aload_n 0, 1) := by decide +kernel
theorem dX9_eases_8 : decode cX9_eases 8 = .ok (.getfield 38, 3) := by decide +kernel
theorem dX9_eases_11 : decode cX9_eases 11 = .ok (.iload_n 1, 1) := by decide +kernel
theorem dX9_eases_12 : decode cX9_eases 12 = .ok (.invokevirtual 228, 3) := by decide +kernel
theorem dX9_eases_15 : decode cX9_eases 15 = .ok (.goto 4, 3) := by decide +kernel
theorem dX9_eases_18 : decode cX9_eases 18 = .ok (.iconst (-1), 1) := by decide +kernel
theorem dX9_eases_19 : decode cX9_eases 19 = .ok (.ireturn, 1) := by decide +kernel
theorem dX9_disliked_0 : decode cX9_disliked 0 = .ok (.iconst 0, 1) := by decide +kernel
theorem dX9_disliked_1 : decode cX9_disliked 1 = .ok (.istore_n 1, 1) := by decide +kernel
theorem dX9_disliked_2 : decode cX9_disliked 2 = .ok (.iconst 0, 1) := by decide +kernel
theorem dX9_disliked_3 : decode cX9_disliked 3 = .ok (.istore_n 2, 1) := by decide +kernel
theorem dX9_disliked_4 : decode cX9_disliked 4 = .ok (.iload_n 2, 1) := by decide +kernel
theorem dX9_disliked_5 : decode cX9_disliked 5 = .ok (.aload_n 0, 1) := by decide +kernel
theorem dX9_disliked_6 : decode cX9_disliked 6 = .ok (.getfield 13, 3) := by decide +kernel
theorem dX9_disliked_9 : decode cX9_disliked 9 = .ok (.getfield 164, 3) := by decide +kernel
theorem dX9_disliked_12 : decode cX9_disliked 12 = .ok (.if_icmp .ge 28, 3) := by decide +kernel
theorem dX9_disliked_15 : decode cX9_disliked 15 = .ok (.iload_n 1, 1) := by decide +kernel
theorem dX9_disliked_16 : decode cX9_disliked 16 = .ok (.aload_n 0, 1) := by decide +kernel
theorem dX9_disliked_17 : decode cX9_disliked 17 = .ok (.getfield 13, 3) := by decide +kernel
theorem dX9_disliked_20 : decode cX9_disliked 20 = .ok (.aload_n 0, 1) := by decide +kernel
theorem dX9_disliked_21 : decode cX9_disliked 21 = .ok (.getfield 13, 3) := by decide +kernel
theorem dX9_disliked_24 : decode cX9_disliked 24 = .ok (.iload_n 2, 1) := by decide +kernel
theorem dX9_disliked_25 : decode cX9_disliked 25 = .ok (.invokevirtual 185, 3) := by decide +kernel
theorem dX9_disliked_28 : decode cX9_disliked 28 = .ok (.iload_n 2, 1) := by decide +kernel
theorem dX9_disliked_29 : decode cX9_disliked 29 = .ok (.invokevirtual 203, 3) := by decide +kernel
theorem dX9_disliked_32 : decode cX9_disliked 32 = .ok (.iadd, 1) := by decide +kernel
theorem dX9_disliked_33 : decode cX9_disliked 33 = .ok (.istore_n 1, 1) := by decide +kernel
theorem dX9_disliked_34 : decode cX9_disliked 34 = .ok (.iinc 2 1, 3) := by decide +kernel
theorem dX9_disliked_37 : decode cX9_disliked 37 = .ok (.goto (-33), 3) := by decide +kernel
theorem dX9_disliked_40 : decode cX9_disliked 40 = .ok (.iload_n 1, 1) := by decide +kernel
theorem dX9_disliked_41 : decode cX9_disliked 41 = .ok (.ireturn, 1) := by decide +kernel
theorem dX9_ring_0 : decode cX9_ring 0 = .ok (.aload_n 0, 1) := by decide +kernel
theorem dX9_ring_1 : decode cX9_ring 1 = .ok (.getfield 45, 3) := by decide +kernel
theorem dX9_ring_4 : decode cX9_ring 4 = .ok (.invokevirtual 231, 3) := by decide +kernel
theorem dX9_ring_7 : decode cX9_ring 7 = .ok (.ifCond .ne 6, 3) := by decide +kernel
theorem dX9_ring_10 : decode cX9_ring 10 = .ok (.bipush (-5), 2) := by decide +kernel
theorem dX9_ring_12 : decode cX9_ring 12 = .ok (.ireturn, 1) := by decide +kernel
theorem dX9_ring_13 : decode cX9_ring 13 = .ok (.iload_n 1, 1) := by decide +kernel
theorem dX9_ring_14 : decode cX9_ring 14 = .ok (.ifCond .ne 11, 3) := by decide +kernel
theorem dX9_ring_17 : decode cX9_ring 17 = .ok (.aload_n 0, 1) := by decide +kernel
theorem dX9_ring_18 : decode cX9_ring 18 = .ok (.getfield 45, 3) := by decide +kernel
theorem dX9_ring_21 : decode cX9_ring 21 = .ok (.invokevirtual 234, 3) := by decide +kernel
theorem dX9_ring_24 : decode cX9_ring 24 = .ok (.ireturn, 1) := by decide +kernel
theorem dX9_ring_25 : decode cX9_ring 25 = .ok (.iload_n 1, 1) := by decide +kernel
theorem dX9_ring_26 : decode cX9_ring 26 = .ok (.iconst 1, 1) := by decide +kernel
theorem dX9_ring_27 : decode cX9_ring 27 = .ok (.if_icmp .ne 13, 3) := by decide +kernel
theorem dX9_ring_30 : decode cX9_ring 30 = .ok (.aload_n 0, 1) := by decide +kernel
theorem dX9_ring_31 : decode cX9_ring 31 = .ok (.getfield 45, 3) := by decide +kernel
theorem dX9_ring_34 : decode cX9_ring 34 = .ok (.invokevirtual 237, 3) := by decide +kernel
theorem dX9_ring_37 : decode cX9_ring 37 = .ok (.goto 14, 3) := by decide +kernel
theorem dX9_ring_40 : decode cX9_ring 40 = .ok (.aload_n 0, 1) := by decide +kernel
theorem dX9_ring_41 : decode cX9_ring 41 = .ok (.getfield 45, 3) := by decide +kernel
theorem dX9_ring_44 : decode cX9_ring 44 = .ok (.iload_n 1, 1) := by decide +kernel
theorem dX9_ring_45 : decode cX9_ring 45 = .ok (.bipush 10, 2) := by decide +kernel
theorem dX9_ring_47 : decode cX9_ring 47 = .ok (.isub, 1) := by decide +kernel
theorem dX9_ring_48 : decode cX9_ring 48 = .ok (.invokevirtual 240, 3) := by decide +kernel
theorem dX9_ring_51 : decode cX9_ring 51 = .ok (.ireturn, 1) := by decide +kernel
theorem dX9_turn_0 : decode cX9_turn 0 = .ok (.iload_n 1, 1) := by decide +kernel
theorem dX9_turn_1 : decode cX9_turn 1 = .ok (.iconst 1, 1) := by decide +kernel
theorem dX9_turn_2 : decode cX9_turn 2 = .ok (.if_icmp .lt 9, 3) := by decide +kernel
theorem dX9_turn_5 : decode cX9_turn 5 = .ok (.iload_n 1, 1) := by decide +kernel
theorem dX9_turn_6 : decode cX9_turn 6 = .ok (.bipush 24, 2) := by decide +kernel
theorem dX9_turn_8 : decode cX9_turn 8 = .ok (.if_icmp .le 6, 3) := by decide +kernel
theorem dX9_turn_11 : decode cX9_turn 11 = .ok (.bipush (-2), 2) := by decide +kernel
theorem dX9_turn_13 : decode cX9_turn 13 = .ok (.ireturn, 1) := by decide +kernel
theorem dX9_turn_14 : decode cX9_turn 14 = .ok (.iconst 0, 1) := by decide +kernel
theorem dX9_turn_15 : decode cX9_turn 15 = .ok (.istore_n 2, 1) := by decide +kernel
theorem dX9_turn_16 : decode cX9_turn 16 = .ok (.iload_n 2, 1) := by decide +kernel
theorem dX9_turn_17 : decode cX9_turn 17 = .ok (.iload_n 1, 1) := by decide +kernel
theorem dX9_turn_18 : decode cX9_turn 18 = .ok (.if_icmp .ge 26, 3) := by decide +kernel
theorem dX9_turn_21 : decode cX9_turn 21 = .ok (.aload_n 0, 1) := by decide +kernel
theorem dX9_turn_22 : decode cX9_turn 22 = .ok (.getfield 45, 3) := by decide +kernel
theorem dX9_turn_25 : decode cX9_turn 25 = .ok (.invokevirtual 231, 3) := by decide +kernel
theorem dX9_turn_28 : decode cX9_turn 28 = .ok (.ifCond .eq 16, 3) := by decide +kernel
theorem dX9_turn_31 : decode cX9_turn 31 = .ok (.aload_n 0, 1) := by decide +kernel
theorem dX9_turn_32 : decode cX9_turn 32 = .ok (.getfield 45, 3) := by decide +kernel
theorem dX9_turn_35 : decode cX9_turn 35 = .ok (.invokevirtual 241, 3) := by decide +kernel
theorem dX9_turn_38 : decode cX9_turn 38 = .ok (.iinc 2 1, 3) := by decide +kernel
theorem dX9_turn_41 : decode cX9_turn 41 = .ok (.goto (-25), 3) := by decide +kernel
theorem dX9_turn_44 : decode cX9_turn 44 = .ok (.iload_n 2, 1) := by decide +kernel
theorem dX9_turn_45 : decode cX9_turn 45 = .ok (.ireturn, 1) := by decide +kernel
theorem dX9_close_0 : decode cX9_close 0 = .ok (.aload_n 0, 1) := by decide +kernel
theorem dX9_close_1 : decode cX9_close 1 = .ok (.getfield 13, 3) := by decide +kernel
theorem dX9_close_4 : decode cX9_close 4 = .ok (.invokevirtual 244, 3) := by decide +kernel
theorem dX9_close_7 : decode cX9_close 7 = .ok (.ifCond .le 6, 3) := by decide +kernel
theorem dX9_close_10 : decode cX9_close 10 = .ok (.bipush (-3), 2) := by decide +kernel
theorem dX9_close_12 : decode cX9_close 12 = .ok (.ireturn, 1) := by decide +kernel
theorem dX9_close_13 : decode cX9_close 13 = .ok (.aload_n 0, 1) := by decide +kernel
theorem dX9_close_14 : decode cX9_close 14 = .ok (.getfield 13, 3) := by decide +kernel
theorem dX9_close_17 : decode cX9_close 17 = .ok (.invokevirtual 247, 3) := by decide +kernel
theorem dX9_close_20 : decode cX9_close 20 = .ok (.aload_n 0, 1) := by decide +kernel
theorem dX9_close_21 : decode cX9_close 21 = .ok (.getfield 13, 3) := by decide +kernel
theorem dX9_close_24 : decode cX9_close 24 = .ok (.getfield 250, 3) := by decide +kernel
theorem dX9_close_27 : decode cX9_close 27 = .ok (.ireturn, 1) := by decide +kernel
theorem dX9_audit_0 : decode cX9_audit 0 = .ok (.iload_n 1, 1) := by decide +kernel
theorem dX9_audit_1 : decode cX9_audit 1 = .ok (.invokestatic 106, 3) := by decide +kernel
theorem dX9_audit_4 : decode cX9_audit 4 = .ok (.ifCond .ne 5, 3) := by decide +kernel
theorem dX9_audit_7 : decode cX9_audit 7 = .ok (.iconst (-1), 1) := by decide +kernel
theorem dX9_audit_8 : decode cX9_audit 8 = .ok (.ireturn, 1) := by decide +kernel
theorem dX9_audit_9 : decode cX9_audit 9 = .ok (.iload_n 2, 1) := by decide +kernel
theorem dX9_audit_10 : decode cX9_audit 10 = .ok (.tableswitch 53 0 2 #[26, 35, 44], 26) := by decide +kernel
theorem dX9_audit_36 : decode cX9_audit 36 = .ok (.aload_n 0, 1) := by decide +kernel
theorem dX9_audit_37 : decode cX9_audit 37 = .ok (.getfield 31, 3) := by decide +kernel
theorem dX9_audit_40 : decode cX9_audit 40 = .ok (.iload_n 1, 1) := by decide +kernel
theorem dX9_audit_41 : decode cX9_audit 41 = .ok (.invokevirtual 253, 3) := by decide +kernel
theorem dX9_audit_44 : decode cX9_audit 44 = .ok (.ireturn, 1) := by decide +kernel
theorem dX9_audit_45 : decode cX9_audit 45 = .ok (.aload_n 0, 1) := by decide +kernel
theorem dX9_audit_46 : decode cX9_audit 46 = .ok (.getfield 31, 3) := by decide +kernel
theorem dX9_audit_49 : decode cX9_audit 49 = .ok (.iload_n 1, 1) := by decide +kernel
theorem dX9_audit_50 : decode cX9_audit 50 = .ok (.invokevirtual 256, 3) := by decide +kernel
theorem dX9_audit_53 : decode cX9_audit 53 = .ok (.ireturn, 1) := by decide +kernel
theorem dX9_audit_54 : decode cX9_audit 54 = .ok (.aload_n 0, 1) := by decide +kernel
theorem dX9_audit_55 : decode cX9_audit 55 = .ok (.getfield 31, 3) := by decide +kernel
theorem dX9_audit_58 : decode cX9_audit 58 = .ok (.iload_n 1, 1) := by decide +kernel
theorem dX9_audit_59 : decode cX9_audit 59 = .ok (.invokevirtual 259, 3) := by decide +kernel
theorem dX9_audit_62 : decode cX9_audit 62 = .ok (.ireturn, 1) := by decide +kernel
theorem dX9_audit_63 : decode cX9_audit 63 = .ok (.iconst (-1), 1) := by decide +kernel
theorem dX9_audit_64 : decode cX9_audit 64 = .ok (.ireturn, 1) := by decide +kernel
theorem dX9_next_0 : decode cX9_next 0 = .ok (.iload_n 1, 1) := by decide +kernel
theorem dX9_next_1 : decode cX9_next 1 = .ok (.invokestatic 106, 3) := by decide +kernel
theorem dX9_next_4 : decode cX9_next 4 = .ok (.ifCond .eq 18, 3) := by decide +kernel
theorem dX9_next_7 : decode cX9_next 7 = .ok (.iload_n 2, 1) := by decide +kernel
theorem dX9_next_8 : decode cX9_next 8 = .ok (.ifCond .lt 14, 3) := by decide +kernel
theorem dX9_next_11 : decode cX9_next 11 = .ok (.iload_n 2, 1) := by decide +kernel
theorem dX9_next_12 : decode cX9_next 12 = .ok (.aload_n 0, 1) := by decide +kernel
theorem dX9_next_13 : decode cX9_next 13 = .ok (.getfield 13, 3) := by decide +kernel
theorem dX9_next_16 : decode cX9_next 16 = .ok (.invokevirtual 102, 3) := by decide +kernel
theorem dX9_next_19 : decode cX9_next 19 = .ok (.if_icmp .lt 5, 3) := by decide +kernel
theorem dX9_next_22 : decode cX9_next 22 = .ok (.iconst (-1), 1) := by decide +kernel
theorem dX9_next_23 : decode cX9_next 23 = .ok (.ireturn, 1) := by decide +kernel
theorem dX9_next_24 : decode cX9_next 24 = .ok (.aload_n 0, 1) := by decide +kernel
theorem dX9_next_25 : decode cX9_next 25 = .ok (.getfield 31, 3) := by decide +kernel
theorem dX9_next_28 : decode cX9_next 28 = .ok (.iload_n 1, 1) := by decide +kernel
theorem dX9_next_29 : decode cX9_next 29 = .ok (.iload_n 2, 1) := by decide +kernel
theorem dX9_next_30 : decode cX9_next 30 = .ok (.invokevirtual 262, 3) := by decide +kernel
theorem dX9_next_33 : decode cX9_next 33 = .ok (.ireturn, 1) := by decide +kernel
theorem dX9_near_0 : decode cX9_near 0 = .ok (.iconst 0, 1) := by decide +kernel
theorem dX9_near_1 : decode cX9_near 1 = .ok (.istore_n 1, 1) := by decide +kernel
theorem dX9_near_2 : decode cX9_near 2 = .ok (.iconst 0, 1) := by decide +kernel
theorem dX9_near_3 : decode cX9_near 3 = .ok (.istore_n 2, 1) := by decide +kernel
theorem dX9_near_4 : decode cX9_near 4 = .ok (.iload_n 2, 1) := by decide +kernel
theorem dX9_near_5 : decode cX9_near 5 = .ok (.aload_n 0, 1) := by decide +kernel
theorem dX9_near_6 : decode cX9_near 6 = .ok (.getfield 13, 3) := by decide +kernel
theorem dX9_near_9 : decode cX9_near 9 = .ok (.getfield 164, 3) := by decide +kernel
theorem dX9_near_12 : decode cX9_near 12 = .ok (.if_icmp .ge 45, 3) := by decide +kernel
theorem dX9_near_15 : decode cX9_near 15 = .ok (.iload_n 2, 1) := by decide +kernel
theorem dX9_near_16 : decode cX9_near 16 = .ok (.iconst 1, 1) := by decide +kernel
theorem dX9_near_17 : decode cX9_near 17 = .ok (.iadd, 1) := by decide +kernel
theorem dX9_near_18 : decode cX9_near 18 = .ok (.istore_n 3, 1) := by decide +kernel
theorem dX9_near_19 : decode cX9_near 19 = .ok (.iload_n 3, 1) := by decide +kernel
theorem dX9_near_20 : decode cX9_near 20 = .ok (.aload_n 0, 1) := by decide +kernel
theorem dX9_near_21 : decode cX9_near 21 = .ok (.getfield 13, 3) := by decide +kernel
theorem dX9_near_24 : decode cX9_near 24 = .ok (.getfield 164, 3) := by decide +kernel
theorem dX9_near_27 : decode cX9_near 27 = .ok (.if_icmp .ge 24, 3) := by decide +kernel
theorem dX9_near_30 : decode cX9_near 30 = .ok (.aload_n 0, 1) := by decide +kernel
theorem dX9_near_31 : decode cX9_near 31 = .ok (.getfield 13, 3) := by decide +kernel
theorem dX9_near_34 : decode cX9_near 34 = .ok (.iload_n 2, 1) := by decide +kernel
theorem dX9_near_35 : decode cX9_near 35 = .ok (.iload_n 3, 1) := by decide +kernel
theorem dX9_near_36 : decode cX9_near 36 = .ok (.invokevirtual 265, 3) := by decide +kernel
theorem dX9_near_39 : decode cX9_near 39 = .ok (.ifCond .eq 6, 3) := by decide +kernel
theorem dX9_near_42 : decode cX9_near 42 = .ok (.iinc 1 1, 3) := by decide +kernel
theorem dX9_near_45 : decode cX9_near 45 = .ok (.iinc 3 1, 3) := by decide +kernel
theorem dX9_near_48 : decode cX9_near 48 = .ok (.goto (-29), 3) := by decide +kernel
theorem dX9_near_51 : decode cX9_near 51 = .ok (.iinc 2 1, 3) := by decide +kernel
theorem dX9_near_54 : decode cX9_near 54 = .ok (.goto (-50), 3) := by decide +kernel
theorem dX9_near_57 : decode cX9_near 57 = .ok (.iload_n 1, 1) := by decide +kernel
theorem dX9_near_58 : decode cX9_near 58 = .ok (.ireturn, 1) := by decide +kernel
theorem dX9_heaviest_0 : decode cX9_heaviest 0 = .ok (.bipush (-5), 2) := by decide +kernel
theorem dX9_heaviest_2 : decode cX9_heaviest 2 = .ok (.istore_n 1, 1) := by decide +kernel
theorem dX9_heaviest_3 : decode cX9_heaviest 3 = .ok (.iconst 0, 1) := by decide +kernel
theorem dX9_heaviest_4 : decode cX9_heaviest 4 = .ok (.istore_n 2, 1) := by decide +kernel
theorem dX9_heaviest_5 : decode cX9_heaviest 5 = .ok (.iload_n 2, 1) := by decide +kernel
theorem dX9_heaviest_6 : decode cX9_heaviest 6 = .ok (.aload_n 0, 1) := by decide +kernel
theorem dX9_heaviest_7 : decode cX9_heaviest 7 = .ok (.getfield 13, 3) := by decide +kernel
theorem dX9_heaviest_10 : decode cX9_heaviest 10 = .ok (.getfield 83, 3) := by decide +kernel
theorem dX9_heaviest_13 : decode cX9_heaviest 13 = .ok (.if_icmp .ge 50, 3) := by decide +kernel
theorem dX9_heaviest_16 : decode cX9_heaviest 16 = .ok (.aload_n 0, 1) := by decide +kernel
theorem dX9_heaviest_17 : decode cX9_heaviest 17 = .ok (.getfield 13, 3) := by decide +kernel
theorem dX9_heaviest_20 : decode cX9_heaviest 20 = .ok (.iload_n 2, 1) := by decide +kernel
theorem dX9_heaviest_21 : decode cX9_heaviest 21 = .ok (.invokevirtual 95, 3) := by decide +kernel
theorem dX9_heaviest_24 : decode cX9_heaviest 24 = .ok (.ifCond .ne 6, 3) := by decide +kernel
theorem dX9_heaviest_27 : decode cX9_heaviest 27 = .ok (.goto 30, 3) := by decide +kernel
theorem dX9_heaviest_30 : decode cX9_heaviest 30 = .ok (.iload_n 1, 1) := by decide +kernel
theorem dX9_heaviest_31 : decode cX9_heaviest 31 = .ok (.bipush (-5), 2) := by decide +kernel
theorem dX9_heaviest_33 : decode cX9_heaviest 33 = .ok (.if_icmp .eq 22, 3) := by decide +kernel
theorem dX9_heaviest_36 : decode cX9_heaviest 36 = .ok (.aload_n 0, 1) := by decide +kernel
theorem dX9_heaviest_37 : decode cX9_heaviest 37 = .ok (.getfield 13, 3) := by decide +kernel
theorem dX9_heaviest_40 : decode cX9_heaviest 40 = .ok (.iload_n 2, 1) := by decide +kernel
theorem dX9_heaviest_41 : decode cX9_heaviest 41 = .ok (.invokevirtual 130, 3) := by decide +kernel
theorem dX9_heaviest_44 : decode cX9_heaviest 44 = .ok (.aload_n 0, 1) := by decide +kernel
theorem dX9_heaviest_45 : decode cX9_heaviest 45 = .ok (.getfield 13, 3) := by decide +kernel
theorem dX9_heaviest_48 : decode cX9_heaviest 48 = .ok (.iload_n 1, 1) := by decide +kernel
theorem dX9_heaviest_49 : decode cX9_heaviest 49 = .ok (.invokevirtual 130, 3) := by decide +kernel
theorem dX9_heaviest_52 : decode cX9_heaviest 52 = .ok (.if_icmp .le 5, 3) := by decide +kernel
theorem dX9_heaviest_55 : decode cX9_heaviest 55 = .ok (.iload_n 2, 1) := by decide +kernel
theorem dX9_heaviest_56 : decode cX9_heaviest 56 = .ok (.istore_n 1, 1) := by decide +kernel
theorem dX9_heaviest_57 : decode cX9_heaviest 57 = .ok (.iinc 2 1, 3) := by decide +kernel
theorem dX9_heaviest_60 : decode cX9_heaviest 60 = .ok (.goto (-55), 3) := by decide +kernel
theorem dX9_heaviest_63 : decode cX9_heaviest 63 = .ok (.iload_n 1, 1) := by decide +kernel
theorem dX9_heaviest_64 : decode cX9_heaviest 64 = .ok (.ireturn, 1) := by decide +kernel
theorem dX9_feed_0 : decode cX9_feed 0 = .ok (.iload_n 1, 1) := by decide +kernel
theorem dX9_feed_1 : decode cX9_feed 1 = .ok (.iconst 1, 1) := by decide +kernel
theorem dX9_feed_2 : decode cX9_feed 2 = .ok (.if_icmp .lt 9, 3) := by decide +kernel
theorem dX9_feed_5 : decode cX9_feed 5 = .ok (.iload_n 1, 1) := by decide +kernel
theorem dX9_feed_6 : decode cX9_feed 6 = .ok (.bipush 127, 2) := by decide +kernel
theorem dX9_feed_8 : decode cX9_feed 8 = .ok (.if_icmp .le 6, 3) := by decide +kernel
theorem dX9_feed_11 : decode cX9_feed 11 = .ok (.bipush (-2), 2) := by decide +kernel
theorem dX9_feed_13 : decode cX9_feed 13 = .ok (.ireturn, 1) := by decide +kernel
theorem dX9_feed_14 : decode cX9_feed 14 = .ok (.aload_n 0, 1) := by decide +kernel
theorem dX9_feed_15 : decode cX9_feed 15 = .ok (.getfield 49, 3) := by decide +kernel
theorem dX9_feed_18 : decode cX9_feed 18 = .ok (.iload_n 1, 1) := by decide +kernel
theorem dX9_feed_19 : decode cX9_feed 19 = .ok (.invokevirtual 268, 3) := by decide +kernel
theorem dX9_feed_22 : decode cX9_feed 22 = .ok (.ifCond .eq 13, 3) := by decide +kernel
theorem dX9_feed_25 : decode cX9_feed 25 = .ok (.aload_n 0, 1) := by decide +kernel
theorem dX9_feed_26 : decode cX9_feed 26 = .ok (.getfield 49, 3) := by decide +kernel
theorem dX9_feed_29 : decode cX9_feed 29 = .ok (.invokevirtual 271, 3) := by decide +kernel
theorem dX9_feed_32 : decode cX9_feed 32 = .ok (.goto 5, 3) := by decide +kernel
theorem dX9_feed_35 : decode cX9_feed 35 = .ok (.bipush (-4), 2) := by decide +kernel
theorem dX9_feed_37 : decode cX9_feed 37 = .ok (.ireturn, 1) := by decide +kernel
theorem dX9_clear_0 : decode cX9_clear 0 = .ok (.aload_n 0, 1) := by decide +kernel
theorem dX9_clear_1 : decode cX9_clear 1 = .ok (.getfield 49, 3) := by decide +kernel
theorem dX9_clear_4 : decode cX9_clear 4 = .ok (.invokevirtual 158, 3) := by decide +kernel
theorem dX9_clear_7 : decode cX9_clear 7 = .ok (.ireturn, 1) := by decide +kernel
theorem dX9_pick_0 : decode cX9_pick 0 = .ok (.aload_n 0, 1) := by decide +kernel
theorem dX9_pick_1 : decode cX9_pick 1 = .ok (.getfield 65, 3) := by decide +kernel
theorem dX9_pick_4 : decode cX9_pick 4 = .ok (.invokevirtual 272, 3) := by decide +kernel
theorem dX9_pick_7 : decode cX9_pick 7 = .ok (.istore_n 1, 1) := by decide +kernel
theorem dX9_pick_8 : decode cX9_pick 8 = .ok (.aload_n 0, 1) := by decide +kernel
theorem dX9_pick_9 : decode cX9_pick 9 = .ok (.getfield 49, 3) := by decide +kernel
theorem dX9_pick_12 : decode cX9_pick 12 = .ok (.invokevirtual 145, 3) := by decide +kernel
theorem dX9_pick_15 : decode cX9_pick 15 = .ok (.ifCond .eq 8, 3) := by decide +kernel
theorem dX9_pick_18 : decode cX9_pick 18 = .ok (.aload_n 0, 1) := by decide +kernel
theorem dX9_pick_19 : decode cX9_pick 19 = .ok (.invokevirtual 149, 3) := by decide +kernel
theorem dX9_pick_22 : decode cX9_pick 22 = .ok (.ireturn, 1) := by decide +kernel
theorem dX9_pick_23 : decode cX9_pick 23 = .ok (.aload_n 0, 1) := by decide +kernel
theorem dX9_pick_24 : decode cX9_pick 24 = .ok (.getfield 49, 3) := by decide +kernel
theorem dX9_pick_27 : decode cX9_pick 27 = .ok (.invokevirtual 158, 3) := by decide +kernel
theorem dX9_pick_30 : decode cX9_pick 30 = .ok (.pop, 1) := by decide +kernel
theorem dX9_pick_31 : decode cX9_pick 31 = .ok (.iload_n 1, 1) := by decide +kernel
theorem dX9_pick_32 : decode cX9_pick 32 = .ok (.ireturn, 1) := by decide +kernel
theorem dX9_openAll_0 : decode cX9_openAll 0 = .ok (.aload_n 0, 1) := by decide +kernel
theorem dX9_openAll_1 : decode cX9_openAll 1 = .ok (.getfield 65, 3) := by decide +kernel
theorem dX9_openAll_4 : decode cX9_openAll 4 = .ok (.invokevirtual 272, 3) := by decide +kernel
theorem dX9_openAll_7 : decode cX9_openAll 7 = .ok (.istore_n 1, 1) := by decide +kernel
theorem dX9_openAll_8 : decode cX9_openAll 8 = .ok (.aload_n 0, 1) := by decide +kernel
theorem dX9_openAll_9 : decode cX9_openAll 9 = .ok (.getfield 49, 3) := by decide +kernel
theorem dX9_openAll_12 : decode cX9_openAll 12 = .ok (.invokevirtual 145, 3) := by decide +kernel
theorem dX9_openAll_15 : decode cX9_openAll 15 = .ok (.ifCond .eq 8, 3) := by decide +kernel
theorem dX9_openAll_18 : decode cX9_openAll 18 = .ok (.aload_n 0, 1) := by decide +kernel
theorem dX9_openAll_19 : decode cX9_openAll 19 = .ok (.invokevirtual 149, 3) := by decide +kernel
theorem dX9_openAll_22 : decode cX9_openAll 22 = .ok (.ireturn, 1) := by decide +kernel
theorem dX9_openAll_23 : decode cX9_openAll 23 = .ok (.aload_n 0, 1) := by decide +kernel
theorem dX9_openAll_24 : decode cX9_openAll 24 = .ok (.getfield 49, 3) := by decide +kernel
theorem dX9_openAll_27 : decode cX9_openAll 27 = .ok (.invokevirtual 158, 3) := by decide +kernel
theorem dX9_openAll_30 : decode cX9_openAll 30 = .ok (.pop, 1) := by decide +kernel
theorem dX9_openAll_31 : decode cX9_openAll 31 = .ok (.iconst 0, 1) := by decide +kernel
theorem dX9_openAll_32 : decode cX9_openAll 32 = .ok (.istore_n 2, 1) := by decide +kernel
theorem dX9_openAll_33 : decode cX9_openAll 33 = .ok (.iconst 0, 1) := by decide +kernel
theorem dX9_openAll_34 : decode cX9_openAll 34 = .ok (.istore_n 3, 1) := by decide +kernel
theorem dX9_openAll_35 : decode cX9_openAll 35 = .ok (.iload_n 3, 1) := by decide +kernel
theorem dX9_openAll_36 : decode cX9_openAll 36 = .ok (.aload_n 0, 1) := by decide +kernel
theorem dX9_openAll_37 : decode cX9_openAll 37 = .ok (.getfield 13, 3) := by decide +kernel
theorem dX9_openAll_40 : decode cX9_openAll 40 = .ok (.getfield 164, 3) := by decide +kernel
theorem dX9_openAll_43 : decode cX9_openAll 43 = .ok (.if_icmp .ge 44, 3) := by decide +kernel
theorem dX9_openAll_46 : decode cX9_openAll 46 = .ok (.iload_n 1, 1) := by decide +kernel
theorem dX9_openAll_47 : decode cX9_openAll 47 = .ok (.iload_n 3, 1) := by decide +kernel
theorem dX9_openAll_48 : decode cX9_openAll 48 = .ok (.ishr, 1) := by decide +kernel
theorem dX9_openAll_49 : decode cX9_openAll 49 = .ok (.iconst 1, 1) := by decide +kernel
theorem dX9_openAll_50 : decode cX9_openAll 50 = .ok (.iand, 1) := by decide +kernel
theorem dX9_openAll_51 : decode cX9_openAll 51 = .ok (.ifCond .eq 30, 3) := by decide +kernel
theorem dX9_openAll_54 : decode cX9_openAll 54 = .ok (.aload_n 0, 1) := by decide +kernel
theorem dX9_openAll_55 : decode cX9_openAll 55 = .ok (.getfield 13, 3) := by decide +kernel
theorem dX9_openAll_58 : decode cX9_openAll 58 = .ok (.iload_n 3, 1) := by decide +kernel
theorem dX9_openAll_59 : decode cX9_openAll 59 = .ok (.invokevirtual 185, 3) := by decide +kernel
theorem dX9_openAll_62 : decode cX9_openAll 62 = .ok (.iconst (-1), 1) := by decide +kernel
theorem dX9_openAll_63 : decode cX9_openAll 63 = .ok (.if_icmp .ne 6, 3) := by decide +kernel
theorem dX9_openAll_66 : decode cX9_openAll 66 = .ok (.goto 15, 3) := by decide +kernel
theorem dX9_openAll_69 : decode cX9_openAll 69 = .ok (.aload_n 0, 1) := by decide +kernel
theorem dX9_openAll_70 : decode cX9_openAll 70 = .ok (.getfield 13, 3) := by decide +kernel
theorem dX9_openAll_73 : decode cX9_openAll 73 = .ok (.iload_n 3, 1) := by decide +kernel
theorem dX9_openAll_74 : decode cX9_openAll 74 = .ok (.iconst (-1), 1) := by decide +kernel
theorem dX9_openAll_75 : decode cX9_openAll 75 = .ok (.invokevirtual 209, 3) := by decide +kernel
theorem dX9_openAll_78 : decode cX9_openAll 78 = .ok (.iinc 2 1, 3) := by decide +kernel
theorem dX9_openAll_81 : decode cX9_openAll 81 = .ok (.iinc 3 1, 3) := by decide +kernel
theorem dX9_openAll_84 : decode cX9_openAll 84 = .ok (.goto (-49), 3) := by decide +kernel
theorem dX9_openAll_87 : decode cX9_openAll 87 = .ok (.iload_n 2, 1) := by decide +kernel
theorem dX9_openAll_88 : decode cX9_openAll 88 = .ok (.ireturn, 1) := by decide +kernel
theorem dX9_judge_0 : decode cX9_judge 0 = .ok (.aload_n 0, 1) := by decide +kernel
theorem dX9_judge_1 : decode cX9_judge 1 = .ok (.invokevirtual 275, 3) := by decide +kernel
theorem dX9_judge_4 : decode cX9_judge 4 = .ok (.ifCond .ne 6, 3) := by decide +kernel
theorem dX9_judge_7 : decode cX9_judge 7 = .ok (.bipush (-3), 2) := by decide +kernel
theorem dX9_judge_9 : decode cX9_judge 9 = .ok (.ireturn, 1) := by decide +kernel
theorem dX9_judge_10 : decode cX9_judge 10 = .ok (.aload_n 0, 1) := by decide +kernel
theorem dX9_judge_11 : decode cX9_judge 11 = .ok (.getfield 49, 3) := by decide +kernel
theorem dX9_judge_14 : decode cX9_judge 14 = .ok (.invokevirtual 145, 3) := by decide +kernel
theorem dX9_judge_17 : decode cX9_judge 17 = .ok (.ifCond .eq 8, 3) := by decide +kernel
theorem dX9_judge_20 : decode cX9_judge 20 = .ok (.aload_n 0, 1) := by decide +kernel
theorem dX9_judge_21 : decode cX9_judge 21 = .ok (.invokevirtual 149, 3) := by decide +kernel
theorem dX9_judge_24 : decode cX9_judge 24 = .ok (.ireturn, 1) := by decide +kernel
theorem dX9_judge_25 : decode cX9_judge 25 = .ok (.aload_n 0, 1) := by decide +kernel
theorem dX9_judge_26 : decode cX9_judge 26 = .ok (.getfield 49, 3) := by decide +kernel
theorem dX9_judge_29 : decode cX9_judge 29 = .ok (.invokevirtual 158, 3) := by decide +kernel
theorem dX9_judge_32 : decode cX9_judge 32 = .ok (.pop, 1) := by decide +kernel
theorem dX9_judge_33 : decode cX9_judge 33 = .ok (.aload_n 0, 1) := by decide +kernel
theorem dX9_judge_34 : decode cX9_judge 34 = .ok (.getfield 58, 3) := by decide +kernel
theorem dX9_judge_37 : decode cX9_judge 37 = .ok (.invokevirtual 278, 3) := by decide +kernel
theorem dX9_judge_40 : decode cX9_judge 40 = .ok (.istore_n 1, 1) := by decide +kernel
theorem dX9_judge_41 : decode cX9_judge 41 = .ok (.iload_n 1, 1) := by decide +kernel
theorem dX9_judge_42 : decode cX9_judge 42 = .ok (.iconst (-1), 1) := by decide +kernel
theorem dX9_judge_43 : decode cX9_judge 43 = .ok (.if_icmp .eq 7, 3) := by decide +kernel
theorem dX9_judge_46 : decode cX9_judge 46 = .ok (.iload_n 1, 1) := by decide +kernel
theorem dX9_judge_47 : decode cX9_judge 47 = .ok (.goto 14, 3) := by decide +kernel
theorem dX9_judge_50 : decode cX9_judge 50 = .ok (.aload_n 0, 1) := by decide +kernel
theorem dX9_judge_51 : decode cX9_judge 51 = .ok (.aload_n 0, 1) := by decide +kernel
theorem dX9_judge_52 : decode cX9_judge 52 = .ok (.getfield 58, 3) := by decide +kernel
theorem dX9_judge_55 : decode cX9_judge 55 = .ok (.invokevirtual 281, 3) := by decide +kernel
theorem dX9_judge_58 : decode cX9_judge 58 = .ok (.invokevirtual 285, 3) := by decide +kernel
theorem dX9_judge_61 : decode cX9_judge 61 = .ok (.ireturn, 1) := by decide +kernel
theorem dX9_roster_0 : decode cX9_roster 0 = .ok (.aload_n 0, 1) := by decide +kernel
theorem dX9_roster_1 : decode cX9_roster 1 = .ok (.invokevirtual 275, 3) := by decide +kernel
theorem dX9_roster_4 : decode cX9_roster 4 = .ok (.ifCond .ne 6, 3) := by decide +kernel
theorem dX9_roster_7 : decode cX9_roster 7 = .ok (.bipush (-3), 2) := by decide +kernel
theorem dX9_roster_9 : decode cX9_roster 9 = .ok (.ireturn, 1) := by decide +kernel
theorem dX9_roster_10 : decode cX9_roster 10 = .ok (.aload_n 0, 1) := by decide +kernel
theorem dX9_roster_11 : decode cX9_roster 11 = .ok (.getfield 49, 3) := by decide +kernel
theorem dX9_roster_14 : decode cX9_roster 14 = .ok (.invokevirtual 145, 3) := by decide +kernel
theorem dX9_roster_17 : decode cX9_roster 17 = .ok (.ifCond .eq 8, 3) := by decide +kernel
theorem dX9_roster_20 : decode cX9_roster 20 = .ok (.aload_n 0, 1) := by decide +kernel
theorem dX9_roster_21 : decode cX9_roster 21 = .ok (.invokevirtual 149, 3) := by decide +kernel
theorem dX9_roster_24 : decode cX9_roster 24 = .ok (.ireturn, 1) := by decide +kernel
theorem dX9_roster_25 : decode cX9_roster 25 = .ok (.aload_n 0, 1) := by decide +kernel
theorem dX9_roster_26 : decode cX9_roster 26 = .ok (.getfield 49, 3) := by decide +kernel
theorem dX9_roster_29 : decode cX9_roster 29 = .ok (.invokevirtual 158, 3) := by decide +kernel
theorem dX9_roster_32 : decode cX9_roster 32 = .ok (.pop, 1) := by decide +kernel
theorem dX9_roster_33 : decode cX9_roster 33 = .ok (.aload_n 0, 1) := by decide +kernel
theorem dX9_roster_34 : decode cX9_roster 34 = .ok (.getfield 58, 3) := by decide +kernel
theorem dX9_roster_37 : decode cX9_roster 37 = .ok (.invokevirtual 278, 3) := by decide +kernel
theorem dX9_roster_40 : decode cX9_roster 40 = .ok (.iconst (-1), 1) := by decide +kernel
theorem dX9_roster_41 : decode cX9_roster 41 = .ok (.if_icmp .eq 6, 3) := by decide +kernel
theorem dX9_roster_44 : decode cX9_roster 44 = .ok (.bipush (-7), 2) := by decide +kernel
theorem dX9_roster_46 : decode cX9_roster 46 = .ok (.ireturn, 1) := by decide +kernel
theorem dX9_roster_47 : decode cX9_roster 47 = .ok (.aload_n 0, 1) := by decide +kernel
theorem dX9_roster_48 : decode cX9_roster 48 = .ok (.getfield 58, 3) := by decide +kernel
theorem dX9_roster_51 : decode cX9_roster 51 = .ok (.invokevirtual 289, 3) := by decide +kernel
theorem dX9_roster_54 : decode cX9_roster 54 = .ok (.aload_n 0, 1) := by decide +kernel
theorem dX9_roster_55 : decode cX9_roster 55 = .ok (.getfield 13, 3) := by decide +kernel
theorem dX9_roster_58 : decode cX9_roster 58 = .ok (.getfield 164, 3) := by decide +kernel
theorem dX9_roster_61 : decode cX9_roster 61 = .ok (.aload_n 0, 1) := by decide +kernel
theorem dX9_roster_62 : decode cX9_roster 62 = .ok (.getfield 13, 3) := by decide +kernel
theorem dX9_roster_65 : decode cX9_roster 65 = .ok (.invokevirtual 244, 3) := by decide +kernel
theorem dX9_roster_68 : decode cX9_roster 68 = .ok (.isub, 1) := by decide +kernel
theorem dX9_roster_69 : decode cX9_roster 69 = .ok (.ireturn, 1) := by decide +kernel
theorem dX9_spell_0 : decode cX9_spell 0 = .ok (.aload_n 0, 1) := by decide +kernel
theorem dX9_spell_1 : decode cX9_spell 1 = .ok (.getfield 72, 3) := by decide +kernel
theorem dX9_spell_4 : decode cX9_spell 4 = .ok (.aload_n 0, 1) := by decide +kernel
theorem dX9_spell_5 : decode cX9_spell 5 = .ok (.getfield 13, 3) := by decide +kernel
theorem dX9_spell_8 : decode cX9_spell 8 = .ok (.invokevirtual 292, 3) := by decide +kernel
theorem dX9_spell_11 : decode cX9_spell 11 = .ok (.ireturn, 1) := by decide +kernel
theorem dX9_paper_0 : decode cX9_paper 0 = .ok (.aload_n 0, 1) := by decide +kernel
theorem dX9_paper_1 : decode cX9_paper 1 = .ok (.getfield 72, 3) := by decide +kernel
theorem dX9_paper_4 : decode cX9_paper 4 = .ok (.iload_n 1, 1) := by decide +kernel
theorem dX9_paper_5 : decode cX9_paper 5 = .ok (.invokevirtual 296, 3) := by decide +kernel
theorem dX9_paper_8 : decode cX9_paper 8 = .ok (.ireturn, 1) := by decide +kernel
theorem dX9_told_0 : decode cX9_told 0 = .ok (.bipush 10, 2) := by decide +kernel
theorem dX9_told_2 : decode cX9_told 2 = .ok (.iload_n 1, 1) := by decide +kernel
theorem dX9_told_3 : decode cX9_told 3 = .ok (.invokestatic 117, 3) := by decide +kernel
theorem dX9_told_6 : decode cX9_told 6 = .ok (.ifCond .eq 15, 3) := by decide +kernel
theorem dX9_told_9 : decode cX9_told 9 = .ok (.aload_n 0, 1) := by decide +kernel
theorem dX9_told_10 : decode cX9_told 10 = .ok (.getfield 13, 3) := by decide +kernel
theorem dX9_told_13 : decode cX9_told 13 = .ok (.iload_n 1, 1) := by decide +kernel
theorem dX9_told_14 : decode cX9_told 14 = .ok (.bipush 10, 2) := by decide +kernel
theorem dX9_told_16 : decode cX9_told 16 = .ok (.isub, 1) := by decide +kernel
theorem dX9_told_17 : decode cX9_told 17 = .ok (.invokevirtual 299, 3) := by decide +kernel
theorem dX9_told_20 : decode cX9_told 20 = .ok (.ireturn, 1) := by decide +kernel
theorem dX9_told_21 : decode cX9_told 21 = .ok (.bipush 20, 2) := by decide +kernel
theorem dX9_told_23 : decode cX9_told 23 = .ok (.iload_n 1, 1) := by decide +kernel
theorem dX9_told_24 : decode cX9_told 24 = .ok (.invokestatic 117, 3) := by decide +kernel
theorem dX9_told_27 : decode cX9_told 27 = .ok (.ifCond .eq 22, 3) := by decide +kernel
theorem dX9_told_30 : decode cX9_told 30 = .ok (.aload_n 0, 1) := by decide +kernel
theorem dX9_told_31 : decode cX9_told 31 = .ok (.getfield 13, 3) := by decide +kernel
theorem dX9_told_34 : decode cX9_told 34 = .ok (.aload_n 0, 1) := by decide +kernel
theorem dX9_told_35 : decode cX9_told 35 = .ok (.getfield 13, 3) := by decide +kernel
theorem dX9_told_38 : decode cX9_told 38 = .ok (.getfield 302, 3) := by decide +kernel
theorem dX9_told_41 : decode cX9_told 41 = .ok (.iload_n 1, 1) := by decide +kernel
theorem dX9_told_42 : decode cX9_told 42 = .ok (.bipush 20, 2) := by decide +kernel
theorem dX9_told_44 : decode cX9_told 44 = .ok (.isub, 1) := by decide +kernel
theorem dX9_told_45 : decode cX9_told 45 = .ok (.invokevirtual 306, 3) := by decide +kernel
theorem dX9_told_48 : decode cX9_told 48 = .ok (.ireturn, 1) := by decide +kernel
theorem dX9_told_49 : decode cX9_told 49 = .ok (.iload_n 1, 1) := by decide +kernel
theorem dX9_told_50 : decode cX9_told 50 = .ok (.tableswitch 144 0 9 #[54, 62, 70, 78, 86, 94, 102, 110, 118, 127], 54) := by decide +kernel
theorem dX9_told_104 : decode cX9_told 104 = .ok (.aload_n 0, 1) := by decide +kernel
theorem dX9_told_105 : decode cX9_told 105 = .ok (.getfield 13, 3) := by decide +kernel
theorem dX9_told_108 : decode cX9_told 108 = .ok (.getfield 83, 3) := by decide +kernel
theorem dX9_told_111 : decode cX9_told 111 = .ok (.ireturn, 1) := by decide +kernel
theorem dX9_told_112 : decode cX9_told 112 = .ok (.aload_n 0, 1) := by decide +kernel
theorem dX9_told_113 : decode cX9_told 113 = .ok (.getfield 13, 3) := by decide +kernel
theorem dX9_told_116 : decode cX9_told 116 = .ok (.invokevirtual 102, 3) := by decide +kernel
theorem dX9_told_119 : decode cX9_told 119 = .ok (.ireturn, 1) := by decide +kernel
theorem dX9_told_120 : decode cX9_told 120 = .ok (.aload_n 0, 1) := by decide +kernel
theorem dX9_told_121 : decode cX9_told 121 = .ok (.getfield 13, 3) := by decide +kernel
theorem dX9_told_124 : decode cX9_told 124 = .ok (.getfield 164, 3) := by decide +kernel
theorem dX9_told_127 : decode cX9_told 127 = .ok (.ireturn, 1) := by decide +kernel
theorem dX9_told_128 : decode cX9_told 128 = .ok (.aload_n 0, 1) := by decide +kernel
theorem dX9_told_129 : decode cX9_told 129 = .ok (.getfield 13, 3) := by decide +kernel
theorem dX9_told_132 : decode cX9_told 132 = .ok (.invokevirtual 244, 3) := by decide +kernel
theorem dX9_told_135 : decode cX9_told 135 = .ok (.ireturn, 1) := by decide +kernel
theorem dX9_told_136 : decode cX9_told 136 = .ok (.aload_n 0, 1) := by decide +kernel
theorem dX9_told_137 : decode cX9_told 137 = .ok (.getfield 13, 3) := by decide +kernel
theorem dX9_told_140 : decode cX9_told 140 = .ok (.getfield 250, 3) := by decide +kernel
theorem dX9_told_143 : decode cX9_told 143 = .ok (.ireturn, 1) := by decide +kernel
theorem dX9_told_144 : decode cX9_told 144 = .ok (.aload_n 0, 1) := by decide +kernel
theorem dX9_told_145 : decode cX9_told 145 = .ok (.getfield 49, 3) := by decide +kernel
theorem dX9_told_148 : decode cX9_told 148 = .ok (.invokevirtual 271, 3) := by decide +kernel
theorem dX9_told_151 : decode cX9_told 151 = .ok (.ireturn, 1) := by decide +kernel
theorem dX9_told_152 : decode cX9_told 152 = .ok (.aload_n 0, 1) := by decide +kernel
theorem dX9_told_153 : decode cX9_told 153 = .ok (.getfield 72, 3) := by decide +kernel
theorem dX9_told_156 : decode cX9_told 156 = .ok (.invokevirtual 310, 3) := by decide +kernel
theorem dX9_told_159 : decode cX9_told 159 = .ok (.ireturn, 1) := by decide +kernel
theorem dX9_told_160 : decode cX9_told 160 = .ok (.aload_n 0, 1) := by decide +kernel
theorem dX9_told_161 : decode cX9_told 161 = .ok (.getfield 13, 3) := by decide +kernel
theorem dX9_told_164 : decode cX9_told 164 = .ok (.invokevirtual 311, 3) := by decide +kernel
theorem dX9_told_167 : decode cX9_told 167 = .ok (.ireturn, 1) := by decide +kernel
theorem dX9_told_168 : decode cX9_told 168 = .ok (.aload_n 0, 1) := by decide +kernel
theorem dX9_told_169 : decode cX9_told 169 = .ok (.getfield 13, 3) := by decide +kernel
theorem dX9_told_172 : decode cX9_told 172 = .ok (.iconst 0, 1) := by decide +kernel
theorem dX9_told_173 : decode cX9_told 173 = .ok (.invokevirtual 314, 3) := by decide +kernel
theorem dX9_told_176 : decode cX9_told 176 = .ok (.ireturn, 1) := by decide +kernel
theorem dX9_told_177 : decode cX9_told 177 = .ok (.aload_n 0, 1) := by decide +kernel
theorem dX9_told_178 : decode cX9_told 178 = .ok (.getfield 13, 3) := by decide +kernel
theorem dX9_told_181 : decode cX9_told 181 = .ok (.aload_n 0, 1) := by decide +kernel
theorem dX9_told_182 : decode cX9_told 182 = .ok (.getfield 13, 3) := by decide +kernel
theorem dX9_told_185 : decode cX9_told 185 = .ok (.getfield 164, 3) := by decide +kernel
theorem dX9_told_188 : decode cX9_told 188 = .ok (.iconst 1, 1) := by decide +kernel
theorem dX9_told_189 : decode cX9_told 189 = .ok (.isub, 1) := by decide +kernel
theorem dX9_told_190 : decode cX9_told 190 = .ok (.invokevirtual 314, 3) := by decide +kernel
theorem dX9_told_193 : decode cX9_told 193 = .ok (.ireturn, 1) := by decide +kernel
theorem dX9_told_194 : decode cX9_told 194 = .ok (.iconst (-1), 1) := by decide +kernel
theorem dX9_told_195 : decode cX9_told 195 = .ok (.ireturn, 1) := by decide +kernel
theorem dX9_list_0 : decode cX9_list 0 = .ok (.aload_n 0, 1) := by decide +kernel
theorem dX9_list_1 : decode cX9_list 1 = .ok (.getfield 79, 3) := by decide +kernel
theorem dX9_list_4 : decode cX9_list 4 = .ok (.iload_n 1, 1) := by decide +kernel
theorem dX9_list_5 : decode cX9_list 5 = .ok (.invokevirtual 317, 3) := by decide +kernel
theorem dX9_list_8 : decode cX9_list 8 = .ok (.ifCond .ne 5, 3) := by decide +kernel
theorem dX9_list_11 : decode cX9_list 11 = .ok (.iconst (-1), 1) := by decide +kernel
theorem dX9_list_12 : decode cX9_list 12 = .ok (.ireturn, 1) := by decide +kernel
theorem dX9_list_13 : decode cX9_list 13 = .ok (.iload_n 2, 1) := by decide +kernel
theorem dX9_list_14 : decode cX9_list 14 = .ok (.bipush 30, 2) := by decide +kernel
theorem dX9_list_16 : decode cX9_list 16 = .ok (.if_icmp .le 6, 3) := by decide +kernel
theorem dX9_list_19 : decode cX9_list 19 = .ok (.bipush (-2), 2) := by decide +kernel
theorem dX9_list_21 : decode cX9_list 21 = .ok (.ireturn, 1) := by decide +kernel
theorem dX9_list_22 : decode cX9_list 22 = .ok (.iload_n 2, 1) := by decide +kernel
theorem dX9_list_23 : decode cX9_list 23 = .ok (.ifCond .ge 6, 3) := by decide +kernel
theorem dX9_list_26 : decode cX9_list 26 = .ok (.bipush (-14), 2) := by decide +kernel
theorem dX9_list_28 : decode cX9_list 28 = .ok (.ireturn, 1) := by decide +kernel
theorem dX9_list_29 : decode cX9_list 29 = .ok (.aload_n 0, 1) := by decide +kernel
theorem dX9_list_30 : decode cX9_list 30 = .ok (.getfield 79, 3) := by decide +kernel
theorem dX9_list_33 : decode cX9_list 33 = .ok (.iload_n 1, 1) := by decide +kernel
theorem dX9_list_34 : decode cX9_list 34 = .ok (.iload_n 2, 1) := by decide +kernel
theorem dX9_list_35 : decode cX9_list 35 = .ok (.invokevirtual 320, 3) := by decide +kernel
theorem dX9_list_38 : decode cX9_list 38 = .ok (.iconst 1, 1) := by decide +kernel
theorem dX9_list_39 : decode cX9_list 39 = .ok (.ireturn, 1) := by decide +kernel
theorem dX9_set_0 : decode cX9_set 0 = .ok (.aload_n 0, 1) := by decide +kernel
theorem dX9_set_1 : decode cX9_set 1 = .ok (.getfield 79, 3) := by decide +kernel
theorem dX9_set_4 : decode cX9_set 4 = .ok (.iload_n 1, 1) := by decide +kernel
theorem dX9_set_5 : decode cX9_set 5 = .ok (.invokevirtual 317, 3) := by decide +kernel
theorem dX9_set_8 : decode cX9_set 8 = .ok (.ifCond .ne 5, 3) := by decide +kernel
theorem dX9_set_11 : decode cX9_set 11 = .ok (.iconst (-1), 1) := by decide +kernel
theorem dX9_set_12 : decode cX9_set 12 = .ok (.ireturn, 1) := by decide +kernel
theorem dX9_set_13 : decode cX9_set 13 = .ok (.aload_n 0, 1) := by decide +kernel
theorem dX9_set_14 : decode cX9_set 14 = .ok (.getfield 79, 3) := by decide +kernel
theorem dX9_set_17 : decode cX9_set 17 = .ok (.iload_n 1, 1) := by decide +kernel
theorem dX9_set_18 : decode cX9_set 18 = .ok (.invokevirtual 323, 3) := by decide +kernel
theorem dX9_set_21 : decode cX9_set 21 = .ok (.ifCond .ne 6, 3) := by decide +kernel
theorem dX9_set_24 : decode cX9_set 24 = .ok (.bipush (-11), 2) := by decide +kernel
theorem dX9_set_26 : decode cX9_set 26 = .ok (.ireturn, 1) := by decide +kernel
theorem dX9_set_27 : decode cX9_set 27 = .ok (.aload_n 0, 1) := by decide +kernel
theorem dX9_set_28 : decode cX9_set 28 = .ok (.getfield 79, 3) := by decide +kernel
theorem dX9_set_31 : decode cX9_set 31 = .ok (.iload_n 1, 1) := by decide +kernel
theorem dX9_set_32 : decode cX9_set 32 = .ok (.iload_n 2, 1) := by decide +kernel
theorem dX9_set_33 : decode cX9_set 33 = .ok (.iload_n 3, 1) := by decide +kernel
theorem dX9_set_34 : decode cX9_set 34 = .ok (.invokevirtual 326, 3) := by decide +kernel
theorem dX9_set_37 : decode cX9_set 37 = .ok (.ifCond .eq 7, 3) := by decide +kernel
theorem dX9_set_40 : decode cX9_set 40 = .ok (.iconst 1, 1) := by decide +kernel
theorem dX9_set_41 : decode cX9_set 41 = .ok (.goto 5, 3) := by decide +kernel
theorem dX9_set_44 : decode cX9_set 44 = .ok (.bipush (-13), 2) := by decide +kernel
theorem dX9_set_46 : decode cX9_set 46 = .ok (.ireturn, 1) := by decide +kernel
theorem dX9_get_0 : decode cX9_get 0 = .ok (.aload_n 0, 1) := by decide +kernel
theorem dX9_get_1 : decode cX9_get 1 = .ok (.getfield 79, 3) := by decide +kernel
theorem dX9_get_4 : decode cX9_get 4 = .ok (.iload_n 1, 1) := by decide +kernel
theorem dX9_get_5 : decode cX9_get 5 = .ok (.iload_n 2, 1) := by decide +kernel
theorem dX9_get_6 : decode cX9_get 6 = .ok (.invokevirtual 330, 3) := by decide +kernel
theorem dX9_get_9 : decode cX9_get 9 = .ok (.lreturn, 1) := by decide +kernel
theorem dX9_lay_0 : decode cX9_lay 0 = .ok (.aload_n 0, 1) := by decide +kernel
theorem dX9_lay_1 : decode cX9_lay 1 = .ok (.getfield 79, 3) := by decide +kernel
theorem dX9_lay_4 : decode cX9_lay 4 = .ok (.iload_n 1, 1) := by decide +kernel
theorem dX9_lay_5 : decode cX9_lay 5 = .ok (.invokevirtual 317, 3) := by decide +kernel
theorem dX9_lay_8 : decode cX9_lay 8 = .ok (.ifCond .ne 5, 3) := by decide +kernel
theorem dX9_lay_11 : decode cX9_lay 11 = .ok (.iconst (-1), 1) := by decide +kernel
theorem dX9_lay_12 : decode cX9_lay 12 = .ok (.ireturn, 1) := by decide +kernel
theorem dX9_lay_13 : decode cX9_lay 13 = .ok (.aload_n 0, 1) := by decide +kernel
theorem dX9_lay_14 : decode cX9_lay 14 = .ok (.getfield 79, 3) := by decide +kernel
theorem dX9_lay_17 : decode cX9_lay 17 = .ok (.iload_n 1, 1) := by decide +kernel
theorem dX9_lay_18 : decode cX9_lay 18 = .ok (.invokevirtual 323, 3) := by decide +kernel
theorem dX9_lay_21 : decode cX9_lay 21 = .ok (.ifCond .ne 6, 3) := by decide +kernel
theorem dX9_lay_24 : decode cX9_lay 24 = .ok (.bipush (-11), 2) := by decide +kernel
theorem dX9_lay_26 : decode cX9_lay 26 = .ok (.ireturn, 1) := by decide +kernel
theorem dX9_lay_27 : decode cX9_lay 27 = .ok (.iconst 0, 1) := by decide +kernel
theorem dX9_lay_28 : decode cX9_lay 28 = .ok (.istore_n 3, 1) := by decide +kernel
theorem dX9_lay_29 : decode cX9_lay 29 = .ok (.iload_n 2, 1) := by decide +kernel
theorem dX9_lay_30 : decode cX9_lay 30 = .ok (.ifCond .lt 49, 3) := by decide +kernel
theorem dX9_lay_33 : decode cX9_lay 33 = .ok (.iload_n 3, 1) := by decide +kernel
theorem dX9_lay_34 : decode cX9_lay 34 = .ok (.aload_n 0, 1) := by decide +kernel
theorem dX9_lay_35 : decode cX9_lay 35 = .ok (.getfield 13, 3) := by decide +kernel
theorem dX9_lay_38 : decode cX9_lay 38 = .ok (.getfield 164, 3) := by decide +kernel
theorem dX9_lay_41 : decode cX9_lay 41 = .ok (.if_icmp .ge 38, 3) := by decide +kernel
theorem dX9_lay_44 : decode cX9_lay 44 = .ok (.aload_n 0, 1) := by decide +kernel
theorem dX9_lay_45 : decode cX9_lay 45 = .ok (.getfield 79, 3) := by decide +kernel
theorem dX9_lay_48 : decode cX9_lay 48 = .ok (.iload_n 1, 1) := by decide +kernel
theorem dX9_lay_49 : decode cX9_lay 49 = .ok (.iload_n 2, 1) := by decide +kernel
theorem dX9_lay_50 : decode cX9_lay 50 = .ok (.iload_n 3, 1) := by decide +kernel
theorem dX9_lay_51 : decode cX9_lay 51 = .ok (.iadd, 1) := by decide +kernel
theorem dX9_lay_52 : decode cX9_lay 52 = .ok (.aload_n 0, 1) := by decide +kernel
theorem dX9_lay_53 : decode cX9_lay 53 = .ok (.getfield 13, 3) := by decide +kernel
theorem dX9_lay_56 : decode cX9_lay 56 = .ok (.aload_n 0, 1) := by decide +kernel
theorem dX9_lay_57 : decode cX9_lay 57 = .ok (.getfield 13, 3) := by decide +kernel
theorem dX9_lay_60 : decode cX9_lay 60 = .ok (.iload_n 3, 1) := by decide +kernel
theorem dX9_lay_61 : decode cX9_lay 61 = .ok (.invokevirtual 197, 3) := by decide +kernel
theorem dX9_lay_64 : decode cX9_lay 64 = .ok (.invokevirtual 185, 3) := by decide +kernel
theorem dX9_lay_67 : decode cX9_lay 67 = .ok (.invokevirtual 326, 3) := by decide +kernel
theorem dX9_lay_70 : decode cX9_lay 70 = .ok (.ifCond .eq 9, 3) := by decide +kernel
theorem dX9_lay_73 : decode cX9_lay 73 = .ok (.iinc 3 1, 3) := by decide +kernel
theorem dX9_lay_76 : decode cX9_lay 76 = .ok (.goto (-47), 3) := by decide +kernel
theorem dX9_lay_79 : decode cX9_lay 79 = .ok (.iload_n 3, 1) := by decide +kernel
theorem dX9_lay_80 : decode cX9_lay 80 = .ok (.aload_n 0, 1) := by decide +kernel
theorem dX9_lay_81 : decode cX9_lay 81 = .ok (.getfield 13, 3) := by decide +kernel
theorem dX9_lay_84 : decode cX9_lay 84 = .ok (.getfield 164, 3) := by decide +kernel
theorem dX9_lay_87 : decode cX9_lay 87 = .ok (.if_icmp .ge 8, 3) := by decide +kernel
theorem dX9_lay_90 : decode cX9_lay 90 = .ok (.bipush (-13), 2) := by decide +kernel
theorem dX9_lay_92 : decode cX9_lay 92 = .ok (.goto 4, 3) := by decide +kernel
theorem dX9_lay_95 : decode cX9_lay 95 = .ok (.iload_n 3, 1) := by decide +kernel
theorem dX9_lay_96 : decode cX9_lay 96 = .ok (.ireturn, 1) := by decide +kernel
theorem dX9_image_0 : decode cX9_image 0 = .ok (.aload_n 0, 1) := by decide +kernel
theorem dX9_image_1 : decode cX9_image 1 = .ok (.getfield 19, 3) := by decide +kernel
theorem dX9_image_4 : decode cX9_image 4 = .ok (.aload_n 0, 1) := by decide +kernel
theorem dX9_image_5 : decode cX9_image 5 = .ok (.getfield 13, 3) := by decide +kernel
theorem dX9_image_8 : decode cX9_image 8 = .ok (.invokevirtual 334, 3) := by decide +kernel
theorem dX9_image_11 : decode cX9_image 11 = .ok (.aload_n 0, 1) := by decide +kernel
theorem dX9_image_12 : decode cX9_image 12 = .ok (.iconst 1, 1) := by decide +kernel
theorem dX9_image_13 : decode cX9_image 13 = .ok (.putfield 22, 3) := by decide +kernel
theorem dX9_image_16 : decode cX9_image 16 = .ok (.aload_n 0, 1) := by decide +kernel
theorem dX9_image_17 : decode cX9_image 17 = .ok (.getfield 13, 3) := by decide +kernel
theorem dX9_image_20 : decode cX9_image 20 = .ok (.getfield 83, 3) := by decide +kernel
theorem dX9_image_23 : decode cX9_image 23 = .ok (.ireturn, 1) := by decide +kernel
theorem dX9_undo_0 : decode cX9_undo 0 = .ok (.aload_n 0, 1) := by decide +kernel
theorem dX9_undo_1 : decode cX9_undo 1 = .ok (.getfield 22, 3) := by decide +kernel
theorem dX9_undo_4 : decode cX9_undo 4 = .ok (.ifCond .ne 6, 3) := by decide +kernel
theorem dX9_undo_7 : decode cX9_undo 7 = .ok (.bipush (-3), 2) := by decide +kernel
theorem dX9_undo_9 : decode cX9_undo 9 = .ok (.ireturn, 1) := by decide +kernel
theorem dX9_undo_10 : decode cX9_undo 10 = .ok (.aload_n 0, 1) := by decide +kernel
theorem dX9_undo_11 : decode cX9_undo 11 = .ok (.getfield 13, 3) := by decide +kernel
theorem dX9_undo_14 : decode cX9_undo 14 = .ok (.aload_n 0, 1) := by decide +kernel
theorem dX9_undo_15 : decode cX9_undo 15 = .ok (.getfield 19, 3) := by decide +kernel
theorem dX9_undo_18 : decode cX9_undo 18 = .ok (.invokevirtual 334, 3) := by decide +kernel
theorem dX9_undo_21 : decode cX9_undo 21 = .ok (.aload_n 0, 1) := by decide +kernel
theorem dX9_undo_22 : decode cX9_undo 22 = .ok (.getfield 13, 3) := by decide +kernel
theorem dX9_undo_25 : decode cX9_undo 25 = .ok (.getfield 83, 3) := by decide +kernel
theorem dX9_undo_28 : decode cX9_undo 28 = .ok (.ireturn, 1) := by decide +kernel
theorem dX9_isKind_0 : decode cX9_isKind 0 = .ok (.iload_n 0, 1) := by decide +kernel
theorem dX9_isKind_1 : decode cX9_isKind 1 = .ok (.ifCond .lt 12, 3) := by decide +kernel
theorem dX9_isKind_4 : decode cX9_isKind 4 = .ok (.iload_n 0, 1) := by decide +kernel
theorem dX9_isKind_5 : decode cX9_isKind 5 = .ok (.iconst 4, 1) := by decide +kernel
theorem dX9_isKind_6 : decode cX9_isKind 6 = .ok (.if_icmp .ge 7, 3) := by decide +kernel
theorem dX9_isKind_9 : decode cX9_isKind 9 = .ok (.iconst 1, 1) := by decide +kernel
theorem dX9_isKind_10 : decode cX9_isKind 10 = .ok (.goto 4, 3) := by decide +kernel
theorem dX9_isKind_13 : decode cX9_isKind 13 = .ok (.iconst 0, 1) := by decide +kernel
theorem dX9_isKind_14 : decode cX9_isKind 14 = .ok (.ireturn, 1) := by decide +kernel
theorem dX9_isKindAfter_0 : decode cX9_isKindAfter 0 = .ok (.iload_n 1, 1) := by decide +kernel
theorem dX9_isKindAfter_1 : decode cX9_isKindAfter 1 = .ok (.iload_n 0, 1) := by decide +kernel
theorem dX9_isKindAfter_2 : decode cX9_isKindAfter 2 = .ok (.if_icmp .lt 14, 3) := by decide +kernel
theorem dX9_isKindAfter_5 : decode cX9_isKindAfter 5 = .ok (.iload_n 1, 1) := by decide +kernel
theorem dX9_isKindAfter_6 : decode cX9_isKindAfter 6 = .ok (.iload_n 0, 1) := by decide +kernel
theorem dX9_isKindAfter_7 : decode cX9_isKindAfter 7 = .ok (.iconst 4, 1) := by decide +kernel
theorem dX9_isKindAfter_8 : decode cX9_isKindAfter 8 = .ok (.iadd, 1) := by decide +kernel
theorem dX9_isKindAfter_9 : decode cX9_isKindAfter 9 = .ok (.if_icmp .ge 7, 3) := by decide +kernel
theorem dX9_isKindAfter_12 : decode cX9_isKindAfter 12 = .ok (.iconst 1, 1) := by decide +kernel
theorem dX9_isKindAfter_13 : decode cX9_isKindAfter 13 = .ok (.goto 4, 3) := by decide +kernel
theorem dX9_isKindAfter_16 : decode cX9_isKindAfter 16 = .ok (.iconst 0, 1) := by decide +kernel
theorem dX9_isKindAfter_17 : decode cX9_isKindAfter 17 = .ok (.ireturn, 1) := by decide +kernel
theorem dX9_orNobody_0 : decode cX9_orNobody 0 = .ok (.iload_n 0, 1) := by decide +kernel
theorem dX9_orNobody_1 : decode cX9_orNobody 1 = .ok (.iconst (-1), 1) := by decide +kernel
theorem dX9_orNobody_2 : decode cX9_orNobody 2 = .ok (.if_icmp .ne 8, 3) := by decide +kernel
theorem dX9_orNobody_5 : decode cX9_orNobody 5 = .ok (.bipush (-5), 2) := by decide +kernel
theorem dX9_orNobody_7 : decode cX9_orNobody 7 = .ok (.goto 4, 3) := by decide +kernel
theorem dX9_orNobody_10 : decode cX9_orNobody 10 = .ok (.iload_n 0, 1) := by decide +kernel
theorem dX9_orNobody_11 : decode cX9_orNobody 11 = .ok (.ireturn, 1) := by decide +kernel
theorem dX9_faultAnswer_0 : decode cX9_faultAnswer 0 = .ok (.bipush (-100), 2) := by decide +kernel
theorem dX9_faultAnswer_2 : decode cX9_faultAnswer 2 = .ok (.aload_n 0, 1) := by decide +kernel
theorem dX9_faultAnswer_3 : decode cX9_faultAnswer 3 = .ok (.getfield 49, 3) := by decide +kernel
theorem dX9_faultAnswer_6 : decode cX9_faultAnswer 6 = .ok (.invokevirtual 337, 3) := by decide +kernel
theorem dX9_faultAnswer_9 : decode cX9_faultAnswer 9 = .ok (.isub, 1) := by decide +kernel
theorem dX9_faultAnswer_10 : decode cX9_faultAnswer 10 = .ok (.istore_n 1, 1) := by decide +kernel
theorem dX9_faultAnswer_11 : decode cX9_faultAnswer 11 = .ok (.aload_n 0, 1) := by decide +kernel
theorem dX9_faultAnswer_12 : decode cX9_faultAnswer 12 = .ok (.getfield 49, 3) := by decide +kernel
theorem dX9_faultAnswer_15 : decode cX9_faultAnswer 15 = .ok (.invokevirtual 158, 3) := by decide +kernel
theorem dX9_faultAnswer_18 : decode cX9_faultAnswer 18 = .ok (.pop, 1) := by decide +kernel
theorem dX9_faultAnswer_19 : decode cX9_faultAnswer 19 = .ok (.iload_n 1, 1) := by decide +kernel
theorem dX9_faultAnswer_20 : decode cX9_faultAnswer 20 = .ok (.ireturn, 1) := by decide +kernel
theorem dX9_readsRoster_0 : decode cX9_readsRoster 0 = .ok (.aload_n 0, 1) := by decide +kernel
theorem dX9_readsRoster_1 : decode cX9_readsRoster 1 = .ok (.getfield 13, 3) := by decide +kernel
theorem dX9_readsRoster_4 : decode cX9_readsRoster 4 = .ok (.getfield 164, 3) := by decide +kernel
theorem dX9_readsRoster_7 : decode cX9_readsRoster 7 = .ok (.ifCond .ne 13, 3) := by decide +kernel
theorem dX9_readsRoster_10 : decode cX9_readsRoster 10 = .ok (.aload_n 0, 1) := by decide +kernel
theorem dX9_readsRoster_11 : decode cX9_readsRoster 11 = .ok (.getfield 49, 3) := by decide +kernel
theorem dX9_readsRoster_14 : decode cX9_readsRoster 14 = .ok (.invokevirtual 158, 3) := by decide +kernel
theorem dX9_readsRoster_17 : decode cX9_readsRoster 17 = .ok (.pop, 1) := by decide +kernel
theorem dX9_readsRoster_18 : decode cX9_readsRoster 18 = .ok (.iconst 0, 1) := by decide +kernel
theorem dX9_readsRoster_19 : decode cX9_readsRoster 19 = .ok (.ireturn, 1) := by decide +kernel
theorem dX9_readsRoster_20 : decode cX9_readsRoster 20 = .ok (.aload_n 0, 1) := by decide +kernel
theorem dX9_readsRoster_21 : decode cX9_readsRoster 21 = .ok (.getfield 58, 3) := by decide +kernel
theorem dX9_readsRoster_24 : decode cX9_readsRoster 24 = .ok (.invokevirtual 340, 3) := by decide +kernel
theorem dX9_readsRoster_27 : decode cX9_readsRoster 27 = .ok (.iconst 1, 1) := by decide +kernel
theorem dX9_readsRoster_28 : decode cX9_readsRoster 28 = .ok (.ireturn, 1) := by decide +kernel
theorem dX9_judgeLoads_0 : decode cX9_judgeLoads 0 = .ok (.iconst 0, 1) := by decide +kernel
theorem dX9_judgeLoads_1 : decode cX9_judgeLoads 1 = .ok (.istore_n 2, 1) := by decide +kernel
theorem dX9_judgeLoads_2 : decode cX9_judgeLoads 2 = .ok (.iload_n 2, 1) := by decide +kernel
theorem dX9_judgeLoads_3 : decode cX9_judgeLoads 3 = .ok (.iconst 4, 1) := by decide +kernel
theorem dX9_judgeLoads_4 : decode cX9_judgeLoads 4 = .ok (.if_icmp .ge 41, 3) := by decide +kernel
theorem dX9_judgeLoads_7 : decode cX9_judgeLoads 7 = .ok (.aload_n 0, 1) := by decide +kernel
theorem dX9_judgeLoads_8 : decode cX9_judgeLoads 8 = .ok (.getfield 13, 3) := by decide +kernel
theorem dX9_judgeLoads_11 : decode cX9_judgeLoads 11 = .ok (.aload_n 1, 1) := by decide +kernel
theorem dX9_judgeLoads_12 : decode cX9_judgeLoads 12 = .ok (.iload_n 2, 1) := by decide +kernel
theorem dX9_judgeLoads_13 : decode cX9_judgeLoads 13 = .ok (.invokevirtual 306, 3) := by decide +kernel
theorem dX9_judgeLoads_16 : decode cX9_judgeLoads 16 = .ok (.aload_n 0, 1) := by decide +kernel
theorem dX9_judgeLoads_17 : decode cX9_judgeLoads 17 = .ok (.getfield 13, 3) := by decide +kernel
theorem dX9_judgeLoads_20 : decode cX9_judgeLoads 20 = .ok (.aload_n 0, 1) := by decide +kernel
theorem dX9_judgeLoads_21 : decode cX9_judgeLoads 21 = .ok (.getfield 13, 3) := by decide +kernel
theorem dX9_judgeLoads_24 : decode cX9_judgeLoads 24 = .ok (.getfield 302, 3) := by decide +kernel
theorem dX9_judgeLoads_27 : decode cX9_judgeLoads 27 = .ok (.iload_n 2, 1) := by decide +kernel
theorem dX9_judgeLoads_28 : decode cX9_judgeLoads 28 = .ok (.invokevirtual 306, 3) := by decide +kernel
theorem dX9_judgeLoads_31 : decode cX9_judgeLoads 31 = .ok (.if_icmp .le 8, 3) := by decide +kernel
theorem dX9_judgeLoads_34 : decode cX9_judgeLoads 34 = .ok (.bipush 100, 2) := by decide +kernel
theorem dX9_judgeLoads_36 : decode cX9_judgeLoads 36 = .ok (.iload_n 2, 1) := by decide +kernel
theorem dX9_judgeLoads_37 : decode cX9_judgeLoads 37 = .ok (.iadd, 1) := by decide +kernel
theorem dX9_judgeLoads_38 : decode cX9_judgeLoads 38 = .ok (.ireturn, 1) := by decide +kernel
theorem dX9_judgeLoads_39 : decode cX9_judgeLoads 39 = .ok (.iinc 2 1, 3) := by decide +kernel
theorem dX9_judgeLoads_42 : decode cX9_judgeLoads 42 = .ok (.goto (-40), 3) := by decide +kernel
theorem dX9_judgeLoads_45 : decode cX9_judgeLoads 45 = .ok (.iconst 0, 1) := by decide +kernel
theorem dX9_judgeLoads_46 : decode cX9_judgeLoads 46 = .ok (.istore_n 2, 1) := by decide +kernel
theorem dX9_judgeLoads_47 : decode cX9_judgeLoads 47 = .ok (.iload_n 2, 1) := by decide +kernel
theorem dX9_judgeLoads_48 : decode cX9_judgeLoads 48 = .ok (.iconst 4, 1) := by decide +kernel
theorem dX9_judgeLoads_49 : decode cX9_judgeLoads 49 = .ok (.if_icmp .ge 39, 3) := by decide +kernel
theorem dX9_judgeLoads_52 : decode cX9_judgeLoads 52 = .ok (.aload_n 0, 1) := by decide +kernel
theorem dX9_judgeLoads_53 : decode cX9_judgeLoads 53 = .ok (.getfield 31, 3) := by decide +kernel
theorem dX9_judgeLoads_56 : decode cX9_judgeLoads 56 = .ok (.aload_n 1, 1) := by decide +kernel
theorem dX9_judgeLoads_57 : decode cX9_judgeLoads 57 = .ok (.iload_n 2, 1) := by decide +kernel
theorem dX9_judgeLoads_58 : decode cX9_judgeLoads 58 = .ok (.invokevirtual 343, 3) := by decide +kernel
theorem dX9_judgeLoads_61 : decode cX9_judgeLoads 61 = .ok (.istore_n 3, 1) := by decide +kernel
theorem dX9_judgeLoads_62 : decode cX9_judgeLoads 62 = .ok (.iload_n 3, 1) := by decide +kernel
theorem dX9_judgeLoads_63 : decode cX9_judgeLoads 63 = .ok (.ifCond .eq 19, 3) := by decide +kernel
theorem dX9_judgeLoads_66 : decode cX9_judgeLoads 66 = .ok (.iload_n 3, 1) := by decide +kernel
theorem dX9_judgeLoads_67 : decode cX9_judgeLoads 67 = .ok (.ifCond .ge 9, 3) := by decide +kernel
theorem dX9_judgeLoads_70 : decode cX9_judgeLoads 70 = .ok (.sipush 200, 3) := by decide +kernel
theorem dX9_judgeLoads_73 : decode cX9_judgeLoads 73 = .ok (.goto 6, 3) := by decide +kernel
theorem dX9_judgeLoads_76 : decode cX9_judgeLoads 76 = .ok (.sipush 300, 3) := by decide +kernel
theorem dX9_judgeLoads_79 : decode cX9_judgeLoads 79 = .ok (.iload_n 2, 1) := by decide +kernel
theorem dX9_judgeLoads_80 : decode cX9_judgeLoads 80 = .ok (.iadd, 1) := by decide +kernel
theorem dX9_judgeLoads_81 : decode cX9_judgeLoads 81 = .ok (.ireturn, 1) := by decide +kernel
theorem dX9_judgeLoads_82 : decode cX9_judgeLoads 82 = .ok (.iinc 2 1, 3) := by decide +kernel
theorem dX9_judgeLoads_85 : decode cX9_judgeLoads 85 = .ok (.goto (-38), 3) := by decide +kernel
theorem dX9_judgeLoads_88 : decode cX9_judgeLoads 88 = .ok (.bipush (-5), 2) := by decide +kernel
theorem dX9_judgeLoads_90 : decode cX9_judgeLoads 90 = .ok (.ireturn, 1) := by decide +kernel
theorem dX10_init_0 : decode cX10_init 0 = .ok (.aload_n 0, 1) := by decide +kernel
theorem dX10_init_1 : decode cX10_init 1 = .ok (.invokespecial 1, 3) := by decide +kernel
theorem dX10_init_4 : decode cX10_init 4 = .ok (.aload_n 0, 1) := by decide +kernel
theorem dX10_init_5 : decode cX10_init 5 = .ok (.sipush 515, 3) := by decide +kernel
theorem dX10_init_8 : decode cX10_init 8 = .ok (.newarray .int, 2) := by decide +kernel
theorem dX10_init_10 : decode cX10_init 10 = .ok (.putfield 9, 3) := by decide +kernel
theorem dX10_init_13 : decode cX10_init 13 = .ok (.aload_n 0, 1) := by decide +kernel
theorem dX10_init_14 : decode cX10_init 14 = .ok (.sipush 515, 3) := by decide +kernel
theorem dX10_init_17 : decode cX10_init 17 = .ok (.newarray .int, 2) := by decide +kernel
theorem dX10_init_19 : decode cX10_init 19 = .ok (.putfield 13, 3) := by decide +kernel
theorem dX10_init_22 : decode cX10_init 22 = .ok (.aload_n 0, 1) := by decide +kernel
theorem dX10_init_23 : decode cX10_init 23 = .ok (.iconst 4, 1) := by decide +kernel
theorem dX10_init_24 : decode cX10_init 24 = .ok (.newarray .int, 2) := by decide +kernel
theorem dX10_init_26 : decode cX10_init 26 = .ok (.dup, 1) := by decide +kernel
theorem dX10_init_27 : decode cX10_init 27 = .ok (.iconst 0, 1) := by decide +kernel
theorem dX10_init_28 : decode cX10_init 28 = .ok (.bipush 104, 2) := by decide +kernel
theorem dX10_init_30 : decode cX10_init 30 = .ok (.iastore, 1) := by decide +kernel
theorem dX10_init_31 : decode cX10_init 31 = .ok (.dup, 1) := by decide +kernel
theorem dX10_init_32 : decode cX10_init 32 = .ok (.iconst 1, 1) := by decide +kernel
theorem dX10_init_33 : decode cX10_init 33 = .ok (.bipush 101, 2) := by decide +kernel
theorem dX10_init_35 : decode cX10_init 35 = .ok (.iastore, 1) := by decide +kernel
theorem dX10_init_36 : decode cX10_init 36 = .ok (.dup, 1) := by decide +kernel
theorem dX10_init_37 : decode cX10_init 37 = .ok (.iconst 2, 1) := by decide +kernel
theorem dX10_init_38 : decode cX10_init 38 = .ok (.bipush 110, 2) := by decide +kernel
theorem dX10_init_40 : decode cX10_init 40 = .ok (.iastore, 1) := by decide +kernel
theorem dX10_init_41 : decode cX10_init 41 = .ok (.dup, 1) := by decide +kernel
theorem dX10_init_42 : decode cX10_init 42 = .ok (.iconst 3, 1) := by decide +kernel
theorem dX10_init_43 : decode cX10_init 43 = .ok (.bipush 112, 2) := by decide +kernel
theorem dX10_init_45 : decode cX10_init 45 = .ok (.iastore, 1) := by decide +kernel
theorem dX10_init_46 : decode cX10_init 46 = .ok (.putfield 16, 3) := by decide +kernel
theorem dX10_init_49 : decode cX10_init 49 = .ok (.aload_n 0, 1) := by decide +kernel
theorem dX10_init_50 : decode cX10_init 50 = .ok (.iconst 4, 1) := by decide +kernel
theorem dX10_init_51 : decode cX10_init 51 = .ok (.newarray .int, 2) := by decide +kernel
theorem dX10_init_53 : decode cX10_init 53 = .ok (.dup, 1) := by decide +kernel
theorem dX10_init_54 : decode cX10_init 54 = .ok (.iconst 0, 1) := by decide +kernel
theorem dX10_init_55 : decode cX10_init 55 = .ok (.iconst 5, 1) := by decide +kernel
theorem dX10_init_56 : decode cX10_init 56 = .ok (.iastore, 1) := by decide +kernel
theorem dX10_init_57 : decode cX10_init 57 = .ok (.dup, 1) := by decide +kernel
theorem dX10_init_58 : decode cX10_init 58 = .ok (.iconst 1, 1) := by decide +kernel
theorem dX10_init_59 : decode cX10_init 59 = .ok (.iconst 3, 1) := by decide +kernel
theorem dX10_init_60 : decode cX10_init 60 = .ok (.iastore, 1) := by decide +kernel
theorem dX10_init_61 : decode cX10_init 61 = .ok (.dup, 1) := by decide +kernel
theorem dX10_init_62 : decode cX10_init 62 = .ok (.iconst 2, 1) := by decide +kernel
theorem dX10_init_63 : decode cX10_init 63 = .ok (.iconst 2, 1) := by decide +kernel
theorem dX10_init_64 : decode cX10_init 64 = .ok (.iastore, 1) := by decide +kernel
theorem dX10_init_65 : decode cX10_init 65 = .ok (.dup, 1) := by decide +kernel
theorem dX10_init_66 : decode cX10_init 66 = .ok (.iconst 3, 1) := by decide +kernel
theorem dX10_init_67 : decode cX10_init 67 = .ok (.iconst 1, 1) := by decide +kernel
theorem dX10_init_68 : decode cX10_init 68 = .ok (.iastore, 1) := by decide +kernel
theorem dX10_init_69 : decode cX10_init 69 = .ok (.putfield 19, 3) := by decide +kernel
theorem dX10_init_72 : decode cX10_init 72 = .ok (.aload_n 0, 1) := by decide +kernel
theorem dX10_init_73 : decode cX10_init 73 = .ok (.bipush 24, 2) := by decide +kernel
theorem dX10_init_75 : decode cX10_init 75 = .ok (.newarray .int, 2) := by decide +kernel
theorem dX10_init_77 : decode cX10_init 77 = .ok (.putfield 22, 3) := by decide +kernel
theorem dX10_init_80 : decode cX10_init 80 = .ok (.aload_n 0, 1) := by decide +kernel
theorem dX10_init_81 : decode cX10_init 81 = .ok (.bipush 8, 2) := by decide +kernel
theorem dX10_init_83 : decode cX10_init 83 = .ok (.newarray .int, 2) := by decide +kernel
theorem dX10_init_85 : decode cX10_init 85 = .ok (.putfield 25, 3) := by decide +kernel
theorem dX10_init_88 : decode cX10_init 88 = .ok (.aload_n 0, 1) := by decide +kernel
theorem dX10_init_89 : decode cX10_init 89 = .ok (.bipush 8, 2) := by decide +kernel
theorem dX10_init_91 : decode cX10_init 91 = .ok (.newarray .int, 2) := by decide +kernel
theorem dX10_init_93 : decode cX10_init 93 = .ok (.putfield 28, 3) := by decide +kernel
theorem dX10_init_96 : decode cX10_init 96 = .ok (.aload_n 0, 1) := by decide +kernel
theorem dX10_init_97 : decode cX10_init 97 = .ok (.bipush 8, 2) := by decide +kernel
theorem dX10_init_99 : decode cX10_init 99 = .ok (.newarray .boolean, 2) := by decide +kernel
theorem dX10_init_101 : decode cX10_init 101 = .ok (.putfield 31, 3) := by decide +kernel
theorem dX10_init_104 : decode cX10_init 104 = .ok (.aload_n 0, 1) := by decide +kernel
theorem dX10_init_105 : decode cX10_init 105 = .ok (.bipush 8, 2) := by decide +kernel
theorem dX10_init_107 : decode cX10_init 107 = .ok (.newarray .int, 2) := by decide +kernel
theorem dX10_init_109 : decode cX10_init 109 = .ok (.putfield 35, 3) := by decide +kernel
theorem dX10_init_112 : decode cX10_init 112 = .ok (.aload_n 0, 1) := by decide +kernel
theorem dX10_init_113 : decode cX10_init 113 = .ok (.iconst 4, 1) := by decide +kernel
theorem dX10_init_114 : decode cX10_init 114 = .ok (.newarray .int, 2) := by decide +kernel
theorem dX10_init_116 : decode cX10_init 116 = .ok (.putfield 38, 3) := by decide +kernel
theorem dX10_init_119 : decode cX10_init 119 = .ok (.aload_n 0, 1) := by decide +kernel
theorem dX10_init_120 : decode cX10_init 120 = .ok (.iconst 4, 1) := by decide +kernel
theorem dX10_init_121 : decode cX10_init 121 = .ok (.newarray .int, 2) := by decide +kernel
theorem dX10_init_123 : decode cX10_init 123 = .ok (.putfield 41, 3) := by decide +kernel
theorem dX10_init_126 : decode cX10_init 126 = .ok (.aload_n 0, 1) := by decide +kernel
theorem dX10_init_127 : decode cX10_init 127 = .ok (.sipush 150, 3) := by decide +kernel
theorem dX10_init_130 : decode cX10_init 130 = .ok (.newarray .int, 2) := by decide +kernel
theorem dX10_init_132 : decode cX10_init 132 = .ok (.putfield 44, 3) := by decide +kernel
theorem dX10_init_135 : decode cX10_init 135 = .ok (.aload_n 0, 1) := by decide +kernel
theorem dX10_init_136 : decode cX10_init 136 = .ok (.bipush 72, 2) := by decide +kernel
theorem dX10_init_138 : decode cX10_init 138 = .ok (.newarray .int, 2) := by decide +kernel
theorem dX10_init_140 : decode cX10_init 140 = .ok (.putfield 47, 3) := by decide +kernel
theorem dX10_init_143 : decode cX10_init 143 = .ok (.aload_n 0, 1) := by decide +kernel
theorem dX10_init_144 : decode cX10_init 144 = .ok (.bipush 24, 2) := by decide +kernel
theorem dX10_init_146 : decode cX10_init 146 = .ok (.newarray .int, 2) := by decide +kernel
theorem dX10_init_148 : decode cX10_init 148 = .ok (.putfield 50, 3) := by decide +kernel
theorem dX10_init_151 : decode cX10_init 151 = .ok (.aload_n 0, 1) := by decide +kernel
theorem dX10_init_152 : decode cX10_init 152 = .ok (.bipush 24, 2) := by decide +kernel
theorem dX10_init_154 : decode cX10_init 154 = .ok (.newarray .int, 2) := by decide +kernel
theorem dX10_init_156 : decode cX10_init 156 = .ok (.putfield 53, 3) := by decide +kernel
theorem dX10_init_159 : decode cX10_init 159 = .ok (.aload_n 0, 1) := by decide +kernel
theorem dX10_init_160 : decode cX10_init 160 = .ok (.bipush 8, 2) := by decide +kernel
theorem dX10_init_162 : decode cX10_init 162 = .ok (.newarray .int, 2) := by decide +kernel
theorem dX10_init_164 : decode cX10_init 164 = .ok (.putfield 56, 3) := by decide +kernel
theorem dX10_init_167 : decode cX10_init 167 = .ok (.aload_n 0, 1) := by decide +kernel
theorem dX10_init_168 : decode cX10_init 168 = .ok (.sipush 168, 3) := by decide +kernel
theorem dX10_init_171 : decode cX10_init 171 = .ok (.newarray .int, 2) := by decide +kernel
theorem dX10_init_173 : decode cX10_init 173 = .ok (.putfield 59, 3) := by decide +kernel
theorem dX10_init_176 : decode cX10_init 176 = .ok (.aload_n 0, 1) := by decide +kernel
theorem dX10_init_177 : decode cX10_init 177 = .ok (.iconst 4, 1) := by decide +kernel
theorem dX10_init_178 : decode cX10_init 178 = .ok (.newarray .int, 2) := by decide +kernel
theorem dX10_init_180 : decode cX10_init 180 = .ok (.dup, 1) := by decide +kernel
theorem dX10_init_181 : decode cX10_init 181 = .ok (.iconst 0, 1) := by decide +kernel
theorem dX10_init_182 : decode cX10_init 182 = .ok (.iconst (-1), 1) := by decide +kernel
theorem dX10_init_183 : decode cX10_init 183 = .ok (.iastore, 1) := by decide +kernel
theorem dX10_init_184 : decode cX10_init 184 = .ok (.dup, 1) := by decide +kernel
theorem dX10_init_185 : decode cX10_init 185 = .ok (.iconst 1, 1) := by decide +kernel
theorem dX10_init_186 : decode cX10_init 186 = .ok (.iconst (-1), 1) := by decide +kernel
theorem dX10_init_187 : decode cX10_init 187 = .ok (.iastore, 1) := by decide +kernel
theorem dX10_init_188 : decode cX10_init 188 = .ok (.dup, 1) := by decide +kernel
theorem dX10_init_189 : decode cX10_init 189 = .ok (.iconst 2, 1) := by decide +kernel
theorem dX10_init_190 : decode cX10_init 190 = .ok (.iconst (-1), 1) := by decide +kernel
theorem dX10_init_191 : decode cX10_init 191 = .ok (.iastore, 1) := by decide +kernel
theorem dX10_init_192 : decode cX10_init 192 = .ok (.dup, 1) := by decide +kernel
theorem dX10_init_193 : decode cX10_init 193 = .ok (.iconst 3, 1) := by decide +kernel
theorem dX10_init_194 : decode cX10_init 194 = .ok (.iconst (-1), 1) := by decide +kernel
theorem dX10_init_195 : decode cX10_init 195 = .ok (.iastore, 1) := by decide +kernel
theorem dX10_init_196 : decode cX10_init 196 = .ok (.putfield 62, 3) := by decide +kernel
theorem dX10_init_199 : decode cX10_init 199 = .ok (.aload_n 0, 1) := by decide +kernel
theorem dX10_init_200 : decode cX10_init 200 = .ok (.bipush 120, 2) := by decide +kernel
theorem dX10_init_202 : decode cX10_init 202 = .ok (.newarray .int, 2) := by decide +kernel
theorem dX10_init_204 : decode cX10_init 204 = .ok (.putfield 65, 3) := by decide +kernel
theorem dX10_init_207 : decode cX10_init 207 = .ok (.return_, 1) := by decide +kernel
theorem dX10_in_0 : decode cX10_in 0 = .ok (.lload_n 0, 1) := by decide +kernel
theorem dX10_in_1 : decode cX10_in 1 = .ok (.lload_n 2, 1) := by decide +kernel
theorem dX10_in_2 : decode cX10_in 2 = .ok (.lcmp, 1) := by decide +kernel
theorem dX10_in_3 : decode cX10_in 3 = .ok (.ifCond .lt 14, 3) := by decide +kernel
theorem dX10_in_6 : decode cX10_in 6 = .ok (.lload_n 0, 1) := by decide +kernel
theorem dX10_in_7 : decode cX10_in 7 = .ok (.lload 4, 2) := by decide +kernel
theorem dX10_in_9 : decode cX10_in 9 = .ok (.lcmp, 1) := by decide +kernel
theorem dX10_in_10 : decode cX10_in 10 = .ok (.ifCond .gt 7, 3) := by decide +kernel
theorem dX10_in_13 : decode cX10_in 13 = .ok (.iconst 1, 1) := by decide +kernel
theorem dX10_in_14 : decode cX10_in 14 = .ok (.goto 4, 3) := by decide +kernel
theorem dX10_in_17 : decode cX10_in 17 = .ok (.iconst 0, 1) := by decide +kernel
theorem dX10_in_18 : decode cX10_in 18 = .ok (.ireturn, 1) := by decide +kernel
theorem dX10_isOne_0 : decode cX10_isOne 0 = .ok (.iload_n 1, 1) := by decide +kernel
theorem dX10_isOne_1 : decode cX10_isOne 1 = .ok (.i2l, 1) := by decide +kernel
theorem dX10_isOne_2 : decode cX10_isOne 2 = .ok (.lconst 0, 1) := by decide +kernel
theorem dX10_isOne_3 : decode cX10_isOne 3 = .ok (.aload_n 0, 1) := by decide +kernel
theorem dX10_isOne_4 : decode cX10_isOne 4 = .ok (.getfield 9, 3) := by decide +kernel
theorem dX10_isOne_7 : decode cX10_isOne 7 = .ok (.iconst 0, 1) := by decide +kernel
theorem dX10_isOne_8 : decode cX10_isOne 8 = .ok (.iaload, 1) := by decide +kernel
theorem dX10_isOne_9 : decode cX10_isOne 9 = .ok (.iconst 1, 1) := by decide +kernel
theorem dX10_isOne_10 : decode cX10_isOne 10 = .ok (.isub, 1) := by decide +kernel
theorem dX10_isOne_11 : decode cX10_isOne 11 = .ok (.i2l, 1) := by decide +kernel
theorem dX10_isOne_12 : decode cX10_isOne 12 = .ok (.invokestatic 68, 3) := by decide +kernel
theorem dX10_isOne_15 : decode cX10_isOne 15 = .ok (.ireturn, 1) := by decide +kernel
theorem dX10_isHere_0 : decode cX10_isHere 0 = .ok (.aload_n 0, 1) := by decide +kernel
theorem dX10_isHere_1 : decode cX10_isHere 1 = .ok (.iload_n 1, 1) := by decide +kernel
theorem dX10_isHere_2 : decode cX10_isHere 2 = .ok (.invokevirtual 72, 3) := by decide +kernel
theorem dX10_isHere_5 : decode cX10_isHere 5 = .ok (.ifCond .eq 19, 3) := by decide +kernel
theorem dX10_isHere_8 : decode cX10_isHere 8 = .ok (.aload_n 0, 1) := by decide +kernel
theorem dX10_isHere_9 : decode cX10_isHere 9 = .ok (.getfield 9, 3) := by decide +kernel
theorem dX10_isHere_12 : decode cX10_isHere 12 = .ok (.iconst 3, 1) := by decide +kernel
theorem dX10_isHere_13 : decode cX10_isHere 13 = .ok (.iload_n 1, 1) := by decide +kernel
theorem dX10_isHere_14 : decode cX10_isHere 14 = .ok (.iadd, 1) := by decide +kernel
theorem dX10_isHere_15 : decode cX10_isHere 15 = .ok (.iaload, 1) := by decide +kernel
theorem dX10_isHere_16 : decode cX10_isHere 16 = .ok (.iconst 1, 1) := by decide +kernel
theorem dX10_isHere_17 : decode cX10_isHere 17 = .ok (.if_icmp .ne 7, 3) := by decide +kernel
theorem dX10_isHere_20 : decode cX10_isHere 20 = .ok (.iconst 1, 1) := by decide +kernel
theorem dX10_isHere_21 : decode cX10_isHere 21 = .ok (.goto 4, 3) := by decide +kernel
theorem dX10_isHere_24 : decode cX10_isHere 24 = .ok (.iconst 0, 1) := by decide +kernel
theorem dX10_isHere_25 : decode cX10_isHere 25 = .ok (.ireturn, 1) := by decide +kernel
theorem dX10_isKind_0 : decode cX10_isKind 0 = .ok (.iload_n 0, 1) := by decide +kernel
theorem dX10_isKind_1 : decode cX10_isKind 1 = .ok (.i2l, 1) := by decide +kernel
theorem dX10_isKind_2 : decode cX10_isKind 2 = .ok (.lconst 0, 1) := by decide +kernel
theorem dX10_isKind_3 : decode cX10_isKind 3 = .ok (.ldc2_w 76, 3) := by decide +kernel
theorem dX10_isKind_6 : decode cX10_isKind 6 = .ok (.invokestatic 68, 3) := by decide +kernel
theorem dX10_isKind_9 : decode cX10_isKind 9 = .ok (.ireturn, 1) := by decide +kernel
theorem dX10_isDuty_0 : decode cX10_isDuty 0 = .ok (.iload_n 1, 1) := by decide +kernel
theorem dX10_isDuty_1 : decode cX10_isDuty 1 = .ok (.i2l, 1) := by decide +kernel
theorem dX10_isDuty_2 : decode cX10_isDuty 2 = .ok (.lconst 0, 1) := by decide +kernel
theorem dX10_isDuty_3 : decode cX10_isDuty 3 = .ok (.aload_n 0, 1) := by decide +kernel
theorem dX10_isDuty_4 : decode cX10_isDuty 4 = .ok (.getfield 9, 3) := by decide +kernel
theorem dX10_isDuty_7 : decode cX10_isDuty 7 = .ok (.iconst 2, 1) := by decide +kernel
theorem dX10_isDuty_8 : decode cX10_isDuty 8 = .ok (.iaload, 1) := by decide +kernel
theorem dX10_isDuty_9 : decode cX10_isDuty 9 = .ok (.iconst 1, 1) := by decide +kernel
theorem dX10_isDuty_10 : decode cX10_isDuty 10 = .ok (.isub, 1) := by decide +kernel
theorem dX10_isDuty_11 : decode cX10_isDuty 11 = .ok (.i2l, 1) := by decide +kernel
theorem dX10_isDuty_12 : decode cX10_isDuty 12 = .ok (.invokestatic 68, 3) := by decide +kernel
theorem dX10_isDuty_15 : decode cX10_isDuty 15 = .ok (.ireturn, 1) := by decide +kernel
theorem dX10_holder_0 : decode cX10_holder 0 = .ok (.aload_n 0, 1) := by decide +kernel
theorem dX10_holder_1 : decode cX10_holder 1 = .ok (.getfield 9, 3) := by decide +kernel
theorem dX10_holder_4 : decode cX10_holder 4 = .ok (.sipush 299, 3) := by decide +kernel
theorem dX10_holder_7 : decode cX10_holder 7 = .ok (.iload_n 1, 1) := by decide +kernel
theorem dX10_holder_8 : decode cX10_holder 8 = .ok (.iadd, 1) := by decide +kernel
theorem dX10_holder_9 : decode cX10_holder 9 = .ok (.iaload, 1) := by decide +kernel
theorem dX10_holder_10 : decode cX10_holder 10 = .ok (.ireturn, 1) := by decide +kernel
theorem dX10_past_0 : decode cX10_past 0 = .ok (.aload_n 0, 1) := by decide +kernel
theorem dX10_past_1 : decode cX10_past 1 = .ok (.getfield 9, 3) := by decide +kernel
theorem dX10_past_4 : decode cX10_past 4 = .ok (.bipush 19, 2) := by decide +kernel
theorem dX10_past_6 : decode cX10_past 6 = .ok (.iconst 4, 1) := by decide +kernel
theorem dX10_past_7 : decode cX10_past 7 = .ok (.iload_n 1, 1) := by decide +kernel
theorem dX10_past_8 : decode cX10_past 8 = .ok (.imul, 1) := by decide +kernel
theorem dX10_past_9 : decode cX10_past 9 = .ok (.iadd, 1) := by decide +kernel
theorem dX10_past_10 : decode cX10_past 10 = .ok (.iload_n 2, 1) := by decide +kernel
theorem dX10_past_11 : decode cX10_past 11 = .ok (.iadd, 1) := by decide +kernel
theorem dX10_past_12 : decode cX10_past 12 = .ok (.iaload, 1) := by decide +kernel
theorem dX10_past_13 : decode cX10_past 13 = .ok (.ireturn, 1) := by decide +kernel
theorem dX10_head_0 : decode cX10_head 0 = .ok (.aload_n 0, 1) := by decide +kernel
theorem dX10_head_1 : decode cX10_head 1 = .ok (.getfield 9, 3) := by decide +kernel
theorem dX10_head_4 : decode cX10_head 4 = .ok (.bipush 11, 2) := by decide +kernel
theorem dX10_head_6 : decode cX10_head 6 = .ok (.iload_n 1, 1) := by decide +kernel
theorem dX10_head_7 : decode cX10_head 7 = .ok (.iadd, 1) := by decide +kernel
theorem dX10_head_8 : decode cX10_head 8 = .ok (.iaload, 1) := by decide +kernel
theorem dX10_head_9 : decode cX10_head 9 = .ok (.iconst 3, 1) := by decide +kernel
theorem dX10_head_10 : decode cX10_head 10 = .ok (.if_icmp .ne 7, 3) := by decide +kernel
theorem dX10_head_13 : decode cX10_head 13 = .ok (.iconst 2, 1) := by decide +kernel
theorem dX10_head_14 : decode cX10_head 14 = .ok (.goto 26, 3) := by decide +kernel
theorem dX10_head_17 : decode cX10_head 17 = .ok (.aload_n 0, 1) := by decide +kernel
theorem dX10_head_18 : decode cX10_head 18 = .ok (.getfield 9, 3) := by decide +kernel
theorem dX10_head_21 : decode cX10_head 21 = .ok (.bipush 11, 2) := by decide +kernel
theorem dX10_head_23 : decode cX10_head 23 = .ok (.iload_n 1, 1) := by decide +kernel
theorem dX10_head_24 : decode cX10_head 24 = .ok (.iadd, 1) := by decide +kernel
theorem dX10_head_25 : decode cX10_head 25 = .ok (.iaload, 1) := by decide +kernel
theorem dX10_head_26 : decode cX10_head 26 = .ok (.iconst 2, 1) := by decide +kernel
theorem dX10_head_27 : decode cX10_head 27 = .ok (.if_icmp .ne 12, 3) := by decide +kernel
theorem dX10_head_30 : decode cX10_head 30 = .ok (.iload_n 2, 1) := by decide +kernel
theorem dX10_head_31 : decode cX10_head 31 = .ok (.iconst 2, 1) := by decide +kernel
theorem dX10_head_32 : decode cX10_head 32 = .ok (.if_icmp .ge 7, 3) := by decide +kernel
theorem dX10_head_35 : decode cX10_head 35 = .ok (.iconst 1, 1) := by decide +kernel
theorem dX10_head_36 : decode cX10_head 36 = .ok (.goto 4, 3) := by decide +kernel
theorem dX10_head_39 : decode cX10_head 39 = .ok (.iconst 0, 1) := by decide +kernel
theorem dX10_head_40 : decode cX10_head 40 = .ok (.ireturn, 1) := by decide +kernel
theorem dX10_heldIn_0 : decode cX10_heldIn 0 = .ok (.iconst 0, 1) := by decide +kernel
theorem dX10_heldIn_1 : decode cX10_heldIn 1 = .ok (.istore_n 3, 1) := by decide +kernel
theorem dX10_heldIn_2 : decode cX10_heldIn 2 = .ok (.iconst 0, 1) := by decide +kernel
theorem dX10_heldIn_3 : decode cX10_heldIn 3 = .ok (.istore 4, 2) := by decide +kernel
theorem dX10_heldIn_5 : decode cX10_heldIn 5 = .ok (.iload 4, 2) := by decide +kernel
theorem dX10_heldIn_7 : decode cX10_heldIn 7 = .ok (.aload_n 0, 1) := by decide +kernel
theorem dX10_heldIn_8 : decode cX10_heldIn 8 = .ok (.getfield 9, 3) := by decide +kernel
theorem dX10_heldIn_11 : decode cX10_heldIn 11 = .ok (.iconst 2, 1) := by decide +kernel
theorem dX10_heldIn_12 : decode cX10_heldIn 12 = .ok (.iaload, 1) := by decide +kernel
theorem dX10_heldIn_13 : decode cX10_heldIn 13 = .ok (.if_icmp .ge 42, 3) := by decide +kernel
theorem dX10_heldIn_16 : decode cX10_heldIn 16 = .ok (.iload_n 3, 1) := by decide +kernel
theorem dX10_heldIn_17 : decode cX10_heldIn 17 = .ok (.aload_n 0, 1) := by decide +kernel
theorem dX10_heldIn_18 : decode cX10_heldIn 18 = .ok (.iload 4, 2) := by decide +kernel
theorem dX10_heldIn_20 : decode cX10_heldIn 20 = .ok (.invokevirtual 78, 3) := by decide +kernel
theorem dX10_heldIn_23 : decode cX10_heldIn 23 = .ok (.iload_n 1, 1) := by decide +kernel
theorem dX10_heldIn_24 : decode cX10_heldIn 24 = .ok (.if_icmp .ne 22, 3) := by decide +kernel
theorem dX10_heldIn_27 : decode cX10_heldIn 27 = .ok (.aload_n 0, 1) := by decide +kernel
theorem dX10_heldIn_28 : decode cX10_heldIn 28 = .ok (.getfield 9, 3) := by decide +kernel
theorem dX10_heldIn_31 : decode cX10_heldIn 31 = .ok (.sipush 275, 3) := by decide +kernel
theorem dX10_heldIn_34 : decode cX10_heldIn 34 = .ok (.iload 4, 2) := by decide +kernel
theorem dX10_heldIn_36 : decode cX10_heldIn 36 = .ok (.iadd, 1) := by decide +kernel
theorem dX10_heldIn_37 : decode cX10_heldIn 37 = .ok (.iaload, 1) := by decide +kernel
theorem dX10_heldIn_38 : decode cX10_heldIn 38 = .ok (.iload_n 2, 1) := by decide +kernel
theorem dX10_heldIn_39 : decode cX10_heldIn 39 = .ok (.if_icmp .ne 7, 3) := by decide +kernel
theorem dX10_heldIn_42 : decode cX10_heldIn 42 = .ok (.iconst 1, 1) := by decide +kernel
theorem dX10_heldIn_43 : decode cX10_heldIn 43 = .ok (.goto 4, 3) := by decide +kernel
theorem dX10_heldIn_46 : decode cX10_heldIn 46 = .ok (.iconst 0, 1) := by decide +kernel
theorem dX10_heldIn_47 : decode cX10_heldIn 47 = .ok (.iadd, 1) := by decide +kernel
theorem dX10_heldIn_48 : decode cX10_heldIn 48 = .ok (.istore_n 3, 1) := by decide +kernel
theorem dX10_heldIn_49 : decode cX10_heldIn 49 = .ok (.iinc 4 1, 3) := by decide +kernel
theorem dX10_heldIn_52 : decode cX10_heldIn 52 = .ok (.goto (-47), 3) := by decide +kernel
theorem dX10_heldIn_55 : decode cX10_heldIn 55 = .ok (.iload_n 3, 1) := by decide +kernel
theorem dX10_heldIn_56 : decode cX10_heldIn 56 = .ok (.ireturn, 1) := by decide +kernel
theorem dX10_load_0 : decode cX10_load 0 = .ok (.aload_n 0, 1) := by decide +kernel
theorem dX10_load_1 : decode cX10_load 1 = .ok (.iload_n 1, 1) := by decide +kernel
theorem dX10_load_2 : decode cX10_load 2 = .ok (.iload_n 2, 1) := by decide +kernel
theorem dX10_load_3 : decode cX10_load 3 = .ok (.invokevirtual 82, 3) := by decide +kernel
theorem dX10_load_6 : decode cX10_load 6 = .ok (.aload_n 0, 1) := by decide +kernel
theorem dX10_load_7 : decode cX10_load 7 = .ok (.iload_n 1, 1) := by decide +kernel
theorem dX10_load_8 : decode cX10_load 8 = .ok (.iload_n 2, 1) := by decide +kernel
theorem dX10_load_9 : decode cX10_load 9 = .ok (.invokevirtual 86, 3) := by decide +kernel
theorem dX10_load_12 : decode cX10_load 12 = .ok (.iadd, 1) := by decide +kernel
theorem dX10_load_13 : decode cX10_load 13 = .ok (.iload_n 3, 1) := by decide +kernel
theorem dX10_load_14 : decode cX10_load 14 = .ok (.ifCond .eq 7, 3) := by decide +kernel
theorem dX10_load_17 : decode cX10_load 17 = .ok (.iconst 0, 1) := by decide +kernel
theorem dX10_load_18 : decode cX10_load 18 = .ok (.goto 9, 3) := by decide +kernel
theorem dX10_load_21 : decode cX10_load 21 = .ok (.aload_n 0, 1) := by decide +kernel
theorem dX10_load_22 : decode cX10_load 22 = .ok (.iload_n 1, 1) := by decide +kernel
theorem dX10_load_23 : decode cX10_load 23 = .ok (.iload_n 2, 1) := by decide +kernel
theorem dX10_load_24 : decode cX10_load 24 = .ok (.invokevirtual 89, 3) := by decide +kernel
theorem dX10_load_27 : decode cX10_load 27 = .ok (.iadd, 1) := by decide +kernel
theorem dX10_load_28 : decode cX10_load 28 = .ok (.ireturn, 1) := by decide +kernel
theorem dX10_loadOf_0 : decode cX10_loadOf 0 = .ok (.aload_n 0, 1) := by decide +kernel
theorem dX10_loadOf_1 : decode cX10_loadOf 1 = .ok (.iload_n 1, 1) := by decide +kernel
theorem dX10_loadOf_2 : decode cX10_loadOf 2 = .ok (.iload_n 2, 1) := by decide +kernel
theorem dX10_loadOf_3 : decode cX10_loadOf 3 = .ok (.iconst 0, 1) := by decide +kernel
theorem dX10_loadOf_4 : decode cX10_loadOf 4 = .ok (.invokevirtual 92, 3) := by decide +kernel
theorem dX10_loadOf_7 : decode cX10_loadOf 7 = .ok (.ireturn, 1) := by decide +kernel
theorem dX10_burden_0 : decode cX10_burden 0 = .ok (.iconst 0, 1) := by decide +kernel
theorem dX10_burden_1 : decode cX10_burden 1 = .ok (.istore_n 2, 1) := by decide +kernel
theorem dX10_burden_2 : decode cX10_burden 2 = .ok (.iconst 0, 1) := by decide +kernel
theorem dX10_burden_3 : decode cX10_burden 3 = .ok (.istore_n 3, 1) := by decide +kernel
theorem dX10_burden_4 : decode cX10_burden 4 = .ok (.iload_n 3, 1) := by decide +kernel
theorem dX10_burden_5 : decode cX10_burden 5 = .ok (.iconst 4, 1) := by decide +kernel
theorem dX10_burden_6 : decode cX10_burden 6 = .ok (.if_icmp .ge 26, 3) := by decide +kernel
theorem dX10_burden_9 : decode cX10_burden 9 = .ok (.iload_n 2, 1) := by decide +kernel
theorem dX10_burden_10 : decode cX10_burden 10 = .ok (.aload_n 0, 1) := by decide +kernel
theorem dX10_burden_11 : decode cX10_burden 11 = .ok (.getfield 19, 3) := by decide +kernel
theorem dX10_burden_14 : decode cX10_burden 14 = .ok (.iload_n 3, 1) := by decide +kernel
theorem dX10_burden_15 : decode cX10_burden 15 = .ok (.iaload, 1) := by decide +kernel
theorem dX10_burden_16 : decode cX10_burden 16 = .ok (.aload_n 0, 1) := by decide +kernel
theorem dX10_burden_17 : decode cX10_burden 17 = .ok (.iload_n 1, 1) := by decide +kernel
theorem dX10_burden_18 : decode cX10_burden 18 = .ok (.iload_n 3, 1) := by decide +kernel
theorem dX10_burden_19 : decode cX10_burden 19 = .ok (.iconst 1, 1) := by decide +kernel
theorem dX10_burden_20 : decode cX10_burden 20 = .ok (.invokevirtual 92, 3) := by decide +kernel
theorem dX10_burden_23 : decode cX10_burden 23 = .ok (.imul, 1) := by decide +kernel
theorem dX10_burden_24 : decode cX10_burden 24 = .ok (.iadd, 1) := by decide +kernel
theorem dX10_burden_25 : decode cX10_burden 25 = .ok (.istore_n 2, 1) := by decide +kernel
theorem dX10_burden_26 : decode cX10_burden 26 = .ok (.iinc 3 1, 3) := by decide +kernel
theorem dX10_burden_29 : decode cX10_burden 29 = .ok (.goto (-25), 3) := by decide +kernel
theorem dX10_burden_32 : decode cX10_burden 32 = .ok (.iload_n 2, 1) := by decide +kernel
theorem dX10_burden_33 : decode cX10_burden 33 = .ok (.ireturn, 1) := by decide +kernel
theorem dX10_hereMany_0 : decode cX10_hereMany 0 = .ok (.iconst 0, 1) := by decide +kernel
theorem dX10_hereMany_1 : decode cX10_hereMany 1 = .ok (.istore_n 1, 1) := by decide +kernel
theorem dX10_hereMany_2 : decode cX10_hereMany 2 = .ok (.iconst 0, 1) := by decide +kernel
theorem dX10_hereMany_3 : decode cX10_hereMany 3 = .ok (.istore_n 2, 1) := by decide +kernel
theorem dX10_hereMany_4 : decode cX10_hereMany 4 = .ok (.iload_n 2, 1) := by decide +kernel
theorem dX10_hereMany_5 : decode cX10_hereMany 5 = .ok (.aload_n 0, 1) := by decide +kernel
theorem dX10_hereMany_6 : decode cX10_hereMany 6 = .ok (.getfield 9, 3) := by decide +kernel
theorem dX10_hereMany_9 : decode cX10_hereMany 9 = .ok (.iconst 0, 1) := by decide +kernel
theorem dX10_hereMany_10 : decode cX10_hereMany 10 = .ok (.iaload, 1) := by decide +kernel
theorem dX10_hereMany_11 : decode cX10_hereMany 11 = .ok (.if_icmp .ge 20, 3) := by decide +kernel
theorem dX10_hereMany_14 : decode cX10_hereMany 14 = .ok (.iload_n 1, 1) := by decide +kernel
theorem dX10_hereMany_15 : decode cX10_hereMany 15 = .ok (.aload_n 0, 1) := by decide +kernel
theorem dX10_hereMany_16 : decode cX10_hereMany 16 = .ok (.getfield 9, 3) := by decide +kernel
theorem dX10_hereMany_19 : decode cX10_hereMany 19 = .ok (.iconst 3, 1) := by decide +kernel
theorem dX10_hereMany_20 : decode cX10_hereMany 20 = .ok (.iload_n 2, 1) := by decide +kernel
theorem dX10_hereMany_21 : decode cX10_hereMany 21 = .ok (.iadd, 1) := by decide +kernel
theorem dX10_hereMany_22 : decode cX10_hereMany 22 = .ok (.iaload, 1) := by decide +kernel
theorem dX10_hereMany_23 : decode cX10_hereMany 23 = .ok (.iadd, 1) := by decide +kernel
theorem dX10_hereMany_24 : decode cX10_hereMany 24 = .ok (.istore_n 1, 1) := by decide +kernel
theorem dX10_hereMany_25 : decode cX10_hereMany 25 = .ok (.iinc 2 1, 3) := by decide +kernel
theorem dX10_hereMany_28 : decode cX10_hereMany 28 = .ok (.goto (-24), 3) := by decide +kernel
theorem dX10_hereMany_31 : decode cX10_hereMany 31 = .ok (.iload_n 1, 1) := by decide +kernel
theorem dX10_hereMany_32 : decode cX10_hereMany 32 = .ok (.ireturn, 1) := by decide +kernel
theorem dX10_neutralOf_0 : decode cX10_neutralOf 0 = .ok (.iconst 0, 1) := by decide +kernel
theorem dX10_neutralOf_1 : decode cX10_neutralOf 1 = .ok (.istore_n 2, 1) := by decide +kernel
theorem dX10_neutralOf_2 : decode cX10_neutralOf 2 = .ok (.aload_n 0, 1) := by decide +kernel
theorem dX10_neutralOf_3 : decode cX10_neutralOf 3 = .ok (.invokevirtual 96, 3) := by decide +kernel
theorem dX10_neutralOf_6 : decode cX10_neutralOf 6 = .ok (.istore_n 3, 1) := by decide +kernel
theorem dX10_neutralOf_7 : decode cX10_neutralOf 7 = .ok (.iconst 0, 1) := by decide +kernel
theorem dX10_neutralOf_8 : decode cX10_neutralOf 8 = .ok (.istore 4, 2) := by decide +kernel
theorem dX10_neutralOf_10 : decode cX10_neutralOf 10 = .ok (.iload 4, 2) := by decide +kernel
theorem dX10_neutralOf_12 : decode cX10_neutralOf 12 = .ok (.aload_n 0, 1) := by decide +kernel
theorem dX10_neutralOf_13 : decode cX10_neutralOf 13 = .ok (.getfield 9, 3) := by decide +kernel
theorem dX10_neutralOf_16 : decode cX10_neutralOf 16 = .ok (.iconst 0, 1) := by decide +kernel
theorem dX10_neutralOf_17 : decode cX10_neutralOf 17 = .ok (.iaload, 1) := by decide +kernel
theorem dX10_neutralOf_18 : decode cX10_neutralOf 18 = .ok (.if_icmp .ge 32, 3) := by decide +kernel
theorem dX10_neutralOf_21 : decode cX10_neutralOf 21 = .ok (.iload_n 2, 1) := by decide +kernel
theorem dX10_neutralOf_22 : decode cX10_neutralOf 22 = .ok (.aload_n 0, 1) := by decide +kernel
theorem dX10_neutralOf_23 : decode cX10_neutralOf 23 = .ok (.iload 4, 2) := by decide +kernel
theorem dX10_neutralOf_25 : decode cX10_neutralOf 25 = .ok (.invokevirtual 100, 3) := by decide +kernel
theorem dX10_neutralOf_28 : decode cX10_neutralOf 28 = .ok (.ifCond .eq 13, 3) := by decide +kernel
theorem dX10_neutralOf_31 : decode cX10_neutralOf 31 = .ok (.aload_n 0, 1) := by decide +kernel
theorem dX10_neutralOf_32 : decode cX10_neutralOf 32 = .ok (.iload 4, 2) := by decide +kernel
theorem dX10_neutralOf_34 : decode cX10_neutralOf 34 = .ok (.iload_n 1, 1) := by decide +kernel
theorem dX10_neutralOf_35 : decode cX10_neutralOf 35 = .ok (.invokevirtual 82, 3) := by decide +kernel
theorem dX10_neutralOf_38 : decode cX10_neutralOf 38 = .ok (.goto 4, 3) := by decide +kernel
theorem dX10_neutralOf_41 : decode cX10_neutralOf 41 = .ok (.iconst 0, 1) := by decide +kernel
theorem dX10_neutralOf_42 : decode cX10_neutralOf 42 = .ok (.iadd, 1) := by decide +kernel
theorem dX10_neutralOf_43 : decode cX10_neutralOf 43 = .ok (.istore_n 2, 1) := by decide +kernel
theorem dX10_neutralOf_44 : decode cX10_neutralOf 44 = .ok (.iinc 4 1, 3) := by decide +kernel
theorem dX10_neutralOf_47 : decode cX10_neutralOf 47 = .ok (.goto (-37), 3) := by decide +kernel
theorem dX10_neutralOf_50 : decode cX10_neutralOf 50 = .ok (.iload_n 3, 1) := by decide +kernel
theorem dX10_neutralOf_51 : decode cX10_neutralOf 51 = .ok (.ifCond .ne 7, 3) := by decide +kernel
theorem dX10_neutralOf_54 : decode cX10_neutralOf 54 = .ok (.iconst 0, 1) := by decide +kernel
theorem dX10_neutralOf_55 : decode cX10_neutralOf 55 = .ok (.goto 6, 3) := by decide +kernel
theorem dX10_neutralOf_58 : decode cX10_neutralOf 58 = .ok (.iload_n 2, 1) := by decide +kernel
theorem dX10_neutralOf_59 : decode cX10_neutralOf 59 = .ok (.iload_n 3, 1) := by decide +kernel
theorem dX10_neutralOf_60 : decode cX10_neutralOf 60 = .ok (.idiv, 1) := by decide +kernel
theorem dX10_neutralOf_61 : decode cX10_neutralOf 61 = .ok (.ireturn, 1) := by decide +kernel
theorem dX10_mayHold_0 : decode cX10_mayHold 0 = .ok (.aload_n 0, 1) := by decide +kernel
theorem dX10_mayHold_1 : decode cX10_mayHold 1 = .ok (.iload_n 1, 1) := by decide +kernel
theorem dX10_mayHold_2 : decode cX10_mayHold 2 = .ok (.invokevirtual 100, 3) := by decide +kernel
theorem dX10_mayHold_5 : decode cX10_mayHold 5 = .ok (.ifCond .ne 5, 3) := by decide +kernel
theorem dX10_mayHold_8 : decode cX10_mayHold 8 = .ok (.iconst 0, 1) := by decide +kernel
theorem dX10_mayHold_9 : decode cX10_mayHold 9 = .ok (.ireturn, 1) := by decide +kernel
theorem dX10_mayHold_10 : decode cX10_mayHold 10 = .ok (.aload_n 0, 1) := by decide +kernel
theorem dX10_mayHold_11 : decode cX10_mayHold 11 = .ok (.getfield 9, 3) := by decide +kernel
theorem dX10_mayHold_14 : decode cX10_mayHold 14 = .ok (.sipush 251, 3) := by decide +kernel
theorem dX10_mayHold_17 : decode cX10_mayHold 17 = .ok (.iload_n 2, 1) := by decide +kernel
theorem dX10_mayHold_18 : decode cX10_mayHold 18 = .ok (.iadd, 1) := by decide +kernel
theorem dX10_mayHold_19 : decode cX10_mayHold 19 = .ok (.iaload, 1) := by decide +kernel
theorem dX10_mayHold_20 : decode cX10_mayHold 20 = .ok (.istore_n 3, 1) := by decide +kernel
theorem dX10_mayHold_21 : decode cX10_mayHold 21 = .ok (.iconst 0, 1) := by decide +kernel
theorem dX10_mayHold_22 : decode cX10_mayHold 22 = .ok (.istore 4, 2) := by decide +kernel
theorem dX10_mayHold_24 : decode cX10_mayHold 24 = .ok (.iload 4, 2) := by decide +kernel
theorem dX10_mayHold_26 : decode cX10_mayHold 26 = .ok (.aload_n 0, 1) := by decide +kernel
theorem dX10_mayHold_27 : decode cX10_mayHold 27 = .ok (.getfield 9, 3) := by decide +kernel
theorem dX10_mayHold_30 : decode cX10_mayHold 30 = .ok (.bipush 51, 2) := by decide +kernel
theorem dX10_mayHold_32 : decode cX10_mayHold 32 = .ok (.iload_n 1, 1) := by decide +kernel
theorem dX10_mayHold_33 : decode cX10_mayHold 33 = .ok (.iadd, 1) := by decide +kernel
theorem dX10_mayHold_34 : decode cX10_mayHold 34 = .ok (.iaload, 1) := by decide +kernel
theorem dX10_mayHold_35 : decode cX10_mayHold 35 = .ok (.if_icmp .ge 139, 3) := by decide +kernel
theorem dX10_mayHold_38 : decode cX10_mayHold 38 = .ok (.bipush 59, 2) := by decide +kernel
theorem dX10_mayHold_40 : decode cX10_mayHold 40 = .ok (.bipush 24, 2) := by decide +kernel
theorem dX10_mayHold_42 : decode cX10_mayHold 42 = .ok (.iload_n 1, 1) := by decide +kernel
theorem dX10_mayHold_43 : decode cX10_mayHold 43 = .ok (.imul, 1) := by decide +kernel
theorem dX10_mayHold_44 : decode cX10_mayHold 44 = .ok (.iadd, 1) := by decide +kernel
theorem dX10_mayHold_45 : decode cX10_mayHold 45 = .ok (.iconst 3, 1) := by decide +kernel
theorem dX10_mayHold_46 : decode cX10_mayHold 46 = .ok (.iload 4, 2) := by decide +kernel
theorem dX10_mayHold_48 : decode cX10_mayHold 48 = .ok (.imul, 1) := by decide +kernel
theorem dX10_mayHold_49 : decode cX10_mayHold 49 = .ok (.iadd, 1) := by decide +kernel
theorem dX10_mayHold_50 : decode cX10_mayHold 50 = .ok (.istore 5, 2) := by decide +kernel
theorem dX10_mayHold_52 : decode cX10_mayHold 52 = .ok (.aload_n 0, 1) := by decide +kernel
theorem dX10_mayHold_53 : decode cX10_mayHold 53 = .ok (.getfield 9, 3) := by decide +kernel
theorem dX10_mayHold_56 : decode cX10_mayHold 56 = .ok (.iload 5, 2) := by decide +kernel
theorem dX10_mayHold_58 : decode cX10_mayHold 58 = .ok (.iaload, 1) := by decide +kernel
theorem dX10_mayHold_59 : decode cX10_mayHold 59 = .ok (.ifCond .ne 31, 3) := by decide +kernel
theorem dX10_mayHold_62 : decode cX10_mayHold 62 = .ok (.iload_n 3, 1) := by decide +kernel
theorem dX10_mayHold_63 : decode cX10_mayHold 63 = .ok (.i2l, 1) := by decide +kernel
theorem dX10_mayHold_64 : decode cX10_mayHold 64 = .ok (.aload_n 0, 1) := by decide +kernel
theorem dX10_mayHold_65 : decode cX10_mayHold 65 = .ok (.getfield 9, 3) := by decide +kernel
theorem dX10_mayHold_68 : decode cX10_mayHold 68 = .ok (.iload 5, 2) := by decide +kernel
theorem dX10_mayHold_70 : decode cX10_mayHold 70 = .ok (.iconst 1, 1) := by decide +kernel
theorem dX10_mayHold_71 : decode cX10_mayHold 71 = .ok (.iadd, 1) := by decide +kernel
theorem dX10_mayHold_72 : decode cX10_mayHold 72 = .ok (.iaload, 1) := by decide +kernel
theorem dX10_mayHold_73 : decode cX10_mayHold 73 = .ok (.i2l, 1) := by decide +kernel
theorem dX10_mayHold_74 : decode cX10_mayHold 74 = .ok (.aload_n 0, 1) := by decide +kernel
theorem dX10_mayHold_75 : decode cX10_mayHold 75 = .ok (.getfield 9, 3) := by decide +kernel
theorem dX10_mayHold_78 : decode cX10_mayHold 78 = .ok (.iload 5, 2) := by decide +kernel
theorem dX10_mayHold_80 : decode cX10_mayHold 80 = .ok (.iconst 2, 1) := by decide +kernel
theorem dX10_mayHold_81 : decode cX10_mayHold 81 = .ok (.iadd, 1) := by decide +kernel
theorem dX10_mayHold_82 : decode cX10_mayHold 82 = .ok (.iaload, 1) := by decide +kernel
theorem dX10_mayHold_83 : decode cX10_mayHold 83 = .ok (.i2l, 1) := by decide +kernel
theorem dX10_mayHold_84 : decode cX10_mayHold 84 = .ok (.invokestatic 68, 3) := by decide +kernel
theorem dX10_mayHold_87 : decode cX10_mayHold 87 = .ok (.goto 72, 3) := by decide +kernel
theorem dX10_mayHold_90 : decode cX10_mayHold 90 = .ok (.aload_n 0, 1) := by decide +kernel
theorem dX10_mayHold_91 : decode cX10_mayHold 91 = .ok (.getfield 9, 3) := by decide +kernel
theorem dX10_mayHold_94 : decode cX10_mayHold 94 = .ok (.iload 5, 2) := by decide +kernel
theorem dX10_mayHold_96 : decode cX10_mayHold 96 = .ok (.iaload, 1) := by decide +kernel
theorem dX10_mayHold_97 : decode cX10_mayHold 97 = .ok (.iconst 1, 1) := by decide +kernel
theorem dX10_mayHold_98 : decode cX10_mayHold 98 = .ok (.if_icmp .ne 33, 3) := by decide +kernel
theorem dX10_mayHold_101 : decode cX10_mayHold 101 = .ok (.aload_n 0, 1) := by decide +kernel
theorem dX10_mayHold_102 : decode cX10_mayHold 102 = .ok (.getfield 9, 3) := by decide +kernel
theorem dX10_mayHold_105 : decode cX10_mayHold 105 = .ok (.sipush 275, 3) := by decide +kernel
theorem dX10_mayHold_108 : decode cX10_mayHold 108 = .ok (.iload_n 2, 1) := by decide +kernel
theorem dX10_mayHold_109 : decode cX10_mayHold 109 = .ok (.iadd, 1) := by decide +kernel
theorem dX10_mayHold_110 : decode cX10_mayHold 110 = .ok (.iaload, 1) := by decide +kernel
theorem dX10_mayHold_111 : decode cX10_mayHold 111 = .ok (.aload_n 0, 1) := by decide +kernel
theorem dX10_mayHold_112 : decode cX10_mayHold 112 = .ok (.getfield 9, 3) := by decide +kernel
theorem dX10_mayHold_115 : decode cX10_mayHold 115 = .ok (.iload 5, 2) := by decide +kernel
theorem dX10_mayHold_117 : decode cX10_mayHold 117 = .ok (.iconst 1, 1) := by decide +kernel
theorem dX10_mayHold_118 : decode cX10_mayHold 118 = .ok (.iadd, 1) := by decide +kernel
theorem dX10_mayHold_119 : decode cX10_mayHold 119 = .ok (.iaload, 1) := by decide +kernel
theorem dX10_mayHold_120 : decode cX10_mayHold 120 = .ok (.if_icmp .ne 7, 3) := by decide +kernel
theorem dX10_mayHold_123 : decode cX10_mayHold 123 = .ok (.iconst 1, 1) := by decide +kernel
theorem dX10_mayHold_124 : decode cX10_mayHold 124 = .ok (.goto 35, 3) := by decide +kernel
theorem dX10_mayHold_127 : decode cX10_mayHold 127 = .ok (.iconst 0, 1) := by decide +kernel
theorem dX10_mayHold_128 : decode cX10_mayHold 128 = .ok (.goto 31, 3) := by decide +kernel
theorem dX10_mayHold_131 : decode cX10_mayHold 131 = .ok (.iload_n 3, 1) := by decide +kernel
theorem dX10_mayHold_132 : decode cX10_mayHold 132 = .ok (.aload_n 0, 1) := by decide +kernel
theorem dX10_mayHold_133 : decode cX10_mayHold 133 = .ok (.getfield 9, 3) := by decide +kernel
theorem dX10_mayHold_136 : decode cX10_mayHold 136 = .ok (.iload 5, 2) := by decide +kernel
theorem dX10_mayHold_138 : decode cX10_mayHold 138 = .ok (.iconst 1, 1) := by decide +kernel
theorem dX10_mayHold_139 : decode cX10_mayHold 139 = .ok (.iadd, 1) := by decide +kernel
theorem dX10_mayHold_140 : decode cX10_mayHold 140 = .ok (.iaload, 1) := by decide +kernel
theorem dX10_mayHold_141 : decode cX10_mayHold 141 = .ok (.irem, 1) := by decide +kernel
theorem dX10_mayHold_142 : decode cX10_mayHold 142 = .ok (.aload_n 0, 1) := by decide +kernel
theorem dX10_mayHold_143 : decode cX10_mayHold 143 = .ok (.getfield 9, 3) := by decide +kernel
theorem dX10_mayHold_146 : decode cX10_mayHold 146 = .ok (.iload 5, 2) := by decide +kernel
theorem dX10_mayHold_148 : decode cX10_mayHold 148 = .ok (.iconst 2, 1) := by decide +kernel
theorem dX10_mayHold_149 : decode cX10_mayHold 149 = .ok (.iadd, 1) := by decide +kernel
theorem dX10_mayHold_150 : decode cX10_mayHold 150 = .ok (.iaload, 1) := by decide +kernel
theorem dX10_mayHold_151 : decode cX10_mayHold 151 = .ok (.if_icmp .eq 7, 3) := by decide +kernel
theorem dX10_mayHold_154 : decode cX10_mayHold 154 = .ok (.iconst 1, 1) := by decide +kernel
theorem dX10_mayHold_155 : decode cX10_mayHold 155 = .ok (.goto 4, 3) := by decide +kernel
theorem dX10_mayHold_158 : decode cX10_mayHold 158 = .ok (.iconst 0, 1) := by decide +kernel
theorem dX10_mayHold_159 : decode cX10_mayHold 159 = .ok (.istore 6, 2) := by decide +kernel
theorem dX10_mayHold_161 : decode cX10_mayHold 161 = .ok (.iload 6, 2) := by decide +kernel
theorem dX10_mayHold_163 : decode cX10_mayHold 163 = .ok (.ifCond .eq 5, 3) := by decide +kernel
theorem dX10_mayHold_166 : decode cX10_mayHold 166 = .ok (.iconst 0, 1) := by decide +kernel
theorem dX10_mayHold_167 : decode cX10_mayHold 167 = .ok (.ireturn, 1) := by decide +kernel
theorem dX10_mayHold_168 : decode cX10_mayHold 168 = .ok (.iinc 4 1, 3) := by decide +kernel
theorem dX10_mayHold_171 : decode cX10_mayHold 171 = .ok (.goto (-147), 3) := by decide +kernel
theorem dX10_mayHold_174 : decode cX10_mayHold 174 = .ok (.iconst 1, 1) := by decide +kernel
theorem dX10_mayHold_175 : decode cX10_mayHold 175 = .ok (.ireturn, 1) := by decide +kernel
theorem dX10_lines_0 : decode cX10_lines 0 = .ok (.iconst 0, 1) := by decide +kernel
theorem dX10_lines_1 : decode cX10_lines 1 = .ok (.istore_n 1, 1) := by decide +kernel
theorem dX10_lines_2 : decode cX10_lines 2 = .ok (.iload_n 1, 1) := by decide +kernel
theorem dX10_lines_3 : decode cX10_lines 3 = .ok (.aload_n 0, 1) := by decide +kernel
theorem dX10_lines_4 : decode cX10_lines 4 = .ok (.getfield 9, 3) := by decide +kernel
theorem dX10_lines_7 : decode cX10_lines 7 = .ok (.iconst 2, 1) := by decide +kernel
theorem dX10_lines_8 : decode cX10_lines 8 = .ok (.iaload, 1) := by decide +kernel
theorem dX10_lines_9 : decode cX10_lines 9 = .ok (.if_icmp .ge 72, 3) := by decide +kernel
theorem dX10_lines_12 : decode cX10_lines 12 = .ok (.iload_n 1, 1) := by decide +kernel
theorem dX10_lines_13 : decode cX10_lines 13 = .ok (.istore_n 2, 1) := by decide +kernel
theorem dX10_lines_14 : decode cX10_lines 14 = .ok (.iload_n 2, 1) := by decide +kernel
theorem dX10_lines_15 : decode cX10_lines 15 = .ok (.ifCond .le 53, 3) := by decide +kernel
theorem dX10_lines_18 : decode cX10_lines 18 = .ok (.aload_n 0, 1) := by decide +kernel
theorem dX10_lines_19 : decode cX10_lines 19 = .ok (.getfield 9, 3) := by decide +kernel
theorem dX10_lines_22 : decode cX10_lines 22 = .ok (.sipush 251, 3) := by decide +kernel
theorem dX10_lines_25 : decode cX10_lines 25 = .ok (.aload_n 0, 1) := by decide +kernel
theorem dX10_lines_26 : decode cX10_lines 26 = .ok (.getfield 22, 3) := by decide +kernel
theorem dX10_lines_29 : decode cX10_lines 29 = .ok (.iload_n 2, 1) := by decide +kernel
theorem dX10_lines_30 : decode cX10_lines 30 = .ok (.iconst 1, 1) := by decide +kernel
theorem dX10_lines_31 : decode cX10_lines 31 = .ok (.isub, 1) := by decide +kernel
theorem dX10_lines_32 : decode cX10_lines 32 = .ok (.iaload, 1) := by decide +kernel
theorem dX10_lines_33 : decode cX10_lines 33 = .ok (.iadd, 1) := by decide +kernel
theorem dX10_lines_34 : decode cX10_lines 34 = .ok (.iaload, 1) := by decide +kernel
theorem dX10_lines_35 : decode cX10_lines 35 = .ok (.aload_n 0, 1) := by decide +kernel
theorem dX10_lines_36 : decode cX10_lines 36 = .ok (.getfield 9, 3) := by decide +kernel
theorem dX10_lines_39 : decode cX10_lines 39 = .ok (.sipush 251, 3) := by decide +kernel
theorem dX10_lines_42 : decode cX10_lines 42 = .ok (.iload_n 1, 1) := by decide +kernel
theorem dX10_lines_43 : decode cX10_lines 43 = .ok (.iadd, 1) := by decide +kernel
theorem dX10_lines_44 : decode cX10_lines 44 = .ok (.iaload, 1) := by decide +kernel
theorem dX10_lines_45 : decode cX10_lines 45 = .ok (.if_icmp .le 23, 3) := by decide +kernel
theorem dX10_lines_48 : decode cX10_lines 48 = .ok (.aload_n 0, 1) := by decide +kernel
theorem dX10_lines_49 : decode cX10_lines 49 = .ok (.getfield 22, 3) := by decide +kernel
theorem dX10_lines_52 : decode cX10_lines 52 = .ok (.iload_n 2, 1) := by decide +kernel
theorem dX10_lines_53 : decode cX10_lines 53 = .ok (.aload_n 0, 1) := by decide +kernel
theorem dX10_lines_54 : decode cX10_lines 54 = .ok (.getfield 22, 3) := by decide +kernel
theorem dX10_lines_57 : decode cX10_lines 57 = .ok (.iload_n 2, 1) := by decide +kernel
theorem dX10_lines_58 : decode cX10_lines 58 = .ok (.iconst 1, 1) := by decide +kernel
theorem dX10_lines_59 : decode cX10_lines 59 = .ok (.isub, 1) := by decide +kernel
theorem dX10_lines_60 : decode cX10_lines 60 = .ok (.iaload, 1) := by decide +kernel
theorem dX10_lines_61 : decode cX10_lines 61 = .ok (.iastore, 1) := by decide +kernel
theorem dX10_lines_62 : decode cX10_lines 62 = .ok (.iinc 2 (-1), 3) := by decide +kernel
theorem dX10_lines_65 : decode cX10_lines 65 = .ok (.goto (-51), 3) := by decide +kernel
theorem dX10_lines_68 : decode cX10_lines 68 = .ok (.aload_n 0, 1) := by decide +kernel
theorem dX10_lines_69 : decode cX10_lines 69 = .ok (.getfield 22, 3) := by decide +kernel
theorem dX10_lines_72 : decode cX10_lines 72 = .ok (.iload_n 2, 1) := by decide +kernel
theorem dX10_lines_73 : decode cX10_lines 73 = .ok (.iload_n 1, 1) := by decide +kernel
theorem dX10_lines_74 : decode cX10_lines 74 = .ok (.iastore, 1) := by decide +kernel
theorem dX10_lines_75 : decode cX10_lines 75 = .ok (.iinc 1 1, 3) := by decide +kernel
theorem dX10_lines_78 : decode cX10_lines 78 = .ok (.goto (-76), 3) := by decide +kernel
theorem dX10_lines_81 : decode cX10_lines 81 = .ok (.return_, 1) := by decide +kernel
theorem dX10_placeOf_0 : decode cX10_placeOf 0 = .ok (.aload_n 0, 1) := by decide +kernel
theorem dX10_placeOf_1 : decode cX10_placeOf 1 = .ok (.invokevirtual 103, 3) := by decide +kernel
theorem dX10_placeOf_4 : decode cX10_placeOf 4 = .ok (.iconst 0, 1) := by decide +kernel
theorem dX10_placeOf_5 : decode cX10_placeOf 5 = .ok (.istore_n 2, 1) := by decide +kernel
theorem dX10_placeOf_6 : decode cX10_placeOf 6 = .ok (.aload_n 0, 1) := by decide +kernel
theorem dX10_placeOf_7 : decode cX10_placeOf 7 = .ok (.getfield 22, 3) := by decide +kernel
theorem dX10_placeOf_10 : decode cX10_placeOf 10 = .ok (.iload_n 2, 1) := by decide +kernel
theorem dX10_placeOf_11 : decode cX10_placeOf 11 = .ok (.iaload, 1) := by decide +kernel
theorem dX10_placeOf_12 : decode cX10_placeOf 12 = .ok (.iload_n 1, 1) := by decide +kernel
theorem dX10_placeOf_13 : decode cX10_placeOf 13 = .ok (.if_icmp .eq 9, 3) := by decide +kernel
theorem dX10_placeOf_16 : decode cX10_placeOf 16 = .ok (.iinc 2 1, 3) := by decide +kernel
theorem dX10_placeOf_19 : decode cX10_placeOf 19 = .ok (.goto (-13), 3) := by decide +kernel
theorem dX10_placeOf_22 : decode cX10_placeOf 22 = .ok (.iload_n 2, 1) := by decide +kernel
theorem dX10_placeOf_23 : decode cX10_placeOf 23 = .ok (.ireturn, 1) := by decide +kernel
theorem dX10_comes_0 : decode cX10_comes 0 = .ok (.iload_n 1, 1) := by decide +kernel
theorem dX10_comes_1 : decode cX10_comes 1 = .ok (.i2l, 1) := by decide +kernel
theorem dX10_comes_2 : decode cX10_comes 2 = .ok (.lconst 0, 1) := by decide +kernel
theorem dX10_comes_3 : decode cX10_comes 3 = .ok (.ldc2_w 76, 3) := by decide +kernel
theorem dX10_comes_6 : decode cX10_comes 6 = .ok (.invokestatic 68, 3) := by decide +kernel
theorem dX10_comes_9 : decode cX10_comes 9 = .ok (.ifCond .ne 5, 3) := by decide +kernel
theorem dX10_comes_12 : decode cX10_comes 12 = .ok (.iconst (-1), 1) := by decide +kernel
theorem dX10_comes_13 : decode cX10_comes 13 = .ok (.ireturn, 1) := by decide +kernel
theorem dX10_comes_14 : decode cX10_comes 14 = .ok (.aload_n 0, 1) := by decide +kernel
theorem dX10_comes_15 : decode cX10_comes 15 = .ok (.getfield 9, 3) := by decide +kernel
theorem dX10_comes_18 : decode cX10_comes 18 = .ok (.iconst 0, 1) := by decide +kernel
theorem dX10_comes_19 : decode cX10_comes 19 = .ok (.iaload, 1) := by decide +kernel
theorem dX10_comes_20 : decode cX10_comes 20 = .ok (.bipush 8, 2) := by decide +kernel
theorem dX10_comes_22 : decode cX10_comes 22 = .ok (.if_icmp .ne 6, 3) := by decide +kernel
theorem dX10_comes_25 : decode cX10_comes 25 = .ok (.bipush (-4), 2) := by decide +kernel
theorem dX10_comes_27 : decode cX10_comes 27 = .ok (.ireturn, 1) := by decide +kernel
theorem dX10_comes_28 : decode cX10_comes 28 = .ok (.aload_n 0, 1) := by decide +kernel
theorem dX10_comes_29 : decode cX10_comes 29 = .ok (.getfield 9, 3) := by decide +kernel
theorem dX10_comes_32 : decode cX10_comes 32 = .ok (.iconst 0, 1) := by decide +kernel
theorem dX10_comes_33 : decode cX10_comes 33 = .ok (.iaload, 1) := by decide +kernel
theorem dX10_comes_34 : decode cX10_comes 34 = .ok (.istore_n 2, 1) := by decide +kernel
theorem dX10_comes_35 : decode cX10_comes 35 = .ok (.iconst 0, 1) := by decide +kernel
theorem dX10_comes_36 : decode cX10_comes 36 = .ok (.istore_n 3, 1) := by decide +kernel
theorem dX10_comes_37 : decode cX10_comes 37 = .ok (.iload_n 3, 1) := by decide +kernel
theorem dX10_comes_38 : decode cX10_comes 38 = .ok (.iconst 4, 1) := by decide +kernel
theorem dX10_comes_39 : decode cX10_comes 39 = .ok (.if_icmp .ge 27, 3) := by decide +kernel
theorem dX10_comes_42 : decode cX10_comes 42 = .ok (.aload_n 0, 1) := by decide +kernel
theorem dX10_comes_43 : decode cX10_comes 43 = .ok (.getfield 9, 3) := by decide +kernel
theorem dX10_comes_46 : decode cX10_comes 46 = .ok (.bipush 19, 2) := by decide +kernel
theorem dX10_comes_48 : decode cX10_comes 48 = .ok (.iconst 4, 1) := by decide +kernel
theorem dX10_comes_49 : decode cX10_comes 49 = .ok (.iload_n 2, 1) := by decide +kernel
theorem dX10_comes_50 : decode cX10_comes 50 = .ok (.imul, 1) := by decide +kernel
theorem dX10_comes_51 : decode cX10_comes 51 = .ok (.iadd, 1) := by decide +kernel
theorem dX10_comes_52 : decode cX10_comes 52 = .ok (.iload_n 3, 1) := by decide +kernel
theorem dX10_comes_53 : decode cX10_comes 53 = .ok (.iadd, 1) := by decide +kernel
theorem dX10_comes_54 : decode cX10_comes 54 = .ok (.aload_n 0, 1) := by decide +kernel
theorem dX10_comes_55 : decode cX10_comes 55 = .ok (.iload_n 3, 1) := by decide +kernel
theorem dX10_comes_56 : decode cX10_comes 56 = .ok (.invokevirtual 106, 3) := by decide +kernel
theorem dX10_comes_59 : decode cX10_comes 59 = .ok (.iastore, 1) := by decide +kernel
theorem dX10_comes_60 : decode cX10_comes 60 = .ok (.iinc 3 1, 3) := by decide +kernel
theorem dX10_comes_63 : decode cX10_comes 63 = .ok (.goto (-26), 3) := by decide +kernel
theorem dX10_comes_66 : decode cX10_comes 66 = .ok (.aload_n 0, 1) := by decide +kernel
theorem dX10_comes_67 : decode cX10_comes 67 = .ok (.getfield 9, 3) := by decide +kernel
theorem dX10_comes_70 : decode cX10_comes 70 = .ok (.bipush 11, 2) := by decide +kernel
theorem dX10_comes_72 : decode cX10_comes 72 = .ok (.iload_n 2, 1) := by decide +kernel
theorem dX10_comes_73 : decode cX10_comes 73 = .ok (.iadd, 1) := by decide +kernel
theorem dX10_comes_74 : decode cX10_comes 74 = .ok (.iload_n 1, 1) := by decide +kernel
theorem dX10_comes_75 : decode cX10_comes 75 = .ok (.iastore, 1) := by decide +kernel
theorem dX10_comes_76 : decode cX10_comes 76 = .ok (.aload_n 0, 1) := by decide +kernel
theorem dX10_comes_77 : decode cX10_comes 77 = .ok (.getfield 9, 3) := by decide +kernel
theorem dX10_comes_80 : decode cX10_comes 80 = .ok (.iconst 3, 1) := by decide +kernel
theorem dX10_comes_81 : decode cX10_comes 81 = .ok (.iload_n 2, 1) := by decide +kernel
theorem dX10_comes_82 : decode cX10_comes 82 = .ok (.iadd, 1) := by decide +kernel
theorem dX10_comes_83 : decode cX10_comes 83 = .ok (.iconst 1, 1) := by decide +kernel
theorem dX10_comes_84 : decode cX10_comes 84 = .ok (.iastore, 1) := by decide +kernel
theorem dX10_comes_85 : decode cX10_comes 85 = .ok (.aload_n 0, 1) := by decide +kernel
theorem dX10_comes_86 : decode cX10_comes 86 = .ok (.getfield 9, 3) := by decide +kernel
theorem dX10_comes_89 : decode cX10_comes 89 = .ok (.bipush 51, 2) := by decide +kernel
theorem dX10_comes_91 : decode cX10_comes 91 = .ok (.iload_n 2, 1) := by decide +kernel
theorem dX10_comes_92 : decode cX10_comes 92 = .ok (.iadd, 1) := by decide +kernel
theorem dX10_comes_93 : decode cX10_comes 93 = .ok (.iconst 0, 1) := by decide +kernel
theorem dX10_comes_94 : decode cX10_comes 94 = .ok (.iastore, 1) := by decide +kernel
theorem dX10_comes_95 : decode cX10_comes 95 = .ok (.iconst 0, 1) := by decide +kernel
theorem dX10_comes_96 : decode cX10_comes 96 = .ok (.istore_n 3, 1) := by decide +kernel
theorem dX10_comes_97 : decode cX10_comes 97 = .ok (.iload_n 3, 1) := by decide +kernel
theorem dX10_comes_98 : decode cX10_comes 98 = .ok (.bipush 24, 2) := by decide +kernel
theorem dX10_comes_100 : decode cX10_comes 100 = .ok (.if_icmp .ge 25, 3) := by decide +kernel
theorem dX10_comes_103 : decode cX10_comes 103 = .ok (.aload_n 0, 1) := by decide +kernel
theorem dX10_comes_104 : decode cX10_comes 104 = .ok (.getfield 9, 3) := by decide +kernel
theorem dX10_comes_107 : decode cX10_comes 107 = .ok (.sipush 323, 3) := by decide +kernel
theorem dX10_comes_110 : decode cX10_comes 110 = .ok (.bipush 24, 2) := by decide +kernel
theorem dX10_comes_112 : decode cX10_comes 112 = .ok (.iload_n 2, 1) := by decide +kernel
theorem dX10_comes_113 : decode cX10_comes 113 = .ok (.imul, 1) := by decide +kernel
theorem dX10_comes_114 : decode cX10_comes 114 = .ok (.iadd, 1) := by decide +kernel
theorem dX10_comes_115 : decode cX10_comes 115 = .ok (.iload_n 3, 1) := by decide +kernel
theorem dX10_comes_116 : decode cX10_comes 116 = .ok (.iadd, 1) := by decide +kernel
theorem dX10_comes_117 : decode cX10_comes 117 = .ok (.iconst 0, 1) := by decide +kernel
theorem dX10_comes_118 : decode cX10_comes 118 = .ok (.iastore, 1) := by decide +kernel
theorem dX10_comes_119 : decode cX10_comes 119 = .ok (.iinc 3 1, 3) := by decide +kernel
theorem dX10_comes_122 : decode cX10_comes 122 = .ok (.goto (-25), 3) := by decide +kernel
theorem dX10_comes_125 : decode cX10_comes 125 = .ok (.aload_n 0, 1) := by decide +kernel
theorem dX10_comes_126 : decode cX10_comes 126 = .ok (.getfield 9, 3) := by decide +kernel
theorem dX10_comes_129 : decode cX10_comes 129 = .ok (.iconst 0, 1) := by decide +kernel
theorem dX10_comes_130 : decode cX10_comes 130 = .ok (.dup2, 1) := by decide +kernel
theorem dX10_comes_131 : decode cX10_comes 131 = .ok (.iaload, 1) := by decide +kernel
theorem dX10_comes_132 : decode cX10_comes 132 = .ok (.iconst 1, 1) := by decide +kernel
theorem dX10_comes_133 : decode cX10_comes 133 = .ok (.iadd, 1) := by decide +kernel
theorem dX10_comes_134 : decode cX10_comes 134 = .ok (.iastore, 1) := by decide +kernel
theorem dX10_comes_135 : decode cX10_comes 135 = .ok (.iload_n 2, 1) := by decide +kernel
theorem dX10_comes_136 : decode cX10_comes 136 = .ok (.ireturn, 1) := by decide +kernel
theorem dX10_goes_0 : decode cX10_goes 0 = .ok (.aload_n 0, 1) := by decide +kernel
theorem dX10_goes_1 : decode cX10_goes 1 = .ok (.iload_n 1, 1) := by decide +kernel
theorem dX10_goes_2 : decode cX10_goes 2 = .ok (.invokevirtual 72, 3) := by decide +kernel
theorem dX10_goes_5 : decode cX10_goes 5 = .ok (.ifCond .ne 5, 3) := by decide +kernel
theorem dX10_goes_8 : decode cX10_goes 8 = .ok (.iconst (-1), 1) := by decide +kernel
theorem dX10_goes_9 : decode cX10_goes 9 = .ok (.ireturn, 1) := by decide +kernel
theorem dX10_goes_10 : decode cX10_goes 10 = .ok (.aload_n 0, 1) := by decide +kernel
theorem dX10_goes_11 : decode cX10_goes 11 = .ok (.iload_n 1, 1) := by decide +kernel
theorem dX10_goes_12 : decode cX10_goes 12 = .ok (.invokevirtual 100, 3) := by decide +kernel
theorem dX10_goes_15 : decode cX10_goes 15 = .ok (.ifCond .ne 6, 3) := by decide +kernel
theorem dX10_goes_18 : decode cX10_goes 18 = .ok (.bipush (-3), 2) := by decide +kernel
theorem dX10_goes_20 : decode cX10_goes 20 = .ok (.ireturn, 1) := by decide +kernel
theorem dX10_goes_21 : decode cX10_goes 21 = .ok (.aload_n 0, 1) := by decide +kernel
theorem dX10_goes_22 : decode cX10_goes 22 = .ok (.getfield 9, 3) := by decide +kernel
theorem dX10_goes_25 : decode cX10_goes 25 = .ok (.iconst 3, 1) := by decide +kernel
theorem dX10_goes_26 : decode cX10_goes 26 = .ok (.iload_n 1, 1) := by decide +kernel
theorem dX10_goes_27 : decode cX10_goes 27 = .ok (.iadd, 1) := by decide +kernel
theorem dX10_goes_28 : decode cX10_goes 28 = .ok (.iconst 0, 1) := by decide +kernel
theorem dX10_goes_29 : decode cX10_goes 29 = .ok (.iastore, 1) := by decide +kernel
theorem dX10_goes_30 : decode cX10_goes 30 = .ok (.aload_n 0, 1) := by decide +kernel
theorem dX10_goes_31 : decode cX10_goes 31 = .ok (.iload_n 1, 1) := by decide +kernel
theorem dX10_goes_32 : decode cX10_goes 32 = .ok (.invokevirtual 109, 3) := by decide +kernel
theorem dX10_goes_35 : decode cX10_goes 35 = .ok (.aload_n 0, 1) := by decide +kernel
theorem dX10_goes_36 : decode cX10_goes 36 = .ok (.invokevirtual 96, 3) := by decide +kernel
theorem dX10_goes_39 : decode cX10_goes 39 = .ok (.ireturn, 1) := by decide +kernel
theorem dX10_opensBarred_0 : decode cX10_opensBarred 0 = .ok (.iconst 0, 1) := by decide +kernel
theorem dX10_opensBarred_1 : decode cX10_opensBarred 1 = .ok (.istore_n 2, 1) := by decide +kernel
theorem dX10_opensBarred_2 : decode cX10_opensBarred 2 = .ok (.iload_n 2, 1) := by decide +kernel
theorem dX10_opensBarred_3 : decode cX10_opensBarred 3 = .ok (.aload_n 0, 1) := by decide +kernel
theorem dX10_opensBarred_4 : decode cX10_opensBarred 4 = .ok (.getfield 9, 3) := by decide +kernel
theorem dX10_opensBarred_7 : decode cX10_opensBarred 7 = .ok (.iconst 2, 1) := by decide +kernel
theorem dX10_opensBarred_8 : decode cX10_opensBarred 8 = .ok (.iaload, 1) := by decide +kernel
theorem dX10_opensBarred_9 : decode cX10_opensBarred 9 = .ok (.if_icmp .ge 38, 3) := by decide +kernel
theorem dX10_opensBarred_12 : decode cX10_opensBarred 12 = .ok (.aload_n 0, 1) := by decide +kernel
theorem dX10_opensBarred_13 : decode cX10_opensBarred 13 = .ok (.iload_n 2, 1) := by decide +kernel
theorem dX10_opensBarred_14 : decode cX10_opensBarred 14 = .ok (.invokevirtual 78, 3) := by decide +kernel
theorem dX10_opensBarred_17 : decode cX10_opensBarred 17 = .ok (.iload_n 1, 1) := by decide +kernel
theorem dX10_opensBarred_18 : decode cX10_opensBarred 18 = .ok (.if_icmp .ne 23, 3) := by decide +kernel
theorem dX10_opensBarred_21 : decode cX10_opensBarred 21 = .ok (.aload_n 0, 1) := by decide +kernel
theorem dX10_opensBarred_22 : decode cX10_opensBarred 22 = .ok (.iload_n 1, 1) := by decide +kernel
theorem dX10_opensBarred_23 : decode cX10_opensBarred 23 = .ok (.iload_n 2, 1) := by decide +kernel
theorem dX10_opensBarred_24 : decode cX10_opensBarred 24 = .ok (.invokevirtual 113, 3) := by decide +kernel
theorem dX10_opensBarred_27 : decode cX10_opensBarred 27 = .ok (.ifCond .ne 14, 3) := by decide +kernel
theorem dX10_opensBarred_30 : decode cX10_opensBarred 30 = .ok (.aload_n 0, 1) := by decide +kernel
theorem dX10_opensBarred_31 : decode cX10_opensBarred 31 = .ok (.getfield 9, 3) := by decide +kernel
theorem dX10_opensBarred_34 : decode cX10_opensBarred 34 = .ok (.sipush 299, 3) := by decide +kernel
theorem dX10_opensBarred_37 : decode cX10_opensBarred 37 = .ok (.iload_n 2, 1) := by decide +kernel
theorem dX10_opensBarred_38 : decode cX10_opensBarred 38 = .ok (.iadd, 1) := by decide +kernel
theorem dX10_opensBarred_39 : decode cX10_opensBarred 39 = .ok (.iconst (-1), 1) := by decide +kernel
theorem dX10_opensBarred_40 : decode cX10_opensBarred 40 = .ok (.iastore, 1) := by decide +kernel
theorem dX10_opensBarred_41 : decode cX10_opensBarred 41 = .ok (.iinc 2 1, 3) := by decide +kernel
theorem dX10_opensBarred_44 : decode cX10_opensBarred 44 = .ok (.goto (-42), 3) := by decide +kernel
theorem dX10_opensBarred_47 : decode cX10_opensBarred 47 = .ok (.return_, 1) := by decide +kernel
theorem dX10_past__0 : decode cX10_past_ 0 = .ok (.aload_n 0, 1) := by decide +kernel
theorem dX10_past__1 : decode cX10_past_ 1 = .ok (.iload_n 1, 1) := by decide +kernel
theorem dX10_past__2 : decode cX10_past_ 2 = .ok (.invokevirtual 72, 3) := by decide +kernel
theorem dX10_past__5 : decode cX10_past_ 5 = .ok (.ifCond .eq 10, 3) := by decide +kernel
theorem dX10_past__8 : decode cX10_past_ 8 = .ok (.iload_n 2, 1) := by decide +kernel
theorem dX10_past__9 : decode cX10_past_ 9 = .ok (.invokestatic 117, 3) := by decide +kernel
theorem dX10_past__12 : decode cX10_past_ 12 = .ok (.ifCond .ne 5, 3) := by decide +kernel
theorem dX10_past__15 : decode cX10_past_ 15 = .ok (.iconst (-1), 1) := by decide +kernel
theorem dX10_past__16 : decode cX10_past_ 16 = .ok (.ireturn, 1) := by decide +kernel
theorem dX10_past__17 : decode cX10_past_ 17 = .ok (.iload_n 3, 1) := by decide +kernel
theorem dX10_past__18 : decode cX10_past_ 18 = .ok (.i2l, 1) := by decide +kernel
theorem dX10_past__19 : decode cX10_past_ 19 = .ok (.lconst 0, 1) := by decide +kernel
theorem dX10_past__20 : decode cX10_past_ 20 = .ok (.ldc2_w 120, 3) := by decide +kernel
theorem dX10_past__23 : decode cX10_past_ 23 = .ok (.invokestatic 68, 3) := by decide +kernel
theorem dX10_past__26 : decode cX10_past_ 26 = .ok (.ifCond .ne 6, 3) := by decide +kernel
theorem dX10_past__29 : decode cX10_past_ 29 = .ok (.bipush (-2), 2) := by decide +kernel
theorem dX10_past__31 : decode cX10_past_ 31 = .ok (.ireturn, 1) := by decide +kernel
theorem dX10_past__32 : decode cX10_past_ 32 = .ok (.aload_n 0, 1) := by decide +kernel
theorem dX10_past__33 : decode cX10_past_ 33 = .ok (.iload_n 1, 1) := by decide +kernel
theorem dX10_past__34 : decode cX10_past_ 34 = .ok (.iload_n 2, 1) := by decide +kernel
theorem dX10_past__35 : decode cX10_past_ 35 = .ok (.invokevirtual 82, 3) := by decide +kernel
theorem dX10_past__38 : decode cX10_past_ 38 = .ok (.istore 4, 2) := by decide +kernel
theorem dX10_past__40 : decode cX10_past_ 40 = .ok (.aload_n 0, 1) := by decide +kernel
theorem dX10_past__41 : decode cX10_past_ 41 = .ok (.getfield 9, 3) := by decide +kernel
theorem dX10_past__44 : decode cX10_past_ 44 = .ok (.bipush 19, 2) := by decide +kernel
theorem dX10_past__46 : decode cX10_past_ 46 = .ok (.iconst 4, 1) := by decide +kernel
theorem dX10_past__47 : decode cX10_past_ 47 = .ok (.iload_n 1, 1) := by decide +kernel
theorem dX10_past__48 : decode cX10_past_ 48 = .ok (.imul, 1) := by decide +kernel
theorem dX10_past__49 : decode cX10_past_ 49 = .ok (.iadd, 1) := by decide +kernel
theorem dX10_past__50 : decode cX10_past_ 50 = .ok (.iload_n 2, 1) := by decide +kernel
theorem dX10_past__51 : decode cX10_past_ 51 = .ok (.iadd, 1) := by decide +kernel
theorem dX10_past__52 : decode cX10_past_ 52 = .ok (.iload_n 3, 1) := by decide +kernel
theorem dX10_past__53 : decode cX10_past_ 53 = .ok (.iastore, 1) := by decide +kernel
theorem dX10_past__54 : decode cX10_past_ 54 = .ok (.iload 4, 2) := by decide +kernel
theorem dX10_past__56 : decode cX10_past_ 56 = .ok (.ireturn, 1) := by decide +kernel
theorem dX10_heldBy_0 : decode cX10_heldBy 0 = .ok (.iconst 0, 1) := by decide +kernel
theorem dX10_heldBy_1 : decode cX10_heldBy 1 = .ok (.istore_n 2, 1) := by decide +kernel
theorem dX10_heldBy_2 : decode cX10_heldBy 2 = .ok (.iconst 0, 1) := by decide +kernel
theorem dX10_heldBy_3 : decode cX10_heldBy 3 = .ok (.istore_n 3, 1) := by decide +kernel
theorem dX10_heldBy_4 : decode cX10_heldBy 4 = .ok (.iload_n 3, 1) := by decide +kernel
theorem dX10_heldBy_5 : decode cX10_heldBy 5 = .ok (.iconst 4, 1) := by decide +kernel
theorem dX10_heldBy_6 : decode cX10_heldBy 6 = .ok (.if_icmp .ge 18, 3) := by decide +kernel
theorem dX10_heldBy_9 : decode cX10_heldBy 9 = .ok (.iload_n 2, 1) := by decide +kernel
theorem dX10_heldBy_10 : decode cX10_heldBy 10 = .ok (.aload_n 0, 1) := by decide +kernel
theorem dX10_heldBy_11 : decode cX10_heldBy 11 = .ok (.iload_n 1, 1) := by decide +kernel
theorem dX10_heldBy_12 : decode cX10_heldBy 12 = .ok (.iload_n 3, 1) := by decide +kernel
theorem dX10_heldBy_13 : decode cX10_heldBy 13 = .ok (.invokevirtual 86, 3) := by decide +kernel
theorem dX10_heldBy_16 : decode cX10_heldBy 16 = .ok (.iadd, 1) := by decide +kernel
theorem dX10_heldBy_17 : decode cX10_heldBy 17 = .ok (.istore_n 2, 1) := by decide +kernel
theorem dX10_heldBy_18 : decode cX10_heldBy 18 = .ok (.iinc 3 1, 3) := by decide +kernel
theorem dX10_heldBy_21 : decode cX10_heldBy 21 = .ok (.goto (-17), 3) := by decide +kernel
theorem dX10_heldBy_24 : decode cX10_heldBy 24 = .ok (.iload_n 2, 1) := by decide +kernel
theorem dX10_heldBy_25 : decode cX10_heldBy 25 = .ok (.ireturn, 1) := by decide +kernel
theorem dX10_of_0 : decode cX10_of 0 = .ok (.aload_n 0, 1) := by decide +kernel
theorem dX10_of_1 : decode cX10_of 1 = .ok (.iload_n 1, 1) := by decide +kernel
theorem dX10_of_2 : decode cX10_of 2 = .ok (.invokevirtual 72, 3) := by decide +kernel
theorem dX10_of_5 : decode cX10_of 5 = .ok (.ifCond .ne 5, 3) := by decide +kernel
theorem dX10_of_8 : decode cX10_of 8 = .ok (.iconst (-1), 1) := by decide +kernel
theorem dX10_of_9 : decode cX10_of 9 = .ok (.ireturn, 1) := by decide +kernel
theorem dX10_of_10 : decode cX10_of 10 = .ok (.iload_n 2, 1) := by decide +kernel
theorem dX10_of_11 : decode cX10_of 11 = .ok (.bipush 10, 2) := by decide +kernel
theorem dX10_of_13 : decode cX10_of 13 = .ok (.irem, 1) := by decide +kernel
theorem dX10_of_14 : decode cX10_of 14 = .ok (.istore_n 3, 1) := by decide +kernel
theorem dX10_of_15 : decode cX10_of 15 = .ok (.iload_n 2, 1) := by decide +kernel
theorem dX10_of_16 : decode cX10_of 16 = .ok (.tableswitch 77 0 4 #[36, 46, 55, 61, 67], 36) := by decide +kernel
theorem dX10_of_52 : decode cX10_of 52 = .ok (.aload_n 0, 1) := by decide +kernel
theorem dX10_of_53 : decode cX10_of 53 = .ok (.getfield 9, 3) := by decide +kernel
theorem dX10_of_56 : decode cX10_of 56 = .ok (.bipush 11, 2) := by decide +kernel
theorem dX10_of_58 : decode cX10_of 58 = .ok (.iload_n 1, 1) := by decide +kernel
theorem dX10_of_59 : decode cX10_of 59 = .ok (.iadd, 1) := by decide +kernel
theorem dX10_of_60 : decode cX10_of 60 = .ok (.iaload, 1) := by decide +kernel
theorem dX10_of_61 : decode cX10_of 61 = .ok (.ireturn, 1) := by decide +kernel
theorem dX10_of_62 : decode cX10_of 62 = .ok (.aload_n 0, 1) := by decide +kernel
theorem dX10_of_63 : decode cX10_of 63 = .ok (.getfield 9, 3) := by decide +kernel
theorem dX10_of_66 : decode cX10_of 66 = .ok (.iconst 3, 1) := by decide +kernel
theorem dX10_of_67 : decode cX10_of 67 = .ok (.iload_n 1, 1) := by decide +kernel
theorem dX10_of_68 : decode cX10_of 68 = .ok (.iadd, 1) := by decide +kernel
theorem dX10_of_69 : decode cX10_of 69 = .ok (.iaload, 1) := by decide +kernel
theorem dX10_of_70 : decode cX10_of 70 = .ok (.ireturn, 1) := by decide +kernel
theorem dX10_of_71 : decode cX10_of 71 = .ok (.aload_n 0, 1) := by decide +kernel
theorem dX10_of_72 : decode cX10_of 72 = .ok (.iload_n 1, 1) := by decide +kernel
theorem dX10_of_73 : decode cX10_of 73 = .ok (.invokevirtual 122, 3) := by decide +kernel
theorem dX10_of_76 : decode cX10_of 76 = .ok (.ireturn, 1) := by decide +kernel
theorem dX10_of_77 : decode cX10_of 77 = .ok (.aload_n 0, 1) := by decide +kernel
theorem dX10_of_78 : decode cX10_of 78 = .ok (.iload_n 1, 1) := by decide +kernel
theorem dX10_of_79 : decode cX10_of 79 = .ok (.invokevirtual 125, 3) := by decide +kernel
theorem dX10_of_82 : decode cX10_of 82 = .ok (.ireturn, 1) := by decide +kernel
theorem dX10_of_83 : decode cX10_of 83 = .ok (.aload_n 0, 1) := by decide +kernel
theorem dX10_of_84 : decode cX10_of 84 = .ok (.getfield 9, 3) := by decide +kernel
theorem dX10_of_87 : decode cX10_of 87 = .ok (.bipush 51, 2) := by decide +kernel
theorem dX10_of_89 : decode cX10_of 89 = .ok (.iload_n 1, 1) := by decide +kernel
theorem dX10_of_90 : decode cX10_of 90 = .ok (.iadd, 1) := by decide +kernel
theorem dX10_of_91 : decode cX10_of 91 = .ok (.iaload, 1) := by decide +kernel
theorem dX10_of_92 : decode cX10_of 92 = .ok (.ireturn, 1) := by decide +kernel
theorem dX10_of_93 : decode cX10_of 93 = .ok (.iload_n 2, 1) := by decide +kernel
theorem dX10_of_94 : decode cX10_of 94 = .ok (.i2l, 1) := by decide +kernel
theorem dX10_of_95 : decode cX10_of 95 = .ok (.ldc2_w 128, 3) := by decide +kernel
theorem dX10_of_98 : decode cX10_of 98 = .ok (.ldc2_w 130, 3) := by decide +kernel
theorem dX10_of_101 : decode cX10_of 101 = .ok (.invokestatic 68, 3) := by decide +kernel
theorem dX10_of_104 : decode cX10_of 104 = .ok (.ifCond .eq 10, 3) := by decide +kernel
theorem dX10_of_107 : decode cX10_of 107 = .ok (.iload_n 3, 1) := by decide +kernel
theorem dX10_of_108 : decode cX10_of 108 = .ok (.invokestatic 117, 3) := by decide +kernel
theorem dX10_of_111 : decode cX10_of 111 = .ok (.ifCond .ne 5, 3) := by decide +kernel
theorem dX10_of_114 : decode cX10_of 114 = .ok (.iconst (-1), 1) := by decide +kernel
theorem dX10_of_115 : decode cX10_of 115 = .ok (.ireturn, 1) := by decide +kernel
theorem dX10_of_116 : decode cX10_of 116 = .ok (.iload_n 2, 1) := by decide +kernel
theorem dX10_of_117 : decode cX10_of 117 = .ok (.bipush 20, 2) := by decide +kernel
theorem dX10_of_119 : decode cX10_of 119 = .ok (.if_icmp .ge 12, 3) := by decide +kernel
theorem dX10_of_122 : decode cX10_of 122 = .ok (.aload_n 0, 1) := by decide +kernel
theorem dX10_of_123 : decode cX10_of 123 = .ok (.iload_n 1, 1) := by decide +kernel
theorem dX10_of_124 : decode cX10_of 124 = .ok (.iload_n 3, 1) := by decide +kernel
theorem dX10_of_125 : decode cX10_of 125 = .ok (.invokevirtual 82, 3) := by decide +kernel
theorem dX10_of_128 : decode cX10_of 128 = .ok (.goto 24, 3) := by decide +kernel
theorem dX10_of_131 : decode cX10_of 131 = .ok (.iload_n 2, 1) := by decide +kernel
theorem dX10_of_132 : decode cX10_of 132 = .ok (.bipush 30, 2) := by decide +kernel
theorem dX10_of_134 : decode cX10_of 134 = .ok (.if_icmp .ge 12, 3) := by decide +kernel
theorem dX10_of_137 : decode cX10_of 137 = .ok (.aload_n 0, 1) := by decide +kernel
theorem dX10_of_138 : decode cX10_of 138 = .ok (.iload_n 1, 1) := by decide +kernel
theorem dX10_of_139 : decode cX10_of 139 = .ok (.iload_n 3, 1) := by decide +kernel
theorem dX10_of_140 : decode cX10_of 140 = .ok (.invokevirtual 89, 3) := by decide +kernel
theorem dX10_of_143 : decode cX10_of 143 = .ok (.goto 9, 3) := by decide +kernel
theorem dX10_of_146 : decode cX10_of 146 = .ok (.aload_n 0, 1) := by decide +kernel
theorem dX10_of_147 : decode cX10_of 147 = .ok (.iload_n 1, 1) := by decide +kernel
theorem dX10_of_148 : decode cX10_of 148 = .ok (.iload_n 3, 1) := by decide +kernel
theorem dX10_of_149 : decode cX10_of 149 = .ok (.invokevirtual 132, 3) := by decide +kernel
theorem dX10_of_152 : decode cX10_of 152 = .ok (.ireturn, 1) := by decide +kernel
theorem dX10_neutral_0 : decode cX10_neutral 0 = .ok (.iload_n 1, 1) := by decide +kernel
theorem dX10_neutral_1 : decode cX10_neutral 1 = .ok (.invokestatic 117, 3) := by decide +kernel
theorem dX10_neutral_4 : decode cX10_neutral 4 = .ok (.ifCond .eq 11, 3) := by decide +kernel
theorem dX10_neutral_7 : decode cX10_neutral 7 = .ok (.aload_n 0, 1) := by decide +kernel
theorem dX10_neutral_8 : decode cX10_neutral 8 = .ok (.iload_n 1, 1) := by decide +kernel
theorem dX10_neutral_9 : decode cX10_neutral 9 = .ok (.invokevirtual 106, 3) := by decide +kernel
theorem dX10_neutral_12 : decode cX10_neutral 12 = .ok (.goto 4, 3) := by decide +kernel
theorem dX10_neutral_15 : decode cX10_neutral 15 = .ok (.iconst (-1), 1) := by decide +kernel
theorem dX10_neutral_16 : decode cX10_neutral 16 = .ok (.ireturn, 1) := by decide +kernel
theorem dX10_frees_0 : decode cX10_frees 0 = .ok (.aload_n 0, 1) := by decide +kernel
theorem dX10_frees_1 : decode cX10_frees 1 = .ok (.iload_n 1, 1) := by decide +kernel
theorem dX10_frees_2 : decode cX10_frees 2 = .ok (.invokevirtual 72, 3) := by decide +kernel
theorem dX10_frees_5 : decode cX10_frees 5 = .ok (.ifCond .ne 5, 3) := by decide +kernel
theorem dX10_frees_8 : decode cX10_frees 8 = .ok (.iconst (-1), 1) := by decide +kernel
theorem dX10_frees_9 : decode cX10_frees 9 = .ok (.ireturn, 1) := by decide +kernel
theorem dX10_frees_10 : decode cX10_frees 10 = .ok (.aload_n 0, 1) := by decide +kernel
theorem dX10_frees_11 : decode cX10_frees 11 = .ok (.getfield 9, 3) := by decide +kernel
theorem dX10_frees_14 : decode cX10_frees 14 = .ok (.bipush 51, 2) := by decide +kernel
theorem dX10_frees_16 : decode cX10_frees 16 = .ok (.iload_n 1, 1) := by decide +kernel
theorem dX10_frees_17 : decode cX10_frees 17 = .ok (.iadd, 1) := by decide +kernel
theorem dX10_frees_18 : decode cX10_frees 18 = .ok (.iaload, 1) := by decide +kernel
theorem dX10_frees_19 : decode cX10_frees 19 = .ok (.istore_n 2, 1) := by decide +kernel
theorem dX10_frees_20 : decode cX10_frees 20 = .ok (.aload_n 0, 1) := by decide +kernel
theorem dX10_frees_21 : decode cX10_frees 21 = .ok (.getfield 9, 3) := by decide +kernel
theorem dX10_frees_24 : decode cX10_frees 24 = .ok (.bipush 51, 2) := by decide +kernel
theorem dX10_frees_26 : decode cX10_frees 26 = .ok (.iload_n 1, 1) := by decide +kernel
theorem dX10_frees_27 : decode cX10_frees 27 = .ok (.iadd, 1) := by decide +kernel
theorem dX10_frees_28 : decode cX10_frees 28 = .ok (.iconst 0, 1) := by decide +kernel
theorem dX10_frees_29 : decode cX10_frees 29 = .ok (.iastore, 1) := by decide +kernel
theorem dX10_frees_30 : decode cX10_frees 30 = .ok (.iload_n 2, 1) := by decide +kernel
theorem dX10_frees_31 : decode cX10_frees 31 = .ok (.ireturn, 1) := by decide +kernel
theorem dX10_adds_0 : decode cX10_adds 0 = .ok (.aload_n 0, 1) := by decide +kernel
theorem dX10_adds_1 : decode cX10_adds 1 = .ok (.getfield 9, 3) := by decide +kernel
theorem dX10_adds_4 : decode cX10_adds 4 = .ok (.iconst 2, 1) := by decide +kernel
theorem dX10_adds_5 : decode cX10_adds 5 = .ok (.iaload, 1) := by decide +kernel
theorem dX10_adds_6 : decode cX10_adds 6 = .ok (.istore_n 3, 1) := by decide +kernel
theorem dX10_adds_7 : decode cX10_adds 7 = .ok (.aload_n 0, 1) := by decide +kernel
theorem dX10_adds_8 : decode cX10_adds 8 = .ok (.getfield 9, 3) := by decide +kernel
theorem dX10_adds_11 : decode cX10_adds 11 = .ok (.sipush 251, 3) := by decide +kernel
theorem dX10_adds_14 : decode cX10_adds 14 = .ok (.iload_n 3, 1) := by decide +kernel
theorem dX10_adds_15 : decode cX10_adds 15 = .ok (.iadd, 1) := by decide +kernel
theorem dX10_adds_16 : decode cX10_adds 16 = .ok (.iload_n 1, 1) := by decide +kernel
theorem dX10_adds_17 : decode cX10_adds 17 = .ok (.iastore, 1) := by decide +kernel
theorem dX10_adds_18 : decode cX10_adds 18 = .ok (.aload_n 0, 1) := by decide +kernel
theorem dX10_adds_19 : decode cX10_adds 19 = .ok (.getfield 9, 3) := by decide +kernel
theorem dX10_adds_22 : decode cX10_adds 22 = .ok (.sipush 275, 3) := by decide +kernel
theorem dX10_adds_25 : decode cX10_adds 25 = .ok (.iload_n 3, 1) := by decide +kernel
theorem dX10_adds_26 : decode cX10_adds 26 = .ok (.iadd, 1) := by decide +kernel
theorem dX10_adds_27 : decode cX10_adds 27 = .ok (.iload_n 2, 1) := by decide +kernel
theorem dX10_adds_28 : decode cX10_adds 28 = .ok (.iastore, 1) := by decide +kernel
theorem dX10_adds_29 : decode cX10_adds 29 = .ok (.aload_n 0, 1) := by decide +kernel
theorem dX10_adds_30 : decode cX10_adds 30 = .ok (.getfield 9, 3) := by decide +kernel
theorem dX10_adds_33 : decode cX10_adds 33 = .ok (.sipush 299, 3) := by decide +kernel
theorem dX10_adds_36 : decode cX10_adds 36 = .ok (.iload_n 3, 1) := by decide +kernel
theorem dX10_adds_37 : decode cX10_adds 37 = .ok (.iadd, 1) := by decide +kernel
theorem dX10_adds_38 : decode cX10_adds 38 = .ok (.iconst (-1), 1) := by decide +kernel
theorem dX10_adds_39 : decode cX10_adds 39 = .ok (.iastore, 1) := by decide +kernel
theorem dX10_adds_40 : decode cX10_adds 40 = .ok (.iconst 0, 1) := by decide +kernel
theorem dX10_adds_41 : decode cX10_adds 41 = .ok (.istore 4, 2) := by decide +kernel
theorem dX10_adds_43 : decode cX10_adds 43 = .ok (.iload 4, 2) := by decide +kernel
theorem dX10_adds_45 : decode cX10_adds 45 = .ok (.bipush 8, 2) := by decide +kernel
theorem dX10_adds_47 : decode cX10_adds 47 = .ok (.if_icmp .ge 26, 3) := by decide +kernel
theorem dX10_adds_50 : decode cX10_adds 50 = .ok (.aload_n 0, 1) := by decide +kernel
theorem dX10_adds_51 : decode cX10_adds 51 = .ok (.getfield 9, 3) := by decide +kernel
theorem dX10_adds_54 : decode cX10_adds 54 = .ok (.sipush 323, 3) := by decide +kernel
theorem dX10_adds_57 : decode cX10_adds 57 = .ok (.bipush 24, 2) := by decide +kernel
theorem dX10_adds_59 : decode cX10_adds 59 = .ok (.iload 4, 2) := by decide +kernel
theorem dX10_adds_61 : decode cX10_adds 61 = .ok (.imul, 1) := by decide +kernel
theorem dX10_adds_62 : decode cX10_adds 62 = .ok (.iadd, 1) := by decide +kernel
theorem dX10_adds_63 : decode cX10_adds 63 = .ok (.iload_n 3, 1) := by decide +kernel
theorem dX10_adds_64 : decode cX10_adds 64 = .ok (.iadd, 1) := by decide +kernel
theorem dX10_adds_65 : decode cX10_adds 65 = .ok (.iconst 0, 1) := by decide +kernel
theorem dX10_adds_66 : decode cX10_adds 66 = .ok (.iastore, 1) := by decide +kernel
theorem dX10_adds_67 : decode cX10_adds 67 = .ok (.iinc 4 1, 3) := by decide +kernel
theorem dX10_adds_70 : decode cX10_adds 70 = .ok (.goto (-27), 3) := by decide +kernel
theorem dX10_adds_73 : decode cX10_adds 73 = .ok (.aload_n 0, 1) := by decide +kernel
theorem dX10_adds_74 : decode cX10_adds 74 = .ok (.getfield 9, 3) := by decide +kernel
theorem dX10_adds_77 : decode cX10_adds 77 = .ok (.iconst 2, 1) := by decide +kernel
theorem dX10_adds_78 : decode cX10_adds 78 = .ok (.dup2, 1) := by decide +kernel
theorem dX10_adds_79 : decode cX10_adds 79 = .ok (.iaload, 1) := by decide +kernel
theorem dX10_adds_80 : decode cX10_adds 80 = .ok (.iconst 1, 1) := by decide +kernel
theorem dX10_adds_81 : decode cX10_adds 81 = .ok (.iadd, 1) := by decide +kernel
theorem dX10_adds_82 : decode cX10_adds 82 = .ok (.iastore, 1) := by decide +kernel
theorem dX10_adds_83 : decode cX10_adds 83 = .ok (.return_, 1) := by decide +kernel
theorem dX10_duty_0 : decode cX10_duty 0 = .ok (.iload_n 2, 1) := by decide +kernel
theorem dX10_duty_1 : decode cX10_duty 1 = .ok (.invokestatic 117, 3) := by decide +kernel
theorem dX10_duty_4 : decode cX10_duty 4 = .ok (.ifCond .ne 5, 3) := by decide +kernel
theorem dX10_duty_7 : decode cX10_duty 7 = .ok (.iconst (-1), 1) := by decide +kernel
theorem dX10_duty_8 : decode cX10_duty 8 = .ok (.ireturn, 1) := by decide +kernel
theorem dX10_duty_9 : decode cX10_duty 9 = .ok (.iload_n 1, 1) := by decide +kernel
theorem dX10_duty_10 : decode cX10_duty 10 = .ok (.i2l, 1) := by decide +kernel
theorem dX10_duty_11 : decode cX10_duty 11 = .ok (.lconst 0, 1) := by decide +kernel
theorem dX10_duty_12 : decode cX10_duty 12 = .ok (.ldc2_w 135, 3) := by decide +kernel
theorem dX10_duty_15 : decode cX10_duty 15 = .ok (.invokestatic 68, 3) := by decide +kernel
theorem dX10_duty_18 : decode cX10_duty 18 = .ok (.ifCond .ne 6, 3) := by decide +kernel
theorem dX10_duty_21 : decode cX10_duty 21 = .ok (.bipush (-2), 2) := by decide +kernel
theorem dX10_duty_23 : decode cX10_duty 23 = .ok (.ireturn, 1) := by decide +kernel
theorem dX10_duty_24 : decode cX10_duty 24 = .ok (.aload_n 0, 1) := by decide +kernel
theorem dX10_duty_25 : decode cX10_duty 25 = .ok (.getfield 9, 3) := by decide +kernel
theorem dX10_duty_28 : decode cX10_duty 28 = .ok (.iconst 2, 1) := by decide +kernel
theorem dX10_duty_29 : decode cX10_duty 29 = .ok (.iaload, 1) := by decide +kernel
theorem dX10_duty_30 : decode cX10_duty 30 = .ok (.bipush 24, 2) := by decide +kernel
theorem dX10_duty_32 : decode cX10_duty 32 = .ok (.if_icmp .ne 6, 3) := by decide +kernel
theorem dX10_duty_35 : decode cX10_duty 35 = .ok (.bipush (-4), 2) := by decide +kernel
theorem dX10_duty_37 : decode cX10_duty 37 = .ok (.ireturn, 1) := by decide +kernel
theorem dX10_duty_38 : decode cX10_duty 38 = .ok (.aload_n 0, 1) := by decide +kernel
theorem dX10_duty_39 : decode cX10_duty 39 = .ok (.iload_n 1, 1) := by decide +kernel
theorem dX10_duty_40 : decode cX10_duty 40 = .ok (.iload_n 2, 1) := by decide +kernel
theorem dX10_duty_41 : decode cX10_duty 41 = .ok (.invokevirtual 137, 3) := by decide +kernel
theorem dX10_duty_44 : decode cX10_duty 44 = .ok (.aload_n 0, 1) := by decide +kernel
theorem dX10_duty_45 : decode cX10_duty 45 = .ok (.getfield 9, 3) := by decide +kernel
theorem dX10_duty_48 : decode cX10_duty 48 = .ok (.iconst 2, 1) := by decide +kernel
theorem dX10_duty_49 : decode cX10_duty 49 = .ok (.iaload, 1) := by decide +kernel
theorem dX10_duty_50 : decode cX10_duty 50 = .ok (.iconst 1, 1) := by decide +kernel
theorem dX10_duty_51 : decode cX10_duty 51 = .ok (.isub, 1) := by decide +kernel
theorem dX10_duty_52 : decode cX10_duty 52 = .ok (.ireturn, 1) := by decide +kernel
theorem dX10_whoMay_0 : decode cX10_whoMay 0 = .ok (.iconst 0, 1) := by decide +kernel
theorem dX10_whoMay_1 : decode cX10_whoMay 1 = .ok (.istore_n 2, 1) := by decide +kernel
theorem dX10_whoMay_2 : decode cX10_whoMay 2 = .ok (.iconst 0, 1) := by decide +kernel
theorem dX10_whoMay_3 : decode cX10_whoMay 3 = .ok (.istore_n 3, 1) := by decide +kernel
theorem dX10_whoMay_4 : decode cX10_whoMay 4 = .ok (.iload_n 3, 1) := by decide +kernel
theorem dX10_whoMay_5 : decode cX10_whoMay 5 = .ok (.aload_n 0, 1) := by decide +kernel
theorem dX10_whoMay_6 : decode cX10_whoMay 6 = .ok (.getfield 9, 3) := by decide +kernel
theorem dX10_whoMay_9 : decode cX10_whoMay 9 = .ok (.iconst 0, 1) := by decide +kernel
theorem dX10_whoMay_10 : decode cX10_whoMay 10 = .ok (.iaload, 1) := by decide +kernel
theorem dX10_whoMay_11 : decode cX10_whoMay 11 = .ok (.if_icmp .ge 26, 3) := by decide +kernel
theorem dX10_whoMay_14 : decode cX10_whoMay 14 = .ok (.iload_n 2, 1) := by decide +kernel
theorem dX10_whoMay_15 : decode cX10_whoMay 15 = .ok (.aload_n 0, 1) := by decide +kernel
theorem dX10_whoMay_16 : decode cX10_whoMay 16 = .ok (.iload_n 3, 1) := by decide +kernel
theorem dX10_whoMay_17 : decode cX10_whoMay 17 = .ok (.iload_n 1, 1) := by decide +kernel
theorem dX10_whoMay_18 : decode cX10_whoMay 18 = .ok (.invokevirtual 113, 3) := by decide +kernel
theorem dX10_whoMay_21 : decode cX10_whoMay 21 = .ok (.ifCond .eq 7, 3) := by decide +kernel
theorem dX10_whoMay_24 : decode cX10_whoMay 24 = .ok (.iconst 1, 1) := by decide +kernel
theorem dX10_whoMay_25 : decode cX10_whoMay 25 = .ok (.goto 4, 3) := by decide +kernel
theorem dX10_whoMay_28 : decode cX10_whoMay 28 = .ok (.iconst 0, 1) := by decide +kernel
theorem dX10_whoMay_29 : decode cX10_whoMay 29 = .ok (.iadd, 1) := by decide +kernel
theorem dX10_whoMay_30 : decode cX10_whoMay 30 = .ok (.istore_n 2, 1) := by decide +kernel
theorem dX10_whoMay_31 : decode cX10_whoMay 31 = .ok (.iinc 3 1, 3) := by decide +kernel
theorem dX10_whoMay_34 : decode cX10_whoMay 34 = .ok (.goto (-30), 3) := by decide +kernel
theorem dX10_whoMay_37 : decode cX10_whoMay 37 = .ok (.iload_n 2, 1) := by decide +kernel
theorem dX10_whoMay_38 : decode cX10_whoMay 38 = .ok (.ireturn, 1) := by decide +kernel
theorem dX10_toldHolder_0 : decode cX10_toldHolder 0 = .ok (.iload_n 0, 1) := by decide +kernel
theorem dX10_toldHolder_1 : decode cX10_toldHolder 1 = .ok (.ifCond .ge 8, 3) := by decide +kernel
theorem dX10_toldHolder_4 : decode cX10_toldHolder 4 = .ok (.bipush (-5), 2) := by decide +kernel
theorem dX10_toldHolder_6 : decode cX10_toldHolder 6 = .ok (.goto 4, 3) := by decide +kernel
theorem dX10_toldHolder_9 : decode cX10_toldHolder 9 = .ok (.iload_n 0, 1) := by decide +kernel
theorem dX10_toldHolder_10 : decode cX10_toldHolder 10 = .ok (.ireturn, 1) := by decide +kernel
theorem dX10_dutyOf_0 : decode cX10_dutyOf 0 = .ok (.aload_n 0, 1) := by decide +kernel
theorem dX10_dutyOf_1 : decode cX10_dutyOf 1 = .ok (.iload_n 1, 1) := by decide +kernel
theorem dX10_dutyOf_2 : decode cX10_dutyOf 2 = .ok (.invokevirtual 141, 3) := by decide +kernel
theorem dX10_dutyOf_5 : decode cX10_dutyOf 5 = .ok (.ifCond .ne 5, 3) := by decide +kernel
theorem dX10_dutyOf_8 : decode cX10_dutyOf 8 = .ok (.iconst (-1), 1) := by decide +kernel
theorem dX10_dutyOf_9 : decode cX10_dutyOf 9 = .ok (.ireturn, 1) := by decide +kernel
theorem dX10_dutyOf_10 : decode cX10_dutyOf 10 = .ok (.iload_n 2, 1) := by decide +kernel
theorem dX10_dutyOf_11 : decode cX10_dutyOf 11 = .ok (.tableswitch 76 0 4 #[33, 44, 55, 64, 70], 33) := by decide +kernel
theorem dX10_dutyOf_44 : decode cX10_dutyOf 44 = .ok (.aload_n 0, 1) := by decide +kernel
theorem dX10_dutyOf_45 : decode cX10_dutyOf 45 = .ok (.getfield 9, 3) := by decide +kernel
theorem dX10_dutyOf_48 : decode cX10_dutyOf 48 = .ok (.sipush 251, 3) := by decide +kernel
theorem dX10_dutyOf_51 : decode cX10_dutyOf 51 = .ok (.iload_n 1, 1) := by decide +kernel
theorem dX10_dutyOf_52 : decode cX10_dutyOf 52 = .ok (.iadd, 1) := by decide +kernel
theorem dX10_dutyOf_53 : decode cX10_dutyOf 53 = .ok (.iaload, 1) := by decide +kernel
theorem dX10_dutyOf_54 : decode cX10_dutyOf 54 = .ok (.ireturn, 1) := by decide +kernel
theorem dX10_dutyOf_55 : decode cX10_dutyOf 55 = .ok (.aload_n 0, 1) := by decide +kernel
theorem dX10_dutyOf_56 : decode cX10_dutyOf 56 = .ok (.getfield 9, 3) := by decide +kernel
theorem dX10_dutyOf_59 : decode cX10_dutyOf 59 = .ok (.sipush 275, 3) := by decide +kernel
theorem dX10_dutyOf_62 : decode cX10_dutyOf 62 = .ok (.iload_n 1, 1) := by decide +kernel
theorem dX10_dutyOf_63 : decode cX10_dutyOf 63 = .ok (.iadd, 1) := by decide +kernel
theorem dX10_dutyOf_64 : decode cX10_dutyOf 64 = .ok (.iaload, 1) := by decide +kernel
theorem dX10_dutyOf_65 : decode cX10_dutyOf 65 = .ok (.ireturn, 1) := by decide +kernel
theorem dX10_dutyOf_66 : decode cX10_dutyOf 66 = .ok (.aload_n 0, 1) := by decide +kernel
theorem dX10_dutyOf_67 : decode cX10_dutyOf 67 = .ok (.iload_n 1, 1) := by decide +kernel
theorem dX10_dutyOf_68 : decode cX10_dutyOf 68 = .ok (.invokevirtual 78, 3) := by decide +kernel
theorem dX10_dutyOf_71 : decode cX10_dutyOf 71 = .ok (.invokestatic 144, 3) := by decide +kernel
theorem dX10_dutyOf_74 : decode cX10_dutyOf 74 = .ok (.ireturn, 1) := by decide +kernel
theorem dX10_dutyOf_75 : decode cX10_dutyOf 75 = .ok (.aload_n 0, 1) := by decide +kernel
theorem dX10_dutyOf_76 : decode cX10_dutyOf 76 = .ok (.iload_n 1, 1) := by decide +kernel
theorem dX10_dutyOf_77 : decode cX10_dutyOf 77 = .ok (.invokevirtual 147, 3) := by decide +kernel
theorem dX10_dutyOf_80 : decode cX10_dutyOf 80 = .ok (.ireturn, 1) := by decide +kernel
theorem dX10_dutyOf_81 : decode cX10_dutyOf 81 = .ok (.aload_n 0, 1) := by decide +kernel
theorem dX10_dutyOf_82 : decode cX10_dutyOf 82 = .ok (.iload_n 1, 1) := by decide +kernel
theorem dX10_dutyOf_83 : decode cX10_dutyOf 83 = .ok (.invokevirtual 150, 3) := by decide +kernel
theorem dX10_dutyOf_86 : decode cX10_dutyOf 86 = .ok (.ireturn, 1) := by decide +kernel
theorem dX10_dutyOf_87 : decode cX10_dutyOf 87 = .ok (.iconst (-1), 1) := by decide +kernel
theorem dX10_dutyOf_88 : decode cX10_dutyOf 88 = .ok (.ireturn, 1) := by decide +kernel
theorem dX10_stands_0 : decode cX10_stands 0 = .ok (.aload_n 0, 1) := by decide +kernel
theorem dX10_stands_1 : decode cX10_stands 1 = .ok (.iload_n 1, 1) := by decide +kernel
theorem dX10_stands_2 : decode cX10_stands 2 = .ok (.invokevirtual 141, 3) := by decide +kernel
theorem dX10_stands_5 : decode cX10_stands 5 = .ok (.ifCond .ne 5, 3) := by decide +kernel
theorem dX10_stands_8 : decode cX10_stands 8 = .ok (.iconst (-1), 1) := by decide +kernel
theorem dX10_stands_9 : decode cX10_stands 9 = .ok (.ireturn, 1) := by decide +kernel
theorem dX10_stands_10 : decode cX10_stands 10 = .ok (.aload_n 0, 1) := by decide +kernel
theorem dX10_stands_11 : decode cX10_stands 11 = .ok (.invokevirtual 103, 3) := by decide +kernel
theorem dX10_stands_14 : decode cX10_stands 14 = .ok (.aload_n 0, 1) := by decide +kernel
theorem dX10_stands_15 : decode cX10_stands 15 = .ok (.getfield 22, 3) := by decide +kernel
theorem dX10_stands_18 : decode cX10_stands 18 = .ok (.iload_n 1, 1) := by decide +kernel
theorem dX10_stands_19 : decode cX10_stands 19 = .ok (.iaload, 1) := by decide +kernel
theorem dX10_stands_20 : decode cX10_stands 20 = .ok (.ireturn, 1) := by decide +kernel
theorem dX10_may_0 : decode cX10_may 0 = .ok (.aload_n 0, 1) := by decide +kernel
theorem dX10_may_1 : decode cX10_may 1 = .ok (.iload_n 1, 1) := by decide +kernel
theorem dX10_may_2 : decode cX10_may 2 = .ok (.invokevirtual 72, 3) := by decide +kernel
theorem dX10_may_5 : decode cX10_may 5 = .ok (.ifCond .eq 11, 3) := by decide +kernel
theorem dX10_may_8 : decode cX10_may 8 = .ok (.aload_n 0, 1) := by decide +kernel
theorem dX10_may_9 : decode cX10_may 9 = .ok (.iload_n 2, 1) := by decide +kernel
theorem dX10_may_10 : decode cX10_may 10 = .ok (.invokevirtual 141, 3) := by decide +kernel
theorem dX10_may_13 : decode cX10_may 13 = .ok (.ifCond .ne 7, 3) := by decide +kernel
theorem dX10_may_16 : decode cX10_may 16 = .ok (.iconst (-1), 1) := by decide +kernel
theorem dX10_may_17 : decode cX10_may 17 = .ok (.goto 17, 3) := by decide +kernel
theorem dX10_may_20 : decode cX10_may 20 = .ok (.aload_n 0, 1) := by decide +kernel
theorem dX10_may_21 : decode cX10_may 21 = .ok (.iload_n 1, 1) := by decide +kernel
theorem dX10_may_22 : decode cX10_may 22 = .ok (.iload_n 2, 1) := by decide +kernel
theorem dX10_may_23 : decode cX10_may 23 = .ok (.invokevirtual 113, 3) := by decide +kernel
theorem dX10_may_26 : decode cX10_may 26 = .ok (.ifCond .eq 7, 3) := by decide +kernel
theorem dX10_may_29 : decode cX10_may 29 = .ok (.iconst 1, 1) := by decide +kernel
theorem dX10_may_30 : decode cX10_may 30 = .ok (.goto 4, 3) := by decide +kernel
theorem dX10_may_33 : decode cX10_may 33 = .ok (.iconst 0, 1) := by decide +kernel
theorem dX10_may_34 : decode cX10_may 34 = .ok (.ireturn, 1) := by decide +kernel
theorem dX10_dislike_0 : decode cX10_dislike 0 = .ok (.aload_n 0, 1) := by decide +kernel
theorem dX10_dislike_1 : decode cX10_dislike 1 = .ok (.iload_n 1, 1) := by decide +kernel
theorem dX10_dislike_2 : decode cX10_dislike 2 = .ok (.invokevirtual 72, 3) := by decide +kernel
theorem dX10_dislike_5 : decode cX10_dislike 5 = .ok (.ifCond .eq 11, 3) := by decide +kernel
theorem dX10_dislike_8 : decode cX10_dislike 8 = .ok (.aload_n 0, 1) := by decide +kernel
theorem dX10_dislike_9 : decode cX10_dislike 9 = .ok (.iload_n 2, 1) := by decide +kernel
theorem dX10_dislike_10 : decode cX10_dislike 10 = .ok (.invokevirtual 141, 3) := by decide +kernel
theorem dX10_dislike_13 : decode cX10_dislike 13 = .ok (.ifCond .ne 5, 3) := by decide +kernel
theorem dX10_dislike_16 : decode cX10_dislike 16 = .ok (.iconst (-1), 1) := by decide +kernel
theorem dX10_dislike_17 : decode cX10_dislike 17 = .ok (.ireturn, 1) := by decide +kernel
theorem dX10_dislike_18 : decode cX10_dislike 18 = .ok (.iload_n 3, 1) := by decide +kernel
theorem dX10_dislike_19 : decode cX10_dislike 19 = .ok (.i2l, 1) := by decide +kernel
theorem dX10_dislike_20 : decode cX10_dislike 20 = .ok (.lconst 0, 1) := by decide +kernel
theorem dX10_dislike_21 : decode cX10_dislike 21 = .ok (.ldc2_w 153, 3) := by decide +kernel
theorem dX10_dislike_24 : decode cX10_dislike 24 = .ok (.invokestatic 68, 3) := by decide +kernel
theorem dX10_dislike_27 : decode cX10_dislike 27 = .ok (.ifCond .ne 6, 3) := by decide +kernel
theorem dX10_dislike_30 : decode cX10_dislike 30 = .ok (.bipush (-2), 2) := by decide +kernel
theorem dX10_dislike_32 : decode cX10_dislike 32 = .ok (.ireturn, 1) := by decide +kernel
theorem dX10_dislike_33 : decode cX10_dislike 33 = .ok (.sipush 323, 3) := by decide +kernel
theorem dX10_dislike_36 : decode cX10_dislike 36 = .ok (.bipush 24, 2) := by decide +kernel
theorem dX10_dislike_38 : decode cX10_dislike 38 = .ok (.iload_n 1, 1) := by decide +kernel
theorem dX10_dislike_39 : decode cX10_dislike 39 = .ok (.imul, 1) := by decide +kernel
theorem dX10_dislike_40 : decode cX10_dislike 40 = .ok (.iadd, 1) := by decide +kernel
theorem dX10_dislike_41 : decode cX10_dislike 41 = .ok (.iload_n 2, 1) := by decide +kernel
theorem dX10_dislike_42 : decode cX10_dislike 42 = .ok (.iadd, 1) := by decide +kernel
theorem dX10_dislike_43 : decode cX10_dislike 43 = .ok (.istore 4, 2) := by decide +kernel
theorem dX10_dislike_45 : decode cX10_dislike 45 = .ok (.aload_n 0, 1) := by decide +kernel
theorem dX10_dislike_46 : decode cX10_dislike 46 = .ok (.getfield 9, 3) := by decide +kernel
theorem dX10_dislike_49 : decode cX10_dislike 49 = .ok (.iload 4, 2) := by decide +kernel
theorem dX10_dislike_51 : decode cX10_dislike 51 = .ok (.iaload, 1) := by decide +kernel
theorem dX10_dislike_52 : decode cX10_dislike 52 = .ok (.istore 5, 2) := by decide +kernel
theorem dX10_dislike_54 : decode cX10_dislike 54 = .ok (.aload_n 0, 1) := by decide +kernel
theorem dX10_dislike_55 : decode cX10_dislike 55 = .ok (.getfield 9, 3) := by decide +kernel
theorem dX10_dislike_58 : decode cX10_dislike 58 = .ok (.iload 4, 2) := by decide +kernel
theorem dX10_dislike_60 : decode cX10_dislike 60 = .ok (.iload_n 3, 1) := by decide +kernel
theorem dX10_dislike_61 : decode cX10_dislike 61 = .ok (.iastore, 1) := by decide +kernel
theorem dX10_dislike_62 : decode cX10_dislike 62 = .ok (.iload 5, 2) := by decide +kernel
theorem dX10_dislike_64 : decode cX10_dislike 64 = .ok (.ireturn, 1) := by decide +kernel
theorem dX10_dislikeOf_0 : decode cX10_dislikeOf 0 = .ok (.aload_n 0, 1) := by decide +kernel
theorem dX10_dislikeOf_1 : decode cX10_dislikeOf 1 = .ok (.getfield 9, 3) := by decide +kernel
theorem dX10_dislikeOf_4 : decode cX10_dislikeOf 4 = .ok (.sipush 323, 3) := by decide +kernel
theorem dX10_dislikeOf_7 : decode cX10_dislikeOf 7 = .ok (.bipush 24, 2) := by decide +kernel
theorem dX10_dislikeOf_9 : decode cX10_dislikeOf 9 = .ok (.iload_n 1, 1) := by decide +kernel
theorem dX10_dislikeOf_10 : decode cX10_dislikeOf 10 = .ok (.imul, 1) := by decide +kernel
theorem dX10_dislikeOf_11 : decode cX10_dislikeOf 11 = .ok (.iadd, 1) := by decide +kernel
theorem dX10_dislikeOf_12 : decode cX10_dislikeOf 12 = .ok (.iload_n 2, 1) := by decide +kernel
theorem dX10_dislikeOf_13 : decode cX10_dislikeOf 13 = .ok (.iadd, 1) := by decide +kernel
theorem dX10_dislikeOf_14 : decode cX10_dislikeOf 14 = .ok (.iaload, 1) := by decide +kernel
theorem dX10_dislikeOf_15 : decode cX10_dislikeOf 15 = .ok (.ireturn, 1) := by decide +kernel
theorem dX10_hold_0 : decode cX10_hold 0 = .ok (.aload_n 0, 1) := by decide +kernel
theorem dX10_hold_1 : decode cX10_hold 1 = .ok (.iload_n 1, 1) := by decide +kernel
theorem dX10_hold_2 : decode cX10_hold 2 = .ok (.invokevirtual 141, 3) := by decide +kernel
theorem dX10_hold_5 : decode cX10_hold 5 = .ok (.ifCond .eq 11, 3) := by decide +kernel
theorem dX10_hold_8 : decode cX10_hold 8 = .ok (.aload_n 0, 1) := by decide +kernel
theorem dX10_hold_9 : decode cX10_hold 9 = .ok (.iload_n 2, 1) := by decide +kernel
theorem dX10_hold_10 : decode cX10_hold 10 = .ok (.invokevirtual 72, 3) := by decide +kernel
theorem dX10_hold_13 : decode cX10_hold 13 = .ok (.ifCond .ne 5, 3) := by decide +kernel
theorem dX10_hold_16 : decode cX10_hold 16 = .ok (.iconst (-1), 1) := by decide +kernel
theorem dX10_hold_17 : decode cX10_hold 17 = .ok (.ireturn, 1) := by decide +kernel
theorem dX10_hold_18 : decode cX10_hold 18 = .ok (.aload_n 0, 1) := by decide +kernel
theorem dX10_hold_19 : decode cX10_hold 19 = .ok (.iload_n 2, 1) := by decide +kernel
theorem dX10_hold_20 : decode cX10_hold 20 = .ok (.iload_n 1, 1) := by decide +kernel
theorem dX10_hold_21 : decode cX10_hold 21 = .ok (.invokevirtual 113, 3) := by decide +kernel
theorem dX10_hold_24 : decode cX10_hold 24 = .ok (.ifCond .ne 6, 3) := by decide +kernel
theorem dX10_hold_27 : decode cX10_hold 27 = .ok (.bipush (-7), 2) := by decide +kernel
theorem dX10_hold_29 : decode cX10_hold 29 = .ok (.ireturn, 1) := by decide +kernel
theorem dX10_hold_30 : decode cX10_hold 30 = .ok (.aload_n 0, 1) := by decide +kernel
theorem dX10_hold_31 : decode cX10_hold 31 = .ok (.iload_n 1, 1) := by decide +kernel
theorem dX10_hold_32 : decode cX10_hold 32 = .ok (.invokevirtual 78, 3) := by decide +kernel
theorem dX10_hold_35 : decode cX10_hold 35 = .ok (.istore_n 3, 1) := by decide +kernel
theorem dX10_hold_36 : decode cX10_hold 36 = .ok (.aload_n 0, 1) := by decide +kernel
theorem dX10_hold_37 : decode cX10_hold 37 = .ok (.getfield 9, 3) := by decide +kernel
theorem dX10_hold_40 : decode cX10_hold 40 = .ok (.sipush 299, 3) := by decide +kernel
theorem dX10_hold_43 : decode cX10_hold 43 = .ok (.iload_n 1, 1) := by decide +kernel
theorem dX10_hold_44 : decode cX10_hold 44 = .ok (.iadd, 1) := by decide +kernel
theorem dX10_hold_45 : decode cX10_hold 45 = .ok (.iload_n 2, 1) := by decide +kernel
theorem dX10_hold_46 : decode cX10_hold 46 = .ok (.iastore, 1) := by decide +kernel
theorem dX10_hold_47 : decode cX10_hold 47 = .ok (.iload_n 3, 1) := by decide +kernel
theorem dX10_hold_48 : decode cX10_hold 48 = .ok (.invokestatic 144, 3) := by decide +kernel
theorem dX10_hold_51 : decode cX10_hold 51 = .ok (.ireturn, 1) := by decide +kernel
theorem dX10_open_0 : decode cX10_open 0 = .ok (.aload_n 0, 1) := by decide +kernel
theorem dX10_open_1 : decode cX10_open 1 = .ok (.iload_n 1, 1) := by decide +kernel
theorem dX10_open_2 : decode cX10_open 2 = .ok (.invokevirtual 141, 3) := by decide +kernel
theorem dX10_open_5 : decode cX10_open 5 = .ok (.ifCond .ne 5, 3) := by decide +kernel
theorem dX10_open_8 : decode cX10_open 8 = .ok (.iconst (-1), 1) := by decide +kernel
theorem dX10_open_9 : decode cX10_open 9 = .ok (.ireturn, 1) := by decide +kernel
theorem dX10_open_10 : decode cX10_open 10 = .ok (.aload_n 0, 1) := by decide +kernel
theorem dX10_open_11 : decode cX10_open 11 = .ok (.iload_n 1, 1) := by decide +kernel
theorem dX10_open_12 : decode cX10_open 12 = .ok (.invokevirtual 78, 3) := by decide +kernel
theorem dX10_open_15 : decode cX10_open 15 = .ok (.istore_n 2, 1) := by decide +kernel
theorem dX10_open_16 : decode cX10_open 16 = .ok (.aload_n 0, 1) := by decide +kernel
theorem dX10_open_17 : decode cX10_open 17 = .ok (.getfield 9, 3) := by decide +kernel
theorem dX10_open_20 : decode cX10_open 20 = .ok (.sipush 299, 3) := by decide +kernel
theorem dX10_open_23 : decode cX10_open 23 = .ok (.iload_n 1, 1) := by decide +kernel
theorem dX10_open_24 : decode cX10_open 24 = .ok (.iadd, 1) := by decide +kernel
theorem dX10_open_25 : decode cX10_open 25 = .ok (.iconst (-1), 1) := by decide +kernel
theorem dX10_open_26 : decode cX10_open 26 = .ok (.iastore, 1) := by decide +kernel
theorem dX10_open_27 : decode cX10_open 27 = .ok (.iload_n 2, 1) := by decide +kernel
theorem dX10_open_28 : decode cX10_open 28 = .ok (.ifCond .ge 8, 3) := by decide +kernel
theorem dX10_open_31 : decode cX10_open 31 = .ok (.bipush (-3), 2) := by decide +kernel
theorem dX10_open_33 : decode cX10_open 33 = .ok (.goto 4, 3) := by decide +kernel
theorem dX10_open_36 : decode cX10_open 36 = .ok (.iload_n 2, 1) := by decide +kernel
theorem dX10_open_37 : decode cX10_open 37 = .ok (.ireturn, 1) := by decide +kernel
theorem dX10_comesBy_0 : decode cX10_comesBy 0 = .ok (.aload_n 0, 1) := by decide +kernel
theorem dX10_comesBy_1 : decode cX10_comesBy 1 = .ok (.getfield 31, 3) := by decide +kernel
theorem dX10_comesBy_4 : decode cX10_comesBy 4 = .ok (.iload_n 1, 1) := by decide +kernel
theorem dX10_comesBy_5 : decode cX10_comesBy 5 = .ok (.baload, 1) := by decide +kernel
theorem dX10_comesBy_6 : decode cX10_comesBy 6 = .ok (.ifCond .ne 37, 3) := by decide +kernel
theorem dX10_comesBy_9 : decode cX10_comesBy 9 = .ok (.aload_n 0, 1) := by decide +kernel
theorem dX10_comesBy_10 : decode cX10_comesBy 10 = .ok (.getfield 31, 3) := by decide +kernel
theorem dX10_comesBy_13 : decode cX10_comesBy 13 = .ok (.iload_n 1, 1) := by decide +kernel
theorem dX10_comesBy_14 : decode cX10_comesBy 14 = .ok (.iconst 1, 1) := by decide +kernel
theorem dX10_comesBy_15 : decode cX10_comesBy 15 = .ok (.bastore, 1) := by decide +kernel
theorem dX10_comesBy_16 : decode cX10_comesBy 16 = .ok (.aload_n 0, 1) := by decide +kernel
theorem dX10_comesBy_17 : decode cX10_comesBy 17 = .ok (.getfield 28, 3) := by decide +kernel
theorem dX10_comesBy_20 : decode cX10_comesBy 20 = .ok (.iload_n 1, 1) := by decide +kernel
theorem dX10_comesBy_21 : decode cX10_comesBy 21 = .ok (.iload_n 2, 1) := by decide +kernel
