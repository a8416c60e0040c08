theorem dX8_train_56 : decode cX8_train 56 = .ok (.iconst 0, 1) := by decide +kernel
theorem dX8_train_57 : decode cX8_train 57 = .ok (.iconst 0, 1) := by decide +kernel
theorem dX8_train_58 : decode cX8_train 58 = .ok (.iload_n 2, 1) := by decide +kernel
theorem dX8_train_59 : decode cX8_train 59 = .ok (.invokespecial 81, 3) := by decide +kernel
theorem dX8_train_62 : decode cX8_train 62 = .ok (.putfield 84, 3) := by decide +kernel
theorem dX8_train_65 : decode cX8_train 65 = .ok (.return_, 1) := by decide +kernel
theorem dX8_report_0 : decode cX8_report 0 = .ok (.aload_n 0, 1) := by decide +kernel
theorem dX8_report_1 : decode cX8_report 1 = .ok (.iload_n 1, 1) := by decide +kernel
theorem dX8_report_2 : decode cX8_report 2 = .ok (.invokevirtual 90, 3) := by decide +kernel
theorem dX8_report_5 : decode cX8_report 5 = .ok (.astore 4, 2) := by decide +kernel
theorem dX8_report_7 : decode cX8_report 7 = .ok (.iload_n 2, 1) := by decide +kernel
theorem dX8_report_8 : decode cX8_report 8 = .ok (.iconst 0, 1) := by decide +kernel
theorem dX8_report_9 : decode cX8_report 9 = .ok (.bipush 9, 2) := by decide +kernel
theorem dX8_report_11 : decode cX8_report 11 = .ok (.invokestatic 34, 3) := by decide +kernel
theorem dX8_report_14 : decode cX8_report 14 = .ok (.ifCond .eq 17, 3) := by decide +kernel
theorem dX8_report_17 : decode cX8_report 17 = .ok (.iload_n 3, 1) := by decide +kernel
theorem dX8_report_18 : decode cX8_report 18 = .ok (.iconst 1, 1) := by decide +kernel
theorem dX8_report_19 : decode cX8_report 19 = .ok (.bipush 9, 2) := by decide +kernel
theorem dX8_report_21 : decode cX8_report 21 = .ok (.invokestatic 34, 3) := by decide +kernel
theorem dX8_report_24 : decode cX8_report 24 = .ok (.ifCond .eq 7, 3) := by decide +kernel
theorem dX8_report_27 : decode cX8_report 27 = .ok (.iconst 1, 1) := by decide +kernel
theorem dX8_report_28 : decode cX8_report 28 = .ok (.goto 4, 3) := by decide +kernel
theorem dX8_report_31 : decode cX8_report 31 = .ok (.iconst 0, 1) := by decide +kernel
theorem dX8_report_32 : decode cX8_report 32 = .ok (.invokestatic 38, 3) := by decide +kernel
theorem dX8_report_35 : decode cX8_report 35 = .ok (.aload 4, 2) := by decide +kernel
theorem dX8_report_37 : decode cX8_report 37 = .ok (.getfield 94, 3) := by decide +kernel
theorem dX8_report_40 : decode cX8_report 40 = .ok (.getfield 98, 3) := by decide +kernel
theorem dX8_report_43 : decode cX8_report 43 = .ok (.bipush 30, 2) := by decide +kernel
theorem dX8_report_45 : decode cX8_report 45 = .ok (.if_icmp .lt 13, 3) := by decide +kernel
theorem dX8_report_48 : decode cX8_report 48 = .ok (.new 46, 3) := by decide +kernel
theorem dX8_report_51 : decode cX8_report 51 = .ok (.dup, 1) := by decide +kernel
theorem dX8_report_52 : decode cX8_report 52 = .ok (.ldc 103, 2) := by decide +kernel
theorem dX8_report_54 : decode cX8_report 54 = .ok (.invokespecial 50, 3) := by decide +kernel
theorem dX8_report_57 : decode cX8_report 57 = .ok (.athrow, 1) := by decide +kernel
theorem dX8_report_58 : decode cX8_report 58 = .ok (.aload 4, 2) := by decide +kernel
theorem dX8_report_60 : decode cX8_report 60 = .ok (.getfield 94, 3) := by decide +kernel
theorem dX8_report_63 : decode cX8_report 63 = .ok (.aload_n 0, 1) := by decide +kernel
theorem dX8_report_64 : decode cX8_report 64 = .ok (.getfield 53, 3) := by decide +kernel
theorem dX8_report_67 : decode cX8_report 67 = .ok (.iload_n 2, 1) := by decide +kernel
theorem dX8_report_68 : decode cX8_report 68 = .ok (.iload_n 3, 1) := by decide +kernel
theorem dX8_report_69 : decode cX8_report 69 = .ok (.invokevirtual 105, 3) := by decide +kernel
theorem dX8_report_72 : decode cX8_report 72 = .ok (.aload 4, 2) := by decide +kernel
theorem dX8_report_74 : decode cX8_report 74 = .ok (.getfield 94, 3) := by decide +kernel
theorem dX8_report_77 : decode cX8_report 77 = .ok (.aload_n 0, 1) := by decide +kernel
theorem dX8_report_78 : decode cX8_report 78 = .ok (.getfield 53, 3) := by decide +kernel
theorem dX8_report_81 : decode cX8_report 81 = .ok (.invokevirtual 109, 3) := by decide +kernel
theorem dX8_report_84 : decode cX8_report 84 = .ok (.ireturn, 1) := by decide +kernel
theorem dX8_see_0 : decode cX8_see 0 = .ok (.aload_n 0, 1) := by decide +kernel
theorem dX8_see_1 : decode cX8_see 1 = .ok (.iload_n 1, 1) := by decide +kernel
theorem dX8_see_2 : decode cX8_see 2 = .ok (.invokevirtual 90, 3) := by decide +kernel
theorem dX8_see_5 : decode cX8_see 5 = .ok (.astore_n 2, 1) := by decide +kernel
theorem dX8_see_6 : decode cX8_see 6 = .ok (.aload_n 2, 1) := by decide +kernel
theorem dX8_see_7 : decode cX8_see 7 = .ok (.getfield 94, 3) := by decide +kernel
theorem dX8_see_10 : decode cX8_see 10 = .ok (.aload_n 0, 1) := by decide +kernel
theorem dX8_see_11 : decode cX8_see 11 = .ok (.getfield 53, 3) := by decide +kernel
theorem dX8_see_14 : decode cX8_see 14 = .ok (.invokevirtual 113, 3) := by decide +kernel
theorem dX8_see_17 : decode cX8_see 17 = .ok (.istore_n 3, 1) := by decide +kernel
theorem dX8_see_18 : decode cX8_see 18 = .ok (.aload_n 2, 1) := by decide +kernel
theorem dX8_see_19 : decode cX8_see 19 = .ok (.getfield 94, 3) := by decide +kernel
theorem dX8_see_22 : decode cX8_see 22 = .ok (.aload_n 0, 1) := by decide +kernel
theorem dX8_see_23 : decode cX8_see 23 = .ok (.getfield 53, 3) := by decide +kernel
theorem dX8_see_26 : decode cX8_see 26 = .ok (.putfield 116, 3) := by decide +kernel
theorem dX8_see_29 : decode cX8_see 29 = .ok (.iload_n 3, 1) := by decide +kernel
theorem dX8_see_30 : decode cX8_see 30 = .ok (.iconst (-1), 1) := by decide +kernel
theorem dX8_see_31 : decode cX8_see 31 = .ok (.if_icmp .eq 15, 3) := by decide +kernel
theorem dX8_see_34 : decode cX8_see 34 = .ok (.aload_n 0, 1) := by decide +kernel
theorem dX8_see_35 : decode cX8_see 35 = .ok (.getfield 53, 3) := by decide +kernel
theorem dX8_see_38 : decode cX8_see 38 = .ok (.iload_n 3, 1) := by decide +kernel
theorem dX8_see_39 : decode cX8_see 39 = .ok (.if_icmp .le 7, 3) := by decide +kernel
theorem dX8_see_42 : decode cX8_see 42 = .ok (.iconst 1, 1) := by decide +kernel
theorem dX8_see_43 : decode cX8_see 43 = .ok (.goto 4, 3) := by decide +kernel
theorem dX8_see_46 : decode cX8_see 46 = .ok (.iconst 0, 1) := by decide +kernel
theorem dX8_see_47 : decode cX8_see 47 = .ok (.ireturn, 1) := by decide +kernel
theorem dX8_risk_0 : decode cX8_risk 0 = .ok (.aload_n 0, 1) := by decide +kernel
theorem dX8_risk_1 : decode cX8_risk 1 = .ok (.iload_n 1, 1) := by decide +kernel
theorem dX8_risk_2 : decode cX8_risk 2 = .ok (.invokevirtual 90, 3) := by decide +kernel
theorem dX8_risk_5 : decode cX8_risk 5 = .ok (.getfield 94, 3) := by decide +kernel
theorem dX8_risk_8 : decode cX8_risk 8 = .ok (.aload_n 0, 1) := by decide +kernel
theorem dX8_risk_9 : decode cX8_risk 9 = .ok (.getfield 53, 3) := by decide +kernel
theorem dX8_risk_12 : decode cX8_risk 12 = .ok (.invokevirtual 109, 3) := by decide +kernel
theorem dX8_risk_15 : decode cX8_risk 15 = .ok (.ireturn, 1) := by decide +kernel
theorem dX8_seeBy_0 : decode cX8_seeBy 0 = .ok (.aload_n 0, 1) := by decide +kernel
theorem dX8_seeBy_1 : decode cX8_seeBy 1 = .ok (.iload_n 1, 1) := by decide +kernel
theorem dX8_seeBy_2 : decode cX8_seeBy 2 = .ok (.invokevirtual 90, 3) := by decide +kernel
theorem dX8_seeBy_5 : decode cX8_seeBy 5 = .ok (.getfield 94, 3) := by decide +kernel
theorem dX8_seeBy_8 : decode cX8_seeBy 8 = .ok (.aload_n 0, 1) := by decide +kernel
theorem dX8_seeBy_9 : decode cX8_seeBy 9 = .ok (.getfield 53, 3) := by decide +kernel
theorem dX8_seeBy_12 : decode cX8_seeBy 12 = .ok (.invokevirtual 113, 3) := by decide +kernel
theorem dX8_seeBy_15 : decode cX8_seeBy 15 = .ok (.ireturn, 1) := by decide +kernel
theorem dX8_order_0 : decode cX8_order 0 = .ok (.aload_n 0, 1) := by decide +kernel
theorem dX8_order_1 : decode cX8_order 1 = .ok (.iload_n 1, 1) := by decide +kernel
theorem dX8_order_2 : decode cX8_order 2 = .ok (.invokevirtual 90, 3) := by decide +kernel
theorem dX8_order_5 : decode cX8_order 5 = .ok (.astore 5, 2) := by decide +kernel
theorem dX8_order_7 : decode cX8_order 7 = .ok (.iload_n 2, 1) := by decide +kernel
theorem dX8_order_8 : decode cX8_order 8 = .ok (.iconst 0, 1) := by decide +kernel
theorem dX8_order_9 : decode cX8_order 9 = .ok (.iconst 2, 1) := by decide +kernel
theorem dX8_order_10 : decode cX8_order 10 = .ok (.invokestatic 34, 3) := by decide +kernel
theorem dX8_order_13 : decode cX8_order 13 = .ok (.ifCond .eq 33, 3) := by decide +kernel
theorem dX8_order_16 : decode cX8_order 16 = .ok (.iload_n 3, 1) := by decide +kernel
theorem dX8_order_17 : decode cX8_order 17 = .ok (.aload_n 0, 1) := by decide +kernel
theorem dX8_order_18 : decode cX8_order 18 = .ok (.getfield 53, 3) := by decide +kernel
theorem dX8_order_21 : decode cX8_order 21 = .ok (.sipush 20000, 3) := by decide +kernel
theorem dX8_order_24 : decode cX8_order 24 = .ok (.invokestatic 34, 3) := by decide +kernel
theorem dX8_order_27 : decode cX8_order 27 = .ok (.ifCond .eq 19, 3) := by decide +kernel
theorem dX8_order_30 : decode cX8_order 30 = .ok (.iload 4, 2) := by decide +kernel
theorem dX8_order_32 : decode cX8_order 32 = .ok (.iconst 1, 1) := by decide +kernel
theorem dX8_order_33 : decode cX8_order 33 = .ok (.sipush 7000, 3) := by decide +kernel
theorem dX8_order_36 : decode cX8_order 36 = .ok (.invokestatic 34, 3) := by decide +kernel
theorem dX8_order_39 : decode cX8_order 39 = .ok (.ifCond .eq 7, 3) := by decide +kernel
theorem dX8_order_42 : decode cX8_order 42 = .ok (.iconst 1, 1) := by decide +kernel
theorem dX8_order_43 : decode cX8_order 43 = .ok (.goto 4, 3) := by decide +kernel
theorem dX8_order_46 : decode cX8_order 46 = .ok (.iconst 0, 1) := by decide +kernel
theorem dX8_order_47 : decode cX8_order 47 = .ok (.invokestatic 38, 3) := by decide +kernel
theorem dX8_order_50 : decode cX8_order 50 = .ok (.aload_n 0, 1) := by decide +kernel
theorem dX8_order_51 : decode cX8_order 51 = .ok (.getfield 119, 3) := by decide +kernel
theorem dX8_order_54 : decode cX8_order 54 = .ok (.bipush 60, 2) := by decide +kernel
theorem dX8_order_56 : decode cX8_order 56 = .ok (.if_icmp .lt 13, 3) := by decide +kernel
theorem dX8_order_59 : decode cX8_order 59 = .ok (.new 46, 3) := by decide +kernel
theorem dX8_order_62 : decode cX8_order 62 = .ok (.dup, 1) := by decide +kernel
theorem dX8_order_63 : decode cX8_order 63 = .ok (.ldc 122, 2) := by decide +kernel
theorem dX8_order_65 : decode cX8_order 65 = .ok (.invokespecial 50, 3) := by decide +kernel
theorem dX8_order_68 : decode cX8_order 68 = .ok (.athrow, 1) := by decide +kernel
theorem dX8_order_69 : decode cX8_order 69 = .ok (.aload_n 0, 1) := by decide +kernel
theorem dX8_order_70 : decode cX8_order 70 = .ok (.getfield 119, 3) := by decide +kernel
theorem dX8_order_73 : decode cX8_order 73 = .ok (.istore 6, 2) := by decide +kernel
theorem dX8_order_75 : decode cX8_order 75 = .ok (.aload 5, 2) := by decide +kernel
theorem dX8_order_77 : decode cX8_order 77 = .ok (.new 124, 3) := by decide +kernel
theorem dX8_order_80 : decode cX8_order 80 = .ok (.dup, 1) := by decide +kernel
theorem dX8_order_81 : decode cX8_order 81 = .ok (.iload 6, 2) := by decide +kernel
theorem dX8_order_83 : decode cX8_order 83 = .ok (.iload_n 2, 1) := by decide +kernel
theorem dX8_order_84 : decode cX8_order 84 = .ok (.iload_n 3, 1) := by decide +kernel
theorem dX8_order_85 : decode cX8_order 85 = .ok (.iload_n 3, 1) := by decide +kernel
theorem dX8_order_86 : decode cX8_order 86 = .ok (.iload 4, 2) := by decide +kernel
theorem dX8_order_88 : decode cX8_order 88 = .ok (.iadd, 1) := by decide +kernel
theorem dX8_order_89 : decode cX8_order 89 = .ok (.aload 5, 2) := by decide +kernel
theorem dX8_order_91 : decode cX8_order 91 = .ok (.getfield 126, 3) := by decide +kernel
theorem dX8_order_94 : decode cX8_order 94 = .ok (.invokespecial 130, 3) := by decide +kernel
theorem dX8_order_97 : decode cX8_order 97 = .ok (.putfield 126, 3) := by decide +kernel
theorem dX8_order_100 : decode cX8_order 100 = .ok (.aload_n 0, 1) := by decide +kernel
theorem dX8_order_101 : decode cX8_order 101 = .ok (.iload 6, 2) := by decide +kernel
theorem dX8_order_103 : decode cX8_order 103 = .ok (.iconst 1, 1) := by decide +kernel
theorem dX8_order_104 : decode cX8_order 104 = .ok (.iadd, 1) := by decide +kernel
theorem dX8_order_105 : decode cX8_order 105 = .ok (.putfield 119, 3) := by decide +kernel
theorem dX8_order_108 : decode cX8_order 108 = .ok (.iload 6, 2) := by decide +kernel
theorem dX8_order_110 : decode cX8_order 110 = .ok (.ireturn, 1) := by decide +kernel
theorem dX8_counts_0 : decode cX8_counts 0 = .ok (.aload_n 0, 1) := by decide +kernel
theorem dX8_counts_1 : decode cX8_counts 1 = .ok (.iload_n 1, 1) := by decide +kernel
theorem dX8_counts_2 : decode cX8_counts 2 = .ok (.invokevirtual 90, 3) := by decide +kernel
theorem dX8_counts_5 : decode cX8_counts 5 = .ok (.astore_n 3, 1) := by decide +kernel
theorem dX8_counts_6 : decode cX8_counts 6 = .ok (.iload_n 2, 1) := by decide +kernel
theorem dX8_counts_7 : decode cX8_counts 7 = .ok (.iconst 0, 1) := by decide +kernel
theorem dX8_counts_8 : decode cX8_counts 8 = .ok (.sipush 30000, 3) := by decide +kernel
theorem dX8_counts_11 : decode cX8_counts 11 = .ok (.invokestatic 34, 3) := by decide +kernel
theorem dX8_counts_14 : decode cX8_counts 14 = .ok (.invokestatic 38, 3) := by decide +kernel
theorem dX8_counts_17 : decode cX8_counts 17 = .ok (.aload_n 3, 1) := by decide +kernel
theorem dX8_counts_18 : decode cX8_counts 18 = .ok (.iload_n 2, 1) := by decide +kernel
theorem dX8_counts_19 : decode cX8_counts 19 = .ok (.invokevirtual 133, 3) := by decide +kernel
theorem dX8_counts_22 : decode cX8_counts 22 = .ok (.ireturn, 1) := by decide +kernel
theorem dX8_wish_0 : decode cX8_wish 0 = .ok (.aload_n 0, 1) := by decide +kernel
theorem dX8_wish_1 : decode cX8_wish 1 = .ok (.iload_n 1, 1) := by decide +kernel
theorem dX8_wish_2 : decode cX8_wish 2 = .ok (.invokevirtual 90, 3) := by decide +kernel
theorem dX8_wish_5 : decode cX8_wish 5 = .ok (.astore 4, 2) := by decide +kernel
theorem dX8_wish_7 : decode cX8_wish 7 = .ok (.aload_n 0, 1) := by decide +kernel
theorem dX8_wish_8 : decode cX8_wish 8 = .ok (.iload_n 2, 1) := by decide +kernel
theorem dX8_wish_9 : decode cX8_wish 9 = .ok (.invokevirtual 71, 3) := by decide +kernel
theorem dX8_wish_12 : decode cX8_wish 12 = .ok (.astore 5, 2) := by decide +kernel
theorem dX8_wish_14 : decode cX8_wish 14 = .ok (.aload 4, 2) := by decide +kernel
theorem dX8_wish_16 : decode cX8_wish 16 = .ok (.aload 5, 2) := by decide +kernel
theorem dX8_wish_18 : decode cX8_wish 18 = .ok (.getfield 136, 3) := by decide +kernel
theorem dX8_wish_21 : decode cX8_wish 21 = .ok (.iload_n 3, 1) := by decide +kernel
theorem dX8_wish_22 : decode cX8_wish 22 = .ok (.aload_n 0, 1) := by decide +kernel
theorem dX8_wish_23 : decode cX8_wish 23 = .ok (.getfield 53, 3) := by decide +kernel
theorem dX8_wish_26 : decode cX8_wish 26 = .ok (.invokevirtual 139, 3) := by decide +kernel
theorem dX8_wish_29 : decode cX8_wish 29 = .ok (.return_, 1) := by decide +kernel
theorem dX8_why_0 : decode cX8_why 0 = .ok (.aload_n 0, 1) := by decide +kernel
theorem dX8_why_1 : decode cX8_why 1 = .ok (.aload_n 0, 1) := by decide +kernel
theorem dX8_why_2 : decode cX8_why 2 = .ok (.iload_n 1, 1) := by decide +kernel
theorem dX8_why_3 : decode cX8_why 3 = .ok (.invokevirtual 90, 3) := by decide +kernel
theorem dX8_why_6 : decode cX8_why 6 = .ok (.aload_n 0, 1) := by decide +kernel
theorem dX8_why_7 : decode cX8_why 7 = .ok (.iload_n 2, 1) := by decide +kernel
theorem dX8_why_8 : decode cX8_why 8 = .ok (.invokevirtual 71, 3) := by decide +kernel
theorem dX8_why_11 : decode cX8_why 11 = .ok (.invokevirtual 143, 3) := by decide +kernel
theorem dX8_why_14 : decode cX8_why 14 = .ok (.ireturn, 1) := by decide +kernel
theorem dX8_worth_0 : decode cX8_worth 0 = .ok (.aload_n 0, 1) := by decide +kernel
theorem dX8_worth_1 : decode cX8_worth 1 = .ok (.aload_n 0, 1) := by decide +kernel
theorem dX8_worth_2 : decode cX8_worth 2 = .ok (.iload_n 1, 1) := by decide +kernel
theorem dX8_worth_3 : decode cX8_worth 3 = .ok (.invokevirtual 90, 3) := by decide +kernel
theorem dX8_worth_6 : decode cX8_worth 6 = .ok (.aload_n 0, 1) := by decide +kernel
theorem dX8_worth_7 : decode cX8_worth 7 = .ok (.iload_n 2, 1) := by decide +kernel
theorem dX8_worth_8 : decode cX8_worth 8 = .ok (.invokevirtual 71, 3) := by decide +kernel
theorem dX8_worth_11 : decode cX8_worth 11 = .ok (.invokevirtual 147, 3) := by decide +kernel
theorem dX8_worth_14 : decode cX8_worth 14 = .ok (.ireturn, 1) := by decide +kernel
theorem dX8_best_0 : decode cX8_best 0 = .ok (.aload_n 0, 1) := by decide +kernel
theorem dX8_best_1 : decode cX8_best 1 = .ok (.iload_n 1, 1) := by decide +kernel
theorem dX8_best_2 : decode cX8_best 2 = .ok (.invokevirtual 90, 3) := by decide +kernel
theorem dX8_best_5 : decode cX8_best 5 = .ok (.astore_n 2, 1) := by decide +kernel
theorem dX8_best_6 : decode cX8_best 6 = .ok (.iconst (-1), 1) := by decide +kernel
theorem dX8_best_7 : decode cX8_best 7 = .ok (.istore_n 3, 1) := by decide +kernel
theorem dX8_best_8 : decode cX8_best 8 = .ok (.iconst 0, 1) := by decide +kernel
theorem dX8_best_9 : decode cX8_best 9 = .ok (.istore 4, 2) := by decide +kernel
theorem dX8_best_11 : decode cX8_best 11 = .ok (.aload_n 0, 1) := by decide +kernel
theorem dX8_best_12 : decode cX8_best 12 = .ok (.getfield 17, 3) := by decide +kernel
theorem dX8_best_15 : decode cX8_best 15 = .ok (.astore 5, 2) := by decide +kernel
theorem dX8_best_17 : decode cX8_best 17 = .ok (.aload 5, 2) := by decide +kernel
theorem dX8_best_19 : decode cX8_best 19 = .ok (.arraylength, 1) := by decide +kernel
theorem dX8_best_20 : decode cX8_best 20 = .ok (.istore 6, 2) := by decide +kernel
theorem dX8_best_22 : decode cX8_best 22 = .ok (.iconst 0, 1) := by decide +kernel
theorem dX8_best_23 : decode cX8_best 23 = .ok (.istore 7, 2) := by decide +kernel
theorem dX8_best_25 : decode cX8_best 25 = .ok (.iload 7, 2) := by decide +kernel
theorem dX8_best_27 : decode cX8_best 27 = .ok (.iload 6, 2) := by decide +kernel
theorem dX8_best_29 : decode cX8_best 29 = .ok (.if_icmp .ge 65, 3) := by decide +kernel
theorem dX8_best_32 : decode cX8_best 32 = .ok (.aload 5, 2) := by decide +kernel
theorem dX8_best_34 : decode cX8_best 34 = .ok (.iload 7, 2) := by decide +kernel
theorem dX8_best_36 : decode cX8_best 36 = .ok (.aaload, 1) := by decide +kernel
theorem dX8_best_37 : decode cX8_best 37 = .ok (.astore 8, 2) := by decide +kernel
theorem dX8_best_39 : decode cX8_best 39 = .ok (.aload 8, 2) := by decide +kernel
theorem dX8_best_41 : decode cX8_best 41 = .ok (.ifnull 47, 3) := by decide +kernel
theorem dX8_best_44 : decode cX8_best 44 = .ok (.aload_n 0, 1) := by decide +kernel
theorem dX8_best_45 : decode cX8_best 45 = .ok (.aload_n 2, 1) := by decide +kernel
theorem dX8_best_46 : decode cX8_best 46 = .ok (.aload 8, 2) := by decide +kernel
theorem dX8_best_48 : decode cX8_best 48 = .ok (.invokevirtual 143, 3) := by decide +kernel
theorem dX8_best_51 : decode cX8_best 51 = .ok (.ifCond .eq 6, 3) := by decide +kernel
theorem dX8_best_54 : decode cX8_best 54 = .ok (.goto 34, 3) := by decide +kernel
theorem dX8_best_57 : decode cX8_best 57 = .ok (.aload_n 0, 1) := by decide +kernel
theorem dX8_best_58 : decode cX8_best 58 = .ok (.aload_n 2, 1) := by decide +kernel
theorem dX8_best_59 : decode cX8_best 59 = .ok (.aload 8, 2) := by decide +kernel
theorem dX8_best_61 : decode cX8_best 61 = .ok (.invokevirtual 147, 3) := by decide +kernel
theorem dX8_best_64 : decode cX8_best 64 = .ok (.istore 9, 2) := by decide +kernel
theorem dX8_best_66 : decode cX8_best 66 = .ok (.iload_n 3, 1) := by decide +kernel
theorem dX8_best_67 : decode cX8_best 67 = .ok (.iconst (-1), 1) := by decide +kernel
theorem dX8_best_68 : decode cX8_best 68 = .ok (.if_icmp .eq 10, 3) := by decide +kernel
theorem dX8_best_71 : decode cX8_best 71 = .ok (.iload 9, 2) := by decide +kernel
theorem dX8_best_73 : decode cX8_best 73 = .ok (.iload 4, 2) := by decide +kernel
theorem dX8_best_75 : decode cX8_best 75 = .ok (.if_icmp .le 13, 3) := by decide +kernel
theorem dX8_best_78 : decode cX8_best 78 = .ok (.aload 8, 2) := by decide +kernel
theorem dX8_best_80 : decode cX8_best 80 = .ok (.getfield 136, 3) := by decide +kernel
theorem dX8_best_83 : decode cX8_best 83 = .ok (.istore_n 3, 1) := by decide +kernel
theorem dX8_best_84 : decode cX8_best 84 = .ok (.iload 9, 2) := by decide +kernel
theorem dX8_best_86 : decode cX8_best 86 = .ok (.istore 4, 2) := by decide +kernel
theorem dX8_best_88 : decode cX8_best 88 = .ok (.iinc 7 1, 3) := by decide +kernel
theorem dX8_best_91 : decode cX8_best 91 = .ok (.goto (-66), 3) := by decide +kernel
theorem dX8_best_94 : decode cX8_best 94 = .ok (.iload_n 3, 1) := by decide +kernel
theorem dX8_best_95 : decode cX8_best 95 = .ok (.ireturn, 1) := by decide +kernel
theorem dX8_place_0 : decode cX8_place 0 = .ok (.aload_n 0, 1) := by decide +kernel
theorem dX8_place_1 : decode cX8_place 1 = .ok (.iload_n 1, 1) := by decide +kernel
theorem dX8_place_2 : decode cX8_place 2 = .ok (.invokevirtual 90, 3) := by decide +kernel
theorem dX8_place_5 : decode cX8_place 5 = .ok (.astore_n 3, 1) := by decide +kernel
theorem dX8_place_6 : decode cX8_place 6 = .ok (.aload_n 0, 1) := by decide +kernel
theorem dX8_place_7 : decode cX8_place 7 = .ok (.iload_n 2, 1) := by decide +kernel
theorem dX8_place_8 : decode cX8_place 8 = .ok (.invokevirtual 71, 3) := by decide +kernel
theorem dX8_place_11 : decode cX8_place 11 = .ok (.astore 4, 2) := by decide +kernel
theorem dX8_place_13 : decode cX8_place 13 = .ok (.aload_n 3, 1) := by decide +kernel
theorem dX8_place_14 : decode cX8_place 14 = .ok (.aload 4, 2) := by decide +kernel
theorem dX8_place_16 : decode cX8_place 16 = .ok (.invokevirtual 150, 3) := by decide +kernel
theorem dX8_place_19 : decode cX8_place 19 = .ok (.ifCond .ne 13, 3) := by decide +kernel
theorem dX8_place_22 : decode cX8_place 22 = .ok (.aload_n 0, 1) := by decide +kernel
theorem dX8_place_23 : decode cX8_place 23 = .ok (.aload_n 3, 1) := by decide +kernel
theorem dX8_place_24 : decode cX8_place 24 = .ok (.aload 4, 2) := by decide +kernel
theorem dX8_place_26 : decode cX8_place 26 = .ok (.invokevirtual 143, 3) := by decide +kernel
theorem dX8_place_29 : decode cX8_place 29 = .ok (.ifCond .eq 13, 3) := by decide +kernel
theorem dX8_place_32 : decode cX8_place 32 = .ok (.new 46, 3) := by decide +kernel
theorem dX8_place_35 : decode cX8_place 35 = .ok (.dup, 1) := by decide +kernel
theorem dX8_place_36 : decode cX8_place 36 = .ok (.ldc 154, 2) := by decide +kernel
theorem dX8_place_38 : decode cX8_place 38 = .ok (.invokespecial 50, 3) := by decide +kernel
theorem dX8_place_41 : decode cX8_place 41 = .ok (.athrow, 1) := by decide +kernel
theorem dX8_place_42 : decode cX8_place 42 = .ok (.aload_n 0, 1) := by decide +kernel
theorem dX8_place_43 : decode cX8_place 43 = .ok (.aload_n 3, 1) := by decide +kernel
theorem dX8_place_44 : decode cX8_place 44 = .ok (.aload 4, 2) := by decide +kernel
theorem dX8_place_46 : decode cX8_place 46 = .ok (.invokevirtual 156, 3) := by decide +kernel
theorem dX8_place_49 : decode cX8_place 49 = .ok (.ireturn, 1) := by decide +kernel
theorem dX8_placeAll_0 : decode cX8_placeAll 0 = .ok (.iload_n 1, 1) := by decide +kernel
theorem dX8_placeAll_1 : decode cX8_placeAll 1 = .ok (.iconst 0, 1) := by decide +kernel
theorem dX8_placeAll_2 : decode cX8_placeAll 2 = .ok (.bipush 7, 2) := by decide +kernel
theorem dX8_placeAll_4 : decode cX8_placeAll 4 = .ok (.invokestatic 34, 3) := by decide +kernel
theorem dX8_placeAll_7 : decode cX8_placeAll 7 = .ok (.invokestatic 38, 3) := by decide +kernel
theorem dX8_placeAll_10 : decode cX8_placeAll 10 = .ok (.aload_n 0, 1) := by decide +kernel
theorem dX8_placeAll_11 : decode cX8_placeAll 11 = .ok (.iload_n 1, 1) := by decide +kernel
theorem dX8_placeAll_12 : decode cX8_placeAll 12 = .ok (.invokevirtual 159, 3) := by decide +kernel
theorem dX8_placeAll_15 : decode cX8_placeAll 15 = .ok (.aload_n 0, 1) := by decide +kernel
theorem dX8_placeAll_16 : decode cX8_placeAll 16 = .ok (.getfield 30, 3) := by decide +kernel
theorem dX8_placeAll_19 : decode cX8_placeAll 19 = .ok (.invokevirtual 163, 3) := by decide +kernel
theorem dX8_placeAll_22 : decode cX8_placeAll 22 = .ok (.istore_n 2, 1) := by decide +kernel
theorem dX8_placeAll_23 : decode cX8_placeAll 23 = .ok (.aload_n 0, 1) := by decide +kernel
theorem dX8_placeAll_24 : decode cX8_placeAll 24 = .ok (.getfield 166, 3) := by decide +kernel
theorem dX8_placeAll_27 : decode cX8_placeAll 27 = .ok (.iload_n 2, 1) := by decide +kernel
theorem dX8_placeAll_28 : decode cX8_placeAll 28 = .ok (.iadd, 1) := by decide +kernel
theorem dX8_placeAll_29 : decode cX8_placeAll 29 = .ok (.aload_n 0, 1) := by decide +kernel
theorem dX8_placeAll_30 : decode cX8_placeAll 30 = .ok (.getfield 23, 3) := by decide +kernel
theorem dX8_placeAll_33 : decode cX8_placeAll 33 = .ok (.arraylength, 1) := by decide +kernel
theorem dX8_placeAll_34 : decode cX8_placeAll 34 = .ok (.if_icmp .le 13, 3) := by decide +kernel
theorem dX8_placeAll_37 : decode cX8_placeAll 37 = .ok (.new 46, 3) := by decide +kernel
theorem dX8_placeAll_40 : decode cX8_placeAll 40 = .ok (.dup, 1) := by decide +kernel
theorem dX8_placeAll_41 : decode cX8_placeAll 41 = .ok (.ldc 169, 2) := by decide +kernel
theorem dX8_placeAll_43 : decode cX8_placeAll 43 = .ok (.invokespecial 50, 3) := by decide +kernel
theorem dX8_placeAll_46 : decode cX8_placeAll 46 = .ok (.athrow, 1) := by decide +kernel
theorem dX8_placeAll_47 : decode cX8_placeAll 47 = .ok (.iconst 0, 1) := by decide +kernel
theorem dX8_placeAll_48 : decode cX8_placeAll 48 = .ok (.istore_n 3, 1) := by decide +kernel
theorem dX8_placeAll_49 : decode cX8_placeAll 49 = .ok (.iload_n 3, 1) := by decide +kernel
theorem dX8_placeAll_50 : decode cX8_placeAll 50 = .ok (.iconst 5, 1) := by decide +kernel
theorem dX8_placeAll_51 : decode cX8_placeAll 51 = .ok (.if_icmp .ge 53, 3) := by decide +kernel
theorem dX8_placeAll_54 : decode cX8_placeAll 54 = .ok (.aload_n 0, 1) := by decide +kernel
theorem dX8_placeAll_55 : decode cX8_placeAll 55 = .ok (.getfield 30, 3) := by decide +kernel
theorem dX8_placeAll_58 : decode cX8_placeAll 58 = .ok (.iload_n 3, 1) := by decide +kernel
theorem dX8_placeAll_59 : decode cX8_placeAll 59 = .ok (.invokevirtual 171, 3) := by decide +kernel
theorem dX8_placeAll_62 : decode cX8_placeAll 62 = .ok (.astore 4, 2) := by decide +kernel
theorem dX8_placeAll_64 : decode cX8_placeAll 64 = .ok (.aload_n 0, 1) := by decide +kernel
theorem dX8_placeAll_65 : decode cX8_placeAll 65 = .ok (.getfield 30, 3) := by decide +kernel
theorem dX8_placeAll_68 : decode cX8_placeAll 68 = .ok (.iload_n 3, 1) := by decide +kernel
theorem dX8_placeAll_69 : decode cX8_placeAll 69 = .ok (.invokevirtual 174, 3) := by decide +kernel
theorem dX8_placeAll_72 : decode cX8_placeAll 72 = .ok (.istore 5, 2) := by decide +kernel
theorem dX8_placeAll_74 : decode cX8_placeAll 74 = .ok (.aload 4, 2) := by decide +kernel
theorem dX8_placeAll_76 : decode cX8_placeAll 76 = .ok (.ifnull 22, 3) := by decide +kernel
theorem dX8_placeAll_79 : decode cX8_placeAll 79 = .ok (.iload 5, 2) := by decide +kernel
theorem dX8_placeAll_81 : decode cX8_placeAll 81 = .ok (.iconst (-1), 1) := by decide +kernel
theorem dX8_placeAll_82 : decode cX8_placeAll 82 = .ok (.if_icmp .eq 16, 3) := by decide +kernel
theorem dX8_placeAll_85 : decode cX8_placeAll 85 = .ok (.aload_n 0, 1) := by decide +kernel
theorem dX8_placeAll_86 : decode cX8_placeAll 86 = .ok (.aload 4, 2) := by decide +kernel
theorem dX8_placeAll_88 : decode cX8_placeAll 88 = .ok (.aload_n 0, 1) := by decide +kernel
theorem dX8_placeAll_89 : decode cX8_placeAll 89 = .ok (.iload 5, 2) := by decide +kernel
theorem dX8_placeAll_91 : decode cX8_placeAll 91 = .ok (.invokevirtual 71, 3) := by decide +kernel
theorem dX8_placeAll_94 : decode cX8_placeAll 94 = .ok (.invokevirtual 156, 3) := by decide +kernel
theorem dX8_placeAll_97 : decode cX8_placeAll 97 = .ok (.pop, 1) := by decide +kernel
theorem dX8_placeAll_98 : decode cX8_placeAll 98 = .ok (.iinc 3 1, 3) := by decide +kernel
theorem dX8_placeAll_101 : decode cX8_placeAll 101 = .ok (.goto (-52), 3) := by decide +kernel
theorem dX8_placeAll_104 : decode cX8_placeAll 104 = .ok (.iload_n 2, 1) := by decide +kernel
theorem dX8_placeAll_105 : decode cX8_placeAll 105 = .ok (.ireturn, 1) := by decide +kernel
theorem dX8_visits_0 : decode cX8_visits 0 = .ok (.aload_n 0, 1) := by decide +kernel
theorem dX8_visits_1 : decode cX8_visits 1 = .ok (.iload_n 1, 1) := by decide +kernel
theorem dX8_visits_2 : decode cX8_visits 2 = .ok (.invokevirtual 90, 3) := by decide +kernel
theorem dX8_visits_5 : decode cX8_visits 5 = .ok (.astore_n 3, 1) := by decide +kernel
theorem dX8_visits_6 : decode cX8_visits 6 = .ok (.iload_n 2, 1) := by decide +kernel
theorem dX8_visits_7 : decode cX8_visits 7 = .ok (.iconst 0, 1) := by decide +kernel
theorem dX8_visits_8 : decode cX8_visits 8 = .ok (.bipush 30, 2) := by decide +kernel
theorem dX8_visits_10 : decode cX8_visits 10 = .ok (.invokestatic 34, 3) := by decide +kernel
theorem dX8_visits_13 : decode cX8_visits 13 = .ok (.invokestatic 38, 3) := by decide +kernel
theorem dX8_visits_16 : decode cX8_visits 16 = .ok (.aload_n 3, 1) := by decide +kernel
theorem dX8_visits_17 : decode cX8_visits 17 = .ok (.getfield 177, 3) := by decide +kernel
theorem dX8_visits_20 : decode cX8_visits 20 = .ok (.getfield 181, 3) := by decide +kernel
theorem dX8_visits_23 : decode cX8_visits 23 = .ok (.istore 4, 2) := by decide +kernel
theorem dX8_visits_25 : decode cX8_visits 25 = .ok (.aload_n 3, 1) := by decide +kernel
theorem dX8_visits_26 : decode cX8_visits 26 = .ok (.getfield 177, 3) := by decide +kernel
theorem dX8_visits_29 : decode cX8_visits 29 = .ok (.iload_n 2, 1) := by decide +kernel
theorem dX8_visits_30 : decode cX8_visits 30 = .ok (.putfield 181, 3) := by decide +kernel
theorem dX8_visits_33 : decode cX8_visits 33 = .ok (.iload 4, 2) := by decide +kernel
theorem dX8_visits_35 : decode cX8_visits 35 = .ok (.ireturn, 1) := by decide +kernel
theorem dX8_came_0 : decode cX8_came 0 = .ok (.aload_n 0, 1) := by decide +kernel
theorem dX8_came_1 : decode cX8_came 1 = .ok (.iload_n 1, 1) := by decide +kernel
theorem dX8_came_2 : decode cX8_came 2 = .ok (.invokevirtual 90, 3) := by decide +kernel
theorem dX8_came_5 : decode cX8_came 5 = .ok (.astore_n 2, 1) := by decide +kernel
theorem dX8_came_6 : decode cX8_came 6 = .ok (.aload_n 2, 1) := by decide +kernel
theorem dX8_came_7 : decode cX8_came 7 = .ok (.getfield 186, 3) := by decide +kernel
theorem dX8_came_10 : decode cX8_came 10 = .ok (.ifnonnull 13, 3) := by decide +kernel
theorem dX8_came_13 : decode cX8_came 13 = .ok (.new 46, 3) := by decide +kernel
theorem dX8_came_16 : decode cX8_came 16 = .ok (.dup, 1) := by decide +kernel
theorem dX8_came_17 : decode cX8_came 17 = .ok (.ldc 190, 2) := by decide +kernel
theorem dX8_came_19 : decode cX8_came 19 = .ok (.invokespecial 50, 3) := by decide +kernel
theorem dX8_came_22 : decode cX8_came 22 = .ok (.athrow, 1) := by decide +kernel
theorem dX8_came_23 : decode cX8_came 23 = .ok (.aload_n 2, 1) := by decide +kernel
theorem dX8_came_24 : decode cX8_came 24 = .ok (.getfield 177, 3) := by decide +kernel
theorem dX8_came_27 : decode cX8_came 27 = .ok (.iconst 1, 1) := by decide +kernel
theorem dX8_came_28 : decode cX8_came 28 = .ok (.putfield 192, 3) := by decide +kernel
theorem dX8_came_31 : decode cX8_came 31 = .ok (.return_, 1) := by decide +kernel
theorem dX8_pay_0 : decode cX8_pay 0 = .ok (.aload_n 0, 1) := by decide +kernel
theorem dX8_pay_1 : decode cX8_pay 1 = .ok (.iload_n 1, 1) := by decide +kernel
theorem dX8_pay_2 : decode cX8_pay 2 = .ok (.invokevirtual 71, 3) := by decide +kernel
theorem dX8_pay_5 : decode cX8_pay 5 = .ok (.astore_n 3, 1) := by decide +kernel
theorem dX8_pay_6 : decode cX8_pay 6 = .ok (.iload_n 2, 1) := by decide +kernel
theorem dX8_pay_7 : decode cX8_pay 7 = .ok (.iconst 1, 1) := by decide +kernel
theorem dX8_pay_8 : decode cX8_pay 8 = .ok (.ldc 196, 2) := by decide +kernel
theorem dX8_pay_10 : decode cX8_pay 10 = .ok (.invokestatic 34, 3) := by decide +kernel
theorem dX8_pay_13 : decode cX8_pay 13 = .ok (.invokestatic 38, 3) := by decide +kernel
theorem dX8_pay_16 : decode cX8_pay 16 = .ok (.aload_n 3, 1) := by decide +kernel
theorem dX8_pay_17 : decode cX8_pay 17 = .ok (.dup, 1) := by decide +kernel
theorem dX8_pay_18 : decode cX8_pay 18 = .ok (.getfield 197, 3) := by decide +kernel
theorem dX8_pay_21 : decode cX8_pay 21 = .ok (.iload_n 2, 1) := by decide +kernel
theorem dX8_pay_22 : decode cX8_pay 22 = .ok (.iadd, 1) := by decide +kernel
theorem dX8_pay_23 : decode cX8_pay 23 = .ok (.putfield 197, 3) := by decide +kernel
theorem dX8_pay_26 : decode cX8_pay 26 = .ok (.aload_n 0, 1) := by decide +kernel
theorem dX8_pay_27 : decode cX8_pay 27 = .ok (.aload_n 3, 1) := by decide +kernel
theorem dX8_pay_28 : decode cX8_pay 28 = .ok (.invokevirtual 200, 3) := by decide +kernel
theorem dX8_pay_31 : decode cX8_pay 31 = .ok (.ireturn, 1) := by decide +kernel
theorem dX8_owed_0 : decode cX8_owed 0 = .ok (.aload_n 0, 1) := by decide +kernel
theorem dX8_owed_1 : decode cX8_owed 1 = .ok (.aload_n 0, 1) := by decide +kernel
theorem dX8_owed_2 : decode cX8_owed 2 = .ok (.iload_n 1, 1) := by decide +kernel
theorem dX8_owed_3 : decode cX8_owed 3 = .ok (.invokevirtual 71, 3) := by decide +kernel
theorem dX8_owed_6 : decode cX8_owed 6 = .ok (.invokevirtual 200, 3) := by decide +kernel
theorem dX8_owed_9 : decode cX8_owed 9 = .ok (.ireturn, 1) := by decide +kernel
theorem dX8_handOver_0 : decode cX8_handOver 0 = .ok (.aload_n 0, 1) := by decide +kernel
theorem dX8_handOver_1 : decode cX8_handOver 1 = .ok (.iload_n 1, 1) := by decide +kernel
theorem dX8_handOver_2 : decode cX8_handOver 2 = .ok (.invokevirtual 90, 3) := by decide +kernel
theorem dX8_handOver_5 : decode cX8_handOver 5 = .ok (.astore_n 3, 1) := by decide +kernel
theorem dX8_handOver_6 : decode cX8_handOver 6 = .ok (.iload_n 2, 1) := by decide +kernel
theorem dX8_handOver_7 : decode cX8_handOver 7 = .ok (.invokestatic 204, 3) := by decide +kernel
theorem dX8_handOver_10 : decode cX8_handOver 10 = .ok (.aload_n 3, 1) := by decide +kernel
theorem dX8_handOver_11 : decode cX8_handOver 11 = .ok (.getfield 207, 3) := by decide +kernel
theorem dX8_handOver_14 : decode cX8_handOver 14 = .ok (.istore 4, 2) := by decide +kernel
theorem dX8_handOver_16 : decode cX8_handOver 16 = .ok (.aload_n 3, 1) := by decide +kernel
theorem dX8_handOver_17 : decode cX8_handOver 17 = .ok (.iload_n 2, 1) := by decide +kernel
theorem dX8_handOver_18 : decode cX8_handOver 18 = .ok (.putfield 207, 3) := by decide +kernel
theorem dX8_handOver_21 : decode cX8_handOver 21 = .ok (.iload 4, 2) := by decide +kernel
theorem dX8_handOver_23 : decode cX8_handOver 23 = .ok (.ireturn, 1) := by decide +kernel
theorem dX8_load_0 : decode cX8_load 0 = .ok (.iload_n 1, 1) := by decide +kernel
theorem dX8_load_1 : decode cX8_load 1 = .ok (.invokestatic 204, 3) := by decide +kernel
theorem dX8_load_4 : decode cX8_load 4 = .ok (.aload_n 0, 1) := by decide +kernel
theorem dX8_load_5 : decode cX8_load 5 = .ok (.iload_n 1, 1) := by decide +kernel
theorem dX8_load_6 : decode cX8_load 6 = .ok (.invokevirtual 210, 3) := by decide +kernel
theorem dX8_load_9 : decode cX8_load 9 = .ok (.ireturn, 1) := by decide +kernel
theorem dX8_pass_0 : decode cX8_pass 0 = .ok (.iload_n 1, 1) := by decide +kernel
theorem dX8_pass_1 : decode cX8_pass 1 = .ok (.iconst 1, 1) := by decide +kernel
theorem dX8_pass_2 : decode cX8_pass 2 = .ok (.sipush 400, 3) := by decide +kernel
theorem dX8_pass_5 : decode cX8_pass 5 = .ok (.invokestatic 34, 3) := by decide +kernel
theorem dX8_pass_8 : decode cX8_pass 8 = .ok (.invokestatic 38, 3) := by decide +kernel
theorem dX8_pass_11 : decode cX8_pass 11 = .ok (.aload_n 0, 1) := by decide +kernel
theorem dX8_pass_12 : decode cX8_pass 12 = .ok (.getfield 53, 3) := by decide +kernel
theorem dX8_pass_15 : decode cX8_pass 15 = .ok (.iload_n 1, 1) := by decide +kernel
theorem dX8_pass_16 : decode cX8_pass 16 = .ok (.iadd, 1) := by decide +kernel
theorem dX8_pass_17 : decode cX8_pass 17 = .ok (.sipush 12000, 3) := by decide +kernel
theorem dX8_pass_20 : decode cX8_pass 20 = .ok (.if_icmp .le 13, 3) := by decide +kernel
theorem dX8_pass_23 : decode cX8_pass 23 = .ok (.new 46, 3) := by decide +kernel
theorem dX8_pass_26 : decode cX8_pass 26 = .ok (.dup, 1) := by decide +kernel
theorem dX8_pass_27 : decode cX8_pass 27 = .ok (.ldc 213, 2) := by decide +kernel
theorem dX8_pass_29 : decode cX8_pass 29 = .ok (.invokespecial 50, 3) := by decide +kernel
theorem dX8_pass_32 : decode cX8_pass 32 = .ok (.athrow, 1) := by decide +kernel
theorem dX8_pass_33 : decode cX8_pass 33 = .ok (.aload_n 0, 1) := by decide +kernel
theorem dX8_pass_34 : decode cX8_pass 34 = .ok (.getfield 53, 3) := by decide +kernel
theorem dX8_pass_37 : decode cX8_pass 37 = .ok (.iload_n 1, 1) := by decide +kernel
theorem dX8_pass_38 : decode cX8_pass 38 = .ok (.iadd, 1) := by decide +kernel
theorem dX8_pass_39 : decode cX8_pass 39 = .ok (.istore_n 2, 1) := by decide +kernel
theorem dX8_pass_40 : decode cX8_pass 40 = .ok (.aload_n 0, 1) := by decide +kernel
theorem dX8_pass_41 : decode cX8_pass 41 = .ok (.getfield 11, 3) := by decide +kernel
theorem dX8_pass_44 : decode cX8_pass 44 = .ok (.astore_n 3, 1) := by decide +kernel
theorem dX8_pass_45 : decode cX8_pass 45 = .ok (.aload_n 3, 1) := by decide +kernel
theorem dX8_pass_46 : decode cX8_pass 46 = .ok (.arraylength, 1) := by decide +kernel
theorem dX8_pass_47 : decode cX8_pass 47 = .ok (.istore 4, 2) := by decide +kernel
theorem dX8_pass_49 : decode cX8_pass 49 = .ok (.iconst 0, 1) := by decide +kernel
theorem dX8_pass_50 : decode cX8_pass 50 = .ok (.istore 5, 2) := by decide +kernel
theorem dX8_pass_52 : decode cX8_pass 52 = .ok (.iload 5, 2) := by decide +kernel
theorem dX8_pass_54 : decode cX8_pass 54 = .ok (.iload 4, 2) := by decide +kernel
theorem dX8_pass_56 : decode cX8_pass 56 = .ok (.if_icmp .ge 55, 3) := by decide +kernel
theorem dX8_pass_59 : decode cX8_pass 59 = .ok (.aload_n 3, 1) := by decide +kernel
theorem dX8_pass_60 : decode cX8_pass 60 = .ok (.iload 5, 2) := by decide +kernel
theorem dX8_pass_62 : decode cX8_pass 62 = .ok (.aaload, 1) := by decide +kernel
theorem dX8_pass_63 : decode cX8_pass 63 = .ok (.astore 6, 2) := by decide +kernel
theorem dX8_pass_65 : decode cX8_pass 65 = .ok (.aload_n 0, 1) := by decide +kernel
theorem dX8_pass_66 : decode cX8_pass 66 = .ok (.getfield 53, 3) := by decide +kernel
theorem dX8_pass_69 : decode cX8_pass 69 = .ok (.iconst 1, 1) := by decide +kernel
theorem dX8_pass_70 : decode cX8_pass 70 = .ok (.iadd, 1) := by decide +kernel
theorem dX8_pass_71 : decode cX8_pass 71 = .ok (.istore 7, 2) := by decide +kernel
theorem dX8_pass_73 : decode cX8_pass 73 = .ok (.aload 6, 2) := by decide +kernel
theorem dX8_pass_75 : decode cX8_pass 75 = .ok (.ifnull 30, 3) := by decide +kernel
theorem dX8_pass_78 : decode cX8_pass 78 = .ok (.aload 6, 2) := by decide +kernel
theorem dX8_pass_80 : decode cX8_pass 80 = .ok (.getfield 186, 3) := by decide +kernel
theorem dX8_pass_83 : decode cX8_pass 83 = .ok (.ifnull 22, 3) := by decide +kernel
theorem dX8_pass_86 : decode cX8_pass 86 = .ok (.iload 7, 2) := by decide +kernel
theorem dX8_pass_88 : decode cX8_pass 88 = .ok (.iload_n 2, 1) := by decide +kernel
theorem dX8_pass_89 : decode cX8_pass 89 = .ok (.if_icmp .gt 16, 3) := by decide +kernel
theorem dX8_pass_92 : decode cX8_pass 92 = .ok (.aload 6, 2) := by decide +kernel
theorem dX8_pass_94 : decode cX8_pass 94 = .ok (.iload 7, 2) := by decide +kernel
theorem dX8_pass_96 : decode cX8_pass 96 = .ok (.invokevirtual 215, 3) := by decide +kernel
theorem dX8_pass_99 : decode cX8_pass 99 = .ok (.iinc 7 1, 3) := by decide +kernel
theorem dX8_pass_102 : decode cX8_pass 102 = .ok (.goto (-29), 3) := by decide +kernel
theorem dX8_pass_105 : decode cX8_pass 105 = .ok (.iinc 5 1, 3) := by decide +kernel
theorem dX8_pass_108 : decode cX8_pass 108 = .ok (.goto (-56), 3) := by decide +kernel
theorem dX8_pass_111 : decode cX8_pass 111 = .ok (.aload_n 0, 1) := by decide +kernel
theorem dX8_pass_112 : decode cX8_pass 112 = .ok (.iload_n 2, 1) := by decide +kernel
theorem dX8_pass_113 : decode cX8_pass 113 = .ok (.putfield 53, 3) := by decide +kernel
theorem dX8_pass_116 : decode cX8_pass 116 = .ok (.iload_n 2, 1) := by decide +kernel
theorem dX8_pass_117 : decode cX8_pass 117 = .ok (.ireturn, 1) := by decide +kernel
theorem dX8_childIs_0 : decode cX8_childIs 0 = .ok (.aload_n 0, 1) := by decide +kernel
theorem dX8_childIs_1 : decode cX8_childIs 1 = .ok (.iload_n 1, 1) := by decide +kernel
theorem dX8_childIs_2 : decode cX8_childIs 2 = .ok (.invokevirtual 90, 3) := by decide +kernel
theorem dX8_childIs_5 : decode cX8_childIs 5 = .ok (.astore_n 3, 1) := by decide +kernel
theorem dX8_childIs_6 : decode cX8_childIs 6 = .ok (.iload_n 2, 1) := by decide +kernel
theorem dX8_childIs_7 : decode cX8_childIs 7 = .ok (.tableswitch 114 0 6 #[41, 63, 72, 77, 85, 93, 109], 41) := by decide +kernel
theorem dX8_childIs_48 : decode cX8_childIs 48 = .ok (.aload_n 3, 1) := by decide +kernel
theorem dX8_childIs_49 : decode cX8_childIs 49 = .ok (.getfield 186, 3) := by decide +kernel
theorem dX8_childIs_52 : decode cX8_childIs 52 = .ok (.ifnonnull 7, 3) := by decide +kernel
theorem dX8_childIs_55 : decode cX8_childIs 55 = .ok (.iconst (-1), 1) := by decide +kernel
theorem dX8_childIs_56 : decode cX8_childIs 56 = .ok (.goto 13, 3) := by decide +kernel
theorem dX8_childIs_59 : decode cX8_childIs 59 = .ok (.aload_n 3, 1) := by decide +kernel
theorem dX8_childIs_60 : decode cX8_childIs 60 = .ok (.getfield 186, 3) := by decide +kernel
theorem dX8_childIs_63 : decode cX8_childIs 63 = .ok (.getfield 218, 3) := by decide +kernel
theorem dX8_childIs_66 : decode cX8_childIs 66 = .ok (.getfield 136, 3) := by decide +kernel
theorem dX8_childIs_69 : decode cX8_childIs 69 = .ok (.ireturn, 1) := by decide +kernel
theorem dX8_childIs_70 : decode cX8_childIs 70 = .ok (.aload_n 3, 1) := by decide +kernel
theorem dX8_childIs_71 : decode cX8_childIs 71 = .ok (.aload_n 0, 1) := by decide +kernel
theorem dX8_childIs_72 : decode cX8_childIs 72 = .ok (.getfield 53, 3) := by decide +kernel
theorem dX8_childIs_75 : decode cX8_childIs 75 = .ok (.invokevirtual 222, 3) := by decide +kernel
theorem dX8_childIs_78 : decode cX8_childIs 78 = .ok (.ireturn, 1) := by decide +kernel
theorem dX8_childIs_79 : decode cX8_childIs 79 = .ok (.aload_n 3, 1) := by decide +kernel
theorem dX8_childIs_80 : decode cX8_childIs 80 = .ok (.getfield 225, 3) := by decide +kernel
theorem dX8_childIs_83 : decode cX8_childIs 83 = .ok (.ireturn, 1) := by decide +kernel
theorem dX8_childIs_84 : decode cX8_childIs 84 = .ok (.aload_n 3, 1) := by decide +kernel
theorem dX8_childIs_85 : decode cX8_childIs 85 = .ok (.getfield 177, 3) := by decide +kernel
theorem dX8_childIs_88 : decode cX8_childIs 88 = .ok (.getfield 227, 3) := by decide +kernel
theorem dX8_childIs_91 : decode cX8_childIs 91 = .ok (.ireturn, 1) := by decide +kernel
theorem dX8_childIs_92 : decode cX8_childIs 92 = .ok (.aload_n 3, 1) := by decide +kernel
theorem dX8_childIs_93 : decode cX8_childIs 93 = .ok (.getfield 177, 3) := by decide +kernel
theorem dX8_childIs_96 : decode cX8_childIs 96 = .ok (.getfield 230, 3) := by decide +kernel
theorem dX8_childIs_99 : decode cX8_childIs 99 = .ok (.ireturn, 1) := by decide +kernel
theorem dX8_childIs_100 : decode cX8_childIs 100 = .ok (.aload_n 3, 1) := by decide +kernel
theorem dX8_childIs_101 : decode cX8_childIs 101 = .ok (.getfield 177, 3) := by decide +kernel
theorem dX8_childIs_104 : decode cX8_childIs 104 = .ok (.getfield 233, 3) := by decide +kernel
theorem dX8_childIs_107 : decode cX8_childIs 107 = .ok (.ifCond .eq 7, 3) := by decide +kernel
theorem dX8_childIs_110 : decode cX8_childIs 110 = .ok (.iconst 1, 1) := by decide +kernel
theorem dX8_childIs_111 : decode cX8_childIs 111 = .ok (.goto 4, 3) := by decide +kernel
theorem dX8_childIs_114 : decode cX8_childIs 114 = .ok (.iconst 0, 1) := by decide +kernel
theorem dX8_childIs_115 : decode cX8_childIs 115 = .ok (.ireturn, 1) := by decide +kernel
theorem dX8_childIs_116 : decode cX8_childIs 116 = .ok (.aload_n 3, 1) := by decide +kernel
theorem dX8_childIs_117 : decode cX8_childIs 117 = .ok (.getfield 207, 3) := by decide +kernel
theorem dX8_childIs_120 : decode cX8_childIs 120 = .ok (.ireturn, 1) := by decide +kernel
theorem dX8_childIs_121 : decode cX8_childIs 121 = .ok (.new 236, 3) := by decide +kernel
theorem dX8_childIs_124 : decode cX8_childIs 124 = .ok (.dup, 1) := by decide +kernel
theorem dX8_childIs_125 : decode cX8_childIs 125 = .ok (.ldc 238, 2) := by decide +kernel
theorem dX8_childIs_127 : decode cX8_childIs 127 = .ok (.invokespecial 240, 3) := by decide +kernel
theorem dX8_childIs_130 : decode cX8_childIs 130 = .ok (.athrow, 1) := by decide +kernel
theorem dX8_stay_0 : decode cX8_stay 0 = .ok (.aload_n 0, 1) := by decide +kernel
theorem dX8_stay_1 : decode cX8_stay 1 = .ok (.iload_n 1, 1) := by decide +kernel
theorem dX8_stay_2 : decode cX8_stay 2 = .ok (.invokevirtual 241, 3) := by decide +kernel
theorem dX8_stay_5 : decode cX8_stay 5 = .ok (.astore_n 3, 1) := by decide +kernel
theorem dX8_stay_6 : decode cX8_stay 6 = .ok (.iload_n 2, 1) := by decide +kernel
theorem dX8_stay_7 : decode cX8_stay 7 = .ok (.tableswitch 64 0 4 #[33, 41, 49, 54, 59], 33) := by decide +kernel
theorem dX8_stay_40 : decode cX8_stay 40 = .ok (.aload_n 3, 1) := by decide +kernel
theorem dX8_stay_41 : decode cX8_stay 41 = .ok (.getfield 245, 3) := by decide +kernel
theorem dX8_stay_44 : decode cX8_stay 44 = .ok (.getfield 249, 3) := by decide +kernel
theorem dX8_stay_47 : decode cX8_stay 47 = .ok (.ireturn, 1) := by decide +kernel
theorem dX8_stay_48 : decode cX8_stay 48 = .ok (.aload_n 3, 1) := by decide +kernel
theorem dX8_stay_49 : decode cX8_stay 49 = .ok (.getfield 218, 3) := by decide +kernel
theorem dX8_stay_52 : decode cX8_stay 52 = .ok (.getfield 136, 3) := by decide +kernel
theorem dX8_stay_55 : decode cX8_stay 55 = .ok (.ireturn, 1) := by decide +kernel
theorem dX8_stay_56 : decode cX8_stay 56 = .ok (.aload_n 3, 1) := by decide +kernel
theorem dX8_stay_57 : decode cX8_stay 57 = .ok (.getfield 250, 3) := by decide +kernel
theorem dX8_stay_60 : decode cX8_stay 60 = .ok (.ireturn, 1) := by decide +kernel
theorem dX8_stay_61 : decode cX8_stay 61 = .ok (.aload_n 3, 1) := by decide +kernel
theorem dX8_stay_62 : decode cX8_stay 62 = .ok (.getfield 253, 3) := by decide +kernel
theorem dX8_stay_65 : decode cX8_stay 65 = .ok (.ireturn, 1) := by decide +kernel
theorem dX8_stay_66 : decode cX8_stay 66 = .ok (.aload_n 3, 1) := by decide +kernel
theorem dX8_stay_67 : decode cX8_stay 67 = .ok (.getfield 256, 3) := by decide +kernel
theorem dX8_stay_70 : decode cX8_stay 70 = .ok (.ireturn, 1) := by decide +kernel
theorem dX8_stay_71 : decode cX8_stay 71 = .ok (.new 236, 3) := by decide +kernel
theorem dX8_stay_74 : decode cX8_stay 74 = .ok (.dup, 1) := by decide +kernel
theorem dX8_stay_75 : decode cX8_stay 75 = .ok (.ldc_w 259, 3) := by decide +kernel
theorem dX8_stay_78 : decode cX8_stay 78 = .ok (.invokespecial 240, 3) := by decide +kernel
theorem dX8_stay_81 : decode cX8_stay 81 = .ok (.athrow, 1) := by decide +kernel
theorem dX8_wasAllowed_0 : decode cX8_wasAllowed 0 = .ok (.aload_n 0, 1) := by decide +kernel
theorem dX8_wasAllowed_1 : decode cX8_wasAllowed 1 = .ok (.iload_n 1, 1) := by decide +kernel
theorem dX8_wasAllowed_2 : decode cX8_wasAllowed 2 = .ok (.invokevirtual 241, 3) := by decide +kernel
theorem dX8_wasAllowed_5 : decode cX8_wasAllowed 5 = .ok (.astore_n 2, 1) := by decide +kernel
theorem dX8_wasAllowed_6 : decode cX8_wasAllowed 6 = .ok (.aload_n 2, 1) := by decide +kernel
theorem dX8_wasAllowed_7 : decode cX8_wasAllowed 7 = .ok (.getfield 245, 3) := by decide +kernel
theorem dX8_wasAllowed_10 : decode cX8_wasAllowed 10 = .ok (.aload_n 2, 1) := by decide +kernel
theorem dX8_wasAllowed_11 : decode cX8_wasAllowed 11 = .ok (.getfield 218, 3) := by decide +kernel
theorem dX8_wasAllowed_14 : decode cX8_wasAllowed 14 = .ok (.aload_n 2, 1) := by decide +kernel
theorem dX8_wasAllowed_15 : decode cX8_wasAllowed 15 = .ok (.getfield 250, 3) := by decide +kernel
theorem dX8_wasAllowed_18 : decode cX8_wasAllowed 18 = .ok (.invokestatic 261, 3) := by decide +kernel
theorem dX8_wasAllowed_21 : decode cX8_wasAllowed 21 = .ok (.ifCond .ne 7, 3) := by decide +kernel
theorem dX8_wasAllowed_24 : decode cX8_wasAllowed 24 = .ok (.iconst 1, 1) := by decide +kernel
theorem dX8_wasAllowed_25 : decode cX8_wasAllowed 25 = .ok (.goto 4, 3) := by decide +kernel
theorem dX8_wasAllowed_28 : decode cX8_wasAllowed 28 = .ok (.iconst 0, 1) := by decide +kernel
theorem dX8_wasAllowed_29 : decode cX8_wasAllowed 29 = .ok (.ireturn, 1) := by decide +kernel
theorem dX8_file_0 : decode cX8_file 0 = .ok (.aload_n 0, 1) := by decide +kernel
theorem dX8_file_1 : decode cX8_file 1 = .ok (.iload_n 1, 1) := by decide +kernel
theorem dX8_file_2 : decode cX8_file 2 = .ok (.invokevirtual 90, 3) := by decide +kernel
theorem dX8_file_5 : decode cX8_file 5 = .ok (.astore_n 3, 1) := by decide +kernel
theorem dX8_file_6 : decode cX8_file 6 = .ok (.iload_n 2, 1) := by decide +kernel
theorem dX8_file_7 : decode cX8_file 7 = .ok (.ifCond .ge 14, 3) := by decide +kernel
theorem dX8_file_10 : decode cX8_file 10 = .ok (.new 268, 3) := by decide +kernel
theorem dX8_file_13 : decode cX8_file 13 = .ok (.dup, 1) := by decide +kernel
theorem dX8_file_14 : decode cX8_file 14 = .ok (.ldc_w 270, 3) := by decide +kernel
theorem dX8_file_17 : decode cX8_file 17 = .ok (.invokespecial 272, 3) := by decide +kernel
theorem dX8_file_20 : decode cX8_file 20 = .ok (.athrow, 1) := by decide +kernel
theorem dX8_file_21 : decode cX8_file 21 = .ok (.aload_n 3, 1) := by decide +kernel
theorem dX8_file_22 : decode cX8_file 22 = .ok (.aload_n 0, 1) := by decide +kernel
theorem dX8_file_23 : decode cX8_file 23 = .ok (.getfield 53, 3) := by decide +kernel
theorem dX8_file_26 : decode cX8_file 26 = .ok (.invokevirtual 222, 3) := by decide +kernel
theorem dX8_file_29 : decode cX8_file 29 = .ok (.bipush 18, 2) := by decide +kernel
theorem dX8_file_31 : decode cX8_file 31 = .ok (.if_icmp .ge 14, 3) := by decide +kernel
theorem dX8_file_34 : decode cX8_file 34 = .ok (.new 46, 3) := by decide +kernel
theorem dX8_file_37 : decode cX8_file 37 = .ok (.dup, 1) := by decide +kernel
theorem dX8_file_38 : decode cX8_file 38 = .ok (.ldc_w 273, 3) := by decide +kernel
theorem dX8_file_41 : decode cX8_file 41 = .ok (.invokespecial 50, 3) := by decide +kernel
theorem dX8_file_44 : decode cX8_file 44 = .ok (.athrow, 1) := by decide +kernel
theorem dX8_file_45 : decode cX8_file 45 = .ok (.iload_n 2, 1) := by decide +kernel
theorem dX8_file_46 : decode cX8_file 46 = .ok (.istore 4, 2) := by decide +kernel
theorem dX8_file_48 : decode cX8_file 48 = .ok (.aload_n 0, 1) := by decide +kernel
theorem dX8_file_49 : decode cX8_file 49 = .ok (.getfield 23, 3) := by decide +kernel
theorem dX8_file_52 : decode cX8_file 52 = .ok (.astore 5, 2) := by decide +kernel
theorem dX8_file_54 : decode cX8_file 54 = .ok (.aload 5, 2) := by decide +kernel
theorem dX8_file_56 : decode cX8_file 56 = .ok (.arraylength, 1) := by decide +kernel
theorem dX8_file_57 : decode cX8_file 57 = .ok (.istore 6, 2) := by decide +kernel
theorem dX8_file_59 : decode cX8_file 59 = .ok (.iconst 0, 1) := by decide +kernel
theorem dX8_file_60 : decode cX8_file 60 = .ok (.istore 7, 2) := by decide +kernel
theorem dX8_file_62 : decode cX8_file 62 = .ok (.iload 7, 2) := by decide +kernel
theorem dX8_file_64 : decode cX8_file 64 = .ok (.iload 6, 2) := by decide +kernel
theorem dX8_file_66 : decode cX8_file 66 = .ok (.if_icmp .ge 66, 3) := by decide +kernel
theorem dX8_file_69 : decode cX8_file 69 = .ok (.aload 5, 2) := by decide +kernel
theorem dX8_file_71 : decode cX8_file 71 = .ok (.iload 7, 2) := by decide +kernel
theorem dX8_file_73 : decode cX8_file 73 = .ok (.aaload, 1) := by decide +kernel
theorem dX8_file_74 : decode cX8_file 74 = .ok (.astore 8, 2) := by decide +kernel
theorem dX8_file_76 : decode cX8_file 76 = .ok (.aload 8, 2) := by decide +kernel
theorem dX8_file_78 : decode cX8_file 78 = .ok (.ifnull 48, 3) := by decide +kernel
theorem dX8_file_81 : decode cX8_file 81 = .ok (.aload 8, 2) := by decide +kernel
theorem dX8_file_83 : decode cX8_file 83 = .ok (.getfield 245, 3) := by decide +kernel
theorem dX8_file_86 : decode cX8_file 86 = .ok (.aload_n 3, 1) := by decide +kernel
theorem dX8_file_87 : decode cX8_file 87 = .ok (.if_acmp .eq 6, 3) := by decide +kernel
theorem dX8_file_90 : decode cX8_file 90 = .ok (.goto 36, 3) := by decide +kernel
theorem dX8_file_93 : decode cX8_file 93 = .ok (.iload 4, 2) := by decide +kernel
theorem dX8_file_95 : decode cX8_file 95 = .ok (.ifCond .ne 28, 3) := by decide +kernel
theorem dX8_file_98 : decode cX8_file 98 = .ok (.aload 8, 2) := by decide +kernel
theorem dX8_file_100 : decode cX8_file 100 = .ok (.getfield 218, 3) := by decide +kernel
theorem dX8_file_103 : decode cX8_file 103 = .ok (.getfield 265, 3) := by decide +kernel
theorem dX8_file_106 : decode cX8_file 106 = .ok (.ifCond .eq 8, 3) := by decide +kernel
theorem dX8_file_109 : decode cX8_file 109 = .ok (.bipush (-2), 2) := by decide +kernel
theorem dX8_file_111 : decode cX8_file 111 = .ok (.goto 11, 3) := by decide +kernel
theorem dX8_file_114 : decode cX8_file 114 = .ok (.aload 8, 2) := by decide +kernel
theorem dX8_file_116 : decode cX8_file 116 = .ok (.getfield 218, 3) := by decide +kernel
theorem dX8_file_119 : decode cX8_file 119 = .ok (.getfield 136, 3) := by decide +kernel
theorem dX8_file_122 : decode cX8_file 122 = .ok (.ireturn, 1) := by decide +kernel
theorem dX8_file_123 : decode cX8_file 123 = .ok (.iinc 4 (-1), 3) := by decide +kernel
theorem dX8_file_126 : decode cX8_file 126 = .ok (.iinc 7 1, 3) := by decide +kernel
theorem dX8_file_129 : decode cX8_file 129 = .ok (.goto (-67), 3) := by decide +kernel
theorem dX8_file_132 : decode cX8_file 132 = .ok (.iconst (-1), 1) := by decide +kernel
theorem dX8_file_133 : decode cX8_file 133 = .ok (.ireturn, 1) := by decide +kernel
theorem dX8_isWithin_0 : decode cX8_isWithin 0 = .ok (.iload_n 1, 1) := by decide +kernel
theorem dX8_isWithin_1 : decode cX8_isWithin 1 = .ok (.iload_n 0, 1) := by decide +kernel
theorem dX8_isWithin_2 : decode cX8_isWithin 2 = .ok (.if_icmp .gt 12, 3) := by decide +kernel
theorem dX8_isWithin_5 : decode cX8_isWithin 5 = .ok (.iload_n 0, 1) := by decide +kernel
theorem dX8_isWithin_6 : decode cX8_isWithin 6 = .ok (.iload_n 2, 1) := by decide +kernel
theorem dX8_isWithin_7 : decode cX8_isWithin 7 = .ok (.if_icmp .gt 7, 3) := by decide +kernel
theorem dX8_isWithin_10 : decode cX8_isWithin 10 = .ok (.iconst 1, 1) := by decide +kernel
theorem dX8_isWithin_11 : decode cX8_isWithin 11 = .ok (.goto 4, 3) := by decide +kernel
theorem dX8_isWithin_14 : decode cX8_isWithin 14 = .ok (.iconst 0, 1) := by decide +kernel
theorem dX8_isWithin_15 : decode cX8_isWithin 15 = .ok (.ireturn, 1) := by decide +kernel
theorem dX8_require_0 : decode cX8_require 0 = .ok (.iload_n 0, 1) := by decide +kernel
theorem dX8_require_1 : decode cX8_require 1 = .ok (.ifCond .ne 14, 3) := by decide +kernel
theorem dX8_require_4 : decode cX8_require 4 = .ok (.new 236, 3) := by decide +kernel
theorem dX8_require_7 : decode cX8_require 7 = .ok (.dup, 1) := by decide +kernel
theorem dX8_require_8 : decode cX8_require 8 = .ok (.ldc_w 275, 3) := by decide +kernel
theorem dX8_require_11 : decode cX8_require 11 = .ok (.invokespecial 240, 3) := by decide +kernel
theorem dX8_require_14 : decode cX8_require 14 = .ok (.athrow, 1) := by decide +kernel
theorem dX8_require_15 : decode cX8_require 15 = .ok (.return_, 1) := by decide +kernel
theorem dX8_requireWorker_0 : decode cX8_requireWorker 0 = .ok (.iload_n 0, 1) := by decide +kernel
theorem dX8_requireWorker_1 : decode cX8_requireWorker 1 = .ok (.iconst 0, 1) := by decide +kernel
theorem dX8_requireWorker_2 : decode cX8_requireWorker 2 = .ok (.iconst 4, 1) := by decide +kernel
theorem dX8_requireWorker_3 : decode cX8_requireWorker 3 = .ok (.invokestatic 34, 3) := by decide +kernel
theorem dX8_requireWorker_6 : decode cX8_requireWorker 6 = .ok (.ifCond .ne 14, 3) := by decide +kernel
theorem dX8_requireWorker_9 : decode cX8_requireWorker 9 = .ok (.new 268, 3) := by decide +kernel
theorem dX8_requireWorker_12 : decode cX8_requireWorker 12 = .ok (.dup, 1) := by decide +kernel
theorem dX8_requireWorker_13 : decode cX8_requireWorker 13 = .ok (.ldc_w 277, 3) := by decide +kernel
theorem dX8_requireWorker_16 : decode cX8_requireWorker 16 = .ok (.invokespecial 272, 3) := by decide +kernel
theorem dX8_requireWorker_19 : decode cX8_requireWorker 19 = .ok (.athrow, 1) := by decide +kernel
theorem dX8_requireWorker_20 : decode cX8_requireWorker 20 = .ok (.return_, 1) := by decide +kernel
theorem dX8_childAt_0 : decode cX8_childAt 0 = .ok (.iload_n 1, 1) := by decide +kernel
theorem dX8_childAt_1 : decode cX8_childAt 1 = .ok (.ifCond .lt 21, 3) := by decide +kernel
theorem dX8_childAt_4 : decode cX8_childAt 4 = .ok (.iload_n 1, 1) := by decide +kernel
theorem dX8_childAt_5 : decode cX8_childAt 5 = .ok (.aload_n 0, 1) := by decide +kernel
theorem dX8_childAt_6 : decode cX8_childAt 6 = .ok (.getfield 11, 3) := by decide +kernel
theorem dX8_childAt_9 : decode cX8_childAt 9 = .ok (.arraylength, 1) := by decide +kernel
theorem dX8_childAt_10 : decode cX8_childAt 10 = .ok (.if_icmp .ge 12, 3) := by decide +kernel
theorem dX8_childAt_13 : decode cX8_childAt 13 = .ok (.aload_n 0, 1) := by decide +kernel
theorem dX8_childAt_14 : decode cX8_childAt 14 = .ok (.getfield 11, 3) := by decide +kernel
theorem dX8_childAt_17 : decode cX8_childAt 17 = .ok (.iload_n 1, 1) := by decide +kernel
theorem dX8_childAt_18 : decode cX8_childAt 18 = .ok (.aaload, 1) := by decide +kernel
theorem dX8_childAt_19 : decode cX8_childAt 19 = .ok (.goto 4, 3) := by decide +kernel
theorem dX8_childAt_22 : decode cX8_childAt 22 = .ok (.aconst_null, 1) := by decide +kernel
theorem dX8_childAt_23 : decode cX8_childAt 23 = .ok (.astore_n 2, 1) := by decide +kernel
theorem dX8_childAt_24 : decode cX8_childAt 24 = .ok (.aload_n 2, 1) := by decide +kernel
theorem dX8_childAt_25 : decode cX8_childAt 25 = .ok (.ifnonnull 14, 3) := by decide +kernel
theorem dX8_childAt_28 : decode cX8_childAt 28 = .ok (.new 268, 3) := by decide +kernel
theorem dX8_childAt_31 : decode cX8_childAt 31 = .ok (.dup, 1) := by decide +kernel
theorem dX8_childAt_32 : decode cX8_childAt 32 = .ok (.ldc_w 279, 3) := by decide +kernel
theorem dX8_childAt_35 : decode cX8_childAt 35 = .ok (.invokespecial 272, 3) := by decide +kernel
theorem dX8_childAt_38 : decode cX8_childAt 38 = .ok (.athrow, 1) := by decide +kernel
theorem dX8_childAt_39 : decode cX8_childAt 39 = .ok (.aload_n 2, 1) := by decide +kernel
theorem dX8_childAt_40 : decode cX8_childAt 40 = .ok (.areturn, 1) := by decide +kernel
theorem dX8_homeAt_0 : decode cX8_homeAt 0 = .ok (.iload_n 1, 1) := by decide +kernel
theorem dX8_homeAt_1 : decode cX8_homeAt 1 = .ok (.ifCond .lt 21, 3) := by decide +kernel
theorem dX8_homeAt_4 : decode cX8_homeAt 4 = .ok (.iload_n 1, 1) := by decide +kernel
theorem dX8_homeAt_5 : decode cX8_homeAt 5 = .ok (.aload_n 0, 1) := by decide +kernel
theorem dX8_homeAt_6 : decode cX8_homeAt 6 = .ok (.getfield 17, 3) := by decide +kernel
theorem dX8_homeAt_9 : decode cX8_homeAt 9 = .ok (.arraylength, 1) := by decide +kernel
theorem dX8_homeAt_10 : decode cX8_homeAt 10 = .ok (.if_icmp .ge 12, 3) := by decide +kernel
theorem dX8_homeAt_13 : decode cX8_homeAt 13 = .ok (.aload_n 0, 1) := by decide +kernel
theorem dX8_homeAt_14 : decode cX8_homeAt 14 = .ok (.getfield 17, 3) := by decide +kernel
theorem dX8_homeAt_17 : decode cX8_homeAt 17 = .ok (.iload_n 1, 1) := by decide +kernel
theorem dX8_homeAt_18 : decode cX8_homeAt 18 = .ok (.aaload, 1) := by decide +kernel
theorem dX8_homeAt_19 : decode cX8_homeAt 19 = .ok (.goto 4, 3) := by decide +kernel
theorem dX8_homeAt_22 : decode cX8_homeAt 22 = .ok (.aconst_null, 1) := by decide +kernel
theorem dX8_homeAt_23 : decode cX8_homeAt 23 = .ok (.astore_n 2, 1) := by decide +kernel
theorem dX8_homeAt_24 : decode cX8_homeAt 24 = .ok (.aload_n 2, 1) := by decide +kernel
theorem dX8_homeAt_25 : decode cX8_homeAt 25 = .ok (.ifnonnull 14, 3) := by decide +kernel
theorem dX8_homeAt_28 : decode cX8_homeAt 28 = .ok (.new 268, 3) := by decide +kernel
theorem dX8_homeAt_31 : decode cX8_homeAt 31 = .ok (.dup, 1) := by decide +kernel
theorem dX8_homeAt_32 : decode cX8_homeAt 32 = .ok (.ldc_w 281, 3) := by decide +kernel
theorem dX8_homeAt_35 : decode cX8_homeAt 35 = .ok (.invokespecial 272, 3) := by decide +kernel
theorem dX8_homeAt_38 : decode cX8_homeAt 38 = .ok (.athrow, 1) := by decide +kernel
theorem dX8_homeAt_39 : decode cX8_homeAt 39 = .ok (.aload_n 2, 1) := by decide +kernel
theorem dX8_homeAt_40 : decode cX8_homeAt 40 = .ok (.areturn, 1) := by decide +kernel
theorem dX8_stayAt_0 : decode cX8_stayAt 0 = .ok (.iload_n 1, 1) := by decide +kernel
theorem dX8_stayAt_1 : decode cX8_stayAt 1 = .ok (.ifCond .lt 21, 3) := by decide +kernel
theorem dX8_stayAt_4 : decode cX8_stayAt 4 = .ok (.iload_n 1, 1) := by decide +kernel
theorem dX8_stayAt_5 : decode cX8_stayAt 5 = .ok (.aload_n 0, 1) := by decide +kernel
theorem dX8_stayAt_6 : decode cX8_stayAt 6 = .ok (.getfield 23, 3) := by decide +kernel
theorem dX8_stayAt_9 : decode cX8_stayAt 9 = .ok (.arraylength, 1) := by decide +kernel
theorem dX8_stayAt_10 : decode cX8_stayAt 10 = .ok (.if_icmp .ge 12, 3) := by decide +kernel
theorem dX8_stayAt_13 : decode cX8_stayAt 13 = .ok (.aload_n 0, 1) := by decide +kernel
theorem dX8_stayAt_14 : decode cX8_stayAt 14 = .ok (.getfield 23, 3) := by decide +kernel
theorem dX8_stayAt_17 : decode cX8_stayAt 17 = .ok (.iload_n 1, 1) := by decide +kernel
theorem dX8_stayAt_18 : decode cX8_stayAt 18 = .ok (.aaload, 1) := by decide +kernel
theorem dX8_stayAt_19 : decode cX8_stayAt 19 = .ok (.goto 4, 3) := by decide +kernel
theorem dX8_stayAt_22 : decode cX8_stayAt 22 = .ok (.aconst_null, 1) := by decide +kernel
theorem dX8_stayAt_23 : decode cX8_stayAt 23 = .ok (.astore_n 2, 1) := by decide +kernel
theorem dX8_stayAt_24 : decode cX8_stayAt 24 = .ok (.aload_n 2, 1) := by decide +kernel
theorem dX8_stayAt_25 : decode cX8_stayAt 25 = .ok (.ifnonnull 14, 3) := by decide +kernel
theorem dX8_stayAt_28 : decode cX8_stayAt 28 = .ok (.new 268, 3) := by decide +kernel
theorem dX8_stayAt_31 : decode cX8_stayAt 31 = .ok (.dup, 1) := by decide +kernel
theorem dX8_stayAt_32 : decode cX8_stayAt 32 = .ok (.ldc_w 283, 3) := by decide +kernel
theorem dX8_stayAt_35 : decode cX8_stayAt 35 = .ok (.invokespecial 272, 3) := by decide +kernel
theorem dX8_stayAt_38 : decode cX8_stayAt 38 = .ok (.athrow, 1) := by decide +kernel
theorem dX8_stayAt_39 : decode cX8_stayAt 39 = .ok (.aload_n 2, 1) := by decide +kernel
theorem dX8_stayAt_40 : decode cX8_stayAt 40 = .ok (.areturn, 1) := by decide +kernel
theorem dX8_barOnDay_0 : decode cX8_barOnDay 0 = .ok (.aload_n 0, 1) := by decide +kernel
theorem dX8_barOnDay_1 : decode cX8_barOnDay 1 = .ok (.iload_n 2, 1) := by decide +kernel
theorem dX8_barOnDay_2 : decode cX8_barOnDay 2 = .ok (.invokevirtual 285, 3) := by decide +kernel
theorem dX8_barOnDay_5 : decode cX8_barOnDay 5 = .ok (.ifCond .eq 5, 3) := by decide +kernel
theorem dX8_barOnDay_8 : decode cX8_barOnDay 8 = .ok (.iconst 1, 1) := by decide +kernel
theorem dX8_barOnDay_9 : decode cX8_barOnDay 9 = .ok (.ireturn, 1) := by decide +kernel
theorem dX8_barOnDay_10 : decode cX8_barOnDay 10 = .ok (.aload_n 1, 1) := by decide +kernel
theorem dX8_barOnDay_11 : decode cX8_barOnDay 11 = .ok (.getfield 77, 3) := by decide +kernel
theorem dX8_barOnDay_14 : decode cX8_barOnDay 14 = .ok (.iload_n 2, 1) := by decide +kernel
theorem dX8_barOnDay_15 : decode cX8_barOnDay 15 = .ok (.invokestatic 288, 3) := by decide +kernel
theorem dX8_barOnDay_18 : decode cX8_barOnDay 18 = .ok (.astore_n 3, 1) := by decide +kernel
theorem dX8_barOnDay_19 : decode cX8_barOnDay 19 = .ok (.aload_n 3, 1) := by decide +kernel
theorem dX8_barOnDay_20 : decode cX8_barOnDay 20 = .ok (.ifnull 11, 3) := by decide +kernel
theorem dX8_barOnDay_23 : decode cX8_barOnDay 23 = .ok (.aload_n 3, 1) := by decide +kernel
theorem dX8_barOnDay_24 : decode cX8_barOnDay 24 = .ok (.iload_n 2, 1) := by decide +kernel
theorem dX8_barOnDay_25 : decode cX8_barOnDay 25 = .ok (.invokevirtual 292, 3) := by decide +kernel
theorem dX8_barOnDay_28 : decode cX8_barOnDay 28 = .ok (.ifCond .ne 5, 3) := by decide +kernel
theorem dX8_barOnDay_31 : decode cX8_barOnDay 31 = .ok (.iconst 2, 1) := by decide +kernel
theorem dX8_barOnDay_32 : decode cX8_barOnDay 32 = .ok (.ireturn, 1) := by decide +kernel
theorem dX8_barOnDay_33 : decode cX8_barOnDay 33 = .ok (.aload_n 0, 1) := by decide +kernel
theorem dX8_barOnDay_34 : decode cX8_barOnDay 34 = .ok (.iload_n 2, 1) := by decide +kernel
theorem dX8_barOnDay_35 : decode cX8_barOnDay 35 = .ok (.invokevirtual 222, 3) := by decide +kernel
theorem dX8_barOnDay_38 : decode cX8_barOnDay 38 = .ok (.aload_n 3, 1) := by decide +kernel
theorem dX8_barOnDay_39 : decode cX8_barOnDay 39 = .ok (.getfield 296, 3) := by decide +kernel
theorem dX8_barOnDay_42 : decode cX8_barOnDay 42 = .ok (.aload_n 3, 1) := by decide +kernel
theorem dX8_barOnDay_43 : decode cX8_barOnDay 43 = .ok (.getfield 299, 3) := by decide +kernel
theorem dX8_barOnDay_46 : decode cX8_barOnDay 46 = .ok (.invokestatic 34, 3) := by decide +kernel
theorem dX8_barOnDay_49 : decode cX8_barOnDay 49 = .ok (.ifCond .ne 5, 3) := by decide +kernel
theorem dX8_barOnDay_52 : decode cX8_barOnDay 52 = .ok (.iconst 3, 1) := by decide +kernel
theorem dX8_barOnDay_53 : decode cX8_barOnDay 53 = .ok (.ireturn, 1) := by decide +kernel
theorem dX8_barOnDay_54 : decode cX8_barOnDay 54 = .ok (.aload_n 1, 1) := by decide +kernel
theorem dX8_barOnDay_55 : decode cX8_barOnDay 55 = .ok (.aload_n 0, 1) := by decide +kernel
theorem dX8_barOnDay_56 : decode cX8_barOnDay 56 = .ok (.getfield 302, 3) := by decide +kernel
theorem dX8_barOnDay_59 : decode cX8_barOnDay 59 = .ok (.iload_n 2, 1) := by decide +kernel
theorem dX8_barOnDay_60 : decode cX8_barOnDay 60 = .ok (.invokevirtual 305, 3) := by decide +kernel
theorem dX8_barOnDay_63 : decode cX8_barOnDay 63 = .ok (.ifCond .ne 5, 3) := by decide +kernel
theorem dX8_barOnDay_66 : decode cX8_barOnDay 66 = .ok (.iconst 4, 1) := by decide +kernel
theorem dX8_barOnDay_67 : decode cX8_barOnDay 67 = .ok (.ireturn, 1) := by decide +kernel
theorem dX8_barOnDay_68 : decode cX8_barOnDay 68 = .ok (.aload_n 1, 1) := by decide +kernel
theorem dX8_barOnDay_69 : decode cX8_barOnDay 69 = .ok (.iload_n 2, 1) := by decide +kernel
theorem dX8_barOnDay_70 : decode cX8_barOnDay 70 = .ok (.invokevirtual 309, 3) := by decide +kernel
theorem dX8_barOnDay_73 : decode cX8_barOnDay 73 = .ok (.ifCond .eq 7, 3) := by decide +kernel
theorem dX8_barOnDay_76 : decode cX8_barOnDay 76 = .ok (.iconst 5, 1) := by decide +kernel
theorem dX8_barOnDay_77 : decode cX8_barOnDay 77 = .ok (.goto 4, 3) := by decide +kernel
theorem dX8_barOnDay_80 : decode cX8_barOnDay 80 = .ok (.iconst 0, 1) := by decide +kernel
theorem dX8_barOnDay_81 : decode cX8_barOnDay 81 = .ok (.ireturn, 1) := by decide +kernel
theorem dX8_barToday_0 : decode cX8_barToday 0 = .ok (.aload_n 1, 1) := by decide +kernel
theorem dX8_barToday_1 : decode cX8_barToday 1 = .ok (.aload_n 2, 1) := by decide +kernel
theorem dX8_barToday_2 : decode cX8_barToday 2 = .ok (.aload_n 0, 1) := by decide +kernel
theorem dX8_barToday_3 : decode cX8_barToday 3 = .ok (.getfield 53, 3) := by decide +kernel
theorem dX8_barToday_6 : decode cX8_barToday 6 = .ok (.invokestatic 261, 3) := by decide +kernel
theorem dX8_barToday_9 : decode cX8_barToday 9 = .ok (.istore_n 3, 1) := by decide +kernel
theorem dX8_barToday_10 : decode cX8_barToday 10 = .ok (.iload_n 3, 1) := by decide +kernel
theorem dX8_barToday_11 : decode cX8_barToday 11 = .ok (.ifCond .eq 5, 3) := by decide +kernel
theorem dX8_barToday_14 : decode cX8_barToday 14 = .ok (.iload_n 3, 1) := by decide +kernel
theorem dX8_barToday_15 : decode cX8_barToday 15 = .ok (.ireturn, 1) := by decide +kernel
theorem dX8_barToday_16 : decode cX8_barToday 16 = .ok (.aload_n 0, 1) := by decide +kernel
theorem dX8_barToday_17 : decode cX8_barToday 17 = .ok (.aload_n 2, 1) := by decide +kernel
theorem dX8_barToday_18 : decode cX8_barToday 18 = .ok (.aload_n 1, 1) := by decide +kernel
theorem dX8_barToday_19 : decode cX8_barToday 19 = .ok (.invokevirtual 312, 3) := by decide +kernel
theorem dX8_barToday_22 : decode cX8_barToday 22 = .ok (.aload_n 2, 1) := by decide +kernel
theorem dX8_barToday_23 : decode cX8_barToday 23 = .ok (.getfield 316, 3) := by decide +kernel
theorem dX8_barToday_26 : decode cX8_barToday 26 = .ok (.if_icmp .lt 6, 3) := by decide +kernel
theorem dX8_barToday_29 : decode cX8_barToday 29 = .ok (.bipush 6, 2) := by decide +kernel
theorem dX8_barToday_31 : decode cX8_barToday 31 = .ok (.ireturn, 1) := by decide +kernel
theorem dX8_barToday_32 : decode cX8_barToday 32 = .ok (.aload_n 1, 1) := by decide +kernel
theorem dX8_barToday_33 : decode cX8_barToday 33 = .ok (.aload_n 2, 1) := by decide +kernel
theorem dX8_barToday_34 : decode cX8_barToday 34 = .ok (.getfield 136, 3) := by decide +kernel
theorem dX8_barToday_37 : decode cX8_barToday 37 = .ok (.invokevirtual 319, 3) := by decide +kernel
theorem dX8_barToday_40 : decode cX8_barToday 40 = .ok (.ifCond .eq 8, 3) := by decide +kernel
theorem dX8_barToday_43 : decode cX8_barToday 43 = .ok (.bipush 7, 2) := by decide +kernel
theorem dX8_barToday_45 : decode cX8_barToday 45 = .ok (.goto 4, 3) := by decide +kernel
theorem dX8_barToday_48 : decode cX8_barToday 48 = .ok (.iconst 0, 1) := by decide +kernel
theorem dX8_barToday_49 : decode cX8_barToday 49 = .ok (.ireturn, 1) := by decide +kernel
theorem dX8_takenBeds_0 : decode cX8_takenBeds 0 = .ok (.iconst 0, 1) := by decide +kernel
theorem dX8_takenBeds_1 : decode cX8_takenBeds 1 = .ok (.istore_n 3, 1) := by decide +kernel
theorem dX8_takenBeds_2 : decode cX8_takenBeds 2 = .ok (.aload_n 0, 1) := by decide +kernel
theorem dX8_takenBeds_3 : decode cX8_takenBeds 3 = .ok (.getfield 11, 3) := by decide +kernel
theorem dX8_takenBeds_6 : decode cX8_takenBeds 6 = .ok (.astore 4, 2) := by decide +kernel
theorem dX8_takenBeds_8 : decode cX8_takenBeds 8 = .ok (.aload 4, 2) := by decide +kernel
theorem dX8_takenBeds_10 : decode cX8_takenBeds 10 = .ok (.arraylength, 1) := by decide +kernel
theorem dX8_takenBeds_11 : decode cX8_takenBeds 11 = .ok (.istore 5, 2) := by decide +kernel
theorem dX8_takenBeds_13 : decode cX8_takenBeds 13 = .ok (.iconst 0, 1) := by decide +kernel
theorem dX8_takenBeds_14 : decode cX8_takenBeds 14 = .ok (.istore 6, 2) := by decide +kernel
theorem dX8_takenBeds_16 : decode cX8_takenBeds 16 = .ok (.iload 6, 2) := by decide +kernel
theorem dX8_takenBeds_18 : decode cX8_takenBeds 18 = .ok (.iload 5, 2) := by decide +kernel
theorem dX8_takenBeds_20 : decode cX8_takenBeds 20 = .ok (.if_icmp .ge 39, 3) := by decide +kernel
theorem dX8_takenBeds_23 : decode cX8_takenBeds 23 = .ok (.aload 4, 2) := by decide +kernel
theorem dX8_takenBeds_25 : decode cX8_takenBeds 25 = .ok (.iload 6, 2) := by decide +kernel
theorem dX8_takenBeds_27 : decode cX8_takenBeds 27 = .ok (.aaload, 1) := by decide +kernel
theorem dX8_takenBeds_28 : decode cX8_takenBeds 28 = .ok (.astore 7, 2) := by decide +kernel
theorem dX8_takenBeds_30 : decode cX8_takenBeds 30 = .ok (.aload 7, 2) := by decide +kernel
theorem dX8_takenBeds_32 : decode cX8_takenBeds 32 = .ok (.ifnull 21, 3) := by decide +kernel
theorem dX8_takenBeds_35 : decode cX8_takenBeds 35 = .ok (.aload 7, 2) := by decide +kernel
theorem dX8_takenBeds_37 : decode cX8_takenBeds 37 = .ok (.aload_n 2, 1) := by decide +kernel
theorem dX8_takenBeds_38 : decode cX8_takenBeds 38 = .ok (.if_acmp .eq 15, 3) := by decide +kernel
theorem dX8_takenBeds_41 : decode cX8_takenBeds 41 = .ok (.aload 7, 2) := by decide +kernel
theorem dX8_takenBeds_43 : decode cX8_takenBeds 43 = .ok (.aload_n 1, 1) := by decide +kernel
theorem dX8_takenBeds_44 : decode cX8_takenBeds 44 = .ok (.invokevirtual 150, 3) := by decide +kernel
theorem dX8_takenBeds_47 : decode cX8_takenBeds 47 = .ok (.ifCond .eq 6, 3) := by decide +kernel
theorem dX8_takenBeds_50 : decode cX8_takenBeds 50 = .ok (.iinc 3 1, 3) := by decide +kernel
theorem dX8_takenBeds_53 : decode cX8_takenBeds 53 = .ok (.iinc 6 1, 3) := by decide +kernel
theorem dX8_takenBeds_56 : decode cX8_takenBeds 56 = .ok (.goto (-40), 3) := by decide +kernel
theorem dX8_takenBeds_59 : decode cX8_takenBeds 59 = .ok (.iload_n 3, 1) := by decide +kernel
theorem dX8_takenBeds_60 : decode cX8_takenBeds 60 = .ok (.ireturn, 1) := by decide +kernel
theorem dX8_worthFor_0 : decode cX8_worthFor 0 = .ok (.aload_n 1, 1) := by decide +kernel
theorem dX8_worthFor_1 : decode cX8_worthFor 1 = .ok (.aload_n 2, 1) := by decide +kernel
theorem dX8_worthFor_2 : decode cX8_worthFor 2 = .ok (.getfield 136, 3) := by decide +kernel
theorem dX8_worthFor_5 : decode cX8_worthFor 5 = .ok (.invokevirtual 322, 3) := by decide +kernel
theorem dX8_worthFor_8 : decode cX8_worthFor 8 = .ok (.aload_n 1, 1) := by decide +kernel
theorem dX8_worthFor_9 : decode cX8_worthFor 9 = .ok (.getfield 325, 3) := by decide +kernel
theorem dX8_worthFor_12 : decode cX8_worthFor 12 = .ok (.aload_n 2, 1) := by decide +kernel
theorem dX8_worthFor_13 : decode cX8_worthFor 13 = .ok (.getfield 328, 3) := by decide +kernel
theorem dX8_worthFor_16 : decode cX8_worthFor 16 = .ok (.isub, 1) := by decide +kernel
theorem dX8_worthFor_17 : decode cX8_worthFor 17 = .ok (.invokestatic 329, 3) := by decide +kernel
theorem dX8_worthFor_20 : decode cX8_worthFor 20 = .ok (.iconst 5, 1) := by decide +kernel
theorem dX8_worthFor_21 : decode cX8_worthFor 21 = .ok (.idiv, 1) := by decide +kernel
theorem dX8_worthFor_22 : decode cX8_worthFor 22 = .ok (.isub, 1) := by decide +kernel
theorem dX8_worthFor_23 : decode cX8_worthFor 23 = .ok (.istore_n 3, 1) := by decide +kernel
theorem dX8_worthFor_24 : decode cX8_worthFor 24 = .ok (.aload_n 1, 1) := by decide +kernel
theorem dX8_worthFor_25 : decode cX8_worthFor 25 = .ok (.getfield 334, 3) := by decide +kernel
theorem dX8_worthFor_28 : decode cX8_worthFor 28 = .ok (.aload_n 2, 1) := by decide +kernel
theorem dX8_worthFor_29 : decode cX8_worthFor 29 = .ok (.getfield 337, 3) := by decide +kernel
theorem dX8_worthFor_32 : decode cX8_worthFor 32 = .ok (.if_icmp .ne 6, 3) := by decide +kernel
theorem dX8_worthFor_35 : decode cX8_worthFor 35 = .ok (.iinc 3 6, 3) := by decide +kernel
theorem dX8_worthFor_38 : decode cX8_worthFor 38 = .ok (.aload_n 0, 1) := by decide +kernel
theorem dX8_worthFor_39 : decode cX8_worthFor 39 = .ok (.getfield 11, 3) := by decide +kernel
theorem dX8_worthFor_42 : decode cX8_worthFor 42 = .ok (.astore 4, 2) := by decide +kernel
theorem dX8_worthFor_44 : decode cX8_worthFor 44 = .ok (.aload 4, 2) := by decide +kernel
theorem dX8_worthFor_46 : decode cX8_worthFor 46 = .ok (.arraylength, 1) := by decide +kernel
theorem dX8_worthFor_47 : decode cX8_worthFor 47 = .ok (.istore 5, 2) := by decide +kernel
theorem dX8_worthFor_49 : decode cX8_worthFor 49 = .ok (.iconst 0, 1) := by decide +kernel
theorem dX8_worthFor_50 : decode cX8_worthFor 50 = .ok (.istore 6, 2) := by decide +kernel
theorem dX8_worthFor_52 : decode cX8_worthFor 52 = .ok (.iload 6, 2) := by decide +kernel
theorem dX8_worthFor_54 : decode cX8_worthFor 54 = .ok (.iload 5, 2) := by decide +kernel
theorem dX8_worthFor_56 : decode cX8_worthFor 56 = .ok (.if_icmp .ge 51, 3) := by decide +kernel
theorem dX8_worthFor_59 : decode cX8_worthFor 59 = .ok (.aload 4, 2) := by decide +kernel
theorem dX8_worthFor_61 : decode cX8_worthFor 61 = .ok (.iload 6, 2) := by decide +kernel
theorem dX8_worthFor_63 : decode cX8_worthFor 63 = .ok (.aaload, 1) := by decide +kernel
theorem dX8_worthFor_64 : decode cX8_worthFor 64 = .ok (.astore 7, 2) := by decide +kernel
theorem dX8_worthFor_66 : decode cX8_worthFor 66 = .ok (.aload 7, 2) := by decide +kernel
theorem dX8_worthFor_68 : decode cX8_worthFor 68 = .ok (.ifnull 33, 3) := by decide +kernel
theorem dX8_worthFor_71 : decode cX8_worthFor 71 = .ok (.aload 7, 2) := by decide +kernel
theorem dX8_worthFor_73 : decode cX8_worthFor 73 = .ok (.aload_n 1, 1) := by decide +kernel
theorem dX8_worthFor_74 : decode cX8_worthFor 74 = .ok (.if_acmp .eq 27, 3) := by decide +kernel
theorem dX8_worthFor_77 : decode cX8_worthFor 77 = .ok (.aload 7, 2) := by decide +kernel
theorem dX8_worthFor_79 : decode cX8_worthFor 79 = .ok (.getfield 338, 3) := by decide +kernel
theorem dX8_worthFor_82 : decode cX8_worthFor 82 = .ok (.aload_n 1, 1) := by decide +kernel
theorem dX8_worthFor_83 : decode cX8_worthFor 83 = .ok (.getfield 338, 3) := by decide +kernel
theorem dX8_worthFor_86 : decode cX8_worthFor 86 = .ok (.if_icmp .ne 15, 3) := by decide +kernel
theorem dX8_worthFor_89 : decode cX8_worthFor 89 = .ok (.aload 7, 2) := by decide +kernel
theorem dX8_worthFor_91 : decode cX8_worthFor 91 = .ok (.aload_n 2, 1) := by decide +kernel
theorem dX8_worthFor_92 : decode cX8_worthFor 92 = .ok (.invokevirtual 150, 3) := by decide +kernel
theorem dX8_worthFor_95 : decode cX8_worthFor 95 = .ok (.ifCond .eq 6, 3) := by decide +kernel
theorem dX8_worthFor_98 : decode cX8_worthFor 98 = .ok (.iinc 3 10, 3) := by decide +kernel
theorem dX8_worthFor_101 : decode cX8_worthFor 101 = .ok (.iinc 6 1, 3) := by decide +kernel
theorem dX8_worthFor_104 : decode cX8_worthFor 104 = .ok (.goto (-52), 3) := by decide +kernel
theorem dX8_worthFor_107 : decode cX8_worthFor 107 = .ok (.iload_n 3, 1) := by decide +kernel
theorem dX8_worthFor_108 : decode cX8_worthFor 108 = .ok (.ireturn, 1) := by decide +kernel
theorem dX8_beginStay_0 : decode cX8_beginStay 0 = .ok (.aload_n 0, 1) := by decide +kernel
theorem dX8_beginStay_1 : decode cX8_beginStay 1 = .ok (.getfield 166, 3) := by decide +kernel
theorem dX8_beginStay_4 : decode cX8_beginStay 4 = .ok (.istore_n 3, 1) := by decide +kernel
theorem dX8_beginStay_5 : decode cX8_beginStay 5 = .ok (.iload_n 3, 1) := by decide +kernel
theorem dX8_beginStay_6 : decode cX8_beginStay 6 = .ok (.aload_n 0, 1) := by decide +kernel
theorem dX8_beginStay_7 : decode cX8_beginStay 7 = .ok (.getfield 23, 3) := by decide +kernel
theorem dX8_beginStay_10 : decode cX8_beginStay 10 = .ok (.arraylength, 1) := by decide +kernel
theorem dX8_beginStay_11 : decode cX8_beginStay 11 = .ok (.if_icmp .lt 14, 3) := by decide +kernel
theorem dX8_beginStay_14 : decode cX8_beginStay 14 = .ok (.new 46, 3) := by decide +kernel
theorem dX8_beginStay_17 : decode cX8_beginStay 17 = .ok (.dup, 1) := by decide +kernel
theorem dX8_beginStay_18 : decode cX8_beginStay 18 = .ok (.ldc_w 341, 3) := by decide +kernel
theorem dX8_beginStay_21 : decode cX8_beginStay 21 = .ok (.invokespecial 50, 3) := by decide +kernel
theorem dX8_beginStay_24 : decode cX8_beginStay 24 = .ok (.athrow, 1) := by decide +kernel
theorem dX8_beginStay_25 : decode cX8_beginStay 25 = .ok (.aload_n 1, 1) := by decide +kernel
theorem dX8_beginStay_26 : decode cX8_beginStay 26 = .ok (.aload_n 0, 1) := by decide +kernel
theorem dX8_beginStay_27 : decode cX8_beginStay 27 = .ok (.getfield 53, 3) := by decide +kernel
theorem dX8_beginStay_30 : decode cX8_beginStay 30 = .ok (.invokevirtual 343, 3) := by decide +kernel
theorem dX8_beginStay_33 : decode cX8_beginStay 33 = .ok (.new 21, 3) := by decide +kernel
theorem dX8_beginStay_36 : decode cX8_beginStay 36 = .ok (.dup, 1) := by decide +kernel
theorem dX8_beginStay_37 : decode cX8_beginStay 37 = .ok (.aload_n 1, 1) := by decide +kernel
theorem dX8_beginStay_38 : decode cX8_beginStay 38 = .ok (.aload_n 2, 1) := by decide +kernel
theorem dX8_beginStay_39 : decode cX8_beginStay 39 = .ok (.aload_n 0, 1) := by decide +kernel
theorem dX8_beginStay_40 : decode cX8_beginStay 40 = .ok (.getfield 53, 3) := by decide +kernel
theorem dX8_beginStay_43 : decode cX8_beginStay 43 = .ok (.aload_n 1, 1) := by decide +kernel
theorem dX8_beginStay_44 : decode cX8_beginStay 44 = .ok (.aload_n 0, 1) := by decide +kernel
theorem dX8_beginStay_45 : decode cX8_beginStay 45 = .ok (.getfield 53, 3) := by decide +kernel
theorem dX8_beginStay_48 : decode cX8_beginStay 48 = .ok (.invokevirtual 133, 3) := by decide +kernel
theorem dX8_beginStay_51 : decode cX8_beginStay 51 = .ok (.invokespecial 346, 3) := by decide +kernel
theorem dX8_beginStay_54 : decode cX8_beginStay 54 = .ok (.astore 4, 2) := by decide +kernel
theorem dX8_beginStay_56 : decode cX8_beginStay 56 = .ok (.aload_n 1, 1) := by decide +kernel
theorem dX8_beginStay_57 : decode cX8_beginStay 57 = .ok (.aload 4, 2) := by decide +kernel
theorem dX8_beginStay_59 : decode cX8_beginStay 59 = .ok (.invokevirtual 349, 3) := by decide +kernel
theorem dX8_beginStay_62 : decode cX8_beginStay 62 = .ok (.aload_n 0, 1) := by decide +kernel
theorem dX8_beginStay_63 : decode cX8_beginStay 63 = .ok (.getfield 23, 3) := by decide +kernel
theorem dX8_beginStay_66 : decode cX8_beginStay 66 = .ok (.iload_n 3, 1) := by decide +kernel
theorem dX8_beginStay_67 : decode cX8_beginStay 67 = .ok (.aload 4, 2) := by decide +kernel
theorem dX8_beginStay_69 : decode cX8_beginStay 69 = .ok (.aastore, 1) := by decide +kernel
theorem dX8_beginStay_70 : decode cX8_beginStay 70 = .ok (.aload_n 0, 1) := by decide +kernel
theorem dX8_beginStay_71 : decode cX8_beginStay 71 = .ok (.iload_n 3, 1) := by decide +kernel
theorem dX8_beginStay_72 : decode cX8_beginStay 72 = .ok (.iconst 1, 1) := by decide +kernel
theorem dX8_beginStay_73 : decode cX8_beginStay 73 = .ok (.iadd, 1) := by decide +kernel
theorem dX8_beginStay_74 : decode cX8_beginStay 74 = .ok (.putfield 166, 3) := by decide +kernel
theorem dX8_beginStay_77 : decode cX8_beginStay 77 = .ok (.iload_n 3, 1) := by decide +kernel
theorem dX8_beginStay_78 : decode cX8_beginStay 78 = .ok (.ireturn, 1) := by decide +kernel
theorem dX8_planFor_0 : decode cX8_planFor 0 = .ok (.aload_n 0, 1) := by decide +kernel
theorem dX8_planFor_1 : decode cX8_planFor 1 = .ok (.getfield 30, 3) := by decide +kernel
theorem dX8_planFor_4 : decode cX8_planFor 4 = .ok (.invokevirtual 352, 3) := by decide +kernel
theorem dX8_planFor_7 : decode cX8_planFor 7 = .ok (.aload_n 0, 1) := by decide +kernel
theorem dX8_planFor_8 : decode cX8_planFor 8 = .ok (.getfield 17, 3) := by decide +kernel
theorem dX8_planFor_11 : decode cX8_planFor 11 = .ok (.astore_n 2, 1) := by decide +kernel
theorem dX8_planFor_12 : decode cX8_planFor 12 = .ok (.aload_n 2, 1) := by decide +kernel
theorem dX8_planFor_13 : decode cX8_planFor 13 = .ok (.arraylength, 1) := by decide +kernel
theorem dX8_planFor_14 : decode cX8_planFor 14 = .ok (.istore_n 3, 1) := by decide +kernel
theorem dX8_planFor_15 : decode cX8_planFor 15 = .ok (.iconst 0, 1) := by decide +kernel
theorem dX8_planFor_16 : decode cX8_planFor 16 = .ok (.istore 4, 2) := by decide +kernel
theorem dX8_planFor_18 : decode cX8_planFor 18 = .ok (.iload 4, 2) := by decide +kernel
theorem dX8_planFor_20 : decode cX8_planFor 20 = .ok (.iload_n 3, 1) := by decide +kernel
theorem dX8_planFor_21 : decode cX8_planFor 21 = .ok (.if_icmp .ge 45, 3) := by decide +kernel
theorem dX8_planFor_24 : decode cX8_planFor 24 = .ok (.aload_n 2, 1) := by decide +kernel
theorem dX8_planFor_25 : decode cX8_planFor 25 = .ok (.iload 4, 2) := by decide +kernel
theorem dX8_planFor_27 : decode cX8_planFor 27 = .ok (.aaload, 1) := by decide +kernel
theorem dX8_planFor_28 : decode cX8_planFor 28 = .ok (.astore 5, 2) := by decide +kernel
theorem dX8_planFor_30 : decode cX8_planFor 30 = .ok (.aload 5, 2) := by decide +kernel
theorem dX8_planFor_32 : decode cX8_planFor 32 = .ok (.ifnull 28, 3) := by decide +kernel
theorem dX8_planFor_35 : decode cX8_planFor 35 = .ok (.aload_n 0, 1) := by decide +kernel
theorem dX8_planFor_36 : decode cX8_planFor 36 = .ok (.getfield 30, 3) := by decide +kernel
theorem dX8_planFor_39 : decode cX8_planFor 39 = .ok (.aload 5, 2) := by decide +kernel
theorem dX8_planFor_41 : decode cX8_planFor 41 = .ok (.getfield 136, 3) := by decide +kernel
theorem dX8_planFor_44 : decode cX8_planFor 44 = .ok (.aload 5, 2) := by decide +kernel
theorem dX8_planFor_46 : decode cX8_planFor 46 = .ok (.getfield 316, 3) := by decide +kernel
theorem dX8_planFor_49 : decode cX8_planFor 49 = .ok (.aload_n 0, 1) := by decide +kernel
theorem dX8_planFor_50 : decode cX8_planFor 50 = .ok (.aload 5, 2) := by decide +kernel
theorem dX8_planFor_52 : decode cX8_planFor 52 = .ok (.aconst_null, 1) := by decide +kernel
theorem dX8_planFor_53 : decode cX8_planFor 53 = .ok (.invokevirtual 312, 3) := by decide +kernel
theorem dX8_planFor_56 : decode cX8_planFor 56 = .ok (.isub, 1) := by decide +kernel
theorem dX8_planFor_57 : decode cX8_planFor 57 = .ok (.invokevirtual 355, 3) := by decide +kernel
theorem dX8_planFor_60 : decode cX8_planFor 60 = .ok (.iinc 4 1, 3) := by decide +kernel
theorem dX8_planFor_63 : decode cX8_planFor 63 = .ok (.goto (-45), 3) := by decide +kernel
theorem dX8_planFor_66 : decode cX8_planFor 66 = .ok (.aload_n 0, 1) := by decide +kernel
theorem dX8_planFor_67 : decode cX8_planFor 67 = .ok (.getfield 11, 3) := by decide +kernel
theorem dX8_planFor_70 : decode cX8_planFor 70 = .ok (.astore_n 2, 1) := by decide +kernel
theorem dX8_planFor_71 : decode cX8_planFor 71 = .ok (.aload_n 2, 1) := by decide +kernel
theorem dX8_planFor_72 : decode cX8_planFor 72 = .ok (.arraylength, 1) := by decide +kernel
theorem dX8_planFor_73 : decode cX8_planFor 73 = .ok (.istore_n 3, 1) := by decide +kernel
theorem dX8_planFor_74 : decode cX8_planFor 74 = .ok (.iconst 0, 1) := by decide +kernel
theorem dX8_planFor_75 : decode cX8_planFor 75 = .ok (.istore 4, 2) := by decide +kernel
theorem dX8_planFor_77 : decode cX8_planFor 77 = .ok (.iload 4, 2) := by decide +kernel
theorem dX8_planFor_79 : decode cX8_planFor 79 = .ok (.iload_n 3, 1) := by decide +kernel
theorem dX8_planFor_80 : decode cX8_planFor 80 = .ok (.if_icmp .ge 55, 3) := by decide +kernel
theorem dX8_planFor_83 : decode cX8_planFor 83 = .ok (.aload_n 2, 1) := by decide +kernel
theorem dX8_planFor_84 : decode cX8_planFor 84 = .ok (.iload 4, 2) := by decide +kernel
theorem dX8_planFor_86 : decode cX8_planFor 86 = .ok (.aaload, 1) := by decide +kernel
theorem dX8_planFor_87 : decode cX8_planFor 87 = .ok (.astore 5, 2) := by decide +kernel
theorem dX8_planFor_89 : decode cX8_planFor 89 = .ok (.aload 5, 2) := by decide +kernel
theorem dX8_planFor_91 : decode cX8_planFor 91 = .ok (.ifnull 38, 3) := by decide +kernel
theorem dX8_planFor_94 : decode cX8_planFor 94 = .ok (.aload 5, 2) := by decide +kernel
theorem dX8_planFor_96 : decode cX8_planFor 96 = .ok (.getfield 338, 3) := by decide +kernel
theorem dX8_planFor_99 : decode cX8_planFor 99 = .ok (.iload_n 1, 1) := by decide +kernel
theorem dX8_planFor_100 : decode cX8_planFor 100 = .ok (.if_icmp .ne 29, 3) := by decide +kernel
theorem dX8_planFor_103 : decode cX8_planFor 103 = .ok (.aload 5, 2) := by decide +kernel
theorem dX8_planFor_105 : decode cX8_planFor 105 = .ok (.getfield 186, 3) := by decide +kernel
theorem dX8_planFor_108 : decode cX8_planFor 108 = .ok (.ifnonnull 21, 3) := by decide +kernel
theorem dX8_planFor_111 : decode cX8_planFor 111 = .ok (.aload 5, 2) := by decide +kernel
theorem dX8_planFor_113 : decode cX8_planFor 113 = .ok (.aload_n 0, 1) := by decide +kernel
theorem dX8_planFor_114 : decode cX8_planFor 114 = .ok (.getfield 53, 3) := by decide +kernel
theorem dX8_planFor_117 : decode cX8_planFor 117 = .ok (.invokevirtual 285, 3) := by decide +kernel
theorem dX8_planFor_120 : decode cX8_planFor 120 = .ok (.ifCond .ne 9, 3) := by decide +kernel
theorem dX8_planFor_123 : decode cX8_planFor 123 = .ok (.aload_n 0, 1) := by decide +kernel
theorem dX8_planFor_124 : decode cX8_planFor 124 = .ok (.aload 5, 2) := by decide +kernel
theorem dX8_planFor_126 : decode cX8_planFor 126 = .ok (.invokevirtual 359, 3) := by decide +kernel
theorem dX8_planFor_129 : decode cX8_planFor 129 = .ok (.iinc 4 1, 3) := by decide +kernel
theorem dX8_planFor_132 : decode cX8_planFor 132 = .ok (.goto (-55), 3) := by decide +kernel
theorem dX8_planFor_135 : decode cX8_planFor 135 = .ok (.return_, 1) := by decide +kernel
theorem dX8_planChild_0 : decode cX8_planChild 0 = .ok (.aload_n 0, 1) := by decide +kernel
theorem dX8_planChild_1 : decode cX8_planChild 1 = .ok (.getfield 30, 3) := by decide +kernel
theorem dX8_planChild_4 : decode cX8_planChild 4 = .ok (.aload_n 1, 1) := by decide +kernel
theorem dX8_planChild_5 : decode cX8_planChild 5 = .ok (.invokevirtual 363, 3) := by decide +kernel
theorem dX8_planChild_8 : decode cX8_planChild 8 = .ok (.istore_n 2, 1) := by decide +kernel
theorem dX8_planChild_9 : decode cX8_planChild 9 = .ok (.iload_n 2, 1) := by decide +kernel
theorem dX8_planChild_10 : decode cX8_planChild 10 = .ok (.iconst (-1), 1) := by decide +kernel
theorem dX8_planChild_11 : decode cX8_planChild 11 = .ok (.if_icmp .ne 14, 3) := by decide +kernel
theorem dX8_planChild_14 : decode cX8_planChild 14 = .ok (.new 46, 3) := by decide +kernel
theorem dX8_planChild_17 : decode cX8_planChild 17 = .ok (.dup, 1) := by decide +kernel
theorem dX8_planChild_18 : decode cX8_planChild 18 = .ok (.ldc_w 367, 3) := by decide +kernel
theorem dX8_planChild_21 : decode cX8_planChild 21 = .ok (.invokespecial 50, 3) := by decide +kernel
theorem dX8_planChild_24 : decode cX8_planChild 24 = .ok (.athrow, 1) := by decide +kernel
theorem dX8_planChild_25 : decode cX8_planChild 25 = .ok (.aload_n 0, 1) := by decide +kernel
theorem dX8_planChild_26 : decode cX8_planChild 26 = .ok (.getfield 17, 3) := by decide +kernel
theorem dX8_planChild_29 : decode cX8_planChild 29 = .ok (.astore_n 3, 1) := by decide +kernel
theorem dX8_planChild_30 : decode cX8_planChild 30 = .ok (.aload_n 3, 1) := by decide +kernel
theorem dX8_planChild_31 : decode cX8_planChild 31 = .ok (.arraylength, 1) := by decide +kernel
theorem dX8_planChild_32 : decode cX8_planChild 32 = .ok (.istore 4, 2) := by decide +kernel
theorem dX8_planChild_34 : decode cX8_planChild 34 = .ok (.iconst 0, 1) := by decide +kernel
theorem dX8_planChild_35 : decode cX8_planChild 35 = .ok (.istore 5, 2) := by decide +kernel
theorem dX8_planChild_37 : decode cX8_planChild 37 = .ok (.iload 5, 2) := by decide +kernel
theorem dX8_planChild_39 : decode cX8_planChild 39 = .ok (.iload 4, 2) := by decide +kernel
theorem dX8_planChild_41 : decode cX8_planChild 41 = .ok (.if_icmp .ge 65, 3) := by decide +kernel
theorem dX8_planChild_44 : decode cX8_planChild 44 = .ok (.aload_n 3, 1) := by decide +kernel
theorem dX8_planChild_45 : decode cX8_planChild 45 = .ok (.iload 5, 2) := by decide +kernel
theorem dX8_planChild_47 : decode cX8_planChild 47 = .ok (.aaload, 1) := by decide +kernel
theorem dX8_planChild_48 : decode cX8_planChild 48 = .ok (.astore 6, 2) := by decide +kernel
theorem dX8_planChild_50 : decode cX8_planChild 50 = .ok (.aload 6, 2) := by decide +kernel
theorem dX8_planChild_52 : decode cX8_planChild 52 = .ok (.ifnull 48, 3) := by decide +kernel
theorem dX8_planChild_55 : decode cX8_planChild 55 = .ok (.aload_n 1, 1) := by decide +kernel
theorem dX8_planChild_56 : decode cX8_planChild 56 = .ok (.aload 6, 2) := by decide +kernel
theorem dX8_planChild_58 : decode cX8_planChild 58 = .ok (.aload_n 0, 1) := by decide +kernel
theorem dX8_planChild_59 : decode cX8_planChild 59 = .ok (.getfield 53, 3) := by decide +kernel
theorem dX8_planChild_62 : decode cX8_planChild 62 = .ok (.invokestatic 261, 3) := by decide +kernel
theorem dX8_planChild_65 : decode cX8_planChild 65 = .ok (.ifCond .ne 35, 3) := by decide +kernel
theorem dX8_planChild_68 : decode cX8_planChild 68 = .ok (.aload_n 1, 1) := by decide +kernel
theorem dX8_planChild_69 : decode cX8_planChild 69 = .ok (.aload 6, 2) := by decide +kernel
theorem dX8_planChild_71 : decode cX8_planChild 71 = .ok (.getfield 136, 3) := by decide +kernel
theorem dX8_planChild_74 : decode cX8_planChild 74 = .ok (.invokevirtual 319, 3) := by decide +kernel
theorem dX8_planChild_77 : decode cX8_planChild 77 = .ok (.ifCond .ne 23, 3) := by decide +kernel
theorem dX8_planChild_80 : decode cX8_planChild 80 = .ok (.aload_n 0, 1) := by decide +kernel
theorem dX8_planChild_81 : decode cX8_planChild 81 = .ok (.getfield 30, 3) := by decide +kernel
theorem dX8_planChild_84 : decode cX8_planChild 84 = .ok (.iload_n 2, 1) := by decide +kernel
theorem dX8_planChild_85 : decode cX8_planChild 85 = .ok (.aload 6, 2) := by decide +kernel
theorem dX8_planChild_87 : decode cX8_planChild 87 = .ok (.getfield 136, 3) := by decide +kernel
theorem dX8_planChild_90 : decode cX8_planChild 90 = .ok (.aload_n 0, 1) := by decide +kernel
theorem dX8_planChild_91 : decode cX8_planChild 91 = .ok (.aload_n 1, 1) := by decide +kernel
theorem dX8_planChild_92 : decode cX8_planChild 92 = .ok (.aload 6, 2) := by decide +kernel
theorem dX8_planChild_94 : decode cX8_planChild 94 = .ok (.invokevirtual 147, 3) := by decide +kernel
theorem dX8_planChild_97 : decode cX8_planChild 97 = .ok (.invokevirtual 369, 3) := by decide +kernel
theorem dX8_planChild_100 : decode cX8_planChild 100 = .ok (.iinc 5 1, 3) := by decide +kernel
theorem dX8_planChild_103 : decode cX8_planChild 103 = .ok (.goto (-66), 3) := by decide +kernel
theorem dX8_planChild_106 : decode cX8_planChild 106 = .ok (.return_, 1) := by decide +kernel
theorem dX8_owedTo_0 : decode cX8_owedTo 0 = .ok (.aload_n 1, 1) := by decide +kernel
theorem dX8_owedTo_1 : decode cX8_owedTo 1 = .ok (.getfield 197, 3) := by decide +kernel
theorem dX8_owedTo_4 : decode cX8_owedTo 4 = .ok (.ineg, 1) := by decide +kernel
theorem dX8_owedTo_5 : decode cX8_owedTo 5 = .ok (.istore_n 2, 1) := by decide +kernel
theorem dX8_owedTo_6 : decode cX8_owedTo 6 = .ok (.aload_n 0, 1) := by decide +kernel
theorem dX8_owedTo_7 : decode cX8_owedTo 7 = .ok (.getfield 23, 3) := by decide +kernel
theorem dX8_owedTo_10 : decode cX8_owedTo 10 = .ok (.astore_n 3, 1) := by decide +kernel
theorem dX8_owedTo_11 : decode cX8_owedTo 11 = .ok (.aload_n 3, 1) := by decide +kernel
theorem dX8_owedTo_12 : decode cX8_owedTo 12 = .ok (.arraylength, 1) := by decide +kernel
theorem dX8_owedTo_13 : decode cX8_owedTo 13 = .ok (.istore 4, 2) := by decide +kernel
theorem dX8_owedTo_15 : decode cX8_owedTo 15 = .ok (.iconst 0, 1) := by decide +kernel
theorem dX8_owedTo_16 : decode cX8_owedTo 16 = .ok (.istore 5, 2) := by decide +kernel
theorem dX8_owedTo_18 : decode cX8_owedTo 18 = .ok (.iload 5, 2) := by decide +kernel
theorem dX8_owedTo_20 : decode cX8_owedTo 20 = .ok (.iload 4, 2) := by decide +kernel
theorem dX8_owedTo_22 : decode cX8_owedTo 22 = .ok (.if_icmp .ge 41, 3) := by decide +kernel
theorem dX8_owedTo_25 : decode cX8_owedTo 25 = .ok (.aload_n 3, 1) := by decide +kernel
theorem dX8_owedTo_26 : decode cX8_owedTo 26 = .ok (.iload 5, 2) := by decide +kernel
theorem dX8_owedTo_28 : decode cX8_owedTo 28 = .ok (.aaload, 1) := by decide +kernel
theorem dX8_owedTo_29 : decode cX8_owedTo 29 = .ok (.astore 6, 2) := by decide +kernel
theorem dX8_owedTo_31 : decode cX8_owedTo 31 = .ok (.aload 6, 2) := by decide +kernel
theorem dX8_owedTo_33 : decode cX8_owedTo 33 = .ok (.ifnull 24, 3) := by decide +kernel
theorem dX8_owedTo_36 : decode cX8_owedTo 36 = .ok (.aload 6, 2) := by decide +kernel
theorem dX8_owedTo_38 : decode cX8_owedTo 38 = .ok (.getfield 218, 3) := by decide +kernel
theorem dX8_owedTo_41 : decode cX8_owedTo 41 = .ok (.aload_n 1, 1) := by decide +kernel
theorem dX8_owedTo_42 : decode cX8_owedTo 42 = .ok (.if_acmp .ne 15, 3) := by decide +kernel
theorem dX8_owedTo_45 : decode cX8_owedTo 45 = .ok (.iload_n 2, 1) := by decide +kernel
theorem dX8_owedTo_46 : decode cX8_owedTo 46 = .ok (.aload 6, 2) := by decide +kernel
theorem dX8_owedTo_48 : decode cX8_owedTo 48 = .ok (.aload_n 0, 1) := by decide +kernel
theorem dX8_owedTo_49 : decode cX8_owedTo 49 = .ok (.getfield 53, 3) := by decide +kernel
theorem dX8_owedTo_52 : decode cX8_owedTo 52 = .ok (.invokevirtual 372, 3) := by decide +kernel
theorem dX8_owedTo_55 : decode cX8_owedTo 55 = .ok (.iadd, 1) := by decide +kernel
theorem dX8_owedTo_56 : decode cX8_owedTo 56 = .ok (.istore_n 2, 1) := by decide +kernel
theorem dX8_owedTo_57 : decode cX8_owedTo 57 = .ok (.iinc 5 1, 3) := by decide +kernel
theorem dX8_owedTo_60 : decode cX8_owedTo 60 = .ok (.goto (-42), 3) := by decide +kernel
theorem dX8_owedTo_63 : decode cX8_owedTo 63 = .ok (.iload_n 2, 1) := by decide +kernel
theorem dX8_owedTo_64 : decode cX8_owedTo 64 = .ok (.ireturn, 1) := by decide +kernel
theorem dX8_loadOf_0 : decode cX8_loadOf 0 = .ok (.iconst 0, 1) := by decide +kernel
theorem dX8_loadOf_1 : decode cX8_loadOf 1 = .ok (.istore_n 2, 1) := by decide +kernel
theorem dX8_loadOf_2 : decode cX8_loadOf 2 = .ok (.aload_n 0, 1) := by decide +kernel
theorem dX8_loadOf_3 : decode cX8_loadOf 3 = .ok (.getfield 11, 3) := by decide +kernel
theorem dX8_loadOf_6 : decode cX8_loadOf 6 = .ok (.astore_n 3, 1) := by decide +kernel
theorem dX8_loadOf_7 : decode cX8_loadOf 7 = .ok (.aload_n 3, 1) := by decide +kernel
theorem dX8_loadOf_8 : decode cX8_loadOf 8 = .ok (.arraylength, 1) := by decide +kernel
theorem dX8_loadOf_9 : decode cX8_loadOf 9 = .ok (.istore 4, 2) := by decide +kernel
theorem dX8_loadOf_11 : decode cX8_loadOf 11 = .ok (.iconst 0, 1) := by decide +kernel
theorem dX8_loadOf_12 : decode cX8_loadOf 12 = .ok (.istore 5, 2) := by decide +kernel
theorem dX8_loadOf_14 : decode cX8_loadOf 14 = .ok (.iload 5, 2) := by decide +kernel
theorem dX8_loadOf_16 : decode cX8_loadOf 16 = .ok (.iload 4, 2) := by decide +kernel
theorem dX8_loadOf_18 : decode cX8_loadOf 18 = .ok (.if_icmp .ge 56, 3) := by decide +kernel
theorem dX8_loadOf_21 : decode cX8_loadOf 21 = .ok (.aload_n 3, 1) := by decide +kernel
theorem dX8_loadOf_22 : decode cX8_loadOf 22 = .ok (.iload 5, 2) := by decide +kernel
theorem dX8_loadOf_24 : decode cX8_loadOf 24 = .ok (.aaload, 1) := by decide +kernel
theorem dX8_loadOf_25 : decode cX8_loadOf 25 = .ok (.astore 6, 2) := by decide +kernel
theorem dX8_loadOf_27 : decode cX8_loadOf 27 = .ok (.aload 6, 2) := by decide +kernel
theorem dX8_loadOf_29 : decode cX8_loadOf 29 = .ok (.ifnull 39, 3) := by decide +kernel
theorem dX8_loadOf_32 : decode cX8_loadOf 32 = .ok (.aload 6, 2) := by decide +kernel
theorem dX8_loadOf_34 : decode cX8_loadOf 34 = .ok (.getfield 207, 3) := by decide +kernel
theorem dX8_loadOf_37 : decode cX8_loadOf 37 = .ok (.iload_n 1, 1) := by decide +kernel
theorem dX8_loadOf_38 : decode cX8_loadOf 38 = .ok (.if_icmp .ne 30, 3) := by decide +kernel
theorem dX8_loadOf_41 : decode cX8_loadOf 41 = .ok (.iload_n 2, 1) := by decide +kernel
theorem dX8_loadOf_42 : decode cX8_loadOf 42 = .ok (.iconst 2, 1) := by decide +kernel
theorem dX8_loadOf_43 : decode cX8_loadOf 43 = .ok (.aload 6, 2) := by decide +kernel
theorem dX8_loadOf_45 : decode cX8_loadOf 45 = .ok (.getfield 186, 3) := by decide +kernel
theorem dX8_loadOf_48 : decode cX8_loadOf 48 = .ok (.ifnull 7, 3) := by decide +kernel
theorem dX8_loadOf_51 : decode cX8_loadOf 51 = .ok (.iconst 3, 1) := by decide +kernel
theorem dX8_loadOf_52 : decode cX8_loadOf 52 = .ok (.goto 4, 3) := by decide +kernel
theorem dX8_loadOf_55 : decode cX8_loadOf 55 = .ok (.iconst 0, 1) := by decide +kernel
theorem dX8_loadOf_56 : decode cX8_loadOf 56 = .ok (.iadd, 1) := by decide +kernel
theorem dX8_loadOf_57 : decode cX8_loadOf 57 = .ok (.aload 6, 2) := by decide +kernel
theorem dX8_loadOf_59 : decode cX8_loadOf 59 = .ok (.getfield 302, 3) := by decide +kernel
theorem dX8_loadOf_62 : decode cX8_loadOf 62 = .ok (.invokestatic 375, 3) := by decide +kernel
theorem dX8_loadOf_65 : decode cX8_loadOf 65 = .ok (.iadd, 1) := by decide +kernel
theorem dX8_loadOf_66 : decode cX8_loadOf 66 = .ok (.iadd, 1) := by decide +kernel
theorem dX8_loadOf_67 : decode cX8_loadOf 67 = .ok (.istore_n 2, 1) := by decide +kernel
theorem dX8_loadOf_68 : decode cX8_loadOf 68 = .ok (.iinc 5 1, 3) := by decide +kernel
theorem dX8_loadOf_71 : decode cX8_loadOf 71 = .ok (.goto (-57), 3) := by decide +kernel
theorem dX8_loadOf_74 : decode cX8_loadOf 74 = .ok (.iload_n 2, 1) := by decide +kernel
theorem dX8_loadOf_75 : decode cX8_loadOf 75 = .ok (.ireturn, 1) := by decide +kernel
theorem dX8_leastLoadedWorker_0 : decode cX8_leastLoadedWorker 0 = .ok (.iconst 0, 1) := by decide +kernel
theorem dX8_leastLoadedWorker_1 : decode cX8_leastLoadedWorker 1 = .ok (.istore_n 1, 1) := by decide +kernel
theorem dX8_leastLoadedWorker_2 : decode cX8_leastLoadedWorker 2 = .ok (.aload_n 0, 1) := by decide +kernel
theorem dX8_leastLoadedWorker_3 : decode cX8_leastLoadedWorker 3 = .ok (.iconst 0, 1) := by decide +kernel
theorem dX8_leastLoadedWorker_4 : decode cX8_leastLoadedWorker 4 = .ok (.invokevirtual 210, 3) := by decide +kernel
theorem dX8_leastLoadedWorker_7 : decode cX8_leastLoadedWorker 7 = .ok (.istore_n 2, 1) := by decide +kernel
theorem dX8_leastLoadedWorker_8 : decode cX8_leastLoadedWorker 8 = .ok (.iconst 1, 1) := by decide +kernel
theorem dX8_leastLoadedWorker_9 : decode cX8_leastLoadedWorker 9 = .ok (.istore_n 3, 1) := by decide +kernel
theorem dX8_leastLoadedWorker_10 : decode cX8_leastLoadedWorker 10 = .ok (.iload_n 3, 1) := by decide +kernel
theorem dX8_leastLoadedWorker_11 : decode cX8_leastLoadedWorker 11 = .ok (.iconst 5, 1) := by decide +kernel
theorem dX8_leastLoadedWorker_12 : decode cX8_leastLoadedWorker 12 = .ok (.if_icmp .ge 27, 3) := by decide +kernel
theorem dX8_leastLoadedWorker_15 : decode cX8_leastLoadedWorker 15 = .ok (.aload_n 0, 1) := by decide +kernel
theorem dX8_leastLoadedWorker_16 : decode cX8_leastLoadedWorker 16 = .ok (.iload_n 3, 1) := by decide +kernel
theorem dX8_leastLoadedWorker_17 : decode cX8_leastLoadedWorker 17 = .ok (.invokevirtual 210, 3) := by decide +kernel
theorem dX8_leastLoadedWorker_20 : decode cX8_leastLoadedWorker 20 = .ok (.istore 4, 2) := by decide +kernel
theorem dX8_leastLoadedWorker_22 : decode cX8_leastLoadedWorker 22 = .ok (.iload 4, 2) := by decide +kernel
theorem dX8_leastLoadedWorker_24 : decode cX8_leastLoadedWorker 24 = .ok (.iload_n 2, 1) := by decide +kernel
theorem dX8_leastLoadedWorker_25 : decode cX8_leastLoadedWorker 25 = .ok (.if_icmp .ge 8, 3) := by decide +kernel
theorem dX8_leastLoadedWorker_28 : decode cX8_leastLoadedWorker 28 = .ok (.iload_n 3, 1) := by decide +kernel
theorem dX8_leastLoadedWorker_29 : decode cX8_leastLoadedWorker 29 = .ok (.istore_n 1, 1) := by decide +kernel
theorem dX8_leastLoadedWorker_30 : decode cX8_leastLoadedWorker 30 = .ok (.iload 4, 2) := by decide +kernel
theorem dX8_leastLoadedWorker_32 : decode cX8_leastLoadedWorker 32 = .ok (.istore_n 2, 1) := by decide +kernel
theorem dX8_leastLoadedWorker_33 : decode cX8_leastLoadedWorker 33 = .ok (.iinc 3 1, 3) := by decide +kernel
theorem dX8_leastLoadedWorker_36 : decode cX8_leastLoadedWorker 36 = .ok (.goto (-26), 3) := by decide +kernel
theorem dX8_leastLoadedWorker_39 : decode cX8_leastLoadedWorker 39 = .ok (.iload_n 1, 1) := by decide +kernel
theorem dX8_leastLoadedWorker_40 : decode cX8_leastLoadedWorker 40 = .ok (.ireturn, 1) := by decide +kernel
theorem dJ6_bitCount_0f7a4_0 : decode cJ6_bitCount_0f7a4 0 = .ok (.iload_n 0, 1) := by decide +kernel
theorem dJ6_bitCount_0f7a4_1 : decode cJ6_bitCount_0f7a4 1 = .ok (.iload_n 0, 1) := by decide +kernel
theorem dJ6_bitCount_0f7a4_2 : decode cJ6_bitCount_0f7a4 2 = .ok (.iconst 1, 1) := by decide +kernel
theorem dJ6_bitCount_0f7a4_3 : decode cJ6_bitCount_0f7a4 3 = .ok (.iushr, 1) := by decide +kernel
theorem dJ6_bitCount_0f7a4_4 : decode cJ6_bitCount_0f7a4 4 = .ok (.ldc_w 265, 3) := by decide +kernel
theorem dJ6_bitCount_0f7a4_7 : decode cJ6_bitCount_0f7a4 7 = .ok (.iand, 1) := by decide +kernel
theorem dJ6_bitCount_0f7a4_8 : decode cJ6_bitCount_0f7a4 8 = .ok (.isub, 1) := by decide +kernel
theorem dJ6_bitCount_0f7a4_9 : decode cJ6_bitCount_0f7a4 9 = .ok (.istore_n 0, 1) := by decide +kernel
theorem dJ6_bitCount_0f7a4_10 : decode cJ6_bitCount_0f7a4 10 = .ok (.iload_n 0, 1) := by decide +kernel
theorem dJ6_bitCount_0f7a4_11 : decode cJ6_bitCount_0f7a4 11 = .ok (.ldc_w 266, 3) := by decide +kernel
theorem dJ6_bitCount_0f7a4_14 : decode cJ6_bitCount_0f7a4 14 = .ok (.iand, 1) := by decide +kernel
theorem dJ6_bitCount_0f7a4_15 : decode cJ6_bitCount_0f7a4 15 = .ok (.iload_n 0, 1) := by decide +kernel
theorem dJ6_bitCount_0f7a4_16 : decode cJ6_bitCount_0f7a4 16 = .ok (.iconst 2, 1) := by decide +kernel
theorem dJ6_bitCount_0f7a4_17 : decode cJ6_bitCount_0f7a4 17 = .ok (.iushr, 1) := by decide +kernel
theorem dJ6_bitCount_0f7a4_18 : decode cJ6_bitCount_0f7a4 18 = .ok (.ldc_w 266, 3) := by decide +kernel
theorem dJ6_bitCount_0f7a4_21 : decode cJ6_bitCount_0f7a4 21 = .ok (.iand, 1) := by decide +kernel
theorem dJ6_bitCount_0f7a4_22 : decode cJ6_bitCount_0f7a4 22 = .ok (.iadd, 1) := by decide +kernel
theorem dJ6_bitCount_0f7a4_23 : decode cJ6_bitCount_0f7a4 23 = .ok (.istore_n 0, 1) := by decide +kernel
theorem dJ6_bitCount_0f7a4_24 : decode cJ6_bitCount_0f7a4 24 = .ok (.iload_n 0, 1) := by decide +kernel
theorem dJ6_bitCount_0f7a4_25 : decode cJ6_bitCount_0f7a4 25 = .ok (.iload_n 0, 1) := by decide +kernel
theorem dJ6_bitCount_0f7a4_26 : decode cJ6_bitCount_0f7a4 26 = .ok (.iconst 4, 1) := by decide +kernel
theorem dJ6_bitCount_0f7a4_27 : decode cJ6_bitCount_0f7a4 27 = .ok (.iushr, 1) := by decide +kernel
theorem dJ6_bitCount_0f7a4_28 : decode cJ6_bitCount_0f7a4 28 = .ok (.iadd, 1) := by decide +kernel
theorem dJ6_bitCount_0f7a4_29 : decode cJ6_bitCount_0f7a4 29 = .ok (.ldc_w 267, 3) := by decide +kernel
theorem dJ6_bitCount_0f7a4_32 : decode cJ6_bitCount_0f7a4 32 = .ok (.iand, 1) := by decide +kernel
theorem dJ6_bitCount_0f7a4_33 : decode cJ6_bitCount_0f7a4 33 = .ok (.istore_n 0, 1) := by decide +kernel
theorem dJ6_bitCount_0f7a4_34 : decode cJ6_bitCount_0f7a4 34 = .ok (.iload_n 0, 1) := by decide +kernel
theorem dJ6_bitCount_0f7a4_35 : decode cJ6_bitCount_0f7a4 35 = .ok (.iload_n 0, 1) := by decide +kernel
theorem dJ6_bitCount_0f7a4_36 : decode cJ6_bitCount_0f7a4 36 = .ok (.bipush 8, 2) := by decide +kernel
theorem dJ6_bitCount_0f7a4_38 : decode cJ6_bitCount_0f7a4 38 = .ok (.iushr, 1) := by decide +kernel
theorem dJ6_bitCount_0f7a4_39 : decode cJ6_bitCount_0f7a4 39 = .ok (.iadd, 1) := by decide +kernel
theorem dJ6_bitCount_0f7a4_40 : decode cJ6_bitCount_0f7a4 40 = .ok (.istore_n 0, 1) := by decide +kernel
theorem dJ6_bitCount_0f7a4_41 : decode cJ6_bitCount_0f7a4 41 = .ok (.iload_n 0, 1) := by decide +kernel
theorem dJ6_bitCount_0f7a4_42 : decode cJ6_bitCount_0f7a4 42 = .ok (.iload_n 0, 1) := by decide +kernel
theorem dJ6_bitCount_0f7a4_43 : decode cJ6_bitCount_0f7a4 43 = .ok (.bipush 16, 2) := by decide +kernel
theorem dJ6_bitCount_0f7a4_45 : decode cJ6_bitCount_0f7a4 45 = .ok (.iushr, 1) := by decide +kernel
theorem dJ6_bitCount_0f7a4_46 : decode cJ6_bitCount_0f7a4 46 = .ok (.iadd, 1) := by decide +kernel
theorem dJ6_bitCount_0f7a4_47 : decode cJ6_bitCount_0f7a4 47 = .ok (.istore_n 0, 1) := by decide +kernel
theorem dJ6_bitCount_0f7a4_48 : decode cJ6_bitCount_0f7a4 48 = .ok (.iload_n 0, 1) := by decide +kernel
theorem dJ6_bitCount_0f7a4_49 : decode cJ6_bitCount_0f7a4 49 = .ok (.bipush 63, 2) := by decide +kernel
theorem dJ6_bitCount_0f7a4_51 : decode cJ6_bitCount_0f7a4 51 = .ok (.iand, 1) := by decide +kernel
theorem dJ6_bitCount_0f7a4_52 : decode cJ6_bitCount_0f7a4 52 = .ok (.ireturn, 1) := by decide +kernel
theorem dJ9_abs_0f7a4_0 : decode cJ9_abs_0f7a4 0 = .ok (.iload_n 0, 1) := by decide +kernel
theorem dJ9_abs_0f7a4_1 : decode cJ9_abs_0f7a4 1 = .ok (.ifCond .ge 8, 3) := by decide +kernel
theorem dJ9_abs_0f7a4_4 : decode cJ9_abs_0f7a4 4 = .ok (.iload_n 0, 1) := by decide +kernel
theorem dJ9_abs_0f7a4_5 : decode cJ9_abs_0f7a4 5 = .ok (.ineg, 1) := by decide +kernel
theorem dJ9_abs_0f7a4_6 : decode cJ9_abs_0f7a4 6 = .ok (.goto 4, 3) := by decide +kernel
theorem dJ9_abs_0f7a4_9 : decode cJ9_abs_0f7a4 9 = .ok (.iload_n 0, 1) := by decide +kernel
theorem dJ9_abs_0f7a4_10 : decode cJ9_abs_0f7a4 10 = .ok (.ireturn, 1) := by decide +kernel
theorem dJ9_max_7cf53_0 : decode cJ9_max_7cf53 0 = .ok (.iload_n 0, 1) := by decide +kernel
theorem dJ9_max_7cf53_1 : decode cJ9_max_7cf53 1 = .ok (.iload_n 1, 1) := by decide +kernel
theorem dJ9_max_7cf53_2 : decode cJ9_max_7cf53 2 = .ok (.if_icmp .lt 7, 3) := by decide +kernel
theorem dJ9_max_7cf53_5 : decode cJ9_max_7cf53 5 = .ok (.iload_n 0, 1) := by decide +kernel
theorem dJ9_max_7cf53_6 : decode cJ9_max_7cf53 6 = .ok (.goto 4, 3) := by decide +kernel
theorem dJ9_max_7cf53_9 : decode cJ9_max_7cf53 9 = .ok (.iload_n 1, 1) := by decide +kernel
theorem dJ9_max_7cf53_10 : decode cJ9_max_7cf53 10 = .ok (.ireturn, 1) := by decide +kernel
theorem dJ9_min_7cf53_0 : decode cJ9_min_7cf53 0 = .ok (.iload_n 0, 1) := by decide +kernel
theorem dJ9_min_7cf53_1 : decode cJ9_min_7cf53 1 = .ok (.iload_n 1, 1) := by decide +kernel
theorem dJ9_min_7cf53_2 : decode cJ9_min_7cf53 2 = .ok (.if_icmp .gt 7, 3) := by decide +kernel
theorem dJ9_min_7cf53_5 : decode cJ9_min_7cf53 5 = .ok (.iload_n 0, 1) := by decide +kernel
theorem dJ9_min_7cf53_6 : decode cJ9_min_7cf53 6 = .ok (.goto 4, 3) := by decide +kernel
theorem dJ9_min_7cf53_9 : decode cJ9_min_7cf53 9 = .ok (.iload_n 1, 1) := by decide +kernel
theorem dJ9_min_7cf53_10 : decode cJ9_min_7cf53 10 = .ok (.ireturn, 1) := by decide +kernel
