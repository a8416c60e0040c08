theorem dL_child_0 : decode cL_child 0 = .ok (.aload 6, 2) := by decide +kernel
theorem dL_child_2 : decode cL_child 2 = .ok (.iconst 0, 1) := by decide +kernel
theorem dL_child_3 : decode cL_child 3 = .ok (.aload_n 0, 1) := by decide +kernel
theorem dL_child_4 : decode cL_child 4 = .ok (.iload_n 1, 1) := by decide +kernel
theorem dL_child_5 : decode cL_child 5 = .ok (.iload_n 2, 1) := by decide +kernel
theorem dL_child_6 : decode cL_child 6 = .ok (.iload_n 3, 1) := by decide +kernel
theorem dL_child_7 : decode cL_child 7 = .ok (.iload 4, 2) := by decide +kernel
theorem dL_child_9 : decode cL_child 9 = .ok (.iload 5, 2) := by decide +kernel
theorem dL_child_11 : decode cL_child 11 = .ok (.invokevirtual 7, 3) := by decide +kernel
theorem dL_child_14 : decode cL_child 14 = .ok (.i2l, 1) := by decide +kernel
theorem dL_child_15 : decode cL_child 15 = .ok (.lastore, 1) := by decide +kernel
theorem dL_child_16 : decode cL_child 16 = .ok (.goto 11, 3) := by decide +kernel
theorem dL_child_19 : decode cL_child 19 = .ok (.astore 7, 2) := by decide +kernel
theorem dL_child_21 : decode cL_child 21 = .ok (.iconst 1, 1) := by decide +kernel
theorem dL_child_22 : decode cL_child 22 = .ok (.ireturn, 1) := by decide +kernel
theorem dL_child_23 : decode cL_child 23 = .ok (.astore 7, 2) := by decide +kernel
theorem dL_child_25 : decode cL_child 25 = .ok (.iconst 2, 1) := by decide +kernel
theorem dL_child_26 : decode cL_child 26 = .ok (.ireturn, 1) := by decide +kernel
theorem dL_child_27 : decode cL_child 27 = .ok (.iconst 0, 1) := by decide +kernel
theorem dL_child_28 : decode cL_child 28 = .ok (.ireturn, 1) := by decide +kernel
theorem dL_home_0 : decode cL_home 0 = .ok (.aload 4, 2) := by decide +kernel
theorem dL_home_2 : decode cL_home 2 = .ok (.iconst 0, 1) := by decide +kernel
theorem dL_home_3 : decode cL_home 3 = .ok (.aload_n 0, 1) := by decide +kernel
theorem dL_home_4 : decode cL_home 4 = .ok (.iload_n 1, 1) := by decide +kernel
theorem dL_home_5 : decode cL_home 5 = .ok (.iload_n 2, 1) := by decide +kernel
theorem dL_home_6 : decode cL_home 6 = .ok (.iload_n 3, 1) := by decide +kernel
theorem dL_home_7 : decode cL_home 7 = .ok (.invokevirtual 17, 3) := by decide +kernel
theorem dL_home_10 : decode cL_home 10 = .ok (.i2l, 1) := by decide +kernel
theorem dL_home_11 : decode cL_home 11 = .ok (.lastore, 1) := by decide +kernel
theorem dL_home_12 : decode cL_home 12 = .ok (.goto 11, 3) := by decide +kernel
theorem dL_home_15 : decode cL_home 15 = .ok (.astore 5, 2) := by decide +kernel
theorem dL_home_17 : decode cL_home 17 = .ok (.iconst 1, 1) := by decide +kernel
theorem dL_home_18 : decode cL_home 18 = .ok (.ireturn, 1) := by decide +kernel
theorem dL_home_19 : decode cL_home 19 = .ok (.astore 5, 2) := by decide +kernel
theorem dL_home_21 : decode cL_home 21 = .ok (.iconst 2, 1) := by decide +kernel
theorem dL_home_22 : decode cL_home 22 = .ok (.ireturn, 1) := by decide +kernel
theorem dL_home_23 : decode cL_home 23 = .ok (.iconst 0, 1) := by decide +kernel
theorem dL_home_24 : decode cL_home 24 = .ok (.ireturn, 1) := by decide +kernel
theorem dL_approve_0 : decode cL_approve 0 = .ok (.aload_n 0, 1) := by decide +kernel
theorem dL_approve_1 : decode cL_approve 1 = .ok (.iload_n 1, 1) := by decide +kernel
theorem dL_approve_2 : decode cL_approve 2 = .ok (.iload_n 2, 1) := by decide +kernel
theorem dL_approve_3 : decode cL_approve 3 = .ok (.iload_n 3, 1) := by decide +kernel
theorem dL_approve_4 : decode cL_approve 4 = .ok (.iload 4, 2) := by decide +kernel
theorem dL_approve_6 : decode cL_approve 6 = .ok (.invokevirtual 21, 3) := by decide +kernel
theorem dL_approve_9 : decode cL_approve 9 = .ok (.goto 11, 3) := by decide +kernel
theorem dL_approve_12 : decode cL_approve 12 = .ok (.astore 5, 2) := by decide +kernel
theorem dL_approve_14 : decode cL_approve 14 = .ok (.iconst 1, 1) := by decide +kernel
theorem dL_approve_15 : decode cL_approve 15 = .ok (.ireturn, 1) := by decide +kernel
theorem dL_approve_16 : decode cL_approve 16 = .ok (.astore 5, 2) := by decide +kernel
theorem dL_approve_18 : decode cL_approve 18 = .ok (.iconst 2, 1) := by decide +kernel
theorem dL_approve_19 : decode cL_approve 19 = .ok (.ireturn, 1) := by decide +kernel
theorem dL_approve_20 : decode cL_approve 20 = .ok (.iconst 0, 1) := by decide +kernel
theorem dL_approve_21 : decode cL_approve 21 = .ok (.ireturn, 1) := by decide +kernel
theorem dL_train_0 : decode cL_train 0 = .ok (.aload_n 0, 1) := by decide +kernel
theorem dL_train_1 : decode cL_train 1 = .ok (.iload_n 1, 1) := by decide +kernel
theorem dL_train_2 : decode cL_train 2 = .ok (.iload_n 2, 1) := by decide +kernel
theorem dL_train_3 : decode cL_train 3 = .ok (.iload_n 3, 1) := by decide +kernel
theorem dL_train_4 : decode cL_train 4 = .ok (.invokevirtual 27, 3) := by decide +kernel
theorem dL_train_7 : decode cL_train 7 = .ok (.goto 11, 3) := by decide +kernel
theorem dL_train_10 : decode cL_train 10 = .ok (.astore 4, 2) := by decide +kernel
theorem dL_train_12 : decode cL_train 12 = .ok (.iconst 1, 1) := by decide +kernel
theorem dL_train_13 : decode cL_train 13 = .ok (.ireturn, 1) := by decide +kernel
theorem dL_train_14 : decode cL_train 14 = .ok (.astore 4, 2) := by decide +kernel
theorem dL_train_16 : decode cL_train 16 = .ok (.iconst 2, 1) := by decide +kernel
theorem dL_train_17 : decode cL_train 17 = .ok (.ireturn, 1) := by decide +kernel
theorem dL_train_18 : decode cL_train 18 = .ok (.iconst 0, 1) := by decide +kernel
theorem dL_train_19 : decode cL_train 19 = .ok (.ireturn, 1) := by decide +kernel
theorem dL_rest_0 : decode cL_rest 0 = .ok (.aload_n 0, 1) := by decide +kernel
theorem dL_rest_1 : decode cL_rest 1 = .ok (.iload_n 1, 1) := by decide +kernel
theorem dL_rest_2 : decode cL_rest 2 = .ok (.iload_n 2, 1) := by decide +kernel
theorem dL_rest_3 : decode cL_rest 3 = .ok (.iload_n 3, 1) := by decide +kernel
theorem dL_rest_4 : decode cL_rest 4 = .ok (.invokevirtual 31, 3) := by decide +kernel
theorem dL_rest_7 : decode cL_rest 7 = .ok (.goto 11, 3) := by decide +kernel
theorem dL_rest_10 : decode cL_rest 10 = .ok (.astore 4, 2) := by decide +kernel
theorem dL_rest_12 : decode cL_rest 12 = .ok (.iconst 1, 1) := by decide +kernel
theorem dL_rest_13 : decode cL_rest 13 = .ok (.ireturn, 1) := by decide +kernel
theorem dL_rest_14 : decode cL_rest 14 = .ok (.astore 4, 2) := by decide +kernel
theorem dL_rest_16 : decode cL_rest 16 = .ok (.iconst 2, 1) := by decide +kernel
theorem dL_rest_17 : decode cL_rest 17 = .ok (.ireturn, 1) := by decide +kernel
theorem dL_rest_18 : decode cL_rest 18 = .ok (.iconst 0, 1) := by decide +kernel
theorem dL_rest_19 : decode cL_rest 19 = .ok (.ireturn, 1) := by decide +kernel
theorem dL_report_0 : decode cL_report 0 = .ok (.aload 4, 2) := by decide +kernel
theorem dL_report_2 : decode cL_report 2 = .ok (.iconst 0, 1) := by decide +kernel
theorem dL_report_3 : decode cL_report 3 = .ok (.aload_n 0, 1) := by decide +kernel
theorem dL_report_4 : decode cL_report 4 = .ok (.iload_n 1, 1) := by decide +kernel
theorem dL_report_5 : decode cL_report 5 = .ok (.iload_n 2, 1) := by decide +kernel
theorem dL_report_6 : decode cL_report 6 = .ok (.iload_n 3, 1) := by decide +kernel
theorem dL_report_7 : decode cL_report 7 = .ok (.invokevirtual 34, 3) := by decide +kernel
theorem dL_report_10 : decode cL_report 10 = .ok (.i2l, 1) := by decide +kernel
theorem dL_report_11 : decode cL_report 11 = .ok (.lastore, 1) := by decide +kernel
theorem dL_report_12 : decode cL_report 12 = .ok (.goto 15, 3) := by decide +kernel
theorem dL_report_15 : decode cL_report 15 = .ok (.astore 5, 2) := by decide +kernel
theorem dL_report_17 : decode cL_report 17 = .ok (.iconst 1, 1) := by decide +kernel
theorem dL_report_18 : decode cL_report 18 = .ok (.ireturn, 1) := by decide +kernel
theorem dL_report_19 : decode cL_report 19 = .ok (.astore 5, 2) := by decide +kernel
theorem dL_report_21 : decode cL_report 21 = .ok (.iconst 2, 1) := by decide +kernel
theorem dL_report_22 : decode cL_report 22 = .ok (.ireturn, 1) := by decide +kernel
theorem dL_report_23 : decode cL_report 23 = .ok (.astore 5, 2) := by decide +kernel
theorem dL_report_25 : decode cL_report 25 = .ok (.iconst 3, 1) := by decide +kernel
theorem dL_report_26 : decode cL_report 26 = .ok (.ireturn, 1) := by decide +kernel
theorem dL_report_27 : decode cL_report 27 = .ok (.iconst 0, 1) := by decide +kernel
theorem dL_report_28 : decode cL_report 28 = .ok (.ireturn, 1) := by decide +kernel
theorem dL_see_0 : decode cL_see 0 = .ok (.aload_n 2, 1) := by decide +kernel
theorem dL_see_1 : decode cL_see 1 = .ok (.iconst 0, 1) := by decide +kernel
theorem dL_see_2 : decode cL_see 2 = .ok (.aload_n 0, 1) := by decide +kernel
theorem dL_see_3 : decode cL_see 3 = .ok (.iload_n 1, 1) := by decide +kernel
theorem dL_see_4 : decode cL_see 4 = .ok (.invokevirtual 37, 3) := by decide +kernel
theorem dL_see_7 : decode cL_see 7 = .ok (.ifCond .eq 7, 3) := by decide +kernel
theorem dL_see_10 : decode cL_see 10 = .ok (.lconst 1, 1) := by decide +kernel
theorem dL_see_11 : decode cL_see 11 = .ok (.goto 4, 3) := by decide +kernel
theorem dL_see_14 : decode cL_see 14 = .ok (.lconst 0, 1) := by decide +kernel
theorem dL_see_15 : decode cL_see 15 = .ok (.lastore, 1) := by decide +kernel
theorem dL_see_16 : decode cL_see 16 = .ok (.goto 6, 3) := by decide +kernel
theorem dL_see_19 : decode cL_see 19 = .ok (.astore_n 3, 1) := by decide +kernel
theorem dL_see_20 : decode cL_see 20 = .ok (.iconst 1, 1) := by decide +kernel
theorem dL_see_21 : decode cL_see 21 = .ok (.ireturn, 1) := by decide +kernel
theorem dL_see_22 : decode cL_see 22 = .ok (.iconst 0, 1) := by decide +kernel
theorem dL_see_23 : decode cL_see 23 = .ok (.ireturn, 1) := by decide +kernel
theorem dL_risk_0 : decode cL_risk 0 = .ok (.aload_n 2, 1) := by decide +kernel
theorem dL_risk_1 : decode cL_risk 1 = .ok (.iconst 0, 1) := by decide +kernel
theorem dL_risk_2 : decode cL_risk 2 = .ok (.aload_n 0, 1) := by decide +kernel
theorem dL_risk_3 : decode cL_risk 3 = .ok (.iload_n 1, 1) := by decide +kernel
theorem dL_risk_4 : decode cL_risk 4 = .ok (.invokevirtual 41, 3) := by decide +kernel
theorem dL_risk_7 : decode cL_risk 7 = .ok (.i2l, 1) := by decide +kernel
theorem dL_risk_8 : decode cL_risk 8 = .ok (.lastore, 1) := by decide +kernel
theorem dL_risk_9 : decode cL_risk 9 = .ok (.goto 6, 3) := by decide +kernel
theorem dL_risk_12 : decode cL_risk 12 = .ok (.astore_n 3, 1) := by decide +kernel
theorem dL_risk_13 : decode cL_risk 13 = .ok (.iconst 1, 1) := by decide +kernel
theorem dL_risk_14 : decode cL_risk 14 = .ok (.ireturn, 1) := by decide +kernel
theorem dL_risk_15 : decode cL_risk 15 = .ok (.iconst 0, 1) := by decide +kernel
theorem dL_risk_16 : decode cL_risk 16 = .ok (.ireturn, 1) := by decide +kernel
theorem dL_seeBy_0 : decode cL_seeBy 0 = .ok (.aload_n 2, 1) := by decide +kernel
theorem dL_seeBy_1 : decode cL_seeBy 1 = .ok (.iconst 0, 1) := by decide +kernel
theorem dL_seeBy_2 : decode cL_seeBy 2 = .ok (.aload_n 0, 1) := by decide +kernel
theorem dL_seeBy_3 : decode cL_seeBy 3 = .ok (.iload_n 1, 1) := by decide +kernel
theorem dL_seeBy_4 : decode cL_seeBy 4 = .ok (.invokevirtual 45, 3) := by decide +kernel
theorem dL_seeBy_7 : decode cL_seeBy 7 = .ok (.i2l, 1) := by decide +kernel
theorem dL_seeBy_8 : decode cL_seeBy 8 = .ok (.lastore, 1) := by decide +kernel
theorem dL_seeBy_9 : decode cL_seeBy 9 = .ok (.goto 6, 3) := by decide +kernel
theorem dL_seeBy_12 : decode cL_seeBy 12 = .ok (.astore_n 3, 1) := by decide +kernel
theorem dL_seeBy_13 : decode cL_seeBy 13 = .ok (.iconst 1, 1) := by decide +kernel
theorem dL_seeBy_14 : decode cL_seeBy 14 = .ok (.ireturn, 1) := by decide +kernel
theorem dL_seeBy_15 : decode cL_seeBy 15 = .ok (.iconst 0, 1) := by decide +kernel
theorem dL_seeBy_16 : decode cL_seeBy 16 = .ok (.ireturn, 1) := by decide +kernel
theorem dL_order_0 : decode cL_order 0 = .ok (.aload 5, 2) := by decide +kernel
theorem dL_order_2 : decode cL_order 2 = .ok (.iconst 0, 1) := by decide +kernel
theorem dL_order_3 : decode cL_order 3 = .ok (.aload_n 0, 1) := by decide +kernel
theorem dL_order_4 : decode cL_order 4 = .ok (.iload_n 1, 1) := by decide +kernel
theorem dL_order_5 : decode cL_order 5 = .ok (.iload_n 2, 1) := by decide +kernel
theorem dL_order_6 : decode cL_order 6 = .ok (.iload_n 3, 1) := by decide +kernel
theorem dL_order_7 : decode cL_order 7 = .ok (.iload 4, 2) := by decide +kernel
theorem dL_order_9 : decode cL_order 9 = .ok (.invokevirtual 48, 3) := by decide +kernel
theorem dL_order_12 : decode cL_order 12 = .ok (.i2l, 1) := by decide +kernel
theorem dL_order_13 : decode cL_order 13 = .ok (.lastore, 1) := by decide +kernel
theorem dL_order_14 : decode cL_order 14 = .ok (.goto 15, 3) := by decide +kernel
theorem dL_order_17 : decode cL_order 17 = .ok (.astore 6, 2) := by decide +kernel
theorem dL_order_19 : decode cL_order 19 = .ok (.iconst 1, 1) := by decide +kernel
theorem dL_order_20 : decode cL_order 20 = .ok (.ireturn, 1) := by decide +kernel
theorem dL_order_21 : decode cL_order 21 = .ok (.astore 6, 2) := by decide +kernel
theorem dL_order_23 : decode cL_order 23 = .ok (.iconst 2, 1) := by decide +kernel
theorem dL_order_24 : decode cL_order 24 = .ok (.ireturn, 1) := by decide +kernel
theorem dL_order_25 : decode cL_order 25 = .ok (.astore 6, 2) := by decide +kernel
theorem dL_order_27 : decode cL_order 27 = .ok (.iconst 3, 1) := by decide +kernel
theorem dL_order_28 : decode cL_order 28 = .ok (.ireturn, 1) := by decide +kernel
theorem dL_order_29 : decode cL_order 29 = .ok (.iconst 0, 1) := by decide +kernel
theorem dL_order_30 : decode cL_order 30 = .ok (.ireturn, 1) := by decide +kernel
theorem dL_counts_0 : decode cL_counts 0 = .ok (.aload_n 3, 1) := by decide +kernel
theorem dL_counts_1 : decode cL_counts 1 = .ok (.iconst 0, 1) := by decide +kernel
theorem dL_counts_2 : decode cL_counts 2 = .ok (.aload_n 0, 1) := by decide +kernel
theorem dL_counts_3 : decode cL_counts 3 = .ok (.iload_n 1, 1) := by decide +kernel
theorem dL_counts_4 : decode cL_counts 4 = .ok (.iload_n 2, 1) := by decide +kernel
theorem dL_counts_5 : decode cL_counts 5 = .ok (.invokevirtual 52, 3) := by decide +kernel
theorem dL_counts_8 : decode cL_counts 8 = .ok (.i2l, 1) := by decide +kernel
theorem dL_counts_9 : decode cL_counts 9 = .ok (.lastore, 1) := by decide +kernel
theorem dL_counts_10 : decode cL_counts 10 = .ok (.goto 11, 3) := by decide +kernel
theorem dL_counts_13 : decode cL_counts 13 = .ok (.astore 4, 2) := by decide +kernel
theorem dL_counts_15 : decode cL_counts 15 = .ok (.iconst 1, 1) := by decide +kernel
theorem dL_counts_16 : decode cL_counts 16 = .ok (.ireturn, 1) := by decide +kernel
theorem dL_counts_17 : decode cL_counts 17 = .ok (.astore 4, 2) := by decide +kernel
theorem dL_counts_19 : decode cL_counts 19 = .ok (.iconst 2, 1) := by decide +kernel
theorem dL_counts_20 : decode cL_counts 20 = .ok (.ireturn, 1) := by decide +kernel
theorem dL_counts_21 : decode cL_counts 21 = .ok (.iconst 0, 1) := by decide +kernel
theorem dL_counts_22 : decode cL_counts 22 = .ok (.ireturn, 1) := by decide +kernel
theorem dL_wish_0 : decode cL_wish 0 = .ok (.aload_n 0, 1) := by decide +kernel
theorem dL_wish_1 : decode cL_wish 1 = .ok (.iload_n 1, 1) := by decide +kernel
theorem dL_wish_2 : decode cL_wish 2 = .ok (.iload_n 2, 1) := by decide +kernel
theorem dL_wish_3 : decode cL_wish 3 = .ok (.iload_n 3, 1) := by decide +kernel
theorem dL_wish_4 : decode cL_wish 4 = .ok (.invokevirtual 56, 3) := by decide +kernel
theorem dL_wish_7 : decode cL_wish 7 = .ok (.goto 7, 3) := by decide +kernel
theorem dL_wish_10 : decode cL_wish 10 = .ok (.astore 4, 2) := by decide +kernel
theorem dL_wish_12 : decode cL_wish 12 = .ok (.iconst 1, 1) := by decide +kernel
theorem dL_wish_13 : decode cL_wish 13 = .ok (.ireturn, 1) := by decide +kernel
theorem dL_wish_14 : decode cL_wish 14 = .ok (.iconst 0, 1) := by decide +kernel
theorem dL_wish_15 : decode cL_wish 15 = .ok (.ireturn, 1) := by decide +kernel
theorem dL_why_0 : decode cL_why 0 = .ok (.aload_n 3, 1) := by decide +kernel
theorem dL_why_1 : decode cL_why 1 = .ok (.iconst 0, 1) := by decide +kernel
theorem dL_why_2 : decode cL_why 2 = .ok (.aload_n 0, 1) := by decide +kernel
theorem dL_why_3 : decode cL_why 3 = .ok (.iload_n 1, 1) := by decide +kernel
theorem dL_why_4 : decode cL_why 4 = .ok (.iload_n 2, 1) := by decide +kernel
theorem dL_why_5 : decode cL_why 5 = .ok (.invokevirtual 60, 3) := by decide +kernel
theorem dL_why_8 : decode cL_why 8 = .ok (.i2l, 1) := by decide +kernel
theorem dL_why_9 : decode cL_why 9 = .ok (.lastore, 1) := by decide +kernel
theorem dL_why_10 : decode cL_why 10 = .ok (.goto 7, 3) := by decide +kernel
theorem dL_why_13 : decode cL_why 13 = .ok (.astore 4, 2) := by decide +kernel
theorem dL_why_15 : decode cL_why 15 = .ok (.iconst 1, 1) := by decide +kernel
theorem dL_why_16 : decode cL_why 16 = .ok (.ireturn, 1) := by decide +kernel
theorem dL_why_17 : decode cL_why 17 = .ok (.iconst 0, 1) := by decide +kernel
theorem dL_why_18 : decode cL_why 18 = .ok (.ireturn, 1) := by decide +kernel
theorem dL_worth_0 : decode cL_worth 0 = .ok (.aload_n 3, 1) := by decide +kernel
theorem dL_worth_1 : decode cL_worth 1 = .ok (.iconst 0, 1) := by decide +kernel
theorem dL_worth_2 : decode cL_worth 2 = .ok (.aload_n 0, 1) := by decide +kernel
theorem dL_worth_3 : decode cL_worth 3 = .ok (.iload_n 1, 1) := by decide +kernel
theorem dL_worth_4 : decode cL_worth 4 = .ok (.iload_n 2, 1) := by decide +kernel
theorem dL_worth_5 : decode cL_worth 5 = .ok (.invokevirtual 63, 3) := by decide +kernel
theorem dL_worth_8 : decode cL_worth 8 = .ok (.i2l, 1) := by decide +kernel
theorem dL_worth_9 : decode cL_worth 9 = .ok (.lastore, 1) := by decide +kernel
theorem dL_worth_10 : decode cL_worth 10 = .ok (.goto 7, 3) := by decide +kernel
theorem dL_worth_13 : decode cL_worth 13 = .ok (.astore 4, 2) := by decide +kernel
theorem dL_worth_15 : decode cL_worth 15 = .ok (.iconst 1, 1) := by decide +kernel
theorem dL_worth_16 : decode cL_worth 16 = .ok (.ireturn, 1) := by decide +kernel
theorem dL_worth_17 : decode cL_worth 17 = .ok (.iconst 0, 1) := by decide +kernel
theorem dL_worth_18 : decode cL_worth 18 = .ok (.ireturn, 1) := by decide +kernel
theorem dL_best_0 : decode cL_best 0 = .ok (.aload_n 2, 1) := by decide +kernel
theorem dL_best_1 : decode cL_best 1 = .ok (.iconst 0, 1) := by decide +kernel
theorem dL_best_2 : decode cL_best 2 = .ok (.aload_n 0, 1) := by decide +kernel
theorem dL_best_3 : decode cL_best 3 = .ok (.iload_n 1, 1) := by decide +kernel
theorem dL_best_4 : decode cL_best 4 = .ok (.invokevirtual 66, 3) := by decide +kernel
theorem dL_best_7 : decode cL_best 7 = .ok (.i2l, 1) := by decide +kernel
theorem dL_best_8 : decode cL_best 8 = .ok (.lastore, 1) := by decide +kernel
theorem dL_best_9 : decode cL_best 9 = .ok (.goto 6, 3) := by decide +kernel
theorem dL_best_12 : decode cL_best 12 = .ok (.astore_n 3, 1) := by decide +kernel
theorem dL_best_13 : decode cL_best 13 = .ok (.iconst 1, 1) := by decide +kernel
theorem dL_best_14 : decode cL_best 14 = .ok (.ireturn, 1) := by decide +kernel
theorem dL_best_15 : decode cL_best 15 = .ok (.iconst 0, 1) := by decide +kernel
theorem dL_best_16 : decode cL_best 16 = .ok (.ireturn, 1) := by decide +kernel
theorem dL_place_0 : decode cL_place 0 = .ok (.aload_n 3, 1) := by decide +kernel
theorem dL_place_1 : decode cL_place 1 = .ok (.iconst 0, 1) := by decide +kernel
theorem dL_place_2 : decode cL_place 2 = .ok (.aload_n 0, 1) := by decide +kernel
theorem dL_place_3 : decode cL_place 3 = .ok (.iload_n 1, 1) := by decide +kernel
theorem dL_place_4 : decode cL_place 4 = .ok (.iload_n 2, 1) := by decide +kernel
theorem dL_place_5 : decode cL_place 5 = .ok (.invokevirtual 69, 3) := by decide +kernel
theorem dL_place_8 : decode cL_place 8 = .ok (.i2l, 1) := by decide +kernel
theorem dL_place_9 : decode cL_place 9 = .ok (.lastore, 1) := by decide +kernel
theorem dL_place_10 : decode cL_place 10 = .ok (.goto 11, 3) := by decide +kernel
theorem dL_place_13 : decode cL_place 13 = .ok (.astore 4, 2) := by decide +kernel
theorem dL_place_15 : decode cL_place 15 = .ok (.iconst 1, 1) := by decide +kernel
theorem dL_place_16 : decode cL_place 16 = .ok (.ireturn, 1) := by decide +kernel
theorem dL_place_17 : decode cL_place 17 = .ok (.astore 4, 2) := by decide +kernel
theorem dL_place_19 : decode cL_place 19 = .ok (.iconst 2, 1) := by decide +kernel
theorem dL_place_20 : decode cL_place 20 = .ok (.ireturn, 1) := by decide +kernel
theorem dL_place_21 : decode cL_place 21 = .ok (.iconst 0, 1) := by decide +kernel
theorem dL_place_22 : decode cL_place 22 = .ok (.ireturn, 1) := by decide +kernel
theorem dL_placeAll_0 : decode cL_placeAll 0 = .ok (.aload_n 2, 1) := by decide +kernel
theorem dL_placeAll_1 : decode cL_placeAll 1 = .ok (.iconst 0, 1) := by decide +kernel
theorem dL_placeAll_2 : decode cL_placeAll 2 = .ok (.aload_n 0, 1) := by decide +kernel
theorem dL_placeAll_3 : decode cL_placeAll 3 = .ok (.iload_n 1, 1) := by decide +kernel
theorem dL_placeAll_4 : decode cL_placeAll 4 = .ok (.invokevirtual 72, 3) := by decide +kernel
theorem dL_placeAll_7 : decode cL_placeAll 7 = .ok (.i2l, 1) := by decide +kernel
theorem dL_placeAll_8 : decode cL_placeAll 8 = .ok (.lastore, 1) := by decide +kernel
theorem dL_placeAll_9 : decode cL_placeAll 9 = .ok (.goto 9, 3) := by decide +kernel
theorem dL_placeAll_12 : decode cL_placeAll 12 = .ok (.astore_n 3, 1) := by decide +kernel
theorem dL_placeAll_13 : decode cL_placeAll 13 = .ok (.iconst 1, 1) := by decide +kernel
theorem dL_placeAll_14 : decode cL_placeAll 14 = .ok (.ireturn, 1) := by decide +kernel
theorem dL_placeAll_15 : decode cL_placeAll 15 = .ok (.astore_n 3, 1) := by decide +kernel
theorem dL_placeAll_16 : decode cL_placeAll 16 = .ok (.iconst 2, 1) := by decide +kernel
theorem dL_placeAll_17 : decode cL_placeAll 17 = .ok (.ireturn, 1) := by decide +kernel
theorem dL_placeAll_18 : decode cL_placeAll 18 = .ok (.iconst 0, 1) := by decide +kernel
theorem dL_placeAll_19 : decode cL_placeAll 19 = .ok (.ireturn, 1) := by decide +kernel
theorem dL_visits_0 : decode cL_visits 0 = .ok (.aload_n 3, 1) := by decide +kernel
theorem dL_visits_1 : decode cL_visits 1 = .ok (.iconst 0, 1) := by decide +kernel
theorem dL_visits_2 : decode cL_visits 2 = .ok (.aload_n 0, 1) := by decide +kernel
theorem dL_visits_3 : decode cL_visits 3 = .ok (.iload_n 1, 1) := by decide +kernel
theorem dL_visits_4 : decode cL_visits 4 = .ok (.iload_n 2, 1) := by decide +kernel
theorem dL_visits_5 : decode cL_visits 5 = .ok (.invokevirtual 75, 3) := by decide +kernel
theorem dL_visits_8 : decode cL_visits 8 = .ok (.i2l, 1) := by decide +kernel
theorem dL_visits_9 : decode cL_visits 9 = .ok (.lastore, 1) := by decide +kernel
theorem dL_visits_10 : decode cL_visits 10 = .ok (.goto 11, 3) := by decide +kernel
theorem dL_visits_13 : decode cL_visits 13 = .ok (.astore 4, 2) := by decide +kernel
theorem dL_visits_15 : decode cL_visits 15 = .ok (.iconst 1, 1) := by decide +kernel
theorem dL_visits_16 : decode cL_visits 16 = .ok (.ireturn, 1) := by decide +kernel
theorem dL_visits_17 : decode cL_visits 17 = .ok (.astore 4, 2) := by decide +kernel
theorem dL_visits_19 : decode cL_visits 19 = .ok (.iconst 2, 1) := by decide +kernel
theorem dL_visits_20 : decode cL_visits 20 = .ok (.ireturn, 1) := by decide +kernel
theorem dL_visits_21 : decode cL_visits 21 = .ok (.iconst 0, 1) := by decide +kernel
theorem dL_visits_22 : decode cL_visits 22 = .ok (.ireturn, 1) := by decide +kernel
theorem dL_came_0 : decode cL_came 0 = .ok (.aload_n 0, 1) := by decide +kernel
theorem dL_came_1 : decode cL_came 1 = .ok (.iload_n 1, 1) := by decide +kernel
theorem dL_came_2 : decode cL_came 2 = .ok (.invokevirtual 78, 3) := by decide +kernel
theorem dL_came_5 : decode cL_came 5 = .ok (.goto 9, 3) := by decide +kernel
theorem dL_came_8 : decode cL_came 8 = .ok (.astore_n 2, 1) := by decide +kernel
theorem dL_came_9 : decode cL_came 9 = .ok (.iconst 1, 1) := by decide +kernel
theorem dL_came_10 : decode cL_came 10 = .ok (.ireturn, 1) := by decide +kernel
theorem dL_came_11 : decode cL_came 11 = .ok (.astore_n 2, 1) := by decide +kernel
theorem dL_came_12 : decode cL_came 12 = .ok (.iconst 2, 1) := by decide +kernel
theorem dL_came_13 : decode cL_came 13 = .ok (.ireturn, 1) := by decide +kernel
theorem dL_came_14 : decode cL_came 14 = .ok (.iconst 0, 1) := by decide +kernel
theorem dL_came_15 : decode cL_came 15 = .ok (.ireturn, 1) := by decide +kernel
theorem dL_pay_0 : decode cL_pay 0 = .ok (.aload_n 3, 1) := by decide +kernel
theorem dL_pay_1 : decode cL_pay 1 = .ok (.iconst 0, 1) := by decide +kernel
theorem dL_pay_2 : decode cL_pay 2 = .ok (.aload_n 0, 1) := by decide +kernel
theorem dL_pay_3 : decode cL_pay 3 = .ok (.iload_n 1, 1) := by decide +kernel
theorem dL_pay_4 : decode cL_pay 4 = .ok (.iload_n 2, 1) := by decide +kernel
theorem dL_pay_5 : decode cL_pay 5 = .ok (.invokevirtual 82, 3) := by decide +kernel
theorem dL_pay_8 : decode cL_pay 8 = .ok (.i2l, 1) := by decide +kernel
theorem dL_pay_9 : decode cL_pay 9 = .ok (.lastore, 1) := by decide +kernel
theorem dL_pay_10 : decode cL_pay 10 = .ok (.goto 11, 3) := by decide +kernel
theorem dL_pay_13 : decode cL_pay 13 = .ok (.astore 4, 2) := by decide +kernel
theorem dL_pay_15 : decode cL_pay 15 = .ok (.iconst 1, 1) := by decide +kernel
theorem dL_pay_16 : decode cL_pay 16 = .ok (.ireturn, 1) := by decide +kernel
theorem dL_pay_17 : decode cL_pay 17 = .ok (.astore 4, 2) := by decide +kernel
theorem dL_pay_19 : decode cL_pay 19 = .ok (.iconst 2, 1) := by decide +kernel
theorem dL_pay_20 : decode cL_pay 20 = .ok (.ireturn, 1) := by decide +kernel
theorem dL_pay_21 : decode cL_pay 21 = .ok (.iconst 0, 1) := by decide +kernel
theorem dL_pay_22 : decode cL_pay 22 = .ok (.ireturn, 1) := by decide +kernel
theorem dL_owed_0 : decode cL_owed 0 = .ok (.aload_n 2, 1) := by decide +kernel
theorem dL_owed_1 : decode cL_owed 1 = .ok (.iconst 0, 1) := by decide +kernel
theorem dL_owed_2 : decode cL_owed 2 = .ok (.aload_n 0, 1) := by decide +kernel
theorem dL_owed_3 : decode cL_owed 3 = .ok (.iload_n 1, 1) := by decide +kernel
theorem dL_owed_4 : decode cL_owed 4 = .ok (.invokevirtual 85, 3) := by decide +kernel
theorem dL_owed_7 : decode cL_owed 7 = .ok (.i2l, 1) := by decide +kernel
theorem dL_owed_8 : decode cL_owed 8 = .ok (.lastore, 1) := by decide +kernel
theorem dL_owed_9 : decode cL_owed 9 = .ok (.goto 6, 3) := by decide +kernel
theorem dL_owed_12 : decode cL_owed 12 = .ok (.astore_n 3, 1) := by decide +kernel
theorem dL_owed_13 : decode cL_owed 13 = .ok (.iconst 1, 1) := by decide +kernel
theorem dL_owed_14 : decode cL_owed 14 = .ok (.ireturn, 1) := by decide +kernel
theorem dL_owed_15 : decode cL_owed 15 = .ok (.iconst 0, 1) := by decide +kernel
theorem dL_owed_16 : decode cL_owed 16 = .ok (.ireturn, 1) := by decide +kernel
theorem dL_handOver_0 : decode cL_handOver 0 = .ok (.aload_n 3, 1) := by decide +kernel
theorem dL_handOver_1 : decode cL_handOver 1 = .ok (.iconst 0, 1) := by decide +kernel
theorem dL_handOver_2 : decode cL_handOver 2 = .ok (.aload_n 0, 1) := by decide +kernel
theorem dL_handOver_3 : decode cL_handOver 3 = .ok (.iload_n 1, 1) := by decide +kernel
theorem dL_handOver_4 : decode cL_handOver 4 = .ok (.iload_n 2, 1) := by decide +kernel
theorem dL_handOver_5 : decode cL_handOver 5 = .ok (.invokevirtual 88, 3) := by decide +kernel
theorem dL_handOver_8 : decode cL_handOver 8 = .ok (.i2l, 1) := by decide +kernel
theorem dL_handOver_9 : decode cL_handOver 9 = .ok (.lastore, 1) := by decide +kernel
theorem dL_handOver_10 : decode cL_handOver 10 = .ok (.goto 7, 3) := by decide +kernel
theorem dL_handOver_13 : decode cL_handOver 13 = .ok (.astore 4, 2) := by decide +kernel
theorem dL_handOver_15 : decode cL_handOver 15 = .ok (.iconst 1, 1) := by decide +kernel
theorem dL_handOver_16 : decode cL_handOver 16 = .ok (.ireturn, 1) := by decide +kernel
theorem dL_handOver_17 : decode cL_handOver 17 = .ok (.iconst 0, 1) := by decide +kernel
theorem dL_handOver_18 : decode cL_handOver 18 = .ok (.ireturn, 1) := by decide +kernel
theorem dL_load_0 : decode cL_load 0 = .ok (.aload_n 2, 1) := by decide +kernel
theorem dL_load_1 : decode cL_load 1 = .ok (.iconst 0, 1) := by decide +kernel
theorem dL_load_2 : decode cL_load 2 = .ok (.aload_n 0, 1) := by decide +kernel
theorem dL_load_3 : decode cL_load 3 = .ok (.iload_n 1, 1) := by decide +kernel
theorem dL_load_4 : decode cL_load 4 = .ok (.invokevirtual 91, 3) := by decide +kernel
theorem dL_load_7 : decode cL_load 7 = .ok (.i2l, 1) := by decide +kernel
theorem dL_load_8 : decode cL_load 8 = .ok (.lastore, 1) := by decide +kernel
theorem dL_load_9 : decode cL_load 9 = .ok (.goto 6, 3) := by decide +kernel
theorem dL_load_12 : decode cL_load 12 = .ok (.astore_n 3, 1) := by decide +kernel
theorem dL_load_13 : decode cL_load 13 = .ok (.iconst 1, 1) := by decide +kernel
theorem dL_load_14 : decode cL_load 14 = .ok (.ireturn, 1) := by decide +kernel
theorem dL_load_15 : decode cL_load 15 = .ok (.iconst 0, 1) := by decide +kernel
theorem dL_load_16 : decode cL_load 16 = .ok (.ireturn, 1) := by decide +kernel
theorem dL_pass_0 : decode cL_pass 0 = .ok (.aload_n 2, 1) := by decide +kernel
theorem dL_pass_1 : decode cL_pass 1 = .ok (.iconst 0, 1) := by decide +kernel
theorem dL_pass_2 : decode cL_pass 2 = .ok (.aload_n 0, 1) := by decide +kernel
theorem dL_pass_3 : decode cL_pass 3 = .ok (.iload_n 1, 1) := by decide +kernel
theorem dL_pass_4 : decode cL_pass 4 = .ok (.invokevirtual 94, 3) := by decide +kernel
theorem dL_pass_7 : decode cL_pass 7 = .ok (.i2l, 1) := by decide +kernel
theorem dL_pass_8 : decode cL_pass 8 = .ok (.lastore, 1) := by decide +kernel
theorem dL_pass_9 : decode cL_pass 9 = .ok (.goto 9, 3) := by decide +kernel
theorem dL_pass_12 : decode cL_pass 12 = .ok (.astore_n 3, 1) := by decide +kernel
theorem dL_pass_13 : decode cL_pass 13 = .ok (.iconst 1, 1) := by decide +kernel
theorem dL_pass_14 : decode cL_pass 14 = .ok (.ireturn, 1) := by decide +kernel
theorem dL_pass_15 : decode cL_pass 15 = .ok (.astore_n 3, 1) := by decide +kernel
theorem dL_pass_16 : decode cL_pass 16 = .ok (.iconst 2, 1) := by decide +kernel
theorem dL_pass_17 : decode cL_pass 17 = .ok (.ireturn, 1) := by decide +kernel
theorem dL_pass_18 : decode cL_pass 18 = .ok (.iconst 0, 1) := by decide +kernel
theorem dL_pass_19 : decode cL_pass 19 = .ok (.ireturn, 1) := by decide +kernel
theorem dL_childIs_0 : decode cL_childIs 0 = .ok (.aload_n 3, 1) := by decide +kernel
theorem dL_childIs_1 : decode cL_childIs 1 = .ok (.iconst 0, 1) := by decide +kernel
theorem dL_childIs_2 : decode cL_childIs 2 = .ok (.aload_n 0, 1) := by decide +kernel
theorem dL_childIs_3 : decode cL_childIs 3 = .ok (.iload_n 1, 1) := by decide +kernel
theorem dL_childIs_4 : decode cL_childIs 4 = .ok (.iload_n 2, 1) := by decide +kernel
theorem dL_childIs_5 : decode cL_childIs 5 = .ok (.invokevirtual 97, 3) := by decide +kernel
theorem dL_childIs_8 : decode cL_childIs 8 = .ok (.i2l, 1) := by decide +kernel
theorem dL_childIs_9 : decode cL_childIs 9 = .ok (.lastore, 1) := by decide +kernel
theorem dL_childIs_10 : decode cL_childIs 10 = .ok (.goto 11, 3) := by decide +kernel
theorem dL_childIs_13 : decode cL_childIs 13 = .ok (.astore 4, 2) := by decide +kernel
theorem dL_childIs_15 : decode cL_childIs 15 = .ok (.iconst 1, 1) := by decide +kernel
theorem dL_childIs_16 : decode cL_childIs 16 = .ok (.ireturn, 1) := by decide +kernel
theorem dL_childIs_17 : decode cL_childIs 17 = .ok (.astore 4, 2) := by decide +kernel
theorem dL_childIs_19 : decode cL_childIs 19 = .ok (.iconst 2, 1) := by decide +kernel
theorem dL_childIs_20 : decode cL_childIs 20 = .ok (.ireturn, 1) := by decide +kernel
theorem dL_childIs_21 : decode cL_childIs 21 = .ok (.iconst 0, 1) := by decide +kernel
theorem dL_childIs_22 : decode cL_childIs 22 = .ok (.ireturn, 1) := by decide +kernel
theorem dL_stay_0 : decode cL_stay 0 = .ok (.aload_n 3, 1) := by decide +kernel
theorem dL_stay_1 : decode cL_stay 1 = .ok (.iconst 0, 1) := by decide +kernel
theorem dL_stay_2 : decode cL_stay 2 = .ok (.aload_n 0, 1) := by decide +kernel
theorem dL_stay_3 : decode cL_stay 3 = .ok (.iload_n 1, 1) := by decide +kernel
theorem dL_stay_4 : decode cL_stay 4 = .ok (.iload_n 2, 1) := by decide +kernel
theorem dL_stay_5 : decode cL_stay 5 = .ok (.invokevirtual 100, 3) := by decide +kernel
theorem dL_stay_8 : decode cL_stay 8 = .ok (.i2l, 1) := by decide +kernel
theorem dL_stay_9 : decode cL_stay 9 = .ok (.lastore, 1) := by decide +kernel
theorem dL_stay_10 : decode cL_stay 10 = .ok (.goto 11, 3) := by decide +kernel
theorem dL_stay_13 : decode cL_stay 13 = .ok (.astore 4, 2) := by decide +kernel
theorem dL_stay_15 : decode cL_stay 15 = .ok (.iconst 1, 1) := by decide +kernel
theorem dL_stay_16 : decode cL_stay 16 = .ok (.ireturn, 1) := by decide +kernel
theorem dL_stay_17 : decode cL_stay 17 = .ok (.astore 4, 2) := by decide +kernel
theorem dL_stay_19 : decode cL_stay 19 = .ok (.iconst 2, 1) := by decide +kernel
theorem dL_stay_20 : decode cL_stay 20 = .ok (.ireturn, 1) := by decide +kernel
theorem dL_stay_21 : decode cL_stay 21 = .ok (.iconst 0, 1) := by decide +kernel
theorem dL_stay_22 : decode cL_stay 22 = .ok (.ireturn, 1) := by decide +kernel
theorem dL_wasAllowed_0 : decode cL_wasAllowed 0 = .ok (.aload_n 2, 1) := by decide +kernel
theorem dL_wasAllowed_1 : decode cL_wasAllowed 1 = .ok (.iconst 0, 1) := by decide +kernel
theorem dL_wasAllowed_2 : decode cL_wasAllowed 2 = .ok (.aload_n 0, 1) := by decide +kernel
theorem dL_wasAllowed_3 : decode cL_wasAllowed 3 = .ok (.iload_n 1, 1) := by decide +kernel
theorem dL_wasAllowed_4 : decode cL_wasAllowed 4 = .ok (.invokevirtual 103, 3) := by decide +kernel
theorem dL_wasAllowed_7 : decode cL_wasAllowed 7 = .ok (.ifCond .eq 7, 3) := by decide +kernel
theorem dL_wasAllowed_10 : decode cL_wasAllowed 10 = .ok (.lconst 1, 1) := by decide +kernel
theorem dL_wasAllowed_11 : decode cL_wasAllowed 11 = .ok (.goto 4, 3) := by decide +kernel
theorem dL_wasAllowed_14 : decode cL_wasAllowed 14 = .ok (.lconst 0, 1) := by decide +kernel
theorem dL_wasAllowed_15 : decode cL_wasAllowed 15 = .ok (.lastore, 1) := by decide +kernel
theorem dL_wasAllowed_16 : decode cL_wasAllowed 16 = .ok (.goto 6, 3) := by decide +kernel
theorem dL_wasAllowed_19 : decode cL_wasAllowed 19 = .ok (.astore_n 3, 1) := by decide +kernel
theorem dL_wasAllowed_20 : decode cL_wasAllowed 20 = .ok (.iconst 1, 1) := by decide +kernel
theorem dL_wasAllowed_21 : decode cL_wasAllowed 21 = .ok (.ireturn, 1) := by decide +kernel
theorem dL_wasAllowed_22 : decode cL_wasAllowed 22 = .ok (.iconst 0, 1) := by decide +kernel
theorem dL_wasAllowed_23 : decode cL_wasAllowed 23 = .ok (.ireturn, 1) := by decide +kernel
theorem dL_blacken_0 : decode cL_blacken 0 = .ok (.aload_n 3, 1) := by decide +kernel
theorem dL_blacken_1 : decode cL_blacken 1 = .ok (.iconst 0, 1) := by decide +kernel
theorem dL_blacken_2 : decode cL_blacken 2 = .ok (.aload_n 0, 1) := by decide +kernel
theorem dL_blacken_3 : decode cL_blacken 3 = .ok (.iload_n 1, 1) := by decide +kernel
theorem dL_blacken_4 : decode cL_blacken 4 = .ok (.iload_n 2, 1) := by decide +kernel
theorem dL_blacken_5 : decode cL_blacken 5 = .ok (.invokevirtual 106, 3) := by decide +kernel
theorem dL_blacken_8 : decode cL_blacken 8 = .ok (.ifCond .eq 7, 3) := by decide +kernel
theorem dL_blacken_11 : decode cL_blacken 11 = .ok (.lconst 1, 1) := by decide +kernel
theorem dL_blacken_12 : decode cL_blacken 12 = .ok (.goto 4, 3) := by decide +kernel
theorem dL_blacken_15 : decode cL_blacken 15 = .ok (.lconst 0, 1) := by decide +kernel
theorem dL_blacken_16 : decode cL_blacken 16 = .ok (.lastore, 1) := by decide +kernel
theorem dL_blacken_17 : decode cL_blacken 17 = .ok (.goto 7, 3) := by decide +kernel
theorem dL_blacken_20 : decode cL_blacken 20 = .ok (.astore 4, 2) := by decide +kernel
theorem dL_blacken_22 : decode cL_blacken 22 = .ok (.iconst 1, 1) := by decide +kernel
theorem dL_blacken_23 : decode cL_blacken 23 = .ok (.ireturn, 1) := by decide +kernel
theorem dL_blacken_24 : decode cL_blacken 24 = .ok (.iconst 0, 1) := by decide +kernel
theorem dL_blacken_25 : decode cL_blacken 25 = .ok (.ireturn, 1) := by decide +kernel
theorem dL_file_0 : decode cL_file 0 = .ok (.aload_n 3, 1) := by decide +kernel
theorem dL_file_1 : decode cL_file 1 = .ok (.iconst 0, 1) := by decide +kernel
theorem dL_file_2 : decode cL_file 2 = .ok (.aload_n 0, 1) := by decide +kernel
theorem dL_file_3 : decode cL_file 3 = .ok (.iload_n 1, 1) := by decide +kernel
theorem dL_file_4 : decode cL_file 4 = .ok (.iload_n 2, 1) := by decide +kernel
theorem dL_file_5 : decode cL_file 5 = .ok (.invokevirtual 110, 3) := by decide +kernel
theorem dL_file_8 : decode cL_file 8 = .ok (.i2l, 1) := by decide +kernel
theorem dL_file_9 : decode cL_file 9 = .ok (.lastore, 1) := by decide +kernel
theorem dL_file_10 : decode cL_file 10 = .ok (.goto 11, 3) := by decide +kernel
theorem dL_file_13 : decode cL_file 13 = .ok (.astore 4, 2) := by decide +kernel
theorem dL_file_15 : decode cL_file 15 = .ok (.iconst 1, 1) := by decide +kernel
theorem dL_file_16 : decode cL_file 16 = .ok (.ireturn, 1) := by decide +kernel
theorem dL_file_17 : decode cL_file 17 = .ok (.astore 4, 2) := by decide +kernel
theorem dL_file_19 : decode cL_file 19 = .ok (.iconst 2, 1) := by decide +kernel
theorem dL_file_20 : decode cL_file 20 = .ok (.ireturn, 1) := by decide +kernel
theorem dL_file_21 : decode cL_file 21 = .ok (.iconst 0, 1) := by decide +kernel
theorem dL_file_22 : decode cL_file 22 = .ok (.ireturn, 1) := by decide +kernel
