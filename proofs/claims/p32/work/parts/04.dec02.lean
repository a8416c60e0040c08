theorem dL_at_0 : decode cL_at 0 = .ok (.iload_n 1, 1) := by decide +kernel
theorem dL_at_1 : decode cL_at 1 = .ok (.aload_n 0, 1) := by decide +kernel
theorem dL_at_2 : decode cL_at 2 = .ok (.arraylength, 1) := by decide +kernel
theorem dL_at_3 : decode cL_at 3 = .ok (.if_icmp .ge 9, 3) := by decide +kernel
theorem dL_at_6 : decode cL_at 6 = .ok (.aload_n 0, 1) := by decide +kernel
theorem dL_at_7 : decode cL_at 7 = .ok (.iload_n 1, 1) := by decide +kernel
theorem dL_at_8 : decode cL_at 8 = .ok (.iaload, 1) := by decide +kernel
theorem dL_at_9 : decode cL_at 9 = .ok (.goto 12, 3) := by decide +kernel
theorem dL_at_12 : decode cL_at 12 = .ok (.ldc 7, 2) := by decide +kernel
theorem dL_at_14 : decode cL_at 14 = .ok (.iload_n 1, 1) := by decide +kernel
theorem dL_at_15 : decode cL_at 15 = .ok (.iconst 1, 1) := by decide +kernel
theorem dL_at_16 : decode cL_at 16 = .ok (.iadd, 1) := by decide +kernel
theorem dL_at_17 : decode cL_at 17 = .ok (.imul, 1) := by decide +kernel
theorem dL_at_18 : decode cL_at 18 = .ok (.ldc 8, 2) := by decide +kernel
theorem dL_at_20 : decode cL_at 20 = .ok (.iadd, 1) := by decide +kernel
theorem dL_at_21 : decode cL_at 21 = .ok (.ireturn, 1) := by decide +kernel
theorem dL_low_0 : decode cL_low 0 = .ok (.iload_n 0, 1) := by decide +kernel
theorem dL_low_1 : decode cL_low 1 = .ok (.ldc 9, 2) := by decide +kernel
theorem dL_low_3 : decode cL_low 3 = .ok (.iand, 1) := by decide +kernel
theorem dL_low_4 : decode cL_low 4 = .ok (.iload_n 1, 1) := by decide +kernel
theorem dL_low_5 : decode cL_low 5 = .ok (.irem, 1) := by decide +kernel
theorem dL_low_6 : decode cL_low 6 = .ok (.ireturn, 1) := by decide +kernel
theorem dL_child_0 : decode cL_child 0 = .ok (.aload_n 0, 1) := by decide +kernel
theorem dL_child_1 : decode cL_child 1 = .ok (.iload_n 1, 1) := by decide +kernel
theorem dL_child_2 : decode cL_child 2 = .ok (.iload_n 2, 1) := by decide +kernel
theorem dL_child_3 : decode cL_child 3 = .ok (.iload_n 3, 1) := by decide +kernel
theorem dL_child_4 : decode cL_child 4 = .ok (.iload 4, 2) := by decide +kernel
theorem dL_child_6 : decode cL_child 6 = .ok (.iload 5, 2) := by decide +kernel
theorem dL_child_8 : decode cL_child 8 = .ok (.invokevirtual 10, 3) := by decide +kernel
theorem dL_child_11 : decode cL_child 11 = .ok (.ireturn, 1) := by decide +kernel
theorem dL_child_12 : decode cL_child 12 = .ok (.astore 6, 2) := by decide +kernel
theorem dL_child_14 : decode cL_child 14 = .ok (.ldc 18, 2) := by decide +kernel
theorem dL_child_16 : decode cL_child 16 = .ok (.ireturn, 1) := by decide +kernel
theorem dL_child_17 : decode cL_child 17 = .ok (.astore 6, 2) := by decide +kernel
theorem dL_child_19 : decode cL_child 19 = .ok (.ldc 21, 2) := by decide +kernel
theorem dL_child_21 : decode cL_child 21 = .ok (.ireturn, 1) := by decide +kernel
theorem dL_home_0 : decode cL_home 0 = .ok (.aload_n 0, 1) := by decide +kernel
theorem dL_home_1 : decode cL_home 1 = .ok (.iload_n 1, 1) := by decide +kernel
theorem dL_home_2 : decode cL_home 2 = .ok (.iload_n 2, 1) := by decide +kernel
theorem dL_home_3 : decode cL_home 3 = .ok (.iload_n 3, 1) := by decide +kernel
theorem dL_home_4 : decode cL_home 4 = .ok (.invokevirtual 22, 3) := by decide +kernel
theorem dL_home_7 : decode cL_home 7 = .ok (.ireturn, 1) := by decide +kernel
theorem dL_home_8 : decode cL_home 8 = .ok (.astore 4, 2) := by decide +kernel
theorem dL_home_10 : decode cL_home 10 = .ok (.ldc 18, 2) := by decide +kernel
theorem dL_home_12 : decode cL_home 12 = .ok (.ireturn, 1) := by decide +kernel
theorem dL_home_13 : decode cL_home 13 = .ok (.astore 4, 2) := by decide +kernel
theorem dL_home_15 : decode cL_home 15 = .ok (.ldc 21, 2) := by decide +kernel
theorem dL_home_17 : decode cL_home 17 = .ok (.ireturn, 1) := by decide +kernel
theorem dL_approve_0 : decode cL_approve 0 = .ok (.aload_n 0, 1) := by decide +kernel
theorem dL_approve_1 : decode cL_approve 1 = .ok (.iload_n 1, 1) := by decide +kernel
theorem dL_approve_2 : decode cL_approve 2 = .ok (.iload_n 2, 1) := by decide +kernel
theorem dL_approve_3 : decode cL_approve 3 = .ok (.iload_n 3, 1) := by decide +kernel
theorem dL_approve_4 : decode cL_approve 4 = .ok (.iload 4, 2) := by decide +kernel
theorem dL_approve_6 : decode cL_approve 6 = .ok (.invokevirtual 26, 3) := by decide +kernel
theorem dL_approve_9 : decode cL_approve 9 = .ok (.iconst 0, 1) := by decide +kernel
theorem dL_approve_10 : decode cL_approve 10 = .ok (.ireturn, 1) := by decide +kernel
theorem dL_approve_11 : decode cL_approve 11 = .ok (.astore 5, 2) := by decide +kernel
theorem dL_approve_13 : decode cL_approve 13 = .ok (.ldc 32, 2) := by decide +kernel
theorem dL_approve_15 : decode cL_approve 15 = .ok (.ireturn, 1) := by decide +kernel
theorem dL_approve_16 : decode cL_approve 16 = .ok (.astore 5, 2) := by decide +kernel
theorem dL_approve_18 : decode cL_approve 18 = .ok (.ldc 18, 2) := by decide +kernel
theorem dL_approve_20 : decode cL_approve 20 = .ok (.ireturn, 1) := by decide +kernel
theorem dL_train_0 : decode cL_train 0 = .ok (.aload_n 0, 1) := by decide +kernel
theorem dL_train_1 : decode cL_train 1 = .ok (.iload_n 1, 1) := by decide +kernel
theorem dL_train_2 : decode cL_train 2 = .ok (.iload_n 2, 1) := by decide +kernel
theorem dL_train_3 : decode cL_train 3 = .ok (.iload_n 3, 1) := by decide +kernel
theorem dL_train_4 : decode cL_train 4 = .ok (.invokevirtual 33, 3) := by decide +kernel
theorem dL_train_7 : decode cL_train 7 = .ok (.iconst 0, 1) := by decide +kernel
theorem dL_train_8 : decode cL_train 8 = .ok (.ireturn, 1) := by decide +kernel
theorem dL_train_9 : decode cL_train 9 = .ok (.astore 4, 2) := by decide +kernel
theorem dL_train_11 : decode cL_train 11 = .ok (.ldc 32, 2) := by decide +kernel
theorem dL_train_13 : decode cL_train 13 = .ok (.ireturn, 1) := by decide +kernel
theorem dL_train_14 : decode cL_train 14 = .ok (.astore 4, 2) := by decide +kernel
theorem dL_train_16 : decode cL_train 16 = .ok (.ldc 18, 2) := by decide +kernel
theorem dL_train_18 : decode cL_train 18 = .ok (.ireturn, 1) := by decide +kernel
theorem dL_report_0 : decode cL_report 0 = .ok (.aload_n 0, 1) := by decide +kernel
theorem dL_report_1 : decode cL_report 1 = .ok (.iload_n 1, 1) := by decide +kernel
theorem dL_report_2 : decode cL_report 2 = .ok (.iload_n 2, 1) := by decide +kernel
theorem dL_report_3 : decode cL_report 3 = .ok (.iload_n 3, 1) := by decide +kernel
theorem dL_report_4 : decode cL_report 4 = .ok (.invokevirtual 40, 3) := by decide +kernel
theorem dL_report_7 : decode cL_report 7 = .ok (.ireturn, 1) := by decide +kernel
theorem dL_report_8 : decode cL_report 8 = .ok (.astore 4, 2) := by decide +kernel
theorem dL_report_10 : decode cL_report 10 = .ok (.ldc 32, 2) := by decide +kernel
theorem dL_report_12 : decode cL_report 12 = .ok (.ireturn, 1) := by decide +kernel
theorem dL_report_13 : decode cL_report 13 = .ok (.astore 4, 2) := by decide +kernel
theorem dL_report_15 : decode cL_report 15 = .ok (.ldc 18, 2) := by decide +kernel
theorem dL_report_17 : decode cL_report 17 = .ok (.ireturn, 1) := by decide +kernel
theorem dL_report_18 : decode cL_report 18 = .ok (.astore 4, 2) := by decide +kernel
theorem dL_report_20 : decode cL_report 20 = .ok (.ldc 21, 2) := by decide +kernel
theorem dL_report_22 : decode cL_report 22 = .ok (.ireturn, 1) := by decide +kernel
theorem dL_see_0 : decode cL_see 0 = .ok (.aload_n 0, 1) := by decide +kernel
theorem dL_see_1 : decode cL_see 1 = .ok (.iload_n 1, 1) := by decide +kernel
theorem dL_see_2 : decode cL_see 2 = .ok (.invokevirtual 43, 3) := by decide +kernel
theorem dL_see_5 : decode cL_see 5 = .ok (.ifCond .eq 7, 3) := by decide +kernel
theorem dL_see_8 : decode cL_see 8 = .ok (.iconst 1, 1) := by decide +kernel
theorem dL_see_9 : decode cL_see 9 = .ok (.goto 4, 3) := by decide +kernel
theorem dL_see_12 : decode cL_see 12 = .ok (.iconst 0, 1) := by decide +kernel
theorem dL_see_13 : decode cL_see 13 = .ok (.ireturn, 1) := by decide +kernel
theorem dL_see_14 : decode cL_see 14 = .ok (.astore_n 2, 1) := by decide +kernel
theorem dL_see_15 : decode cL_see 15 = .ok (.ldc 32, 2) := by decide +kernel
theorem dL_see_17 : decode cL_see 17 = .ok (.ireturn, 1) := by decide +kernel
theorem dL_risk_0 : decode cL_risk 0 = .ok (.aload_n 0, 1) := by decide +kernel
theorem dL_risk_1 : decode cL_risk 1 = .ok (.iload_n 1, 1) := by decide +kernel
theorem dL_risk_2 : decode cL_risk 2 = .ok (.invokevirtual 47, 3) := by decide +kernel
theorem dL_risk_5 : decode cL_risk 5 = .ok (.ireturn, 1) := by decide +kernel
theorem dL_risk_6 : decode cL_risk 6 = .ok (.astore_n 2, 1) := by decide +kernel
theorem dL_risk_7 : decode cL_risk 7 = .ok (.ldc 32, 2) := by decide +kernel
theorem dL_risk_9 : decode cL_risk 9 = .ok (.ireturn, 1) := by decide +kernel
theorem dL_seeBy_0 : decode cL_seeBy 0 = .ok (.aload_n 0, 1) := by decide +kernel
theorem dL_seeBy_1 : decode cL_seeBy 1 = .ok (.iload_n 1, 1) := by decide +kernel
theorem dL_seeBy_2 : decode cL_seeBy 2 = .ok (.invokevirtual 51, 3) := by decide +kernel
theorem dL_seeBy_5 : decode cL_seeBy 5 = .ok (.ireturn, 1) := by decide +kernel
theorem dL_seeBy_6 : decode cL_seeBy 6 = .ok (.astore_n 2, 1) := by decide +kernel
theorem dL_seeBy_7 : decode cL_seeBy 7 = .ok (.ldc 32, 2) := by decide +kernel
theorem dL_seeBy_9 : decode cL_seeBy 9 = .ok (.ireturn, 1) := by decide +kernel
theorem dL_order_0 : decode cL_order 0 = .ok (.aload_n 0, 1) := by decide +kernel
theorem dL_order_1 : decode cL_order 1 = .ok (.iload_n 1, 1) := by decide +kernel
theorem dL_order_2 : decode cL_order 2 = .ok (.iload_n 2, 1) := by decide +kernel
theorem dL_order_3 : decode cL_order 3 = .ok (.iload_n 3, 1) := by decide +kernel
theorem dL_order_4 : decode cL_order 4 = .ok (.iload 4, 2) := by decide +kernel
theorem dL_order_6 : decode cL_order 6 = .ok (.invokevirtual 54, 3) := by decide +kernel
theorem dL_order_9 : decode cL_order 9 = .ok (.ireturn, 1) := by decide +kernel
theorem dL_order_10 : decode cL_order 10 = .ok (.astore 5, 2) := by decide +kernel
theorem dL_order_12 : decode cL_order 12 = .ok (.ldc 32, 2) := by decide +kernel
theorem dL_order_14 : decode cL_order 14 = .ok (.ireturn, 1) := by decide +kernel
theorem dL_order_15 : decode cL_order 15 = .ok (.astore 5, 2) := by decide +kernel
theorem dL_order_17 : decode cL_order 17 = .ok (.ldc 18, 2) := by decide +kernel
theorem dL_order_19 : decode cL_order 19 = .ok (.ireturn, 1) := by decide +kernel
theorem dL_order_20 : decode cL_order 20 = .ok (.astore 5, 2) := by decide +kernel
theorem dL_order_22 : decode cL_order 22 = .ok (.ldc 21, 2) := by decide +kernel
theorem dL_order_24 : decode cL_order 24 = .ok (.ireturn, 1) := by decide +kernel
theorem dL_counts_0 : decode cL_counts 0 = .ok (.aload_n 0, 1) := by decide +kernel
theorem dL_counts_1 : decode cL_counts 1 = .ok (.iload_n 1, 1) := by decide +kernel
theorem dL_counts_2 : decode cL_counts 2 = .ok (.iload_n 2, 1) := by decide +kernel
theorem dL_counts_3 : decode cL_counts 3 = .ok (.invokevirtual 58, 3) := by decide +kernel
theorem dL_counts_6 : decode cL_counts 6 = .ok (.ireturn, 1) := by decide +kernel
theorem dL_counts_7 : decode cL_counts 7 = .ok (.astore_n 3, 1) := by decide +kernel
theorem dL_counts_8 : decode cL_counts 8 = .ok (.ldc 32, 2) := by decide +kernel
theorem dL_counts_10 : decode cL_counts 10 = .ok (.ireturn, 1) := by decide +kernel
theorem dL_counts_11 : decode cL_counts 11 = .ok (.astore_n 3, 1) := by decide +kernel
theorem dL_counts_12 : decode cL_counts 12 = .ok (.ldc 18, 2) := by decide +kernel
theorem dL_counts_14 : decode cL_counts 14 = .ok (.ireturn, 1) := by decide +kernel
theorem dL_wish_0 : decode cL_wish 0 = .ok (.aload_n 0, 1) := by decide +kernel
theorem dL_wish_1 : decode cL_wish 1 = .ok (.iload_n 1, 1) := by decide +kernel
theorem dL_wish_2 : decode cL_wish 2 = .ok (.iload_n 2, 1) := by decide +kernel
theorem dL_wish_3 : decode cL_wish 3 = .ok (.iload_n 3, 1) := by decide +kernel
theorem dL_wish_4 : decode cL_wish 4 = .ok (.invokevirtual 62, 3) := by decide +kernel
theorem dL_wish_7 : decode cL_wish 7 = .ok (.iconst 0, 1) := by decide +kernel
theorem dL_wish_8 : decode cL_wish 8 = .ok (.ireturn, 1) := by decide +kernel
theorem dL_wish_9 : decode cL_wish 9 = .ok (.astore 4, 2) := by decide +kernel
theorem dL_wish_11 : decode cL_wish 11 = .ok (.ldc 32, 2) := by decide +kernel
theorem dL_wish_13 : decode cL_wish 13 = .ok (.ireturn, 1) := by decide +kernel
theorem dL_why_0 : decode cL_why 0 = .ok (.aload_n 0, 1) := by decide +kernel
theorem dL_why_1 : decode cL_why 1 = .ok (.iload_n 1, 1) := by decide +kernel
theorem dL_why_2 : decode cL_why 2 = .ok (.iload_n 2, 1) := by decide +kernel
theorem dL_why_3 : decode cL_why 3 = .ok (.invokevirtual 66, 3) := by decide +kernel
theorem dL_why_6 : decode cL_why 6 = .ok (.ireturn, 1) := by decide +kernel
theorem dL_why_7 : decode cL_why 7 = .ok (.astore_n 3, 1) := by decide +kernel
theorem dL_why_8 : decode cL_why 8 = .ok (.ldc 32, 2) := by decide +kernel
theorem dL_why_10 : decode cL_why 10 = .ok (.ireturn, 1) := by decide +kernel
theorem dL_worth_0 : decode cL_worth 0 = .ok (.aload_n 0, 1) := by decide +kernel
theorem dL_worth_1 : decode cL_worth 1 = .ok (.iload_n 1, 1) := by decide +kernel
theorem dL_worth_2 : decode cL_worth 2 = .ok (.iload_n 2, 1) := by decide +kernel
theorem dL_worth_3 : decode cL_worth 3 = .ok (.invokevirtual 69, 3) := by decide +kernel
theorem dL_worth_6 : decode cL_worth 6 = .ok (.ireturn, 1) := by decide +kernel
theorem dL_worth_7 : decode cL_worth 7 = .ok (.astore_n 3, 1) := by decide +kernel
theorem dL_worth_8 : decode cL_worth 8 = .ok (.ldc 32, 2) := by decide +kernel
theorem dL_worth_10 : decode cL_worth 10 = .ok (.ireturn, 1) := by decide +kernel
theorem dL_best_0 : decode cL_best 0 = .ok (.aload_n 0, 1) := by decide +kernel
theorem dL_best_1 : decode cL_best 1 = .ok (.iload_n 1, 1) := by decide +kernel
theorem dL_best_2 : decode cL_best 2 = .ok (.invokevirtual 72, 3) := by decide +kernel
theorem dL_best_5 : decode cL_best 5 = .ok (.ireturn, 1) := by decide +kernel
theorem dL_best_6 : decode cL_best 6 = .ok (.astore_n 2, 1) := by decide +kernel
theorem dL_best_7 : decode cL_best 7 = .ok (.ldc 32, 2) := by decide +kernel
theorem dL_best_9 : decode cL_best 9 = .ok (.ireturn, 1) := by decide +kernel
theorem dL_place_0 : decode cL_place 0 = .ok (.aload_n 0, 1) := by decide +kernel
theorem dL_place_1 : decode cL_place 1 = .ok (.iload_n 1, 1) := by decide +kernel
theorem dL_place_2 : decode cL_place 2 = .ok (.iload_n 2, 1) := by decide +kernel
theorem dL_place_3 : decode cL_place 3 = .ok (.invokevirtual 75, 3) := by decide +kernel
theorem dL_place_6 : decode cL_place 6 = .ok (.ireturn, 1) := by decide +kernel
theorem dL_place_7 : decode cL_place 7 = .ok (.astore_n 3, 1) := by decide +kernel
theorem dL_place_8 : decode cL_place 8 = .ok (.ldc 32, 2) := by decide +kernel
theorem dL_place_10 : decode cL_place 10 = .ok (.ireturn, 1) := by decide +kernel
theorem dL_place_11 : decode cL_place 11 = .ok (.astore_n 3, 1) := by decide +kernel
theorem dL_place_12 : decode cL_place 12 = .ok (.ldc 21, 2) := by decide +kernel
theorem dL_place_14 : decode cL_place 14 = .ok (.ireturn, 1) := by decide +kernel
theorem dL_placeAll_0 : decode cL_placeAll 0 = .ok (.aload_n 0, 1) := by decide +kernel
theorem dL_placeAll_1 : decode cL_placeAll 1 = .ok (.iload_n 1, 1) := by decide +kernel
theorem dL_placeAll_2 : decode cL_placeAll 2 = .ok (.invokevirtual 78, 3) := by decide +kernel
theorem dL_placeAll_5 : decode cL_placeAll 5 = .ok (.ireturn, 1) := by decide +kernel
theorem dL_placeAll_6 : decode cL_placeAll 6 = .ok (.astore_n 2, 1) := by decide +kernel
theorem dL_placeAll_7 : decode cL_placeAll 7 = .ok (.ldc 18, 2) := by decide +kernel
theorem dL_placeAll_9 : decode cL_placeAll 9 = .ok (.ireturn, 1) := by decide +kernel
theorem dL_placeAll_10 : decode cL_placeAll 10 = .ok (.astore_n 2, 1) := by decide +kernel
theorem dL_placeAll_11 : decode cL_placeAll 11 = .ok (.ldc 21, 2) := by decide +kernel
theorem dL_placeAll_13 : decode cL_placeAll 13 = .ok (.ireturn, 1) := by decide +kernel
theorem dL_visits_0 : decode cL_visits 0 = .ok (.aload_n 0, 1) := by decide +kernel
theorem dL_visits_1 : decode cL_visits 1 = .ok (.iload_n 1, 1) := by decide +kernel
theorem dL_visits_2 : decode cL_visits 2 = .ok (.iload_n 2, 1) := by decide +kernel
theorem dL_visits_3 : decode cL_visits 3 = .ok (.invokevirtual 81, 3) := by decide +kernel
theorem dL_visits_6 : decode cL_visits 6 = .ok (.ireturn, 1) := by decide +kernel
theorem dL_visits_7 : decode cL_visits 7 = .ok (.astore_n 3, 1) := by decide +kernel
theorem dL_visits_8 : decode cL_visits 8 = .ok (.ldc 32, 2) := by decide +kernel
theorem dL_visits_10 : decode cL_visits 10 = .ok (.ireturn, 1) := by decide +kernel
theorem dL_visits_11 : decode cL_visits 11 = .ok (.astore_n 3, 1) := by decide +kernel
theorem dL_visits_12 : decode cL_visits 12 = .ok (.ldc 18, 2) := by decide +kernel
theorem dL_visits_14 : decode cL_visits 14 = .ok (.ireturn, 1) := by decide +kernel
theorem dL_came_0 : decode cL_came 0 = .ok (.aload_n 0, 1) := by decide +kernel
theorem dL_came_1 : decode cL_came 1 = .ok (.iload_n 1, 1) := by decide +kernel
theorem dL_came_2 : decode cL_came 2 = .ok (.invokevirtual 84, 3) := by decide +kernel
theorem dL_came_5 : decode cL_came 5 = .ok (.iconst 0, 1) := by decide +kernel
theorem dL_came_6 : decode cL_came 6 = .ok (.ireturn, 1) := by decide +kernel
theorem dL_came_7 : decode cL_came 7 = .ok (.astore_n 2, 1) := by decide +kernel
theorem dL_came_8 : decode cL_came 8 = .ok (.ldc 32, 2) := by decide +kernel
theorem dL_came_10 : decode cL_came 10 = .ok (.ireturn, 1) := by decide +kernel
theorem dL_came_11 : decode cL_came 11 = .ok (.astore_n 2, 1) := by decide +kernel
theorem dL_came_12 : decode cL_came 12 = .ok (.ldc 21, 2) := by decide +kernel
theorem dL_came_14 : decode cL_came 14 = .ok (.ireturn, 1) := by decide +kernel
theorem dL_pay_0 : decode cL_pay 0 = .ok (.aload_n 0, 1) := by decide +kernel
theorem dL_pay_1 : decode cL_pay 1 = .ok (.iload_n 1, 1) := by decide +kernel
theorem dL_pay_2 : decode cL_pay 2 = .ok (.iload_n 2, 1) := by decide +kernel
theorem dL_pay_3 : decode cL_pay 3 = .ok (.invokevirtual 88, 3) := by decide +kernel
theorem dL_pay_6 : decode cL_pay 6 = .ok (.ireturn, 1) := by decide +kernel
theorem dL_pay_7 : decode cL_pay 7 = .ok (.astore_n 3, 1) := by decide +kernel
theorem dL_pay_8 : decode cL_pay 8 = .ok (.ldc 32, 2) := by decide +kernel
theorem dL_pay_10 : decode cL_pay 10 = .ok (.ireturn, 1) := by decide +kernel
theorem dL_pay_11 : decode cL_pay 11 = .ok (.astore_n 3, 1) := by decide +kernel
theorem dL_pay_12 : decode cL_pay 12 = .ok (.ldc 18, 2) := by decide +kernel
theorem dL_pay_14 : decode cL_pay 14 = .ok (.ireturn, 1) := by decide +kernel
theorem dL_owed_0 : decode cL_owed 0 = .ok (.aload_n 0, 1) := by decide +kernel
theorem dL_owed_1 : decode cL_owed 1 = .ok (.iload_n 1, 1) := by decide +kernel
theorem dL_owed_2 : decode cL_owed 2 = .ok (.invokevirtual 91, 3) := by decide +kernel
theorem dL_owed_5 : decode cL_owed 5 = .ok (.ireturn, 1) := by decide +kernel
theorem dL_owed_6 : decode cL_owed 6 = .ok (.astore_n 2, 1) := by decide +kernel
theorem dL_owed_7 : decode cL_owed 7 = .ok (.ldc 32, 2) := by decide +kernel
theorem dL_owed_9 : decode cL_owed 9 = .ok (.ireturn, 1) := by decide +kernel
theorem dL_handOver_0 : decode cL_handOver 0 = .ok (.aload_n 0, 1) := by decide +kernel
theorem dL_handOver_1 : decode cL_handOver 1 = .ok (.iload_n 1, 1) := by decide +kernel
theorem dL_handOver_2 : decode cL_handOver 2 = .ok (.iload_n 2, 1) := by decide +kernel
theorem dL_handOver_3 : decode cL_handOver 3 = .ok (.invokevirtual 94, 3) := by decide +kernel
theorem dL_handOver_6 : decode cL_handOver 6 = .ok (.ireturn, 1) := by decide +kernel
theorem dL_handOver_7 : decode cL_handOver 7 = .ok (.astore_n 3, 1) := by decide +kernel
theorem dL_handOver_8 : decode cL_handOver 8 = .ok (.ldc 32, 2) := by decide +kernel
theorem dL_handOver_10 : decode cL_handOver 10 = .ok (.ireturn, 1) := by decide +kernel
theorem dL_load_0 : decode cL_load 0 = .ok (.aload_n 0, 1) := by decide +kernel
theorem dL_load_1 : decode cL_load 1 = .ok (.iload_n 1, 1) := by decide +kernel
theorem dL_load_2 : decode cL_load 2 = .ok (.invokevirtual 97, 3) := by decide +kernel
theorem dL_load_5 : decode cL_load 5 = .ok (.ireturn, 1) := by decide +kernel
theorem dL_load_6 : decode cL_load 6 = .ok (.astore_n 2, 1) := by decide +kernel
theorem dL_load_7 : decode cL_load 7 = .ok (.ldc 32, 2) := by decide +kernel
theorem dL_load_9 : decode cL_load 9 = .ok (.ireturn, 1) := by decide +kernel
theorem dL_pass_0 : decode cL_pass 0 = .ok (.aload_n 0, 1) := by decide +kernel
theorem dL_pass_1 : decode cL_pass 1 = .ok (.iload_n 1, 1) := by decide +kernel
theorem dL_pass_2 : decode cL_pass 2 = .ok (.invokevirtual 100, 3) := by decide +kernel
theorem dL_pass_5 : decode cL_pass 5 = .ok (.ireturn, 1) := by decide +kernel
theorem dL_pass_6 : decode cL_pass 6 = .ok (.astore_n 2, 1) := by decide +kernel
theorem dL_pass_7 : decode cL_pass 7 = .ok (.ldc 18, 2) := by decide +kernel
theorem dL_pass_9 : decode cL_pass 9 = .ok (.ireturn, 1) := by decide +kernel
theorem dL_pass_10 : decode cL_pass 10 = .ok (.astore_n 2, 1) := by decide +kernel
theorem dL_pass_11 : decode cL_pass 11 = .ok (.ldc 21, 2) := by decide +kernel
theorem dL_pass_13 : decode cL_pass 13 = .ok (.ireturn, 1) := by decide +kernel
theorem dL_childIs_0 : decode cL_childIs 0 = .ok (.aload_n 0, 1) := by decide +kernel
theorem dL_childIs_1 : decode cL_childIs 1 = .ok (.iload_n 1, 1) := by decide +kernel
theorem dL_childIs_2 : decode cL_childIs 2 = .ok (.iload_n 2, 1) := by decide +kernel
theorem dL_childIs_3 : decode cL_childIs 3 = .ok (.invokevirtual 103, 3) := by decide +kernel
theorem dL_childIs_6 : decode cL_childIs 6 = .ok (.ireturn, 1) := by decide +kernel
theorem dL_childIs_7 : decode cL_childIs 7 = .ok (.astore_n 3, 1) := by decide +kernel
theorem dL_childIs_8 : decode cL_childIs 8 = .ok (.ldc 32, 2) := by decide +kernel
theorem dL_childIs_10 : decode cL_childIs 10 = .ok (.ireturn, 1) := by decide +kernel
theorem dL_childIs_11 : decode cL_childIs 11 = .ok (.astore_n 3, 1) := by decide +kernel
theorem dL_childIs_12 : decode cL_childIs 12 = .ok (.ldc 18, 2) := by decide +kernel
theorem dL_childIs_14 : decode cL_childIs 14 = .ok (.ireturn, 1) := by decide +kernel
theorem dL_stay_0 : decode cL_stay 0 = .ok (.aload_n 0, 1) := by decide +kernel
theorem dL_stay_1 : decode cL_stay 1 = .ok (.iload_n 1, 1) := by decide +kernel
theorem dL_stay_2 : decode cL_stay 2 = .ok (.iload_n 2, 1) := by decide +kernel
theorem dL_stay_3 : decode cL_stay 3 = .ok (.invokevirtual 106, 3) := by decide +kernel
theorem dL_stay_6 : decode cL_stay 6 = .ok (.ireturn, 1) := by decide +kernel
theorem dL_stay_7 : decode cL_stay 7 = .ok (.astore_n 3, 1) := by decide +kernel
theorem dL_stay_8 : decode cL_stay 8 = .ok (.ldc 32, 2) := by decide +kernel
theorem dL_stay_10 : decode cL_stay 10 = .ok (.ireturn, 1) := by decide +kernel
theorem dL_stay_11 : decode cL_stay 11 = .ok (.astore_n 3, 1) := by decide +kernel
theorem dL_stay_12 : decode cL_stay 12 = .ok (.ldc 18, 2) := by decide +kernel
theorem dL_stay_14 : decode cL_stay 14 = .ok (.ireturn, 1) := by decide +kernel
theorem dL_wasAllowed_0 : decode cL_wasAllowed 0 = .ok (.aload_n 0, 1) := by decide +kernel
theorem dL_wasAllowed_1 : decode cL_wasAllowed 1 = .ok (.iload_n 1, 1) := by decide +kernel
theorem dL_wasAllowed_2 : decode cL_wasAllowed 2 = .ok (.invokevirtual 109, 3) := by decide +kernel
theorem dL_wasAllowed_5 : decode cL_wasAllowed 5 = .ok (.ifCond .eq 7, 3) := by decide +kernel
theorem dL_wasAllowed_8 : decode cL_wasAllowed 8 = .ok (.iconst 1, 1) := by decide +kernel
theorem dL_wasAllowed_9 : decode cL_wasAllowed 9 = .ok (.goto 4, 3) := by decide +kernel
theorem dL_wasAllowed_12 : decode cL_wasAllowed 12 = .ok (.iconst 0, 1) := by decide +kernel
theorem dL_wasAllowed_13 : decode cL_wasAllowed 13 = .ok (.ireturn, 1) := by decide +kernel
theorem dL_wasAllowed_14 : decode cL_wasAllowed 14 = .ok (.astore_n 2, 1) := by decide +kernel
theorem dL_wasAllowed_15 : decode cL_wasAllowed 15 = .ok (.ldc 32, 2) := by decide +kernel
theorem dL_wasAllowed_17 : decode cL_wasAllowed 17 = .ok (.ireturn, 1) := by decide +kernel
theorem dL_file_0 : decode cL_file 0 = .ok (.aload_n 0, 1) := by decide +kernel
theorem dL_file_1 : decode cL_file 1 = .ok (.iload_n 1, 1) := by decide +kernel
theorem dL_file_2 : decode cL_file 2 = .ok (.iload_n 2, 1) := by decide +kernel
theorem dL_file_3 : decode cL_file 3 = .ok (.invokevirtual 116, 3) := by decide +kernel
theorem dL_file_6 : decode cL_file 6 = .ok (.ireturn, 1) := by decide +kernel
theorem dL_file_7 : decode cL_file 7 = .ok (.astore_n 3, 1) := by decide +kernel
theorem dL_file_8 : decode cL_file 8 = .ok (.ldc 32, 2) := by decide +kernel
theorem dL_file_10 : decode cL_file 10 = .ok (.ireturn, 1) := by decide +kernel
theorem dL_file_11 : decode cL_file 11 = .ok (.astore_n 3, 1) := by decide +kernel
theorem dL_file_12 : decode cL_file 12 = .ok (.ldc 21, 2) := by decide +kernel
theorem dL_file_14 : decode cL_file 14 = .ok (.ireturn, 1) := by decide +kernel
theorem dL_areChildren_0 : decode cL_areChildren 0 = .ok (.aload_n 0, 1) := by decide +kernel
theorem dL_areChildren_1 : decode cL_areChildren 1 = .ok (.aload_n 1, 1) := by decide +kernel
theorem dL_areChildren_2 : decode cL_areChildren 2 = .ok (.iconst 0, 1) := by decide +kernel
theorem dL_areChildren_3 : decode cL_areChildren 3 = .ok (.iaload, 1) := by decide +kernel
theorem dL_areChildren_4 : decode cL_areChildren 4 = .ok (.iconst 0, 1) := by decide +kernel
theorem dL_areChildren_5 : decode cL_areChildren 5 = .ok (.invokestatic 119, 3) := by decide +kernel
theorem dL_areChildren_8 : decode cL_areChildren 8 = .ok (.ldc 32, 2) := by decide +kernel
theorem dL_areChildren_10 : decode cL_areChildren 10 = .ok (.if_icmp .ne 7, 3) := by decide +kernel
theorem dL_areChildren_13 : decode cL_areChildren 13 = .ok (.iconst 1, 1) := by decide +kernel
theorem dL_areChildren_14 : decode cL_areChildren 14 = .ok (.goto 4, 3) := by decide +kernel
theorem dL_areChildren_17 : decode cL_areChildren 17 = .ok (.iconst 0, 1) := by decide +kernel
theorem dL_areChildren_18 : decode cL_areChildren 18 = .ok (.istore 5, 2) := by decide +kernel
theorem dL_areChildren_20 : decode cL_areChildren 20 = .ok (.iconst 0, 1) := by decide +kernel
theorem dL_areChildren_21 : decode cL_areChildren 21 = .ok (.istore 6, 2) := by decide +kernel
theorem dL_areChildren_23 : decode cL_areChildren 23 = .ok (.iconst 0, 1) := by decide +kernel
theorem dL_areChildren_24 : decode cL_areChildren 24 = .ok (.istore 7, 2) := by decide +kernel
theorem dL_areChildren_26 : decode cL_areChildren 26 = .ok (.iload 7, 2) := by decide +kernel
theorem dL_areChildren_28 : decode cL_areChildren 28 = .ok (.aload_n 1, 1) := by decide +kernel
theorem dL_areChildren_29 : decode cL_areChildren 29 = .ok (.iconst 0, 1) := by decide +kernel
theorem dL_areChildren_30 : decode cL_areChildren 30 = .ok (.iaload, 1) := by decide +kernel
theorem dL_areChildren_31 : decode cL_areChildren 31 = .ok (.if_icmp .ge 391, 3) := by decide +kernel
theorem dL_areChildren_34 : decode cL_areChildren 34 = .ok (.iload 5, 2) := by decide +kernel
theorem dL_areChildren_36 : decode cL_areChildren 36 = .ok (.ifCond .eq 386, 3) := by decide +kernel
theorem dL_areChildren_39 : decode cL_areChildren 39 = .ok (.aload_n 0, 1) := by decide +kernel
theorem dL_areChildren_40 : decode cL_areChildren 40 = .ok (.iload 7, 2) := by decide +kernel
theorem dL_areChildren_42 : decode cL_areChildren 42 = .ok (.iconst 0, 1) := by decide +kernel
theorem dL_areChildren_43 : decode cL_areChildren 43 = .ok (.invokestatic 119, 3) := by decide +kernel
theorem dL_areChildren_46 : decode cL_areChildren 46 = .ok (.istore 8, 2) := by decide +kernel
theorem dL_areChildren_48 : decode cL_areChildren 48 = .ok (.aload_n 0, 1) := by decide +kernel
theorem dL_areChildren_49 : decode cL_areChildren 49 = .ok (.iload 7, 2) := by decide +kernel
theorem dL_areChildren_51 : decode cL_areChildren 51 = .ok (.invokestatic 124, 3) := by decide +kernel
theorem dL_areChildren_54 : decode cL_areChildren 54 = .ok (.istore 9, 2) := by decide +kernel
theorem dL_areChildren_56 : decode cL_areChildren 56 = .ok (.aload_n 0, 1) := by decide +kernel
theorem dL_areChildren_57 : decode cL_areChildren 57 = .ok (.iload 7, 2) := by decide +kernel
theorem dL_areChildren_59 : decode cL_areChildren 59 = .ok (.invokestatic 127, 3) := by decide +kernel
theorem dL_areChildren_62 : decode cL_areChildren 62 = .ok (.istore 10, 2) := by decide +kernel
theorem dL_areChildren_64 : decode cL_areChildren 64 = .ok (.aload_n 0, 1) := by decide +kernel
theorem dL_areChildren_65 : decode cL_areChildren 65 = .ok (.iload 7, 2) := by decide +kernel
theorem dL_areChildren_67 : decode cL_areChildren 67 = .ok (.invokestatic 129, 3) := by decide +kernel
theorem dL_areChildren_70 : decode cL_areChildren 70 = .ok (.istore 11, 2) := by decide +kernel
theorem dL_areChildren_72 : decode cL_areChildren 72 = .ok (.iload 6, 2) := by decide +kernel
theorem dL_areChildren_74 : decode cL_areChildren 74 = .ok (.aload_n 0, 1) := by decide +kernel
theorem dL_areChildren_75 : decode cL_areChildren 75 = .ok (.iload 7, 2) := by decide +kernel
theorem dL_areChildren_77 : decode cL_areChildren 77 = .ok (.iconst 2, 1) := by decide +kernel
theorem dL_areChildren_78 : decode cL_areChildren 78 = .ok (.invokestatic 119, 3) := by decide +kernel
theorem dL_areChildren_81 : decode cL_areChildren 81 = .ok (.iadd, 1) := by decide +kernel
theorem dL_areChildren_82 : decode cL_areChildren 82 = .ok (.istore 6, 2) := by decide +kernel
theorem dL_areChildren_84 : decode cL_areChildren 84 = .ok (.iload 8, 2) := by decide +kernel
theorem dL_areChildren_86 : decode cL_areChildren 86 = .ok (.iconst (-1), 1) := by decide +kernel
theorem dL_areChildren_87 : decode cL_areChildren 87 = .ok (.if_icmp .lt 147, 3) := by decide +kernel
theorem dL_areChildren_90 : decode cL_areChildren 90 = .ok (.iload 8, 2) := by decide +kernel
theorem dL_areChildren_92 : decode cL_areChildren 92 = .ok (.aload_n 1, 1) := by decide +kernel
theorem dL_areChildren_93 : decode cL_areChildren 93 = .ok (.iconst 1, 1) := by decide +kernel
theorem dL_areChildren_94 : decode cL_areChildren 94 = .ok (.iaload, 1) := by decide +kernel
theorem dL_areChildren_95 : decode cL_areChildren 95 = .ok (.if_icmp .ge 139, 3) := by decide +kernel
theorem dL_areChildren_98 : decode cL_areChildren 98 = .ok (.aload_n 0, 1) := by decide +kernel
theorem dL_areChildren_99 : decode cL_areChildren 99 = .ok (.iload 7, 2) := by decide +kernel
theorem dL_areChildren_101 : decode cL_areChildren 101 = .ok (.iconst 1, 1) := by decide +kernel
theorem dL_areChildren_102 : decode cL_areChildren 102 = .ok (.invokestatic 119, 3) := by decide +kernel
theorem dL_areChildren_105 : decode cL_areChildren 105 = .ok (.aload_n 2, 1) := by decide +kernel
theorem dL_areChildren_106 : decode cL_areChildren 106 = .ok (.iload 7, 2) := by decide +kernel
theorem dL_areChildren_108 : decode cL_areChildren 108 = .ok (.iaload, 1) := by decide +kernel
theorem dL_areChildren_109 : decode cL_areChildren 109 = .ok (.aload_n 1, 1) := by decide +kernel
theorem dL_areChildren_110 : decode cL_areChildren 110 = .ok (.iconst 4, 1) := by decide +kernel
theorem dL_areChildren_111 : decode cL_areChildren 111 = .ok (.iaload, 1) := by decide +kernel
theorem dL_areChildren_112 : decode cL_areChildren 112 = .ok (.iadd, 1) := by decide +kernel
theorem dL_areChildren_113 : decode cL_areChildren 113 = .ok (.sipush 365, 3) := by decide +kernel
theorem dL_areChildren_116 : decode cL_areChildren 116 = .ok (.idiv, 1) := by decide +kernel
theorem dL_areChildren_117 : decode cL_areChildren 117 = .ok (.if_icmp .ne 117, 3) := by decide +kernel
theorem dL_areChildren_120 : decode cL_areChildren 120 = .ok (.aload_n 0, 1) := by decide +kernel
theorem dL_areChildren_121 : decode cL_areChildren 121 = .ok (.iload 7, 2) := by decide +kernel
theorem dL_areChildren_123 : decode cL_areChildren 123 = .ok (.bipush 6, 2) := by decide +kernel
theorem dL_areChildren_125 : decode cL_areChildren 125 = .ok (.invokestatic 119, 3) := by decide +kernel
theorem dL_areChildren_128 : decode cL_areChildren 128 = .ok (.ifCond .lt 106, 3) := by decide +kernel
theorem dL_areChildren_131 : decode cL_areChildren 131 = .ok (.aload_n 0, 1) := by decide +kernel
theorem dL_areChildren_132 : decode cL_areChildren 132 = .ok (.iload 7, 2) := by decide +kernel
theorem dL_areChildren_134 : decode cL_areChildren 134 = .ok (.bipush 6, 2) := by decide +kernel
theorem dL_areChildren_136 : decode cL_areChildren 136 = .ok (.invokestatic 119, 3) := by decide +kernel
theorem dL_areChildren_139 : decode cL_areChildren 139 = .ok (.iconst 5, 1) := by decide +kernel
theorem dL_areChildren_140 : decode cL_areChildren 140 = .ok (.if_icmp .ge 94, 3) := by decide +kernel
theorem dL_areChildren_143 : decode cL_areChildren 143 = .ok (.iload 10, 2) := by decide +kernel
theorem dL_areChildren_145 : decode cL_areChildren 145 = .ok (.ifCond .lt 89, 3) := by decide +kernel
theorem dL_areChildren_148 : decode cL_areChildren 148 = .ok (.iload 10, 2) := by decide +kernel
theorem dL_areChildren_150 : decode cL_areChildren 150 = .ok (.ifCond .gt 9, 3) := by decide +kernel
theorem dL_areChildren_153 : decode cL_areChildren 153 = .ok (.iload 11, 2) := by decide +kernel
theorem dL_areChildren_155 : decode cL_areChildren 155 = .ok (.iconst (-1), 1) := by decide +kernel
theorem dL_areChildren_156 : decode cL_areChildren 156 = .ok (.if_icmp .ne 78, 3) := by decide +kernel
theorem dL_areChildren_159 : decode cL_areChildren 159 = .ok (.iload 11, 2) := by decide +kernel
theorem dL_areChildren_161 : decode cL_areChildren 161 = .ok (.iconst (-1), 1) := by decide +kernel
theorem dL_areChildren_162 : decode cL_areChildren 162 = .ok (.if_icmp .eq 14, 3) := by decide +kernel
theorem dL_areChildren_165 : decode cL_areChildren 165 = .ok (.iload 11, 2) := by decide +kernel
theorem dL_areChildren_167 : decode cL_areChildren 167 = .ok (.aload_n 1, 1) := by decide +kernel
theorem dL_areChildren_168 : decode cL_areChildren 168 = .ok (.iconst 4, 1) := by decide +kernel
theorem dL_areChildren_169 : decode cL_areChildren 169 = .ok (.iaload, 1) := by decide +kernel
theorem dL_areChildren_170 : decode cL_areChildren 170 = .ok (.bipush 30, 2) := by decide +kernel
theorem dL_areChildren_172 : decode cL_areChildren 172 = .ok (.isub, 1) := by decide +kernel
theorem dL_areChildren_173 : decode cL_areChildren 173 = .ok (.if_icmp .le 61, 3) := by decide +kernel
theorem dL_areChildren_176 : decode cL_areChildren 176 = .ok (.aload_n 0, 1) := by decide +kernel
theorem dL_areChildren_177 : decode cL_areChildren 177 = .ok (.iload 7, 2) := by decide +kernel
theorem dL_areChildren_179 : decode cL_areChildren 179 = .ok (.iconst 3, 1) := by decide +kernel
theorem dL_areChildren_180 : decode cL_areChildren 180 = .ok (.invokestatic 119, 3) := by decide +kernel
theorem dL_areChildren_183 : decode cL_areChildren 183 = .ok (.ifCond .lt 51, 3) := by decide +kernel
theorem dL_areChildren_186 : decode cL_areChildren 186 = .ok (.aload_n 0, 1) := by decide +kernel
theorem dL_areChildren_187 : decode cL_areChildren 187 = .ok (.iload 7, 2) := by decide +kernel
theorem dL_areChildren_189 : decode cL_areChildren 189 = .ok (.iconst 4, 1) := by decide +kernel
theorem dL_areChildren_190 : decode cL_areChildren 190 = .ok (.invokestatic 119, 3) := by decide +kernel
theorem dL_areChildren_193 : decode cL_areChildren 193 = .ok (.ifCond .lt 41, 3) := by decide +kernel
theorem dL_areChildren_196 : decode cL_areChildren 196 = .ok (.aload_n 0, 1) := by decide +kernel
theorem dL_areChildren_197 : decode cL_areChildren 197 = .ok (.iload 7, 2) := by decide +kernel
theorem dL_areChildren_199 : decode cL_areChildren 199 = .ok (.iconst 5, 1) := by decide +kernel
theorem dL_areChildren_200 : decode cL_areChildren 200 = .ok (.invokestatic 119, 3) := by decide +kernel
theorem dL_areChildren_203 : decode cL_areChildren 203 = .ok (.ifCond .eq 14, 3) := by decide +kernel
theorem dL_areChildren_206 : decode cL_areChildren 206 = .ok (.aload_n 0, 1) := by decide +kernel
theorem dL_areChildren_207 : decode cL_areChildren 207 = .ok (.iload 7, 2) := by decide +kernel
theorem dL_areChildren_209 : decode cL_areChildren 209 = .ok (.iconst 4, 1) := by decide +kernel
theorem dL_areChildren_210 : decode cL_areChildren 210 = .ok (.invokestatic 119, 3) := by decide +kernel
theorem dL_areChildren_213 : decode cL_areChildren 213 = .ok (.iconst 2, 1) := by decide +kernel
theorem dL_areChildren_214 : decode cL_areChildren 214 = .ok (.if_icmp .le 20, 3) := by decide +kernel
theorem dL_areChildren_217 : decode cL_areChildren 217 = .ok (.aload_n 0, 1) := by decide +kernel
theorem dL_areChildren_218 : decode cL_areChildren 218 = .ok (.iload 7, 2) := by decide +kernel
theorem dL_areChildren_220 : decode cL_areChildren 220 = .ok (.bipush 7, 2) := by decide +kernel
theorem dL_areChildren_222 : decode cL_areChildren 222 = .ok (.invokestatic 119, 3) := by decide +kernel
theorem dL_areChildren_225 : decode cL_areChildren 225 = .ok (.ldc 18, 2) := by decide +kernel
theorem dL_areChildren_227 : decode cL_areChildren 227 = .ok (.if_icmp .ne 7, 3) := by decide +kernel
theorem dL_areChildren_230 : decode cL_areChildren 230 = .ok (.iconst 1, 1) := by decide +kernel
theorem dL_areChildren_231 : decode cL_areChildren 231 = .ok (.goto 4, 3) := by decide +kernel
theorem dL_areChildren_234 : decode cL_areChildren 234 = .ok (.iconst 0, 1) := by decide +kernel
theorem dL_areChildren_235 : decode cL_areChildren 235 = .ok (.istore 5, 2) := by decide +kernel
theorem dL_areChildren_237 : decode cL_areChildren 237 = .ok (.iconst 0, 1) := by decide +kernel
theorem dL_areChildren_238 : decode cL_areChildren 238 = .ok (.istore 12, 2) := by decide +kernel
theorem dL_areChildren_240 : decode cL_areChildren 240 = .ok (.iload 12, 2) := by decide +kernel
theorem dL_areChildren_242 : decode cL_areChildren 242 = .ok (.aload_n 1, 1) := by decide +kernel
theorem dL_areChildren_243 : decode cL_areChildren 243 = .ok (.iconst 1, 1) := by decide +kernel
theorem dL_areChildren_244 : decode cL_areChildren 244 = .ok (.iaload, 1) := by decide +kernel
theorem dL_areChildren_245 : decode cL_areChildren 245 = .ok (.if_icmp .ge 110, 3) := by decide +kernel
theorem dL_areChildren_248 : decode cL_areChildren 248 = .ok (.iload 5, 2) := by decide +kernel
theorem dL_areChildren_250 : decode cL_areChildren 250 = .ok (.ifCond .eq 105, 3) := by decide +kernel
theorem dL_areChildren_253 : decode cL_areChildren 253 = .ok (.aload_n 0, 1) := by decide +kernel
theorem dL_areChildren_254 : decode cL_areChildren 254 = .ok (.iload 7, 2) := by decide +kernel
theorem dL_areChildren_256 : decode cL_areChildren 256 = .ok (.iload 12, 2) := by decide +kernel
theorem dL_areChildren_258 : decode cL_areChildren 258 = .ok (.invokestatic 131, 3) := by decide +kernel
theorem dL_areChildren_261 : decode cL_areChildren 261 = .ok (.istore 13, 2) := by decide +kernel
theorem dL_areChildren_263 : decode cL_areChildren 263 = .ok (.iload 13, 2) := by decide +kernel
theorem dL_areChildren_265 : decode cL_areChildren 265 = .ok (.ifCond .lt 81, 3) := by decide +kernel
theorem dL_areChildren_268 : decode cL_areChildren 268 = .ok (.iload 13, 2) := by decide +kernel
theorem dL_areChildren_270 : decode cL_areChildren 270 = .ok (.bipush 8, 2) := by decide +kernel
theorem dL_areChildren_272 : decode cL_areChildren 272 = .ok (.if_icmp .ge 74, 3) := by decide +kernel
theorem dL_areChildren_275 : decode cL_areChildren 275 = .ok (.iload 9, 2) := by decide +kernel
theorem dL_areChildren_277 : decode cL_areChildren 277 = .ok (.iload 12, 2) := by decide +kernel
theorem dL_areChildren_279 : decode cL_areChildren 279 = .ok (.if_icmp .ne 8, 3) := by decide +kernel
theorem dL_areChildren_282 : decode cL_areChildren 282 = .ok (.iload 13, 2) := by decide +kernel
theorem dL_areChildren_284 : decode cL_areChildren 284 = .ok (.ifCond .ne 62, 3) := by decide +kernel
theorem dL_areChildren_287 : decode cL_areChildren 287 = .ok (.iload 13, 2) := by decide +kernel
theorem dL_areChildren_289 : decode cL_areChildren 289 = .ok (.ifCond .ne 53, 3) := by decide +kernel
theorem dL_areChildren_292 : decode cL_areChildren 292 = .ok (.iload 9, 2) := by decide +kernel
theorem dL_areChildren_294 : decode cL_areChildren 294 = .ok (.ifCond .lt 52, 3) := by decide +kernel
theorem dL_areChildren_297 : decode cL_areChildren 297 = .ok (.aload_n 0, 1) := by decide +kernel
theorem dL_areChildren_298 : decode cL_areChildren 298 = .ok (.iload 7, 2) := by decide +kernel
theorem dL_areChildren_300 : decode cL_areChildren 300 = .ok (.iload 9, 2) := by decide +kernel
theorem dL_areChildren_302 : decode cL_areChildren 302 = .ok (.invokestatic 133, 3) := by decide +kernel
theorem dL_areChildren_305 : decode cL_areChildren 305 = .ok (.aload_n 0, 1) := by decide +kernel
theorem dL_areChildren_306 : decode cL_areChildren 306 = .ok (.iload 7, 2) := by decide +kernel
theorem dL_areChildren_308 : decode cL_areChildren 308 = .ok (.iload 12, 2) := by decide +kernel
theorem dL_areChildren_310 : decode cL_areChildren 310 = .ok (.invokestatic 133, 3) := by decide +kernel
theorem dL_areChildren_313 : decode cL_areChildren 313 = .ok (.if_icmp .lt 33, 3) := by decide +kernel
theorem dL_areChildren_316 : decode cL_areChildren 316 = .ok (.aload_n 0, 1) := by decide +kernel
theorem dL_areChildren_317 : decode cL_areChildren 317 = .ok (.iload 7, 2) := by decide +kernel
theorem dL_areChildren_319 : decode cL_areChildren 319 = .ok (.iload 9, 2) := by decide +kernel
theorem dL_areChildren_321 : decode cL_areChildren 321 = .ok (.invokestatic 133, 3) := by decide +kernel
theorem dL_areChildren_324 : decode cL_areChildren 324 = .ok (.aload_n 0, 1) := by decide +kernel
theorem dL_areChildren_325 : decode cL_areChildren 325 = .ok (.iload 7, 2) := by decide +kernel
theorem dL_areChildren_327 : decode cL_areChildren 327 = .ok (.iload 12, 2) := by decide +kernel
theorem dL_areChildren_329 : decode cL_areChildren 329 = .ok (.invokestatic 133, 3) := by decide +kernel
theorem dL_areChildren_332 : decode cL_areChildren 332 = .ok (.if_icmp .gt 10, 3) := by decide +kernel
theorem dL_areChildren_335 : decode cL_areChildren 335 = .ok (.iload 9, 2) := by decide +kernel
theorem dL_areChildren_337 : decode cL_areChildren 337 = .ok (.iload 12, 2) := by decide +kernel
theorem dL_areChildren_339 : decode cL_areChildren 339 = .ok (.if_icmp .gt 7, 3) := by decide +kernel
theorem dL_areChildren_342 : decode cL_areChildren 342 = .ok (.iconst 1, 1) := by decide +kernel
theorem dL_areChildren_343 : decode cL_areChildren 343 = .ok (.goto 4, 3) := by decide +kernel
theorem dL_areChildren_346 : decode cL_areChildren 346 = .ok (.iconst 0, 1) := by decide +kernel
theorem dL_areChildren_347 : decode cL_areChildren 347 = .ok (.istore 5, 2) := by decide +kernel
theorem dL_areChildren_349 : decode cL_areChildren 349 = .ok (.iinc 12 1, 3) := by decide +kernel
theorem dL_areChildren_352 : decode cL_areChildren 352 = .ok (.goto (-112), 3) := by decide +kernel
theorem dL_areChildren_355 : decode cL_areChildren 355 = .ok (.iload 5, 2) := by decide +kernel
theorem dL_areChildren_357 : decode cL_areChildren 357 = .ok (.ifCond .eq 56, 3) := by decide +kernel
theorem dL_areChildren_360 : decode cL_areChildren 360 = .ok (.aload_n 2, 1) := by decide +kernel
theorem dL_areChildren_361 : decode cL_areChildren 361 = .ok (.iload 7, 2) := by decide +kernel
theorem dL_areChildren_363 : decode cL_areChildren 363 = .ok (.iaload, 1) := by decide +kernel
theorem dL_areChildren_364 : decode cL_areChildren 364 = .ok (.aload_n 1, 1) := by decide +kernel
theorem dL_areChildren_365 : decode cL_areChildren 365 = .ok (.iconst 4, 1) := by decide +kernel
theorem dL_areChildren_366 : decode cL_areChildren 366 = .ok (.iaload, 1) := by decide +kernel
theorem dL_areChildren_367 : decode cL_areChildren 367 = .ok (.iadd, 1) := by decide +kernel
theorem dL_areChildren_368 : decode cL_areChildren 368 = .ok (.sipush 365, 3) := by decide +kernel
theorem dL_areChildren_371 : decode cL_areChildren 371 = .ok (.idiv, 1) := by decide +kernel
theorem dL_areChildren_372 : decode cL_areChildren 372 = .ok (.bipush 18, 2) := by decide +kernel
theorem dL_areChildren_374 : decode cL_areChildren 374 = .ok (.if_icmp .ge 18, 3) := by decide +kernel
theorem dL_areChildren_377 : decode cL_areChildren 377 = .ok (.aload_n 0, 1) := by decide +kernel
theorem dL_areChildren_378 : decode cL_areChildren 378 = .ok (.iload 7, 2) := by decide +kernel
theorem dL_areChildren_380 : decode cL_areChildren 380 = .ok (.iconst 0, 1) := by decide +kernel
theorem dL_areChildren_381 : decode cL_areChildren 381 = .ok (.invokestatic 135, 3) := by decide +kernel
theorem dL_areChildren_384 : decode cL_areChildren 384 = .ok (.ldc 21, 2) := by decide +kernel
theorem dL_areChildren_386 : decode cL_areChildren 386 = .ok (.if_icmp .ne 27, 3) := by decide +kernel
theorem dL_areChildren_389 : decode cL_areChildren 389 = .ok (.goto 20, 3) := by decide +kernel
theorem dL_areChildren_392 : decode cL_areChildren 392 = .ok (.aload_n 0, 1) := by decide +kernel
theorem dL_areChildren_393 : decode cL_areChildren 393 = .ok (.iload 7, 2) := by decide +kernel
theorem dL_areChildren_395 : decode cL_areChildren 395 = .ok (.aload_n 0, 1) := by decide +kernel
theorem dL_areChildren_396 : decode cL_areChildren 396 = .ok (.iload 7, 2) := by decide +kernel
theorem dL_areChildren_398 : decode cL_areChildren 398 = .ok (.iconst 2, 1) := by decide +kernel
theorem dL_areChildren_399 : decode cL_areChildren 399 = .ok (.invokestatic 119, 3) := by decide +kernel
theorem dL_areChildren_402 : decode cL_areChildren 402 = .ok (.invokestatic 135, 3) := by decide +kernel
theorem dL_areChildren_405 : decode cL_areChildren 405 = .ok (.iconst (-1), 1) := by decide +kernel
theorem dL_areChildren_406 : decode cL_areChildren 406 = .ok (.if_icmp .ne 7, 3) := by decide +kernel
theorem dL_areChildren_409 : decode cL_areChildren 409 = .ok (.iconst 1, 1) := by decide +kernel
theorem dL_areChildren_410 : decode cL_areChildren 410 = .ok (.goto 4, 3) := by decide +kernel
theorem dL_areChildren_413 : decode cL_areChildren 413 = .ok (.iconst 0, 1) := by decide +kernel
theorem dL_areChildren_414 : decode cL_areChildren 414 = .ok (.istore 5, 2) := by decide +kernel
theorem dL_areChildren_416 : decode cL_areChildren 416 = .ok (.iinc 7 1, 3) := by decide +kernel
theorem dL_areChildren_419 : decode cL_areChildren 419 = .ok (.goto (-393), 3) := by decide +kernel
theorem dL_areChildren_422 : decode cL_areChildren 422 = .ok (.iconst 0, 1) := by decide +kernel
theorem dL_areChildren_423 : decode cL_areChildren 423 = .ok (.istore 7, 2) := by decide +kernel
theorem dL_areChildren_425 : decode cL_areChildren 425 = .ok (.iload 7, 2) := by decide +kernel
theorem dL_areChildren_427 : decode cL_areChildren 427 = .ok (.aload_n 1, 1) := by decide +kernel
theorem dL_areChildren_428 : decode cL_areChildren 428 = .ok (.iconst 1, 1) := by decide +kernel
theorem dL_areChildren_429 : decode cL_areChildren 429 = .ok (.iaload, 1) := by decide +kernel
theorem dL_areChildren_430 : decode cL_areChildren 430 = .ok (.if_icmp .ge 73, 3) := by decide +kernel
theorem dL_areChildren_433 : decode cL_areChildren 433 = .ok (.iload 5, 2) := by decide +kernel
theorem dL_areChildren_435 : decode cL_areChildren 435 = .ok (.ifCond .eq 68, 3) := by decide +kernel
theorem dL_areChildren_438 : decode cL_areChildren 438 = .ok (.iconst 0, 1) := by decide +kernel
theorem dL_areChildren_439 : decode cL_areChildren 439 = .ok (.istore 8, 2) := by decide +kernel
theorem dL_areChildren_441 : decode cL_areChildren 441 = .ok (.iconst 0, 1) := by decide +kernel
theorem dL_areChildren_442 : decode cL_areChildren 442 = .ok (.istore 9, 2) := by decide +kernel
theorem dL_areChildren_444 : decode cL_areChildren 444 = .ok (.iload 9, 2) := by decide +kernel
theorem dL_areChildren_446 : decode cL_areChildren 446 = .ok (.aload_n 1, 1) := by decide +kernel
theorem dL_areChildren_447 : decode cL_areChildren 447 = .ok (.iconst 0, 1) := by decide +kernel
theorem dL_areChildren_448 : decode cL_areChildren 448 = .ok (.iaload, 1) := by decide +kernel
theorem dL_areChildren_449 : decode cL_areChildren 449 = .ok (.if_icmp .ge 31, 3) := by decide +kernel
theorem dL_areChildren_452 : decode cL_areChildren 452 = .ok (.iload 8, 2) := by decide +kernel
theorem dL_areChildren_454 : decode cL_areChildren 454 = .ok (.aload_n 0, 1) := by decide +kernel
theorem dL_areChildren_455 : decode cL_areChildren 455 = .ok (.iload 9, 2) := by decide +kernel
theorem dL_areChildren_457 : decode cL_areChildren 457 = .ok (.iconst 0, 1) := by decide +kernel
theorem dL_areChildren_458 : decode cL_areChildren 458 = .ok (.invokestatic 119, 3) := by decide +kernel
theorem dL_areChildren_461 : decode cL_areChildren 461 = .ok (.iload 7, 2) := by decide +kernel
theorem dL_areChildren_463 : decode cL_areChildren 463 = .ok (.if_icmp .ne 7, 3) := by decide +kernel
theorem dL_areChildren_466 : decode cL_areChildren 466 = .ok (.iconst 1, 1) := by decide +kernel
theorem dL_areChildren_467 : decode cL_areChildren 467 = .ok (.goto 4, 3) := by decide +kernel
theorem dL_areChildren_470 : decode cL_areChildren 470 = .ok (.iconst 0, 1) := by decide +kernel
theorem dL_areChildren_471 : decode cL_areChildren 471 = .ok (.iadd, 1) := by decide +kernel
theorem dL_areChildren_472 : decode cL_areChildren 472 = .ok (.istore 8, 2) := by decide +kernel
theorem dL_areChildren_474 : decode cL_areChildren 474 = .ok (.iinc 9 1, 3) := by decide +kernel
theorem dL_areChildren_477 : decode cL_areChildren 477 = .ok (.goto (-33), 3) := by decide +kernel
theorem dL_areChildren_480 : decode cL_areChildren 480 = .ok (.iload 8, 2) := by decide +kernel
theorem dL_areChildren_482 : decode cL_areChildren 482 = .ok (.aload 4, 2) := by decide +kernel
theorem dL_areChildren_484 : decode cL_areChildren 484 = .ok (.iload 7, 2) := by decide +kernel
theorem dL_areChildren_486 : decode cL_areChildren 486 = .ok (.iaload, 1) := by decide +kernel
theorem dL_areChildren_487 : decode cL_areChildren 487 = .ok (.if_icmp .gt 7, 3) := by decide +kernel
theorem dL_areChildren_490 : decode cL_areChildren 490 = .ok (.iconst 1, 1) := by decide +kernel
theorem dL_areChildren_491 : decode cL_areChildren 491 = .ok (.goto 4, 3) := by decide +kernel
theorem dL_areChildren_494 : decode cL_areChildren 494 = .ok (.iconst 0, 1) := by decide +kernel
theorem dL_areChildren_495 : decode cL_areChildren 495 = .ok (.istore 5, 2) := by decide +kernel
theorem dL_areChildren_497 : decode cL_areChildren 497 = .ok (.iinc 7 1, 3) := by decide +kernel
theorem dL_areChildren_500 : decode cL_areChildren 500 = .ok (.goto (-75), 3) := by decide +kernel
theorem dL_areChildren_503 : decode cL_areChildren 503 = .ok (.iload 5, 2) := by decide +kernel
theorem dL_areChildren_505 : decode cL_areChildren 505 = .ok (.ifCond .eq 15, 3) := by decide +kernel
theorem dL_areChildren_508 : decode cL_areChildren 508 = .ok (.iload 6, 2) := by decide +kernel
theorem dL_areChildren_510 : decode cL_areChildren 510 = .ok (.aload_n 1, 1) := by decide +kernel
theorem dL_areChildren_511 : decode cL_areChildren 511 = .ok (.iconst 3, 1) := by decide +kernel
theorem dL_areChildren_512 : decode cL_areChildren 512 = .ok (.iaload, 1) := by decide +kernel
theorem dL_areChildren_513 : decode cL_areChildren 513 = .ok (.if_icmp .ne 7, 3) := by decide +kernel
theorem dL_areChildren_516 : decode cL_areChildren 516 = .ok (.iconst 1, 1) := by decide +kernel
theorem dL_areChildren_517 : decode cL_areChildren 517 = .ok (.goto 4, 3) := by decide +kernel
theorem dL_areChildren_520 : decode cL_areChildren 520 = .ok (.iconst 0, 1) := by decide +kernel
theorem dL_areChildren_521 : decode cL_areChildren 521 = .ok (.ireturn, 1) := by decide +kernel
theorem dL_areStays_0 : decode cL_areStays 0 = .ok (.aload_n 0, 1) := by decide +kernel
theorem dL_areStays_1 : decode cL_areStays 1 = .ok (.aload_n 1, 1) := by decide +kernel
theorem dL_areStays_2 : decode cL_areStays 2 = .ok (.iconst 3, 1) := by decide +kernel
theorem dL_areStays_3 : decode cL_areStays 3 = .ok (.iaload, 1) := by decide +kernel
theorem dL_areStays_4 : decode cL_areStays 4 = .ok (.iconst 0, 1) := by decide +kernel
theorem dL_areStays_5 : decode cL_areStays 5 = .ok (.invokestatic 137, 3) := by decide +kernel
theorem dL_areStays_8 : decode cL_areStays 8 = .ok (.ldc 32, 2) := by decide +kernel
theorem dL_areStays_10 : decode cL_areStays 10 = .ok (.if_icmp .ne 19, 3) := by decide +kernel
theorem dL_areStays_13 : decode cL_areStays 13 = .ok (.aload_n 0, 1) := by decide +kernel
theorem dL_areStays_14 : decode cL_areStays 14 = .ok (.aload_n 1, 1) := by decide +kernel
theorem dL_areStays_15 : decode cL_areStays 15 = .ok (.iconst 3, 1) := by decide +kernel
theorem dL_areStays_16 : decode cL_areStays 16 = .ok (.iaload, 1) := by decide +kernel
theorem dL_areStays_17 : decode cL_areStays 17 = .ok (.invokestatic 139, 3) := by decide +kernel
theorem dL_areStays_20 : decode cL_areStays 20 = .ok (.ldc 32, 2) := by decide +kernel
theorem dL_areStays_22 : decode cL_areStays 22 = .ok (.if_icmp .ne 7, 3) := by decide +kernel
theorem dL_areStays_25 : decode cL_areStays 25 = .ok (.iconst 1, 1) := by decide +kernel
theorem dL_areStays_26 : decode cL_areStays 26 = .ok (.goto 4, 3) := by decide +kernel
theorem dL_areStays_29 : decode cL_areStays 29 = .ok (.iconst 0, 1) := by decide +kernel
theorem dL_areStays_30 : decode cL_areStays 30 = .ok (.istore 5, 2) := by decide +kernel
theorem dL_areStays_32 : decode cL_areStays 32 = .ok (.iconst 0, 1) := by decide +kernel
theorem dL_areStays_33 : decode cL_areStays 33 = .ok (.istore 6, 2) := by decide +kernel
theorem dL_areStays_35 : decode cL_areStays 35 = .ok (.iload 6, 2) := by decide +kernel
theorem dL_areStays_37 : decode cL_areStays 37 = .ok (.aload_n 1, 1) := by decide +kernel
theorem dL_areStays_38 : decode cL_areStays 38 = .ok (.iconst 3, 1) := by decide +kernel
theorem dL_areStays_39 : decode cL_areStays 39 = .ok (.iaload, 1) := by decide +kernel
theorem dL_areStays_40 : decode cL_areStays 40 = .ok (.if_icmp .ge 211, 3) := by decide +kernel
theorem dL_areStays_43 : decode cL_areStays 43 = .ok (.iload 5, 2) := by decide +kernel
theorem dL_areStays_45 : decode cL_areStays 45 = .ok (.ifCond .eq 206, 3) := by decide +kernel
theorem dL_areStays_48 : decode cL_areStays 48 = .ok (.aload_n 0, 1) := by decide +kernel
theorem dL_areStays_49 : decode cL_areStays 49 = .ok (.iload 6, 2) := by decide +kernel
theorem dL_areStays_51 : decode cL_areStays 51 = .ok (.iconst 0, 1) := by decide +kernel
theorem dL_areStays_52 : decode cL_areStays 52 = .ok (.invokestatic 137, 3) := by decide +kernel
theorem dL_areStays_55 : decode cL_areStays 55 = .ok (.istore 7, 2) := by decide +kernel
theorem dL_areStays_57 : decode cL_areStays 57 = .ok (.aload_n 0, 1) := by decide +kernel
theorem dL_areStays_58 : decode cL_areStays 58 = .ok (.iload 6, 2) := by decide +kernel
theorem dL_areStays_60 : decode cL_areStays 60 = .ok (.iconst 2, 1) := by decide +kernel
theorem dL_areStays_61 : decode cL_areStays 61 = .ok (.invokestatic 137, 3) := by decide +kernel
theorem dL_areStays_64 : decode cL_areStays 64 = .ok (.istore 8, 2) := by decide +kernel
theorem dL_areStays_66 : decode cL_areStays 66 = .ok (.aload_n 0, 1) := by decide +kernel
theorem dL_areStays_67 : decode cL_areStays 67 = .ok (.iload 6, 2) := by decide +kernel
theorem dL_areStays_69 : decode cL_areStays 69 = .ok (.iconst 3, 1) := by decide +kernel
theorem dL_areStays_70 : decode cL_areStays 70 = .ok (.invokestatic 137, 3) := by decide +kernel
theorem dL_areStays_73 : decode cL_areStays 73 = .ok (.istore 9, 2) := by decide +kernel
theorem dL_areStays_75 : decode cL_areStays 75 = .ok (.aload_n 0, 1) := by decide +kernel
theorem dL_areStays_76 : decode cL_areStays 76 = .ok (.iload 6, 2) := by decide +kernel
theorem dL_areStays_78 : decode cL_areStays 78 = .ok (.iconst 4, 1) := by decide +kernel
theorem dL_areStays_79 : decode cL_areStays 79 = .ok (.invokestatic 137, 3) := by decide +kernel
theorem dL_areStays_82 : decode cL_areStays 82 = .ok (.istore 10, 2) := by decide +kernel
theorem dL_areStays_84 : decode cL_areStays 84 = .ok (.iload 7, 2) := by decide +kernel
theorem dL_areStays_86 : decode cL_areStays 86 = .ok (.ifCond .lt 94, 3) := by decide +kernel
theorem dL_areStays_89 : decode cL_areStays 89 = .ok (.iload 7, 2) := by decide +kernel
theorem dL_areStays_91 : decode cL_areStays 91 = .ok (.aload_n 1, 1) := by decide +kernel
theorem dL_areStays_92 : decode cL_areStays 92 = .ok (.iconst 0, 1) := by decide +kernel
theorem dL_areStays_93 : decode cL_areStays 93 = .ok (.iaload, 1) := by decide +kernel
theorem dL_areStays_94 : decode cL_areStays 94 = .ok (.if_icmp .ge 86, 3) := by decide +kernel
theorem dL_areStays_97 : decode cL_areStays 97 = .ok (.iload 8, 2) := by decide +kernel
theorem dL_areStays_99 : decode cL_areStays 99 = .ok (.ifCond .lt 81, 3) := by decide +kernel
theorem dL_areStays_102 : decode cL_areStays 102 = .ok (.iload 8, 2) := by decide +kernel
theorem dL_areStays_104 : decode cL_areStays 104 = .ok (.aload_n 1, 1) := by decide +kernel
theorem dL_areStays_105 : decode cL_areStays 105 = .ok (.iconst 4, 1) := by decide +kernel
theorem dL_areStays_106 : decode cL_areStays 106 = .ok (.iaload, 1) := by decide +kernel
theorem dL_areStays_107 : decode cL_areStays 107 = .ok (.if_icmp .gt 73, 3) := by decide +kernel
theorem dL_areStays_110 : decode cL_areStays 110 = .ok (.iload 9, 2) := by decide +kernel
theorem dL_areStays_112 : decode cL_areStays 112 = .ok (.iconst (-1), 1) := by decide +kernel
theorem dL_areStays_113 : decode cL_areStays 113 = .ok (.if_icmp .ne 23, 3) := by decide +kernel
theorem dL_areStays_116 : decode cL_areStays 116 = .ok (.aload_n 0, 1) := by decide +kernel
theorem dL_areStays_117 : decode cL_areStays 117 = .ok (.iload 7, 2) := by decide +kernel
theorem dL_areStays_119 : decode cL_areStays 119 = .ok (.iconst 0, 1) := by decide +kernel
theorem dL_areStays_120 : decode cL_areStays 120 = .ok (.invokestatic 119, 3) := by decide +kernel
theorem dL_areStays_123 : decode cL_areStays 123 = .ok (.aload_n 0, 1) := by decide +kernel
theorem dL_areStays_124 : decode cL_areStays 124 = .ok (.iload 6, 2) := by decide +kernel
theorem dL_areStays_126 : decode cL_areStays 126 = .ok (.iconst 1, 1) := by decide +kernel
theorem dL_areStays_127 : decode cL_areStays 127 = .ok (.invokestatic 137, 3) := by decide +kernel
