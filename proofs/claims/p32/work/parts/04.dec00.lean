theorem dX0_init_0 : decode cX0_init 0 = .ok (.aload_n 0, 1) := by decide +kernel
theorem dX0_init_1 : decode cX0_init 1 = .ok (.invokespecial 3, 3) := by decide +kernel
theorem dX0_init_4 : decode cX0_init 4 = .ok (.aload_n 0, 1) := by decide +kernel
theorem dX0_init_5 : decode cX0_init 5 = .ok (.iload_n 1, 1) := by decide +kernel
theorem dX0_init_6 : decode cX0_init 6 = .ok (.putfield 9, 3) := by decide +kernel
theorem dX0_init_9 : decode cX0_init 9 = .ok (.aload_n 0, 1) := by decide +kernel
theorem dX0_init_10 : decode cX0_init 10 = .ok (.iload_n 2, 1) := by decide +kernel
theorem dX0_init_11 : decode cX0_init 11 = .ok (.putfield 15, 3) := by decide +kernel
theorem dX0_init_14 : decode cX0_init 14 = .ok (.aload_n 0, 1) := by decide +kernel
theorem dX0_init_15 : decode cX0_init 15 = .ok (.iload_n 3, 1) := by decide +kernel
theorem dX0_init_16 : decode cX0_init 16 = .ok (.putfield 18, 3) := by decide +kernel
theorem dX0_init_19 : decode cX0_init 19 = .ok (.aload_n 0, 1) := by decide +kernel
theorem dX0_init_20 : decode cX0_init 20 = .ok (.iload 4, 2) := by decide +kernel
theorem dX0_init_22 : decode cX0_init 22 = .ok (.putfield 21, 3) := by decide +kernel
theorem dX0_init_25 : decode cX0_init 25 = .ok (.aload_n 0, 1) := by decide +kernel
theorem dX0_init_26 : decode cX0_init 26 = .ok (.iload 5, 2) := by decide +kernel
theorem dX0_init_28 : decode cX0_init 28 = .ok (.putfield 24, 3) := by decide +kernel
theorem dX0_init_31 : decode cX0_init 31 = .ok (.aload_n 0, 1) := by decide +kernel
theorem dX0_init_32 : decode cX0_init 32 = .ok (.iload 6, 2) := by decide +kernel
theorem dX0_init_34 : decode cX0_init 34 = .ok (.putfield 27, 3) := by decide +kernel
theorem dX0_init_37 : decode cX0_init 37 = .ok (.aload_n 0, 1) := by decide +kernel
theorem dX0_init_38 : decode cX0_init 38 = .ok (.iload 7, 2) := by decide +kernel
theorem dX0_init_40 : decode cX0_init 40 = .ok (.putfield 30, 3) := by decide +kernel
theorem dX0_init_43 : decode cX0_init 43 = .ok (.aload_n 0, 1) := by decide +kernel
theorem dX0_init_44 : decode cX0_init 44 = .ok (.bipush 10, 2) := by decide +kernel
theorem dX0_init_46 : decode cX0_init 46 = .ok (.newarray .int, 2) := by decide +kernel
theorem dX0_init_48 : decode cX0_init 48 = .ok (.putfield 33, 3) := by decide +kernel
theorem dX0_init_51 : decode cX0_init 51 = .ok (.aload_n 0, 1) := by decide +kernel
theorem dX0_init_52 : decode cX0_init 52 = .ok (.new 37, 3) := by decide +kernel
theorem dX0_init_55 : decode cX0_init 55 = .ok (.dup, 1) := by decide +kernel
theorem dX0_init_56 : decode cX0_init 56 = .ok (.invokespecial 39, 3) := by decide +kernel
theorem dX0_init_59 : decode cX0_init 59 = .ok (.putfield 40, 3) := by decide +kernel
theorem dX0_init_62 : decode cX0_init 62 = .ok (.aload_n 0, 1) := by decide +kernel
theorem dX0_init_63 : decode cX0_init 63 = .ok (.new 44, 3) := by decide +kernel
theorem dX0_init_66 : decode cX0_init 66 = .ok (.dup, 1) := by decide +kernel
theorem dX0_init_67 : decode cX0_init 67 = .ok (.invokespecial 46, 3) := by decide +kernel
theorem dX0_init_70 : decode cX0_init 70 = .ok (.putfield 47, 3) := by decide +kernel
theorem dX0_init_73 : decode cX0_init 73 = .ok (.return_, 1) := by decide +kernel
theorem dX0_yearsOn_0 : decode cX0_yearsOn 0 = .ok (.iload_n 1, 1) := by decide +kernel
theorem dX0_yearsOn_1 : decode cX0_yearsOn 1 = .ok (.aload_n 0, 1) := by decide +kernel
theorem dX0_yearsOn_2 : decode cX0_yearsOn 2 = .ok (.getfield 15, 3) := by decide +kernel
theorem dX0_yearsOn_5 : decode cX0_yearsOn 5 = .ok (.isub, 1) := by decide +kernel
theorem dX0_yearsOn_6 : decode cX0_yearsOn 6 = .ok (.sipush 365, 3) := by decide +kernel
theorem dX0_yearsOn_9 : decode cX0_yearsOn 9 = .ok (.idiv, 1) := by decide +kernel
theorem dX0_yearsOn_10 : decode cX0_yearsOn 10 = .ok (.ireturn, 1) := by decide +kernel
theorem dX0_isIn_0 : decode cX0_isIn 0 = .ok (.aload_n 0, 1) := by decide +kernel
theorem dX0_isIn_1 : decode cX0_isIn 1 = .ok (.getfield 51, 3) := by decide +kernel
theorem dX0_isIn_4 : decode cX0_isIn 4 = .ok (.ifnull 18, 3) := by decide +kernel
theorem dX0_isIn_7 : decode cX0_isIn 7 = .ok (.aload_n 0, 1) := by decide +kernel
theorem dX0_isIn_8 : decode cX0_isIn 8 = .ok (.getfield 51, 3) := by decide +kernel
theorem dX0_isIn_11 : decode cX0_isIn 11 = .ok (.getfield 55, 3) := by decide +kernel
theorem dX0_isIn_14 : decode cX0_isIn 14 = .ok (.aload_n 1, 1) := by decide +kernel
theorem dX0_isIn_15 : decode cX0_isIn 15 = .ok (.if_acmp .ne 7, 3) := by decide +kernel
theorem dX0_isIn_18 : decode cX0_isIn 18 = .ok (.iconst 1, 1) := by decide +kernel
theorem dX0_isIn_19 : decode cX0_isIn 19 = .ok (.goto 4, 3) := by decide +kernel
theorem dX0_isIn_22 : decode cX0_isIn 22 = .ok (.iconst 0, 1) := by decide +kernel
theorem dX0_isIn_23 : decode cX0_isIn 23 = .ok (.ireturn, 1) := by decide +kernel
theorem dX0_orderOn_0 : decode cX0_orderOn 0 = .ok (.aload_n 0, 1) := by decide +kernel
theorem dX0_orderOn_1 : decode cX0_orderOn 1 = .ok (.getfield 61, 3) := by decide +kernel
theorem dX0_orderOn_4 : decode cX0_orderOn 4 = .ok (.astore_n 2, 1) := by decide +kernel
theorem dX0_orderOn_5 : decode cX0_orderOn 5 = .ok (.aload_n 2, 1) := by decide +kernel
theorem dX0_orderOn_6 : decode cX0_orderOn 6 = .ok (.ifnull 19, 3) := by decide +kernel
theorem dX0_orderOn_9 : decode cX0_orderOn 9 = .ok (.aload_n 2, 1) := by decide +kernel
theorem dX0_orderOn_10 : decode cX0_orderOn 10 = .ok (.iload_n 1, 1) := by decide +kernel
theorem dX0_orderOn_11 : decode cX0_orderOn 11 = .ok (.invokevirtual 65, 3) := by decide +kernel
theorem dX0_orderOn_14 : decode cX0_orderOn 14 = .ok (.ifCond .ne 11, 3) := by decide +kernel
theorem dX0_orderOn_17 : decode cX0_orderOn 17 = .ok (.aload_n 2, 1) := by decide +kernel
theorem dX0_orderOn_18 : decode cX0_orderOn 18 = .ok (.getfield 71, 3) := by decide +kernel
theorem dX0_orderOn_21 : decode cX0_orderOn 21 = .ok (.astore_n 2, 1) := by decide +kernel
theorem dX0_orderOn_22 : decode cX0_orderOn 22 = .ok (.goto (-17), 3) := by decide +kernel
theorem dX0_orderOn_25 : decode cX0_orderOn 25 = .ok (.aload_n 2, 1) := by decide +kernel
theorem dX0_orderOn_26 : decode cX0_orderOn 26 = .ok (.areturn, 1) := by decide +kernel
theorem dX0_orderNumberOn_0 : decode cX0_orderNumberOn 0 = .ok (.aload_n 0, 1) := by decide +kernel
theorem dX0_orderNumberOn_1 : decode cX0_orderNumberOn 1 = .ok (.iload_n 1, 1) := by decide +kernel
theorem dX0_orderNumberOn_2 : decode cX0_orderNumberOn 2 = .ok (.invokevirtual 74, 3) := by decide +kernel
theorem dX0_orderNumberOn_5 : decode cX0_orderNumberOn 5 = .ok (.astore_n 2, 1) := by decide +kernel
theorem dX0_orderNumberOn_6 : decode cX0_orderNumberOn 6 = .ok (.aload_n 2, 1) := by decide +kernel
theorem dX0_orderNumberOn_7 : decode cX0_orderNumberOn 7 = .ok (.ifnonnull 7, 3) := by decide +kernel
theorem dX0_orderNumberOn_10 : decode cX0_orderNumberOn 10 = .ok (.iconst (-1), 1) := by decide +kernel
theorem dX0_orderNumberOn_11 : decode cX0_orderNumberOn 11 = .ok (.goto 7, 3) := by decide +kernel
theorem dX0_orderNumberOn_14 : decode cX0_orderNumberOn 14 = .ok (.aload_n 2, 1) := by decide +kernel
theorem dX0_orderNumberOn_15 : decode cX0_orderNumberOn 15 = .ok (.getfield 78, 3) := by decide +kernel
theorem dX0_orderNumberOn_18 : decode cX0_orderNumberOn 18 = .ok (.ireturn, 1) := by decide +kernel
theorem dX0_orderKindOn_0 : decode cX0_orderKindOn 0 = .ok (.aload_n 0, 1) := by decide +kernel
theorem dX0_orderKindOn_1 : decode cX0_orderKindOn 1 = .ok (.iload_n 1, 1) := by decide +kernel
theorem dX0_orderKindOn_2 : decode cX0_orderKindOn 2 = .ok (.invokevirtual 74, 3) := by decide +kernel
theorem dX0_orderKindOn_5 : decode cX0_orderKindOn 5 = .ok (.astore_n 2, 1) := by decide +kernel
theorem dX0_orderKindOn_6 : decode cX0_orderKindOn 6 = .ok (.aload_n 2, 1) := by decide +kernel
theorem dX0_orderKindOn_7 : decode cX0_orderKindOn 7 = .ok (.ifnonnull 7, 3) := by decide +kernel
theorem dX0_orderKindOn_10 : decode cX0_orderKindOn 10 = .ok (.iconst (-1), 1) := by decide +kernel
theorem dX0_orderKindOn_11 : decode cX0_orderKindOn 11 = .ok (.goto 7, 3) := by decide +kernel
theorem dX0_orderKindOn_14 : decode cX0_orderKindOn 14 = .ok (.aload_n 2, 1) := by decide +kernel
theorem dX0_orderKindOn_15 : decode cX0_orderKindOn 15 = .ok (.getfield 79, 3) := by decide +kernel
theorem dX0_orderKindOn_18 : decode cX0_orderKindOn 18 = .ok (.ireturn, 1) := by decide +kernel
theorem dX0_tellWish_0 : decode cX0_tellWish 0 = .ok (.iload_n 1, 1) := by decide +kernel
theorem dX0_tellWish_1 : decode cX0_tellWish 1 = .ok (.ifCond .lt 12, 3) := by decide +kernel
theorem dX0_tellWish_4 : decode cX0_tellWish 4 = .ok (.iload_n 1, 1) := by decide +kernel
theorem dX0_tellWish_5 : decode cX0_tellWish 5 = .ok (.aload_n 0, 1) := by decide +kernel
theorem dX0_tellWish_6 : decode cX0_tellWish 6 = .ok (.getfield 33, 3) := by decide +kernel
theorem dX0_tellWish_9 : decode cX0_tellWish 9 = .ok (.arraylength, 1) := by decide +kernel
theorem dX0_tellWish_10 : decode cX0_tellWish 10 = .ok (.if_icmp .lt 4, 3) := by decide +kernel
theorem dX0_tellWish_13 : decode cX0_tellWish 13 = .ok (.return_, 1) := by decide +kernel
theorem dX0_tellWish_14 : decode cX0_tellWish 14 = .ok (.iload_n 2, 1) := by decide +kernel
theorem dX0_tellWish_15 : decode cX0_tellWish 15 = .ok (.ifCond .eq 13, 3) := by decide +kernel
theorem dX0_tellWish_18 : decode cX0_tellWish 18 = .ok (.aload_n 0, 1) := by decide +kernel
theorem dX0_tellWish_19 : decode cX0_tellWish 19 = .ok (.getfield 33, 3) := by decide +kernel
theorem dX0_tellWish_22 : decode cX0_tellWish 22 = .ok (.iload_n 1, 1) := by decide +kernel
theorem dX0_tellWish_23 : decode cX0_tellWish 23 = .ok (.iconst 1, 1) := by decide +kernel
theorem dX0_tellWish_24 : decode cX0_tellWish 24 = .ok (.iastore, 1) := by decide +kernel
theorem dX0_tellWish_25 : decode cX0_tellWish 25 = .ok (.goto 24, 3) := by decide +kernel
theorem dX0_tellWish_28 : decode cX0_tellWish 28 = .ok (.aload_n 0, 1) := by decide +kernel
theorem dX0_tellWish_29 : decode cX0_tellWish 29 = .ok (.getfield 33, 3) := by decide +kernel
theorem dX0_tellWish_32 : decode cX0_tellWish 32 = .ok (.iload_n 1, 1) := by decide +kernel
theorem dX0_tellWish_33 : decode cX0_tellWish 33 = .ok (.aload_n 0, 1) := by decide +kernel
theorem dX0_tellWish_34 : decode cX0_tellWish 34 = .ok (.iload_n 3, 1) := by decide +kernel
theorem dX0_tellWish_35 : decode cX0_tellWish 35 = .ok (.invokevirtual 82, 3) := by decide +kernel
theorem dX0_tellWish_38 : decode cX0_tellWish 38 = .ok (.bipush 12, 2) := by decide +kernel
theorem dX0_tellWish_40 : decode cX0_tellWish 40 = .ok (.if_icmp .lt 7, 3) := by decide +kernel
theorem dX0_tellWish_43 : decode cX0_tellWish 43 = .ok (.iconst 3, 1) := by decide +kernel
theorem dX0_tellWish_44 : decode cX0_tellWish 44 = .ok (.goto 4, 3) := by decide +kernel
theorem dX0_tellWish_47 : decode cX0_tellWish 47 = .ok (.iconst 2, 1) := by decide +kernel
theorem dX0_tellWish_48 : decode cX0_tellWish 48 = .ok (.iastore, 1) := by decide +kernel
theorem dX0_tellWish_49 : decode cX0_tellWish 49 = .ok (.return_, 1) := by decide +kernel
theorem dX0_wishAbout_0 : decode cX0_wishAbout 0 = .ok (.iload_n 1, 1) := by decide +kernel
theorem dX0_wishAbout_1 : decode cX0_wishAbout 1 = .ok (.ifCond .lt 21, 3) := by decide +kernel
theorem dX0_wishAbout_4 : decode cX0_wishAbout 4 = .ok (.iload_n 1, 1) := by decide +kernel
theorem dX0_wishAbout_5 : decode cX0_wishAbout 5 = .ok (.aload_n 0, 1) := by decide +kernel
theorem dX0_wishAbout_6 : decode cX0_wishAbout 6 = .ok (.getfield 33, 3) := by decide +kernel
theorem dX0_wishAbout_9 : decode cX0_wishAbout 9 = .ok (.arraylength, 1) := by decide +kernel
theorem dX0_wishAbout_10 : decode cX0_wishAbout 10 = .ok (.if_icmp .ge 12, 3) := by decide +kernel
theorem dX0_wishAbout_13 : decode cX0_wishAbout 13 = .ok (.aload_n 0, 1) := by decide +kernel
theorem dX0_wishAbout_14 : decode cX0_wishAbout 14 = .ok (.getfield 33, 3) := by decide +kernel
theorem dX0_wishAbout_17 : decode cX0_wishAbout 17 = .ok (.iload_n 1, 1) := by decide +kernel
theorem dX0_wishAbout_18 : decode cX0_wishAbout 18 = .ok (.iaload, 1) := by decide +kernel
theorem dX0_wishAbout_19 : decode cX0_wishAbout 19 = .ok (.goto 4, 3) := by decide +kernel
theorem dX0_wishAbout_22 : decode cX0_wishAbout 22 = .ok (.iconst 0, 1) := by decide +kernel
theorem dX0_wishAbout_23 : decode cX0_wishAbout 23 = .ok (.ireturn, 1) := by decide +kernel
theorem dX0_refuses_0 : decode cX0_refuses 0 = .ok (.aload_n 0, 1) := by decide +kernel
theorem dX0_refuses_1 : decode cX0_refuses 1 = .ok (.iload_n 1, 1) := by decide +kernel
theorem dX0_refuses_2 : decode cX0_refuses 2 = .ok (.invokevirtual 86, 3) := by decide +kernel
theorem dX0_refuses_5 : decode cX0_refuses 5 = .ok (.iconst 3, 1) := by decide +kernel
theorem dX0_refuses_6 : decode cX0_refuses 6 = .ok (.if_icmp .ne 7, 3) := by decide +kernel
theorem dX0_refuses_9 : decode cX0_refuses 9 = .ok (.iconst 1, 1) := by decide +kernel
theorem dX0_refuses_10 : decode cX0_refuses 10 = .ok (.goto 4, 3) := by decide +kernel
theorem dX0_refuses_13 : decode cX0_refuses 13 = .ok (.iconst 0, 1) := by decide +kernel
theorem dX0_refuses_14 : decode cX0_refuses 14 = .ok (.ireturn, 1) := by decide +kernel
theorem dX0_wishWorth_0 : decode cX0_wishWorth 0 = .ok (.aload_n 0, 1) := by decide +kernel
theorem dX0_wishWorth_1 : decode cX0_wishWorth 1 = .ok (.iload_n 1, 1) := by decide +kernel
theorem dX0_wishWorth_2 : decode cX0_wishWorth 2 = .ok (.invokevirtual 86, 3) := by decide +kernel
theorem dX0_wishWorth_5 : decode cX0_wishWorth 5 = .ok (.istore_n 2, 1) := by decide +kernel
theorem dX0_wishWorth_6 : decode cX0_wishWorth 6 = .ok (.iload_n 2, 1) := by decide +kernel
theorem dX0_wishWorth_7 : decode cX0_wishWorth 7 = .ok (.ifCond .ne 5, 3) := by decide +kernel
theorem dX0_wishWorth_10 : decode cX0_wishWorth 10 = .ok (.iconst 0, 1) := by decide +kernel
theorem dX0_wishWorth_11 : decode cX0_wishWorth 11 = .ok (.ireturn, 1) := by decide +kernel
theorem dX0_wishWorth_12 : decode cX0_wishWorth 12 = .ok (.iload_n 2, 1) := by decide +kernel
theorem dX0_wishWorth_13 : decode cX0_wishWorth 13 = .ok (.iconst 1, 1) := by decide +kernel
theorem dX0_wishWorth_14 : decode cX0_wishWorth 14 = .ok (.if_icmp .ne 8, 3) := by decide +kernel
theorem dX0_wishWorth_17 : decode cX0_wishWorth 17 = .ok (.bipush 8, 2) := by decide +kernel
theorem dX0_wishWorth_19 : decode cX0_wishWorth 19 = .ok (.goto 5, 3) := by decide +kernel
theorem dX0_wishWorth_22 : decode cX0_wishWorth 22 = .ok (.bipush (-8), 2) := by decide +kernel
theorem dX0_wishWorth_24 : decode cX0_wishWorth 24 = .ok (.ireturn, 1) := by decide +kernel
theorem dX0_beginStay_0 : decode cX0_beginStay 0 = .ok (.aload_n 0, 1) := by decide +kernel
theorem dX0_beginStay_1 : decode cX0_beginStay 1 = .ok (.aload_n 1, 1) := by decide +kernel
theorem dX0_beginStay_2 : decode cX0_beginStay 2 = .ok (.putfield 51, 3) := by decide +kernel
theorem dX0_beginStay_5 : decode cX0_beginStay 5 = .ok (.aload_n 0, 1) := by decide +kernel
theorem dX0_beginStay_6 : decode cX0_beginStay 6 = .ok (.dup, 1) := by decide +kernel
theorem dX0_beginStay_7 : decode cX0_beginStay 7 = .ok (.getfield 89, 3) := by decide +kernel
theorem dX0_beginStay_10 : decode cX0_beginStay 10 = .ok (.iconst 1, 1) := by decide +kernel
theorem dX0_beginStay_11 : decode cX0_beginStay 11 = .ok (.iadd, 1) := by decide +kernel
theorem dX0_beginStay_12 : decode cX0_beginStay 12 = .ok (.putfield 89, 3) := by decide +kernel
theorem dX0_beginStay_15 : decode cX0_beginStay 15 = .ok (.aload_n 0, 1) := by decide +kernel
theorem dX0_beginStay_16 : decode cX0_beginStay 16 = .ok (.getfield 47, 3) := by decide +kernel
theorem dX0_beginStay_19 : decode cX0_beginStay 19 = .ok (.iconst 0, 1) := by decide +kernel
theorem dX0_beginStay_20 : decode cX0_beginStay 20 = .ok (.putfield 92, 3) := by decide +kernel
theorem dX0_beginStay_23 : decode cX0_beginStay 23 = .ok (.return_, 1) := by decide +kernel
theorem dX0_endStay_0 : decode cX0_endStay 0 = .ok (.aload_n 0, 1) := by decide +kernel
theorem dX0_endStay_1 : decode cX0_endStay 1 = .ok (.getfield 51, 3) := by decide +kernel
theorem dX0_endStay_4 : decode cX0_endStay 4 = .ok (.ifnull 16, 3) := by decide +kernel
theorem dX0_endStay_7 : decode cX0_endStay 7 = .ok (.aload_n 0, 1) := by decide +kernel
theorem dX0_endStay_8 : decode cX0_endStay 8 = .ok (.getfield 51, 3) := by decide +kernel
theorem dX0_endStay_11 : decode cX0_endStay 11 = .ok (.iload_n 1, 1) := by decide +kernel
theorem dX0_endStay_12 : decode cX0_endStay 12 = .ok (.putfield 96, 3) := by decide +kernel
theorem dX0_endStay_15 : decode cX0_endStay 15 = .ok (.aload_n 0, 1) := by decide +kernel
theorem dX0_endStay_16 : decode cX0_endStay 16 = .ok (.aconst_null, 1) := by decide +kernel
theorem dX0_endStay_17 : decode cX0_endStay 17 = .ok (.putfield 51, 3) := by decide +kernel
theorem dX0_endStay_20 : decode cX0_endStay 20 = .ok (.return_, 1) := by decide +kernel
theorem dX0_beginDay_0 : decode cX0_beginDay 0 = .ok (.aload_n 0, 1) := by decide +kernel
theorem dX0_beginDay_1 : decode cX0_beginDay 1 = .ok (.getfield 51, 3) := by decide +kernel
theorem dX0_beginDay_4 : decode cX0_beginDay 4 = .ok (.ifnonnull 4, 3) := by decide +kernel
theorem dX0_beginDay_7 : decode cX0_beginDay 7 = .ok (.return_, 1) := by decide +kernel
theorem dX0_beginDay_8 : decode cX0_beginDay 8 = .ok (.aload_n 0, 1) := by decide +kernel
theorem dX0_beginDay_9 : decode cX0_beginDay 9 = .ok (.iload_n 1, 1) := by decide +kernel
theorem dX0_beginDay_10 : decode cX0_beginDay 10 = .ok (.invokevirtual 99, 3) := by decide +kernel
theorem dX0_beginDay_13 : decode cX0_beginDay 13 = .ok (.istore_n 2, 1) := by decide +kernel
theorem dX0_beginDay_14 : decode cX0_beginDay 14 = .ok (.iload_n 2, 1) := by decide +kernel
theorem dX0_beginDay_15 : decode cX0_beginDay 15 = .ok (.ifCond .eq 16, 3) := by decide +kernel
theorem dX0_beginDay_18 : decode cX0_beginDay 18 = .ok (.iload_n 2, 1) := by decide +kernel
theorem dX0_beginDay_19 : decode cX0_beginDay 19 = .ok (.iconst 2, 1) := by decide +kernel
theorem dX0_beginDay_20 : decode cX0_beginDay 20 = .ok (.if_icmp .eq 11, 3) := by decide +kernel
theorem dX0_beginDay_23 : decode cX0_beginDay 23 = .ok (.aload_n 0, 1) := by decide +kernel
theorem dX0_beginDay_24 : decode cX0_beginDay 24 = .ok (.iload_n 1, 1) := by decide +kernel
theorem dX0_beginDay_25 : decode cX0_beginDay 25 = .ok (.invokevirtual 102, 3) := by decide +kernel
theorem dX0_beginDay_28 : decode cX0_beginDay 28 = .ok (.goto 19, 3) := by decide +kernel
theorem dX0_beginDay_31 : decode cX0_beginDay 31 = .ok (.aload_n 0, 1) := by decide +kernel
theorem dX0_beginDay_32 : decode cX0_beginDay 32 = .ok (.getfield 47, 3) := by decide +kernel
theorem dX0_beginDay_35 : decode cX0_beginDay 35 = .ok (.iload_n 1, 1) := by decide +kernel
theorem dX0_beginDay_36 : decode cX0_beginDay 36 = .ok (.aload_n 0, 1) := by decide +kernel
theorem dX0_beginDay_37 : decode cX0_beginDay 37 = .ok (.getfield 51, 3) := by decide +kernel
theorem dX0_beginDay_40 : decode cX0_beginDay 40 = .ok (.getfield 106, 3) := by decide +kernel
theorem dX0_beginDay_43 : decode cX0_beginDay 43 = .ok (.isub, 1) := by decide +kernel
theorem dX0_beginDay_44 : decode cX0_beginDay 44 = .ok (.invokevirtual 109, 3) := by decide +kernel
theorem dX0_beginDay_47 : decode cX0_beginDay 47 = .ok (.return_, 1) := by decide +kernel
theorem dX1_init_0 : decode cX1_init 0 = .ok (.aload_n 0, 1) := by decide +kernel
theorem dX1_init_1 : decode cX1_init 1 = .ok (.invokespecial 1, 3) := by decide +kernel
theorem dX1_init_4 : decode cX1_init 4 = .ok (.return_, 1) := by decide +kernel
theorem dX1_beginDay_0 : decode cX1_beginDay 0 = .ok (.aload_n 0, 1) := by decide +kernel
theorem dX1_beginDay_1 : decode cX1_beginDay 1 = .ok (.getfield 7, 3) := by decide +kernel
theorem dX1_beginDay_4 : decode cX1_beginDay 4 = .ok (.ifCond .le 21, 3) := by decide +kernel
theorem dX1_beginDay_7 : decode cX1_beginDay 7 = .ok (.iload_n 1, 1) := by decide +kernel
theorem dX1_beginDay_8 : decode cX1_beginDay 8 = .ok (.aload_n 0, 1) := by decide +kernel
theorem dX1_beginDay_9 : decode cX1_beginDay 9 = .ok (.getfield 7, 3) := by decide +kernel
theorem dX1_beginDay_12 : decode cX1_beginDay 12 = .ok (.irem, 1) := by decide +kernel
theorem dX1_beginDay_13 : decode cX1_beginDay 13 = .ok (.ifCond .ne 12, 3) := by decide +kernel
theorem dX1_beginDay_16 : decode cX1_beginDay 16 = .ok (.aload_n 0, 1) := by decide +kernel
theorem dX1_beginDay_17 : decode cX1_beginDay 17 = .ok (.invokevirtual 13, 3) := by decide +kernel
theorem dX1_beginDay_20 : decode cX1_beginDay 20 = .ok (.aload_n 0, 1) := by decide +kernel
theorem dX1_beginDay_21 : decode cX1_beginDay 21 = .ok (.iconst 0, 1) := by decide +kernel
theorem dX1_beginDay_22 : decode cX1_beginDay 22 = .ok (.putfield 16, 3) := by decide +kernel
theorem dX1_beginDay_25 : decode cX1_beginDay 25 = .ok (.return_, 1) := by decide +kernel
theorem dX1_countVisit_0 : decode cX1_countVisit 0 = .ok (.aload_n 0, 1) := by decide +kernel
theorem dX1_countVisit_1 : decode cX1_countVisit 1 = .ok (.getfield 16, 3) := by decide +kernel
theorem dX1_countVisit_4 : decode cX1_countVisit 4 = .ok (.ifCond .eq 31, 3) := by decide +kernel
theorem dX1_countVisit_7 : decode cX1_countVisit 7 = .ok (.aload_n 0, 1) := by decide +kernel
theorem dX1_countVisit_8 : decode cX1_countVisit 8 = .ok (.dup, 1) := by decide +kernel
theorem dX1_countVisit_9 : decode cX1_countVisit 9 = .ok (.getfield 20, 3) := by decide +kernel
theorem dX1_countVisit_12 : decode cX1_countVisit 12 = .ok (.iconst 1, 1) := by decide +kernel
theorem dX1_countVisit_13 : decode cX1_countVisit 13 = .ok (.iadd, 1) := by decide +kernel
theorem dX1_countVisit_14 : decode cX1_countVisit 14 = .ok (.putfield 20, 3) := by decide +kernel
theorem dX1_countVisit_17 : decode cX1_countVisit 17 = .ok (.aload_n 0, 1) := by decide +kernel
theorem dX1_countVisit_18 : decode cX1_countVisit 18 = .ok (.dup, 1) := by decide +kernel
theorem dX1_countVisit_19 : decode cX1_countVisit 19 = .ok (.getfield 23, 3) := by decide +kernel
theorem dX1_countVisit_22 : decode cX1_countVisit 22 = .ok (.iconst 1, 1) := by decide +kernel
theorem dX1_countVisit_23 : decode cX1_countVisit 23 = .ok (.iadd, 1) := by decide +kernel
theorem dX1_countVisit_24 : decode cX1_countVisit 24 = .ok (.putfield 23, 3) := by decide +kernel
theorem dX1_countVisit_27 : decode cX1_countVisit 27 = .ok (.aload_n 0, 1) := by decide +kernel
theorem dX1_countVisit_28 : decode cX1_countVisit 28 = .ok (.iconst 0, 1) := by decide +kernel
theorem dX1_countVisit_29 : decode cX1_countVisit 29 = .ok (.putfield 26, 3) := by decide +kernel
theorem dX1_countVisit_32 : decode cX1_countVisit 32 = .ok (.goto 28, 3) := by decide +kernel
theorem dX1_countVisit_35 : decode cX1_countVisit 35 = .ok (.aload_n 0, 1) := by decide +kernel
theorem dX1_countVisit_36 : decode cX1_countVisit 36 = .ok (.dup, 1) := by decide +kernel
theorem dX1_countVisit_37 : decode cX1_countVisit 37 = .ok (.getfield 29, 3) := by decide +kernel
theorem dX1_countVisit_40 : decode cX1_countVisit 40 = .ok (.iconst 1, 1) := by decide +kernel
theorem dX1_countVisit_41 : decode cX1_countVisit 41 = .ok (.iadd, 1) := by decide +kernel
theorem dX1_countVisit_42 : decode cX1_countVisit 42 = .ok (.putfield 29, 3) := by decide +kernel
theorem dX1_countVisit_45 : decode cX1_countVisit 45 = .ok (.aload_n 0, 1) := by decide +kernel
theorem dX1_countVisit_46 : decode cX1_countVisit 46 = .ok (.dup, 1) := by decide +kernel
theorem dX1_countVisit_47 : decode cX1_countVisit 47 = .ok (.getfield 26, 3) := by decide +kernel
theorem dX1_countVisit_50 : decode cX1_countVisit 50 = .ok (.iconst 1, 1) := by decide +kernel
theorem dX1_countVisit_51 : decode cX1_countVisit 51 = .ok (.iadd, 1) := by decide +kernel
theorem dX1_countVisit_52 : decode cX1_countVisit 52 = .ok (.putfield 26, 3) := by decide +kernel
theorem dX1_countVisit_55 : decode cX1_countVisit 55 = .ok (.aload_n 0, 1) := by decide +kernel
theorem dX1_countVisit_56 : decode cX1_countVisit 56 = .ok (.iconst 0, 1) := by decide +kernel
theorem dX1_countVisit_57 : decode cX1_countVisit 57 = .ok (.putfield 23, 3) := by decide +kernel
theorem dX1_countVisit_60 : decode cX1_countVisit 60 = .ok (.aload_n 0, 1) := by decide +kernel
theorem dX1_countVisit_61 : decode cX1_countVisit 61 = .ok (.getfield 26, 3) := by decide +kernel
theorem dX1_countVisit_64 : decode cX1_countVisit 64 = .ok (.iconst 3, 1) := by decide +kernel
theorem dX1_countVisit_65 : decode cX1_countVisit 65 = .ok (.if_icmp .lt 11, 3) := by decide +kernel
theorem dX1_countVisit_68 : decode cX1_countVisit 68 = .ok (.aload_n 0, 1) := by decide +kernel
theorem dX1_countVisit_69 : decode cX1_countVisit 69 = .ok (.iconst 1, 1) := by decide +kernel
theorem dX1_countVisit_70 : decode cX1_countVisit 70 = .ok (.putfield 32, 3) := by decide +kernel
theorem dX1_countVisit_73 : decode cX1_countVisit 73 = .ok (.goto 16, 3) := by decide +kernel
theorem dX1_countVisit_76 : decode cX1_countVisit 76 = .ok (.aload_n 0, 1) := by decide +kernel
theorem dX1_countVisit_77 : decode cX1_countVisit 77 = .ok (.getfield 23, 3) := by decide +kernel
theorem dX1_countVisit_80 : decode cX1_countVisit 80 = .ok (.iconst 3, 1) := by decide +kernel
theorem dX1_countVisit_81 : decode cX1_countVisit 81 = .ok (.if_icmp .lt 8, 3) := by decide +kernel
theorem dX1_countVisit_84 : decode cX1_countVisit 84 = .ok (.aload_n 0, 1) := by decide +kernel
theorem dX1_countVisit_85 : decode cX1_countVisit 85 = .ok (.iconst 0, 1) := by decide +kernel
theorem dX1_countVisit_86 : decode cX1_countVisit 86 = .ok (.putfield 32, 3) := by decide +kernel
theorem dX1_countVisit_89 : decode cX1_countVisit 89 = .ok (.return_, 1) := by decide +kernel
theorem dX2_init_0 : decode cX2_init 0 = .ok (.aload_n 0, 1) := by decide +kernel
theorem dX2_init_1 : decode cX2_init 1 = .ok (.invokespecial 1, 3) := by decide +kernel
theorem dX2_init_4 : decode cX2_init 4 = .ok (.aload_n 0, 1) := by decide +kernel
theorem dX2_init_5 : decode cX2_init 5 = .ok (.iload_n 1, 1) := by decide +kernel
theorem dX2_init_6 : decode cX2_init 6 = .ok (.putfield 7, 3) := by decide +kernel
theorem dX2_init_9 : decode cX2_init 9 = .ok (.aload_n 0, 1) := by decide +kernel
theorem dX2_init_10 : decode cX2_init 10 = .ok (.iload_n 2, 1) := by decide +kernel
theorem dX2_init_11 : decode cX2_init 11 = .ok (.putfield 13, 3) := by decide +kernel
theorem dX2_init_14 : decode cX2_init 14 = .ok (.aload_n 0, 1) := by decide +kernel
theorem dX2_init_15 : decode cX2_init 15 = .ok (.iload_n 3, 1) := by decide +kernel
theorem dX2_init_16 : decode cX2_init 16 = .ok (.putfield 16, 3) := by decide +kernel
theorem dX2_init_19 : decode cX2_init 19 = .ok (.aload_n 0, 1) := by decide +kernel
theorem dX2_init_20 : decode cX2_init 20 = .ok (.iload 4, 2) := by decide +kernel
theorem dX2_init_22 : decode cX2_init 22 = .ok (.putfield 19, 3) := by decide +kernel
theorem dX2_init_25 : decode cX2_init 25 = .ok (.return_, 1) := by decide +kernel
theorem dX2_isTrainedFor_0 : decode cX2_isTrainedFor 0 = .ok (.aload_n 0, 1) := by decide +kernel
theorem dX2_isTrainedFor_1 : decode cX2_isTrainedFor 1 = .ok (.getfield 22, 3) := by decide +kernel
theorem dX2_isTrainedFor_4 : decode cX2_isTrainedFor 4 = .ok (.iload_n 2, 1) := by decide +kernel
theorem dX2_isTrainedFor_5 : decode cX2_isTrainedFor 5 = .ok (.invokestatic 26, 3) := by decide +kernel
theorem dX2_isTrainedFor_8 : decode cX2_isTrainedFor 8 = .ok (.astore_n 3, 1) := by decide +kernel
theorem dX2_isTrainedFor_9 : decode cX2_isTrainedFor 9 = .ok (.aload_n 3, 1) := by decide +kernel
theorem dX2_isTrainedFor_10 : decode cX2_isTrainedFor 10 = .ok (.ifnull 18, 3) := by decide +kernel
theorem dX2_isTrainedFor_13 : decode cX2_isTrainedFor 13 = .ok (.aload_n 3, 1) := by decide +kernel
theorem dX2_isTrainedFor_14 : decode cX2_isTrainedFor 14 = .ok (.iload_n 2, 1) := by decide +kernel
theorem dX2_isTrainedFor_15 : decode cX2_isTrainedFor 15 = .ok (.invokevirtual 32, 3) := by decide +kernel
theorem dX2_isTrainedFor_18 : decode cX2_isTrainedFor 18 = .ok (.ifCond .eq 10, 3) := by decide +kernel
theorem dX2_isTrainedFor_21 : decode cX2_isTrainedFor 21 = .ok (.aload_n 3, 1) := by decide +kernel
theorem dX2_isTrainedFor_22 : decode cX2_isTrainedFor 22 = .ok (.getfield 36, 3) := by decide +kernel
theorem dX2_isTrainedFor_25 : decode cX2_isTrainedFor 25 = .ok (.goto 4, 3) := by decide +kernel
theorem dX2_isTrainedFor_28 : decode cX2_isTrainedFor 28 = .ok (.iconst 0, 1) := by decide +kernel
theorem dX2_isTrainedFor_29 : decode cX2_isTrainedFor 29 = .ok (.istore 4, 2) := by decide +kernel
theorem dX2_isTrainedFor_31 : decode cX2_isTrainedFor 31 = .ok (.iload_n 1, 1) := by decide +kernel
theorem dX2_isTrainedFor_32 : decode cX2_isTrainedFor 32 = .ok (.iload 4, 2) := by decide +kernel
theorem dX2_isTrainedFor_34 : decode cX2_isTrainedFor 34 = .ok (.iconst (-1), 1) := by decide +kernel
theorem dX2_isTrainedFor_35 : decode cX2_isTrainedFor 35 = .ok (.ixor, 1) := by decide +kernel
theorem dX2_isTrainedFor_36 : decode cX2_isTrainedFor 36 = .ok (.iand, 1) := by decide +kernel
theorem dX2_isTrainedFor_37 : decode cX2_isTrainedFor 37 = .ok (.ifCond .ne 7, 3) := by decide +kernel
theorem dX2_isTrainedFor_40 : decode cX2_isTrainedFor 40 = .ok (.iconst 1, 1) := by decide +kernel
theorem dX2_isTrainedFor_41 : decode cX2_isTrainedFor 41 = .ok (.goto 4, 3) := by decide +kernel
theorem dX2_isTrainedFor_44 : decode cX2_isTrainedFor 44 = .ok (.iconst 0, 1) := by decide +kernel
theorem dX2_isTrainedFor_45 : decode cX2_isTrainedFor 45 = .ok (.ireturn, 1) := by decide +kernel
theorem dX2_restsOn_0 : decode cX2_restsOn 0 = .ok (.aload_n 0, 1) := by decide +kernel
theorem dX2_restsOn_1 : decode cX2_restsOn 1 = .ok (.getfield 39, 3) := by decide +kernel
theorem dX2_restsOn_4 : decode cX2_restsOn 4 = .ok (.iload_n 1, 1) := by decide +kernel
theorem dX2_restsOn_5 : decode cX2_restsOn 5 = .ok (.invokestatic 26, 3) := by decide +kernel
theorem dX2_restsOn_8 : decode cX2_restsOn 8 = .ok (.astore_n 2, 1) := by decide +kernel
theorem dX2_restsOn_9 : decode cX2_restsOn 9 = .ok (.aload_n 2, 1) := by decide +kernel
theorem dX2_restsOn_10 : decode cX2_restsOn 10 = .ok (.ifnull 15, 3) := by decide +kernel
theorem dX2_restsOn_13 : decode cX2_restsOn 13 = .ok (.aload_n 2, 1) := by decide +kernel
theorem dX2_restsOn_14 : decode cX2_restsOn 14 = .ok (.iload_n 1, 1) := by decide +kernel
theorem dX2_restsOn_15 : decode cX2_restsOn 15 = .ok (.invokevirtual 32, 3) := by decide +kernel
theorem dX2_restsOn_18 : decode cX2_restsOn 18 = .ok (.ifCond .eq 7, 3) := by decide +kernel
theorem dX2_restsOn_21 : decode cX2_restsOn 21 = .ok (.iconst 1, 1) := by decide +kernel
theorem dX2_restsOn_22 : decode cX2_restsOn 22 = .ok (.goto 4, 3) := by decide +kernel
theorem dX2_restsOn_25 : decode cX2_restsOn 25 = .ok (.iconst 0, 1) := by decide +kernel
theorem dX2_restsOn_26 : decode cX2_restsOn 26 = .ok (.ireturn, 1) := by decide +kernel
theorem dX3_init_0 : decode cX3_init 0 = .ok (.aload_n 0, 1) := by decide +kernel
theorem dX3_init_1 : decode cX3_init 1 = .ok (.invokespecial 1, 3) := by decide +kernel
theorem dX3_init_4 : decode cX3_init 4 = .ok (.aload_n 0, 1) := by decide +kernel
theorem dX3_init_5 : decode cX3_init 5 = .ok (.iload_n 1, 1) := by decide +kernel
theorem dX3_init_6 : decode cX3_init 6 = .ok (.putfield 7, 3) := by decide +kernel
theorem dX3_init_9 : decode cX3_init 9 = .ok (.aload_n 0, 1) := by decide +kernel
theorem dX3_init_10 : decode cX3_init 10 = .ok (.iload_n 2, 1) := by decide +kernel
theorem dX3_init_11 : decode cX3_init 11 = .ok (.putfield 13, 3) := by decide +kernel
theorem dX3_init_14 : decode cX3_init 14 = .ok (.aload_n 0, 1) := by decide +kernel
theorem dX3_init_15 : decode cX3_init 15 = .ok (.iload_n 3, 1) := by decide +kernel
theorem dX3_init_16 : decode cX3_init 16 = .ok (.putfield 16, 3) := by decide +kernel
theorem dX3_init_19 : decode cX3_init 19 = .ok (.aload_n 0, 1) := by decide +kernel
theorem dX3_init_20 : decode cX3_init 20 = .ok (.iload 4, 2) := by decide +kernel
theorem dX3_init_22 : decode cX3_init 22 = .ok (.putfield 19, 3) := by decide +kernel
theorem dX3_init_25 : decode cX3_init 25 = .ok (.aload_n 0, 1) := by decide +kernel
theorem dX3_init_26 : decode cX3_init 26 = .ok (.aload 5, 2) := by decide +kernel
theorem dX3_init_28 : decode cX3_init 28 = .ok (.putfield 22, 3) := by decide +kernel
theorem dX3_init_31 : decode cX3_init 31 = .ok (.return_, 1) := by decide +kernel
theorem dX3_holdsOn_0 : decode cX3_holdsOn 0 = .ok (.aload_n 0, 1) := by decide +kernel
theorem dX3_holdsOn_1 : decode cX3_holdsOn 1 = .ok (.getfield 16, 3) := by decide +kernel
theorem dX3_holdsOn_4 : decode cX3_holdsOn 4 = .ok (.iload_n 1, 1) := by decide +kernel
theorem dX3_holdsOn_5 : decode cX3_holdsOn 5 = .ok (.if_icmp .gt 15, 3) := by decide +kernel
theorem dX3_holdsOn_8 : decode cX3_holdsOn 8 = .ok (.iload_n 1, 1) := by decide +kernel
theorem dX3_holdsOn_9 : decode cX3_holdsOn 9 = .ok (.aload_n 0, 1) := by decide +kernel
theorem dX3_holdsOn_10 : decode cX3_holdsOn 10 = .ok (.getfield 19, 3) := by decide +kernel
theorem dX3_holdsOn_13 : decode cX3_holdsOn 13 = .ok (.if_icmp .ge 7, 3) := by decide +kernel
theorem dX3_holdsOn_16 : decode cX3_holdsOn 16 = .ok (.iconst 1, 1) := by decide +kernel
theorem dX3_holdsOn_17 : decode cX3_holdsOn 17 = .ok (.goto 4, 3) := by decide +kernel
theorem dX3_holdsOn_20 : decode cX3_holdsOn 20 = .ok (.iconst 0, 1) := by decide +kernel
theorem dX3_holdsOn_21 : decode cX3_holdsOn 21 = .ok (.ireturn, 1) := by decide +kernel
theorem dX4_init_0 : decode cX4_init 0 = .ok (.aload_n 0, 1) := by decide +kernel
theorem dX4_init_1 : decode cX4_init 1 = .ok (.invokespecial 3, 3) := by decide +kernel
theorem dX4_init_4 : decode cX4_init 4 = .ok (.aload_n 0, 1) := by decide +kernel
theorem dX4_init_5 : decode cX4_init 5 = .ok (.iconst 5, 1) := by decide +kernel
theorem dX4_init_6 : decode cX4_init 6 = .ok (.anewarray 9, 3) := by decide +kernel
theorem dX4_init_9 : decode cX4_init 9 = .ok (.putfield 11, 3) := by decide +kernel
theorem dX4_init_12 : decode cX4_init 12 = .ok (.aload_n 0, 1) := by decide +kernel
theorem dX4_init_13 : decode cX4_init 13 = .ok (.iconst 5, 1) := by decide +kernel
theorem dX4_init_14 : decode cX4_init 14 = .ok (.newarray .int, 2) := by decide +kernel
theorem dX4_init_16 : decode cX4_init 16 = .ok (.putfield 17, 3) := by decide +kernel
theorem dX4_init_19 : decode cX4_init 19 = .ok (.aload_n 0, 1) := by decide +kernel
theorem dX4_init_20 : decode cX4_init 20 = .ok (.iconst 5, 1) := by decide +kernel
theorem dX4_init_21 : decode cX4_init 21 = .ok (.bipush 10, 2) := by decide +kernel
theorem dX4_init_23 : decode cX4_init 23 = .ok (.multianewarray 21 2, 4) := by decide +kernel
theorem dX4_init_27 : decode cX4_init 27 = .ok (.putfield 23, 3) := by decide +kernel
theorem dX4_init_30 : decode cX4_init 30 = .ok (.aload_n 0, 1) := by decide +kernel
theorem dX4_init_31 : decode cX4_init 31 = .ok (.bipush 10, 2) := by decide +kernel
theorem dX4_init_33 : decode cX4_init 33 = .ok (.newarray .int, 2) := by decide +kernel
theorem dX4_init_35 : decode cX4_init 35 = .ok (.putfield 26, 3) := by decide +kernel
theorem dX4_init_38 : decode cX4_init 38 = .ok (.aload_n 0, 1) := by decide +kernel
theorem dX4_init_39 : decode cX4_init 39 = .ok (.bipush 10, 2) := by decide +kernel
theorem dX4_init_41 : decode cX4_init 41 = .ok (.bipush 32, 2) := by decide +kernel
theorem dX4_init_43 : decode cX4_init 43 = .ok (.multianewarray 21 2, 4) := by decide +kernel
theorem dX4_init_47 : decode cX4_init 47 = .ok (.putfield 29, 3) := by decide +kernel
theorem dX4_init_50 : decode cX4_init 50 = .ok (.aload_n 0, 1) := by decide +kernel
theorem dX4_init_51 : decode cX4_init 51 = .ok (.bipush 32, 2) := by decide +kernel
theorem dX4_init_53 : decode cX4_init 53 = .ok (.newarray .long, 2) := by decide +kernel
theorem dX4_init_55 : decode cX4_init 55 = .ok (.putfield 32, 3) := by decide +kernel
theorem dX4_init_58 : decode cX4_init 58 = .ok (.aload_n 0, 1) := by decide +kernel
theorem dX4_init_59 : decode cX4_init 59 = .ok (.bipush 32, 2) := by decide +kernel
theorem dX4_init_61 : decode cX4_init 61 = .ok (.newarray .long, 2) := by decide +kernel
theorem dX4_init_63 : decode cX4_init 63 = .ok (.putfield 36, 3) := by decide +kernel
theorem dX4_init_66 : decode cX4_init 66 = .ok (.return_, 1) := by decide +kernel
theorem dX4_clear_0 : decode cX4_clear 0 = .ok (.aload_n 0, 1) := by decide +kernel
theorem dX4_clear_1 : decode cX4_clear 1 = .ok (.iconst 0, 1) := by decide +kernel
theorem dX4_clear_2 : decode cX4_clear 2 = .ok (.putfield 39, 3) := by decide +kernel
theorem dX4_clear_5 : decode cX4_clear 5 = .ok (.aload_n 0, 1) := by decide +kernel
theorem dX4_clear_6 : decode cX4_clear 6 = .ok (.iconst 1, 1) := by decide +kernel
theorem dX4_clear_7 : decode cX4_clear 7 = .ok (.putfield 43, 3) := by decide +kernel
theorem dX4_clear_10 : decode cX4_clear 10 = .ok (.return_, 1) := by decide +kernel
theorem dX4_setBeds_0 : decode cX4_setBeds 0 = .ok (.iload_n 1, 1) := by decide +kernel
theorem dX4_setBeds_1 : decode cX4_setBeds 1 = .ok (.ifCond .lt 16, 3) := by decide +kernel
theorem dX4_setBeds_4 : decode cX4_setBeds 4 = .ok (.iload_n 1, 1) := by decide +kernel
theorem dX4_setBeds_5 : decode cX4_setBeds 5 = .ok (.bipush 10, 2) := by decide +kernel
theorem dX4_setBeds_7 : decode cX4_setBeds 7 = .ok (.if_icmp .ge 10, 3) := by decide +kernel
theorem dX4_setBeds_10 : decode cX4_setBeds 10 = .ok (.aload_n 0, 1) := by decide +kernel
theorem dX4_setBeds_11 : decode cX4_setBeds 11 = .ok (.getfield 26, 3) := by decide +kernel
theorem dX4_setBeds_14 : decode cX4_setBeds 14 = .ok (.iload_n 1, 1) := by decide +kernel
theorem dX4_setBeds_15 : decode cX4_setBeds 15 = .ok (.iload_n 2, 1) := by decide +kernel
theorem dX4_setBeds_16 : decode cX4_setBeds 16 = .ok (.iastore, 1) := by decide +kernel
theorem dX4_setBeds_17 : decode cX4_setBeds 17 = .ok (.return_, 1) := by decide +kernel
theorem dX4_addChild_0 : decode cX4_addChild 0 = .ok (.aload_n 0, 1) := by decide +kernel
theorem dX4_addChild_1 : decode cX4_addChild 1 = .ok (.getfield 39, 3) := by decide +kernel
theorem dX4_addChild_4 : decode cX4_addChild 4 = .ok (.istore_n 2, 1) := by decide +kernel
theorem dX4_addChild_5 : decode cX4_addChild 5 = .ok (.iload_n 2, 1) := by decide +kernel
theorem dX4_addChild_6 : decode cX4_addChild 6 = .ok (.iconst 5, 1) := by decide +kernel
theorem dX4_addChild_7 : decode cX4_addChild 7 = .ok (.if_icmp .lt 5, 3) := by decide +kernel
theorem dX4_addChild_10 : decode cX4_addChild 10 = .ok (.iconst (-1), 1) := by decide +kernel
theorem dX4_addChild_11 : decode cX4_addChild 11 = .ok (.ireturn, 1) := by decide +kernel
theorem dX4_addChild_12 : decode cX4_addChild 12 = .ok (.aload_n 0, 1) := by decide +kernel
theorem dX4_addChild_13 : decode cX4_addChild 13 = .ok (.getfield 11, 3) := by decide +kernel
theorem dX4_addChild_16 : decode cX4_addChild 16 = .ok (.iload_n 2, 1) := by decide +kernel
theorem dX4_addChild_17 : decode cX4_addChild 17 = .ok (.aload_n 1, 1) := by decide +kernel
theorem dX4_addChild_18 : decode cX4_addChild 18 = .ok (.aastore, 1) := by decide +kernel
theorem dX4_addChild_19 : decode cX4_addChild 19 = .ok (.iconst 0, 1) := by decide +kernel
theorem dX4_addChild_20 : decode cX4_addChild 20 = .ok (.istore_n 3, 1) := by decide +kernel
theorem dX4_addChild_21 : decode cX4_addChild 21 = .ok (.iload_n 3, 1) := by decide +kernel
theorem dX4_addChild_22 : decode cX4_addChild 22 = .ok (.bipush 10, 2) := by decide +kernel
theorem dX4_addChild_24 : decode cX4_addChild 24 = .ok (.if_icmp .ge 19, 3) := by decide +kernel
theorem dX4_addChild_27 : decode cX4_addChild 27 = .ok (.aload_n 0, 1) := by decide +kernel
theorem dX4_addChild_28 : decode cX4_addChild 28 = .ok (.getfield 23, 3) := by decide +kernel
theorem dX4_addChild_31 : decode cX4_addChild 31 = .ok (.iload_n 2, 1) := by decide +kernel
theorem dX4_addChild_32 : decode cX4_addChild 32 = .ok (.aaload, 1) := by decide +kernel
theorem dX4_addChild_33 : decode cX4_addChild 33 = .ok (.iload_n 3, 1) := by decide +kernel
theorem dX4_addChild_34 : decode cX4_addChild 34 = .ok (.ldc 46, 2) := by decide +kernel
theorem dX4_addChild_36 : decode cX4_addChild 36 = .ok (.iastore, 1) := by decide +kernel
theorem dX4_addChild_37 : decode cX4_addChild 37 = .ok (.iinc 3 1, 3) := by decide +kernel
theorem dX4_addChild_40 : decode cX4_addChild 40 = .ok (.goto (-19), 3) := by decide +kernel
theorem dX4_addChild_43 : decode cX4_addChild 43 = .ok (.aload_n 0, 1) := by decide +kernel
theorem dX4_addChild_44 : decode cX4_addChild 44 = .ok (.iload_n 2, 1) := by decide +kernel
theorem dX4_addChild_45 : decode cX4_addChild 45 = .ok (.iconst 1, 1) := by decide +kernel
theorem dX4_addChild_46 : decode cX4_addChild 46 = .ok (.iadd, 1) := by decide +kernel
theorem dX4_addChild_47 : decode cX4_addChild 47 = .ok (.putfield 39, 3) := by decide +kernel
theorem dX4_addChild_50 : decode cX4_addChild 50 = .ok (.aload_n 0, 1) := by decide +kernel
theorem dX4_addChild_51 : decode cX4_addChild 51 = .ok (.iconst 2, 1) := by decide +kernel
theorem dX4_addChild_52 : decode cX4_addChild 52 = .ok (.aload_n 0, 1) := by decide +kernel
theorem dX4_addChild_53 : decode cX4_addChild 53 = .ok (.getfield 43, 3) := by decide +kernel
theorem dX4_addChild_56 : decode cX4_addChild 56 = .ok (.imul, 1) := by decide +kernel
theorem dX4_addChild_57 : decode cX4_addChild 57 = .ok (.putfield 43, 3) := by decide +kernel
theorem dX4_addChild_60 : decode cX4_addChild 60 = .ok (.iload_n 2, 1) := by decide +kernel
theorem dX4_addChild_61 : decode cX4_addChild 61 = .ok (.ireturn, 1) := by decide +kernel
theorem dX4_allow_0 : decode cX4_allow 0 = .ok (.iload_n 1, 1) := by decide +kernel
theorem dX4_allow_1 : decode cX4_allow 1 = .ok (.ifCond .lt 27, 3) := by decide +kernel
theorem dX4_allow_4 : decode cX4_allow 4 = .ok (.iload_n 1, 1) := by decide +kernel
theorem dX4_allow_5 : decode cX4_allow 5 = .ok (.iconst 5, 1) := by decide +kernel
theorem dX4_allow_6 : decode cX4_allow 6 = .ok (.if_icmp .ge 22, 3) := by decide +kernel
theorem dX4_allow_9 : decode cX4_allow 9 = .ok (.iload_n 2, 1) := by decide +kernel
theorem dX4_allow_10 : decode cX4_allow 10 = .ok (.ifCond .lt 18, 3) := by decide +kernel
theorem dX4_allow_13 : decode cX4_allow 13 = .ok (.iload_n 2, 1) := by decide +kernel
theorem dX4_allow_14 : decode cX4_allow 14 = .ok (.bipush 10, 2) := by decide +kernel
theorem dX4_allow_16 : decode cX4_allow 16 = .ok (.if_icmp .ge 12, 3) := by decide +kernel
theorem dX4_allow_19 : decode cX4_allow 19 = .ok (.aload_n 0, 1) := by decide +kernel
theorem dX4_allow_20 : decode cX4_allow 20 = .ok (.getfield 23, 3) := by decide +kernel
theorem dX4_allow_23 : decode cX4_allow 23 = .ok (.iload_n 1, 1) := by decide +kernel
theorem dX4_allow_24 : decode cX4_allow 24 = .ok (.aaload, 1) := by decide +kernel
theorem dX4_allow_25 : decode cX4_allow 25 = .ok (.iload_n 2, 1) := by decide +kernel
theorem dX4_allow_26 : decode cX4_allow 26 = .ok (.iload_n 3, 1) := by decide +kernel
theorem dX4_allow_27 : decode cX4_allow 27 = .ok (.iastore, 1) := by decide +kernel
theorem dX4_allow_28 : decode cX4_allow 28 = .ok (.return_, 1) := by decide +kernel
theorem dX4_childAtRow_0 : decode cX4_childAtRow 0 = .ok (.iload_n 1, 1) := by decide +kernel
theorem dX4_childAtRow_1 : decode cX4_childAtRow 1 = .ok (.ifCond .lt 25, 3) := by decide +kernel
theorem dX4_childAtRow_4 : decode cX4_childAtRow 4 = .ok (.iload_n 1, 1) := by decide +kernel
theorem dX4_childAtRow_5 : decode cX4_childAtRow 5 = .ok (.aload_n 0, 1) := by decide +kernel
theorem dX4_childAtRow_6 : decode cX4_childAtRow 6 = .ok (.getfield 39, 3) := by decide +kernel
theorem dX4_childAtRow_9 : decode cX4_childAtRow 9 = .ok (.if_icmp .ge 17, 3) := by decide +kernel
theorem dX4_childAtRow_12 : decode cX4_childAtRow 12 = .ok (.iload_n 1, 1) := by decide +kernel
theorem dX4_childAtRow_13 : decode cX4_childAtRow 13 = .ok (.iconst 5, 1) := by decide +kernel
theorem dX4_childAtRow_14 : decode cX4_childAtRow 14 = .ok (.if_icmp .ge 12, 3) := by decide +kernel
theorem dX4_childAtRow_17 : decode cX4_childAtRow 17 = .ok (.aload_n 0, 1) := by decide +kernel
theorem dX4_childAtRow_18 : decode cX4_childAtRow 18 = .ok (.getfield 11, 3) := by decide +kernel
theorem dX4_childAtRow_21 : decode cX4_childAtRow 21 = .ok (.iload_n 1, 1) := by decide +kernel
theorem dX4_childAtRow_22 : decode cX4_childAtRow 22 = .ok (.aaload, 1) := by decide +kernel
theorem dX4_childAtRow_23 : decode cX4_childAtRow 23 = .ok (.goto 4, 3) := by decide +kernel
theorem dX4_childAtRow_26 : decode cX4_childAtRow 26 = .ok (.aconst_null, 1) := by decide +kernel
theorem dX4_childAtRow_27 : decode cX4_childAtRow 27 = .ok (.areturn, 1) := by decide +kernel
theorem dX4_homeAtRow_0 : decode cX4_homeAtRow 0 = .ok (.iload_n 1, 1) := by decide +kernel
theorem dX4_homeAtRow_1 : decode cX4_homeAtRow 1 = .ok (.ifCond .lt 25, 3) := by decide +kernel
theorem dX4_homeAtRow_4 : decode cX4_homeAtRow 4 = .ok (.iload_n 1, 1) := by decide +kernel
theorem dX4_homeAtRow_5 : decode cX4_homeAtRow 5 = .ok (.aload_n 0, 1) := by decide +kernel
theorem dX4_homeAtRow_6 : decode cX4_homeAtRow 6 = .ok (.getfield 39, 3) := by decide +kernel
theorem dX4_homeAtRow_9 : decode cX4_homeAtRow 9 = .ok (.if_icmp .ge 17, 3) := by decide +kernel
theorem dX4_homeAtRow_12 : decode cX4_homeAtRow 12 = .ok (.iload_n 1, 1) := by decide +kernel
theorem dX4_homeAtRow_13 : decode cX4_homeAtRow 13 = .ok (.iconst 5, 1) := by decide +kernel
theorem dX4_homeAtRow_14 : decode cX4_homeAtRow 14 = .ok (.if_icmp .ge 12, 3) := by decide +kernel
theorem dX4_homeAtRow_17 : decode cX4_homeAtRow 17 = .ok (.aload_n 0, 1) := by decide +kernel
theorem dX4_homeAtRow_18 : decode cX4_homeAtRow 18 = .ok (.getfield 17, 3) := by decide +kernel
theorem dX4_homeAtRow_21 : decode cX4_homeAtRow 21 = .ok (.iload_n 1, 1) := by decide +kernel
theorem dX4_homeAtRow_22 : decode cX4_homeAtRow 22 = .ok (.iaload, 1) := by decide +kernel
theorem dX4_homeAtRow_23 : decode cX4_homeAtRow 23 = .ok (.goto 4, 3) := by decide +kernel
theorem dX4_homeAtRow_26 : decode cX4_homeAtRow 26 = .ok (.iconst (-1), 1) := by decide +kernel
theorem dX4_homeAtRow_27 : decode cX4_homeAtRow 27 = .ok (.ireturn, 1) := by decide +kernel
theorem dX4_search_0 : decode cX4_search 0 = .ok (.aload_n 0, 1) := by decide +kernel
theorem dX4_search_1 : decode cX4_search 1 = .ok (.getfield 36, 3) := by decide +kernel
theorem dX4_search_4 : decode cX4_search 4 = .ok (.iconst 0, 1) := by decide +kernel
theorem dX4_search_5 : decode cX4_search 5 = .ok (.lconst 0, 1) := by decide +kernel
theorem dX4_search_6 : decode cX4_search 6 = .ok (.lastore, 1) := by decide +kernel
theorem dX4_search_7 : decode cX4_search 7 = .ok (.iconst 1, 1) := by decide +kernel
theorem dX4_search_8 : decode cX4_search 8 = .ok (.istore_n 1, 1) := by decide +kernel
theorem dX4_search_9 : decode cX4_search 9 = .ok (.iload_n 1, 1) := by decide +kernel
theorem dX4_search_10 : decode cX4_search 10 = .ok (.bipush 32, 2) := by decide +kernel
theorem dX4_search_12 : decode cX4_search 12 = .ok (.if_icmp .ge 18, 3) := by decide +kernel
theorem dX4_search_15 : decode cX4_search 15 = .ok (.aload_n 0, 1) := by decide +kernel
theorem dX4_search_16 : decode cX4_search 16 = .ok (.getfield 36, 3) := by decide +kernel
theorem dX4_search_19 : decode cX4_search 19 = .ok (.iload_n 1, 1) := by decide +kernel
theorem dX4_search_20 : decode cX4_search 20 = .ok (.ldc2_w 47, 3) := by decide +kernel
theorem dX4_search_23 : decode cX4_search 23 = .ok (.lastore, 1) := by decide +kernel
theorem dX4_search_24 : decode cX4_search 24 = .ok (.iinc 1 1, 3) := by decide +kernel
theorem dX4_search_27 : decode cX4_search 27 = .ok (.goto (-18), 3) := by decide +kernel
theorem dX4_search_30 : decode cX4_search 30 = .ok (.iconst 0, 1) := by decide +kernel
theorem dX4_search_31 : decode cX4_search 31 = .ok (.istore_n 1, 1) := by decide +kernel
theorem dX4_search_32 : decode cX4_search 32 = .ok (.iload_n 1, 1) := by decide +kernel
theorem dX4_search_33 : decode cX4_search 33 = .ok (.bipush 10, 2) := by decide +kernel
theorem dX4_search_35 : decode cX4_search 35 = .ok (.if_icmp .ge 19, 3) := by decide +kernel
theorem dX4_search_38 : decode cX4_search 38 = .ok (.aload_n 0, 1) := by decide +kernel
theorem dX4_search_39 : decode cX4_search 39 = .ok (.iload_n 1, 1) := by decide +kernel
theorem dX4_search_40 : decode cX4_search 40 = .ok (.invokevirtual 49, 3) := by decide +kernel
theorem dX4_search_43 : decode cX4_search 43 = .ok (.aload_n 0, 1) := by decide +kernel
theorem dX4_search_44 : decode cX4_search 44 = .ok (.iload_n 1, 1) := by decide +kernel
theorem dX4_search_45 : decode cX4_search 45 = .ok (.invokevirtual 53, 3) := by decide +kernel
theorem dX4_search_48 : decode cX4_search 48 = .ok (.iinc 1 1, 3) := by decide +kernel
theorem dX4_search_51 : decode cX4_search 51 = .ok (.goto (-19), 3) := by decide +kernel
theorem dX4_search_54 : decode cX4_search 54 = .ok (.iconst 0, 1) := by decide +kernel
theorem dX4_search_55 : decode cX4_search 55 = .ok (.istore_n 1, 1) := by decide +kernel
theorem dX4_search_56 : decode cX4_search 56 = .ok (.iconst 1, 1) := by decide +kernel
theorem dX4_search_57 : decode cX4_search 57 = .ok (.istore_n 2, 1) := by decide +kernel
theorem dX4_search_58 : decode cX4_search 58 = .ok (.iload_n 2, 1) := by decide +kernel
theorem dX4_search_59 : decode cX4_search 59 = .ok (.bipush 32, 2) := by decide +kernel
theorem dX4_search_61 : decode cX4_search 61 = .ok (.if_icmp .ge 27, 3) := by decide +kernel
theorem dX4_search_64 : decode cX4_search 64 = .ok (.aload_n 0, 1) := by decide +kernel
theorem dX4_search_65 : decode cX4_search 65 = .ok (.getfield 36, 3) := by decide +kernel
theorem dX4_search_68 : decode cX4_search 68 = .ok (.iload_n 2, 1) := by decide +kernel
theorem dX4_search_69 : decode cX4_search 69 = .ok (.laload, 1) := by decide +kernel
theorem dX4_search_70 : decode cX4_search 70 = .ok (.aload_n 0, 1) := by decide +kernel
theorem dX4_search_71 : decode cX4_search 71 = .ok (.getfield 36, 3) := by decide +kernel
theorem dX4_search_74 : decode cX4_search 74 = .ok (.iload_n 1, 1) := by decide +kernel
theorem dX4_search_75 : decode cX4_search 75 = .ok (.laload, 1) := by decide +kernel
theorem dX4_search_76 : decode cX4_search 76 = .ok (.lcmp, 1) := by decide +kernel
theorem dX4_search_77 : decode cX4_search 77 = .ok (.ifCond .le 5, 3) := by decide +kernel
theorem dX4_search_80 : decode cX4_search 80 = .ok (.iload_n 2, 1) := by decide +kernel
theorem dX4_search_81 : decode cX4_search 81 = .ok (.istore_n 1, 1) := by decide +kernel
theorem dX4_search_82 : decode cX4_search 82 = .ok (.iinc 2 1, 3) := by decide +kernel
theorem dX4_search_85 : decode cX4_search 85 = .ok (.goto (-27), 3) := by decide +kernel
theorem dX4_search_88 : decode cX4_search 88 = .ok (.aload_n 0, 1) := by decide +kernel
theorem dX4_search_89 : decode cX4_search 89 = .ok (.iload_n 1, 1) := by decide +kernel
theorem dX4_search_90 : decode cX4_search 90 = .ok (.invokevirtual 56, 3) := by decide +kernel
theorem dX4_search_93 : decode cX4_search 93 = .ok (.iload_n 1, 1) := by decide +kernel
theorem dX4_search_94 : decode cX4_search 94 = .ok (.invokestatic 59, 3) := by decide +kernel
theorem dX4_search_97 : decode cX4_search 97 = .ok (.ireturn, 1) := by decide +kernel
theorem dX4_weighSets_0 : decode cX4_weighSets 0 = .ok (.iconst 1, 1) := by decide +kernel
theorem dX4_weighSets_1 : decode cX4_weighSets 1 = .ok (.istore_n 2, 1) := by decide +kernel
theorem dX4_weighSets_2 : decode cX4_weighSets 2 = .ok (.iload_n 2, 1) := by decide +kernel
theorem dX4_weighSets_3 : decode cX4_weighSets 3 = .ok (.aload_n 0, 1) := by decide +kernel
theorem dX4_weighSets_4 : decode cX4_weighSets 4 = .ok (.getfield 43, 3) := by decide +kernel
theorem dX4_weighSets_7 : decode cX4_weighSets 7 = .ok (.if_icmp .ge 46, 3) := by decide +kernel
theorem dX4_weighSets_10 : decode cX4_weighSets 10 = .ok (.iload_n 2, 1) := by decide +kernel
theorem dX4_weighSets_11 : decode cX4_weighSets 11 = .ok (.bipush 32, 2) := by decide +kernel
theorem dX4_weighSets_13 : decode cX4_weighSets 13 = .ok (.if_icmp .ge 40, 3) := by decide +kernel
theorem dX4_weighSets_16 : decode cX4_weighSets 16 = .ok (.aload_n 0, 1) := by decide +kernel
theorem dX4_weighSets_17 : decode cX4_weighSets 17 = .ok (.getfield 32, 3) := by decide +kernel
theorem dX4_weighSets_20 : decode cX4_weighSets 20 = .ok (.iload_n 2, 1) := by decide +kernel
theorem dX4_weighSets_21 : decode cX4_weighSets 21 = .ok (.iload_n 2, 1) := by decide +kernel
theorem dX4_weighSets_22 : decode cX4_weighSets 22 = .ok (.invokestatic 59, 3) := by decide +kernel
theorem dX4_weighSets_25 : decode cX4_weighSets 25 = .ok (.aload_n 0, 1) := by decide +kernel
theorem dX4_weighSets_26 : decode cX4_weighSets 26 = .ok (.getfield 26, 3) := by decide +kernel
theorem dX4_weighSets_29 : decode cX4_weighSets 29 = .ok (.iload_n 1, 1) := by decide +kernel
theorem dX4_weighSets_30 : decode cX4_weighSets 30 = .ok (.iaload, 1) := by decide +kernel
theorem dX4_weighSets_31 : decode cX4_weighSets 31 = .ok (.if_icmp .le 9, 3) := by decide +kernel
theorem dX4_weighSets_34 : decode cX4_weighSets 34 = .ok (.ldc2_w 47, 3) := by decide +kernel
theorem dX4_weighSets_37 : decode cX4_weighSets 37 = .ok (.goto 9, 3) := by decide +kernel
theorem dX4_weighSets_40 : decode cX4_weighSets 40 = .ok (.aload_n 0, 1) := by decide +kernel
theorem dX4_weighSets_41 : decode cX4_weighSets 41 = .ok (.iload_n 2, 1) := by decide +kernel
theorem dX4_weighSets_42 : decode cX4_weighSets 42 = .ok (.iload_n 1, 1) := by decide +kernel
theorem dX4_weighSets_43 : decode cX4_weighSets 43 = .ok (.invokevirtual 65, 3) := by decide +kernel
theorem dX4_weighSets_46 : decode cX4_weighSets 46 = .ok (.lastore, 1) := by decide +kernel
theorem dX4_weighSets_47 : decode cX4_weighSets 47 = .ok (.iinc 2 1, 3) := by decide +kernel
theorem dX4_weighSets_50 : decode cX4_weighSets 50 = .ok (.goto (-48), 3) := by decide +kernel
theorem dX4_weighSets_53 : decode cX4_weighSets 53 = .ok (.return_, 1) := by decide +kernel
theorem dX4_gainOf_0 : decode cX4_gainOf 0 = .ok (.ldc2_w 69, 3) := by decide +kernel
theorem dX4_gainOf_3 : decode cX4_gainOf 3 = .ok (.lstore_n 3, 1) := by decide +kernel
theorem dX4_gainOf_4 : decode cX4_gainOf 4 = .ok (.iconst 0, 1) := by decide +kernel
theorem dX4_gainOf_5 : decode cX4_gainOf 5 = .ok (.istore 5, 2) := by decide +kernel
theorem dX4_gainOf_7 : decode cX4_gainOf 7 = .ok (.iload 5, 2) := by decide +kernel
theorem dX4_gainOf_9 : decode cX4_gainOf 9 = .ok (.iconst 5, 1) := by decide +kernel
theorem dX4_gainOf_10 : decode cX4_gainOf 10 = .ok (.if_icmp .ge 82, 3) := by decide +kernel
theorem dX4_gainOf_13 : decode cX4_gainOf 13 = .ok (.iload 5, 2) := by decide +kernel
theorem dX4_gainOf_15 : decode cX4_gainOf 15 = .ok (.getstatic 71, 3) := by decide +kernel
theorem dX4_gainOf_18 : decode cX4_gainOf 18 = .ok (.arraylength, 1) := by decide +kernel
theorem dX4_gainOf_19 : decode cX4_gainOf 19 = .ok (.if_icmp .ge 73, 3) := by decide +kernel
theorem dX4_gainOf_22 : decode cX4_gainOf 22 = .ok (.iload_n 1, 1) := by decide +kernel
theorem dX4_gainOf_23 : decode cX4_gainOf 23 = .ok (.iload 5, 2) := by decide +kernel
theorem dX4_gainOf_25 : decode cX4_gainOf 25 = .ok (.ishr, 1) := by decide +kernel
theorem dX4_gainOf_26 : decode cX4_gainOf 26 = .ok (.iconst 1, 1) := by decide +kernel
theorem dX4_gainOf_27 : decode cX4_gainOf 27 = .ok (.iand, 1) := by decide +kernel
theorem dX4_gainOf_28 : decode cX4_gainOf 28 = .ok (.ifCond .ne 6, 3) := by decide +kernel
theorem dX4_gainOf_31 : decode cX4_gainOf 31 = .ok (.goto 55, 3) := by decide +kernel
theorem dX4_gainOf_34 : decode cX4_gainOf 34 = .ok (.aload_n 0, 1) := by decide +kernel
theorem dX4_gainOf_35 : decode cX4_gainOf 35 = .ok (.getfield 23, 3) := by decide +kernel
theorem dX4_gainOf_38 : decode cX4_gainOf 38 = .ok (.iload 5, 2) := by decide +kernel
theorem dX4_gainOf_40 : decode cX4_gainOf 40 = .ok (.aaload, 1) := by decide +kernel
theorem dX4_gainOf_41 : decode cX4_gainOf 41 = .ok (.iload_n 2, 1) := by decide +kernel
theorem dX4_gainOf_42 : decode cX4_gainOf 42 = .ok (.iaload, 1) := by decide +kernel
theorem dX4_gainOf_43 : decode cX4_gainOf 43 = .ok (.ldc 46, 2) := by decide +kernel
theorem dX4_gainOf_45 : decode cX4_gainOf 45 = .ok (.if_icmp .ne 7, 3) := by decide +kernel
theorem dX4_gainOf_48 : decode cX4_gainOf 48 = .ok (.ldc2_w 47, 3) := by decide +kernel
theorem dX4_gainOf_51 : decode cX4_gainOf 51 = .ok (.lreturn, 1) := by decide +kernel
theorem dX4_gainOf_52 : decode cX4_gainOf 52 = .ok (.lload_n 3, 1) := by decide +kernel
theorem dX4_gainOf_53 : decode cX4_gainOf 53 = .ok (.ldc2_w 74, 3) := by decide +kernel
theorem dX4_gainOf_56 : decode cX4_gainOf 56 = .ok (.ldc2_w 76, 3) := by decide +kernel
theorem dX4_gainOf_59 : decode cX4_gainOf 59 = .ok (.aload_n 0, 1) := by decide +kernel
theorem dX4_gainOf_60 : decode cX4_gainOf 60 = .ok (.getfield 23, 3) := by decide +kernel
theorem dX4_gainOf_63 : decode cX4_gainOf 63 = .ok (.iload 5, 2) := by decide +kernel
theorem dX4_gainOf_65 : decode cX4_gainOf 65 = .ok (.aaload, 1) := by decide +kernel
theorem dX4_gainOf_66 : decode cX4_gainOf 66 = .ok (.iload_n 2, 1) := by decide +kernel
theorem dX4_gainOf_67 : decode cX4_gainOf 67 = .ok (.iaload, 1) := by decide +kernel
theorem dX4_gainOf_68 : decode cX4_gainOf 68 = .ok (.i2l, 1) := by decide +kernel
theorem dX4_gainOf_69 : decode cX4_gainOf 69 = .ok (.lmul, 1) := by decide +kernel
theorem dX4_gainOf_70 : decode cX4_gainOf 70 = .ok (.ladd, 1) := by decide +kernel
theorem dX4_gainOf_71 : decode cX4_gainOf 71 = .ok (.bipush 10, 2) := by decide +kernel
theorem dX4_gainOf_73 : decode cX4_gainOf 73 = .ok (.iload_n 2, 1) := by decide +kernel
theorem dX4_gainOf_74 : decode cX4_gainOf 74 = .ok (.isub, 1) := by decide +kernel
theorem dX4_gainOf_75 : decode cX4_gainOf 75 = .ok (.getstatic 71, 3) := by decide +kernel
theorem dX4_gainOf_78 : decode cX4_gainOf 78 = .ok (.iload 5, 2) := by decide +kernel
theorem dX4_gainOf_80 : decode cX4_gainOf 80 = .ok (.iaload, 1) := by decide +kernel
theorem dX4_gainOf_81 : decode cX4_gainOf 81 = .ok (.imul, 1) := by decide +kernel
theorem dX4_gainOf_82 : decode cX4_gainOf 82 = .ok (.i2l, 1) := by decide +kernel
theorem dX4_gainOf_83 : decode cX4_gainOf 83 = .ok (.ladd, 1) := by decide +kernel
theorem dX4_gainOf_84 : decode cX4_gainOf 84 = .ok (.ladd, 1) := by decide +kernel
theorem dX4_gainOf_85 : decode cX4_gainOf 85 = .ok (.lstore_n 3, 1) := by decide +kernel
theorem dX4_gainOf_86 : decode cX4_gainOf 86 = .ok (.iinc 5 1, 3) := by decide +kernel
theorem dX4_gainOf_89 : decode cX4_gainOf 89 = .ok (.goto (-82), 3) := by decide +kernel
theorem dX4_gainOf_92 : decode cX4_gainOf 92 = .ok (.lload_n 3, 1) := by decide +kernel
theorem dX4_gainOf_93 : decode cX4_gainOf 93 = .ok (.lreturn, 1) := by decide +kernel
theorem dX4_addHome_0 : decode cX4_addHome 0 = .ok (.aload_n 0, 1) := by decide +kernel
theorem dX4_addHome_1 : decode cX4_addHome 1 = .ok (.getfield 43, 3) := by decide +kernel
theorem dX4_addHome_4 : decode cX4_addHome 4 = .ok (.bipush 32, 2) := by decide +kernel
theorem dX4_addHome_6 : decode cX4_addHome 6 = .ok (.invokestatic 78, 3) := by decide +kernel
theorem dX4_addHome_9 : decode cX4_addHome 9 = .ok (.iconst 1, 1) := by decide +kernel
theorem dX4_addHome_10 : decode cX4_addHome 10 = .ok (.isub, 1) := by decide +kernel
theorem dX4_addHome_11 : decode cX4_addHome 11 = .ok (.istore_n 2, 1) := by decide +kernel
theorem dX4_addHome_12 : decode cX4_addHome 12 = .ok (.iload_n 2, 1) := by decide +kernel
theorem dX4_addHome_13 : decode cX4_addHome 13 = .ok (.ifCond .le 127, 3) := by decide +kernel
theorem dX4_addHome_16 : decode cX4_addHome 16 = .ok (.iconst 0, 1) := by decide +kernel
theorem dX4_addHome_17 : decode cX4_addHome 17 = .ok (.istore_n 3, 1) := by decide +kernel
theorem dX4_addHome_18 : decode cX4_addHome 18 = .ok (.aload_n 0, 1) := by decide +kernel
theorem dX4_addHome_19 : decode cX4_addHome 19 = .ok (.getfield 36, 3) := by decide +kernel
theorem dX4_addHome_22 : decode cX4_addHome 22 = .ok (.iload_n 2, 1) := by decide +kernel
theorem dX4_addHome_23 : decode cX4_addHome 23 = .ok (.laload, 1) := by decide +kernel
theorem dX4_addHome_24 : decode cX4_addHome 24 = .ok (.lstore 4, 2) := by decide +kernel
theorem dX4_addHome_26 : decode cX4_addHome 26 = .ok (.iconst 1, 1) := by decide +kernel
theorem dX4_addHome_27 : decode cX4_addHome 27 = .ok (.istore 6, 2) := by decide +kernel
theorem dX4_addHome_29 : decode cX4_addHome 29 = .ok (.iload 6, 2) := by decide +kernel
theorem dX4_addHome_31 : decode cX4_addHome 31 = .ok (.iload_n 2, 1) := by decide +kernel
theorem dX4_addHome_32 : decode cX4_addHome 32 = .ok (.if_icmp .gt 85, 3) := by decide +kernel
theorem dX4_addHome_35 : decode cX4_addHome 35 = .ok (.iload 6, 2) := by decide +kernel
theorem dX4_addHome_37 : decode cX4_addHome 37 = .ok (.iload_n 2, 1) := by decide +kernel
theorem dX4_addHome_38 : decode cX4_addHome 38 = .ok (.iand, 1) := by decide +kernel
theorem dX4_addHome_39 : decode cX4_addHome 39 = .ok (.iload 6, 2) := by decide +kernel
theorem dX4_addHome_41 : decode cX4_addHome 41 = .ok (.if_icmp .ne 70, 3) := by decide +kernel
theorem dX4_addHome_44 : decode cX4_addHome 44 = .ok (.aload_n 0, 1) := by decide +kernel
theorem dX4_addHome_45 : decode cX4_addHome 45 = .ok (.getfield 32, 3) := by decide +kernel
theorem dX4_addHome_48 : decode cX4_addHome 48 = .ok (.iload 6, 2) := by decide +kernel
theorem dX4_addHome_50 : decode cX4_addHome 50 = .ok (.laload, 1) := by decide +kernel
theorem dX4_addHome_51 : decode cX4_addHome 51 = .ok (.lconst 0, 1) := by decide +kernel
theorem dX4_addHome_52 : decode cX4_addHome 52 = .ok (.lcmp, 1) := by decide +kernel
theorem dX4_addHome_53 : decode cX4_addHome 53 = .ok (.ifCond .lt 58, 3) := by decide +kernel
theorem dX4_addHome_56 : decode cX4_addHome 56 = .ok (.aload_n 0, 1) := by decide +kernel
theorem dX4_addHome_57 : decode cX4_addHome 57 = .ok (.getfield 36, 3) := by decide +kernel
theorem dX4_addHome_60 : decode cX4_addHome 60 = .ok (.iload_n 2, 1) := by decide +kernel
theorem dX4_addHome_61 : decode cX4_addHome 61 = .ok (.iload 6, 2) := by decide +kernel
theorem dX4_addHome_63 : decode cX4_addHome 63 = .ok (.iconst (-1), 1) := by decide +kernel
theorem dX4_addHome_64 : decode cX4_addHome 64 = .ok (.ixor, 1) := by decide +kernel
theorem dX4_addHome_65 : decode cX4_addHome 65 = .ok (.iand, 1) := by decide +kernel
theorem dX4_addHome_66 : decode cX4_addHome 66 = .ok (.laload, 1) := by decide +kernel
theorem dX4_addHome_67 : decode cX4_addHome 67 = .ok (.lconst 0, 1) := by decide +kernel
theorem dX4_addHome_68 : decode cX4_addHome 68 = .ok (.lcmp, 1) := by decide +kernel
theorem dX4_addHome_69 : decode cX4_addHome 69 = .ok (.ifCond .ge 6, 3) := by decide +kernel
theorem dX4_addHome_72 : decode cX4_addHome 72 = .ok (.goto 39, 3) := by decide +kernel
theorem dX4_addHome_75 : decode cX4_addHome 75 = .ok (.aload_n 0, 1) := by decide +kernel
theorem dX4_addHome_76 : decode cX4_addHome 76 = .ok (.getfield 36, 3) := by decide +kernel
theorem dX4_addHome_79 : decode cX4_addHome 79 = .ok (.iload_n 2, 1) := by decide +kernel
theorem dX4_addHome_80 : decode cX4_addHome 80 = .ok (.iload 6, 2) := by decide +kernel
theorem dX4_addHome_82 : decode cX4_addHome 82 = .ok (.iconst (-1), 1) := by decide +kernel
theorem dX4_addHome_83 : decode cX4_addHome 83 = .ok (.ixor, 1) := by decide +kernel
theorem dX4_addHome_84 : decode cX4_addHome 84 = .ok (.iand, 1) := by decide +kernel
theorem dX4_addHome_85 : decode cX4_addHome 85 = .ok (.laload, 1) := by decide +kernel
theorem dX4_addHome_86 : decode cX4_addHome 86 = .ok (.aload_n 0, 1) := by decide +kernel
theorem dX4_addHome_87 : decode cX4_addHome 87 = .ok (.getfield 32, 3) := by decide +kernel
theorem dX4_addHome_90 : decode cX4_addHome 90 = .ok (.iload 6, 2) := by decide +kernel
theorem dX4_addHome_92 : decode cX4_addHome 92 = .ok (.laload, 1) := by decide +kernel
theorem dX4_addHome_93 : decode cX4_addHome 93 = .ok (.ladd, 1) := by decide +kernel
theorem dX4_addHome_94 : decode cX4_addHome 94 = .ok (.lstore 7, 2) := by decide +kernel
theorem dX4_addHome_96 : decode cX4_addHome 96 = .ok (.lload 7, 2) := by decide +kernel
theorem dX4_addHome_98 : decode cX4_addHome 98 = .ok (.lload 4, 2) := by decide +kernel
theorem dX4_addHome_100 : decode cX4_addHome 100 = .ok (.lcmp, 1) := by decide +kernel
theorem dX4_addHome_101 : decode cX4_addHome 101 = .ok (.ifCond .le 10, 3) := by decide +kernel
theorem dX4_addHome_104 : decode cX4_addHome 104 = .ok (.lload 7, 2) := by decide +kernel
theorem dX4_addHome_106 : decode cX4_addHome 106 = .ok (.lstore 4, 2) := by decide +kernel
theorem dX4_addHome_108 : decode cX4_addHome 108 = .ok (.iload 6, 2) := by decide +kernel
theorem dX4_addHome_110 : decode cX4_addHome 110 = .ok (.istore_n 3, 1) := by decide +kernel
theorem dX4_addHome_111 : decode cX4_addHome 111 = .ok (.iinc 6 1, 3) := by decide +kernel
theorem dX4_addHome_114 : decode cX4_addHome 114 = .ok (.goto (-85), 3) := by decide +kernel
theorem dX4_addHome_117 : decode cX4_addHome 117 = .ok (.aload_n 0, 1) := by decide +kernel
theorem dX4_addHome_118 : decode cX4_addHome 118 = .ok (.getfield 36, 3) := by decide +kernel
theorem dX4_addHome_121 : decode cX4_addHome 121 = .ok (.iload_n 2, 1) := by decide +kernel
theorem dX4_addHome_122 : decode cX4_addHome 122 = .ok (.lload 4, 2) := by decide +kernel
theorem dX4_addHome_124 : decode cX4_addHome 124 = .ok (.lastore, 1) := by decide +kernel
theorem dX4_addHome_125 : decode cX4_addHome 125 = .ok (.aload_n 0, 1) := by decide +kernel
theorem dX4_addHome_126 : decode cX4_addHome 126 = .ok (.getfield 29, 3) := by decide +kernel
theorem dX4_addHome_129 : decode cX4_addHome 129 = .ok (.iload_n 1, 1) := by decide +kernel
theorem dX4_addHome_130 : decode cX4_addHome 130 = .ok (.aaload, 1) := by decide +kernel
theorem dX4_addHome_131 : decode cX4_addHome 131 = .ok (.iload_n 2, 1) := by decide +kernel
theorem dX4_addHome_132 : decode cX4_addHome 132 = .ok (.iload_n 3, 1) := by decide +kernel
theorem dX4_addHome_133 : decode cX4_addHome 133 = .ok (.iastore, 1) := by decide +kernel
theorem dX4_addHome_134 : decode cX4_addHome 134 = .ok (.iinc 2 (-1), 3) := by decide +kernel
theorem dX4_addHome_137 : decode cX4_addHome 137 = .ok (.goto (-125), 3) := by decide +kernel
theorem dX4_addHome_140 : decode cX4_addHome 140 = .ok (.return_, 1) := by decide +kernel
theorem dX4_choose_0 : decode cX4_choose 0 = .ok (.iload_n 1, 1) := by decide +kernel
theorem dX4_choose_1 : decode cX4_choose 1 = .ok (.istore_n 2, 1) := by decide +kernel
theorem dX4_choose_2 : decode cX4_choose 2 = .ok (.iconst 0, 1) := by decide +kernel
theorem dX4_choose_3 : decode cX4_choose 3 = .ok (.istore_n 3, 1) := by decide +kernel
theorem dX4_choose_4 : decode cX4_choose 4 = .ok (.iload_n 3, 1) := by decide +kernel
theorem dX4_choose_5 : decode cX4_choose 5 = .ok (.iconst 5, 1) := by decide +kernel
theorem dX4_choose_6 : decode cX4_choose 6 = .ok (.if_icmp .ge 16, 3) := by decide +kernel
theorem dX4_choose_9 : decode cX4_choose 9 = .ok (.aload_n 0, 1) := by decide +kernel
theorem dX4_choose_10 : decode cX4_choose 10 = .ok (.getfield 17, 3) := by decide +kernel
theorem dX4_choose_13 : decode cX4_choose 13 = .ok (.iload_n 3, 1) := by decide +kernel
theorem dX4_choose_14 : decode cX4_choose 14 = .ok (.iconst (-1), 1) := by decide +kernel
theorem dX4_choose_15 : decode cX4_choose 15 = .ok (.iastore, 1) := by decide +kernel
theorem dX4_choose_16 : decode cX4_choose 16 = .ok (.iinc 3 1, 3) := by decide +kernel
theorem dX4_choose_19 : decode cX4_choose 19 = .ok (.goto (-15), 3) := by decide +kernel
theorem dX4_choose_22 : decode cX4_choose 22 = .ok (.bipush 9, 2) := by decide +kernel
theorem dX4_choose_24 : decode cX4_choose 24 = .ok (.istore_n 3, 1) := by decide +kernel
theorem dX4_choose_25 : decode cX4_choose 25 = .ok (.iload_n 3, 1) := by decide +kernel
theorem dX4_choose_26 : decode cX4_choose 26 = .ok (.ifCond .lt 73, 3) := by decide +kernel
theorem dX4_choose_29 : decode cX4_choose 29 = .ok (.iload_n 2, 1) := by decide +kernel
theorem dX4_choose_30 : decode cX4_choose 30 = .ok (.ifCond .lt 20, 3) := by decide +kernel
theorem dX4_choose_33 : decode cX4_choose 33 = .ok (.iload_n 2, 1) := by decide +kernel
theorem dX4_choose_34 : decode cX4_choose 34 = .ok (.bipush 32, 2) := by decide +kernel
theorem dX4_choose_36 : decode cX4_choose 36 = .ok (.if_icmp .ge 14, 3) := by decide +kernel
theorem dX4_choose_39 : decode cX4_choose 39 = .ok (.aload_n 0, 1) := by decide +kernel
theorem dX4_choose_40 : decode cX4_choose 40 = .ok (.getfield 29, 3) := by decide +kernel
theorem dX4_choose_43 : decode cX4_choose 43 = .ok (.iload_n 3, 1) := by decide +kernel
theorem dX4_choose_44 : decode cX4_choose 44 = .ok (.aaload, 1) := by decide +kernel
theorem dX4_choose_45 : decode cX4_choose 45 = .ok (.iload_n 2, 1) := by decide +kernel
theorem dX4_choose_46 : decode cX4_choose 46 = .ok (.iaload, 1) := by decide +kernel
theorem dX4_choose_47 : decode cX4_choose 47 = .ok (.goto 4, 3) := by decide +kernel
theorem dX4_choose_50 : decode cX4_choose 50 = .ok (.iconst 0, 1) := by decide +kernel
theorem dX4_choose_51 : decode cX4_choose 51 = .ok (.istore 4, 2) := by decide +kernel
theorem dX4_choose_53 : decode cX4_choose 53 = .ok (.iconst 0, 1) := by decide +kernel
theorem dX4_choose_54 : decode cX4_choose 54 = .ok (.istore 5, 2) := by decide +kernel
theorem dX4_choose_56 : decode cX4_choose 56 = .ok (.iload 5, 2) := by decide +kernel
theorem dX4_choose_58 : decode cX4_choose 58 = .ok (.iconst 5, 1) := by decide +kernel
theorem dX4_choose_59 : decode cX4_choose 59 = .ok (.if_icmp .ge 27, 3) := by decide +kernel
theorem dX4_choose_62 : decode cX4_choose 62 = .ok (.iload 4, 2) := by decide +kernel
theorem dX4_choose_64 : decode cX4_choose 64 = .ok (.iload 5, 2) := by decide +kernel
theorem dX4_choose_66 : decode cX4_choose 66 = .ok (.ishr, 1) := by decide +kernel
theorem dX4_choose_67 : decode cX4_choose 67 = .ok (.iconst 1, 1) := by decide +kernel
theorem dX4_choose_68 : decode cX4_choose 68 = .ok (.iand, 1) := by decide +kernel
theorem dX4_choose_69 : decode cX4_choose 69 = .ok (.ifCond .eq 11, 3) := by decide +kernel
theorem dX4_choose_72 : decode cX4_choose 72 = .ok (.aload_n 0, 1) := by decide +kernel
theorem dX4_choose_73 : decode cX4_choose 73 = .ok (.getfield 17, 3) := by decide +kernel
theorem dX4_choose_76 : decode cX4_choose 76 = .ok (.iload 5, 2) := by decide +kernel
theorem dX4_choose_78 : decode cX4_choose 78 = .ok (.iload_n 3, 1) := by decide +kernel
theorem dX4_choose_79 : decode cX4_choose 79 = .ok (.iastore, 1) := by decide +kernel
theorem dX4_choose_80 : decode cX4_choose 80 = .ok (.iinc 5 1, 3) := by decide +kernel
theorem dX4_choose_83 : decode cX4_choose 83 = .ok (.goto (-27), 3) := by decide +kernel
theorem dX4_choose_86 : decode cX4_choose 86 = .ok (.iload_n 2, 1) := by decide +kernel
theorem dX4_choose_87 : decode cX4_choose 87 = .ok (.iload 4, 2) := by decide +kernel
theorem dX4_choose_89 : decode cX4_choose 89 = .ok (.iconst (-1), 1) := by decide +kernel
theorem dX4_choose_90 : decode cX4_choose 90 = .ok (.ixor, 1) := by decide +kernel
theorem dX4_choose_91 : decode cX4_choose 91 = .ok (.iand, 1) := by decide +kernel
theorem dX4_choose_92 : decode cX4_choose 92 = .ok (.istore_n 2, 1) := by decide +kernel
theorem dX4_choose_93 : decode cX4_choose 93 = .ok (.iinc 3 (-1), 3) := by decide +kernel
theorem dX4_choose_96 : decode cX4_choose 96 = .ok (.goto (-71), 3) := by decide +kernel
theorem dX4_choose_99 : decode cX4_choose 99 = .ok (.return_, 1) := by decide +kernel
theorem dX5_init_0 : decode cX5_init 0 = .ok (.aload_n 0, 1) := by decide +kernel
theorem dX5_init_1 : decode cX5_init 1 = .ok (.invokespecial 3, 3) := by decide +kernel
theorem dX5_init_4 : decode cX5_init 4 = .ok (.aload_n 0, 1) := by decide +kernel
theorem dX5_init_5 : decode cX5_init 5 = .ok (.bipush 30, 2) := by decide +kernel
theorem dX5_init_7 : decode cX5_init 7 = .ok (.newarray .int, 2) := by decide +kernel
theorem dX5_init_9 : decode cX5_init 9 = .ok (.putfield 9, 3) := by decide +kernel
theorem dX5_init_12 : decode cX5_init 12 = .ok (.aload_n 0, 1) := by decide +kernel
theorem dX5_init_13 : decode cX5_init 13 = .ok (.bipush 30, 2) := by decide +kernel
theorem dX5_init_15 : decode cX5_init 15 = .ok (.newarray .int, 2) := by decide +kernel
theorem dX5_init_17 : decode cX5_init 17 = .ok (.putfield 15, 3) := by decide +kernel
theorem dX5_init_20 : decode cX5_init 20 = .ok (.aload_n 0, 1) := by decide +kernel
theorem dX5_init_21 : decode cX5_init 21 = .ok (.bipush 30, 2) := by decide +kernel
theorem dX5_init_23 : decode cX5_init 23 = .ok (.newarray .int, 2) := by decide +kernel
theorem dX5_init_25 : decode cX5_init 25 = .ok (.putfield 18, 3) := by decide +kernel
theorem dX5_init_28 : decode cX5_init 28 = .ok (.aload_n 0, 1) := by decide +kernel
theorem dX5_init_29 : decode cX5_init 29 = .ok (.iconst (-1), 1) := by decide +kernel
theorem dX5_init_30 : decode cX5_init 30 = .ok (.putfield 21, 3) := by decide +kernel
theorem dX5_init_33 : decode cX5_init 33 = .ok (.return_, 1) := by decide +kernel
theorem dX5_tell_0 : decode cX5_tell 0 = .ok (.aload_n 0, 1) := by decide +kernel
theorem dX5_tell_1 : decode cX5_tell 1 = .ok (.dup, 1) := by decide +kernel
theorem dX5_tell_2 : decode cX5_tell 2 = .ok (.getfield 25, 3) := by decide +kernel
theorem dX5_tell_5 : decode cX5_tell 5 = .ok (.iconst 1, 1) := by decide +kernel
theorem dX5_tell_6 : decode cX5_tell 6 = .ok (.iadd, 1) := by decide +kernel
theorem dX5_tell_7 : decode cX5_tell 7 = .ok (.putfield 25, 3) := by decide +kernel
theorem dX5_tell_10 : decode cX5_tell 10 = .ok (.iconst 0, 1) := by decide +kernel
theorem dX5_tell_11 : decode cX5_tell 11 = .ok (.istore 4, 2) := by decide +kernel
theorem dX5_tell_13 : decode cX5_tell 13 = .ok (.iload 4, 2) := by decide +kernel
theorem dX5_tell_15 : decode cX5_tell 15 = .ok (.aload_n 0, 1) := by decide +kernel
theorem dX5_tell_16 : decode cX5_tell 16 = .ok (.getfield 28, 3) := by decide +kernel
theorem dX5_tell_19 : decode cX5_tell 19 = .ok (.if_icmp .ge 57, 3) := by decide +kernel
theorem dX5_tell_22 : decode cX5_tell 22 = .ok (.iload 4, 2) := by decide +kernel
theorem dX5_tell_24 : decode cX5_tell 24 = .ok (.bipush 30, 2) := by decide +kernel
theorem dX5_tell_26 : decode cX5_tell 26 = .ok (.if_icmp .ge 50, 3) := by decide +kernel
theorem dX5_tell_29 : decode cX5_tell 29 = .ok (.aload_n 0, 1) := by decide +kernel
theorem dX5_tell_30 : decode cX5_tell 30 = .ok (.getfield 9, 3) := by decide +kernel
theorem dX5_tell_33 : decode cX5_tell 33 = .ok (.iload 4, 2) := by decide +kernel
theorem dX5_tell_35 : decode cX5_tell 35 = .ok (.iaload, 1) := by decide +kernel
theorem dX5_tell_36 : decode cX5_tell 36 = .ok (.iload_n 1, 1) := by decide +kernel
theorem dX5_tell_37 : decode cX5_tell 37 = .ok (.if_icmp .ne 33, 3) := by decide +kernel
theorem dX5_tell_40 : decode cX5_tell 40 = .ok (.aload_n 0, 1) := by decide +kernel
theorem dX5_tell_41 : decode cX5_tell 41 = .ok (.getfield 15, 3) := by decide +kernel
theorem dX5_tell_44 : decode cX5_tell 44 = .ok (.iload 4, 2) := by decide +kernel
theorem dX5_tell_46 : decode cX5_tell 46 = .ok (.iaload, 1) := by decide +kernel
theorem dX5_tell_47 : decode cX5_tell 47 = .ok (.iload_n 2, 1) := by decide +kernel
theorem dX5_tell_48 : decode cX5_tell 48 = .ok (.if_icmp .ne 22, 3) := by decide +kernel
theorem dX5_tell_51 : decode cX5_tell 51 = .ok (.aload_n 0, 1) := by decide +kernel
theorem dX5_tell_52 : decode cX5_tell 52 = .ok (.getfield 18, 3) := by decide +kernel
theorem dX5_tell_55 : decode cX5_tell 55 = .ok (.iload 4, 2) := by decide +kernel
theorem dX5_tell_57 : decode cX5_tell 57 = .ok (.aload_n 0, 1) := by decide +kernel
theorem dX5_tell_58 : decode cX5_tell 58 = .ok (.getfield 18, 3) := by decide +kernel
theorem dX5_tell_61 : decode cX5_tell 61 = .ok (.iload 4, 2) := by decide +kernel
theorem dX5_tell_63 : decode cX5_tell 63 = .ok (.iaload, 1) := by decide +kernel
theorem dX5_tell_64 : decode cX5_tell 64 = .ok (.iload_n 3, 1) := by decide +kernel
theorem dX5_tell_65 : decode cX5_tell 65 = .ok (.invokestatic 31, 3) := by decide +kernel
theorem dX5_tell_68 : decode cX5_tell 68 = .ok (.iastore, 1) := by decide +kernel
theorem dX5_tell_69 : decode cX5_tell 69 = .ok (.return_, 1) := by decide +kernel
theorem dX5_tell_70 : decode cX5_tell 70 = .ok (.iinc 4 1, 3) := by decide +kernel
theorem dX5_tell_73 : decode cX5_tell 73 = .ok (.goto (-60), 3) := by decide +kernel
theorem dX5_tell_76 : decode cX5_tell 76 = .ok (.aload_n 0, 1) := by decide +kernel
theorem dX5_tell_77 : decode cX5_tell 77 = .ok (.getfield 28, 3) := by decide +kernel
theorem dX5_tell_80 : decode cX5_tell 80 = .ok (.bipush 30, 2) := by decide +kernel
theorem dX5_tell_82 : decode cX5_tell 82 = .ok (.if_icmp .ge 43, 3) := by decide +kernel
theorem dX5_tell_85 : decode cX5_tell 85 = .ok (.aload_n 0, 1) := by decide +kernel
theorem dX5_tell_86 : decode cX5_tell 86 = .ok (.getfield 9, 3) := by decide +kernel
theorem dX5_tell_89 : decode cX5_tell 89 = .ok (.aload_n 0, 1) := by decide +kernel
theorem dX5_tell_90 : decode cX5_tell 90 = .ok (.getfield 28, 3) := by decide +kernel
theorem dX5_tell_93 : decode cX5_tell 93 = .ok (.iload_n 1, 1) := by decide +kernel
theorem dX5_tell_94 : decode cX5_tell 94 = .ok (.iastore, 1) := by decide +kernel
theorem dX5_tell_95 : decode cX5_tell 95 = .ok (.aload_n 0, 1) := by decide +kernel
theorem dX5_tell_96 : decode cX5_tell 96 = .ok (.getfield 15, 3) := by decide +kernel
theorem dX5_tell_99 : decode cX5_tell 99 = .ok (.aload_n 0, 1) := by decide +kernel
theorem dX5_tell_100 : decode cX5_tell 100 = .ok (.getfield 28, 3) := by decide +kernel
theorem dX5_tell_103 : decode cX5_tell 103 = .ok (.iload_n 2, 1) := by decide +kernel
theorem dX5_tell_104 : decode cX5_tell 104 = .ok (.iastore, 1) := by decide +kernel
theorem dX5_tell_105 : decode cX5_tell 105 = .ok (.aload_n 0, 1) := by decide +kernel
theorem dX5_tell_106 : decode cX5_tell 106 = .ok (.getfield 18, 3) := by decide +kernel
theorem dX5_tell_109 : decode cX5_tell 109 = .ok (.aload_n 0, 1) := by decide +kernel
theorem dX5_tell_110 : decode cX5_tell 110 = .ok (.getfield 28, 3) := by decide +kernel
theorem dX5_tell_113 : decode cX5_tell 113 = .ok (.iload_n 3, 1) := by decide +kernel
theorem dX5_tell_114 : decode cX5_tell 114 = .ok (.iastore, 1) := by decide +kernel
theorem dX5_tell_115 : decode cX5_tell 115 = .ok (.aload_n 0, 1) := by decide +kernel
theorem dX5_tell_116 : decode cX5_tell 116 = .ok (.dup, 1) := by decide +kernel
theorem dX5_tell_117 : decode cX5_tell 117 = .ok (.getfield 28, 3) := by decide +kernel
theorem dX5_tell_120 : decode cX5_tell 120 = .ok (.iconst 1, 1) := by decide +kernel
theorem dX5_tell_121 : decode cX5_tell 121 = .ok (.iadd, 1) := by decide +kernel
theorem dX5_tell_122 : decode cX5_tell 122 = .ok (.putfield 28, 3) := by decide +kernel
theorem dX5_tell_125 : decode cX5_tell 125 = .ok (.return_, 1) := by decide +kernel
theorem dX5_sumOn_0 : decode cX5_sumOn 0 = .ok (.iconst 0, 1) := by decide +kernel
theorem dX5_sumOn_1 : decode cX5_sumOn 1 = .ok (.istore_n 2, 1) := by decide +kernel
theorem dX5_sumOn_2 : decode cX5_sumOn 2 = .ok (.iconst 0, 1) := by decide +kernel
theorem dX5_sumOn_3 : decode cX5_sumOn 3 = .ok (.istore_n 3, 1) := by decide +kernel
theorem dX5_sumOn_4 : decode cX5_sumOn 4 = .ok (.iload_n 3, 1) := by decide +kernel
theorem dX5_sumOn_5 : decode cX5_sumOn 5 = .ok (.aload_n 0, 1) := by decide +kernel
theorem dX5_sumOn_6 : decode cX5_sumOn 6 = .ok (.getfield 28, 3) := by decide +kernel
theorem dX5_sumOn_9 : decode cX5_sumOn 9 = .ok (.if_icmp .ge 37, 3) := by decide +kernel
theorem dX5_sumOn_12 : decode cX5_sumOn 12 = .ok (.iload_n 3, 1) := by decide +kernel
theorem dX5_sumOn_13 : decode cX5_sumOn 13 = .ok (.bipush 30, 2) := by decide +kernel
theorem dX5_sumOn_15 : decode cX5_sumOn 15 = .ok (.if_icmp .ge 31, 3) := by decide +kernel
theorem dX5_sumOn_18 : decode cX5_sumOn 18 = .ok (.aload_n 0, 1) := by decide +kernel
theorem dX5_sumOn_19 : decode cX5_sumOn 19 = .ok (.getfield 9, 3) := by decide +kernel
theorem dX5_sumOn_22 : decode cX5_sumOn 22 = .ok (.iload_n 3, 1) := by decide +kernel
theorem dX5_sumOn_23 : decode cX5_sumOn 23 = .ok (.iaload, 1) := by decide +kernel
theorem dX5_sumOn_24 : decode cX5_sumOn 24 = .ok (.iload_n 1, 1) := by decide +kernel
theorem dX5_sumOn_25 : decode cX5_sumOn 25 = .ok (.bipush 30, 2) := by decide +kernel
theorem dX5_sumOn_27 : decode cX5_sumOn 27 = .ok (.isub, 1) := by decide +kernel
theorem dX5_sumOn_28 : decode cX5_sumOn 28 = .ok (.if_icmp .le 12, 3) := by decide +kernel
theorem dX5_sumOn_31 : decode cX5_sumOn 31 = .ok (.iload_n 2, 1) := by decide +kernel
theorem dX5_sumOn_32 : decode cX5_sumOn 32 = .ok (.aload_n 0, 1) := by decide +kernel
theorem dX5_sumOn_33 : decode cX5_sumOn 33 = .ok (.getfield 18, 3) := by decide +kernel
theorem dX5_sumOn_36 : decode cX5_sumOn 36 = .ok (.iload_n 3, 1) := by decide +kernel
theorem dX5_sumOn_37 : decode cX5_sumOn 37 = .ok (.iaload, 1) := by decide +kernel
theorem dX5_sumOn_38 : decode cX5_sumOn 38 = .ok (.iadd, 1) := by decide +kernel
theorem dX5_sumOn_39 : decode cX5_sumOn 39 = .ok (.istore_n 2, 1) := by decide +kernel
theorem dX5_sumOn_40 : decode cX5_sumOn 40 = .ok (.iinc 3 1, 3) := by decide +kernel
theorem dX5_sumOn_43 : decode cX5_sumOn 43 = .ok (.goto (-39), 3) := by decide +kernel
theorem dX5_sumOn_46 : decode cX5_sumOn 46 = .ok (.iload_n 2, 1) := by decide +kernel
theorem dX5_sumOn_47 : decode cX5_sumOn 47 = .ok (.ireturn, 1) := by decide +kernel
theorem dX5_dayToSeeBy_0 : decode cX5_dayToSeeBy 0 = .ok (.iconst 0, 1) := by decide +kernel
theorem dX5_dayToSeeBy_1 : decode cX5_dayToSeeBy 1 = .ok (.istore_n 2, 1) := by decide +kernel
theorem dX5_dayToSeeBy_2 : decode cX5_dayToSeeBy 2 = .ok (.iload_n 2, 1) := by decide +kernel
theorem dX5_dayToSeeBy_3 : decode cX5_dayToSeeBy 3 = .ok (.aload_n 0, 1) := by decide +kernel
theorem dX5_dayToSeeBy_4 : decode cX5_dayToSeeBy 4 = .ok (.getfield 28, 3) := by decide +kernel
theorem dX5_dayToSeeBy_7 : decode cX5_dayToSeeBy 7 = .ok (.if_icmp .ge 57, 3) := by decide +kernel
theorem dX5_dayToSeeBy_10 : decode cX5_dayToSeeBy 10 = .ok (.iload_n 2, 1) := by decide +kernel
theorem dX5_dayToSeeBy_11 : decode cX5_dayToSeeBy 11 = .ok (.bipush 30, 2) := by decide +kernel
theorem dX5_dayToSeeBy_13 : decode cX5_dayToSeeBy 13 = .ok (.if_icmp .ge 51, 3) := by decide +kernel
theorem dX5_dayToSeeBy_16 : decode cX5_dayToSeeBy 16 = .ok (.aload_n 0, 1) := by decide +kernel
theorem dX5_dayToSeeBy_17 : decode cX5_dayToSeeBy 17 = .ok (.getfield 9, 3) := by decide +kernel
theorem dX5_dayToSeeBy_20 : decode cX5_dayToSeeBy 20 = .ok (.iload_n 2, 1) := by decide +kernel
theorem dX5_dayToSeeBy_21 : decode cX5_dayToSeeBy 21 = .ok (.iaload, 1) := by decide +kernel
theorem dX5_dayToSeeBy_22 : decode cX5_dayToSeeBy 22 = .ok (.iload_n 1, 1) := by decide +kernel
theorem dX5_dayToSeeBy_23 : decode cX5_dayToSeeBy 23 = .ok (.bipush 30, 2) := by decide +kernel
theorem dX5_dayToSeeBy_25 : decode cX5_dayToSeeBy 25 = .ok (.isub, 1) := by decide +kernel
theorem dX5_dayToSeeBy_26 : decode cX5_dayToSeeBy 26 = .ok (.if_icmp .le 32, 3) := by decide +kernel
theorem dX5_dayToSeeBy_29 : decode cX5_dayToSeeBy 29 = .ok (.aload_n 0, 1) := by decide +kernel
theorem dX5_dayToSeeBy_30 : decode cX5_dayToSeeBy 30 = .ok (.getfield 9, 3) := by decide +kernel
theorem dX5_dayToSeeBy_33 : decode cX5_dayToSeeBy 33 = .ok (.iload_n 2, 1) := by decide +kernel
theorem dX5_dayToSeeBy_34 : decode cX5_dayToSeeBy 34 = .ok (.iaload, 1) := by decide +kernel
theorem dX5_dayToSeeBy_35 : decode cX5_dayToSeeBy 35 = .ok (.aload_n 0, 1) := by decide +kernel
theorem dX5_dayToSeeBy_36 : decode cX5_dayToSeeBy 36 = .ok (.getfield 21, 3) := by decide +kernel
theorem dX5_dayToSeeBy_39 : decode cX5_dayToSeeBy 39 = .ok (.if_icmp .le 19, 3) := by decide +kernel
theorem dX5_dayToSeeBy_42 : decode cX5_dayToSeeBy 42 = .ok (.aload_n 0, 1) := by decide +kernel
theorem dX5_dayToSeeBy_43 : decode cX5_dayToSeeBy 43 = .ok (.getfield 9, 3) := by decide +kernel
theorem dX5_dayToSeeBy_46 : decode cX5_dayToSeeBy 46 = .ok (.iload_n 2, 1) := by decide +kernel
theorem dX5_dayToSeeBy_47 : decode cX5_dayToSeeBy 47 = .ok (.iaload, 1) := by decide +kernel
theorem dX5_dayToSeeBy_48 : decode cX5_dayToSeeBy 48 = .ok (.aload_n 0, 1) := by decide +kernel
theorem dX5_dayToSeeBy_49 : decode cX5_dayToSeeBy 49 = .ok (.iload_n 1, 1) := by decide +kernel
theorem dX5_dayToSeeBy_50 : decode cX5_dayToSeeBy 50 = .ok (.invokevirtual 37, 3) := by decide +kernel
theorem dX5_dayToSeeBy_53 : decode cX5_dayToSeeBy 53 = .ok (.invokestatic 41, 3) := by decide +kernel
theorem dX5_dayToSeeBy_56 : decode cX5_dayToSeeBy 56 = .ok (.iadd, 1) := by decide +kernel
theorem dX5_dayToSeeBy_57 : decode cX5_dayToSeeBy 57 = .ok (.ireturn, 1) := by decide +kernel
theorem dX5_dayToSeeBy_58 : decode cX5_dayToSeeBy 58 = .ok (.iinc 2 1, 3) := by decide +kernel
theorem dX5_dayToSeeBy_61 : decode cX5_dayToSeeBy 61 = .ok (.goto (-59), 3) := by decide +kernel
theorem dX5_dayToSeeBy_64 : decode cX5_dayToSeeBy 64 = .ok (.iconst (-1), 1) := by decide +kernel
theorem dX5_dayToSeeBy_65 : decode cX5_dayToSeeBy 65 = .ok (.ireturn, 1) := by decide +kernel
theorem dX5_daysToSee_0 : decode cX5_daysToSee 0 = .ok (.iload_n 0, 1) := by decide +kernel
theorem dX5_daysToSee_1 : decode cX5_daysToSee 1 = .ok (.bipush 12, 2) := by decide +kernel
theorem dX5_daysToSee_3 : decode cX5_daysToSee 3 = .ok (.if_icmp .lt 5, 3) := by decide +kernel
theorem dX5_daysToSee_6 : decode cX5_daysToSee 6 = .ok (.iconst 1, 1) := by decide +kernel
theorem dX5_daysToSee_7 : decode cX5_daysToSee 7 = .ok (.ireturn, 1) := by decide +kernel
theorem dX5_daysToSee_8 : decode cX5_daysToSee 8 = .ok (.iload_n 0, 1) := by decide +kernel
theorem dX5_daysToSee_9 : decode cX5_daysToSee 9 = .ok (.bipush 6, 2) := by decide +kernel
theorem dX5_daysToSee_11 : decode cX5_daysToSee 11 = .ok (.if_icmp .lt 7, 3) := by decide +kernel
theorem dX5_daysToSee_14 : decode cX5_daysToSee 14 = .ok (.iconst 5, 1) := by decide +kernel
theorem dX5_daysToSee_15 : decode cX5_daysToSee 15 = .ok (.goto 5, 3) := by decide +kernel
theorem dX5_daysToSee_18 : decode cX5_daysToSee 18 = .ok (.bipush 20, 2) := by decide +kernel
theorem dX5_daysToSee_20 : decode cX5_daysToSee 20 = .ok (.ireturn, 1) := by decide +kernel
theorem dX6_init_0 : decode cX6_init 0 = .ok (.aload_n 0, 1) := by decide +kernel
theorem dX6_init_1 : decode cX6_init 1 = .ok (.invokespecial 3, 3) := by decide +kernel
theorem dX6_init_4 : decode cX6_init 4 = .ok (.aload_n 0, 1) := by decide +kernel
theorem dX6_init_5 : decode cX6_init 5 = .ok (.aload_n 1, 1) := by decide +kernel
theorem dX6_init_6 : decode cX6_init 6 = .ok (.putfield 9, 3) := by decide +kernel
theorem dX6_init_9 : decode cX6_init 9 = .ok (.aload_n 0, 1) := by decide +kernel
theorem dX6_init_10 : decode cX6_init 10 = .ok (.aload_n 2, 1) := by decide +kernel
theorem dX6_init_11 : decode cX6_init 11 = .ok (.putfield 15, 3) := by decide +kernel
theorem dX6_init_14 : decode cX6_init 14 = .ok (.aload_n 0, 1) := by decide +kernel
theorem dX6_init_15 : decode cX6_init 15 = .ok (.iload_n 3, 1) := by decide +kernel
theorem dX6_init_16 : decode cX6_init 16 = .ok (.putfield 19, 3) := by decide +kernel
theorem dX6_init_19 : decode cX6_init 19 = .ok (.aload_n 0, 1) := by decide +kernel
theorem dX6_init_20 : decode cX6_init 20 = .ok (.iload 4, 2) := by decide +kernel
theorem dX6_init_22 : decode cX6_init 22 = .ok (.putfield 23, 3) := by decide +kernel
theorem dX6_init_25 : decode cX6_init 25 = .ok (.aload_n 0, 1) := by decide +kernel
theorem dX6_init_26 : decode cX6_init 26 = .ok (.iconst (-1), 1) := by decide +kernel
theorem dX6_init_27 : decode cX6_init 27 = .ok (.putfield 26, 3) := by decide +kernel
theorem dX6_init_30 : decode cX6_init 30 = .ok (.return_, 1) := by decide +kernel
theorem dX6_duesUpTo_0 : decode cX6_duesUpTo 0 = .ok (.aload_n 0, 1) := by decide +kernel
theorem dX6_duesUpTo_1 : decode cX6_duesUpTo 1 = .ok (.getfield 26, 3) := by decide +kernel
theorem dX6_duesUpTo_4 : decode cX6_duesUpTo 4 = .ok (.iconst (-1), 1) := by decide +kernel
theorem dX6_duesUpTo_5 : decode cX6_duesUpTo 5 = .ok (.if_icmp .ne 7, 3) := by decide +kernel
theorem dX6_duesUpTo_8 : decode cX6_duesUpTo 8 = .ok (.iload_n 1, 1) := by decide +kernel
theorem dX6_duesUpTo_9 : decode cX6_duesUpTo 9 = .ok (.goto 7, 3) := by decide +kernel
theorem dX6_duesUpTo_12 : decode cX6_duesUpTo 12 = .ok (.aload_n 0, 1) := by decide +kernel
theorem dX6_duesUpTo_13 : decode cX6_duesUpTo 13 = .ok (.getfield 26, 3) := by decide +kernel
theorem dX6_duesUpTo_16 : decode cX6_duesUpTo 16 = .ok (.istore_n 2, 1) := by decide +kernel
theorem dX6_duesUpTo_17 : decode cX6_duesUpTo 17 = .ok (.bipush 10, 2) := by decide +kernel
theorem dX6_duesUpTo_19 : decode cX6_duesUpTo 19 = .ok (.iconst 5, 1) := by decide +kernel
theorem dX6_duesUpTo_20 : decode cX6_duesUpTo 20 = .ok (.aload_n 0, 1) := by decide +kernel
theorem dX6_duesUpTo_21 : decode cX6_duesUpTo 21 = .ok (.getfield 9, 3) := by decide +kernel
theorem dX6_duesUpTo_24 : decode cX6_duesUpTo 24 = .ok (.getfield 29, 3) := by decide +kernel
theorem dX6_duesUpTo_27 : decode cX6_duesUpTo 27 = .ok (.invokestatic 34, 3) := by decide +kernel
theorem dX6_duesUpTo_30 : decode cX6_duesUpTo 30 = .ok (.imul, 1) := by decide +kernel
theorem dX6_duesUpTo_31 : decode cX6_duesUpTo 31 = .ok (.iadd, 1) := by decide +kernel
theorem dX6_duesUpTo_32 : decode cX6_duesUpTo 32 = .ok (.istore_n 3, 1) := by decide +kernel
theorem dX6_duesUpTo_33 : decode cX6_duesUpTo 33 = .ok (.iload_n 2, 1) := by decide +kernel
theorem dX6_duesUpTo_34 : decode cX6_duesUpTo 34 = .ok (.aload_n 0, 1) := by decide +kernel
theorem dX6_duesUpTo_35 : decode cX6_duesUpTo 35 = .ok (.getfield 19, 3) := by decide +kernel
theorem dX6_duesUpTo_38 : decode cX6_duesUpTo 38 = .ok (.isub, 1) := by decide +kernel
theorem dX6_duesUpTo_39 : decode cX6_duesUpTo 39 = .ok (.iload_n 3, 1) := by decide +kernel
theorem dX6_duesUpTo_40 : decode cX6_duesUpTo 40 = .ok (.imul, 1) := by decide +kernel
theorem dX6_duesUpTo_41 : decode cX6_duesUpTo 41 = .ok (.iload_n 2, 1) := by decide +kernel
theorem dX6_duesUpTo_42 : decode cX6_duesUpTo 42 = .ok (.aload_n 0, 1) := by decide +kernel
theorem dX6_duesUpTo_43 : decode cX6_duesUpTo 43 = .ok (.getfield 9, 3) := by decide +kernel
theorem dX6_duesUpTo_46 : decode cX6_duesUpTo 46 = .ok (.getfield 40, 3) := by decide +kernel
theorem dX6_duesUpTo_49 : decode cX6_duesUpTo 49 = .ok (.isub, 1) := by decide +kernel
theorem dX6_duesUpTo_50 : decode cX6_duesUpTo 50 = .ok (.invokestatic 43, 3) := by decide +kernel
theorem dX6_duesUpTo_53 : decode cX6_duesUpTo 53 = .ok (.iadd, 1) := by decide +kernel
theorem dX6_duesUpTo_54 : decode cX6_duesUpTo 54 = .ok (.aload_n 0, 1) := by decide +kernel
theorem dX6_duesUpTo_55 : decode cX6_duesUpTo 55 = .ok (.getfield 19, 3) := by decide +kernel
theorem dX6_duesUpTo_58 : decode cX6_duesUpTo 58 = .ok (.aload_n 0, 1) := by decide +kernel
theorem dX6_duesUpTo_59 : decode cX6_duesUpTo 59 = .ok (.getfield 9, 3) := by decide +kernel
theorem dX6_duesUpTo_62 : decode cX6_duesUpTo 62 = .ok (.getfield 40, 3) := by decide +kernel
theorem dX6_duesUpTo_65 : decode cX6_duesUpTo 65 = .ok (.isub, 1) := by decide +kernel
theorem dX6_duesUpTo_66 : decode cX6_duesUpTo 66 = .ok (.invokestatic 43, 3) := by decide +kernel
theorem dX6_duesUpTo_69 : decode cX6_duesUpTo 69 = .ok (.isub, 1) := by decide +kernel
theorem dX6_duesUpTo_70 : decode cX6_duesUpTo 70 = .ok (.ireturn, 1) := by decide +kernel
theorem dX6_yearsSummed_0 : decode cX6_yearsSummed 0 = .ok (.iload_n 0, 1) := by decide +kernel
theorem dX6_yearsSummed_1 : decode cX6_yearsSummed 1 = .ok (.sipush 365, 3) := by decide +kernel
theorem dX6_yearsSummed_4 : decode cX6_yearsSummed 4 = .ok (.idiv, 1) := by decide +kernel
theorem dX6_yearsSummed_5 : decode cX6_yearsSummed 5 = .ok (.istore_n 1, 1) := by decide +kernel
theorem dX6_yearsSummed_6 : decode cX6_yearsSummed 6 = .ok (.sipush 365, 3) := by decide +kernel
theorem dX6_yearsSummed_9 : decode cX6_yearsSummed 9 = .ok (.iload_n 1, 1) := by decide +kernel
theorem dX6_yearsSummed_10 : decode cX6_yearsSummed 10 = .ok (.iload_n 1, 1) := by decide +kernel
theorem dX6_yearsSummed_11 : decode cX6_yearsSummed 11 = .ok (.iconst 1, 1) := by decide +kernel
theorem dX6_yearsSummed_12 : decode cX6_yearsSummed 12 = .ok (.isub, 1) := by decide +kernel
theorem dX6_yearsSummed_13 : decode cX6_yearsSummed 13 = .ok (.imul, 1) := by decide +kernel
theorem dX6_yearsSummed_14 : decode cX6_yearsSummed 14 = .ok (.iconst 2, 1) := by decide +kernel
theorem dX6_yearsSummed_15 : decode cX6_yearsSummed 15 = .ok (.idiv, 1) := by decide +kernel
theorem dX6_yearsSummed_16 : decode cX6_yearsSummed 16 = .ok (.imul, 1) := by decide +kernel
theorem dX6_yearsSummed_17 : decode cX6_yearsSummed 17 = .ok (.iload_n 0, 1) := by decide +kernel
theorem dX6_yearsSummed_18 : decode cX6_yearsSummed 18 = .ok (.sipush 365, 3) := by decide +kernel
theorem dX6_yearsSummed_21 : decode cX6_yearsSummed 21 = .ok (.irem, 1) := by decide +kernel
theorem dX6_yearsSummed_22 : decode cX6_yearsSummed 22 = .ok (.iload_n 1, 1) := by decide +kernel
theorem dX6_yearsSummed_23 : decode cX6_yearsSummed 23 = .ok (.imul, 1) := by decide +kernel
theorem dX6_yearsSummed_24 : decode cX6_yearsSummed 24 = .ok (.iadd, 1) := by decide +kernel
theorem dX6_yearsSummed_25 : decode cX6_yearsSummed 25 = .ok (.ireturn, 1) := by decide +kernel
theorem dX7_init_0 : decode cX7_init 0 = .ok (.aload_n 0, 1) := by decide +kernel
theorem dX7_init_1 : decode cX7_init 1 = .ok (.invokespecial 1, 3) := by decide +kernel
theorem dX7_init_4 : decode cX7_init 4 = .ok (.aload_n 0, 1) := by decide +kernel
theorem dX7_init_5 : decode cX7_init 5 = .ok (.aload_n 1, 1) := by decide +kernel
theorem dX7_init_6 : decode cX7_init 6 = .ok (.ifnull 18, 3) := by decide +kernel
theorem dX7_init_9 : decode cX7_init 9 = .ok (.aload_n 1, 1) := by decide +kernel
theorem dX7_init_10 : decode cX7_init 10 = .ok (.getfield 7, 3) := by decide +kernel
theorem dX7_init_13 : decode cX7_init 13 = .ok (.iload_n 2, 1) := by decide +kernel
theorem dX7_init_14 : decode cX7_init 14 = .ok (.if_icmp .ne 10, 3) := by decide +kernel
theorem dX7_init_17 : decode cX7_init 17 = .ok (.aload_n 1, 1) := by decide +kernel
theorem dX7_init_18 : decode cX7_init 18 = .ok (.getfield 13, 3) := by decide +kernel
theorem dX7_init_21 : decode cX7_init 21 = .ok (.goto 4, 3) := by decide +kernel
theorem dX7_init_24 : decode cX7_init 24 = .ok (.aload_n 1, 1) := by decide +kernel
theorem dX7_init_25 : decode cX7_init 25 = .ok (.putfield 13, 3) := by decide +kernel
theorem dX7_init_28 : decode cX7_init 28 = .ok (.aload_n 0, 1) := by decide +kernel
theorem dX7_init_29 : decode cX7_init 29 = .ok (.iload_n 2, 1) := by decide +kernel
theorem dX7_init_30 : decode cX7_init 30 = .ok (.putfield 7, 3) := by decide +kernel
theorem dX7_init_33 : decode cX7_init 33 = .ok (.aload_n 0, 1) := by decide +kernel
theorem dX7_init_34 : decode cX7_init 34 = .ok (.iload_n 3, 1) := by decide +kernel
theorem dX7_init_35 : decode cX7_init 35 = .ok (.putfield 17, 3) := by decide +kernel
theorem dX7_init_38 : decode cX7_init 38 = .ok (.aload_n 0, 1) := by decide +kernel
theorem dX7_init_39 : decode cX7_init 39 = .ok (.iload 4, 2) := by decide +kernel
theorem dX7_init_41 : decode cX7_init 41 = .ok (.putfield 20, 3) := by decide +kernel
theorem dX7_init_44 : decode cX7_init 44 = .ok (.aload_n 0, 1) := by decide +kernel
theorem dX7_init_45 : decode cX7_init 45 = .ok (.iload 5, 2) := by decide +kernel
theorem dX7_init_47 : decode cX7_init 47 = .ok (.putfield 23, 3) := by decide +kernel
theorem dX7_init_50 : decode cX7_init 50 = .ok (.aload_n 0, 1) := by decide +kernel
theorem dX7_init_51 : decode cX7_init 51 = .ok (.iload 6, 2) := by decide +kernel
theorem dX7_init_53 : decode cX7_init 53 = .ok (.putfield 26, 3) := by decide +kernel
theorem dX7_init_56 : decode cX7_init 56 = .ok (.aload_n 0, 1) := by decide +kernel
theorem dX7_init_57 : decode cX7_init 57 = .ok (.iload 7, 2) := by decide +kernel
theorem dX7_init_59 : decode cX7_init 59 = .ok (.putfield 29, 3) := by decide +kernel
theorem dX7_init_62 : decode cX7_init 62 = .ok (.return_, 1) := by decide +kernel
theorem dX7_holdsOn_0 : decode cX7_holdsOn 0 = .ok (.aload_n 0, 1) := by decide +kernel
theorem dX7_holdsOn_1 : decode cX7_holdsOn 1 = .ok (.getfield 17, 3) := by decide +kernel
theorem dX7_holdsOn_4 : decode cX7_holdsOn 4 = .ok (.iload_n 1, 1) := by decide +kernel
theorem dX7_holdsOn_5 : decode cX7_holdsOn 5 = .ok (.if_icmp .gt 15, 3) := by decide +kernel
theorem dX7_holdsOn_8 : decode cX7_holdsOn 8 = .ok (.iload_n 1, 1) := by decide +kernel
theorem dX7_holdsOn_9 : decode cX7_holdsOn 9 = .ok (.aload_n 0, 1) := by decide +kernel
theorem dX7_holdsOn_10 : decode cX7_holdsOn 10 = .ok (.getfield 20, 3) := by decide +kernel
theorem dX7_holdsOn_13 : decode cX7_holdsOn 13 = .ok (.if_icmp .gt 7, 3) := by decide +kernel
theorem dX7_holdsOn_16 : decode cX7_holdsOn 16 = .ok (.iconst 1, 1) := by decide +kernel
theorem dX7_holdsOn_17 : decode cX7_holdsOn 17 = .ok (.goto 4, 3) := by decide +kernel
theorem dX7_holdsOn_20 : decode cX7_holdsOn 20 = .ok (.iconst 0, 1) := by decide +kernel
theorem dX7_holdsOn_21 : decode cX7_holdsOn 21 = .ok (.ireturn, 1) := by decide +kernel
theorem dX7_toldBy_0 : decode cX7_toldBy 0 = .ok (.aload_n 0, 1) := by decide +kernel
theorem dX7_toldBy_1 : decode cX7_toldBy 1 = .ok (.astore_n 2, 1) := by decide +kernel
theorem dX7_toldBy_2 : decode cX7_toldBy 2 = .ok (.aload_n 2, 1) := by decide +kernel
theorem dX7_toldBy_3 : decode cX7_toldBy 3 = .ok (.ifnull 19, 3) := by decide +kernel
theorem dX7_toldBy_6 : decode cX7_toldBy 6 = .ok (.aload_n 2, 1) := by decide +kernel
theorem dX7_toldBy_7 : decode cX7_toldBy 7 = .ok (.getfield 7, 3) := by decide +kernel
theorem dX7_toldBy_10 : decode cX7_toldBy 10 = .ok (.iload_n 1, 1) := by decide +kernel
theorem dX7_toldBy_11 : decode cX7_toldBy 11 = .ok (.if_icmp .le 11, 3) := by decide +kernel
theorem dX7_toldBy_14 : decode cX7_toldBy 14 = .ok (.aload_n 2, 1) := by decide +kernel
theorem dX7_toldBy_15 : decode cX7_toldBy 15 = .ok (.getfield 13, 3) := by decide +kernel
theorem dX7_toldBy_18 : decode cX7_toldBy 18 = .ok (.astore_n 2, 1) := by decide +kernel
theorem dX7_toldBy_19 : decode cX7_toldBy 19 = .ok (.goto (-17), 3) := by decide +kernel
theorem dX7_toldBy_22 : decode cX7_toldBy 22 = .ok (.aload_n 2, 1) := by decide +kernel
theorem dX7_toldBy_23 : decode cX7_toldBy 23 = .ok (.areturn, 1) := by decide +kernel
theorem dX8_init_0 : decode cX8_init 0 = .ok (.aload_n 0, 1) := by decide +kernel
theorem dX8_init_1 : decode cX8_init 1 = .ok (.invokespecial 1, 3) := by decide +kernel
theorem dX8_init_4 : decode cX8_init 4 = .ok (.aload_n 0, 1) := by decide +kernel
theorem dX8_init_5 : decode cX8_init 5 = .ok (.bipush 16, 2) := by decide +kernel
theorem dX8_init_7 : decode cX8_init 7 = .ok (.anewarray 9, 3) := by decide +kernel
theorem dX8_init_10 : decode cX8_init 10 = .ok (.putfield 11, 3) := by decide +kernel
theorem dX8_init_13 : decode cX8_init 13 = .ok (.aload_n 0, 1) := by decide +kernel
theorem dX8_init_14 : decode cX8_init 14 = .ok (.bipush 10, 2) := by decide +kernel
theorem dX8_init_16 : decode cX8_init 16 = .ok (.anewarray 15, 3) := by decide +kernel
theorem dX8_init_19 : decode cX8_init 19 = .ok (.putfield 17, 3) := by decide +kernel
theorem dX8_init_22 : decode cX8_init 22 = .ok (.aload_n 0, 1) := by decide +kernel
theorem dX8_init_23 : decode cX8_init 23 = .ok (.bipush 100, 2) := by decide +kernel
theorem dX8_init_25 : decode cX8_init 25 = .ok (.anewarray 21, 3) := by decide +kernel
theorem dX8_init_28 : decode cX8_init 28 = .ok (.putfield 23, 3) := by decide +kernel
theorem dX8_init_31 : decode cX8_init 31 = .ok (.aload_n 0, 1) := by decide +kernel
theorem dX8_init_32 : decode cX8_init 32 = .ok (.new 27, 3) := by decide +kernel
theorem dX8_init_35 : decode cX8_init 35 = .ok (.dup, 1) := by decide +kernel
theorem dX8_init_36 : decode cX8_init 36 = .ok (.invokespecial 29, 3) := by decide +kernel
theorem dX8_init_39 : decode cX8_init 39 = .ok (.putfield 30, 3) := by decide +kernel
theorem dX8_init_42 : decode cX8_init 42 = .ok (.return_, 1) := by decide +kernel
theorem dX8_child_0 : decode cX8_child 0 = .ok (.iload_n 1, 1) := by decide +kernel
theorem dX8_child_1 : decode cX8_child 1 = .ok (.iconst 0, 1) := by decide +kernel
theorem dX8_child_2 : decode cX8_child 2 = .ok (.sipush 7000, 3) := by decide +kernel
theorem dX8_child_5 : decode cX8_child 5 = .ok (.invokestatic 34, 3) := by decide +kernel
theorem dX8_child_8 : decode cX8_child 8 = .ok (.ifCond .eq 48, 3) := by decide +kernel
theorem dX8_child_11 : decode cX8_child 11 = .ok (.iload_n 2, 1) := by decide +kernel
theorem dX8_child_12 : decode cX8_child 12 = .ok (.iconst 0, 1) := by decide +kernel
theorem dX8_child_13 : decode cX8_child 13 = .ok (.bipush 15, 2) := by decide +kernel
theorem dX8_child_15 : decode cX8_child 15 = .ok (.invokestatic 34, 3) := by decide +kernel
theorem dX8_child_18 : decode cX8_child 18 = .ok (.ifCond .eq 38, 3) := by decide +kernel
theorem dX8_child_21 : decode cX8_child 21 = .ok (.iload_n 3, 1) := by decide +kernel
theorem dX8_child_22 : decode cX8_child 22 = .ok (.iconst 0, 1) := by decide +kernel
theorem dX8_child_23 : decode cX8_child 23 = .ok (.bipush 7, 2) := by decide +kernel
theorem dX8_child_25 : decode cX8_child 25 = .ok (.invokestatic 34, 3) := by decide +kernel
theorem dX8_child_28 : decode cX8_child 28 = .ok (.ifCond .eq 28, 3) := by decide +kernel
theorem dX8_child_31 : decode cX8_child 31 = .ok (.iload 4, 2) := by decide +kernel
theorem dX8_child_33 : decode cX8_child 33 = .ok (.iconst 0, 1) := by decide +kernel
theorem dX8_child_34 : decode cX8_child 34 = .ok (.bipush 50, 2) := by decide +kernel
theorem dX8_child_36 : decode cX8_child 36 = .ok (.invokestatic 34, 3) := by decide +kernel
theorem dX8_child_39 : decode cX8_child 39 = .ok (.ifCond .eq 17, 3) := by decide +kernel
theorem dX8_child_42 : decode cX8_child 42 = .ok (.iload 5, 2) := by decide +kernel
theorem dX8_child_44 : decode cX8_child 44 = .ok (.iconst 0, 1) := by decide +kernel
theorem dX8_child_45 : decode cX8_child 45 = .ok (.iconst 3, 1) := by decide +kernel
theorem dX8_child_46 : decode cX8_child 46 = .ok (.invokestatic 34, 3) := by decide +kernel
theorem dX8_child_49 : decode cX8_child 49 = .ok (.ifCond .eq 7, 3) := by decide +kernel
theorem dX8_child_52 : decode cX8_child 52 = .ok (.iconst 1, 1) := by decide +kernel
theorem dX8_child_53 : decode cX8_child 53 = .ok (.goto 4, 3) := by decide +kernel
theorem dX8_child_56 : decode cX8_child 56 = .ok (.iconst 0, 1) := by decide +kernel
theorem dX8_child_57 : decode cX8_child 57 = .ok (.invokestatic 38, 3) := by decide +kernel
theorem dX8_child_60 : decode cX8_child 60 = .ok (.aload_n 0, 1) := by decide +kernel
theorem dX8_child_61 : decode cX8_child 61 = .ok (.getfield 42, 3) := by decide +kernel
theorem dX8_child_64 : decode cX8_child 64 = .ok (.aload_n 0, 1) := by decide +kernel
theorem dX8_child_65 : decode cX8_child 65 = .ok (.getfield 11, 3) := by decide +kernel
theorem dX8_child_68 : decode cX8_child 68 = .ok (.arraylength, 1) := by decide +kernel
theorem dX8_child_69 : decode cX8_child 69 = .ok (.if_icmp .lt 13, 3) := by decide +kernel
theorem dX8_child_72 : decode cX8_child 72 = .ok (.new 46, 3) := by decide +kernel
theorem dX8_child_75 : decode cX8_child 75 = .ok (.dup, 1) := by decide +kernel
theorem dX8_child_76 : decode cX8_child 76 = .ok (.ldc 48, 2) := by decide +kernel
theorem dX8_child_78 : decode cX8_child 78 = .ok (.invokespecial 50, 3) := by decide +kernel
theorem dX8_child_81 : decode cX8_child 81 = .ok (.athrow, 1) := by decide +kernel
theorem dX8_child_82 : decode cX8_child 82 = .ok (.aload_n 0, 1) := by decide +kernel
theorem dX8_child_83 : decode cX8_child 83 = .ok (.getfield 42, 3) := by decide +kernel
theorem dX8_child_86 : decode cX8_child 86 = .ok (.istore 6, 2) := by decide +kernel
theorem dX8_child_88 : decode cX8_child 88 = .ok (.aload_n 0, 1) := by decide +kernel
theorem dX8_child_89 : decode cX8_child 89 = .ok (.getfield 11, 3) := by decide +kernel
theorem dX8_child_92 : decode cX8_child 92 = .ok (.iload 6, 2) := by decide +kernel
theorem dX8_child_94 : decode cX8_child 94 = .ok (.new 9, 3) := by decide +kernel
theorem dX8_child_97 : decode cX8_child 97 = .ok (.dup, 1) := by decide +kernel
theorem dX8_child_98 : decode cX8_child 98 = .ok (.iload 6, 2) := by decide +kernel
theorem dX8_child_100 : decode cX8_child 100 = .ok (.aload_n 0, 1) := by decide +kernel
theorem dX8_child_101 : decode cX8_child 101 = .ok (.getfield 53, 3) := by decide +kernel
theorem dX8_child_104 : decode cX8_child 104 = .ok (.iload_n 1, 1) := by decide +kernel
theorem dX8_child_105 : decode cX8_child 105 = .ok (.isub, 1) := by decide +kernel
theorem dX8_child_106 : decode cX8_child 106 = .ok (.iload_n 2, 1) := by decide +kernel
theorem dX8_child_107 : decode cX8_child 107 = .ok (.iload_n 3, 1) := by decide +kernel
theorem dX8_child_108 : decode cX8_child 108 = .ok (.iload 4, 2) := by decide +kernel
theorem dX8_child_110 : decode cX8_child 110 = .ok (.iload 5, 2) := by decide +kernel
theorem dX8_child_112 : decode cX8_child 112 = .ok (.aload_n 0, 1) := by decide +kernel
theorem dX8_child_113 : decode cX8_child 113 = .ok (.invokevirtual 56, 3) := by decide +kernel
theorem dX8_child_116 : decode cX8_child 116 = .ok (.invokespecial 60, 3) := by decide +kernel
theorem dX8_child_119 : decode cX8_child 119 = .ok (.aastore, 1) := by decide +kernel
theorem dX8_child_120 : decode cX8_child 120 = .ok (.aload_n 0, 1) := by decide +kernel
theorem dX8_child_121 : decode cX8_child 121 = .ok (.iload 6, 2) := by decide +kernel
theorem dX8_child_123 : decode cX8_child 123 = .ok (.iconst 1, 1) := by decide +kernel
theorem dX8_child_124 : decode cX8_child 124 = .ok (.iadd, 1) := by decide +kernel
theorem dX8_child_125 : decode cX8_child 125 = .ok (.putfield 42, 3) := by decide +kernel
theorem dX8_child_128 : decode cX8_child 128 = .ok (.iload 6, 2) := by decide +kernel
theorem dX8_child_130 : decode cX8_child 130 = .ok (.ireturn, 1) := by decide +kernel
theorem dX8_home_0 : decode cX8_home 0 = .ok (.iload_n 1, 1) := by decide +kernel
theorem dX8_home_1 : decode cX8_home 1 = .ok (.iconst 0, 1) := by decide +kernel
theorem dX8_home_2 : decode cX8_home 2 = .ok (.bipush 50, 2) := by decide +kernel
theorem dX8_home_4 : decode cX8_home 4 = .ok (.invokestatic 34, 3) := by decide +kernel
theorem dX8_home_7 : decode cX8_home 7 = .ok (.ifCond .eq 25, 3) := by decide +kernel
theorem dX8_home_10 : decode cX8_home 10 = .ok (.iload_n 2, 1) := by decide +kernel
theorem dX8_home_11 : decode cX8_home 11 = .ok (.iconst 0, 1) := by decide +kernel
theorem dX8_home_12 : decode cX8_home 12 = .ok (.iconst 3, 1) := by decide +kernel
theorem dX8_home_13 : decode cX8_home 13 = .ok (.invokestatic 34, 3) := by decide +kernel
theorem dX8_home_16 : decode cX8_home 16 = .ok (.ifCond .eq 16, 3) := by decide +kernel
theorem dX8_home_19 : decode cX8_home 19 = .ok (.iload_n 3, 1) := by decide +kernel
theorem dX8_home_20 : decode cX8_home 20 = .ok (.iconst 1, 1) := by decide +kernel
theorem dX8_home_21 : decode cX8_home 21 = .ok (.iconst 5, 1) := by decide +kernel
theorem dX8_home_22 : decode cX8_home 22 = .ok (.invokestatic 34, 3) := by decide +kernel
theorem dX8_home_25 : decode cX8_home 25 = .ok (.ifCond .eq 7, 3) := by decide +kernel
theorem dX8_home_28 : decode cX8_home 28 = .ok (.iconst 1, 1) := by decide +kernel
theorem dX8_home_29 : decode cX8_home 29 = .ok (.goto 4, 3) := by decide +kernel
theorem dX8_home_32 : decode cX8_home 32 = .ok (.iconst 0, 1) := by decide +kernel
theorem dX8_home_33 : decode cX8_home 33 = .ok (.invokestatic 38, 3) := by decide +kernel
theorem dX8_home_36 : decode cX8_home 36 = .ok (.aload_n 0, 1) := by decide +kernel
theorem dX8_home_37 : decode cX8_home 37 = .ok (.getfield 63, 3) := by decide +kernel
theorem dX8_home_40 : decode cX8_home 40 = .ok (.aload_n 0, 1) := by decide +kernel
theorem dX8_home_41 : decode cX8_home 41 = .ok (.getfield 17, 3) := by decide +kernel
theorem dX8_home_44 : decode cX8_home 44 = .ok (.arraylength, 1) := by decide +kernel
theorem dX8_home_45 : decode cX8_home 45 = .ok (.if_icmp .lt 13, 3) := by decide +kernel
theorem dX8_home_48 : decode cX8_home 48 = .ok (.new 46, 3) := by decide +kernel
theorem dX8_home_51 : decode cX8_home 51 = .ok (.dup, 1) := by decide +kernel
theorem dX8_home_52 : decode cX8_home 52 = .ok (.ldc 66, 2) := by decide +kernel
theorem dX8_home_54 : decode cX8_home 54 = .ok (.invokespecial 50, 3) := by decide +kernel
theorem dX8_home_57 : decode cX8_home 57 = .ok (.athrow, 1) := by decide +kernel
theorem dX8_home_58 : decode cX8_home 58 = .ok (.aload_n 0, 1) := by decide +kernel
theorem dX8_home_59 : decode cX8_home 59 = .ok (.getfield 63, 3) := by decide +kernel
theorem dX8_home_62 : decode cX8_home 62 = .ok (.istore 4, 2) := by decide +kernel
theorem dX8_home_64 : decode cX8_home 64 = .ok (.aload_n 0, 1) := by decide +kernel
theorem dX8_home_65 : decode cX8_home 65 = .ok (.getfield 17, 3) := by decide +kernel
theorem dX8_home_68 : decode cX8_home 68 = .ok (.iload 4, 2) := by decide +kernel
theorem dX8_home_70 : decode cX8_home 70 = .ok (.new 15, 3) := by decide +kernel
theorem dX8_home_73 : decode cX8_home 73 = .ok (.dup, 1) := by decide +kernel
theorem dX8_home_74 : decode cX8_home 74 = .ok (.iload 4, 2) := by decide +kernel
theorem dX8_home_76 : decode cX8_home 76 = .ok (.iload_n 1, 1) := by decide +kernel
theorem dX8_home_77 : decode cX8_home 77 = .ok (.iload_n 2, 1) := by decide +kernel
theorem dX8_home_78 : decode cX8_home 78 = .ok (.iload_n 3, 1) := by decide +kernel
theorem dX8_home_79 : decode cX8_home 79 = .ok (.invokespecial 68, 3) := by decide +kernel
theorem dX8_home_82 : decode cX8_home 82 = .ok (.aastore, 1) := by decide +kernel
theorem dX8_home_83 : decode cX8_home 83 = .ok (.aload_n 0, 1) := by decide +kernel
theorem dX8_home_84 : decode cX8_home 84 = .ok (.iload 4, 2) := by decide +kernel
theorem dX8_home_86 : decode cX8_home 86 = .ok (.iconst 1, 1) := by decide +kernel
theorem dX8_home_87 : decode cX8_home 87 = .ok (.iadd, 1) := by decide +kernel
theorem dX8_home_88 : decode cX8_home 88 = .ok (.putfield 63, 3) := by decide +kernel
theorem dX8_home_91 : decode cX8_home 91 = .ok (.iload 4, 2) := by decide +kernel
theorem dX8_home_93 : decode cX8_home 93 = .ok (.ireturn, 1) := by decide +kernel
theorem dX8_approve_0 : decode cX8_approve 0 = .ok (.aload_n 0, 1) := by decide +kernel
theorem dX8_approve_1 : decode cX8_approve 1 = .ok (.iload_n 1, 1) := by decide +kernel
theorem dX8_approve_2 : decode cX8_approve 2 = .ok (.invokevirtual 71, 3) := by decide +kernel
theorem dX8_approve_5 : decode cX8_approve 5 = .ok (.astore 5, 2) := by decide +kernel
theorem dX8_approve_7 : decode cX8_approve 7 = .ok (.iload_n 2, 1) := by decide +kernel
theorem dX8_approve_8 : decode cX8_approve 8 = .ok (.iconst 0, 1) := by decide +kernel
theorem dX8_approve_9 : decode cX8_approve 9 = .ok (.bipush 17, 2) := by decide +kernel
theorem dX8_approve_11 : decode cX8_approve 11 = .ok (.invokestatic 34, 3) := by decide +kernel
theorem dX8_approve_14 : decode cX8_approve 14 = .ok (.ifCond .eq 29, 3) := by decide +kernel
theorem dX8_approve_17 : decode cX8_approve 17 = .ok (.iload_n 3, 1) := by decide +kernel
theorem dX8_approve_18 : decode cX8_approve 18 = .ok (.iload_n 2, 1) := by decide +kernel
theorem dX8_approve_19 : decode cX8_approve 19 = .ok (.bipush 17, 2) := by decide +kernel
theorem dX8_approve_21 : decode cX8_approve 21 = .ok (.invokestatic 34, 3) := by decide +kernel
theorem dX8_approve_24 : decode cX8_approve 24 = .ok (.ifCond .eq 19, 3) := by decide +kernel
theorem dX8_approve_27 : decode cX8_approve 27 = .ok (.iload 4, 2) := by decide +kernel
theorem dX8_approve_29 : decode cX8_approve 29 = .ok (.iconst 0, 1) := by decide +kernel
theorem dX8_approve_30 : decode cX8_approve 30 = .ok (.sipush 20000, 3) := by decide +kernel
theorem dX8_approve_33 : decode cX8_approve 33 = .ok (.invokestatic 34, 3) := by decide +kernel
theorem dX8_approve_36 : decode cX8_approve 36 = .ok (.ifCond .eq 7, 3) := by decide +kernel
theorem dX8_approve_39 : decode cX8_approve 39 = .ok (.iconst 1, 1) := by decide +kernel
theorem dX8_approve_40 : decode cX8_approve 40 = .ok (.goto 4, 3) := by decide +kernel
theorem dX8_approve_43 : decode cX8_approve 43 = .ok (.iconst 0, 1) := by decide +kernel
theorem dX8_approve_44 : decode cX8_approve 44 = .ok (.invokestatic 38, 3) := by decide +kernel
theorem dX8_approve_47 : decode cX8_approve 47 = .ok (.aload 5, 2) := by decide +kernel
theorem dX8_approve_49 : decode cX8_approve 49 = .ok (.new 75, 3) := by decide +kernel
theorem dX8_approve_52 : decode cX8_approve 52 = .ok (.dup, 1) := by decide +kernel
theorem dX8_approve_53 : decode cX8_approve 53 = .ok (.aload 5, 2) := by decide +kernel
theorem dX8_approve_55 : decode cX8_approve 55 = .ok (.getfield 77, 3) := by decide +kernel
theorem dX8_approve_58 : decode cX8_approve 58 = .ok (.aload_n 0, 1) := by decide +kernel
theorem dX8_approve_59 : decode cX8_approve 59 = .ok (.getfield 53, 3) := by decide +kernel
theorem dX8_approve_62 : decode cX8_approve 62 = .ok (.aload_n 0, 1) := by decide +kernel
theorem dX8_approve_63 : decode cX8_approve 63 = .ok (.getfield 53, 3) := by decide +kernel
theorem dX8_approve_66 : decode cX8_approve 66 = .ok (.iload 4, 2) := by decide +kernel
theorem dX8_approve_68 : decode cX8_approve 68 = .ok (.iload_n 2, 1) := by decide +kernel
theorem dX8_approve_69 : decode cX8_approve 69 = .ok (.iload_n 3, 1) := by decide +kernel
theorem dX8_approve_70 : decode cX8_approve 70 = .ok (.iconst 0, 1) := by decide +kernel
theorem dX8_approve_71 : decode cX8_approve 71 = .ok (.invokespecial 81, 3) := by decide +kernel
theorem dX8_approve_74 : decode cX8_approve 74 = .ok (.putfield 77, 3) := by decide +kernel
theorem dX8_approve_77 : decode cX8_approve 77 = .ok (.return_, 1) := by decide +kernel
theorem dX8_train_0 : decode cX8_train 0 = .ok (.aload_n 0, 1) := by decide +kernel
theorem dX8_train_1 : decode cX8_train 1 = .ok (.iload_n 1, 1) := by decide +kernel
theorem dX8_train_2 : decode cX8_train 2 = .ok (.invokevirtual 71, 3) := by decide +kernel
theorem dX8_train_5 : decode cX8_train 5 = .ok (.astore 4, 2) := by decide +kernel
theorem dX8_train_7 : decode cX8_train 7 = .ok (.iload_n 2, 1) := by decide +kernel
theorem dX8_train_8 : decode cX8_train 8 = .ok (.iconst 0, 1) := by decide +kernel
theorem dX8_train_9 : decode cX8_train 9 = .ok (.bipush 15, 2) := by decide +kernel
theorem dX8_train_11 : decode cX8_train 11 = .ok (.invokestatic 34, 3) := by decide +kernel
theorem dX8_train_14 : decode cX8_train 14 = .ok (.ifCond .eq 18, 3) := by decide +kernel
theorem dX8_train_17 : decode cX8_train 17 = .ok (.iload_n 3, 1) := by decide +kernel
theorem dX8_train_18 : decode cX8_train 18 = .ok (.iconst 0, 1) := by decide +kernel
theorem dX8_train_19 : decode cX8_train 19 = .ok (.sipush 20000, 3) := by decide +kernel
theorem dX8_train_22 : decode cX8_train 22 = .ok (.invokestatic 34, 3) := by decide +kernel
theorem dX8_train_25 : decode cX8_train 25 = .ok (.ifCond .eq 7, 3) := by decide +kernel
theorem dX8_train_28 : decode cX8_train 28 = .ok (.iconst 1, 1) := by decide +kernel
theorem dX8_train_29 : decode cX8_train 29 = .ok (.goto 4, 3) := by decide +kernel
theorem dX8_train_32 : decode cX8_train 32 = .ok (.iconst 0, 1) := by decide +kernel
theorem dX8_train_33 : decode cX8_train 33 = .ok (.invokestatic 38, 3) := by decide +kernel
theorem dX8_train_36 : decode cX8_train 36 = .ok (.aload 4, 2) := by decide +kernel
theorem dX8_train_38 : decode cX8_train 38 = .ok (.new 75, 3) := by decide +kernel
theorem dX8_train_41 : decode cX8_train 41 = .ok (.dup, 1) := by decide +kernel
theorem dX8_train_42 : decode cX8_train 42 = .ok (.aload 4, 2) := by decide +kernel
theorem dX8_train_44 : decode cX8_train 44 = .ok (.getfield 84, 3) := by decide +kernel
theorem dX8_train_47 : decode cX8_train 47 = .ok (.aload_n 0, 1) := by decide +kernel
theorem dX8_train_48 : decode cX8_train 48 = .ok (.getfield 53, 3) := by decide +kernel
theorem dX8_train_51 : decode cX8_train 51 = .ok (.aload_n 0, 1) := by decide +kernel
theorem dX8_train_52 : decode cX8_train 52 = .ok (.getfield 53, 3) := by decide +kernel
theorem dX8_train_55 : decode cX8_train 55 = .ok (.iload_n 3, 1) := by decide +kernel
