theorem dX0_init_0 : decode cX0_init 0 = .ok (.aload_n 0, 1) := by decide +kernel
theorem dX0_init_1 : decode cX0_init 1 = .ok (.invokespecial 3, 3) := by decide +kernel
theorem dX0_init_4 : decode cX0_init 4 = .ok (.aload_n 0, 1) := by decide +kernel
theorem dX0_init_5 : decode cX0_init 5 = .ok (.iload_n 1, 1) := by decide +kernel
theorem dX0_init_6 : decode cX0_init 6 = .ok (.putfield 9, 3) := by decide +kernel
theorem dX0_init_9 : decode cX0_init 9 = .ok (.aload_n 0, 1) := by decide +kernel
theorem dX0_init_10 : decode cX0_init 10 = .ok (.iload_n 2, 1) := by decide +kernel
theorem dX0_init_11 : decode cX0_init 11 = .ok (.putfield 15, 3) := by decide +kernel
theorem dX0_init_14 : decode cX0_init 14 = .ok (.aload_n 0, 1) := by decide +kernel
theorem dX0_init_15 : decode cX0_init 15 = .ok (.iload_n 3, 1) := by decide +kernel
theorem dX0_init_16 : decode cX0_init 16 = .ok (.putfield 18, 3) := by decide +kernel
theorem dX0_init_19 : decode cX0_init 19 = .ok (.aload_n 0, 1) := by decide +kernel
theorem dX0_init_20 : decode cX0_init 20 = .ok (.iload 4, 2) := by decide +kernel
theorem dX0_init_22 : decode cX0_init 22 = .ok (.putfield 21, 3) := by decide +kernel
theorem dX0_init_25 : decode cX0_init 25 = .ok (.aload_n 0, 1) := by decide +kernel
theorem dX0_init_26 : decode cX0_init 26 = .ok (.iload 4, 2) := by decide +kernel
theorem dX0_init_28 : decode cX0_init 28 = .ok (.iload 5, 2) := by decide +kernel
theorem dX0_init_30 : decode cX0_init 30 = .ok (.iadd, 1) := by decide +kernel
theorem dX0_init_31 : decode cX0_init 31 = .ok (.putfield 24, 3) := by decide +kernel
theorem dX0_init_34 : decode cX0_init 34 = .ok (.aload_n 0, 1) := by decide +kernel
theorem dX0_init_35 : decode cX0_init 35 = .ok (.iload 4, 2) := by decide +kernel
theorem dX0_init_37 : decode cX0_init 37 = .ok (.iload 5, 2) := by decide +kernel
theorem dX0_init_39 : decode cX0_init 39 = .ok (.iadd, 1) := by decide +kernel
theorem dX0_init_40 : decode cX0_init 40 = .ok (.iconst 2, 1) := by decide +kernel
theorem dX0_init_41 : decode cX0_init 41 = .ok (.iadd, 1) := by decide +kernel
theorem dX0_init_42 : decode cX0_init 42 = .ok (.iload 5, 2) := by decide +kernel
theorem dX0_init_44 : decode cX0_init 44 = .ok (.iadd, 1) := by decide +kernel
theorem dX0_init_45 : decode cX0_init 45 = .ok (.putfield 27, 3) := by decide +kernel
theorem dX0_init_48 : decode cX0_init 48 = .ok (.return_, 1) := by decide +kernel
theorem dX1_init_0 : decode cX1_init 0 = .ok (.aload_n 0, 1) := by decide +kernel
theorem dX1_init_1 : decode cX1_init 1 = .ok (.invokespecial 3, 3) := by decide +kernel
theorem dX1_init_4 : decode cX1_init 4 = .ok (.aload_n 0, 1) := by decide +kernel
theorem dX1_init_5 : decode cX1_init 5 = .ok (.iconst 0, 1) := by decide +kernel
theorem dX1_init_6 : decode cX1_init 6 = .ok (.putfield 9, 3) := by decide +kernel
theorem dX1_init_9 : decode cX1_init 9 = .ok (.aload_n 0, 1) := by decide +kernel
theorem dX1_init_10 : decode cX1_init 10 = .ok (.iconst (-1), 1) := by decide +kernel
theorem dX1_init_11 : decode cX1_init 11 = .ok (.putfield 15, 3) := by decide +kernel
theorem dX1_init_14 : decode cX1_init 14 = .ok (.aload_n 0, 1) := by decide +kernel
theorem dX1_init_15 : decode cX1_init 15 = .ok (.iconst (-1), 1) := by decide +kernel
theorem dX1_init_16 : decode cX1_init 16 = .ok (.putfield 18, 3) := by decide +kernel
theorem dX1_init_19 : decode cX1_init 19 = .ok (.aload_n 0, 1) := by decide +kernel
theorem dX1_init_20 : decode cX1_init 20 = .ok (.iconst (-1), 1) := by decide +kernel
theorem dX1_init_21 : decode cX1_init 21 = .ok (.putfield 21, 3) := by decide +kernel
theorem dX1_init_24 : decode cX1_init 24 = .ok (.aload_n 0, 1) := by decide +kernel
theorem dX1_init_25 : decode cX1_init 25 = .ok (.iload_n 1, 1) := by decide +kernel
theorem dX1_init_26 : decode cX1_init 26 = .ok (.putfield 24, 3) := by decide +kernel
theorem dX1_init_29 : decode cX1_init 29 = .ok (.aload_n 0, 1) := by decide +kernel
theorem dX1_init_30 : decode cX1_init 30 = .ok (.iload_n 2, 1) := by decide +kernel
theorem dX1_init_31 : decode cX1_init 31 = .ok (.sipush 10000, 3) := by decide +kernel
theorem dX1_init_34 : decode cX1_init 34 = .ok (.idiv, 1) := by decide +kernel
theorem dX1_init_35 : decode cX1_init 35 = .ok (.putfield 27, 3) := by decide +kernel
theorem dX1_init_38 : decode cX1_init 38 = .ok (.aload_n 0, 1) := by decide +kernel
theorem dX1_init_39 : decode cX1_init 39 = .ok (.iload_n 2, 1) := by decide +kernel
theorem dX1_init_40 : decode cX1_init 40 = .ok (.bipush 100, 2) := by decide +kernel
theorem dX1_init_42 : decode cX1_init 42 = .ok (.idiv, 1) := by decide +kernel
theorem dX1_init_43 : decode cX1_init 43 = .ok (.bipush 100, 2) := by decide +kernel
theorem dX1_init_45 : decode cX1_init 45 = .ok (.irem, 1) := by decide +kernel
theorem dX1_init_46 : decode cX1_init 46 = .ok (.putfield 30, 3) := by decide +kernel
theorem dX1_init_49 : decode cX1_init 49 = .ok (.aload_n 0, 1) := by decide +kernel
theorem dX1_init_50 : decode cX1_init 50 = .ok (.iload_n 2, 1) := by decide +kernel
theorem dX1_init_51 : decode cX1_init 51 = .ok (.bipush 100, 2) := by decide +kernel
theorem dX1_init_53 : decode cX1_init 53 = .ok (.irem, 1) := by decide +kernel
theorem dX1_init_54 : decode cX1_init 54 = .ok (.putfield 33, 3) := by decide +kernel
theorem dX1_init_57 : decode cX1_init 57 = .ok (.aload_n 0, 1) := by decide +kernel
theorem dX1_init_58 : decode cX1_init 58 = .ok (.iload_n 3, 1) := by decide +kernel
theorem dX1_init_59 : decode cX1_init 59 = .ok (.putfield 36, 3) := by decide +kernel
theorem dX1_init_62 : decode cX1_init 62 = .ok (.aload_n 0, 1) := by decide +kernel
theorem dX1_init_63 : decode cX1_init 63 = .ok (.iload 4, 2) := by decide +kernel
theorem dX1_init_65 : decode cX1_init 65 = .ok (.putfield 39, 3) := by decide +kernel
theorem dX1_init_68 : decode cX1_init 68 = .ok (.aload_n 0, 1) := by decide +kernel
theorem dX1_init_69 : decode cX1_init 69 = .ok (.iload 5, 2) := by decide +kernel
theorem dX1_init_71 : decode cX1_init 71 = .ok (.putfield 42, 3) := by decide +kernel
theorem dX1_init_74 : decode cX1_init 74 = .ok (.return_, 1) := by decide +kernel
theorem dX1_hangsAlone_0 : decode cX1_hangsAlone 0 = .ok (.aload_n 0, 1) := by decide +kernel
theorem dX1_hangsAlone_1 : decode cX1_hangsAlone 1 = .ok (.getfield 27, 3) := by decide +kernel
theorem dX1_hangsAlone_4 : decode cX1_hangsAlone 4 = .ok (.iconst 3, 1) := by decide +kernel
theorem dX1_hangsAlone_5 : decode cX1_hangsAlone 5 = .ok (.if_icmp .eq 11, 3) := by decide +kernel
theorem dX1_hangsAlone_8 : decode cX1_hangsAlone 8 = .ok (.aload_n 0, 1) := by decide +kernel
theorem dX1_hangsAlone_9 : decode cX1_hangsAlone 9 = .ok (.getfield 27, 3) := by decide +kernel
theorem dX1_hangsAlone_12 : decode cX1_hangsAlone 12 = .ok (.iconst 1, 1) := by decide +kernel
theorem dX1_hangsAlone_13 : decode cX1_hangsAlone 13 = .ok (.if_icmp .ne 7, 3) := by decide +kernel
theorem dX1_hangsAlone_16 : decode cX1_hangsAlone 16 = .ok (.iconst 1, 1) := by decide +kernel
theorem dX1_hangsAlone_17 : decode cX1_hangsAlone 17 = .ok (.goto 4, 3) := by decide +kernel
theorem dX1_hangsAlone_20 : decode cX1_hangsAlone 20 = .ok (.iconst 0, 1) := by decide +kernel
theorem dX1_hangsAlone_21 : decode cX1_hangsAlone 21 = .ok (.ireturn, 1) := by decide +kernel
theorem dX1_canBeHung_0 : decode cX1_canBeHung 0 = .ok (.aload_n 0, 1) := by decide +kernel
theorem dX1_canBeHung_1 : decode cX1_canBeHung 1 = .ok (.getfield 9, 3) := by decide +kernel
theorem dX1_canBeHung_4 : decode cX1_canBeHung 4 = .ok (.ifCond .ne 23, 3) := by decide +kernel
theorem dX1_canBeHung_7 : decode cX1_canBeHung 7 = .ok (.aload_n 0, 1) := by decide +kernel
theorem dX1_canBeHung_8 : decode cX1_canBeHung 8 = .ok (.getfield 39, 3) := by decide +kernel
theorem dX1_canBeHung_11 : decode cX1_canBeHung 11 = .ok (.iload_n 1, 1) := by decide +kernel
theorem dX1_canBeHung_12 : decode cX1_canBeHung 12 = .ok (.if_icmp .gt 15, 3) := by decide +kernel
theorem dX1_canBeHung_15 : decode cX1_canBeHung 15 = .ok (.aload_n 0, 1) := by decide +kernel
theorem dX1_canBeHung_16 : decode cX1_canBeHung 16 = .ok (.getfield 27, 3) := by decide +kernel
theorem dX1_canBeHung_19 : decode cX1_canBeHung 19 = .ok (.iconst 4, 1) := by decide +kernel
theorem dX1_canBeHung_20 : decode cX1_canBeHung 20 = .ok (.if_icmp .eq 7, 3) := by decide +kernel
theorem dX1_canBeHung_23 : decode cX1_canBeHung 23 = .ok (.iconst 1, 1) := by decide +kernel
theorem dX1_canBeHung_24 : decode cX1_canBeHung 24 = .ok (.goto 4, 3) := by decide +kernel
theorem dX1_canBeHung_27 : decode cX1_canBeHung 27 = .ok (.iconst 0, 1) := by decide +kernel
theorem dX1_canBeHung_28 : decode cX1_canBeHung 28 = .ok (.ireturn, 1) := by decide +kernel
theorem dX1_waitsFor_0 : decode cX1_waitsFor 0 = .ok (.aload_n 0, 1) := by decide +kernel
theorem dX1_waitsFor_1 : decode cX1_waitsFor 1 = .ok (.getfield 9, 3) := by decide +kernel
theorem dX1_waitsFor_4 : decode cX1_waitsFor 4 = .ok (.ifCond .ne 15, 3) := by decide +kernel
theorem dX1_waitsFor_7 : decode cX1_waitsFor 7 = .ok (.aload_n 0, 1) := by decide +kernel
theorem dX1_waitsFor_8 : decode cX1_waitsFor 8 = .ok (.getfield 30, 3) := by decide +kernel
theorem dX1_waitsFor_11 : decode cX1_waitsFor 11 = .ok (.iload_n 1, 1) := by decide +kernel
theorem dX1_waitsFor_12 : decode cX1_waitsFor 12 = .ok (.if_icmp .ne 7, 3) := by decide +kernel
theorem dX1_waitsFor_15 : decode cX1_waitsFor 15 = .ok (.iconst 1, 1) := by decide +kernel
theorem dX1_waitsFor_16 : decode cX1_waitsFor 16 = .ok (.goto 4, 3) := by decide +kernel
theorem dX1_waitsFor_19 : decode cX1_waitsFor 19 = .ok (.iconst 0, 1) := by decide +kernel
theorem dX1_waitsFor_20 : decode cX1_waitsFor 20 = .ok (.ireturn, 1) := by decide +kernel
theorem dX1_shelveBy_0 : decode cX1_shelveBy 0 = .ok (.aload_n 0, 1) := by decide +kernel
theorem dX1_shelveBy_1 : decode cX1_shelveBy 1 = .ok (.getfield 9, 3) := by decide +kernel
theorem dX1_shelveBy_4 : decode cX1_shelveBy 4 = .ok (.iconst 2, 1) := by decide +kernel
theorem dX1_shelveBy_5 : decode cX1_shelveBy 5 = .ok (.if_icmp .ne 24, 3) := by decide +kernel
theorem dX1_shelveBy_8 : decode cX1_shelveBy 8 = .ok (.aload_n 0, 1) := by decide +kernel
theorem dX1_shelveBy_9 : decode cX1_shelveBy 9 = .ok (.getfield 45, 3) := by decide +kernel
theorem dX1_shelveBy_12 : decode cX1_shelveBy 12 = .ok (.iload_n 1, 1) := by decide +kernel
theorem dX1_shelveBy_13 : decode cX1_shelveBy 13 = .ok (.if_icmp .gt 16, 3) := by decide +kernel
theorem dX1_shelveBy_16 : decode cX1_shelveBy 16 = .ok (.aload_n 0, 1) := by decide +kernel
theorem dX1_shelveBy_17 : decode cX1_shelveBy 17 = .ok (.iconst 3, 1) := by decide +kernel
theorem dX1_shelveBy_18 : decode cX1_shelveBy 18 = .ok (.putfield 9, 3) := by decide +kernel
theorem dX1_shelveBy_21 : decode cX1_shelveBy 21 = .ok (.aload_n 0, 1) := by decide +kernel
theorem dX1_shelveBy_22 : decode cX1_shelveBy 22 = .ok (.aload_n 0, 1) := by decide +kernel
theorem dX1_shelveBy_23 : decode cX1_shelveBy 23 = .ok (.getfield 45, 3) := by decide +kernel
theorem dX1_shelveBy_26 : decode cX1_shelveBy 26 = .ok (.putfield 21, 3) := by decide +kernel
theorem dX1_shelveBy_29 : decode cX1_shelveBy 29 = .ok (.return_, 1) := by decide +kernel
theorem dX1_isLate_0 : decode cX1_isLate 0 = .ok (.aload_n 0, 1) := by decide +kernel
theorem dX1_isLate_1 : decode cX1_isLate 1 = .ok (.getfield 9, 3) := by decide +kernel
theorem dX1_isLate_4 : decode cX1_isLate 4 = .ok (.iconst 3, 1) := by decide +kernel
theorem dX1_isLate_5 : decode cX1_isLate 5 = .ok (.if_icmp .ne 18, 3) := by decide +kernel
theorem dX1_isLate_8 : decode cX1_isLate 8 = .ok (.aload_n 0, 1) := by decide +kernel
theorem dX1_isLate_9 : decode cX1_isLate 9 = .ok (.getfield 21, 3) := by decide +kernel
theorem dX1_isLate_12 : decode cX1_isLate 12 = .ok (.aload_n 0, 1) := by decide +kernel
theorem dX1_isLate_13 : decode cX1_isLate 13 = .ok (.getfield 42, 3) := by decide +kernel
theorem dX1_isLate_16 : decode cX1_isLate 16 = .ok (.if_icmp .le 7, 3) := by decide +kernel
theorem dX1_isLate_19 : decode cX1_isLate 19 = .ok (.iconst 1, 1) := by decide +kernel
theorem dX1_isLate_20 : decode cX1_isLate 20 = .ok (.goto 4, 3) := by decide +kernel
theorem dX1_isLate_23 : decode cX1_isLate 23 = .ok (.iconst 0, 1) := by decide +kernel
theorem dX1_isLate_24 : decode cX1_isLate 24 = .ok (.ireturn, 1) := by decide +kernel
theorem dX2_init_0 : decode cX2_init 0 = .ok (.aload_n 0, 1) := by decide +kernel
theorem dX2_init_1 : decode cX2_init 1 = .ok (.invokespecial 3, 3) := by decide +kernel
theorem dX2_init_4 : decode cX2_init 4 = .ok (.aload_n 0, 1) := by decide +kernel
theorem dX2_init_5 : decode cX2_init 5 = .ok (.new 9, 3) := by decide +kernel
theorem dX2_init_8 : decode cX2_init 8 = .ok (.dup, 1) := by decide +kernel
theorem dX2_init_9 : decode cX2_init 9 = .ok (.invokespecial 11, 3) := by decide +kernel
theorem dX2_init_12 : decode cX2_init 12 = .ok (.putfield 12, 3) := by decide +kernel
theorem dX2_init_15 : decode cX2_init 15 = .ok (.aload_n 0, 1) := by decide +kernel
theorem dX2_init_16 : decode cX2_init 16 = .ok (.iload_n 1, 1) := by decide +kernel
theorem dX2_init_17 : decode cX2_init 17 = .ok (.putfield 18, 3) := by decide +kernel
theorem dX2_init_20 : decode cX2_init 20 = .ok (.aload_n 0, 1) := by decide +kernel
theorem dX2_init_21 : decode cX2_init 21 = .ok (.iload_n 2, 1) := by decide +kernel
theorem dX2_init_22 : decode cX2_init 22 = .ok (.putfield 22, 3) := by decide +kernel
theorem dX2_init_25 : decode cX2_init 25 = .ok (.aload_n 0, 1) := by decide +kernel
theorem dX2_init_26 : decode cX2_init 26 = .ok (.iload_n 2, 1) := by decide +kernel
theorem dX2_init_27 : decode cX2_init 27 = .ok (.putfield 25, 3) := by decide +kernel
theorem dX2_init_30 : decode cX2_init 30 = .ok (.return_, 1) := by decide +kernel
theorem dX2_strength_0 : decode cX2_strength 0 = .ok (.iconst 0, 1) := by decide +kernel
theorem dX2_strength_1 : decode cX2_strength 1 = .ok (.aload_n 0, 1) := by decide +kernel
theorem dX2_strength_2 : decode cX2_strength 2 = .ok (.getfield 18, 3) := by decide +kernel
theorem dX2_strength_5 : decode cX2_strength 5 = .ok (.iconst 4, 1) := by decide +kernel
theorem dX2_strength_6 : decode cX2_strength 6 = .ok (.iload_n 1, 1) := by decide +kernel
theorem dX2_strength_7 : decode cX2_strength 7 = .ok (.imul, 1) := by decide +kernel
theorem dX2_strength_8 : decode cX2_strength 8 = .ok (.isub, 1) := by decide +kernel
theorem dX2_strength_9 : decode cX2_strength 9 = .ok (.iload_n 2, 1) := by decide +kernel
theorem dX2_strength_10 : decode cX2_strength 10 = .ok (.isub, 1) := by decide +kernel
theorem dX2_strength_11 : decode cX2_strength 11 = .ok (.invokestatic 28, 3) := by decide +kernel
theorem dX2_strength_14 : decode cX2_strength 14 = .ok (.ireturn, 1) := by decide +kernel
theorem dX2_takes_0 : decode cX2_takes 0 = .ok (.aload_n 0, 1) := by decide +kernel
theorem dX2_takes_1 : decode cX2_takes 1 = .ok (.getfield 12, 3) := by decide +kernel
theorem dX2_takes_4 : decode cX2_takes 4 = .ok (.invokevirtual 34, 3) := by decide +kernel
theorem dX2_takes_7 : decode cX2_takes 7 = .ok (.ifCond .eq 5, 3) := by decide +kernel
theorem dX2_takes_10 : decode cX2_takes 10 = .ok (.iconst 1, 1) := by decide +kernel
theorem dX2_takes_11 : decode cX2_takes 11 = .ok (.ireturn, 1) := by decide +kernel
theorem dX2_takes_12 : decode cX2_takes 12 = .ok (.aload_n 1, 1) := by decide +kernel
theorem dX2_takes_13 : decode cX2_takes 13 = .ok (.invokevirtual 38, 3) := by decide +kernel
theorem dX2_takes_16 : decode cX2_takes 16 = .ok (.ifCond .ne 31, 3) := by decide +kernel
theorem dX2_takes_19 : decode cX2_takes 19 = .ok (.aload_n 0, 1) := by decide +kernel
theorem dX2_takes_20 : decode cX2_takes 20 = .ok (.getfield 12, 3) := by decide +kernel
theorem dX2_takes_23 : decode cX2_takes 23 = .ok (.iconst 0, 1) := by decide +kernel
theorem dX2_takes_24 : decode cX2_takes 24 = .ok (.invokevirtual 43, 3) := by decide +kernel
theorem dX2_takes_27 : decode cX2_takes 27 = .ok (.checkcast 39, 3) := by decide +kernel
theorem dX2_takes_30 : decode cX2_takes 30 = .ok (.invokevirtual 38, 3) := by decide +kernel
theorem dX2_takes_33 : decode cX2_takes 33 = .ok (.ifCond .ne 14, 3) := by decide +kernel
theorem dX2_takes_36 : decode cX2_takes 36 = .ok (.aload_n 0, 1) := by decide +kernel
theorem dX2_takes_37 : decode cX2_takes 37 = .ok (.aload_n 1, 1) := by decide +kernel
theorem dX2_takes_38 : decode cX2_takes 38 = .ok (.getfield 47, 3) := by decide +kernel
theorem dX2_takes_41 : decode cX2_takes 41 = .ok (.invokevirtual 50, 3) := by decide +kernel
theorem dX2_takes_44 : decode cX2_takes 44 = .ok (.ifCond .eq 5, 3) := by decide +kernel
theorem dX2_takes_47 : decode cX2_takes 47 = .ok (.iconst 0, 1) := by decide +kernel
theorem dX2_takes_48 : decode cX2_takes 48 = .ok (.ireturn, 1) := by decide +kernel
theorem dX2_takes_49 : decode cX2_takes 49 = .ok (.aload_n 0, 1) := by decide +kernel
theorem dX2_takes_50 : decode cX2_takes 50 = .ok (.getfield 12, 3) := by decide +kernel
theorem dX2_takes_53 : decode cX2_takes 53 = .ok (.invokestatic 54, 3) := by decide +kernel
theorem dX2_takes_56 : decode cX2_takes 56 = .ok (.aload_n 1, 1) := by decide +kernel
theorem dX2_takes_57 : decode cX2_takes 57 = .ok (.getfield 58, 3) := by decide +kernel
theorem dX2_takes_60 : decode cX2_takes 60 = .ok (.iadd, 1) := by decide +kernel
theorem dX2_takes_61 : decode cX2_takes 61 = .ok (.bipush 9, 2) := by decide +kernel
theorem dX2_takes_63 : decode cX2_takes 63 = .ok (.if_icmp .gt 7, 3) := by decide +kernel
theorem dX2_takes_66 : decode cX2_takes 66 = .ok (.iconst 1, 1) := by decide +kernel
theorem dX2_takes_67 : decode cX2_takes 67 = .ok (.goto 4, 3) := by decide +kernel
theorem dX2_takes_70 : decode cX2_takes 70 = .ok (.iconst 0, 1) := by decide +kernel
theorem dX2_takes_71 : decode cX2_takes 71 = .ok (.ireturn, 1) := by decide +kernel
theorem dX2_hangsForOther_0 : decode cX2_hangsForOther 0 = .ok (.aload_n 0, 1) := by decide +kernel
theorem dX2_hangsForOther_1 : decode cX2_hangsForOther 1 = .ok (.getfield 12, 3) := by decide +kernel
theorem dX2_hangsForOther_4 : decode cX2_hangsForOther 4 = .ok (.invokevirtual 34, 3) := by decide +kernel
theorem dX2_hangsForOther_7 : decode cX2_hangsForOther 7 = .ok (.ifCond .ne 25, 3) := by decide +kernel
theorem dX2_hangsForOther_10 : decode cX2_hangsForOther 10 = .ok (.aload_n 0, 1) := by decide +kernel
theorem dX2_hangsForOther_11 : decode cX2_hangsForOther 11 = .ok (.getfield 12, 3) := by decide +kernel
theorem dX2_hangsForOther_14 : decode cX2_hangsForOther 14 = .ok (.iconst 0, 1) := by decide +kernel
theorem dX2_hangsForOther_15 : decode cX2_hangsForOther 15 = .ok (.invokevirtual 43, 3) := by decide +kernel
theorem dX2_hangsForOther_18 : decode cX2_hangsForOther 18 = .ok (.checkcast 39, 3) := by decide +kernel
theorem dX2_hangsForOther_21 : decode cX2_hangsForOther 21 = .ok (.getfield 47, 3) := by decide +kernel
theorem dX2_hangsForOther_24 : decode cX2_hangsForOther 24 = .ok (.iload_n 1, 1) := by decide +kernel
theorem dX2_hangsForOther_25 : decode cX2_hangsForOther 25 = .ok (.if_icmp .eq 7, 3) := by decide +kernel
theorem dX2_hangsForOther_28 : decode cX2_hangsForOther 28 = .ok (.iconst 1, 1) := by decide +kernel
theorem dX2_hangsForOther_29 : decode cX2_hangsForOther 29 = .ok (.goto 4, 3) := by decide +kernel
theorem dX2_hangsForOther_32 : decode cX2_hangsForOther 32 = .ok (.iconst 0, 1) := by decide +kernel
theorem dX2_hangsForOther_33 : decode cX2_hangsForOther 33 = .ok (.ireturn, 1) := by decide +kernel
theorem dX2_carries_0 : decode cX2_carries 0 = .ok (.iconst 0, 1) := by decide +kernel
theorem dX2_carries_1 : decode cX2_carries 1 = .ok (.istore_n 2, 1) := by decide +kernel
theorem dX2_carries_2 : decode cX2_carries 2 = .ok (.iload_n 2, 1) := by decide +kernel
theorem dX2_carries_3 : decode cX2_carries 3 = .ok (.aload_n 0, 1) := by decide +kernel
theorem dX2_carries_4 : decode cX2_carries 4 = .ok (.getfield 12, 3) := by decide +kernel
theorem dX2_carries_7 : decode cX2_carries 7 = .ok (.invokevirtual 61, 3) := by decide +kernel
theorem dX2_carries_10 : decode cX2_carries 10 = .ok (.if_icmp .ge 29, 3) := by decide +kernel
theorem dX2_carries_13 : decode cX2_carries 13 = .ok (.aload_n 0, 1) := by decide +kernel
theorem dX2_carries_14 : decode cX2_carries 14 = .ok (.getfield 12, 3) := by decide +kernel
theorem dX2_carries_17 : decode cX2_carries 17 = .ok (.iload_n 2, 1) := by decide +kernel
theorem dX2_carries_18 : decode cX2_carries 18 = .ok (.invokevirtual 43, 3) := by decide +kernel
theorem dX2_carries_21 : decode cX2_carries 21 = .ok (.checkcast 39, 3) := by decide +kernel
theorem dX2_carries_24 : decode cX2_carries 24 = .ok (.getfield 65, 3) := by decide +kernel
theorem dX2_carries_27 : decode cX2_carries 27 = .ok (.iload_n 1, 1) := by decide +kernel
theorem dX2_carries_28 : decode cX2_carries 28 = .ok (.if_icmp .ne 5, 3) := by decide +kernel
theorem dX2_carries_31 : decode cX2_carries 31 = .ok (.iconst 1, 1) := by decide +kernel
theorem dX2_carries_32 : decode cX2_carries 32 = .ok (.ireturn, 1) := by decide +kernel
theorem dX2_carries_33 : decode cX2_carries 33 = .ok (.iinc 2 1, 3) := by decide +kernel
theorem dX2_carries_36 : decode cX2_carries 36 = .ok (.goto (-34), 3) := by decide +kernel
theorem dX2_carries_39 : decode cX2_carries 39 = .ok (.iconst 0, 1) := by decide +kernel
theorem dX2_carries_40 : decode cX2_carries 40 = .ok (.ireturn, 1) := by decide +kernel
theorem dX2_greatestKind_0 : decode cX2_greatestKind 0 = .ok (.iconst 0, 1) := by decide +kernel
theorem dX2_greatestKind_1 : decode cX2_greatestKind 1 = .ok (.istore_n 1, 1) := by decide +kernel
theorem dX2_greatestKind_2 : decode cX2_greatestKind 2 = .ok (.iconst 0, 1) := by decide +kernel
theorem dX2_greatestKind_3 : decode cX2_greatestKind 3 = .ok (.istore_n 2, 1) := by decide +kernel
theorem dX2_greatestKind_4 : decode cX2_greatestKind 4 = .ok (.iload_n 2, 1) := by decide +kernel
theorem dX2_greatestKind_5 : decode cX2_greatestKind 5 = .ok (.aload_n 0, 1) := by decide +kernel
theorem dX2_greatestKind_6 : decode cX2_greatestKind 6 = .ok (.getfield 12, 3) := by decide +kernel
theorem dX2_greatestKind_9 : decode cX2_greatestKind 9 = .ok (.invokevirtual 61, 3) := by decide +kernel
theorem dX2_greatestKind_12 : decode cX2_greatestKind 12 = .ok (.if_icmp .ge 28, 3) := by decide +kernel
theorem dX2_greatestKind_15 : decode cX2_greatestKind 15 = .ok (.iload_n 1, 1) := by decide +kernel
theorem dX2_greatestKind_16 : decode cX2_greatestKind 16 = .ok (.aload_n 0, 1) := by decide +kernel
theorem dX2_greatestKind_17 : decode cX2_greatestKind 17 = .ok (.getfield 12, 3) := by decide +kernel
theorem dX2_greatestKind_20 : decode cX2_greatestKind 20 = .ok (.iload_n 2, 1) := by decide +kernel
theorem dX2_greatestKind_21 : decode cX2_greatestKind 21 = .ok (.invokevirtual 43, 3) := by decide +kernel
theorem dX2_greatestKind_24 : decode cX2_greatestKind 24 = .ok (.checkcast 39, 3) := by decide +kernel
theorem dX2_greatestKind_27 : decode cX2_greatestKind 27 = .ok (.getfield 65, 3) := by decide +kernel
theorem dX2_greatestKind_30 : decode cX2_greatestKind 30 = .ok (.invokestatic 28, 3) := by decide +kernel
theorem dX2_greatestKind_33 : decode cX2_greatestKind 33 = .ok (.istore_n 1, 1) := by decide +kernel
theorem dX2_greatestKind_34 : decode cX2_greatestKind 34 = .ok (.iinc 2 1, 3) := by decide +kernel
theorem dX2_greatestKind_37 : decode cX2_greatestKind 37 = .ok (.goto (-33), 3) := by decide +kernel
theorem dX2_greatestKind_40 : decode cX2_greatestKind 40 = .ok (.iload_n 1, 1) := by decide +kernel
theorem dX2_greatestKind_41 : decode cX2_greatestKind 41 = .ok (.ireturn, 1) := by decide +kernel
theorem dX2_spoils_0 : decode cX2_spoils 0 = .ok (.iconst 0, 1) := by decide +kernel
theorem dX2_spoils_1 : decode cX2_spoils 1 = .ok (.istore_n 2, 1) := by decide +kernel
theorem dX2_spoils_2 : decode cX2_spoils 2 = .ok (.iload_n 2, 1) := by decide +kernel
theorem dX2_spoils_3 : decode cX2_spoils 3 = .ok (.aload_n 0, 1) := by decide +kernel
theorem dX2_spoils_4 : decode cX2_spoils 4 = .ok (.getfield 12, 3) := by decide +kernel
theorem dX2_spoils_7 : decode cX2_spoils 7 = .ok (.invokevirtual 61, 3) := by decide +kernel
theorem dX2_spoils_10 : decode cX2_spoils 10 = .ok (.if_icmp .ge 42, 3) := by decide +kernel
theorem dX2_spoils_13 : decode cX2_spoils 13 = .ok (.aload_n 0, 1) := by decide +kernel
theorem dX2_spoils_14 : decode cX2_spoils 14 = .ok (.getfield 12, 3) := by decide +kernel
theorem dX2_spoils_17 : decode cX2_spoils 17 = .ok (.iload_n 2, 1) := by decide +kernel
theorem dX2_spoils_18 : decode cX2_spoils 18 = .ok (.invokevirtual 43, 3) := by decide +kernel
theorem dX2_spoils_21 : decode cX2_spoils 21 = .ok (.checkcast 39, 3) := by decide +kernel
theorem dX2_spoils_24 : decode cX2_spoils 24 = .ok (.astore_n 3, 1) := by decide +kernel
theorem dX2_spoils_25 : decode cX2_spoils 25 = .ok (.aload_n 3, 1) := by decide +kernel
theorem dX2_spoils_26 : decode cX2_spoils 26 = .ok (.getfield 65, 3) := by decide +kernel
theorem dX2_spoils_29 : decode cX2_spoils 29 = .ok (.iconst 2, 1) := by decide +kernel
theorem dX2_spoils_30 : decode cX2_spoils 30 = .ok (.if_icmp .ne 16, 3) := by decide +kernel
theorem dX2_spoils_33 : decode cX2_spoils 33 = .ok (.iload_n 1, 1) := by decide +kernel
theorem dX2_spoils_34 : decode cX2_spoils 34 = .ok (.aload_n 3, 1) := by decide +kernel
theorem dX2_spoils_35 : decode cX2_spoils 35 = .ok (.getfield 68, 3) := by decide +kernel
theorem dX2_spoils_38 : decode cX2_spoils 38 = .ok (.isub, 1) := by decide +kernel
theorem dX2_spoils_39 : decode cX2_spoils 39 = .ok (.bipush 90, 2) := by decide +kernel
theorem dX2_spoils_41 : decode cX2_spoils 41 = .ok (.if_icmp .le 5, 3) := by decide +kernel
theorem dX2_spoils_44 : decode cX2_spoils 44 = .ok (.iconst 1, 1) := by decide +kernel
theorem dX2_spoils_45 : decode cX2_spoils 45 = .ok (.ireturn, 1) := by decide +kernel
theorem dX2_spoils_46 : decode cX2_spoils 46 = .ok (.iinc 2 1, 3) := by decide +kernel
theorem dX2_spoils_49 : decode cX2_spoils 49 = .ok (.goto (-47), 3) := by decide +kernel
theorem dX2_spoils_52 : decode cX2_spoils 52 = .ok (.iconst 0, 1) := by decide +kernel
theorem dX2_spoils_53 : decode cX2_spoils 53 = .ok (.ireturn, 1) := by decide +kernel
theorem dX2_unhook_0 : decode cX2_unhook 0 = .ok (.iconst 0, 1) := by decide +kernel
theorem dX2_unhook_1 : decode cX2_unhook 1 = .ok (.istore_n 2, 1) := by decide +kernel
theorem dX2_unhook_2 : decode cX2_unhook 2 = .ok (.iload_n 2, 1) := by decide +kernel
theorem dX2_unhook_3 : decode cX2_unhook 3 = .ok (.aload_n 0, 1) := by decide +kernel
theorem dX2_unhook_4 : decode cX2_unhook 4 = .ok (.getfield 12, 3) := by decide +kernel
theorem dX2_unhook_7 : decode cX2_unhook 7 = .ok (.invokevirtual 61, 3) := by decide +kernel
theorem dX2_unhook_10 : decode cX2_unhook 10 = .ok (.if_icmp .ge 31, 3) := by decide +kernel
theorem dX2_unhook_13 : decode cX2_unhook 13 = .ok (.aload_n 0, 1) := by decide +kernel
theorem dX2_unhook_14 : decode cX2_unhook 14 = .ok (.getfield 12, 3) := by decide +kernel
theorem dX2_unhook_17 : decode cX2_unhook 17 = .ok (.iload_n 2, 1) := by decide +kernel
theorem dX2_unhook_18 : decode cX2_unhook 18 = .ok (.invokevirtual 43, 3) := by decide +kernel
theorem dX2_unhook_21 : decode cX2_unhook 21 = .ok (.aload_n 1, 1) := by decide +kernel
theorem dX2_unhook_22 : decode cX2_unhook 22 = .ok (.if_acmp .ne 13, 3) := by decide +kernel
theorem dX2_unhook_25 : decode cX2_unhook 25 = .ok (.aload_n 0, 1) := by decide +kernel
theorem dX2_unhook_26 : decode cX2_unhook 26 = .ok (.getfield 12, 3) := by decide +kernel
theorem dX2_unhook_29 : decode cX2_unhook 29 = .ok (.iload_n 2, 1) := by decide +kernel
theorem dX2_unhook_30 : decode cX2_unhook 30 = .ok (.invokevirtual 71, 3) := by decide +kernel
theorem dX2_unhook_33 : decode cX2_unhook 33 = .ok (.pop, 1) := by decide +kernel
theorem dX2_unhook_34 : decode cX2_unhook 34 = .ok (.return_, 1) := by decide +kernel
theorem dX2_unhook_35 : decode cX2_unhook 35 = .ok (.iinc 2 1, 3) := by decide +kernel
theorem dX2_unhook_38 : decode cX2_unhook 38 = .ok (.goto (-36), 3) := by decide +kernel
theorem dX2_unhook_41 : decode cX2_unhook 41 = .ok (.return_, 1) := by decide +kernel
theorem dX3_init_0 : decode cX3_init 0 = .ok (.aload_n 0, 1) := by decide +kernel
theorem dX3_init_1 : decode cX3_init 1 = .ok (.invokespecial 3, 3) := by decide +kernel
theorem dX3_init_4 : decode cX3_init 4 = .ok (.aload_n 0, 1) := by decide +kernel
theorem dX3_init_5 : decode cX3_init 5 = .ok (.iconst 5, 1) := by decide +kernel
theorem dX3_init_6 : decode cX3_init 6 = .ok (.anewarray 9, 3) := by decide +kernel
theorem dX3_init_9 : decode cX3_init 9 = .ok (.putfield 11, 3) := by decide +kernel
theorem dX3_init_12 : decode cX3_init 12 = .ok (.aload_n 0, 1) := by decide +kernel
theorem dX3_init_13 : decode cX3_init 13 = .ok (.iconst 5, 1) := by decide +kernel
theorem dX3_init_14 : decode cX3_init 14 = .ok (.newarray .int, 2) := by decide +kernel
theorem dX3_init_16 : decode cX3_init 16 = .ok (.putfield 17, 3) := by decide +kernel
theorem dX3_init_19 : decode cX3_init 19 = .ok (.aload_n 0, 1) := by decide +kernel
theorem dX3_init_20 : decode cX3_init 20 = .ok (.iconst 5, 1) := by decide +kernel
theorem dX3_init_21 : decode cX3_init 21 = .ok (.newarray .int, 2) := by decide +kernel
theorem dX3_init_23 : decode cX3_init 23 = .ok (.putfield 21, 3) := by decide +kernel
theorem dX3_init_26 : decode cX3_init 26 = .ok (.aload_n 0, 1) := by decide +kernel
theorem dX3_init_27 : decode cX3_init 27 = .ok (.bipush 32, 2) := by decide +kernel
theorem dX3_init_29 : decode cX3_init 29 = .ok (.newarray .int, 2) := by decide +kernel
theorem dX3_init_31 : decode cX3_init 31 = .ok (.putfield 24, 3) := by decide +kernel
theorem dX3_init_34 : decode cX3_init 34 = .ok (.return_, 1) := by decide +kernel
theorem dX3_want_0 : decode cX3_want 0 = .ok (.aload_n 0, 1) := by decide +kernel
theorem dX3_want_1 : decode cX3_want 1 = .ok (.getfield 27, 3) := by decide +kernel
theorem dX3_want_4 : decode cX3_want 4 = .ok (.iconst 5, 1) := by decide +kernel
theorem dX3_want_5 : decode cX3_want 5 = .ok (.if_icmp .lt 4, 3) := by decide +kernel
theorem dX3_want_8 : decode cX3_want 8 = .ok (.return_, 1) := by decide +kernel
theorem dX3_want_9 : decode cX3_want 9 = .ok (.aload_n 0, 1) := by decide +kernel
theorem dX3_want_10 : decode cX3_want 10 = .ok (.getfield 27, 3) := by decide +kernel
theorem dX3_want_13 : decode cX3_want 13 = .ok (.istore_n 2, 1) := by decide +kernel
theorem dX3_want_14 : decode cX3_want 14 = .ok (.iload_n 2, 1) := by decide +kernel
theorem dX3_want_15 : decode cX3_want 15 = .ok (.ifCond .le 41, 3) := by decide +kernel
theorem dX3_want_18 : decode cX3_want 18 = .ok (.aload_n 0, 1) := by decide +kernel
theorem dX3_want_19 : decode cX3_want 19 = .ok (.getfield 11, 3) := by decide +kernel
theorem dX3_want_22 : decode cX3_want 22 = .ok (.iload_n 2, 1) := by decide +kernel
theorem dX3_want_23 : decode cX3_want 23 = .ok (.iconst 1, 1) := by decide +kernel
theorem dX3_want_24 : decode cX3_want 24 = .ok (.isub, 1) := by decide +kernel
theorem dX3_want_25 : decode cX3_want 25 = .ok (.aaload, 1) := by decide +kernel
theorem dX3_want_26 : decode cX3_want 26 = .ok (.getfield 31, 3) := by decide +kernel
theorem dX3_want_29 : decode cX3_want 29 = .ok (.aload_n 1, 1) := by decide +kernel
theorem dX3_want_30 : decode cX3_want 30 = .ok (.getfield 31, 3) := by decide +kernel
theorem dX3_want_33 : decode cX3_want 33 = .ok (.if_icmp .le 23, 3) := by decide +kernel
theorem dX3_want_36 : decode cX3_want 36 = .ok (.aload_n 0, 1) := by decide +kernel
theorem dX3_want_37 : decode cX3_want 37 = .ok (.getfield 11, 3) := by decide +kernel
theorem dX3_want_40 : decode cX3_want 40 = .ok (.iload_n 2, 1) := by decide +kernel
theorem dX3_want_41 : decode cX3_want 41 = .ok (.aload_n 0, 1) := by decide +kernel
theorem dX3_want_42 : decode cX3_want 42 = .ok (.getfield 11, 3) := by decide +kernel
theorem dX3_want_45 : decode cX3_want 45 = .ok (.iload_n 2, 1) := by decide +kernel
theorem dX3_want_46 : decode cX3_want 46 = .ok (.iconst 1, 1) := by decide +kernel
theorem dX3_want_47 : decode cX3_want 47 = .ok (.isub, 1) := by decide +kernel
theorem dX3_want_48 : decode cX3_want 48 = .ok (.aaload, 1) := by decide +kernel
theorem dX3_want_49 : decode cX3_want 49 = .ok (.aastore, 1) := by decide +kernel
theorem dX3_want_50 : decode cX3_want 50 = .ok (.iinc 2 (-1), 3) := by decide +kernel
theorem dX3_want_53 : decode cX3_want 53 = .ok (.goto (-39), 3) := by decide +kernel
theorem dX3_want_56 : decode cX3_want 56 = .ok (.aload_n 0, 1) := by decide +kernel
theorem dX3_want_57 : decode cX3_want 57 = .ok (.getfield 11, 3) := by decide +kernel
theorem dX3_want_60 : decode cX3_want 60 = .ok (.iload_n 2, 1) := by decide +kernel
theorem dX3_want_61 : decode cX3_want 61 = .ok (.aload_n 1, 1) := by decide +kernel
theorem dX3_want_62 : decode cX3_want 62 = .ok (.aastore, 1) := by decide +kernel
theorem dX3_want_63 : decode cX3_want 63 = .ok (.aload_n 0, 1) := by decide +kernel
theorem dX3_want_64 : decode cX3_want 64 = .ok (.dup, 1) := by decide +kernel
theorem dX3_want_65 : decode cX3_want 65 = .ok (.getfield 27, 3) := by decide +kernel
theorem dX3_want_68 : decode cX3_want 68 = .ok (.iconst 1, 1) := by decide +kernel
theorem dX3_want_69 : decode cX3_want 69 = .ok (.iadd, 1) := by decide +kernel
theorem dX3_want_70 : decode cX3_want 70 = .ok (.putfield 27, 3) := by decide +kernel
theorem dX3_want_73 : decode cX3_want 73 = .ok (.return_, 1) := by decide +kernel
theorem dX3_canAfford_0 : decode cX3_canAfford 0 = .ok (.iconst 0, 1) := by decide +kernel
theorem dX3_canAfford_1 : decode cX3_canAfford 1 = .ok (.istore_n 3, 1) := by decide +kernel
theorem dX3_canAfford_2 : decode cX3_canAfford 2 = .ok (.iconst 0, 1) := by decide +kernel
theorem dX3_canAfford_3 : decode cX3_canAfford 3 = .ok (.istore 4, 2) := by decide +kernel
theorem dX3_canAfford_5 : decode cX3_canAfford 5 = .ok (.iconst 0, 1) := by decide +kernel
theorem dX3_canAfford_6 : decode cX3_canAfford 6 = .ok (.istore 5, 2) := by decide +kernel
theorem dX3_canAfford_8 : decode cX3_canAfford 8 = .ok (.iload 5, 2) := by decide +kernel
theorem dX3_canAfford_10 : decode cX3_canAfford 10 = .ok (.aload_n 0, 1) := by decide +kernel
theorem dX3_canAfford_11 : decode cX3_canAfford 11 = .ok (.getfield 27, 3) := by decide +kernel
theorem dX3_canAfford_14 : decode cX3_canAfford 14 = .ok (.if_icmp .ge 39, 3) := by decide +kernel
theorem dX3_canAfford_17 : decode cX3_canAfford 17 = .ok (.iload_n 3, 1) := by decide +kernel
theorem dX3_canAfford_18 : decode cX3_canAfford 18 = .ok (.iconst 4, 1) := by decide +kernel
theorem dX3_canAfford_19 : decode cX3_canAfford 19 = .ok (.aload_n 0, 1) := by decide +kernel
theorem dX3_canAfford_20 : decode cX3_canAfford 20 = .ok (.getfield 11, 3) := by decide +kernel
theorem dX3_canAfford_23 : decode cX3_canAfford 23 = .ok (.iload 5, 2) := by decide +kernel
theorem dX3_canAfford_25 : decode cX3_canAfford 25 = .ok (.aaload, 1) := by decide +kernel
theorem dX3_canAfford_26 : decode cX3_canAfford 26 = .ok (.getfield 34, 3) := by decide +kernel
theorem dX3_canAfford_29 : decode cX3_canAfford 29 = .ok (.imul, 1) := by decide +kernel
theorem dX3_canAfford_30 : decode cX3_canAfford 30 = .ok (.iadd, 1) := by decide +kernel
theorem dX3_canAfford_31 : decode cX3_canAfford 31 = .ok (.istore_n 3, 1) := by decide +kernel
theorem dX3_canAfford_32 : decode cX3_canAfford 32 = .ok (.iload 4, 2) := by decide +kernel
theorem dX3_canAfford_34 : decode cX3_canAfford 34 = .ok (.aload_n 0, 1) := by decide +kernel
theorem dX3_canAfford_35 : decode cX3_canAfford 35 = .ok (.getfield 11, 3) := by decide +kernel
theorem dX3_canAfford_38 : decode cX3_canAfford 38 = .ok (.iload 5, 2) := by decide +kernel
theorem dX3_canAfford_40 : decode cX3_canAfford 40 = .ok (.aaload, 1) := by decide +kernel
theorem dX3_canAfford_41 : decode cX3_canAfford 41 = .ok (.invokevirtual 37, 3) := by decide +kernel
theorem dX3_canAfford_44 : decode cX3_canAfford 44 = .ok (.iadd, 1) := by decide +kernel
theorem dX3_canAfford_45 : decode cX3_canAfford 45 = .ok (.istore 4, 2) := by decide +kernel
theorem dX3_canAfford_47 : decode cX3_canAfford 47 = .ok (.iinc 5 1, 3) := by decide +kernel
theorem dX3_canAfford_50 : decode cX3_canAfford 50 = .ok (.goto (-42), 3) := by decide +kernel
theorem dX3_canAfford_53 : decode cX3_canAfford 53 = .ok (.iload_n 3, 1) := by decide +kernel
theorem dX3_canAfford_54 : decode cX3_canAfford 54 = .ok (.bipush 10, 2) := by decide +kernel
theorem dX3_canAfford_56 : decode cX3_canAfford 56 = .ok (.iadd, 1) := by decide +kernel
theorem dX3_canAfford_57 : decode cX3_canAfford 57 = .ok (.aload_n 1, 1) := by decide +kernel
theorem dX3_canAfford_58 : decode cX3_canAfford 58 = .ok (.getfield 41, 3) := by decide +kernel
theorem dX3_canAfford_61 : decode cX3_canAfford 61 = .ok (.if_icmp .gt 21, 3) := by decide +kernel
theorem dX3_canAfford_64 : decode cX3_canAfford 64 = .ok (.aload_n 2, 1) := by decide +kernel
theorem dX3_canAfford_65 : decode cX3_canAfford 65 = .ok (.getfield 46, 3) := by decide +kernel
theorem dX3_canAfford_68 : decode cX3_canAfford 68 = .ok (.iload 4, 2) := by decide +kernel
theorem dX3_canAfford_70 : decode cX3_canAfford 70 = .ok (.iadd, 1) := by decide +kernel
theorem dX3_canAfford_71 : decode cX3_canAfford 71 = .ok (.aload_n 2, 1) := by decide +kernel
theorem dX3_canAfford_72 : decode cX3_canAfford 72 = .ok (.getfield 51, 3) := by decide +kernel
theorem dX3_canAfford_75 : decode cX3_canAfford 75 = .ok (.if_icmp .gt 7, 3) := by decide +kernel
theorem dX3_canAfford_78 : decode cX3_canAfford 78 = .ok (.iconst 1, 1) := by decide +kernel
theorem dX3_canAfford_79 : decode cX3_canAfford 79 = .ok (.goto 4, 3) := by decide +kernel
theorem dX3_canAfford_82 : decode cX3_canAfford 82 = .ok (.iconst 0, 1) := by decide +kernel
theorem dX3_canAfford_83 : decode cX3_canAfford 83 = .ok (.ireturn, 1) := by decide +kernel
theorem dX3_findOrder_0 : decode cX3_findOrder 0 = .ok (.aload_n 0, 1) := by decide +kernel
theorem dX3_findOrder_1 : decode cX3_findOrder 1 = .ok (.aload_n 3, 1) := by decide +kernel
theorem dX3_findOrder_2 : decode cX3_findOrder 2 = .ok (.getfield 54, 3) := by decide +kernel
theorem dX3_findOrder_5 : decode cX3_findOrder 5 = .ok (.putfield 57, 3) := by decide +kernel
theorem dX3_findOrder_8 : decode cX3_findOrder 8 = .ok (.aload_n 0, 1) := by decide +kernel
theorem dX3_findOrder_9 : decode cX3_findOrder 9 = .ok (.sipush 721, 3) := by decide +kernel
theorem dX3_findOrder_12 : decode cX3_findOrder 12 = .ok (.putfield 58, 3) := by decide +kernel
theorem dX3_findOrder_15 : decode cX3_findOrder 15 = .ok (.iconst 0, 1) := by decide +kernel
theorem dX3_findOrder_16 : decode cX3_findOrder 16 = .ok (.istore 5, 2) := by decide +kernel
theorem dX3_findOrder_18 : decode cX3_findOrder 18 = .ok (.iload 5, 2) := by decide +kernel
theorem dX3_findOrder_20 : decode cX3_findOrder 20 = .ok (.aload_n 0, 1) := by decide +kernel
theorem dX3_findOrder_21 : decode cX3_findOrder 21 = .ok (.getfield 24, 3) := by decide +kernel
theorem dX3_findOrder_24 : decode cX3_findOrder 24 = .ok (.arraylength, 1) := by decide +kernel
theorem dX3_findOrder_25 : decode cX3_findOrder 25 = .ok (.if_icmp .ge 19, 3) := by decide +kernel
theorem dX3_findOrder_28 : decode cX3_findOrder 28 = .ok (.aload_n 0, 1) := by decide +kernel
theorem dX3_findOrder_29 : decode cX3_findOrder 29 = .ok (.getfield 24, 3) := by decide +kernel
theorem dX3_findOrder_32 : decode cX3_findOrder 32 = .ok (.iload 5, 2) := by decide +kernel
theorem dX3_findOrder_34 : decode cX3_findOrder 34 = .ok (.sipush 9999, 3) := by decide +kernel
theorem dX3_findOrder_37 : decode cX3_findOrder 37 = .ok (.iastore, 1) := by decide +kernel
theorem dX3_findOrder_38 : decode cX3_findOrder 38 = .ok (.iinc 5 1, 3) := by decide +kernel
theorem dX3_findOrder_41 : decode cX3_findOrder 41 = .ok (.goto (-23), 3) := by decide +kernel
theorem dX3_findOrder_44 : decode cX3_findOrder 44 = .ok (.aload_n 0, 1) := by decide +kernel
theorem dX3_findOrder_45 : decode cX3_findOrder 45 = .ok (.aload_n 1, 1) := by decide +kernel
theorem dX3_findOrder_46 : decode cX3_findOrder 46 = .ok (.aload_n 2, 1) := by decide +kernel
theorem dX3_findOrder_47 : decode cX3_findOrder 47 = .ok (.iconst 0, 1) := by decide +kernel
theorem dX3_findOrder_48 : decode cX3_findOrder 48 = .ok (.iconst 0, 1) := by decide +kernel
theorem dX3_findOrder_49 : decode cX3_findOrder 49 = .ok (.iload 4, 2) := by decide +kernel
theorem dX3_findOrder_51 : decode cX3_findOrder 51 = .ok (.aload_n 3, 1) := by decide +kernel
theorem dX3_findOrder_52 : decode cX3_findOrder 52 = .ok (.getfield 46, 3) := by decide +kernel
theorem dX3_findOrder_55 : decode cX3_findOrder 55 = .ok (.invokevirtual 61, 3) := by decide +kernel
theorem dX3_findOrder_58 : decode cX3_findOrder 58 = .ok (.aload_n 0, 1) := by decide +kernel
theorem dX3_findOrder_59 : decode cX3_findOrder 59 = .ok (.getfield 58, 3) := by decide +kernel
theorem dX3_findOrder_62 : decode cX3_findOrder 62 = .ok (.sipush 720, 3) := by decide +kernel
theorem dX3_findOrder_65 : decode cX3_findOrder 65 = .ok (.if_icmp .le 5, 3) := by decide +kernel
theorem dX3_findOrder_68 : decode cX3_findOrder 68 = .ok (.iconst 0, 1) := by decide +kernel
theorem dX3_findOrder_69 : decode cX3_findOrder 69 = .ok (.ireturn, 1) := by decide +kernel
theorem dX3_findOrder_70 : decode cX3_findOrder 70 = .ok (.aload_n 0, 1) := by decide +kernel
theorem dX3_findOrder_71 : decode cX3_findOrder 71 = .ok (.aload_n 0, 1) := by decide +kernel
theorem dX3_findOrder_72 : decode cX3_findOrder 72 = .ok (.getfield 27, 3) := by decide +kernel
theorem dX3_findOrder_75 : decode cX3_findOrder 75 = .ok (.putfield 65, 3) := by decide +kernel
theorem dX3_findOrder_78 : decode cX3_findOrder 78 = .ok (.aload_n 0, 1) := by decide +kernel
theorem dX3_findOrder_79 : decode cX3_findOrder 79 = .ok (.iconst 0, 1) := by decide +kernel
theorem dX3_findOrder_80 : decode cX3_findOrder 80 = .ok (.putfield 27, 3) := by decide +kernel
theorem dX3_findOrder_83 : decode cX3_findOrder 83 = .ok (.iconst 1, 1) := by decide +kernel
theorem dX3_findOrder_84 : decode cX3_findOrder 84 = .ok (.ireturn, 1) := by decide +kernel
theorem dX3_extend_0 : decode cX3_extend 0 = .ok (.iload_n 3, 1) := by decide +kernel
theorem dX3_extend_1 : decode cX3_extend 1 = .ok (.aload_n 0, 1) := by decide +kernel
theorem dX3_extend_2 : decode cX3_extend 2 = .ok (.getfield 27, 3) := by decide +kernel
theorem dX3_extend_5 : decode cX3_extend 5 = .ok (.if_icmp .ge 25, 3) := by decide +kernel
theorem dX3_extend_8 : decode cX3_extend 8 = .ok (.iload 4, 2) := by decide +kernel
theorem dX3_extend_10 : decode cX3_extend 10 = .ok (.aload_n 0, 1) := by decide +kernel
theorem dX3_extend_11 : decode cX3_extend 11 = .ok (.getfield 24, 3) := by decide +kernel
theorem dX3_extend_14 : decode cX3_extend 14 = .ok (.arraylength, 1) := by decide +kernel
theorem dX3_extend_15 : decode cX3_extend 15 = .ok (.if_icmp .ge 15, 3) := by decide +kernel
theorem dX3_extend_18 : decode cX3_extend 18 = .ok (.iload 5, 2) := by decide +kernel
theorem dX3_extend_20 : decode cX3_extend 20 = .ok (.aload_n 0, 1) := by decide +kernel
theorem dX3_extend_21 : decode cX3_extend 21 = .ok (.getfield 24, 3) := by decide +kernel
theorem dX3_extend_24 : decode cX3_extend 24 = .ok (.iload 4, 2) := by decide +kernel
theorem dX3_extend_26 : decode cX3_extend 26 = .ok (.iaload, 1) := by decide +kernel
theorem dX3_extend_27 : decode cX3_extend 27 = .ok (.if_icmp .lt 4, 3) := by decide +kernel
theorem dX3_extend_30 : decode cX3_extend 30 = .ok (.return_, 1) := by decide +kernel
theorem dX3_extend_31 : decode cX3_extend 31 = .ok (.aload_n 0, 1) := by decide +kernel
theorem dX3_extend_32 : decode cX3_extend 32 = .ok (.getfield 24, 3) := by decide +kernel
theorem dX3_extend_35 : decode cX3_extend 35 = .ok (.iload 4, 2) := by decide +kernel
theorem dX3_extend_37 : decode cX3_extend 37 = .ok (.iload 5, 2) := by decide +kernel
theorem dX3_extend_39 : decode cX3_extend 39 = .ok (.iastore, 1) := by decide +kernel
theorem dX3_extend_40 : decode cX3_extend 40 = .ok (.iconst 0, 1) := by decide +kernel
theorem dX3_extend_41 : decode cX3_extend 41 = .ok (.istore 7, 2) := by decide +kernel
theorem dX3_extend_43 : decode cX3_extend 43 = .ok (.iload 7, 2) := by decide +kernel
theorem dX3_extend_45 : decode cX3_extend 45 = .ok (.aload_n 0, 1) := by decide +kernel
theorem dX3_extend_46 : decode cX3_extend 46 = .ok (.getfield 27, 3) := by decide +kernel
theorem dX3_extend_49 : decode cX3_extend 49 = .ok (.if_icmp .ge 181, 3) := by decide +kernel
theorem dX3_extend_52 : decode cX3_extend 52 = .ok (.iload 4, 2) := by decide +kernel
theorem dX3_extend_54 : decode cX3_extend 54 = .ok (.iload 7, 2) := by decide +kernel
theorem dX3_extend_56 : decode cX3_extend 56 = .ok (.invokestatic 68, 3) := by decide +kernel
theorem dX3_extend_59 : decode cX3_extend 59 = .ok (.ifCond .ne 165, 3) := by decide +kernel
theorem dX3_extend_62 : decode cX3_extend 62 = .ok (.aload_n 0, 1) := by decide +kernel
theorem dX3_extend_63 : decode cX3_extend 63 = .ok (.iload 4, 2) := by decide +kernel
theorem dX3_extend_65 : decode cX3_extend 65 = .ok (.iload 7, 2) := by decide +kernel
theorem dX3_extend_67 : decode cX3_extend 67 = .ok (.invokevirtual 72, 3) := by decide +kernel
theorem dX3_extend_70 : decode cX3_extend 70 = .ok (.ifCond .eq 6, 3) := by decide +kernel
theorem dX3_extend_73 : decode cX3_extend 73 = .ok (.goto 151, 3) := by decide +kernel
theorem dX3_extend_76 : decode cX3_extend 76 = .ok (.aload_n 0, 1) := by decide +kernel
theorem dX3_extend_77 : decode cX3_extend 77 = .ok (.getfield 11, 3) := by decide +kernel
theorem dX3_extend_80 : decode cX3_extend 80 = .ok (.iload 7, 2) := by decide +kernel
theorem dX3_extend_82 : decode cX3_extend 82 = .ok (.aaload, 1) := by decide +kernel
theorem dX3_extend_83 : decode cX3_extend 83 = .ok (.astore 8, 2) := by decide +kernel
theorem dX3_extend_85 : decode cX3_extend 85 = .ok (.aload 8, 2) := by decide +kernel
theorem dX3_extend_87 : decode cX3_extend 87 = .ok (.invokevirtual 37, 3) := by decide +kernel
theorem dX3_extend_90 : decode cX3_extend 90 = .ok (.istore 9, 2) := by decide +kernel
theorem dX3_extend_92 : decode cX3_extend 92 = .ok (.iload 4, 2) := by decide +kernel
theorem dX3_extend_94 : decode cX3_extend 94 = .ok (.iconst 1, 1) := by decide +kernel
theorem dX3_extend_95 : decode cX3_extend 95 = .ok (.iload 7, 2) := by decide +kernel
theorem dX3_extend_97 : decode cX3_extend 97 = .ok (.ishl, 1) := by decide +kernel
theorem dX3_extend_98 : decode cX3_extend 98 = .ok (.ior, 1) := by decide +kernel
theorem dX3_extend_99 : decode cX3_extend 99 = .ok (.istore 10, 2) := by decide +kernel
theorem dX3_extend_101 : decode cX3_extend 101 = .ok (.aload_n 0, 1) := by decide +kernel
theorem dX3_extend_102 : decode cX3_extend 102 = .ok (.getfield 17, 3) := by decide +kernel
theorem dX3_extend_105 : decode cX3_extend 105 = .ok (.iload_n 3, 1) := by decide +kernel
theorem dX3_extend_106 : decode cX3_extend 106 = .ok (.aload 8, 2) := by decide +kernel
theorem dX3_extend_108 : decode cX3_extend 108 = .ok (.getfield 31, 3) := by decide +kernel
theorem dX3_extend_111 : decode cX3_extend 111 = .ok (.iastore, 1) := by decide +kernel
theorem dX3_extend_112 : decode cX3_extend 112 = .ok (.aload_n 1, 1) := by decide +kernel
theorem dX3_extend_113 : decode cX3_extend 113 = .ok (.aload 8, 2) := by decide +kernel
theorem dX3_extend_115 : decode cX3_extend 115 = .ok (.invokevirtual 75, 3) := by decide +kernel
theorem dX3_extend_118 : decode cX3_extend 118 = .ok (.aload_n 1, 1) := by decide +kernel
theorem dX3_extend_119 : decode cX3_extend 119 = .ok (.iload 6, 2) := by decide +kernel
theorem dX3_extend_121 : decode cX3_extend 121 = .ok (.invokevirtual 81, 3) := by decide +kernel
theorem dX3_extend_124 : decode cX3_extend 124 = .ok (.aload_n 1, 1) := by decide +kernel
theorem dX3_extend_125 : decode cX3_extend 125 = .ok (.aload_n 2, 1) := by decide +kernel
theorem dX3_extend_126 : decode cX3_extend 126 = .ok (.iload 5, 2) := by decide +kernel
theorem dX3_extend_128 : decode cX3_extend 128 = .ok (.aload_n 0, 1) := by decide +kernel
theorem dX3_extend_129 : decode cX3_extend 129 = .ok (.getfield 58, 3) := by decide +kernel
theorem dX3_extend_132 : decode cX3_extend 132 = .ok (.iconst 1, 1) := by decide +kernel
theorem dX3_extend_133 : decode cX3_extend 133 = .ok (.isub, 1) := by decide +kernel
theorem dX3_extend_134 : decode cX3_extend 134 = .ok (.iload 9, 2) := by decide +kernel
theorem dX3_extend_136 : decode cX3_extend 136 = .ok (.isub, 1) := by decide +kernel
theorem dX3_extend_137 : decode cX3_extend 137 = .ok (.aload_n 0, 1) := by decide +kernel
theorem dX3_extend_138 : decode cX3_extend 138 = .ok (.iload 10, 2) := by decide +kernel
theorem dX3_extend_140 : decode cX3_extend 140 = .ok (.invokevirtual 85, 3) := by decide +kernel
theorem dX3_extend_143 : decode cX3_extend 143 = .ok (.isub, 1) := by decide +kernel
theorem dX3_extend_144 : decode cX3_extend 144 = .ok (.invokevirtual 89, 3) := by decide +kernel
theorem dX3_extend_147 : decode cX3_extend 147 = .ok (.istore 11, 2) := by decide +kernel
theorem dX3_extend_149 : decode cX3_extend 149 = .ok (.iload 11, 2) := by decide +kernel
theorem dX3_extend_151 : decode cX3_extend 151 = .ok (.ifCond .lt 42, 3) := by decide +kernel
theorem dX3_extend_154 : decode cX3_extend 154 = .ok (.iload_n 3, 1) := by decide +kernel
theorem dX3_extend_155 : decode cX3_extend 155 = .ok (.aload_n 0, 1) := by decide +kernel
theorem dX3_extend_156 : decode cX3_extend 156 = .ok (.getfield 27, 3) := by decide +kernel
theorem dX3_extend_159 : decode cX3_extend 159 = .ok (.iconst 1, 1) := by decide +kernel
theorem dX3_extend_160 : decode cX3_extend 160 = .ok (.isub, 1) := by decide +kernel
theorem dX3_extend_161 : decode cX3_extend 161 = .ok (.if_icmp .ne 32, 3) := by decide +kernel
theorem dX3_extend_164 : decode cX3_extend 164 = .ok (.aload_n 0, 1) := by decide +kernel
theorem dX3_extend_165 : decode cX3_extend 165 = .ok (.iload 11, 2) := by decide +kernel
theorem dX3_extend_167 : decode cX3_extend 167 = .ok (.iload 9, 2) := by decide +kernel
theorem dX3_extend_169 : decode cX3_extend 169 = .ok (.iadd, 1) := by decide +kernel
theorem dX3_extend_170 : decode cX3_extend 170 = .ok (.putfield 58, 3) := by decide +kernel
theorem dX3_extend_173 : decode cX3_extend 173 = .ok (.aload_n 0, 1) := by decide +kernel
theorem dX3_extend_174 : decode cX3_extend 174 = .ok (.getfield 17, 3) := by decide +kernel
theorem dX3_extend_177 : decode cX3_extend 177 = .ok (.iconst 0, 1) := by decide +kernel
theorem dX3_extend_178 : decode cX3_extend 178 = .ok (.aload_n 0, 1) := by decide +kernel
theorem dX3_extend_179 : decode cX3_extend 179 = .ok (.getfield 21, 3) := by decide +kernel
theorem dX3_extend_182 : decode cX3_extend 182 = .ok (.iconst 0, 1) := by decide +kernel
theorem dX3_extend_183 : decode cX3_extend 183 = .ok (.aload_n 0, 1) := by decide +kernel
theorem dX3_extend_184 : decode cX3_extend 184 = .ok (.getfield 27, 3) := by decide +kernel
theorem dX3_extend_187 : decode cX3_extend 187 = .ok (.invokestatic 93, 3) := by decide +kernel
theorem dX3_extend_190 : decode cX3_extend 190 = .ok (.goto 34, 3) := by decide +kernel
theorem dX3_extend_193 : decode cX3_extend 193 = .ok (.iload 11, 2) := by decide +kernel
theorem dX3_extend_195 : decode cX3_extend 195 = .ok (.ifCond .lt 29, 3) := by decide +kernel
theorem dX3_extend_198 : decode cX3_extend 198 = .ok (.aload_n 0, 1) := by decide +kernel
theorem dX3_extend_199 : decode cX3_extend 199 = .ok (.aload_n 1, 1) := by decide +kernel
theorem dX3_extend_200 : decode cX3_extend 200 = .ok (.aload_n 2, 1) := by decide +kernel
theorem dX3_extend_201 : decode cX3_extend 201 = .ok (.iload_n 3, 1) := by decide +kernel
theorem dX3_extend_202 : decode cX3_extend 202 = .ok (.iconst 1, 1) := by decide +kernel
theorem dX3_extend_203 : decode cX3_extend 203 = .ok (.iadd, 1) := by decide +kernel
theorem dX3_extend_204 : decode cX3_extend 204 = .ok (.iload 10, 2) := by decide +kernel
theorem dX3_extend_206 : decode cX3_extend 206 = .ok (.iload 11, 2) := by decide +kernel
theorem dX3_extend_208 : decode cX3_extend 208 = .ok (.iload 9, 2) := by decide +kernel
theorem dX3_extend_210 : decode cX3_extend 210 = .ok (.iadd, 1) := by decide +kernel
theorem dX3_extend_211 : decode cX3_extend 211 = .ok (.aload_n 0, 1) := by decide +kernel
theorem dX3_extend_212 : decode cX3_extend 212 = .ok (.getfield 57, 3) := by decide +kernel
theorem dX3_extend_215 : decode cX3_extend 215 = .ok (.iadd, 1) := by decide +kernel
theorem dX3_extend_216 : decode cX3_extend 216 = .ok (.iload 6, 2) := by decide +kernel
theorem dX3_extend_218 : decode cX3_extend 218 = .ok (.iload 9, 2) := by decide +kernel
theorem dX3_extend_220 : decode cX3_extend 220 = .ok (.iadd, 1) := by decide +kernel
theorem dX3_extend_221 : decode cX3_extend 221 = .ok (.invokevirtual 61, 3) := by decide +kernel
theorem dX3_extend_224 : decode cX3_extend 224 = .ok (.iinc 7 1, 3) := by decide +kernel
theorem dX3_extend_227 : decode cX3_extend 227 = .ok (.goto (-184), 3) := by decide +kernel
theorem dX3_extend_230 : decode cX3_extend 230 = .ok (.return_, 1) := by decide +kernel
theorem dX3_isTaken_0 : decode cX3_isTaken 0 = .ok (.iload_n 0, 1) := by decide +kernel
theorem dX3_isTaken_1 : decode cX3_isTaken 1 = .ok (.iload_n 1, 1) := by decide +kernel
theorem dX3_isTaken_2 : decode cX3_isTaken 2 = .ok (.ishr, 1) := by decide +kernel
theorem dX3_isTaken_3 : decode cX3_isTaken 3 = .ok (.iconst 1, 1) := by decide +kernel
theorem dX3_isTaken_4 : decode cX3_isTaken 4 = .ok (.iand, 1) := by decide +kernel
theorem dX3_isTaken_5 : decode cX3_isTaken 5 = .ok (.iconst 1, 1) := by decide +kernel
theorem dX3_isTaken_6 : decode cX3_isTaken 6 = .ok (.if_icmp .ne 7, 3) := by decide +kernel
theorem dX3_isTaken_9 : decode cX3_isTaken 9 = .ok (.iconst 1, 1) := by decide +kernel
theorem dX3_isTaken_10 : decode cX3_isTaken 10 = .ok (.goto 4, 3) := by decide +kernel
theorem dX3_isTaken_13 : decode cX3_isTaken 13 = .ok (.iconst 0, 1) := by decide +kernel
theorem dX3_isTaken_14 : decode cX3_isTaken 14 = .ok (.ireturn, 1) := by decide +kernel
theorem dX3_isSameAsUntaken_0 : decode cX3_isSameAsUntaken 0 = .ok (.iload_n 2, 1) := by decide +kernel
theorem dX3_isSameAsUntaken_1 : decode cX3_isSameAsUntaken 1 = .ok (.ifCond .le 40, 3) := by decide +kernel
theorem dX3_isSameAsUntaken_4 : decode cX3_isSameAsUntaken 4 = .ok (.iload_n 1, 1) := by decide +kernel
theorem dX3_isSameAsUntaken_5 : decode cX3_isSameAsUntaken 5 = .ok (.iload_n 2, 1) := by decide +kernel
theorem dX3_isSameAsUntaken_6 : decode cX3_isSameAsUntaken 6 = .ok (.iconst 1, 1) := by decide +kernel
theorem dX3_isSameAsUntaken_7 : decode cX3_isSameAsUntaken 7 = .ok (.isub, 1) := by decide +kernel
theorem dX3_isSameAsUntaken_8 : decode cX3_isSameAsUntaken 8 = .ok (.invokestatic 68, 3) := by decide +kernel
theorem dX3_isSameAsUntaken_11 : decode cX3_isSameAsUntaken 11 = .ok (.ifCond .ne 30, 3) := by decide +kernel
theorem dX3_isSameAsUntaken_14 : decode cX3_isSameAsUntaken 14 = .ok (.aload_n 0, 1) := by decide +kernel
theorem dX3_isSameAsUntaken_15 : decode cX3_isSameAsUntaken 15 = .ok (.getfield 11, 3) := by decide +kernel
theorem dX3_isSameAsUntaken_18 : decode cX3_isSameAsUntaken 18 = .ok (.iload_n 2, 1) := by decide +kernel
theorem dX3_isSameAsUntaken_19 : decode cX3_isSameAsUntaken 19 = .ok (.iconst 1, 1) := by decide +kernel
theorem dX3_isSameAsUntaken_20 : decode cX3_isSameAsUntaken 20 = .ok (.isub, 1) := by decide +kernel
theorem dX3_isSameAsUntaken_21 : decode cX3_isSameAsUntaken 21 = .ok (.aaload, 1) := by decide +kernel
theorem dX3_isSameAsUntaken_22 : decode cX3_isSameAsUntaken 22 = .ok (.getfield 31, 3) := by decide +kernel
theorem dX3_isSameAsUntaken_25 : decode cX3_isSameAsUntaken 25 = .ok (.aload_n 0, 1) := by decide +kernel
theorem dX3_isSameAsUntaken_26 : decode cX3_isSameAsUntaken 26 = .ok (.getfield 11, 3) := by decide +kernel
theorem dX3_isSameAsUntaken_29 : decode cX3_isSameAsUntaken 29 = .ok (.iload_n 2, 1) := by decide +kernel
theorem dX3_isSameAsUntaken_30 : decode cX3_isSameAsUntaken 30 = .ok (.aaload, 1) := by decide +kernel
theorem dX3_isSameAsUntaken_31 : decode cX3_isSameAsUntaken 31 = .ok (.getfield 31, 3) := by decide +kernel
theorem dX3_isSameAsUntaken_34 : decode cX3_isSameAsUntaken 34 = .ok (.if_icmp .ne 7, 3) := by decide +kernel
theorem dX3_isSameAsUntaken_37 : decode cX3_isSameAsUntaken 37 = .ok (.iconst 1, 1) := by decide +kernel
theorem dX3_isSameAsUntaken_38 : decode cX3_isSameAsUntaken 38 = .ok (.goto 4, 3) := by decide +kernel
theorem dX3_isSameAsUntaken_41 : decode cX3_isSameAsUntaken 41 = .ok (.iconst 0, 1) := by decide +kernel
theorem dX3_isSameAsUntaken_42 : decode cX3_isSameAsUntaken 42 = .ok (.ireturn, 1) := by decide +kernel
theorem dX3_leastMinutesLeft_0 : decode cX3_leastMinutesLeft 0 = .ok (.iconst 0, 1) := by decide +kernel
theorem dX3_leastMinutesLeft_1 : decode cX3_leastMinutesLeft 1 = .ok (.istore_n 2, 1) := by decide +kernel
theorem dX3_leastMinutesLeft_2 : decode cX3_leastMinutesLeft 2 = .ok (.iconst 0, 1) := by decide +kernel
theorem dX3_leastMinutesLeft_3 : decode cX3_leastMinutesLeft 3 = .ok (.istore_n 3, 1) := by decide +kernel
theorem dX3_leastMinutesLeft_4 : decode cX3_leastMinutesLeft 4 = .ok (.iload_n 3, 1) := by decide +kernel
theorem dX3_leastMinutesLeft_5 : decode cX3_leastMinutesLeft 5 = .ok (.aload_n 0, 1) := by decide +kernel
theorem dX3_leastMinutesLeft_6 : decode cX3_leastMinutesLeft 6 = .ok (.getfield 27, 3) := by decide +kernel
theorem dX3_leastMinutesLeft_9 : decode cX3_leastMinutesLeft 9 = .ok (.if_icmp .ge 38, 3) := by decide +kernel
theorem dX3_leastMinutesLeft_12 : decode cX3_leastMinutesLeft 12 = .ok (.iload_n 2, 1) := by decide +kernel
theorem dX3_leastMinutesLeft_13 : decode cX3_leastMinutesLeft 13 = .ok (.iload_n 1, 1) := by decide +kernel
theorem dX3_leastMinutesLeft_14 : decode cX3_leastMinutesLeft 14 = .ok (.iload_n 3, 1) := by decide +kernel
theorem dX3_leastMinutesLeft_15 : decode cX3_leastMinutesLeft 15 = .ok (.invokestatic 68, 3) := by decide +kernel
theorem dX3_leastMinutesLeft_18 : decode cX3_leastMinutesLeft 18 = .ok (.ifCond .eq 7, 3) := by decide +kernel
theorem dX3_leastMinutesLeft_21 : decode cX3_leastMinutesLeft 21 = .ok (.iconst 0, 1) := by decide +kernel
theorem dX3_leastMinutesLeft_22 : decode cX3_leastMinutesLeft 22 = .ok (.goto 17, 3) := by decide +kernel
theorem dX3_leastMinutesLeft_25 : decode cX3_leastMinutesLeft 25 = .ok (.aload_n 0, 1) := by decide +kernel
theorem dX3_leastMinutesLeft_26 : decode cX3_leastMinutesLeft 26 = .ok (.getfield 57, 3) := by decide +kernel
theorem dX3_leastMinutesLeft_29 : decode cX3_leastMinutesLeft 29 = .ok (.aload_n 0, 1) := by decide +kernel
theorem dX3_leastMinutesLeft_30 : decode cX3_leastMinutesLeft 30 = .ok (.getfield 11, 3) := by decide +kernel
theorem dX3_leastMinutesLeft_33 : decode cX3_leastMinutesLeft 33 = .ok (.iload_n 3, 1) := by decide +kernel
theorem dX3_leastMinutesLeft_34 : decode cX3_leastMinutesLeft 34 = .ok (.aaload, 1) := by decide +kernel
theorem dX3_leastMinutesLeft_35 : decode cX3_leastMinutesLeft 35 = .ok (.invokevirtual 37, 3) := by decide +kernel
theorem dX3_leastMinutesLeft_38 : decode cX3_leastMinutesLeft 38 = .ok (.iadd, 1) := by decide +kernel
theorem dX3_leastMinutesLeft_39 : decode cX3_leastMinutesLeft 39 = .ok (.iadd, 1) := by decide +kernel
theorem dX3_leastMinutesLeft_40 : decode cX3_leastMinutesLeft 40 = .ok (.istore_n 2, 1) := by decide +kernel
theorem dX3_leastMinutesLeft_41 : decode cX3_leastMinutesLeft 41 = .ok (.iinc 3 1, 3) := by decide +kernel
theorem dX3_leastMinutesLeft_44 : decode cX3_leastMinutesLeft 44 = .ok (.goto (-40), 3) := by decide +kernel
theorem dX3_leastMinutesLeft_47 : decode cX3_leastMinutesLeft 47 = .ok (.iload_n 2, 1) := by decide +kernel
theorem dX3_leastMinutesLeft_48 : decode cX3_leastMinutesLeft 48 = .ok (.ireturn, 1) := by decide +kernel
theorem dX4_init_0 : decode cX4_init 0 = .ok (.aload_n 0, 1) := by decide +kernel
theorem dX4_init_1 : decode cX4_init 1 = .ok (.invokespecial 3, 3) := by decide +kernel
theorem dX4_init_4 : decode cX4_init 4 = .ok (.aload_n 0, 1) := by decide +kernel
theorem dX4_init_5 : decode cX4_init 5 = .ok (.new 9, 3) := by decide +kernel
theorem dX4_init_8 : decode cX4_init 8 = .ok (.dup, 1) := by decide +kernel
theorem dX4_init_9 : decode cX4_init 9 = .ok (.invokespecial 11, 3) := by decide +kernel
theorem dX4_init_12 : decode cX4_init 12 = .ok (.putfield 12, 3) := by decide +kernel
theorem dX4_init_15 : decode cX4_init 15 = .ok (.aload_n 0, 1) := by decide +kernel
theorem dX4_init_16 : decode cX4_init 16 = .ok (.bipush 9, 2) := by decide +kernel
theorem dX4_init_18 : decode cX4_init 18 = .ok (.newarray .int, 2) := by decide +kernel
theorem dX4_init_20 : decode cX4_init 20 = .ok (.putfield 18, 3) := by decide +kernel
theorem dX4_init_23 : decode cX4_init 23 = .ok (.aload_n 0, 1) := by decide +kernel
theorem dX4_init_24 : decode cX4_init 24 = .ok (.bipush 9, 2) := by decide +kernel
theorem dX4_init_26 : decode cX4_init 26 = .ok (.newarray .int, 2) := by decide +kernel
theorem dX4_init_28 : decode cX4_init 28 = .ok (.putfield 22, 3) := by decide +kernel
theorem dX4_init_31 : decode cX4_init 31 = .ok (.return_, 1) := by decide +kernel
theorem dX4_gather_0 : decode cX4_gather 0 = .ok (.aload_n 0, 1) := by decide +kernel
theorem dX4_gather_1 : decode cX4_gather 1 = .ok (.getfield 12, 3) := by decide +kernel
theorem dX4_gather_4 : decode cX4_gather 4 = .ok (.invokevirtual 25, 3) := by decide +kernel
theorem dX4_gather_7 : decode cX4_gather 7 = .ok (.iconst 0, 1) := by decide +kernel
theorem dX4_gather_8 : decode cX4_gather 8 = .ok (.istore_n 3, 1) := by decide +kernel
theorem dX4_gather_9 : decode cX4_gather 9 = .ok (.iload_n 3, 1) := by decide +kernel
theorem dX4_gather_10 : decode cX4_gather 10 = .ok (.aload_n 1, 1) := by decide +kernel
theorem dX4_gather_11 : decode cX4_gather 11 = .ok (.invokevirtual 28, 3) := by decide +kernel
theorem dX4_gather_14 : decode cX4_gather 14 = .ok (.if_icmp .ge 47, 3) := by decide +kernel
theorem dX4_gather_17 : decode cX4_gather 17 = .ok (.aload_n 1, 1) := by decide +kernel
theorem dX4_gather_18 : decode cX4_gather 18 = .ok (.iload_n 3, 1) := by decide +kernel
theorem dX4_gather_19 : decode cX4_gather 19 = .ok (.invokevirtual 32, 3) := by decide +kernel
theorem dX4_gather_22 : decode cX4_gather 22 = .ok (.checkcast 36, 3) := by decide +kernel
theorem dX4_gather_25 : decode cX4_gather 25 = .ok (.astore 4, 2) := by decide +kernel
theorem dX4_gather_27 : decode cX4_gather 27 = .ok (.aload 4, 2) := by decide +kernel
theorem dX4_gather_29 : decode cX4_gather 29 = .ok (.iload_n 2, 1) := by decide +kernel
theorem dX4_gather_30 : decode cX4_gather 30 = .ok (.invokevirtual 38, 3) := by decide +kernel
theorem dX4_gather_33 : decode cX4_gather 33 = .ok (.ifCond .eq 22, 3) := by decide +kernel
theorem dX4_gather_36 : decode cX4_gather 36 = .ok (.aload 4, 2) := by decide +kernel
theorem dX4_gather_38 : decode cX4_gather 38 = .ok (.getfield 42, 3) := by decide +kernel
theorem dX4_gather_41 : decode cX4_gather 41 = .ok (.iconst 4, 1) := by decide +kernel
theorem dX4_gather_42 : decode cX4_gather 42 = .ok (.if_icmp .eq 13, 3) := by decide +kernel
theorem dX4_gather_45 : decode cX4_gather 45 = .ok (.aload_n 0, 1) := by decide +kernel
theorem dX4_gather_46 : decode cX4_gather 46 = .ok (.getfield 12, 3) := by decide +kernel
theorem dX4_gather_49 : decode cX4_gather 49 = .ok (.aload 4, 2) := by decide +kernel
theorem dX4_gather_51 : decode cX4_gather 51 = .ok (.invokevirtual 46, 3) := by decide +kernel
theorem dX4_gather_54 : decode cX4_gather 54 = .ok (.pop, 1) := by decide +kernel
theorem dX4_gather_55 : decode cX4_gather 55 = .ok (.iinc 3 1, 3) := by decide +kernel
theorem dX4_gather_58 : decode cX4_gather 58 = .ok (.goto (-49), 3) := by decide +kernel
theorem dX4_gather_61 : decode cX4_gather 61 = .ok (.return_, 1) := by decide +kernel
theorem dX4_fewestNets_0 : decode cX4_fewestNets 0 = .ok (.iconst 0, 1) := by decide +kernel
theorem dX4_fewestNets_1 : decode cX4_fewestNets 1 = .ok (.istore_n 2, 1) := by decide +kernel
theorem dX4_fewestNets_2 : decode cX4_fewestNets 2 = .ok (.iload_n 2, 1) := by decide +kernel
theorem dX4_fewestNets_3 : decode cX4_fewestNets 3 = .ok (.aload_n 0, 1) := by decide +kernel
theorem dX4_fewestNets_4 : decode cX4_fewestNets 4 = .ok (.getfield 12, 3) := by decide +kernel
theorem dX4_fewestNets_7 : decode cX4_fewestNets 7 = .ok (.invokevirtual 28, 3) := by decide +kernel
theorem dX4_fewestNets_10 : decode cX4_fewestNets 10 = .ok (.if_icmp .ge 30, 3) := by decide +kernel
theorem dX4_fewestNets_13 : decode cX4_fewestNets 13 = .ok (.aload_n 0, 1) := by decide +kernel
theorem dX4_fewestNets_14 : decode cX4_fewestNets 14 = .ok (.getfield 12, 3) := by decide +kernel
theorem dX4_fewestNets_17 : decode cX4_fewestNets 17 = .ok (.iload_n 2, 1) := by decide +kernel
theorem dX4_fewestNets_18 : decode cX4_fewestNets 18 = .ok (.invokevirtual 32, 3) := by decide +kernel
theorem dX4_fewestNets_21 : decode cX4_fewestNets 21 = .ok (.checkcast 36, 3) := by decide +kernel
theorem dX4_fewestNets_24 : decode cX4_fewestNets 24 = .ok (.getfield 50, 3) := by decide +kernel
theorem dX4_fewestNets_27 : decode cX4_fewestNets 27 = .ok (.iload_n 1, 1) := by decide +kernel
theorem dX4_fewestNets_28 : decode cX4_fewestNets 28 = .ok (.if_icmp .le 6, 3) := by decide +kernel
theorem dX4_fewestNets_31 : decode cX4_fewestNets 31 = .ok (.bipush (-3), 2) := by decide +kernel
theorem dX4_fewestNets_33 : decode cX4_fewestNets 33 = .ok (.ireturn, 1) := by decide +kernel
theorem dX4_fewestNets_34 : decode cX4_fewestNets 34 = .ok (.iinc 2 1, 3) := by decide +kernel
theorem dX4_fewestNets_37 : decode cX4_fewestNets 37 = .ok (.goto (-35), 3) := by decide +kernel
theorem dX4_fewestNets_40 : decode cX4_fewestNets 40 = .ok (.aload_n 0, 1) := by decide +kernel
theorem dX4_fewestNets_41 : decode cX4_fewestNets 41 = .ok (.iload_n 1, 1) := by decide +kernel
theorem dX4_fewestNets_42 : decode cX4_fewestNets 42 = .ok (.putfield 53, 3) := by decide +kernel
theorem dX4_fewestNets_45 : decode cX4_fewestNets 45 = .ok (.aload_n 0, 1) := by decide +kernel
theorem dX4_fewestNets_46 : decode cX4_fewestNets 46 = .ok (.aload_n 0, 1) := by decide +kernel
theorem dX4_fewestNets_47 : decode cX4_fewestNets 47 = .ok (.getfield 12, 3) := by decide +kernel
theorem dX4_fewestNets_50 : decode cX4_fewestNets 50 = .ok (.invokevirtual 28, 3) := by decide +kernel
theorem dX4_fewestNets_53 : decode cX4_fewestNets 53 = .ok (.iconst 1, 1) := by decide +kernel
theorem dX4_fewestNets_54 : decode cX4_fewestNets 54 = .ok (.iadd, 1) := by decide +kernel
theorem dX4_fewestNets_55 : decode cX4_fewestNets 55 = .ok (.putfield 56, 3) := by decide +kernel
theorem dX4_fewestNets_58 : decode cX4_fewestNets 58 = .ok (.aload_n 0, 1) := by decide +kernel
theorem dX4_fewestNets_59 : decode cX4_fewestNets 59 = .ok (.iconst 0, 1) := by decide +kernel
theorem dX4_fewestNets_60 : decode cX4_fewestNets 60 = .ok (.iconst 0, 1) := by decide +kernel
theorem dX4_fewestNets_61 : decode cX4_fewestNets 61 = .ok (.invokevirtual 59, 3) := by decide +kernel
theorem dX4_fewestNets_64 : decode cX4_fewestNets 64 = .ok (.aload_n 0, 1) := by decide +kernel
theorem dX4_fewestNets_65 : decode cX4_fewestNets 65 = .ok (.getfield 56, 3) := by decide +kernel
theorem dX4_fewestNets_68 : decode cX4_fewestNets 68 = .ok (.ireturn, 1) := by decide +kernel
theorem dX4_putFrom_0 : decode cX4_putFrom 0 = .ok (.iload_n 2, 1) := by decide +kernel
theorem dX4_putFrom_1 : decode cX4_putFrom 1 = .ok (.aload_n 0, 1) := by decide +kernel
theorem dX4_putFrom_2 : decode cX4_putFrom 2 = .ok (.getfield 56, 3) := by decide +kernel
theorem dX4_putFrom_5 : decode cX4_putFrom 5 = .ok (.if_icmp .lt 4, 3) := by decide +kernel
theorem dX4_putFrom_8 : decode cX4_putFrom 8 = .ok (.return_, 1) := by decide +kernel
theorem dX4_putFrom_9 : decode cX4_putFrom 9 = .ok (.iload_n 1, 1) := by decide +kernel
theorem dX4_putFrom_10 : decode cX4_putFrom 10 = .ok (.aload_n 0, 1) := by decide +kernel
theorem dX4_putFrom_11 : decode cX4_putFrom 11 = .ok (.getfield 12, 3) := by decide +kernel
theorem dX4_putFrom_14 : decode cX4_putFrom 14 = .ok (.invokevirtual 28, 3) := by decide +kernel
theorem dX4_putFrom_17 : decode cX4_putFrom 17 = .ok (.if_icmp .lt 9, 3) := by decide +kernel
theorem dX4_putFrom_20 : decode cX4_putFrom 20 = .ok (.aload_n 0, 1) := by decide +kernel
theorem dX4_putFrom_21 : decode cX4_putFrom 21 = .ok (.iload_n 2, 1) := by decide +kernel
theorem dX4_putFrom_22 : decode cX4_putFrom 22 = .ok (.putfield 56, 3) := by decide +kernel
theorem dX4_putFrom_25 : decode cX4_putFrom 25 = .ok (.return_, 1) := by decide +kernel
theorem dX4_putFrom_26 : decode cX4_putFrom 26 = .ok (.aload_n 0, 1) := by decide +kernel
theorem dX4_putFrom_27 : decode cX4_putFrom 27 = .ok (.getfield 12, 3) := by decide +kernel
theorem dX4_putFrom_30 : decode cX4_putFrom 30 = .ok (.iload_n 1, 1) := by decide +kernel
theorem dX4_putFrom_31 : decode cX4_putFrom 31 = .ok (.invokevirtual 32, 3) := by decide +kernel
theorem dX4_putFrom_34 : decode cX4_putFrom 34 = .ok (.checkcast 36, 3) := by decide +kernel
theorem dX4_putFrom_37 : decode cX4_putFrom 37 = .ok (.astore_n 3, 1) := by decide +kernel
theorem dX4_putFrom_38 : decode cX4_putFrom 38 = .ok (.aload_n 3, 1) := by decide +kernel
theorem dX4_putFrom_39 : decode cX4_putFrom 39 = .ok (.invokevirtual 63, 3) := by decide +kernel
theorem dX4_putFrom_42 : decode cX4_putFrom 42 = .ok (.ifCond .eq 8, 3) := by decide +kernel
theorem dX4_putFrom_45 : decode cX4_putFrom 45 = .ok (.bipush 9, 2) := by decide +kernel
theorem dX4_putFrom_47 : decode cX4_putFrom 47 = .ok (.goto 7, 3) := by decide +kernel
theorem dX4_putFrom_50 : decode cX4_putFrom 50 = .ok (.aload_n 3, 1) := by decide +kernel
theorem dX4_putFrom_51 : decode cX4_putFrom 51 = .ok (.getfield 67, 3) := by decide +kernel
theorem dX4_putFrom_54 : decode cX4_putFrom 54 = .ok (.istore 4, 2) := by decide +kernel
theorem dX4_putFrom_56 : decode cX4_putFrom 56 = .ok (.iconst 0, 1) := by decide +kernel
theorem dX4_putFrom_57 : decode cX4_putFrom 57 = .ok (.istore 5, 2) := by decide +kernel
theorem dX4_putFrom_59 : decode cX4_putFrom 59 = .ok (.iload 5, 2) := by decide +kernel
theorem dX4_putFrom_61 : decode cX4_putFrom 61 = .ok (.iload_n 2, 1) := by decide +kernel
theorem dX4_putFrom_62 : decode cX4_putFrom 62 = .ok (.if_icmp .gt 122, 3) := by decide +kernel
theorem dX4_putFrom_65 : decode cX4_putFrom 65 = .ok (.iload 5, 2) := by decide +kernel
theorem dX4_putFrom_67 : decode cX4_putFrom 67 = .ok (.bipush 9, 2) := by decide +kernel
theorem dX4_putFrom_69 : decode cX4_putFrom 69 = .ok (.if_icmp .ge 115, 3) := by decide +kernel
theorem dX4_putFrom_72 : decode cX4_putFrom 72 = .ok (.aload_n 0, 1) := by decide +kernel
theorem dX4_putFrom_73 : decode cX4_putFrom 73 = .ok (.getfield 18, 3) := by decide +kernel
theorem dX4_putFrom_76 : decode cX4_putFrom 76 = .ok (.iload 5, 2) := by decide +kernel
theorem dX4_putFrom_78 : decode cX4_putFrom 78 = .ok (.iaload, 1) := by decide +kernel
theorem dX4_putFrom_79 : decode cX4_putFrom 79 = .ok (.aload_n 3, 1) := by decide +kernel
theorem dX4_putFrom_80 : decode cX4_putFrom 80 = .ok (.getfield 50, 3) := by decide +kernel
theorem dX4_putFrom_83 : decode cX4_putFrom 83 = .ok (.iadd, 1) := by decide +kernel
theorem dX4_putFrom_84 : decode cX4_putFrom 84 = .ok (.aload_n 0, 1) := by decide +kernel
theorem dX4_putFrom_85 : decode cX4_putFrom 85 = .ok (.getfield 53, 3) := by decide +kernel
theorem dX4_putFrom_88 : decode cX4_putFrom 88 = .ok (.if_icmp .gt 90, 3) := by decide +kernel
theorem dX4_putFrom_91 : decode cX4_putFrom 91 = .ok (.aload_n 0, 1) := by decide +kernel
theorem dX4_putFrom_92 : decode cX4_putFrom 92 = .ok (.getfield 22, 3) := by decide +kernel
theorem dX4_putFrom_95 : decode cX4_putFrom 95 = .ok (.iload 5, 2) := by decide +kernel
theorem dX4_putFrom_97 : decode cX4_putFrom 97 = .ok (.iaload, 1) := by decide +kernel
theorem dX4_putFrom_98 : decode cX4_putFrom 98 = .ok (.iload 4, 2) := by decide +kernel
theorem dX4_putFrom_100 : decode cX4_putFrom 100 = .ok (.iadd, 1) := by decide +kernel
theorem dX4_putFrom_101 : decode cX4_putFrom 101 = .ok (.bipush 9, 2) := by decide +kernel
theorem dX4_putFrom_103 : decode cX4_putFrom 103 = .ok (.if_icmp .gt 75, 3) := by decide +kernel
theorem dX4_putFrom_106 : decode cX4_putFrom 106 = .ok (.aload_n 0, 1) := by decide +kernel
theorem dX4_putFrom_107 : decode cX4_putFrom 107 = .ok (.getfield 18, 3) := by decide +kernel
theorem dX4_putFrom_110 : decode cX4_putFrom 110 = .ok (.iload 5, 2) := by decide +kernel
theorem dX4_putFrom_112 : decode cX4_putFrom 112 = .ok (.dup2, 1) := by decide +kernel
theorem dX4_putFrom_113 : decode cX4_putFrom 113 = .ok (.iaload, 1) := by decide +kernel
theorem dX4_putFrom_114 : decode cX4_putFrom 114 = .ok (.aload_n 3, 1) := by decide +kernel
theorem dX4_putFrom_115 : decode cX4_putFrom 115 = .ok (.getfield 50, 3) := by decide +kernel
theorem dX4_putFrom_118 : decode cX4_putFrom 118 = .ok (.iadd, 1) := by decide +kernel
theorem dX4_putFrom_119 : decode cX4_putFrom 119 = .ok (.iastore, 1) := by decide +kernel
theorem dX4_putFrom_120 : decode cX4_putFrom 120 = .ok (.aload_n 0, 1) := by decide +kernel
theorem dX4_putFrom_121 : decode cX4_putFrom 121 = .ok (.getfield 22, 3) := by decide +kernel
theorem dX4_putFrom_124 : decode cX4_putFrom 124 = .ok (.iload 5, 2) := by decide +kernel
theorem dX4_putFrom_126 : decode cX4_putFrom 126 = .ok (.dup2, 1) := by decide +kernel
theorem dX4_putFrom_127 : decode cX4_putFrom 127 = .ok (.iaload, 1) := by decide +kernel
theorem dX4_putFrom_128 : decode cX4_putFrom 128 = .ok (.iload 4, 2) := by decide +kernel
theorem dX4_putFrom_130 : decode cX4_putFrom 130 = .ok (.iadd, 1) := by decide +kernel
theorem dX4_putFrom_131 : decode cX4_putFrom 131 = .ok (.iastore, 1) := by decide +kernel
theorem dX4_putFrom_132 : decode cX4_putFrom 132 = .ok (.aload_n 0, 1) := by decide +kernel
theorem dX4_putFrom_133 : decode cX4_putFrom 133 = .ok (.iload_n 1, 1) := by decide +kernel
theorem dX4_putFrom_134 : decode cX4_putFrom 134 = .ok (.iconst 1, 1) := by decide +kernel
theorem dX4_putFrom_135 : decode cX4_putFrom 135 = .ok (.iadd, 1) := by decide +kernel
theorem dX4_putFrom_136 : decode cX4_putFrom 136 = .ok (.iload 5, 2) := by decide +kernel
theorem dX4_putFrom_138 : decode cX4_putFrom 138 = .ok (.iload_n 2, 1) := by decide +kernel
theorem dX4_putFrom_139 : decode cX4_putFrom 139 = .ok (.if_icmp .ne 9, 3) := by decide +kernel
theorem dX4_putFrom_142 : decode cX4_putFrom 142 = .ok (.iload_n 2, 1) := by decide +kernel
theorem dX4_putFrom_143 : decode cX4_putFrom 143 = .ok (.iconst 1, 1) := by decide +kernel
theorem dX4_putFrom_144 : decode cX4_putFrom 144 = .ok (.iadd, 1) := by decide +kernel
theorem dX4_putFrom_145 : decode cX4_putFrom 145 = .ok (.goto 4, 3) := by decide +kernel
theorem dX4_putFrom_148 : decode cX4_putFrom 148 = .ok (.iload_n 2, 1) := by decide +kernel
theorem dX4_putFrom_149 : decode cX4_putFrom 149 = .ok (.invokevirtual 59, 3) := by decide +kernel
theorem dX4_putFrom_152 : decode cX4_putFrom 152 = .ok (.aload_n 0, 1) := by decide +kernel
theorem dX4_putFrom_153 : decode cX4_putFrom 153 = .ok (.getfield 18, 3) := by decide +kernel
theorem dX4_putFrom_156 : decode cX4_putFrom 156 = .ok (.iload 5, 2) := by decide +kernel
theorem dX4_putFrom_158 : decode cX4_putFrom 158 = .ok (.dup2, 1) := by decide +kernel
theorem dX4_putFrom_159 : decode cX4_putFrom 159 = .ok (.iaload, 1) := by decide +kernel
theorem dX4_putFrom_160 : decode cX4_putFrom 160 = .ok (.aload_n 3, 1) := by decide +kernel
theorem dX4_putFrom_161 : decode cX4_putFrom 161 = .ok (.getfield 50, 3) := by decide +kernel
theorem dX4_putFrom_164 : decode cX4_putFrom 164 = .ok (.isub, 1) := by decide +kernel
theorem dX4_putFrom_165 : decode cX4_putFrom 165 = .ok (.iastore, 1) := by decide +kernel
theorem dX4_putFrom_166 : decode cX4_putFrom 166 = .ok (.aload_n 0, 1) := by decide +kernel
theorem dX4_putFrom_167 : decode cX4_putFrom 167 = .ok (.getfield 22, 3) := by decide +kernel
theorem dX4_putFrom_170 : decode cX4_putFrom 170 = .ok (.iload 5, 2) := by decide +kernel
theorem dX4_putFrom_172 : decode cX4_putFrom 172 = .ok (.dup2, 1) := by decide +kernel
theorem dX4_putFrom_173 : decode cX4_putFrom 173 = .ok (.iaload, 1) := by decide +kernel
theorem dX4_putFrom_174 : decode cX4_putFrom 174 = .ok (.iload 4, 2) := by decide +kernel
theorem dX4_putFrom_176 : decode cX4_putFrom 176 = .ok (.isub, 1) := by decide +kernel
theorem dX4_putFrom_177 : decode cX4_putFrom 177 = .ok (.iastore, 1) := by decide +kernel
theorem dX4_putFrom_178 : decode cX4_putFrom 178 = .ok (.iinc 5 1, 3) := by decide +kernel
theorem dX4_putFrom_181 : decode cX4_putFrom 181 = .ok (.goto (-122), 3) := by decide +kernel
theorem dX4_putFrom_184 : decode cX4_putFrom 184 = .ok (.return_, 1) := by decide +kernel
theorem dX5_init_0 : decode cX5_init 0 = .ok (.aload_n 0, 1) := by decide +kernel
theorem dX5_init_1 : decode cX5_init 1 = .ok (.invokespecial 1, 3) := by decide +kernel
theorem dX5_init_4 : decode cX5_init 4 = .ok (.aload_n 0, 1) := by decide +kernel
theorem dX5_init_5 : decode cX5_init 5 = .ok (.iload_n 1, 1) := by decide +kernel
theorem dX5_init_6 : decode cX5_init 6 = .ok (.putfield 7, 3) := by decide +kernel
theorem dX5_init_9 : decode cX5_init 9 = .ok (.aload_n 0, 1) := by decide +kernel
theorem dX5_init_10 : decode cX5_init 10 = .ok (.iload_n 2, 1) := by decide +kernel
theorem dX5_init_11 : decode cX5_init 11 = .ok (.putfield 13, 3) := by decide +kernel
theorem dX5_init_14 : decode cX5_init 14 = .ok (.return_, 1) := by decide +kernel
theorem dX6_init_0 : decode cX6_init 0 = .ok (.aload_n 0, 1) := by decide +kernel
theorem dX6_init_1 : decode cX6_init 1 = .ok (.invokespecial 3, 3) := by decide +kernel
theorem dX6_init_4 : decode cX6_init 4 = .ok (.aload_n 0, 1) := by decide +kernel
theorem dX6_init_5 : decode cX6_init 5 = .ok (.iload_n 1, 1) := by decide +kernel
theorem dX6_init_6 : decode cX6_init 6 = .ok (.putfield 9, 3) := by decide +kernel
theorem dX6_init_9 : decode cX6_init 9 = .ok (.aload_n 0, 1) := by decide +kernel
theorem dX6_init_10 : decode cX6_init 10 = .ok (.iload_n 2, 1) := by decide +kernel
theorem dX6_init_11 : decode cX6_init 11 = .ok (.putfield 15, 3) := by decide +kernel
theorem dX6_init_14 : decode cX6_init 14 = .ok (.aload_n 0, 1) := by decide +kernel
theorem dX6_init_15 : decode cX6_init 15 = .ok (.iload_n 3, 1) := by decide +kernel
theorem dX6_init_16 : decode cX6_init 16 = .ok (.putfield 18, 3) := by decide +kernel
theorem dX6_init_19 : decode cX6_init 19 = .ok (.return_, 1) := by decide +kernel
theorem dX6_minutesThereAndBack_0 : decode cX6_minutesThereAndBack 0 = .ok (.iconst 2, 1) := by decide +kernel
theorem dX6_minutesThereAndBack_1 : decode cX6_minutesThereAndBack 1 = .ok (.aload_n 0, 1) := by decide +kernel
theorem dX6_minutesThereAndBack_2 : decode cX6_minutesThereAndBack 2 = .ok (.getfield 18, 3) := by decide +kernel
theorem dX6_minutesThereAndBack_5 : decode cX6_minutesThereAndBack 5 = .ok (.imul, 1) := by decide +kernel
theorem dX6_minutesThereAndBack_6 : decode cX6_minutesThereAndBack 6 = .ok (.iconst 2, 1) := by decide +kernel
theorem dX6_minutesThereAndBack_7 : decode cX6_minutesThereAndBack 7 = .ok (.iadd, 1) := by decide +kernel
theorem dX6_minutesThereAndBack_8 : decode cX6_minutesThereAndBack 8 = .ok (.ireturn, 1) := by decide +kernel
theorem dX7_init_0 : decode cX7_init 0 = .ok (.aload_n 0, 1) := by decide +kernel
theorem dX7_init_1 : decode cX7_init 1 = .ok (.invokespecial 3, 3) := by decide +kernel
theorem dX7_init_4 : decode cX7_init 4 = .ok (.aload_n 0, 1) := by decide +kernel
theorem dX7_init_5 : decode cX7_init 5 = .ok (.aload_n 1, 1) := by decide +kernel
theorem dX7_init_6 : decode cX7_init 6 = .ok (.putfield 9, 3) := by decide +kernel
theorem dX7_init_9 : decode cX7_init 9 = .ok (.aload_n 0, 1) := by decide +kernel
theorem dX7_init_10 : decode cX7_init 10 = .ok (.iload_n 2, 1) := by decide +kernel
theorem dX7_init_11 : decode cX7_init 11 = .ok (.aload_n 1, 1) := by decide +kernel
theorem dX7_init_12 : decode cX7_init 12 = .ok (.arraylength, 1) := by decide +kernel
theorem dX7_init_13 : decode cX7_init 13 = .ok (.invokestatic 15, 3) := by decide +kernel
theorem dX7_init_16 : decode cX7_init 16 = .ok (.putfield 21, 3) := by decide +kernel
theorem dX7_init_19 : decode cX7_init 19 = .ok (.iconst 0, 1) := by decide +kernel
theorem dX7_init_20 : decode cX7_init 20 = .ok (.istore_n 3, 1) := by decide +kernel
theorem dX7_init_21 : decode cX7_init 21 = .ok (.iconst 0, 1) := by decide +kernel
theorem dX7_init_22 : decode cX7_init 22 = .ok (.istore 4, 2) := by decide +kernel
theorem dX7_init_24 : decode cX7_init 24 = .ok (.iconst 0, 1) := by decide +kernel
theorem dX7_init_25 : decode cX7_init 25 = .ok (.istore 5, 2) := by decide +kernel
theorem dX7_init_27 : decode cX7_init 27 = .ok (.iload 5, 2) := by decide +kernel
theorem dX7_init_29 : decode cX7_init 29 = .ok (.aload_n 0, 1) := by decide +kernel
theorem dX7_init_30 : decode cX7_init 30 = .ok (.getfield 21, 3) := by decide +kernel
theorem dX7_init_33 : decode cX7_init 33 = .ok (.if_icmp .ge 57, 3) := by decide +kernel
theorem dX7_init_36 : decode cX7_init 36 = .ok (.aload_n 1, 1) := by decide +kernel
theorem dX7_init_37 : decode cX7_init 37 = .ok (.iload 5, 2) := by decide +kernel
theorem dX7_init_39 : decode cX7_init 39 = .ok (.iaload, 1) := by decide +kernel
theorem dX7_init_40 : decode cX7_init 40 = .ok (.sipush 1000, 3) := by decide +kernel
theorem dX7_init_43 : decode cX7_init 43 = .ok (.isub, 1) := by decide +kernel
theorem dX7_init_44 : decode cX7_init 44 = .ok (.istore 6, 2) := by decide +kernel
theorem dX7_init_46 : decode cX7_init 46 = .ok (.iload_n 3, 1) := by decide +kernel
theorem dX7_init_47 : decode cX7_init 47 = .ok (.ifCond .ne 9, 3) := by decide +kernel
theorem dX7_init_50 : decode cX7_init 50 = .ok (.iload 6, 2) := by decide +kernel
theorem dX7_init_52 : decode cX7_init 52 = .ok (.iconst 4, 1) := by decide +kernel
theorem dX7_init_53 : decode cX7_init 53 = .ok (.if_icmp .ne 7, 3) := by decide +kernel
theorem dX7_init_56 : decode cX7_init 56 = .ok (.iconst 1, 1) := by decide +kernel
theorem dX7_init_57 : decode cX7_init 57 = .ok (.goto 4, 3) := by decide +kernel
theorem dX7_init_60 : decode cX7_init 60 = .ok (.iconst 0, 1) := by decide +kernel
theorem dX7_init_61 : decode cX7_init 61 = .ok (.istore_n 3, 1) := by decide +kernel
theorem dX7_init_62 : decode cX7_init 62 = .ok (.iload 4, 2) := by decide +kernel
theorem dX7_init_64 : decode cX7_init 64 = .ok (.ifCond .ne 13, 3) := by decide +kernel
theorem dX7_init_67 : decode cX7_init 67 = .ok (.iload 6, 2) := by decide +kernel
theorem dX7_init_69 : decode cX7_init 69 = .ok (.iconst 0, 1) := by decide +kernel
theorem dX7_init_70 : decode cX7_init 70 = .ok (.iconst 3, 1) := by decide +kernel
theorem dX7_init_71 : decode cX7_init 71 = .ok (.invokestatic 25, 3) := by decide +kernel
theorem dX7_init_74 : decode cX7_init 74 = .ok (.ifCond .eq 7, 3) := by decide +kernel
theorem dX7_init_77 : decode cX7_init 77 = .ok (.iconst 1, 1) := by decide +kernel
theorem dX7_init_78 : decode cX7_init 78 = .ok (.goto 4, 3) := by decide +kernel
theorem dX7_init_81 : decode cX7_init 81 = .ok (.iconst 0, 1) := by decide +kernel
theorem dX7_init_82 : decode cX7_init 82 = .ok (.istore 4, 2) := by decide +kernel
theorem dX7_init_84 : decode cX7_init 84 = .ok (.iinc 5 1, 3) := by decide +kernel
theorem dX7_init_87 : decode cX7_init 87 = .ok (.goto (-60), 3) := by decide +kernel
theorem dX7_init_90 : decode cX7_init 90 = .ok (.aload_n 0, 1) := by decide +kernel
theorem dX7_init_91 : decode cX7_init 91 = .ok (.iload_n 3, 1) := by decide +kernel
theorem dX7_init_92 : decode cX7_init 92 = .ok (.putfield 29, 3) := by decide +kernel
theorem dX7_init_95 : decode cX7_init 95 = .ok (.aload_n 0, 1) := by decide +kernel
theorem dX7_init_96 : decode cX7_init 96 = .ok (.iload 4, 2) := by decide +kernel
theorem dX7_init_98 : decode cX7_init 98 = .ok (.putfield 33, 3) := by decide +kernel
theorem dX7_init_101 : decode cX7_init 101 = .ok (.return_, 1) := by decide +kernel
theorem dX7_nextChange_0 : decode cX7_nextChange 0 = .ok (.aload_n 0, 1) := by decide +kernel
theorem dX7_nextChange_1 : decode cX7_nextChange 1 = .ok (.getfield 29, 3) := by decide +kernel
theorem dX7_nextChange_4 : decode cX7_nextChange 4 = .ok (.ifCond .eq 7, 3) := by decide +kernel
theorem dX7_nextChange_7 : decode cX7_nextChange 7 = .ok (.iload_n 1, 1) := by decide +kernel
theorem dX7_nextChange_8 : decode cX7_nextChange 8 = .ok (.iconst 1, 1) := by decide +kernel
theorem dX7_nextChange_9 : decode cX7_nextChange 9 = .ok (.iadd, 1) := by decide +kernel
theorem dX7_nextChange_10 : decode cX7_nextChange 10 = .ok (.ireturn, 1) := by decide +kernel
theorem dX7_nextChange_11 : decode cX7_nextChange 11 = .ok (.aload_n 0, 1) := by decide +kernel
theorem dX7_nextChange_12 : decode cX7_nextChange 12 = .ok (.getfield 33, 3) := by decide +kernel
theorem dX7_nextChange_15 : decode cX7_nextChange 15 = .ok (.ifCond .eq 15, 3) := by decide +kernel
theorem dX7_nextChange_18 : decode cX7_nextChange 18 = .ok (.iload_n 1, 1) := by decide +kernel
theorem dX7_nextChange_19 : decode cX7_nextChange 19 = .ok (.bipush 60, 2) := by decide +kernel
theorem dX7_nextChange_21 : decode cX7_nextChange 21 = .ok (.idiv, 1) := by decide +kernel
theorem dX7_nextChange_22 : decode cX7_nextChange 22 = .ok (.iconst 1, 1) := by decide +kernel
theorem dX7_nextChange_23 : decode cX7_nextChange 23 = .ok (.iadd, 1) := by decide +kernel
theorem dX7_nextChange_24 : decode cX7_nextChange 24 = .ok (.bipush 60, 2) := by decide +kernel
theorem dX7_nextChange_26 : decode cX7_nextChange 26 = .ok (.imul, 1) := by decide +kernel
theorem dX7_nextChange_27 : decode cX7_nextChange 27 = .ok (.goto 6, 3) := by decide +kernel
theorem dX7_nextChange_30 : decode cX7_nextChange 30 = .ok (.sipush 721, 3) := by decide +kernel
theorem dX7_nextChange_33 : decode cX7_nextChange 33 = .ok (.ireturn, 1) := by decide +kernel
theorem dX8_init_0 : decode cX8_init 0 = .ok (.aload_n 0, 1) := by decide +kernel
theorem dX8_init_1 : decode cX8_init 1 = .ok (.invokespecial 3, 3) := by decide +kernel
theorem dX8_init_4 : decode cX8_init 4 = .ok (.aload_n 0, 1) := by decide +kernel
theorem dX8_init_5 : decode cX8_init 5 = .ok (.new 9, 3) := by decide +kernel
theorem dX8_init_8 : decode cX8_init 8 = .ok (.dup, 1) := by decide +kernel
theorem dX8_init_9 : decode cX8_init 9 = .ok (.invokespecial 11, 3) := by decide +kernel
theorem dX8_init_12 : decode cX8_init 12 = .ok (.putfield 12, 3) := by decide +kernel
theorem dX8_init_15 : decode cX8_init 15 = .ok (.aload_n 0, 1) := by decide +kernel
theorem dX8_init_16 : decode cX8_init 16 = .ok (.bipush 11, 2) := by decide +kernel
theorem dX8_init_18 : decode cX8_init 18 = .ok (.newarray .int, 2) := by decide +kernel
theorem dX8_init_20 : decode cX8_init 20 = .ok (.putfield 18, 3) := by decide +kernel
theorem dX8_init_23 : decode cX8_init 23 = .ok (.aload_n 0, 1) := by decide +kernel
theorem dX8_init_24 : decode cX8_init 24 = .ok (.bipush 20, 2) := by decide +kernel
theorem dX8_init_26 : decode cX8_init 26 = .ok (.newarray .int, 2) := by decide +kernel
theorem dX8_init_28 : decode cX8_init 28 = .ok (.putfield 22, 3) := by decide +kernel
theorem dX8_init_31 : decode cX8_init 31 = .ok (.return_, 1) := by decide +kernel
theorem dX8_setTime_0 : decode cX8_setTime 0 = .ok (.iload_n 2, 1) := by decide +kernel
theorem dX8_setTime_1 : decode cX8_setTime 1 = .ok (.invokestatic 25, 3) := by decide +kernel
theorem dX8_setTime_4 : decode cX8_setTime 4 = .ok (.istore_n 3, 1) := by decide +kernel
theorem dX8_setTime_5 : decode cX8_setTime 5 = .ok (.aload_n 0, 1) := by decide +kernel
theorem dX8_setTime_6 : decode cX8_setTime 6 = .ok (.getfield 18, 3) := by decide +kernel
theorem dX8_setTime_9 : decode cX8_setTime 9 = .ok (.iconst 0, 1) := by decide +kernel
theorem dX8_setTime_10 : decode cX8_setTime 10 = .ok (.aload_n 1, 1) := by decide +kernel
theorem dX8_setTime_11 : decode cX8_setTime 11 = .ok (.getfield 31, 3) := by decide +kernel
theorem dX8_setTime_14 : decode cX8_setTime 14 = .ok (.iload_n 3, 1) := by decide +kernel
theorem dX8_setTime_15 : decode cX8_setTime 15 = .ok (.iaload, 1) := by decide +kernel
theorem dX8_setTime_16 : decode cX8_setTime 16 = .ok (.iastore, 1) := by decide +kernel
theorem dX8_setTime_17 : decode cX8_setTime 17 = .ok (.aload_n 0, 1) := by decide +kernel
theorem dX8_setTime_18 : decode cX8_setTime 18 = .ok (.getfield 18, 3) := by decide +kernel
theorem dX8_setTime_21 : decode cX8_setTime 21 = .ok (.iconst 1, 1) := by decide +kernel
theorem dX8_setTime_22 : decode cX8_setTime 22 = .ok (.aload_n 1, 1) := by decide +kernel
theorem dX8_setTime_23 : decode cX8_setTime 23 = .ok (.getfield 34, 3) := by decide +kernel
theorem dX8_setTime_26 : decode cX8_setTime 26 = .ok (.iload_n 3, 1) := by decide +kernel
theorem dX8_setTime_27 : decode cX8_setTime 27 = .ok (.iaload, 1) := by decide +kernel
theorem dX8_setTime_28 : decode cX8_setTime 28 = .ok (.iastore, 1) := by decide +kernel
theorem dX8_setTime_29 : decode cX8_setTime 29 = .ok (.aload_n 0, 1) := by decide +kernel
theorem dX8_setTime_30 : decode cX8_setTime 30 = .ok (.getfield 18, 3) := by decide +kernel
theorem dX8_setTime_33 : decode cX8_setTime 33 = .ok (.iconst 2, 1) := by decide +kernel
theorem dX8_setTime_34 : decode cX8_setTime 34 = .ok (.aload_n 1, 1) := by decide +kernel
theorem dX8_setTime_35 : decode cX8_setTime 35 = .ok (.getfield 37, 3) := by decide +kernel
theorem dX8_setTime_38 : decode cX8_setTime 38 = .ok (.iload_n 3, 1) := by decide +kernel
theorem dX8_setTime_39 : decode cX8_setTime 39 = .ok (.iaload, 1) := by decide +kernel
theorem dX8_setTime_40 : decode cX8_setTime 40 = .ok (.iastore, 1) := by decide +kernel
theorem dX8_setTime_41 : decode cX8_setTime 41 = .ok (.aload_n 0, 1) := by decide +kernel
theorem dX8_setTime_42 : decode cX8_setTime 42 = .ok (.getfield 18, 3) := by decide +kernel
theorem dX8_setTime_45 : decode cX8_setTime 45 = .ok (.iconst 3, 1) := by decide +kernel
theorem dX8_setTime_46 : decode cX8_setTime 46 = .ok (.iload_n 3, 1) := by decide +kernel
theorem dX8_setTime_47 : decode cX8_setTime 47 = .ok (.iastore, 1) := by decide +kernel
theorem dX8_setTime_48 : decode cX8_setTime 48 = .ok (.aload_n 0, 1) := by decide +kernel
theorem dX8_setTime_49 : decode cX8_setTime 49 = .ok (.getfield 18, 3) := by decide +kernel
theorem dX8_setTime_52 : decode cX8_setTime 52 = .ok (.iconst 4, 1) := by decide +kernel
theorem dX8_setTime_53 : decode cX8_setTime 53 = .ok (.iload_n 2, 1) := by decide +kernel
theorem dX8_setTime_54 : decode cX8_setTime 54 = .ok (.iastore, 1) := by decide +kernel
theorem dX8_setTime_55 : decode cX8_setTime 55 = .ok (.return_, 1) := by decide +kernel
theorem dX8_setGoal_0 : decode cX8_setGoal 0 = .ok (.aload_n 0, 1) := by decide +kernel
theorem dX8_setGoal_1 : decode cX8_setGoal 1 = .ok (.getfield 18, 3) := by decide +kernel
theorem dX8_setGoal_4 : decode cX8_setGoal 4 = .ok (.iconst 5, 1) := by decide +kernel
theorem dX8_setGoal_5 : decode cX8_setGoal 5 = .ok (.aload_n 1, 1) := by decide +kernel
theorem dX8_setGoal_6 : decode cX8_setGoal 6 = .ok (.getfield 40, 3) := by decide +kernel
theorem dX8_setGoal_9 : decode cX8_setGoal 9 = .ok (.iastore, 1) := by decide +kernel
theorem dX8_setGoal_10 : decode cX8_setGoal 10 = .ok (.aload_n 0, 1) := by decide +kernel
theorem dX8_setGoal_11 : decode cX8_setGoal 11 = .ok (.getfield 18, 3) := by decide +kernel
theorem dX8_setGoal_14 : decode cX8_setGoal 14 = .ok (.bipush 6, 2) := by decide +kernel
theorem dX8_setGoal_16 : decode cX8_setGoal 16 = .ok (.aload_n 1, 1) := by decide +kernel
theorem dX8_setGoal_17 : decode cX8_setGoal 17 = .ok (.getfield 46, 3) := by decide +kernel
theorem dX8_setGoal_20 : decode cX8_setGoal 20 = .ok (.iastore, 1) := by decide +kernel
theorem dX8_setGoal_21 : decode cX8_setGoal 21 = .ok (.return_, 1) := by decide +kernel
theorem dX8_setHanging_0 : decode cX8_setHanging 0 = .ok (.aload_n 0, 1) := by decide +kernel
theorem dX8_setHanging_1 : decode cX8_setHanging 1 = .ok (.getfield 18, 3) := by decide +kernel
theorem dX8_setHanging_4 : decode cX8_setHanging 4 = .ok (.bipush 7, 2) := by decide +kernel
theorem dX8_setHanging_6 : decode cX8_setHanging 6 = .ok (.aload_n 1, 1) := by decide +kernel
theorem dX8_setHanging_7 : decode cX8_setHanging 7 = .ok (.invokevirtual 49, 3) := by decide +kernel
theorem dX8_setHanging_10 : decode cX8_setHanging 10 = .ok (.iastore, 1) := by decide +kernel
theorem dX8_setHanging_11 : decode cX8_setHanging 11 = .ok (.aload_n 0, 1) := by decide +kernel
theorem dX8_setHanging_12 : decode cX8_setHanging 12 = .ok (.getfield 18, 3) := by decide +kernel
theorem dX8_setHanging_15 : decode cX8_setHanging 15 = .ok (.bipush 8, 2) := by decide +kernel
theorem dX8_setHanging_17 : decode cX8_setHanging 17 = .ok (.aload_n 1, 1) := by decide +kernel
theorem dX8_setHanging_18 : decode cX8_setHanging 18 = .ok (.getfield 55, 3) := by decide +kernel
theorem dX8_setHanging_21 : decode cX8_setHanging 21 = .ok (.invokestatic 58, 3) := by decide +kernel
theorem dX8_setHanging_24 : decode cX8_setHanging 24 = .ok (.iastore, 1) := by decide +kernel
theorem dX8_setHanging_25 : decode cX8_setHanging 25 = .ok (.aload_n 0, 1) := by decide +kernel
theorem dX8_setHanging_26 : decode cX8_setHanging 26 = .ok (.getfield 18, 3) := by decide +kernel
theorem dX8_setHanging_29 : decode cX8_setHanging 29 = .ok (.bipush 9, 2) := by decide +kernel
theorem dX8_setHanging_31 : decode cX8_setHanging 31 = .ok (.aload_n 1, 1) := by decide +kernel
theorem dX8_setHanging_32 : decode cX8_setHanging 32 = .ok (.getfield 55, 3) := by decide +kernel
theorem dX8_setHanging_35 : decode cX8_setHanging 35 = .ok (.invokevirtual 62, 3) := by decide +kernel
theorem dX8_setHanging_38 : decode cX8_setHanging 38 = .ok (.iastore, 1) := by decide +kernel
theorem dX8_setHanging_39 : decode cX8_setHanging 39 = .ok (.return_, 1) := by decide +kernel
theorem dX8_setFlown_0 : decode cX8_setFlown 0 = .ok (.aload_n 0, 1) := by decide +kernel
theorem dX8_setFlown_1 : decode cX8_setFlown 1 = .ok (.getfield 18, 3) := by decide +kernel
theorem dX8_setFlown_4 : decode cX8_setFlown 4 = .ok (.bipush 10, 2) := by decide +kernel
theorem dX8_setFlown_6 : decode cX8_setFlown 6 = .ok (.iload_n 1, 1) := by decide +kernel
theorem dX8_setFlown_7 : decode cX8_setFlown 7 = .ok (.iastore, 1) := by decide +kernel
theorem dX8_setFlown_8 : decode cX8_setFlown 8 = .ok (.return_, 1) := by decide +kernel
theorem dX8_firstBroken_0 : decode cX8_firstBroken 0 = .ok (.iconst 0, 1) := by decide +kernel
theorem dX8_firstBroken_1 : decode cX8_firstBroken 1 = .ok (.istore_n 1, 1) := by decide +kernel
theorem dX8_firstBroken_2 : decode cX8_firstBroken 2 = .ok (.iload_n 1, 1) := by decide +kernel
theorem dX8_firstBroken_3 : decode cX8_firstBroken 3 = .ok (.aload_n 0, 1) := by decide +kernel
theorem dX8_firstBroken_4 : decode cX8_firstBroken 4 = .ok (.getfield 12, 3) := by decide +kernel
theorem dX8_firstBroken_7 : decode cX8_firstBroken 7 = .ok (.invokevirtual 62, 3) := by decide +kernel
theorem dX8_firstBroken_10 : decode cX8_firstBroken 10 = .ok (.if_icmp .ge 29, 3) := by decide +kernel
theorem dX8_firstBroken_13 : decode cX8_firstBroken 13 = .ok (.aload_n 0, 1) := by decide +kernel
theorem dX8_firstBroken_14 : decode cX8_firstBroken 14 = .ok (.aload_n 0, 1) := by decide +kernel
theorem dX8_firstBroken_15 : decode cX8_firstBroken 15 = .ok (.getfield 12, 3) := by decide +kernel
theorem dX8_firstBroken_18 : decode cX8_firstBroken 18 = .ok (.iload_n 1, 1) := by decide +kernel
theorem dX8_firstBroken_19 : decode cX8_firstBroken 19 = .ok (.invokevirtual 65, 3) := by decide +kernel
theorem dX8_firstBroken_22 : decode cX8_firstBroken 22 = .ok (.checkcast 69, 3) := by decide +kernel
theorem dX8_firstBroken_25 : decode cX8_firstBroken 25 = .ok (.invokevirtual 71, 3) := by decide +kernel
theorem dX8_firstBroken_28 : decode cX8_firstBroken 28 = .ok (.ifCond .ne 5, 3) := by decide +kernel
theorem dX8_firstBroken_31 : decode cX8_firstBroken 31 = .ok (.iload_n 1, 1) := by decide +kernel
theorem dX8_firstBroken_32 : decode cX8_firstBroken 32 = .ok (.ireturn, 1) := by decide +kernel
theorem dX8_firstBroken_33 : decode cX8_firstBroken 33 = .ok (.iinc 1 1, 3) := by decide +kernel
theorem dX8_firstBroken_36 : decode cX8_firstBroken 36 = .ok (.goto (-34), 3) := by decide +kernel
theorem dX8_firstBroken_39 : decode cX8_firstBroken 39 = .ok (.iconst (-1), 1) := by decide +kernel
theorem dX8_firstBroken_40 : decode cX8_firstBroken 40 = .ok (.ireturn, 1) := by decide +kernel
theorem dX8_firstMinute_0 : decode cX8_firstMinute 0 = .ok (.iload_n 2, 1) := by decide +kernel
theorem dX8_firstMinute_1 : decode cX8_firstMinute 1 = .ok (.istore 4, 2) := by decide +kernel
theorem dX8_firstMinute_3 : decode cX8_firstMinute 3 = .ok (.iconst (-1), 1) := by decide +kernel
theorem dX8_firstMinute_4 : decode cX8_firstMinute 4 = .ok (.istore 5, 2) := by decide +kernel
theorem dX8_firstMinute_6 : decode cX8_firstMinute 6 = .ok (.iload 4, 2) := by decide +kernel
theorem dX8_firstMinute_8 : decode cX8_firstMinute 8 = .ok (.iload_n 3, 1) := by decide +kernel
theorem dX8_firstMinute_9 : decode cX8_firstMinute 9 = .ok (.if_icmp .gt 77, 3) := by decide +kernel
theorem dX8_firstMinute_12 : decode cX8_firstMinute 12 = .ok (.aload_n 0, 1) := by decide +kernel
theorem dX8_firstMinute_13 : decode cX8_firstMinute 13 = .ok (.aload_n 1, 1) := by decide +kernel
theorem dX8_firstMinute_14 : decode cX8_firstMinute 14 = .ok (.iload 4, 2) := by decide +kernel
theorem dX8_firstMinute_16 : decode cX8_firstMinute 16 = .ok (.invokevirtual 75, 3) := by decide +kernel
theorem dX8_firstMinute_19 : decode cX8_firstMinute 19 = .ok (.iload 5, 2) := by decide +kernel
theorem dX8_firstMinute_21 : decode cX8_firstMinute 21 = .ok (.ifCond .lt 22, 3) := by decide +kernel
theorem dX8_firstMinute_24 : decode cX8_firstMinute 24 = .ok (.aload_n 0, 1) := by decide +kernel
theorem dX8_firstMinute_25 : decode cX8_firstMinute 25 = .ok (.aload_n 0, 1) := by decide +kernel
theorem dX8_firstMinute_26 : decode cX8_firstMinute 26 = .ok (.getfield 12, 3) := by decide +kernel
theorem dX8_firstMinute_29 : decode cX8_firstMinute 29 = .ok (.iload 5, 2) := by decide +kernel
theorem dX8_firstMinute_31 : decode cX8_firstMinute 31 = .ok (.invokevirtual 65, 3) := by decide +kernel
theorem dX8_firstMinute_34 : decode cX8_firstMinute 34 = .ok (.checkcast 69, 3) := by decide +kernel
theorem dX8_firstMinute_37 : decode cX8_firstMinute 37 = .ok (.invokevirtual 71, 3) := by decide +kernel
theorem dX8_firstMinute_40 : decode cX8_firstMinute 40 = .ok (.ifCond .eq 9, 3) := by decide +kernel
theorem dX8_firstMinute_43 : decode cX8_firstMinute 43 = .ok (.aload_n 0, 1) := by decide +kernel
theorem dX8_firstMinute_44 : decode cX8_firstMinute 44 = .ok (.invokevirtual 79, 3) := by decide +kernel
theorem dX8_firstMinute_47 : decode cX8_firstMinute 47 = .ok (.istore 5, 2) := by decide +kernel
theorem dX8_firstMinute_49 : decode cX8_firstMinute 49 = .ok (.iload 5, 2) := by decide +kernel
theorem dX8_firstMinute_51 : decode cX8_firstMinute 51 = .ok (.ifCond .ge 6, 3) := by decide +kernel
theorem dX8_firstMinute_54 : decode cX8_firstMinute 54 = .ok (.iload 4, 2) := by decide +kernel
theorem dX8_firstMinute_56 : decode cX8_firstMinute 56 = .ok (.ireturn, 1) := by decide +kernel
theorem dX8_firstMinute_57 : decode cX8_firstMinute 57 = .ok (.iload 4, 2) := by decide +kernel
theorem dX8_firstMinute_59 : decode cX8_firstMinute 59 = .ok (.iconst 1, 1) := by decide +kernel
theorem dX8_firstMinute_60 : decode cX8_firstMinute 60 = .ok (.iadd, 1) := by decide +kernel
theorem dX8_firstMinute_61 : decode cX8_firstMinute 61 = .ok (.aload_n 0, 1) := by decide +kernel
theorem dX8_firstMinute_62 : decode cX8_firstMinute 62 = .ok (.getfield 12, 3) := by decide +kernel
theorem dX8_firstMinute_65 : decode cX8_firstMinute 65 = .ok (.iload 5, 2) := by decide +kernel
theorem dX8_firstMinute_67 : decode cX8_firstMinute 67 = .ok (.invokevirtual 65, 3) := by decide +kernel
theorem dX8_firstMinute_70 : decode cX8_firstMinute 70 = .ok (.checkcast 69, 3) := by decide +kernel
theorem dX8_firstMinute_73 : decode cX8_firstMinute 73 = .ok (.iload 4, 2) := by decide +kernel
theorem dX8_firstMinute_75 : decode cX8_firstMinute 75 = .ok (.invokevirtual 82, 3) := by decide +kernel
theorem dX8_firstMinute_78 : decode cX8_firstMinute 78 = .ok (.invokestatic 85, 3) := by decide +kernel
theorem dX8_firstMinute_81 : decode cX8_firstMinute 81 = .ok (.istore 4, 2) := by decide +kernel
theorem dX8_firstMinute_83 : decode cX8_firstMinute 83 = .ok (.goto (-77), 3) := by decide +kernel
theorem dX8_firstMinute_86 : decode cX8_firstMinute 86 = .ok (.iconst (-1), 1) := by decide +kernel
theorem dX8_firstMinute_87 : decode cX8_firstMinute 87 = .ok (.ireturn, 1) := by decide +kernel
theorem dX8_workOut_0 : decode cX8_workOut 0 = .ok (.aload_n 0, 1) := by decide +kernel
theorem dX8_workOut_1 : decode cX8_workOut 1 = .ok (.iconst 0, 1) := by decide +kernel
theorem dX8_workOut_2 : decode cX8_workOut 2 = .ok (.putfield 91, 3) := by decide +kernel
theorem dX8_workOut_5 : decode cX8_workOut 5 = .ok (.iconst 0, 1) := by decide +kernel
theorem dX8_workOut_6 : decode cX8_workOut 6 = .ok (.istore_n 2, 1) := by decide +kernel
theorem dX8_workOut_7 : decode cX8_workOut 7 = .ok (.iload_n 2, 1) := by decide +kernel
theorem dX8_workOut_8 : decode cX8_workOut 8 = .ok (.aload_n 1, 1) := by decide +kernel
theorem dX8_workOut_9 : decode cX8_workOut 9 = .ok (.getfield 94, 3) := by decide +kernel
theorem dX8_workOut_12 : decode cX8_workOut 12 = .ok (.if_icmp .ge 104, 3) := by decide +kernel
theorem dX8_workOut_15 : decode cX8_workOut 15 = .ok (.aload_n 1, 1) := by decide +kernel
theorem dX8_workOut_16 : decode cX8_workOut 16 = .ok (.getfield 96, 3) := by decide +kernel
theorem dX8_workOut_19 : decode cX8_workOut 19 = .ok (.iload_n 2, 1) := by decide +kernel
theorem dX8_workOut_20 : decode cX8_workOut 20 = .ok (.iaload, 1) := by decide +kernel
theorem dX8_workOut_21 : decode cX8_workOut 21 = .ok (.istore_n 3, 1) := by decide +kernel
theorem dX8_workOut_22 : decode cX8_workOut 22 = .ok (.iload_n 3, 1) := by decide +kernel
theorem dX8_workOut_23 : decode cX8_workOut 23 = .ok (.sipush 1000, 3) := by decide +kernel
theorem dX8_workOut_26 : decode cX8_workOut 26 = .ok (.if_icmp .ge 11, 3) := by decide +kernel
theorem dX8_workOut_29 : decode cX8_workOut 29 = .ok (.aload_n 0, 1) := by decide +kernel
theorem dX8_workOut_30 : decode cX8_workOut 30 = .ok (.iload_n 3, 1) := by decide +kernel
theorem dX8_workOut_31 : decode cX8_workOut 31 = .ok (.invokevirtual 99, 3) := by decide +kernel
theorem dX8_workOut_34 : decode cX8_workOut 34 = .ok (.goto 76, 3) := by decide +kernel
theorem dX8_workOut_37 : decode cX8_workOut 37 = .ok (.iload_n 3, 1) := by decide +kernel
theorem dX8_workOut_38 : decode cX8_workOut 38 = .ok (.sipush 2000, 3) := by decide +kernel
theorem dX8_workOut_41 : decode cX8_workOut 41 = .ok (.if_icmp .ge 19, 3) := by decide +kernel
theorem dX8_workOut_44 : decode cX8_workOut 44 = .ok (.aload_n 0, 1) := by decide +kernel
theorem dX8_workOut_45 : decode cX8_workOut 45 = .ok (.aload_n 0, 1) := by decide +kernel
theorem dX8_workOut_46 : decode cX8_workOut 46 = .ok (.iload_n 3, 1) := by decide +kernel
theorem dX8_workOut_47 : decode cX8_workOut 47 = .ok (.sipush 1000, 3) := by decide +kernel
theorem dX8_workOut_50 : decode cX8_workOut 50 = .ok (.isub, 1) := by decide +kernel
theorem dX8_workOut_51 : decode cX8_workOut 51 = .ok (.invokevirtual 103, 3) := by decide +kernel
theorem dX8_workOut_54 : decode cX8_workOut 54 = .ok (.invokevirtual 99, 3) := by decide +kernel
theorem dX8_workOut_57 : decode cX8_workOut 57 = .ok (.goto 53, 3) := by decide +kernel
theorem dX8_workOut_60 : decode cX8_workOut 60 = .ok (.iload_n 3, 1) := by decide +kernel
theorem dX8_workOut_61 : decode cX8_workOut 61 = .ok (.sipush 2033, 3) := by decide +kernel
theorem dX8_workOut_64 : decode cX8_workOut 64 = .ok (.if_icmp .ne 22, 3) := by decide +kernel
theorem dX8_workOut_67 : decode cX8_workOut 67 = .ok (.aload_n 0, 1) := by decide +kernel
theorem dX8_workOut_68 : decode cX8_workOut 68 = .ok (.aload_n 0, 1) := by decide +kernel
theorem dX8_workOut_69 : decode cX8_workOut 69 = .ok (.invokevirtual 106, 3) := by decide +kernel
theorem dX8_workOut_72 : decode cX8_workOut 72 = .ok (.ifCond .ne 7, 3) := by decide +kernel
theorem dX8_workOut_75 : decode cX8_workOut 75 = .ok (.iconst 1, 1) := by decide +kernel
theorem dX8_workOut_76 : decode cX8_workOut 76 = .ok (.goto 4, 3) := by decide +kernel
theorem dX8_workOut_79 : decode cX8_workOut 79 = .ok (.iconst 0, 1) := by decide +kernel
theorem dX8_workOut_80 : decode cX8_workOut 80 = .ok (.invokevirtual 99, 3) := by decide +kernel
theorem dX8_workOut_83 : decode cX8_workOut 83 = .ok (.goto 27, 3) := by decide +kernel
theorem dX8_workOut_86 : decode cX8_workOut 86 = .ok (.aload_n 0, 1) := by decide +kernel
theorem dX8_workOut_87 : decode cX8_workOut 87 = .ok (.invokevirtual 106, 3) := by decide +kernel
theorem dX8_workOut_90 : decode cX8_workOut 90 = .ok (.istore 4, 2) := by decide +kernel
theorem dX8_workOut_92 : decode cX8_workOut 92 = .ok (.aload_n 0, 1) := by decide +kernel
theorem dX8_workOut_93 : decode cX8_workOut 93 = .ok (.iload_n 3, 1) := by decide +kernel
theorem dX8_workOut_94 : decode cX8_workOut 94 = .ok (.sipush 2000, 3) := by decide +kernel
theorem dX8_workOut_97 : decode cX8_workOut 97 = .ok (.isub, 1) := by decide +kernel
theorem dX8_workOut_98 : decode cX8_workOut 98 = .ok (.aload_n 0, 1) := by decide +kernel
theorem dX8_workOut_99 : decode cX8_workOut 99 = .ok (.invokevirtual 106, 3) := by decide +kernel
theorem dX8_workOut_102 : decode cX8_workOut 102 = .ok (.iload 4, 2) := by decide +kernel
theorem dX8_workOut_104 : decode cX8_workOut 104 = .ok (.invokestatic 109, 3) := by decide +kernel
theorem dX8_workOut_107 : decode cX8_workOut 107 = .ok (.invokevirtual 99, 3) := by decide +kernel
theorem dX8_workOut_110 : decode cX8_workOut 110 = .ok (.iinc 2 1, 3) := by decide +kernel
theorem dX8_workOut_113 : decode cX8_workOut 113 = .ok (.goto (-106), 3) := by decide +kernel
theorem dX8_workOut_116 : decode cX8_workOut 116 = .ok (.aload_n 0, 1) := by decide +kernel
theorem dX8_workOut_117 : decode cX8_workOut 117 = .ok (.invokevirtual 106, 3) := by decide +kernel
theorem dX8_workOut_120 : decode cX8_workOut 120 = .ok (.ireturn, 1) := by decide +kernel
theorem dX8_joined_0 : decode cX8_joined 0 = .ok (.iload_n 0, 1) := by decide +kernel
theorem dX8_joined_1 : decode cX8_joined 1 = .ok (.tableswitch 174 38 62 #[160, 174, 174, 174, 123, 115, 174, 119, 174, 174, 174, 174, 174, 174, 174, 174, 174, 174, 174, 174, 174, 174, 127, 138, 149], 115) := by decide +kernel
theorem dX8_joined_116 : decode cX8_joined 116 = .ok (.iload_n 1, 1) := by decide +kernel
theorem dX8_joined_117 : decode cX8_joined 117 = .ok (.iload_n 2, 1) := by decide +kernel
theorem dX8_joined_118 : decode cX8_joined 118 = .ok (.iadd, 1) := by decide +kernel
theorem dX8_joined_119 : decode cX8_joined 119 = .ok (.ireturn, 1) := by decide +kernel
theorem dX8_joined_120 : decode cX8_joined 120 = .ok (.iload_n 1, 1) := by decide +kernel
theorem dX8_joined_121 : decode cX8_joined 121 = .ok (.iload_n 2, 1) := by decide +kernel
theorem dX8_joined_122 : decode cX8_joined 122 = .ok (.isub, 1) := by decide +kernel
theorem dX8_joined_123 : decode cX8_joined 123 = .ok (.ireturn, 1) := by decide +kernel
theorem dX8_joined_124 : decode cX8_joined 124 = .ok (.iload_n 1, 1) := by decide +kernel
theorem dX8_joined_125 : decode cX8_joined 125 = .ok (.iload_n 2, 1) := by decide +kernel
theorem dX8_joined_126 : decode cX8_joined 126 = .ok (.imul, 1) := by decide +kernel
theorem dX8_joined_127 : decode cX8_joined 127 = .ok (.ireturn, 1) := by decide +kernel
theorem dX8_joined_128 : decode cX8_joined 128 = .ok (.iload_n 1, 1) := by decide +kernel
theorem dX8_joined_129 : decode cX8_joined 129 = .ok (.iload_n 2, 1) := by decide +kernel
theorem dX8_joined_130 : decode cX8_joined 130 = .ok (.if_icmp .ge 7, 3) := by decide +kernel
theorem dX8_joined_133 : decode cX8_joined 133 = .ok (.iconst 1, 1) := by decide +kernel
theorem dX8_joined_134 : decode cX8_joined 134 = .ok (.goto 4, 3) := by decide +kernel
theorem dX8_joined_137 : decode cX8_joined 137 = .ok (.iconst 0, 1) := by decide +kernel
theorem dX8_joined_138 : decode cX8_joined 138 = .ok (.ireturn, 1) := by decide +kernel
theorem dX8_joined_139 : decode cX8_joined 139 = .ok (.iload_n 1, 1) := by decide +kernel
theorem dX8_joined_140 : decode cX8_joined 140 = .ok (.iload_n 2, 1) := by decide +kernel
theorem dX8_joined_141 : decode cX8_joined 141 = .ok (.if_icmp .ne 7, 3) := by decide +kernel
theorem dX8_joined_144 : decode cX8_joined 144 = .ok (.iconst 1, 1) := by decide +kernel
theorem dX8_joined_145 : decode cX8_joined 145 = .ok (.goto 4, 3) := by decide +kernel
theorem dX8_joined_148 : decode cX8_joined 148 = .ok (.iconst 0, 1) := by decide +kernel
theorem dX8_joined_149 : decode cX8_joined 149 = .ok (.ireturn, 1) := by decide +kernel
theorem dX8_joined_150 : decode cX8_joined 150 = .ok (.iload_n 1, 1) := by decide +kernel
theorem dX8_joined_151 : decode cX8_joined 151 = .ok (.iload_n 2, 1) := by decide +kernel
theorem dX8_joined_152 : decode cX8_joined 152 = .ok (.if_icmp .le 7, 3) := by decide +kernel
theorem dX8_joined_155 : decode cX8_joined 155 = .ok (.iconst 1, 1) := by decide +kernel
theorem dX8_joined_156 : decode cX8_joined 156 = .ok (.goto 4, 3) := by decide +kernel
theorem dX8_joined_159 : decode cX8_joined 159 = .ok (.iconst 0, 1) := by decide +kernel
theorem dX8_joined_160 : decode cX8_joined 160 = .ok (.ireturn, 1) := by decide +kernel
theorem dX8_joined_161 : decode cX8_joined 161 = .ok (.iload_n 1, 1) := by decide +kernel
theorem dX8_joined_162 : decode cX8_joined 162 = .ok (.ifCond .eq 11, 3) := by decide +kernel
theorem dX8_joined_165 : decode cX8_joined 165 = .ok (.iload_n 2, 1) := by decide +kernel
theorem dX8_joined_166 : decode cX8_joined 166 = .ok (.ifCond .eq 7, 3) := by decide +kernel
theorem dX8_joined_169 : decode cX8_joined 169 = .ok (.iconst 1, 1) := by decide +kernel
theorem dX8_joined_170 : decode cX8_joined 170 = .ok (.goto 4, 3) := by decide +kernel
theorem dX8_joined_173 : decode cX8_joined 173 = .ok (.iconst 0, 1) := by decide +kernel
theorem dX8_joined_174 : decode cX8_joined 174 = .ok (.ireturn, 1) := by decide +kernel
theorem dX8_joined_175 : decode cX8_joined 175 = .ok (.iload_n 1, 1) := by decide +kernel
theorem dX8_joined_176 : decode cX8_joined 176 = .ok (.ifCond .ne 7, 3) := by decide +kernel
theorem dX8_joined_179 : decode cX8_joined 179 = .ok (.iload_n 2, 1) := by decide +kernel
theorem dX8_joined_180 : decode cX8_joined 180 = .ok (.ifCond .eq 7, 3) := by decide +kernel
theorem dX8_joined_183 : decode cX8_joined 183 = .ok (.iconst 1, 1) := by decide +kernel
theorem dX8_joined_184 : decode cX8_joined 184 = .ok (.goto 4, 3) := by decide +kernel
theorem dX8_joined_187 : decode cX8_joined 187 = .ok (.iconst 0, 1) := by decide +kernel
theorem dX8_joined_188 : decode cX8_joined 188 = .ok (.ireturn, 1) := by decide +kernel
theorem dX8_named_0 : decode cX8_named 0 = .ok (.iload_n 1, 1) := by decide +kernel
theorem dX8_named_1 : decode cX8_named 1 = .ok (.ifCond .lt 21, 3) := by decide +kernel
theorem dX8_named_4 : decode cX8_named 4 = .ok (.iload_n 1, 1) := by decide +kernel
theorem dX8_named_5 : decode cX8_named 5 = .ok (.aload_n 0, 1) := by decide +kernel
theorem dX8_named_6 : decode cX8_named 6 = .ok (.getfield 18, 3) := by decide +kernel
theorem dX8_named_9 : decode cX8_named 9 = .ok (.arraylength, 1) := by decide +kernel
theorem dX8_named_10 : decode cX8_named 10 = .ok (.if_icmp .ge 12, 3) := by decide +kernel
theorem dX8_named_13 : decode cX8_named 13 = .ok (.aload_n 0, 1) := by decide +kernel
theorem dX8_named_14 : decode cX8_named 14 = .ok (.getfield 18, 3) := by decide +kernel
theorem dX8_named_17 : decode cX8_named 17 = .ok (.iload_n 1, 1) := by decide +kernel
theorem dX8_named_18 : decode cX8_named 18 = .ok (.iaload, 1) := by decide +kernel
theorem dX8_named_19 : decode cX8_named 19 = .ok (.goto 4, 3) := by decide +kernel
theorem dX8_named_22 : decode cX8_named 22 = .ok (.iconst 0, 1) := by decide +kernel
theorem dX8_named_23 : decode cX8_named 23 = .ok (.ireturn, 1) := by decide +kernel
theorem dX8_lay_0 : decode cX8_lay 0 = .ok (.aload_n 0, 1) := by decide +kernel
theorem dX8_lay_1 : decode cX8_lay 1 = .ok (.getfield 91, 3) := by decide +kernel
theorem dX8_lay_4 : decode cX8_lay 4 = .ok (.aload_n 0, 1) := by decide +kernel
theorem dX8_lay_5 : decode cX8_lay 5 = .ok (.getfield 22, 3) := by decide +kernel
theorem dX8_lay_8 : decode cX8_lay 8 = .ok (.arraylength, 1) := by decide +kernel
theorem dX8_lay_9 : decode cX8_lay 9 = .ok (.if_icmp .ge 23, 3) := by decide +kernel
theorem dX8_lay_12 : decode cX8_lay 12 = .ok (.aload_n 0, 1) := by decide +kernel
theorem dX8_lay_13 : decode cX8_lay 13 = .ok (.getfield 22, 3) := by decide +kernel
theorem dX8_lay_16 : decode cX8_lay 16 = .ok (.aload_n 0, 1) := by decide +kernel
theorem dX8_lay_17 : decode cX8_lay 17 = .ok (.getfield 91, 3) := by decide +kernel
theorem dX8_lay_20 : decode cX8_lay 20 = .ok (.iload_n 1, 1) := by decide +kernel
theorem dX8_lay_21 : decode cX8_lay 21 = .ok (.iastore, 1) := by decide +kernel
theorem dX8_lay_22 : decode cX8_lay 22 = .ok (.aload_n 0, 1) := by decide +kernel
theorem dX8_lay_23 : decode cX8_lay 23 = .ok (.dup, 1) := by decide +kernel
theorem dX8_lay_24 : decode cX8_lay 24 = .ok (.getfield 91, 3) := by decide +kernel
theorem dX8_lay_27 : decode cX8_lay 27 = .ok (.iconst 1, 1) := by decide +kernel
theorem dX8_lay_28 : decode cX8_lay 28 = .ok (.iadd, 1) := by decide +kernel
theorem dX8_lay_29 : decode cX8_lay 29 = .ok (.putfield 91, 3) := by decide +kernel
theorem dX8_lay_32 : decode cX8_lay 32 = .ok (.return_, 1) := by decide +kernel
theorem dX8_take_0 : decode cX8_take 0 = .ok (.aload_n 0, 1) := by decide +kernel
theorem dX8_take_1 : decode cX8_take 1 = .ok (.getfield 91, 3) := by decide +kernel
theorem dX8_take_4 : decode cX8_take 4 = .ok (.ifCond .gt 5, 3) := by decide +kernel
theorem dX8_take_7 : decode cX8_take 7 = .ok (.iconst 0, 1) := by decide +kernel
theorem dX8_take_8 : decode cX8_take 8 = .ok (.ireturn, 1) := by decide +kernel
theorem dX8_take_9 : decode cX8_take 9 = .ok (.aload_n 0, 1) := by decide +kernel
theorem dX8_take_10 : decode cX8_take 10 = .ok (.dup, 1) := by decide +kernel
theorem dX8_take_11 : decode cX8_take 11 = .ok (.getfield 91, 3) := by decide +kernel
theorem dX8_take_14 : decode cX8_take 14 = .ok (.iconst 1, 1) := by decide +kernel
theorem dX8_take_15 : decode cX8_take 15 = .ok (.isub, 1) := by decide +kernel
theorem dX8_take_16 : decode cX8_take 16 = .ok (.putfield 91, 3) := by decide +kernel
theorem dX8_take_19 : decode cX8_take 19 = .ok (.aload_n 0, 1) := by decide +kernel
theorem dX8_take_20 : decode cX8_take 20 = .ok (.getfield 22, 3) := by decide +kernel
theorem dX8_take_23 : decode cX8_take 23 = .ok (.aload_n 0, 1) := by decide +kernel
theorem dX8_take_24 : decode cX8_take 24 = .ok (.getfield 91, 3) := by decide +kernel
theorem dX8_take_27 : decode cX8_take 27 = .ok (.iaload, 1) := by decide +kernel
theorem dX8_take_28 : decode cX8_take 28 = .ok (.ireturn, 1) := by decide +kernel
theorem dX9_init_0 : decode cX9_init 0 = .ok (.aload_n 0, 1) := by decide +kernel
theorem dX9_init_1 : decode cX9_init 1 = .ok (.invokespecial 3, 3) := by decide +kernel
theorem dX9_init_4 : decode cX9_init 4 = .ok (.aload_n 0, 1) := by decide +kernel
theorem dX9_init_5 : decode cX9_init 5 = .ok (.bipush 60, 2) := by decide +kernel
theorem dX9_init_7 : decode cX9_init 7 = .ok (.newarray .int, 2) := by decide +kernel
theorem dX9_init_9 : decode cX9_init 9 = .ok (.putfield 9, 3) := by decide +kernel
theorem dX9_init_12 : decode cX9_init 12 = .ok (.return_, 1) := by decide +kernel
theorem dX9_write_0 : decode cX9_write 0 = .ok (.iconst 0, 1) := by decide +kernel
theorem dX9_write_1 : decode cX9_write 1 = .ok (.istore_n 3, 1) := by decide +kernel
theorem dX9_write_2 : decode cX9_write 2 = .ok (.iload_n 3, 1) := by decide +kernel
theorem dX9_write_3 : decode cX9_write 3 = .ok (.iload_n 1, 1) := by decide +kernel
theorem dX9_write_4 : decode cX9_write 4 = .ok (.if_icmp .ge 50, 3) := by decide +kernel
theorem dX9_write_7 : decode cX9_write 7 = .ok (.aload_n 0, 1) := by decide +kernel
theorem dX9_write_8 : decode cX9_write 8 = .ok (.getfield 15, 3) := by decide +kernel
theorem dX9_write_11 : decode cX9_write 11 = .ok (.aload_n 0, 1) := by decide +kernel
theorem dX9_write_12 : decode cX9_write 12 = .ok (.getfield 9, 3) := by decide +kernel
theorem dX9_write_15 : decode cX9_write 15 = .ok (.arraylength, 1) := by decide +kernel
theorem dX9_write_16 : decode cX9_write 16 = .ok (.if_icmp .ge 38, 3) := by decide +kernel
theorem dX9_write_19 : decode cX9_write 19 = .ok (.aload_n 0, 1) := by decide +kernel
theorem dX9_write_20 : decode cX9_write 20 = .ok (.getfield 9, 3) := by decide +kernel
theorem dX9_write_23 : decode cX9_write 23 = .ok (.aload_n 0, 1) := by decide +kernel
theorem dX9_write_24 : decode cX9_write 24 = .ok (.getfield 15, 3) := by decide +kernel
theorem dX9_write_27 : decode cX9_write 27 = .ok (.iload_n 2, 1) := by decide +kernel
theorem dX9_write_28 : decode cX9_write 28 = .ok (.bipush 8, 2) := by decide +kernel
theorem dX9_write_30 : decode cX9_write 30 = .ok (.iload_n 3, 1) := by decide +kernel
theorem dX9_write_31 : decode cX9_write 31 = .ok (.imul, 1) := by decide +kernel
theorem dX9_write_32 : decode cX9_write 32 = .ok (.iushr, 1) := by decide +kernel
theorem dX9_write_33 : decode cX9_write 33 = .ok (.sipush 255, 3) := by decide +kernel
theorem dX9_write_36 : decode cX9_write 36 = .ok (.iand, 1) := by decide +kernel
theorem dX9_write_37 : decode cX9_write 37 = .ok (.iastore, 1) := by decide +kernel
theorem dX9_write_38 : decode cX9_write 38 = .ok (.aload_n 0, 1) := by decide +kernel
theorem dX9_write_39 : decode cX9_write 39 = .ok (.dup, 1) := by decide +kernel
theorem dX9_write_40 : decode cX9_write 40 = .ok (.getfield 15, 3) := by decide +kernel
theorem dX9_write_43 : decode cX9_write 43 = .ok (.iconst 1, 1) := by decide +kernel
theorem dX9_write_44 : decode cX9_write 44 = .ok (.iadd, 1) := by decide +kernel
theorem dX9_write_45 : decode cX9_write 45 = .ok (.putfield 15, 3) := by decide +kernel
theorem dX9_write_48 : decode cX9_write 48 = .ok (.iinc 3 1, 3) := by decide +kernel
theorem dX9_write_51 : decode cX9_write 51 = .ok (.goto (-49), 3) := by decide +kernel
theorem dX9_write_54 : decode cX9_write 54 = .ok (.return_, 1) := by decide +kernel
theorem dX9_firstFault_0 : decode cX9_firstFault 0 = .ok (.iconst 0, 1) := by decide +kernel
theorem dX9_firstFault_1 : decode cX9_firstFault 1 = .ok (.istore_n 1, 1) := by decide +kernel
theorem dX9_firstFault_2 : decode cX9_firstFault 2 = .ok (.iconst 0, 1) := by decide +kernel
theorem dX9_firstFault_3 : decode cX9_firstFault 3 = .ok (.istore_n 2, 1) := by decide +kernel
theorem dX9_firstFault_4 : decode cX9_firstFault 4 = .ok (.iconst 0, 1) := by decide +kernel
theorem dX9_firstFault_5 : decode cX9_firstFault 5 = .ok (.istore_n 3, 1) := by decide +kernel
theorem dX9_firstFault_6 : decode cX9_firstFault 6 = .ok (.iload_n 3, 1) := by decide +kernel
theorem dX9_firstFault_7 : decode cX9_firstFault 7 = .ok (.aload_n 0, 1) := by decide +kernel
theorem dX9_firstFault_8 : decode cX9_firstFault 8 = .ok (.getfield 15, 3) := by decide +kernel
theorem dX9_firstFault_11 : decode cX9_firstFault 11 = .ok (.if_icmp .ge 94, 3) := by decide +kernel
theorem dX9_firstFault_14 : decode cX9_firstFault 14 = .ok (.aload_n 0, 1) := by decide +kernel
theorem dX9_firstFault_15 : decode cX9_firstFault 15 = .ok (.getfield 9, 3) := by decide +kernel
theorem dX9_firstFault_18 : decode cX9_firstFault 18 = .ok (.iload_n 3, 1) := by decide +kernel
theorem dX9_firstFault_19 : decode cX9_firstFault 19 = .ok (.iaload, 1) := by decide +kernel
theorem dX9_firstFault_20 : decode cX9_firstFault 20 = .ok (.invokestatic 19, 3) := by decide +kernel
theorem dX9_firstFault_23 : decode cX9_firstFault 23 = .ok (.ifCond .eq 9, 3) := by decide +kernel
theorem dX9_firstFault_26 : decode cX9_firstFault 26 = .ok (.iload_n 2, 1) := by decide +kernel
theorem dX9_firstFault_27 : decode cX9_firstFault 27 = .ok (.iconst 1, 1) := by decide +kernel
theorem dX9_firstFault_28 : decode cX9_firstFault 28 = .ok (.iadd, 1) := by decide +kernel
theorem dX9_firstFault_29 : decode cX9_firstFault 29 = .ok (.goto 4, 3) := by decide +kernel
theorem dX9_firstFault_32 : decode cX9_firstFault 32 = .ok (.iconst 0, 1) := by decide +kernel
theorem dX9_firstFault_33 : decode cX9_firstFault 33 = .ok (.istore_n 2, 1) := by decide +kernel
theorem dX9_firstFault_34 : decode cX9_firstFault 34 = .ok (.iload_n 2, 1) := by decide +kernel
theorem dX9_firstFault_35 : decode cX9_firstFault 35 = .ok (.iconst 3, 1) := by decide +kernel
theorem dX9_firstFault_36 : decode cX9_firstFault 36 = .ok (.if_icmp .le 5, 3) := by decide +kernel
theorem dX9_firstFault_39 : decode cX9_firstFault 39 = .ok (.iload_n 3, 1) := by decide +kernel
theorem dX9_firstFault_40 : decode cX9_firstFault 40 = .ok (.ireturn, 1) := by decide +kernel
theorem dX9_firstFault_41 : decode cX9_firstFault 41 = .ok (.iload_n 2, 1) := by decide +kernel
theorem dX9_firstFault_42 : decode cX9_firstFault 42 = .ok (.iconst 1, 1) := by decide +kernel
theorem dX9_firstFault_43 : decode cX9_firstFault 43 = .ok (.if_icmp .gt 56, 3) := by decide +kernel
theorem dX9_firstFault_46 : decode cX9_firstFault 46 = .ok (.aload_n 0, 1) := by decide +kernel
theorem dX9_firstFault_47 : decode cX9_firstFault 47 = .ok (.getfield 9, 3) := by decide +kernel
theorem dX9_firstFault_50 : decode cX9_firstFault 50 = .ok (.iload_n 3, 1) := by decide +kernel
theorem dX9_firstFault_51 : decode cX9_firstFault 51 = .ok (.iaload, 1) := by decide +kernel
theorem dX9_firstFault_52 : decode cX9_firstFault 52 = .ok (.bipush 32, 2) := by decide +kernel
theorem dX9_firstFault_54 : decode cX9_firstFault 54 = .ok (.if_icmp .ne 6, 3) := by decide +kernel
theorem dX9_firstFault_57 : decode cX9_firstFault 57 = .ok (.goto 42, 3) := by decide +kernel
theorem dX9_firstFault_60 : decode cX9_firstFault 60 = .ok (.aload_n 0, 1) := by decide +kernel
theorem dX9_firstFault_61 : decode cX9_firstFault 61 = .ok (.getfield 9, 3) := by decide +kernel
theorem dX9_firstFault_64 : decode cX9_firstFault 64 = .ok (.iload_n 3, 1) := by decide +kernel
theorem dX9_firstFault_65 : decode cX9_firstFault 65 = .ok (.iaload, 1) := by decide +kernel
theorem dX9_firstFault_66 : decode cX9_firstFault 66 = .ok (.invokestatic 23, 3) := by decide +kernel
theorem dX9_firstFault_69 : decode cX9_firstFault 69 = .ok (.istore 4, 2) := by decide +kernel
theorem dX9_firstFault_71 : decode cX9_firstFault 71 = .ok (.iload 4, 2) := by decide +kernel
theorem dX9_firstFault_73 : decode cX9_firstFault 73 = .ok (.ifCond .lt 9, 3) := by decide +kernel
theorem dX9_firstFault_76 : decode cX9_firstFault 76 = .ok (.iload_n 1, 1) := by decide +kernel
theorem dX9_firstFault_77 : decode cX9_firstFault 77 = .ok (.iload 4, 2) := by decide +kernel
theorem dX9_firstFault_79 : decode cX9_firstFault 79 = .ok (.if_icmp .ge 5, 3) := by decide +kernel
theorem dX9_firstFault_82 : decode cX9_firstFault 82 = .ok (.iload_n 3, 1) := by decide +kernel
theorem dX9_firstFault_83 : decode cX9_firstFault 83 = .ok (.ireturn, 1) := by decide +kernel
theorem dX9_firstFault_84 : decode cX9_firstFault 84 = .ok (.iload_n 1, 1) := by decide +kernel
theorem dX9_firstFault_85 : decode cX9_firstFault 85 = .ok (.iconst 1, 1) := by decide +kernel
theorem dX9_firstFault_86 : decode cX9_firstFault 86 = .ok (.iload 4, 2) := by decide +kernel
theorem dX9_firstFault_88 : decode cX9_firstFault 88 = .ok (.isub, 1) := by decide +kernel
theorem dX9_firstFault_89 : decode cX9_firstFault 89 = .ok (.iadd, 1) := by decide +kernel
theorem dX9_firstFault_90 : decode cX9_firstFault 90 = .ok (.istore_n 1, 1) := by decide +kernel
theorem dX9_firstFault_91 : decode cX9_firstFault 91 = .ok (.iload_n 1, 1) := by decide +kernel
theorem dX9_firstFault_92 : decode cX9_firstFault 92 = .ok (.bipush 20, 2) := by decide +kernel
theorem dX9_firstFault_94 : decode cX9_firstFault 94 = .ok (.if_icmp .le 5, 3) := by decide +kernel
theorem dX9_firstFault_97 : decode cX9_firstFault 97 = .ok (.iload_n 3, 1) := by decide +kernel
theorem dX9_firstFault_98 : decode cX9_firstFault 98 = .ok (.ireturn, 1) := by decide +kernel
theorem dX9_firstFault_99 : decode cX9_firstFault 99 = .ok (.iinc 3 1, 3) := by decide +kernel
theorem dX9_firstFault_102 : decode cX9_firstFault 102 = .ok (.goto (-96), 3) := by decide +kernel
theorem dX9_firstFault_105 : decode cX9_firstFault 105 = .ok (.iload_n 1, 1) := by decide +kernel
theorem dX9_firstFault_106 : decode cX9_firstFault 106 = .ok (.iconst 1, 1) := by decide +kernel
theorem dX9_firstFault_107 : decode cX9_firstFault 107 = .ok (.if_icmp .ne 7, 3) := by decide +kernel
theorem dX9_firstFault_110 : decode cX9_firstFault 110 = .ok (.iconst (-1), 1) := by decide +kernel
theorem dX9_firstFault_111 : decode cX9_firstFault 111 = .ok (.goto 7, 3) := by decide +kernel
theorem dX9_firstFault_114 : decode cX9_firstFault 114 = .ok (.aload_n 0, 1) := by decide +kernel
theorem dX9_firstFault_115 : decode cX9_firstFault 115 = .ok (.getfield 15, 3) := by decide +kernel
theorem dX9_firstFault_118 : decode cX9_firstFault 118 = .ok (.ireturn, 1) := by decide +kernel
theorem dX9_asRule_0 : decode cX9_asRule 0 = .ok (.aload_n 0, 1) := by decide +kernel
theorem dX9_asRule_1 : decode cX9_asRule 1 = .ok (.getfield 15, 3) := by decide +kernel
theorem dX9_asRule_4 : decode cX9_asRule 4 = .ok (.newarray .int, 2) := by decide +kernel
theorem dX9_asRule_6 : decode cX9_asRule 6 = .ok (.astore_n 1, 1) := by decide +kernel
theorem dX9_asRule_7 : decode cX9_asRule 7 = .ok (.iconst 0, 1) := by decide +kernel
theorem dX9_asRule_8 : decode cX9_asRule 8 = .ok (.istore_n 2, 1) := by decide +kernel
theorem dX9_asRule_9 : decode cX9_asRule 9 = .ok (.iconst 0, 1) := by decide +kernel
theorem dX9_asRule_10 : decode cX9_asRule 10 = .ok (.istore_n 3, 1) := by decide +kernel
theorem dX9_asRule_11 : decode cX9_asRule 11 = .ok (.iconst 0, 1) := by decide +kernel
theorem dX9_asRule_12 : decode cX9_asRule 12 = .ok (.istore 4, 2) := by decide +kernel
theorem dX9_asRule_14 : decode cX9_asRule 14 = .ok (.iload 4, 2) := by decide +kernel
theorem dX9_asRule_16 : decode cX9_asRule 16 = .ok (.aload_n 0, 1) := by decide +kernel
theorem dX9_asRule_17 : decode cX9_asRule 17 = .ok (.getfield 15, 3) := by decide +kernel
theorem dX9_asRule_20 : decode cX9_asRule 20 = .ok (.if_icmp .ge 92, 3) := by decide +kernel
theorem dX9_asRule_23 : decode cX9_asRule 23 = .ok (.aload_n 0, 1) := by decide +kernel
theorem dX9_asRule_24 : decode cX9_asRule 24 = .ok (.getfield 9, 3) := by decide +kernel
theorem dX9_asRule_27 : decode cX9_asRule 27 = .ok (.iload 4, 2) := by decide +kernel
theorem dX9_asRule_29 : decode cX9_asRule 29 = .ok (.iaload, 1) := by decide +kernel
theorem dX9_asRule_30 : decode cX9_asRule 30 = .ok (.invokestatic 19, 3) := by decide +kernel
theorem dX9_asRule_33 : decode cX9_asRule 33 = .ok (.istore 5, 2) := by decide +kernel
theorem dX9_asRule_35 : decode cX9_asRule 35 = .ok (.iload 5, 2) := by decide +kernel
theorem dX9_asRule_37 : decode cX9_asRule 37 = .ok (.ifCond .eq 38, 3) := by decide +kernel
theorem dX9_asRule_40 : decode cX9_asRule 40 = .ok (.iload_n 3, 1) := by decide +kernel
theorem dX9_asRule_41 : decode cX9_asRule 41 = .ok (.ifCond .eq 34, 3) := by decide +kernel
theorem dX9_asRule_44 : decode cX9_asRule 44 = .ok (.iload_n 2, 1) := by decide +kernel
theorem dX9_asRule_45 : decode cX9_asRule 45 = .ok (.ifCond .le 30, 3) := by decide +kernel
theorem dX9_asRule_48 : decode cX9_asRule 48 = .ok (.aload_n 1, 1) := by decide +kernel
theorem dX9_asRule_49 : decode cX9_asRule 49 = .ok (.iload_n 2, 1) := by decide +kernel
theorem dX9_asRule_50 : decode cX9_asRule 50 = .ok (.iconst 1, 1) := by decide +kernel
theorem dX9_asRule_51 : decode cX9_asRule 51 = .ok (.isub, 1) := by decide +kernel
theorem dX9_asRule_52 : decode cX9_asRule 52 = .ok (.aload_n 1, 1) := by decide +kernel
theorem dX9_asRule_53 : decode cX9_asRule 53 = .ok (.iload_n 2, 1) := by decide +kernel
theorem dX9_asRule_54 : decode cX9_asRule 54 = .ok (.iconst 1, 1) := by decide +kernel
theorem dX9_asRule_55 : decode cX9_asRule 55 = .ok (.isub, 1) := by decide +kernel
theorem dX9_asRule_56 : decode cX9_asRule 56 = .ok (.iaload, 1) := by decide +kernel
theorem dX9_asRule_57 : decode cX9_asRule 57 = .ok (.bipush 10, 2) := by decide +kernel
theorem dX9_asRule_59 : decode cX9_asRule 59 = .ok (.imul, 1) := by decide +kernel
theorem dX9_asRule_60 : decode cX9_asRule 60 = .ok (.aload_n 0, 1) := by decide +kernel
theorem dX9_asRule_61 : decode cX9_asRule 61 = .ok (.getfield 9, 3) := by decide +kernel
theorem dX9_asRule_64 : decode cX9_asRule 64 = .ok (.iload 4, 2) := by decide +kernel
theorem dX9_asRule_66 : decode cX9_asRule 66 = .ok (.iaload, 1) := by decide +kernel
theorem dX9_asRule_67 : decode cX9_asRule 67 = .ok (.iadd, 1) := by decide +kernel
theorem dX9_asRule_68 : decode cX9_asRule 68 = .ok (.bipush 48, 2) := by decide +kernel
theorem dX9_asRule_70 : decode cX9_asRule 70 = .ok (.isub, 1) := by decide +kernel
theorem dX9_asRule_71 : decode cX9_asRule 71 = .ok (.iastore, 1) := by decide +kernel
theorem dX9_asRule_72 : decode cX9_asRule 72 = .ok (.goto 31, 3) := by decide +kernel
theorem dX9_asRule_75 : decode cX9_asRule 75 = .ok (.aload_n 0, 1) := by decide +kernel
theorem dX9_asRule_76 : decode cX9_asRule 76 = .ok (.getfield 9, 3) := by decide +kernel
theorem dX9_asRule_79 : decode cX9_asRule 79 = .ok (.iload 4, 2) := by decide +kernel
theorem dX9_asRule_81 : decode cX9_asRule 81 = .ok (.iaload, 1) := by decide +kernel
theorem dX9_asRule_82 : decode cX9_asRule 82 = .ok (.bipush 32, 2) := by decide +kernel
theorem dX9_asRule_84 : decode cX9_asRule 84 = .ok (.if_icmp .eq 19, 3) := by decide +kernel
theorem dX9_asRule_87 : decode cX9_asRule 87 = .ok (.aload_n 1, 1) := by decide +kernel
theorem dX9_asRule_88 : decode cX9_asRule 88 = .ok (.iload_n 2, 1) := by decide +kernel
theorem dX9_asRule_89 : decode cX9_asRule 89 = .ok (.aload_n 0, 1) := by decide +kernel
theorem dX9_asRule_90 : decode cX9_asRule 90 = .ok (.getfield 9, 3) := by decide +kernel
theorem dX9_asRule_93 : decode cX9_asRule 93 = .ok (.iload 4, 2) := by decide +kernel
theorem dX9_asRule_95 : decode cX9_asRule 95 = .ok (.iaload, 1) := by decide +kernel
theorem dX9_asRule_96 : decode cX9_asRule 96 = .ok (.invokestatic 27, 3) := by decide +kernel
theorem dX9_asRule_99 : decode cX9_asRule 99 = .ok (.iastore, 1) := by decide +kernel
theorem dX9_asRule_100 : decode cX9_asRule 100 = .ok (.iinc 2 1, 3) := by decide +kernel
theorem dX9_asRule_103 : decode cX9_asRule 103 = .ok (.iload 5, 2) := by decide +kernel
theorem dX9_asRule_105 : decode cX9_asRule 105 = .ok (.istore_n 3, 1) := by decide +kernel
theorem dX9_asRule_106 : decode cX9_asRule 106 = .ok (.iinc 4 1, 3) := by decide +kernel
theorem dX9_asRule_109 : decode cX9_asRule 109 = .ok (.goto (-95), 3) := by decide +kernel
theorem dX9_asRule_112 : decode cX9_asRule 112 = .ok (.new 30, 3) := by decide +kernel
theorem dX9_asRule_115 : decode cX9_asRule 115 = .ok (.dup, 1) := by decide +kernel
theorem dX9_asRule_116 : decode cX9_asRule 116 = .ok (.aload_n 1, 1) := by decide +kernel
theorem dX9_asRule_117 : decode cX9_asRule 117 = .ok (.iload_n 2, 1) := by decide +kernel
theorem dX9_asRule_118 : decode cX9_asRule 118 = .ok (.invokespecial 32, 3) := by decide +kernel
theorem dX9_asRule_121 : decode cX9_asRule 121 = .ok (.areturn, 1) := by decide +kernel
theorem dX9_isDigit_0 : decode cX9_isDigit 0 = .ok (.iload_n 0, 1) := by decide +kernel
theorem dX9_isDigit_1 : decode cX9_isDigit 1 = .ok (.bipush 48, 2) := by decide +kernel
theorem dX9_isDigit_3 : decode cX9_isDigit 3 = .ok (.if_icmp .lt 13, 3) := by decide +kernel
theorem dX9_isDigit_6 : decode cX9_isDigit 6 = .ok (.iload_n 0, 1) := by decide +kernel
theorem dX9_isDigit_7 : decode cX9_isDigit 7 = .ok (.bipush 57, 2) := by decide +kernel
theorem dX9_isDigit_9 : decode cX9_isDigit 9 = .ok (.if_icmp .gt 7, 3) := by decide +kernel
theorem dX9_isDigit_12 : decode cX9_isDigit 12 = .ok (.iconst 1, 1) := by decide +kernel
theorem dX9_isDigit_13 : decode cX9_isDigit 13 = .ok (.goto 4, 3) := by decide +kernel
theorem dX9_isDigit_16 : decode cX9_isDigit 16 = .ok (.iconst 0, 1) := by decide +kernel
theorem dX9_isDigit_17 : decode cX9_isDigit 17 = .ok (.ireturn, 1) := by decide +kernel
theorem dX9_takenBy_0 : decode cX9_takenBy 0 = .ok (.iload_n 0, 1) := by decide +kernel
theorem dX9_takenBy_1 : decode cX9_takenBy 1 = .ok (.lookupswitch 87 #[(33, 85), (38, 83), (42, 83), (43, 83), (45, 83), (60, 83), (61, 83), (62, 83), (124, 83)], 83) := by decide +kernel
theorem dX9_takenBy_84 : decode cX9_takenBy 84 = .ok (.iconst 2, 1) := by decide +kernel
theorem dX9_takenBy_85 : decode cX9_takenBy 85 = .ok (.ireturn, 1) := by decide +kernel
theorem dX9_takenBy_86 : decode cX9_takenBy 86 = .ok (.iconst 1, 1) := by decide +kernel
theorem dX9_takenBy_87 : decode cX9_takenBy 87 = .ok (.ireturn, 1) := by decide +kernel
theorem dX9_takenBy_88 : decode cX9_takenBy 88 = .ok (.iload_n 0, 1) := by decide +kernel
theorem dX9_takenBy_89 : decode cX9_takenBy 89 = .ok (.invokestatic 19, 3) := by decide +kernel
theorem dX9_takenBy_92 : decode cX9_takenBy 92 = .ok (.ifCond .ne 13, 3) := by decide +kernel
theorem dX9_takenBy_95 : decode cX9_takenBy 95 = .ok (.ldc 35, 2) := by decide +kernel
theorem dX9_takenBy_97 : decode cX9_takenBy 97 = .ok (.iload_n 0, 1) := by decide +kernel
theorem dX9_takenBy_98 : decode cX9_takenBy 98 = .ok (.i2c, 1) := by decide +kernel
theorem dX9_takenBy_99 : decode cX9_takenBy 99 = .ok (.invokevirtual 37, 3) := by decide +kernel
theorem dX9_takenBy_102 : decode cX9_takenBy 102 = .ok (.ifCond .lt 7, 3) := by decide +kernel
theorem dX9_takenBy_105 : decode cX9_takenBy 105 = .ok (.iconst 0, 1) := by decide +kernel
theorem dX9_takenBy_106 : decode cX9_takenBy 106 = .ok (.goto 4, 3) := by decide +kernel
theorem dX9_takenBy_109 : decode cX9_takenBy 109 = .ok (.iconst (-1), 1) := by decide +kernel
theorem dX9_takenBy_110 : decode cX9_takenBy 110 = .ok (.ireturn, 1) := by decide +kernel
theorem dX9_stepOf_0 : decode cX9_stepOf 0 = .ok (.iload_n 0, 1) := by decide +kernel
theorem dX9_stepOf_1 : decode cX9_stepOf 1 = .ok (.invokestatic 19, 3) := by decide +kernel
theorem dX9_stepOf_4 : decode cX9_stepOf 4 = .ok (.ifCond .eq 8, 3) := by decide +kernel
theorem dX9_stepOf_7 : decode cX9_stepOf 7 = .ok (.iload_n 0, 1) := by decide +kernel
theorem dX9_stepOf_8 : decode cX9_stepOf 8 = .ok (.bipush 48, 2) := by decide +kernel
theorem dX9_stepOf_10 : decode cX9_stepOf 10 = .ok (.isub, 1) := by decide +kernel
theorem dX9_stepOf_11 : decode cX9_stepOf 11 = .ok (.ireturn, 1) := by decide +kernel
theorem dX9_stepOf_12 : decode cX9_stepOf 12 = .ok (.ldc 35, 2) := by decide +kernel
theorem dX9_stepOf_14 : decode cX9_stepOf 14 = .ok (.iload_n 0, 1) := by decide +kernel
theorem dX9_stepOf_15 : decode cX9_stepOf 15 = .ok (.i2c, 1) := by decide +kernel
theorem dX9_stepOf_16 : decode cX9_stepOf 16 = .ok (.invokevirtual 37, 3) := by decide +kernel
theorem dX9_stepOf_19 : decode cX9_stepOf 19 = .ok (.istore_n 1, 1) := by decide +kernel
theorem dX9_stepOf_20 : decode cX9_stepOf 20 = .ok (.iload_n 1, 1) := by decide +kernel
theorem dX9_stepOf_21 : decode cX9_stepOf 21 = .ok (.ifCond .lt 11, 3) := by decide +kernel
theorem dX9_stepOf_24 : decode cX9_stepOf 24 = .ok (.sipush 1000, 3) := by decide +kernel
theorem dX9_stepOf_27 : decode cX9_stepOf 27 = .ok (.iload_n 1, 1) := by decide +kernel
theorem dX9_stepOf_28 : decode cX9_stepOf 28 = .ok (.iadd, 1) := by decide +kernel
theorem dX9_stepOf_29 : decode cX9_stepOf 29 = .ok (.goto 8, 3) := by decide +kernel
theorem dX9_stepOf_32 : decode cX9_stepOf 32 = .ok (.sipush 2000, 3) := by decide +kernel
theorem dX9_stepOf_35 : decode cX9_stepOf 35 = .ok (.iload_n 0, 1) := by decide +kernel
theorem dX9_stepOf_36 : decode cX9_stepOf 36 = .ok (.iadd, 1) := by decide +kernel
theorem dX9_stepOf_37 : decode cX9_stepOf 37 = .ok (.ireturn, 1) := by decide +kernel
theorem dX10_init_0 : decode cX10_init 0 = .ok (.aload_n 0, 1) := by decide +kernel
theorem dX10_init_1 : decode cX10_init 1 = .ok (.invokespecial 3, 3) := by decide +kernel
theorem dX10_init_4 : decode cX10_init 4 = .ok (.aload_n 0, 1) := by decide +kernel
theorem dX10_init_5 : decode cX10_init 5 = .ok (.bipush 12, 2) := by decide +kernel
theorem dX10_init_7 : decode cX10_init 7 = .ok (.newarray .int, 2) := by decide +kernel
theorem dX10_init_9 : decode cX10_init 9 = .ok (.putfield 9, 3) := by decide +kernel
theorem dX10_init_12 : decode cX10_init 12 = .ok (.aload_n 0, 1) := by decide +kernel
theorem dX10_init_13 : decode cX10_init 13 = .ok (.bipush 12, 2) := by decide +kernel
theorem dX10_init_15 : decode cX10_init 15 = .ok (.newarray .int, 2) := by decide +kernel
theorem dX10_init_17 : decode cX10_init 17 = .ok (.putfield 15, 3) := by decide +kernel
theorem dX10_init_20 : decode cX10_init 20 = .ok (.aload_n 0, 1) := by decide +kernel
theorem dX10_init_21 : decode cX10_init 21 = .ok (.bipush 12, 2) := by decide +kernel
theorem dX10_init_23 : decode cX10_init 23 = .ok (.newarray .int, 2) := by decide +kernel
theorem dX10_init_25 : decode cX10_init 25 = .ok (.dup, 1) := by decide +kernel
theorem dX10_init_26 : decode cX10_init 26 = .ok (.iconst 0, 1) := by decide +kernel
theorem dX10_init_27 : decode cX10_init 27 = .ok (.bipush 9, 2) := by decide +kernel
theorem dX10_init_29 : decode cX10_init 29 = .ok (.iastore, 1) := by decide +kernel
theorem dX10_init_30 : decode cX10_init 30 = .ok (.dup, 1) := by decide +kernel
theorem dX10_init_31 : decode cX10_init 31 = .ok (.iconst 1, 1) := by decide +kernel
theorem dX10_init_32 : decode cX10_init 32 = .ok (.bipush 9, 2) := by decide +kernel
theorem dX10_init_34 : decode cX10_init 34 = .ok (.iastore, 1) := by decide +kernel
theorem dX10_init_35 : decode cX10_init 35 = .ok (.dup, 1) := by decide +kernel
theorem dX10_init_36 : decode cX10_init 36 = .ok (.iconst 2, 1) := by decide +kernel
theorem dX10_init_37 : decode cX10_init 37 = .ok (.bipush 9, 2) := by decide +kernel
theorem dX10_init_39 : decode cX10_init 39 = .ok (.iastore, 1) := by decide +kernel
theorem dX10_init_40 : decode cX10_init 40 = .ok (.dup, 1) := by decide +kernel
theorem dX10_init_41 : decode cX10_init 41 = .ok (.iconst 3, 1) := by decide +kernel
theorem dX10_init_42 : decode cX10_init 42 = .ok (.bipush 9, 2) := by decide +kernel
theorem dX10_init_44 : decode cX10_init 44 = .ok (.iastore, 1) := by decide +kernel
theorem dX10_init_45 : decode cX10_init 45 = .ok (.dup, 1) := by decide +kernel
theorem dX10_init_46 : decode cX10_init 46 = .ok (.iconst 4, 1) := by decide +kernel
theorem dX10_init_47 : decode cX10_init 47 = .ok (.bipush 9, 2) := by decide +kernel
theorem dX10_init_49 : decode cX10_init 49 = .ok (.iastore, 1) := by decide +kernel
theorem dX10_init_50 : decode cX10_init 50 = .ok (.dup, 1) := by decide +kernel
theorem dX10_init_51 : decode cX10_init 51 = .ok (.iconst 5, 1) := by decide +kernel
theorem dX10_init_52 : decode cX10_init 52 = .ok (.bipush 9, 2) := by decide +kernel
theorem dX10_init_54 : decode cX10_init 54 = .ok (.iastore, 1) := by decide +kernel
theorem dX10_init_55 : decode cX10_init 55 = .ok (.dup, 1) := by decide +kernel
theorem dX10_init_56 : decode cX10_init 56 = .ok (.bipush 6, 2) := by decide +kernel
theorem dX10_init_58 : decode cX10_init 58 = .ok (.bipush 9, 2) := by decide +kernel
theorem dX10_init_60 : decode cX10_init 60 = .ok (.iastore, 1) := by decide +kernel
theorem dX10_init_61 : decode cX10_init 61 = .ok (.dup, 1) := by decide +kernel
theorem dX10_init_62 : decode cX10_init 62 = .ok (.bipush 7, 2) := by decide +kernel
theorem dX10_init_64 : decode cX10_init 64 = .ok (.bipush 9, 2) := by decide +kernel
theorem dX10_init_66 : decode cX10_init 66 = .ok (.iastore, 1) := by decide +kernel
theorem dX10_init_67 : decode cX10_init 67 = .ok (.dup, 1) := by decide +kernel
theorem dX10_init_68 : decode cX10_init 68 = .ok (.bipush 8, 2) := by decide +kernel
theorem dX10_init_70 : decode cX10_init 70 = .ok (.bipush 9, 2) := by decide +kernel
theorem dX10_init_72 : decode cX10_init 72 = .ok (.iastore, 1) := by decide +kernel
theorem dX10_init_73 : decode cX10_init 73 = .ok (.dup, 1) := by decide +kernel
theorem dX10_init_74 : decode cX10_init 74 = .ok (.bipush 9, 2) := by decide +kernel
theorem dX10_init_76 : decode cX10_init 76 = .ok (.bipush 9, 2) := by decide +kernel
theorem dX10_init_78 : decode cX10_init 78 = .ok (.iastore, 1) := by decide +kernel
theorem dX10_init_79 : decode cX10_init 79 = .ok (.dup, 1) := by decide +kernel
theorem dX10_init_80 : decode cX10_init 80 = .ok (.bipush 10, 2) := by decide +kernel
theorem dX10_init_82 : decode cX10_init 82 = .ok (.bipush 9, 2) := by decide +kernel
theorem dX10_init_84 : decode cX10_init 84 = .ok (.iastore, 1) := by decide +kernel
theorem dX10_init_85 : decode cX10_init 85 = .ok (.dup, 1) := by decide +kernel
theorem dX10_init_86 : decode cX10_init 86 = .ok (.bipush 11, 2) := by decide +kernel
theorem dX10_init_88 : decode cX10_init 88 = .ok (.bipush 9, 2) := by decide +kernel
theorem dX10_init_90 : decode cX10_init 90 = .ok (.iastore, 1) := by decide +kernel
theorem dX10_init_91 : decode cX10_init 91 = .ok (.putfield 18, 3) := by decide +kernel
theorem dX10_init_94 : decode cX10_init 94 = .ok (.return_, 1) := by decide +kernel
theorem dX10_foretell_0 : decode cX10_foretell 0 = .ok (.aload_n 0, 1) := by decide +kernel
theorem dX10_foretell_1 : decode cX10_foretell 1 = .ok (.getfield 9, 3) := by decide +kernel
theorem dX10_foretell_4 : decode cX10_foretell 4 = .ok (.iload_n 1, 1) := by decide +kernel
theorem dX10_foretell_5 : decode cX10_foretell 5 = .ok (.iload_n 2, 1) := by decide +kernel
theorem dX10_foretell_6 : decode cX10_foretell 6 = .ok (.ifCond .ge 8, 3) := by decide +kernel
theorem dX10_foretell_9 : decode cX10_foretell 9 = .ok (.bipush 9, 2) := by decide +kernel
theorem dX10_foretell_11 : decode cX10_foretell 11 = .ok (.goto 4, 3) := by decide +kernel
theorem dX10_foretell_14 : decode cX10_foretell 14 = .ok (.iload_n 2, 1) := by decide +kernel
theorem dX10_foretell_15 : decode cX10_foretell 15 = .ok (.iastore, 1) := by decide +kernel
theorem dX10_foretell_16 : decode cX10_foretell 16 = .ok (.aload_n 0, 1) := by decide +kernel
theorem dX10_foretell_17 : decode cX10_foretell 17 = .ok (.getfield 15, 3) := by decide +kernel
theorem dX10_foretell_20 : decode cX10_foretell 20 = .ok (.iload_n 1, 1) := by decide +kernel
theorem dX10_foretell_21 : decode cX10_foretell 21 = .ok (.iload_n 3, 1) := by decide +kernel
theorem dX10_foretell_22 : decode cX10_foretell 22 = .ok (.ifCond .ge 8, 3) := by decide +kernel
theorem dX10_foretell_25 : decode cX10_foretell 25 = .ok (.bipush 9, 2) := by decide +kernel
theorem dX10_foretell_27 : decode cX10_foretell 27 = .ok (.goto 4, 3) := by decide +kernel
theorem dX10_foretell_30 : decode cX10_foretell 30 = .ok (.iload_n 3, 1) := by decide +kernel
theorem dX10_foretell_31 : decode cX10_foretell 31 = .ok (.iastore, 1) := by decide +kernel
theorem dX10_foretell_32 : decode cX10_foretell 32 = .ok (.aload_n 0, 1) := by decide +kernel
theorem dX10_foretell_33 : decode cX10_foretell 33 = .ok (.getfield 18, 3) := by decide +kernel
theorem dX10_foretell_36 : decode cX10_foretell 36 = .ok (.iload_n 1, 1) := by decide +kernel
theorem dX10_foretell_37 : decode cX10_foretell 37 = .ok (.iload 4, 2) := by decide +kernel
theorem dX10_foretell_39 : decode cX10_foretell 39 = .ok (.ifCond .ge 7, 3) := by decide +kernel
theorem dX10_foretell_42 : decode cX10_foretell 42 = .ok (.iconst 0, 1) := by decide +kernel
theorem dX10_foretell_43 : decode cX10_foretell 43 = .ok (.goto 5, 3) := by decide +kernel
theorem dX10_foretell_46 : decode cX10_foretell 46 = .ok (.iload 4, 2) := by decide +kernel
theorem dX10_foretell_48 : decode cX10_foretell 48 = .ok (.iastore, 1) := by decide +kernel
theorem dX10_foretell_49 : decode cX10_foretell 49 = .ok (.return_, 1) := by decide +kernel
theorem dX10_hourOf_0 : decode cX10_hourOf 0 = .ok (.iconst 0, 1) := by decide +kernel
theorem dX10_hourOf_1 : decode cX10_hourOf 1 = .ok (.bipush 11, 2) := by decide +kernel
theorem dX10_hourOf_3 : decode cX10_hourOf 3 = .ok (.iload_n 0, 1) := by decide +kernel
theorem dX10_hourOf_4 : decode cX10_hourOf 4 = .ok (.bipush 60, 2) := by decide +kernel
theorem dX10_hourOf_6 : decode cX10_hourOf 6 = .ok (.idiv, 1) := by decide +kernel
theorem dX10_hourOf_7 : decode cX10_hourOf 7 = .ok (.invokestatic 21, 3) := by decide +kernel
theorem dX10_hourOf_10 : decode cX10_hourOf 10 = .ok (.invokestatic 27, 3) := by decide +kernel
theorem dX10_hourOf_13 : decode cX10_hourOf 13 = .ok (.ireturn, 1) := by decide +kernel
theorem dX10_warmthAt_0 : decode cX10_warmthAt 0 = .ok (.aload_n 0, 1) := by decide +kernel
theorem dX10_warmthAt_1 : decode cX10_warmthAt 1 = .ok (.getfield 15, 3) := by decide +kernel
theorem dX10_warmthAt_4 : decode cX10_warmthAt 4 = .ok (.iload_n 1, 1) := by decide +kernel
theorem dX10_warmthAt_5 : decode cX10_warmthAt 5 = .ok (.invokestatic 30, 3) := by decide +kernel
theorem dX10_warmthAt_8 : decode cX10_warmthAt 8 = .ok (.iaload, 1) := by decide +kernel
theorem dX10_warmthAt_9 : decode cX10_warmthAt 9 = .ok (.ireturn, 1) := by decide +kernel
theorem dX11_init_0 : decode cX11_init 0 = .ok (.aload_n 0, 1) := by decide +kernel
theorem dX11_init_1 : decode cX11_init 1 = .ok (.invokespecial 1, 3) := by decide +kernel
theorem dX11_init_4 : decode cX11_init 4 = .ok (.aload_n 0, 1) := by decide +kernel
theorem dX11_init_5 : decode cX11_init 5 = .ok (.new 7, 3) := by decide +kernel
theorem dX11_init_8 : decode cX11_init 8 = .ok (.dup, 1) := by decide +kernel
theorem dX11_init_9 : decode cX11_init 9 = .ok (.invokespecial 9, 3) := by decide +kernel
theorem dX11_init_12 : decode cX11_init 12 = .ok (.putfield 10, 3) := by decide +kernel
theorem dX11_init_15 : decode cX11_init 15 = .ok (.aload_n 0, 1) := by decide +kernel
theorem dX11_init_16 : decode cX11_init 16 = .ok (.new 7, 3) := by decide +kernel
theorem dX11_init_19 : decode cX11_init 19 = .ok (.dup, 1) := by decide +kernel
theorem dX11_init_20 : decode cX11_init 20 = .ok (.invokespecial 9, 3) := by decide +kernel
theorem dX11_init_23 : decode cX11_init 23 = .ok (.putfield 16, 3) := by decide +kernel
theorem dX11_init_26 : decode cX11_init 26 = .ok (.aload_n 0, 1) := by decide +kernel
theorem dX11_init_27 : decode cX11_init 27 = .ok (.new 7, 3) := by decide +kernel
theorem dX11_init_30 : decode cX11_init 30 = .ok (.dup, 1) := by decide +kernel
theorem dX11_init_31 : decode cX11_init 31 = .ok (.invokespecial 9, 3) := by decide +kernel
theorem dX11_init_34 : decode cX11_init 34 = .ok (.putfield 19, 3) := by decide +kernel
theorem dX11_init_37 : decode cX11_init 37 = .ok (.aload_n 0, 1) := by decide +kernel
theorem dX11_init_38 : decode cX11_init 38 = .ok (.new 7, 3) := by decide +kernel
theorem dX11_init_41 : decode cX11_init 41 = .ok (.dup, 1) := by decide +kernel
theorem dX11_init_42 : decode cX11_init 42 = .ok (.invokespecial 9, 3) := by decide +kernel
theorem dX11_init_45 : decode cX11_init 45 = .ok (.putfield 22, 3) := by decide +kernel
theorem dX11_init_48 : decode cX11_init 48 = .ok (.aload_n 0, 1) := by decide +kernel
theorem dX11_init_49 : decode cX11_init 49 = .ok (.new 7, 3) := by decide +kernel
theorem dX11_init_52 : decode cX11_init 52 = .ok (.dup, 1) := by decide +kernel
theorem dX11_init_53 : decode cX11_init 53 = .ok (.invokespecial 9, 3) := by decide +kernel
theorem dX11_init_56 : decode cX11_init 56 = .ok (.putfield 25, 3) := by decide +kernel
theorem dX11_init_59 : decode cX11_init 59 = .ok (.aload_n 0, 1) := by decide +kernel
theorem dX11_init_60 : decode cX11_init 60 = .ok (.new 28, 3) := by decide +kernel
theorem dX11_init_63 : decode cX11_init 63 = .ok (.dup, 1) := by decide +kernel
theorem dX11_init_64 : decode cX11_init 64 = .ok (.invokespecial 30, 3) := by decide +kernel
theorem dX11_init_67 : decode cX11_init 67 = .ok (.putfield 31, 3) := by decide +kernel
theorem dX11_init_70 : decode cX11_init 70 = .ok (.aload_n 0, 1) := by decide +kernel
theorem dX11_init_71 : decode cX11_init 71 = .ok (.new 35, 3) := by decide +kernel
theorem dX11_init_74 : decode cX11_init 74 = .ok (.dup, 1) := by decide +kernel
theorem dX11_init_75 : decode cX11_init 75 = .ok (.invokespecial 37, 3) := by decide +kernel
theorem dX11_init_78 : decode cX11_init 78 = .ok (.putfield 38, 3) := by decide +kernel
theorem dX11_init_81 : decode cX11_init 81 = .ok (.aload_n 0, 1) := by decide +kernel
theorem dX11_init_82 : decode cX11_init 82 = .ok (.new 42, 3) := by decide +kernel
theorem dX11_init_85 : decode cX11_init 85 = .ok (.dup, 1) := by decide +kernel
theorem dX11_init_86 : decode cX11_init 86 = .ok (.invokespecial 44, 3) := by decide +kernel
theorem dX11_init_89 : decode cX11_init 89 = .ok (.putfield 45, 3) := by decide +kernel
theorem dX11_init_92 : decode cX11_init 92 = .ok (.aload_n 0, 1) := by decide +kernel
theorem dX11_init_93 : decode cX11_init 93 = .ok (.new 49, 3) := by decide +kernel
theorem dX11_init_96 : decode cX11_init 96 = .ok (.dup, 1) := by decide +kernel
theorem dX11_init_97 : decode cX11_init 97 = .ok (.invokespecial 51, 3) := by decide +kernel
theorem dX11_init_100 : decode cX11_init 100 = .ok (.putfield 52, 3) := by decide +kernel
theorem dX11_init_103 : decode cX11_init 103 = .ok (.aload_n 0, 1) := by decide +kernel
theorem dX11_init_104 : decode cX11_init 104 = .ok (.new 56, 3) := by decide +kernel
theorem dX11_init_107 : decode cX11_init 107 = .ok (.dup, 1) := by decide +kernel
theorem dX11_init_108 : decode cX11_init 108 = .ok (.invokespecial 58, 3) := by decide +kernel
theorem dX11_init_111 : decode cX11_init 111 = .ok (.putfield 59, 3) := by decide +kernel
theorem dX11_init_114 : decode cX11_init 114 = .ok (.aload_n 0, 1) := by decide +kernel
theorem dX11_init_115 : decode cX11_init 115 = .ok (.new 7, 3) := by decide +kernel
theorem dX11_init_118 : decode cX11_init 118 = .ok (.dup, 1) := by decide +kernel
theorem dX11_init_119 : decode cX11_init 119 = .ok (.invokespecial 9, 3) := by decide +kernel
theorem dX11_init_122 : decode cX11_init 122 = .ok (.putfield 63, 3) := by decide +kernel
theorem dX11_init_125 : decode cX11_init 125 = .ok (.aload_n 0, 1) := by decide +kernel
theorem dX11_init_126 : decode cX11_init 126 = .ok (.getfield 10, 3) := by decide +kernel
theorem dX11_init_129 : decode cX11_init 129 = .ok (.new 66, 3) := by decide +kernel
theorem dX11_init_132 : decode cX11_init 132 = .ok (.dup, 1) := by decide +kernel
theorem dX11_init_133 : decode cX11_init 133 = .ok (.iconst 0, 1) := by decide +kernel
theorem dX11_init_134 : decode cX11_init 134 = .ok (.iconst 0, 1) := by decide +kernel
theorem dX11_init_135 : decode cX11_init 135 = .ok (.iconst 0, 1) := by decide +kernel
theorem dX11_init_136 : decode cX11_init 136 = .ok (.invokespecial 68, 3) := by decide +kernel
theorem dX11_init_139 : decode cX11_init 139 = .ok (.invokevirtual 71, 3) := by decide +kernel
theorem dX11_init_142 : decode cX11_init 142 = .ok (.pop, 1) := by decide +kernel
theorem dX11_init_143 : decode cX11_init 143 = .ok (.return_, 1) := by decide +kernel
theorem dX11_place_0 : decode cX11_place 0 = .ok (.iload_n 1, 1) := by decide +kernel
theorem dX11_place_1 : decode cX11_place 1 = .ok (.iconst 0, 1) := by decide +kernel
theorem dX11_place_2 : decode cX11_place 2 = .ok (.bipush 9, 2) := by decide +kernel
theorem dX11_place_4 : decode cX11_place 4 = .ok (.invokestatic 75, 3) := by decide +kernel
theorem dX11_place_7 : decode cX11_place 7 = .ok (.ifCond .eq 13, 3) := by decide +kernel
theorem dX11_place_10 : decode cX11_place 10 = .ok (.iload_n 2, 1) := by decide +kernel
theorem dX11_place_11 : decode cX11_place 11 = .ok (.iconst 1, 1) := by decide +kernel
theorem dX11_place_12 : decode cX11_place 12 = .ok (.bipush 60, 2) := by decide +kernel
theorem dX11_place_14 : decode cX11_place 14 = .ok (.invokestatic 75, 3) := by decide +kernel
theorem dX11_place_17 : decode cX11_place 17 = .ok (.ifCond .ne 5, 3) := by decide +kernel
theorem dX11_place_20 : decode cX11_place 20 = .ok (.iconst (-1), 1) := by decide +kernel
theorem dX11_place_21 : decode cX11_place 21 = .ok (.ireturn, 1) := by decide +kernel
theorem dX11_place_22 : decode cX11_place 22 = .ok (.aload_n 0, 1) := by decide +kernel
theorem dX11_place_23 : decode cX11_place 23 = .ok (.getfield 10, 3) := by decide +kernel
theorem dX11_place_26 : decode cX11_place 26 = .ok (.invokevirtual 79, 3) := by decide +kernel
theorem dX11_place_29 : decode cX11_place 29 = .ok (.bipush 12, 2) := by decide +kernel
theorem dX11_place_31 : decode cX11_place 31 = .ok (.if_icmp .lt 6, 3) := by decide +kernel
theorem dX11_place_34 : decode cX11_place 34 = .ok (.bipush (-2), 2) := by decide +kernel
theorem dX11_place_36 : decode cX11_place 36 = .ok (.ireturn, 1) := by decide +kernel
theorem dX11_place_37 : decode cX11_place 37 = .ok (.aload_n 0, 1) := by decide +kernel
theorem dX11_place_38 : decode cX11_place 38 = .ok (.getfield 10, 3) := by decide +kernel
theorem dX11_place_41 : decode cX11_place 41 = .ok (.new 66, 3) := by decide +kernel
theorem dX11_place_44 : decode cX11_place 44 = .ok (.dup, 1) := by decide +kernel
theorem dX11_place_45 : decode cX11_place 45 = .ok (.aload_n 0, 1) := by decide +kernel
theorem dX11_place_46 : decode cX11_place 46 = .ok (.getfield 10, 3) := by decide +kernel
theorem dX11_place_49 : decode cX11_place 49 = .ok (.invokevirtual 79, 3) := by decide +kernel
theorem dX11_place_52 : decode cX11_place 52 = .ok (.iload_n 1, 1) := by decide +kernel
theorem dX11_place_53 : decode cX11_place 53 = .ok (.iload_n 2, 1) := by decide +kernel
theorem dX11_place_54 : decode cX11_place 54 = .ok (.invokespecial 68, 3) := by decide +kernel
theorem dX11_place_57 : decode cX11_place 57 = .ok (.invokevirtual 71, 3) := by decide +kernel
theorem dX11_place_60 : decode cX11_place 60 = .ok (.pop, 1) := by decide +kernel
theorem dX11_place_61 : decode cX11_place 61 = .ok (.aload_n 0, 1) := by decide +kernel
theorem dX11_place_62 : decode cX11_place 62 = .ok (.getfield 10, 3) := by decide +kernel
theorem dX11_place_65 : decode cX11_place 65 = .ok (.invokevirtual 79, 3) := by decide +kernel
theorem dX11_place_68 : decode cX11_place 68 = .ok (.iconst 1, 1) := by decide +kernel
theorem dX11_place_69 : decode cX11_place 69 = .ok (.isub, 1) := by decide +kernel
theorem dX11_place_70 : decode cX11_place 70 = .ok (.ireturn, 1) := by decide +kernel
theorem dX11_machine_0 : decode cX11_machine 0 = .ok (.iload_n 1, 1) := by decide +kernel
theorem dX11_machine_1 : decode cX11_machine 1 = .ok (.iconst 1, 1) := by decide +kernel
theorem dX11_machine_2 : decode cX11_machine 2 = .ok (.sipush 200, 3) := by decide +kernel
theorem dX11_machine_5 : decode cX11_machine 5 = .ok (.invokestatic 75, 3) := by decide +kernel
theorem dX11_machine_8 : decode cX11_machine 8 = .ok (.ifCond .eq 14, 3) := by decide +kernel
theorem dX11_machine_11 : decode cX11_machine 11 = .ok (.iload_n 2, 1) := by decide +kernel
theorem dX11_machine_12 : decode cX11_machine 12 = .ok (.iconst 1, 1) := by decide +kernel
theorem dX11_machine_13 : decode cX11_machine 13 = .ok (.sipush 2000, 3) := by decide +kernel
theorem dX11_machine_16 : decode cX11_machine 16 = .ok (.invokestatic 75, 3) := by decide +kernel
theorem dX11_machine_19 : decode cX11_machine 19 = .ok (.ifCond .ne 5, 3) := by decide +kernel
theorem dX11_machine_22 : decode cX11_machine 22 = .ok (.iconst (-1), 1) := by decide +kernel
theorem dX11_machine_23 : decode cX11_machine 23 = .ok (.ireturn, 1) := by decide +kernel
theorem dX11_machine_24 : decode cX11_machine 24 = .ok (.aload_n 0, 1) := by decide +kernel
theorem dX11_machine_25 : decode cX11_machine 25 = .ok (.getfield 16, 3) := by decide +kernel
theorem dX11_machine_28 : decode cX11_machine 28 = .ok (.invokevirtual 79, 3) := by decide +kernel
theorem dX11_machine_31 : decode cX11_machine 31 = .ok (.iconst 4, 1) := by decide +kernel
theorem dX11_machine_32 : decode cX11_machine 32 = .ok (.if_icmp .lt 6, 3) := by decide +kernel
theorem dX11_machine_35 : decode cX11_machine 35 = .ok (.bipush (-2), 2) := by decide +kernel
theorem dX11_machine_37 : decode cX11_machine 37 = .ok (.ireturn, 1) := by decide +kernel
theorem dX11_machine_38 : decode cX11_machine 38 = .ok (.aload_n 0, 1) := by decide +kernel
theorem dX11_machine_39 : decode cX11_machine 39 = .ok (.getfield 16, 3) := by decide +kernel
theorem dX11_machine_42 : decode cX11_machine 42 = .ok (.new 83, 3) := by decide +kernel
theorem dX11_machine_45 : decode cX11_machine 45 = .ok (.dup, 1) := by decide +kernel
theorem dX11_machine_46 : decode cX11_machine 46 = .ok (.iload_n 1, 1) := by decide +kernel
theorem dX11_machine_47 : decode cX11_machine 47 = .ok (.iload_n 2, 1) := by decide +kernel
theorem dX11_machine_48 : decode cX11_machine 48 = .ok (.invokespecial 85, 3) := by decide +kernel
theorem dX11_machine_51 : decode cX11_machine 51 = .ok (.invokevirtual 71, 3) := by decide +kernel
theorem dX11_machine_54 : decode cX11_machine 54 = .ok (.pop, 1) := by decide +kernel
theorem dX11_machine_55 : decode cX11_machine 55 = .ok (.aload_n 0, 1) := by decide +kernel
theorem dX11_machine_56 : decode cX11_machine 56 = .ok (.getfield 16, 3) := by decide +kernel
theorem dX11_machine_59 : decode cX11_machine 59 = .ok (.invokevirtual 79, 3) := by decide +kernel
theorem dX11_machine_62 : decode cX11_machine 62 = .ok (.iconst 1, 1) := by decide +kernel
theorem dX11_machine_63 : decode cX11_machine 63 = .ok (.isub, 1) := by decide +kernel
theorem dX11_machine_64 : decode cX11_machine 64 = .ok (.ireturn, 1) := by decide +kernel
theorem dX11_pilot_0 : decode cX11_pilot 0 = .ok (.iload_n 1, 1) := by decide +kernel
theorem dX11_pilot_1 : decode cX11_pilot 1 = .ok (.iconst 0, 1) := by decide +kernel
theorem dX11_pilot_2 : decode cX11_pilot 2 = .ok (.sipush 720, 3) := by decide +kernel
theorem dX11_pilot_5 : decode cX11_pilot 5 = .ok (.invokestatic 75, 3) := by decide +kernel
theorem dX11_pilot_8 : decode cX11_pilot 8 = .ok (.ifCond .eq 13, 3) := by decide +kernel
theorem dX11_pilot_11 : decode cX11_pilot 11 = .ok (.iload_n 2, 1) := by decide +kernel
theorem dX11_pilot_12 : decode cX11_pilot 12 = .ok (.iconst 0, 1) := by decide +kernel
theorem dX11_pilot_13 : decode cX11_pilot 13 = .ok (.bipush 120, 2) := by decide +kernel
theorem dX11_pilot_15 : decode cX11_pilot 15 = .ok (.invokestatic 75, 3) := by decide +kernel
theorem dX11_pilot_18 : decode cX11_pilot 18 = .ok (.ifCond .ne 5, 3) := by decide +kernel
theorem dX11_pilot_21 : decode cX11_pilot 21 = .ok (.iconst (-1), 1) := by decide +kernel
theorem dX11_pilot_22 : decode cX11_pilot 22 = .ok (.ireturn, 1) := by decide +kernel
theorem dX11_pilot_23 : decode cX11_pilot 23 = .ok (.aload_n 0, 1) := by decide +kernel
theorem dX11_pilot_24 : decode cX11_pilot 24 = .ok (.getfield 19, 3) := by decide +kernel
theorem dX11_pilot_27 : decode cX11_pilot 27 = .ok (.invokevirtual 79, 3) := by decide +kernel
theorem dX11_pilot_30 : decode cX11_pilot 30 = .ok (.bipush 6, 2) := by decide +kernel
theorem dX11_pilot_32 : decode cX11_pilot 32 = .ok (.if_icmp .lt 6, 3) := by decide +kernel
theorem dX11_pilot_35 : decode cX11_pilot 35 = .ok (.bipush (-2), 2) := by decide +kernel
theorem dX11_pilot_37 : decode cX11_pilot 37 = .ok (.ireturn, 1) := by decide +kernel
theorem dX11_pilot_38 : decode cX11_pilot 38 = .ok (.aload_n 0, 1) := by decide +kernel
theorem dX11_pilot_39 : decode cX11_pilot 39 = .ok (.getfield 19, 3) := by decide +kernel
theorem dX11_pilot_42 : decode cX11_pilot 42 = .ok (.new 88, 3) := by decide +kernel
theorem dX11_pilot_45 : decode cX11_pilot 45 = .ok (.dup, 1) := by decide +kernel
theorem dX11_pilot_46 : decode cX11_pilot 46 = .ok (.iload_n 1, 1) := by decide +kernel
theorem dX11_pilot_47 : decode cX11_pilot 47 = .ok (.iload_n 2, 1) := by decide +kernel
theorem dX11_pilot_48 : decode cX11_pilot 48 = .ok (.invokespecial 90, 3) := by decide +kernel
theorem dX11_pilot_51 : decode cX11_pilot 51 = .ok (.invokevirtual 71, 3) := by decide +kernel
theorem dX11_pilot_54 : decode cX11_pilot 54 = .ok (.pop, 1) := by decide +kernel
theorem dX11_pilot_55 : decode cX11_pilot 55 = .ok (.aload_n 0, 1) := by decide +kernel
theorem dX11_pilot_56 : decode cX11_pilot 56 = .ok (.getfield 19, 3) := by decide +kernel
theorem dX11_pilot_59 : decode cX11_pilot 59 = .ok (.invokevirtual 79, 3) := by decide +kernel
theorem dX11_pilot_62 : decode cX11_pilot 62 = .ok (.iconst 1, 1) := by decide +kernel
theorem dX11_pilot_63 : decode cX11_pilot 63 = .ok (.isub, 1) := by decide +kernel
theorem dX11_pilot_64 : decode cX11_pilot 64 = .ok (.ireturn, 1) := by decide +kernel
theorem dX11_load_0 : decode cX11_load 0 = .ok (.aload_n 0, 1) := by decide +kernel
theorem dX11_load_1 : decode cX11_load 1 = .ok (.iload_n 1, 1) := by decide +kernel
theorem dX11_load_2 : decode cX11_load 2 = .ok (.invokevirtual 91, 3) := by decide +kernel
theorem dX11_load_5 : decode cX11_load 5 = .ok (.ifCond .eq 13, 3) := by decide +kernel
theorem dX11_load_8 : decode cX11_load 8 = .ok (.iload_n 2, 1) := by decide +kernel
theorem dX11_load_9 : decode cX11_load 9 = .ok (.iconst 1, 1) := by decide +kernel
theorem dX11_load_10 : decode cX11_load 10 = .ok (.bipush 99, 2) := by decide +kernel
theorem dX11_load_12 : decode cX11_load 12 = .ok (.invokestatic 75, 3) := by decide +kernel
theorem dX11_load_15 : decode cX11_load 15 = .ok (.ifCond .ne 5, 3) := by decide +kernel
theorem dX11_load_18 : decode cX11_load 18 = .ok (.iconst (-1), 1) := by decide +kernel
theorem dX11_load_19 : decode cX11_load 19 = .ok (.ireturn, 1) := by decide +kernel
theorem dX11_load_20 : decode cX11_load 20 = .ok (.iload_n 3, 1) := by decide +kernel
theorem dX11_load_21 : decode cX11_load 21 = .ok (.iconst 0, 1) := by decide +kernel
theorem dX11_load_22 : decode cX11_load 22 = .ok (.sipush 720, 3) := by decide +kernel
theorem dX11_load_25 : decode cX11_load 25 = .ok (.invokestatic 75, 3) := by decide +kernel
theorem dX11_load_28 : decode cX11_load 28 = .ok (.ifCond .eq 15, 3) := by decide +kernel
theorem dX11_load_31 : decode cX11_load 31 = .ok (.iload 4, 2) := by decide +kernel
theorem dX11_load_33 : decode cX11_load 33 = .ok (.iconst 0, 1) := by decide +kernel
theorem dX11_load_34 : decode cX11_load 34 = .ok (.sipush 720, 3) := by decide +kernel
theorem dX11_load_37 : decode cX11_load 37 = .ok (.invokestatic 75, 3) := by decide +kernel
theorem dX11_load_40 : decode cX11_load 40 = .ok (.ifCond .ne 5, 3) := by decide +kernel
theorem dX11_load_43 : decode cX11_load 43 = .ok (.iconst (-1), 1) := by decide +kernel
theorem dX11_load_44 : decode cX11_load 44 = .ok (.ireturn, 1) := by decide +kernel
theorem dX11_load_45 : decode cX11_load 45 = .ok (.aload_n 0, 1) := by decide +kernel
theorem dX11_load_46 : decode cX11_load 46 = .ok (.getfield 22, 3) := by decide +kernel
theorem dX11_load_49 : decode cX11_load 49 = .ok (.invokevirtual 79, 3) := by decide +kernel
theorem dX11_load_52 : decode cX11_load 52 = .ok (.bipush 80, 2) := by decide +kernel
theorem dX11_load_54 : decode cX11_load 54 = .ok (.if_icmp .lt 6, 3) := by decide +kernel
theorem dX11_load_57 : decode cX11_load 57 = .ok (.bipush (-2), 2) := by decide +kernel
theorem dX11_load_59 : decode cX11_load 59 = .ok (.ireturn, 1) := by decide +kernel
theorem dX11_load_60 : decode cX11_load 60 = .ok (.aload_n 0, 1) := by decide +kernel
theorem dX11_load_61 : decode cX11_load 61 = .ok (.getfield 22, 3) := by decide +kernel
theorem dX11_load_64 : decode cX11_load 64 = .ok (.new 95, 3) := by decide +kernel
theorem dX11_load_67 : decode cX11_load 67 = .ok (.dup, 1) := by decide +kernel
theorem dX11_load_68 : decode cX11_load 68 = .ok (.aload_n 0, 1) := by decide +kernel
theorem dX11_load_69 : decode cX11_load 69 = .ok (.getfield 22, 3) := by decide +kernel
theorem dX11_load_72 : decode cX11_load 72 = .ok (.invokevirtual 79, 3) := by decide +kernel
theorem dX11_load_75 : decode cX11_load 75 = .ok (.iload_n 1, 1) := by decide +kernel
theorem dX11_load_76 : decode cX11_load 76 = .ok (.iload_n 2, 1) := by decide +kernel
theorem dX11_load_77 : decode cX11_load 77 = .ok (.iload_n 3, 1) := by decide +kernel
theorem dX11_load_78 : decode cX11_load 78 = .ok (.iload 4, 2) := by decide +kernel
theorem dX11_load_80 : decode cX11_load 80 = .ok (.invokespecial 97, 3) := by decide +kernel
theorem dX11_load_83 : decode cX11_load 83 = .ok (.invokevirtual 71, 3) := by decide +kernel
theorem dX11_load_86 : decode cX11_load 86 = .ok (.pop, 1) := by decide +kernel
theorem dX11_load_87 : decode cX11_load 87 = .ok (.aload_n 0, 1) := by decide +kernel
theorem dX11_load_88 : decode cX11_load 88 = .ok (.getfield 22, 3) := by decide +kernel
theorem dX11_load_91 : decode cX11_load 91 = .ok (.invokevirtual 79, 3) := by decide +kernel
theorem dX11_load_94 : decode cX11_load 94 = .ok (.iconst 1, 1) := by decide +kernel
theorem dX11_load_95 : decode cX11_load 95 = .ok (.isub, 1) := by decide +kernel
theorem dX11_load_96 : decode cX11_load 96 = .ok (.ireturn, 1) := by decide +kernel
theorem dX11_hour_0 : decode cX11_hour 0 = .ok (.iload_n 1, 1) := by decide +kernel
theorem dX11_hour_1 : decode cX11_hour 1 = .ok (.iconst 0, 1) := by decide +kernel
theorem dX11_hour_2 : decode cX11_hour 2 = .ok (.bipush 11, 2) := by decide +kernel
theorem dX11_hour_4 : decode cX11_hour 4 = .ok (.invokestatic 75, 3) := by decide +kernel
theorem dX11_hour_7 : decode cX11_hour 7 = .ok (.ifCond .eq 13, 3) := by decide +kernel
theorem dX11_hour_10 : decode cX11_hour 10 = .ok (.iload_n 2, 1) := by decide +kernel
theorem dX11_hour_11 : decode cX11_hour 11 = .ok (.iconst (-1), 1) := by decide +kernel
theorem dX11_hour_12 : decode cX11_hour 12 = .ok (.bipush 9, 2) := by decide +kernel
theorem dX11_hour_14 : decode cX11_hour 14 = .ok (.invokestatic 75, 3) := by decide +kernel
theorem dX11_hour_17 : decode cX11_hour 17 = .ok (.ifCond .ne 5, 3) := by decide +kernel
theorem dX11_hour_20 : decode cX11_hour 20 = .ok (.iconst (-1), 1) := by decide +kernel
theorem dX11_hour_21 : decode cX11_hour 21 = .ok (.ireturn, 1) := by decide +kernel
theorem dX11_hour_22 : decode cX11_hour 22 = .ok (.iload_n 3, 1) := by decide +kernel
theorem dX11_hour_23 : decode cX11_hour 23 = .ok (.iconst (-1), 1) := by decide +kernel
theorem dX11_hour_24 : decode cX11_hour 24 = .ok (.bipush 9, 2) := by decide +kernel
theorem dX11_hour_26 : decode cX11_hour 26 = .ok (.invokestatic 75, 3) := by decide +kernel
theorem dX11_hour_29 : decode cX11_hour 29 = .ok (.ifCond .eq 14, 3) := by decide +kernel
theorem dX11_hour_32 : decode cX11_hour 32 = .ok (.iload 4, 2) := by decide +kernel
theorem dX11_hour_34 : decode cX11_hour 34 = .ok (.iconst (-1), 1) := by decide +kernel
theorem dX11_hour_35 : decode cX11_hour 35 = .ok (.bipush 9, 2) := by decide +kernel
theorem dX11_hour_37 : decode cX11_hour 37 = .ok (.invokestatic 75, 3) := by decide +kernel
theorem dX11_hour_40 : decode cX11_hour 40 = .ok (.ifCond .ne 5, 3) := by decide +kernel
theorem dX11_hour_43 : decode cX11_hour 43 = .ok (.iconst (-1), 1) := by decide +kernel
theorem dX11_hour_44 : decode cX11_hour 44 = .ok (.ireturn, 1) := by decide +kernel
theorem dX11_hour_45 : decode cX11_hour 45 = .ok (.aload_n 0, 1) := by decide +kernel
theorem dX11_hour_46 : decode cX11_hour 46 = .ok (.getfield 31, 3) := by decide +kernel
theorem dX11_hour_49 : decode cX11_hour 49 = .ok (.iload_n 1, 1) := by decide +kernel
theorem dX11_hour_50 : decode cX11_hour 50 = .ok (.iload_n 2, 1) := by decide +kernel
theorem dX11_hour_51 : decode cX11_hour 51 = .ok (.iload_n 3, 1) := by decide +kernel
theorem dX11_hour_52 : decode cX11_hour 52 = .ok (.iload 4, 2) := by decide +kernel
theorem dX11_hour_54 : decode cX11_hour 54 = .ok (.invokevirtual 100, 3) := by decide +kernel
theorem dX11_hour_57 : decode cX11_hour 57 = .ok (.iconst 1, 1) := by decide +kernel
theorem dX11_hour_58 : decode cX11_hour 58 = .ok (.ireturn, 1) := by decide +kernel
theorem dX11_feed_0 : decode cX11_feed 0 = .ok (.iload_n 1, 1) := by decide +kernel
theorem dX11_feed_1 : decode cX11_feed 1 = .ok (.iconst 1, 1) := by decide +kernel
theorem dX11_feed_2 : decode cX11_feed 2 = .ok (.iconst 4, 1) := by decide +kernel
theorem dX11_feed_3 : decode cX11_feed 3 = .ok (.invokestatic 75, 3) := by decide +kernel
theorem dX11_feed_6 : decode cX11_feed 6 = .ok (.ifCond .ne 5, 3) := by decide +kernel
theorem dX11_feed_9 : decode cX11_feed 9 = .ok (.iconst (-1), 1) := by decide +kernel
theorem dX11_feed_10 : decode cX11_feed 10 = .ok (.ireturn, 1) := by decide +kernel
theorem dX11_feed_11 : decode cX11_feed 11 = .ok (.aload_n 0, 1) := by decide +kernel
theorem dX11_feed_12 : decode cX11_feed 12 = .ok (.getfield 38, 3) := by decide +kernel
theorem dX11_feed_15 : decode cX11_feed 15 = .ok (.getfield 104, 3) := by decide +kernel
theorem dX11_feed_18 : decode cX11_feed 18 = .ok (.iload_n 1, 1) := by decide +kernel
theorem dX11_feed_19 : decode cX11_feed 19 = .ok (.iadd, 1) := by decide +kernel
theorem dX11_feed_20 : decode cX11_feed 20 = .ok (.bipush 60, 2) := by decide +kernel
theorem dX11_feed_22 : decode cX11_feed 22 = .ok (.if_icmp .le 6, 3) := by decide +kernel
theorem dX11_feed_25 : decode cX11_feed 25 = .ok (.bipush (-2), 2) := by decide +kernel
theorem dX11_feed_27 : decode cX11_feed 27 = .ok (.ireturn, 1) := by decide +kernel
theorem dX11_feed_28 : decode cX11_feed 28 = .ok (.aload_n 0, 1) := by decide +kernel
theorem dX11_feed_29 : decode cX11_feed 29 = .ok (.getfield 38, 3) := by decide +kernel
theorem dX11_feed_32 : decode cX11_feed 32 = .ok (.iload_n 1, 1) := by decide +kernel
theorem dX11_feed_33 : decode cX11_feed 33 = .ok (.iload_n 2, 1) := by decide +kernel
theorem dX11_feed_34 : decode cX11_feed 34 = .ok (.invokevirtual 108, 3) := by decide +kernel
theorem dX11_feed_37 : decode cX11_feed 37 = .ok (.aload_n 0, 1) := by decide +kernel
theorem dX11_feed_38 : decode cX11_feed 38 = .ok (.getfield 38, 3) := by decide +kernel
theorem dX11_feed_41 : decode cX11_feed 41 = .ok (.getfield 104, 3) := by decide +kernel
theorem dX11_feed_44 : decode cX11_feed 44 = .ok (.ireturn, 1) := by decide +kernel
theorem dX11_rule_0 : decode cX11_rule 0 = .ok (.aload_n 0, 1) := by decide +kernel
theorem dX11_rule_1 : decode cX11_rule 1 = .ok (.getfield 45, 3) := by decide +kernel
theorem dX11_rule_4 : decode cX11_rule 4 = .ok (.getfield 111, 3) := by decide +kernel
theorem dX11_rule_7 : decode cX11_rule 7 = .ok (.invokevirtual 79, 3) := by decide +kernel
theorem dX11_rule_10 : decode cX11_rule 10 = .ok (.bipush 10, 2) := by decide +kernel
theorem dX11_rule_12 : decode cX11_rule 12 = .ok (.if_icmp .lt 6, 3) := by decide +kernel
theorem dX11_rule_15 : decode cX11_rule 15 = .ok (.bipush (-2), 2) := by decide +kernel
theorem dX11_rule_17 : decode cX11_rule 17 = .ok (.ireturn, 1) := by decide +kernel
theorem dX11_rule_18 : decode cX11_rule 18 = .ok (.aload_n 0, 1) := by decide +kernel
theorem dX11_rule_19 : decode cX11_rule 19 = .ok (.getfield 38, 3) := by decide +kernel
theorem dX11_rule_22 : decode cX11_rule 22 = .ok (.invokevirtual 114, 3) := by decide +kernel
theorem dX11_rule_25 : decode cX11_rule 25 = .ok (.istore_n 1, 1) := by decide +kernel
theorem dX11_rule_26 : decode cX11_rule 26 = .ok (.iload_n 1, 1) := by decide +kernel
theorem dX11_rule_27 : decode cX11_rule 27 = .ok (.ifCond .ge 21, 3) := by decide +kernel
theorem dX11_rule_30 : decode cX11_rule 30 = .ok (.aload_n 0, 1) := by decide +kernel
theorem dX11_rule_31 : decode cX11_rule 31 = .ok (.getfield 45, 3) := by decide +kernel
theorem dX11_rule_34 : decode cX11_rule 34 = .ok (.getfield 111, 3) := by decide +kernel
theorem dX11_rule_37 : decode cX11_rule 37 = .ok (.aload_n 0, 1) := by decide +kernel
theorem dX11_rule_38 : decode cX11_rule 38 = .ok (.getfield 38, 3) := by decide +kernel
theorem dX11_rule_41 : decode cX11_rule 41 = .ok (.invokevirtual 117, 3) := by decide +kernel
theorem dX11_rule_44 : decode cX11_rule 44 = .ok (.invokevirtual 71, 3) := by decide +kernel
theorem dX11_rule_47 : decode cX11_rule 47 = .ok (.pop, 1) := by decide +kernel
theorem dX11_rule_48 : decode cX11_rule 48 = .ok (.aload_n 0, 1) := by decide +kernel
theorem dX11_rule_49 : decode cX11_rule 49 = .ok (.getfield 38, 3) := by decide +kernel
theorem dX11_rule_52 : decode cX11_rule 52 = .ok (.iconst 0, 1) := by decide +kernel
theorem dX11_rule_53 : decode cX11_rule 53 = .ok (.putfield 104, 3) := by decide +kernel
theorem dX11_rule_56 : decode cX11_rule 56 = .ok (.iload_n 1, 1) := by decide +kernel
theorem dX11_rule_57 : decode cX11_rule 57 = .ok (.ifCond .ge 18, 3) := by decide +kernel
theorem dX11_rule_60 : decode cX11_rule 60 = .ok (.aload_n 0, 1) := by decide +kernel
theorem dX11_rule_61 : decode cX11_rule 61 = .ok (.getfield 45, 3) := by decide +kernel
theorem dX11_rule_64 : decode cX11_rule 64 = .ok (.getfield 111, 3) := by decide +kernel
theorem dX11_rule_67 : decode cX11_rule 67 = .ok (.invokevirtual 79, 3) := by decide +kernel
theorem dX11_rule_70 : decode cX11_rule 70 = .ok (.iconst 1, 1) := by decide +kernel
theorem dX11_rule_71 : decode cX11_rule 71 = .ok (.isub, 1) := by decide +kernel
theorem dX11_rule_72 : decode cX11_rule 72 = .ok (.goto 7, 3) := by decide +kernel
theorem dX11_rule_75 : decode cX11_rule 75 = .ok (.bipush (-100), 2) := by decide +kernel
theorem dX11_rule_77 : decode cX11_rule 77 = .ok (.iload_n 1, 1) := by decide +kernel
theorem dX11_rule_78 : decode cX11_rule 78 = .ok (.isub, 1) := by decide +kernel
theorem dX11_rule_79 : decode cX11_rule 79 = .ok (.ireturn, 1) := by decide +kernel
theorem dX11_drop_0 : decode cX11_drop 0 = .ok (.aload_n 0, 1) := by decide +kernel
theorem dX11_drop_1 : decode cX11_drop 1 = .ok (.getfield 45, 3) := by decide +kernel
theorem dX11_drop_4 : decode cX11_drop 4 = .ok (.getfield 111, 3) := by decide +kernel
theorem dX11_drop_7 : decode cX11_drop 7 = .ok (.invokevirtual 79, 3) := by decide +kernel
theorem dX11_drop_10 : decode cX11_drop 10 = .ok (.iconst 1, 1) := by decide +kernel
theorem dX11_drop_11 : decode cX11_drop 11 = .ok (.isub, 1) := by decide +kernel
theorem dX11_drop_12 : decode cX11_drop 12 = .ok (.istore_n 1, 1) := by decide +kernel
theorem dX11_drop_13 : decode cX11_drop 13 = .ok (.iload_n 1, 1) := by decide +kernel
theorem dX11_drop_14 : decode cX11_drop 14 = .ok (.ifCond .ge 6, 3) := by decide +kernel
theorem dX11_drop_17 : decode cX11_drop 17 = .ok (.bipush (-3), 2) := by decide +kernel
theorem dX11_drop_19 : decode cX11_drop 19 = .ok (.ireturn, 1) := by decide +kernel
theorem dX11_drop_20 : decode cX11_drop 20 = .ok (.aload_n 0, 1) := by decide +kernel
theorem dX11_drop_21 : decode cX11_drop 21 = .ok (.getfield 45, 3) := by decide +kernel
theorem dX11_drop_24 : decode cX11_drop 24 = .ok (.getfield 111, 3) := by decide +kernel
theorem dX11_drop_27 : decode cX11_drop 27 = .ok (.iload_n 1, 1) := by decide +kernel
theorem dX11_drop_28 : decode cX11_drop 28 = .ok (.invokevirtual 121, 3) := by decide +kernel
theorem dX11_drop_31 : decode cX11_drop 31 = .ok (.pop, 1) := by decide +kernel
theorem dX11_drop_32 : decode cX11_drop 32 = .ok (.iload_n 1, 1) := by decide +kernel
theorem dX11_drop_33 : decode cX11_drop 33 = .ok (.ireturn, 1) := by decide +kernel
theorem dX11_says_0 : decode cX11_says 0 = .ok (.iload_n 1, 1) := by decide +kernel
theorem dX11_says_1 : decode cX11_says 1 = .ok (.iconst 0, 1) := by decide +kernel
theorem dX11_says_2 : decode cX11_says 2 = .ok (.aload_n 0, 1) := by decide +kernel
theorem dX11_says_3 : decode cX11_says 3 = .ok (.getfield 45, 3) := by decide +kernel
theorem dX11_says_6 : decode cX11_says 6 = .ok (.getfield 111, 3) := by decide +kernel
theorem dX11_says_9 : decode cX11_says 9 = .ok (.invokevirtual 79, 3) := by decide +kernel
theorem dX11_says_12 : decode cX11_says 12 = .ok (.iconst 1, 1) := by decide +kernel
theorem dX11_says_13 : decode cX11_says 13 = .ok (.isub, 1) := by decide +kernel
theorem dX11_says_14 : decode cX11_says 14 = .ok (.invokestatic 75, 3) := by decide +kernel
theorem dX11_says_17 : decode cX11_says 17 = .ok (.ifCond .eq 14, 3) := by decide +kernel
theorem dX11_says_20 : decode cX11_says 20 = .ok (.aload_n 0, 1) := by decide +kernel
theorem dX11_says_21 : decode cX11_says 21 = .ok (.iload_n 2, 1) := by decide +kernel
theorem dX11_says_22 : decode cX11_says 22 = .ok (.iload_n 3, 1) := by decide +kernel
theorem dX11_says_23 : decode cX11_says 23 = .ok (.iload 4, 2) := by decide +kernel
theorem dX11_says_25 : decode cX11_says 25 = .ok (.invokevirtual 125, 3) := by decide +kernel
theorem dX11_says_28 : decode cX11_says 28 = .ok (.ifCond .ne 6, 3) := by decide +kernel
theorem dX11_says_31 : decode cX11_says 31 = .ok (.ldc 128, 2) := by decide +kernel
theorem dX11_says_33 : decode cX11_says 33 = .ok (.ireturn, 1) := by decide +kernel
theorem dX11_says_34 : decode cX11_says 34 = .ok (.aload_n 0, 1) := by decide +kernel
theorem dX11_says_35 : decode cX11_says 35 = .ok (.iload_n 2, 1) := by decide +kernel
theorem dX11_says_36 : decode cX11_says 36 = .ok (.iload_n 3, 1) := by decide +kernel
theorem dX11_says_37 : decode cX11_says 37 = .ok (.iload 4, 2) := by decide +kernel
theorem dX11_says_39 : decode cX11_says 39 = .ok (.invokevirtual 129, 3) := by decide +kernel
theorem dX11_says_42 : decode cX11_says 42 = .ok (.aload_n 0, 1) := by decide +kernel
theorem dX11_says_43 : decode cX11_says 43 = .ok (.getfield 45, 3) := by decide +kernel
theorem dX11_says_46 : decode cX11_says 46 = .ok (.aload_n 0, 1) := by decide +kernel
theorem dX11_says_47 : decode cX11_says 47 = .ok (.getfield 45, 3) := by decide +kernel
theorem dX11_says_50 : decode cX11_says 50 = .ok (.getfield 111, 3) := by decide +kernel
theorem dX11_says_53 : decode cX11_says 53 = .ok (.iload_n 1, 1) := by decide +kernel
theorem dX11_says_54 : decode cX11_says 54 = .ok (.invokevirtual 132, 3) := by decide +kernel
theorem dX11_says_57 : decode cX11_says 57 = .ok (.checkcast 135, 3) := by decide +kernel
theorem dX11_says_60 : decode cX11_says 60 = .ok (.invokevirtual 137, 3) := by decide +kernel
theorem dX11_says_63 : decode cX11_says 63 = .ok (.ireturn, 1) := by decide +kernel
theorem dX11_hang_0 : decode cX11_hang 0 = .ok (.aload_n 0, 1) := by decide +kernel
theorem dX11_hang_1 : decode cX11_hang 1 = .ok (.iload_n 1, 1) := by decide +kernel
theorem dX11_hang_2 : decode cX11_hang 2 = .ok (.invokevirtual 141, 3) := by decide +kernel
theorem dX11_hang_5 : decode cX11_hang 5 = .ok (.ifCond .eq 11, 3) := by decide +kernel
theorem dX11_hang_8 : decode cX11_hang 8 = .ok (.aload_n 0, 1) := by decide +kernel
theorem dX11_hang_9 : decode cX11_hang 9 = .ok (.iload_n 2, 1) := by decide +kernel
theorem dX11_hang_10 : decode cX11_hang 10 = .ok (.invokevirtual 144, 3) := by decide +kernel
theorem dX11_hang_13 : decode cX11_hang 13 = .ok (.ifCond .ne 5, 3) := by decide +kernel
theorem dX11_hang_16 : decode cX11_hang 16 = .ok (.iconst (-1), 1) := by decide +kernel
theorem dX11_hang_17 : decode cX11_hang 17 = .ok (.ireturn, 1) := by decide +kernel
theorem dX11_hang_18 : decode cX11_hang 18 = .ok (.aload_n 0, 1) := by decide +kernel
theorem dX11_hang_19 : decode cX11_hang 19 = .ok (.getfield 16, 3) := by decide +kernel
theorem dX11_hang_22 : decode cX11_hang 22 = .ok (.iload_n 1, 1) := by decide +kernel
theorem dX11_hang_23 : decode cX11_hang 23 = .ok (.invokevirtual 132, 3) := by decide +kernel
theorem dX11_hang_26 : decode cX11_hang 26 = .ok (.checkcast 83, 3) := by decide +kernel
theorem dX11_hang_29 : decode cX11_hang 29 = .ok (.astore_n 3, 1) := by decide +kernel
theorem dX11_hang_30 : decode cX11_hang 30 = .ok (.aload_n 0, 1) := by decide +kernel
theorem dX11_hang_31 : decode cX11_hang 31 = .ok (.getfield 22, 3) := by decide +kernel
theorem dX11_hang_34 : decode cX11_hang 34 = .ok (.iload_n 2, 1) := by decide +kernel
theorem dX11_hang_35 : decode cX11_hang 35 = .ok (.invokevirtual 132, 3) := by decide +kernel
theorem dX11_hang_38 : decode cX11_hang 38 = .ok (.checkcast 95, 3) := by decide +kernel
theorem dX11_hang_41 : decode cX11_hang 41 = .ok (.astore 4, 2) := by decide +kernel
theorem dX11_hang_43 : decode cX11_hang 43 = .ok (.aload_n 3, 1) := by decide +kernel
theorem dX11_hang_44 : decode cX11_hang 44 = .ok (.getfield 147, 3) := by decide +kernel
theorem dX11_hang_47 : decode cX11_hang 47 = .ok (.aload_n 0, 1) := by decide +kernel
theorem dX11_hang_48 : decode cX11_hang 48 = .ok (.getfield 150, 3) := by decide +kernel
theorem dX11_hang_51 : decode cX11_hang 51 = .ok (.if_icmp .gt 24, 3) := by decide +kernel
theorem dX11_hang_54 : decode cX11_hang 54 = .ok (.aload 4, 2) := by decide +kernel
theorem dX11_hang_56 : decode cX11_hang 56 = .ok (.aload_n 0, 1) := by decide +kernel
theorem dX11_hang_57 : decode cX11_hang 57 = .ok (.getfield 150, 3) := by decide +kernel
theorem dX11_hang_60 : decode cX11_hang 60 = .ok (.invokevirtual 153, 3) := by decide +kernel
theorem dX11_hang_63 : decode cX11_hang 63 = .ok (.ifCond .eq 12, 3) := by decide +kernel
theorem dX11_hang_66 : decode cX11_hang 66 = .ok (.aload_n 3, 1) := by decide +kernel
theorem dX11_hang_67 : decode cX11_hang 67 = .ok (.aload 4, 2) := by decide +kernel
theorem dX11_hang_69 : decode cX11_hang 69 = .ok (.invokevirtual 156, 3) := by decide +kernel
theorem dX11_hang_72 : decode cX11_hang 72 = .ok (.ifCond .ne 6, 3) := by decide +kernel
theorem dX11_hang_75 : decode cX11_hang 75 = .ok (.bipush (-3), 2) := by decide +kernel
theorem dX11_hang_77 : decode cX11_hang 77 = .ok (.ireturn, 1) := by decide +kernel
theorem dX11_hang_78 : decode cX11_hang 78 = .ok (.aload_n 3, 1) := by decide +kernel
theorem dX11_hang_79 : decode cX11_hang 79 = .ok (.getfield 160, 3) := by decide +kernel
theorem dX11_hang_82 : decode cX11_hang 82 = .ok (.aload 4, 2) := by decide +kernel
theorem dX11_hang_84 : decode cX11_hang 84 = .ok (.invokevirtual 71, 3) := by decide +kernel
theorem dX11_hang_87 : decode cX11_hang 87 = .ok (.pop, 1) := by decide +kernel
theorem dX11_hang_88 : decode cX11_hang 88 = .ok (.aload 4, 2) := by decide +kernel
theorem dX11_hang_90 : decode cX11_hang 90 = .ok (.iconst 1, 1) := by decide +kernel
theorem dX11_hang_91 : decode cX11_hang 91 = .ok (.putfield 163, 3) := by decide +kernel
theorem dX11_hang_94 : decode cX11_hang 94 = .ok (.aload 4, 2) := by decide +kernel
theorem dX11_hang_96 : decode cX11_hang 96 = .ok (.iload_n 1, 1) := by decide +kernel
theorem dX11_hang_97 : decode cX11_hang 97 = .ok (.putfield 166, 3) := by decide +kernel
theorem dX11_hang_100 : decode cX11_hang 100 = .ok (.aload_n 3, 1) := by decide +kernel
theorem dX11_hang_101 : decode cX11_hang 101 = .ok (.getfield 160, 3) := by decide +kernel
theorem dX11_hang_104 : decode cX11_hang 104 = .ok (.invokevirtual 79, 3) := by decide +kernel
theorem dX11_hang_107 : decode cX11_hang 107 = .ok (.ireturn, 1) := by decide +kernel
theorem dX11_off_0 : decode cX11_off 0 = .ok (.aload_n 0, 1) := by decide +kernel
theorem dX11_off_1 : decode cX11_off 1 = .ok (.iload_n 1, 1) := by decide +kernel
theorem dX11_off_2 : decode cX11_off 2 = .ok (.invokevirtual 144, 3) := by decide +kernel
theorem dX11_off_5 : decode cX11_off 5 = .ok (.ifCond .ne 5, 3) := by decide +kernel
theorem dX11_off_8 : decode cX11_off 8 = .ok (.iconst (-1), 1) := by decide +kernel
theorem dX11_off_9 : decode cX11_off 9 = .ok (.ireturn, 1) := by decide +kernel
theorem dX11_off_10 : decode cX11_off 10 = .ok (.aload_n 0, 1) := by decide +kernel
theorem dX11_off_11 : decode cX11_off 11 = .ok (.getfield 22, 3) := by decide +kernel
theorem dX11_off_14 : decode cX11_off 14 = .ok (.iload_n 1, 1) := by decide +kernel
theorem dX11_off_15 : decode cX11_off 15 = .ok (.invokevirtual 132, 3) := by decide +kernel
theorem dX11_off_18 : decode cX11_off 18 = .ok (.checkcast 95, 3) := by decide +kernel
theorem dX11_off_21 : decode cX11_off 21 = .ok (.astore_n 2, 1) := by decide +kernel
theorem dX11_off_22 : decode cX11_off 22 = .ok (.aload_n 2, 1) := by decide +kernel
theorem dX11_off_23 : decode cX11_off 23 = .ok (.getfield 163, 3) := by decide +kernel
theorem dX11_off_26 : decode cX11_off 26 = .ok (.iconst 1, 1) := by decide +kernel
theorem dX11_off_27 : decode cX11_off 27 = .ok (.if_icmp .ne 14, 3) := by decide +kernel
theorem dX11_off_30 : decode cX11_off 30 = .ok (.aload_n 0, 1) := by decide +kernel
theorem dX11_off_31 : decode cX11_off 31 = .ok (.aload_n 2, 1) := by decide +kernel
theorem dX11_off_32 : decode cX11_off 32 = .ok (.getfield 166, 3) := by decide +kernel
theorem dX11_off_35 : decode cX11_off 35 = .ok (.invokevirtual 141, 3) := by decide +kernel
theorem dX11_off_38 : decode cX11_off 38 = .ok (.ifCond .ne 6, 3) := by decide +kernel
theorem dX11_off_41 : decode cX11_off 41 = .ok (.bipush (-3), 2) := by decide +kernel
theorem dX11_off_43 : decode cX11_off 43 = .ok (.ireturn, 1) := by decide +kernel
theorem dX11_off_44 : decode cX11_off 44 = .ok (.aload_n 0, 1) := by decide +kernel
theorem dX11_off_45 : decode cX11_off 45 = .ok (.getfield 16, 3) := by decide +kernel
theorem dX11_off_48 : decode cX11_off 48 = .ok (.aload_n 2, 1) := by decide +kernel
theorem dX11_off_49 : decode cX11_off 49 = .ok (.getfield 166, 3) := by decide +kernel
theorem dX11_off_52 : decode cX11_off 52 = .ok (.invokevirtual 132, 3) := by decide +kernel
theorem dX11_off_55 : decode cX11_off 55 = .ok (.checkcast 83, 3) := by decide +kernel
theorem dX11_off_58 : decode cX11_off 58 = .ok (.astore_n 3, 1) := by decide +kernel
theorem dX11_off_59 : decode cX11_off 59 = .ok (.aload_n 3, 1) := by decide +kernel
theorem dX11_off_60 : decode cX11_off 60 = .ok (.aload_n 2, 1) := by decide +kernel
theorem dX11_off_61 : decode cX11_off 61 = .ok (.invokevirtual 169, 3) := by decide +kernel
theorem dX11_off_64 : decode cX11_off 64 = .ok (.aload_n 2, 1) := by decide +kernel
theorem dX11_off_65 : decode cX11_off 65 = .ok (.iconst 0, 1) := by decide +kernel
theorem dX11_off_66 : decode cX11_off 66 = .ok (.putfield 163, 3) := by decide +kernel
theorem dX11_off_69 : decode cX11_off 69 = .ok (.aload_n 2, 1) := by decide +kernel
theorem dX11_off_70 : decode cX11_off 70 = .ok (.iconst (-1), 1) := by decide +kernel
theorem dX11_off_71 : decode cX11_off 71 = .ok (.putfield 166, 3) := by decide +kernel
theorem dX11_off_74 : decode cX11_off 74 = .ok (.aload_n 3, 1) := by decide +kernel
theorem dX11_off_75 : decode cX11_off 75 = .ok (.getfield 160, 3) := by decide +kernel
theorem dX11_off_78 : decode cX11_off 78 = .ok (.invokevirtual 79, 3) := by decide +kernel
theorem dX11_off_81 : decode cX11_off 81 = .ok (.ireturn, 1) := by decide +kernel
theorem dX11_may_0 : decode cX11_may 0 = .ok (.aload_n 0, 1) := by decide +kernel
theorem dX11_may_1 : decode cX11_may 1 = .ok (.iload_n 1, 1) := by decide +kernel
theorem dX11_may_2 : decode cX11_may 2 = .ok (.iload_n 2, 1) := by decide +kernel
theorem dX11_may_3 : decode cX11_may 3 = .ok (.iload_n 3, 1) := by decide +kernel
theorem dX11_may_4 : decode cX11_may 4 = .ok (.invokevirtual 125, 3) := by decide +kernel
theorem dX11_may_7 : decode cX11_may 7 = .ok (.ifCond .ne 5, 3) := by decide +kernel
theorem dX11_may_10 : decode cX11_may 10 = .ok (.iconst (-1), 1) := by decide +kernel
theorem dX11_may_11 : decode cX11_may 11 = .ok (.ireturn, 1) := by decide +kernel
theorem dX11_may_12 : decode cX11_may 12 = .ok (.aload_n 0, 1) := by decide +kernel
theorem dX11_may_13 : decode cX11_may 13 = .ok (.aload_n 0, 1) := by decide +kernel
theorem dX11_may_14 : decode cX11_may 14 = .ok (.iload_n 1, 1) := by decide +kernel
theorem dX11_may_15 : decode cX11_may 15 = .ok (.iload_n 2, 1) := by decide +kernel
theorem dX11_may_16 : decode cX11_may 16 = .ok (.iload_n 3, 1) := by decide +kernel
theorem dX11_may_17 : decode cX11_may 17 = .ok (.invokevirtual 173, 3) := by decide +kernel
theorem dX11_may_20 : decode cX11_may 20 = .ok (.invokevirtual 177, 3) := by decide +kernel
theorem dX11_may_23 : decode cX11_may 23 = .ok (.ireturn, 1) := by decide +kernel
theorem dX11_fly_0 : decode cX11_fly 0 = .ok (.aload_n 0, 1) := by decide +kernel
theorem dX11_fly_1 : decode cX11_fly 1 = .ok (.iload_n 1, 1) := by decide +kernel
theorem dX11_fly_2 : decode cX11_fly 2 = .ok (.iload_n 2, 1) := by decide +kernel
theorem dX11_fly_3 : decode cX11_fly 3 = .ok (.iload_n 3, 1) := by decide +kernel
theorem dX11_fly_4 : decode cX11_fly 4 = .ok (.invokevirtual 125, 3) := by decide +kernel
theorem dX11_fly_7 : decode cX11_fly 7 = .ok (.ifCond .ne 5, 3) := by decide +kernel
theorem dX11_fly_10 : decode cX11_fly 10 = .ok (.iconst (-1), 1) := by decide +kernel
theorem dX11_fly_11 : decode cX11_fly 11 = .ok (.ireturn, 1) := by decide +kernel
theorem dX11_fly_12 : decode cX11_fly 12 = .ok (.aload_n 0, 1) := by decide +kernel
theorem dX11_fly_13 : decode cX11_fly 13 = .ok (.iload_n 1, 1) := by decide +kernel
theorem dX11_fly_14 : decode cX11_fly 14 = .ok (.iload_n 2, 1) := by decide +kernel
theorem dX11_fly_15 : decode cX11_fly 15 = .ok (.iload_n 3, 1) := by decide +kernel
theorem dX11_fly_16 : decode cX11_fly 16 = .ok (.invokevirtual 173, 3) := by decide +kernel
theorem dX11_fly_19 : decode cX11_fly 19 = .ok (.astore 4, 2) := by decide +kernel
theorem dX11_fly_21 : decode cX11_fly 21 = .ok (.aload_n 0, 1) := by decide +kernel
theorem dX11_fly_22 : decode cX11_fly 22 = .ok (.aload 4, 2) := by decide +kernel
theorem dX11_fly_24 : decode cX11_fly 24 = .ok (.invokevirtual 177, 3) := by decide +kernel
theorem dX11_fly_27 : decode cX11_fly 27 = .ok (.istore 5, 2) := by decide +kernel
theorem dX11_fly_29 : decode cX11_fly 29 = .ok (.iload 5, 2) := by decide +kernel
theorem dX11_fly_31 : decode cX11_fly 31 = .ok (.ifCond .eq 9, 3) := by decide +kernel
theorem dX11_fly_34 : decode cX11_fly 34 = .ok (.bipush (-10), 2) := by decide +kernel
theorem dX11_fly_36 : decode cX11_fly 36 = .ok (.iload 5, 2) := by decide +kernel
theorem dX11_fly_38 : decode cX11_fly 38 = .ok (.isub, 1) := by decide +kernel
theorem dX11_fly_39 : decode cX11_fly 39 = .ok (.ireturn, 1) := by decide +kernel
theorem dX11_fly_40 : decode cX11_fly 40 = .ok (.aload_n 0, 1) := by decide +kernel
theorem dX11_fly_41 : decode cX11_fly 41 = .ok (.getfield 25, 3) := by decide +kernel
theorem dX11_fly_44 : decode cX11_fly 44 = .ok (.invokevirtual 79, 3) := by decide +kernel
theorem dX11_fly_47 : decode cX11_fly 47 = .ok (.sipush 200, 3) := by decide +kernel
theorem dX11_fly_50 : decode cX11_fly 50 = .ok (.if_icmp .lt 6, 3) := by decide +kernel
theorem dX11_fly_53 : decode cX11_fly 53 = .ok (.bipush (-2), 2) := by decide +kernel
theorem dX11_fly_55 : decode cX11_fly 55 = .ok (.ireturn, 1) := by decide +kernel
theorem dX11_fly_56 : decode cX11_fly 56 = .ok (.aload_n 0, 1) := by decide +kernel
theorem dX11_fly_57 : decode cX11_fly 57 = .ok (.aload 4, 2) := by decide +kernel
theorem dX11_fly_59 : decode cX11_fly 59 = .ok (.invokevirtual 181, 3) := by decide +kernel
theorem dX11_fly_62 : decode cX11_fly 62 = .ok (.aload_n 0, 1) := by decide +kernel
theorem dX11_fly_63 : decode cX11_fly 63 = .ok (.getfield 25, 3) := by decide +kernel
theorem dX11_fly_66 : decode cX11_fly 66 = .ok (.invokevirtual 79, 3) := by decide +kernel
theorem dX11_fly_69 : decode cX11_fly 69 = .ok (.iconst 1, 1) := by decide +kernel
theorem dX11_fly_70 : decode cX11_fly 70 = .ok (.isub, 1) := by decide +kernel
theorem dX11_fly_71 : decode cX11_fly 71 = .ok (.ireturn, 1) := by decide +kernel
theorem dX11_fuel_0 : decode cX11_fuel 0 = .ok (.aload_n 0, 1) := by decide +kernel
theorem dX11_fuel_1 : decode cX11_fuel 1 = .ok (.iload_n 1, 1) := by decide +kernel
theorem dX11_fuel_2 : decode cX11_fuel 2 = .ok (.invokevirtual 141, 3) := by decide +kernel
theorem dX11_fuel_5 : decode cX11_fuel 5 = .ok (.ifCond .ne 5, 3) := by decide +kernel
theorem dX11_fuel_8 : decode cX11_fuel 8 = .ok (.iconst (-1), 1) := by decide +kernel
theorem dX11_fuel_9 : decode cX11_fuel 9 = .ok (.ireturn, 1) := by decide +kernel
theorem dX11_fuel_10 : decode cX11_fuel 10 = .ok (.aload_n 0, 1) := by decide +kernel
theorem dX11_fuel_11 : decode cX11_fuel 11 = .ok (.getfield 16, 3) := by decide +kernel
theorem dX11_fuel_14 : decode cX11_fuel 14 = .ok (.iload_n 1, 1) := by decide +kernel
theorem dX11_fuel_15 : decode cX11_fuel 15 = .ok (.invokevirtual 132, 3) := by decide +kernel
theorem dX11_fuel_18 : decode cX11_fuel 18 = .ok (.checkcast 83, 3) := by decide +kernel
theorem dX11_fuel_21 : decode cX11_fuel 21 = .ok (.astore_n 2, 1) := by decide +kernel
theorem dX11_fuel_22 : decode cX11_fuel 22 = .ok (.aload_n 2, 1) := by decide +kernel
theorem dX11_fuel_23 : decode cX11_fuel 23 = .ok (.getfield 147, 3) := by decide +kernel
theorem dX11_fuel_26 : decode cX11_fuel 26 = .ok (.aload_n 0, 1) := by decide +kernel
theorem dX11_fuel_27 : decode cX11_fuel 27 = .ok (.getfield 150, 3) := by decide +kernel
theorem dX11_fuel_30 : decode cX11_fuel 30 = .ok (.if_icmp .le 6, 3) := by decide +kernel
theorem dX11_fuel_33 : decode cX11_fuel 33 = .ok (.bipush (-3), 2) := by decide +kernel
theorem dX11_fuel_35 : decode cX11_fuel 35 = .ok (.ireturn, 1) := by decide +kernel
theorem dX11_fuel_36 : decode cX11_fuel 36 = .ok (.aload_n 2, 1) := by decide +kernel
theorem dX11_fuel_37 : decode cX11_fuel 37 = .ok (.getfield 185, 3) := by decide +kernel
theorem dX11_fuel_40 : decode cX11_fuel 40 = .ok (.aload_n 2, 1) := by decide +kernel
theorem dX11_fuel_41 : decode cX11_fuel 41 = .ok (.getfield 188, 3) := by decide +kernel
theorem dX11_fuel_44 : decode cX11_fuel 44 = .ok (.isub, 1) := by decide +kernel
theorem dX11_fuel_45 : decode cX11_fuel 45 = .ok (.istore_n 3, 1) := by decide +kernel
theorem dX11_fuel_46 : decode cX11_fuel 46 = .ok (.aload_n 2, 1) := by decide +kernel
theorem dX11_fuel_47 : decode cX11_fuel 47 = .ok (.aload_n 2, 1) := by decide +kernel
theorem dX11_fuel_48 : decode cX11_fuel 48 = .ok (.getfield 185, 3) := by decide +kernel
theorem dX11_fuel_51 : decode cX11_fuel 51 = .ok (.putfield 188, 3) := by decide +kernel
theorem dX11_fuel_54 : decode cX11_fuel 54 = .ok (.iload_n 3, 1) := by decide +kernel
theorem dX11_fuel_55 : decode cX11_fuel 55 = .ok (.ireturn, 1) := by decide +kernel
theorem dX11_minute_0 : decode cX11_minute 0 = .ok (.iload_n 1, 1) := by decide +kernel
theorem dX11_minute_1 : decode cX11_minute 1 = .ok (.iconst 1, 1) := by decide +kernel
theorem dX11_minute_2 : decode cX11_minute 2 = .ok (.bipush 120, 2) := by decide +kernel
theorem dX11_minute_4 : decode cX11_minute 4 = .ok (.invokestatic 75, 3) := by decide +kernel
theorem dX11_minute_7 : decode cX11_minute 7 = .ok (.ifCond .eq 15, 3) := by decide +kernel
theorem dX11_minute_10 : decode cX11_minute 10 = .ok (.aload_n 0, 1) := by decide +kernel
theorem dX11_minute_11 : decode cX11_minute 11 = .ok (.getfield 150, 3) := by decide +kernel
theorem dX11_minute_14 : decode cX11_minute 14 = .ok (.iload_n 1, 1) := by decide +kernel
theorem dX11_minute_15 : decode cX11_minute 15 = .ok (.iadd, 1) := by decide +kernel
theorem dX11_minute_16 : decode cX11_minute 16 = .ok (.sipush 720, 3) := by decide +kernel
theorem dX11_minute_19 : decode cX11_minute 19 = .ok (.if_icmp .le 5, 3) := by decide +kernel
theorem dX11_minute_22 : decode cX11_minute 22 = .ok (.iconst (-1), 1) := by decide +kernel
theorem dX11_minute_23 : decode cX11_minute 23 = .ok (.ireturn, 1) := by decide +kernel
theorem dX11_minute_24 : decode cX11_minute 24 = .ok (.aload_n 0, 1) := by decide +kernel
theorem dX11_minute_25 : decode cX11_minute 25 = .ok (.dup, 1) := by decide +kernel
theorem dX11_minute_26 : decode cX11_minute 26 = .ok (.getfield 150, 3) := by decide +kernel
theorem dX11_minute_29 : decode cX11_minute 29 = .ok (.iload_n 1, 1) := by decide +kernel
theorem dX11_minute_30 : decode cX11_minute 30 = .ok (.iadd, 1) := by decide +kernel
theorem dX11_minute_31 : decode cX11_minute 31 = .ok (.putfield 150, 3) := by decide +kernel
theorem dX11_minute_34 : decode cX11_minute 34 = .ok (.iconst 0, 1) := by decide +kernel
theorem dX11_minute_35 : decode cX11_minute 35 = .ok (.istore_n 2, 1) := by decide +kernel
theorem dX11_minute_36 : decode cX11_minute 36 = .ok (.iload_n 2, 1) := by decide +kernel
theorem dX11_minute_37 : decode cX11_minute 37 = .ok (.aload_n 0, 1) := by decide +kernel
theorem dX11_minute_38 : decode cX11_minute 38 = .ok (.getfield 22, 3) := by decide +kernel
theorem dX11_minute_41 : decode cX11_minute 41 = .ok (.invokevirtual 79, 3) := by decide +kernel
theorem dX11_minute_44 : decode cX11_minute 44 = .ok (.if_icmp .ge 27, 3) := by decide +kernel
theorem dX11_minute_47 : decode cX11_minute 47 = .ok (.aload_n 0, 1) := by decide +kernel
theorem dX11_minute_48 : decode cX11_minute 48 = .ok (.getfield 22, 3) := by decide +kernel
theorem dX11_minute_51 : decode cX11_minute 51 = .ok (.iload_n 2, 1) := by decide +kernel
theorem dX11_minute_52 : decode cX11_minute 52 = .ok (.invokevirtual 132, 3) := by decide +kernel
theorem dX11_minute_55 : decode cX11_minute 55 = .ok (.checkcast 95, 3) := by decide +kernel
theorem dX11_minute_58 : decode cX11_minute 58 = .ok (.aload_n 0, 1) := by decide +kernel
theorem dX11_minute_59 : decode cX11_minute 59 = .ok (.getfield 150, 3) := by decide +kernel
theorem dX11_minute_62 : decode cX11_minute 62 = .ok (.invokevirtual 191, 3) := by decide +kernel
theorem dX11_minute_65 : decode cX11_minute 65 = .ok (.iinc 2 1, 3) := by decide +kernel
theorem dX11_minute_68 : decode cX11_minute 68 = .ok (.goto (-32), 3) := by decide +kernel
theorem dX11_minute_71 : decode cX11_minute 71 = .ok (.aload_n 0, 1) := by decide +kernel
theorem dX11_minute_72 : decode cX11_minute 72 = .ok (.getfield 150, 3) := by decide +kernel
theorem dX11_minute_75 : decode cX11_minute 75 = .ok (.ireturn, 1) := by decide +kernel
theorem dX11_about_0 : decode cX11_about 0 = .ok (.aload_n 0, 1) := by decide +kernel
theorem dX11_about_1 : decode cX11_about 1 = .ok (.iload_n 1, 1) := by decide +kernel
theorem dX11_about_2 : decode cX11_about 2 = .ok (.invokevirtual 141, 3) := by decide +kernel
theorem dX11_about_5 : decode cX11_about 5 = .ok (.ifCond .ne 6, 3) := by decide +kernel
theorem dX11_about_8 : decode cX11_about 8 = .ok (.bipush (-9), 2) := by decide +kernel
theorem dX11_about_10 : decode cX11_about 10 = .ok (.ireturn, 1) := by decide +kernel
theorem dX11_about_11 : decode cX11_about 11 = .ok (.aload_n 0, 1) := by decide +kernel
theorem dX11_about_12 : decode cX11_about 12 = .ok (.getfield 16, 3) := by decide +kernel
theorem dX11_about_15 : decode cX11_about 15 = .ok (.iload_n 1, 1) := by decide +kernel
theorem dX11_about_16 : decode cX11_about 16 = .ok (.invokevirtual 132, 3) := by decide +kernel
theorem dX11_about_19 : decode cX11_about 19 = .ok (.checkcast 83, 3) := by decide +kernel
theorem dX11_about_22 : decode cX11_about 22 = .ok (.astore_n 3, 1) := by decide +kernel
theorem dX11_about_23 : decode cX11_about 23 = .ok (.iload_n 2, 1) := by decide +kernel
theorem dX11_about_24 : decode cX11_about 24 = .ok (.tableswitch 79 0 4 #[36, 41, 46, 54, 62], 36) := by decide +kernel
theorem dX11_about_60 : decode cX11_about 60 = .ok (.aload_n 3, 1) := by decide +kernel
theorem dX11_about_61 : decode cX11_about 61 = .ok (.getfield 188, 3) := by decide +kernel
theorem dX11_about_64 : decode cX11_about 64 = .ok (.ireturn, 1) := by decide +kernel
theorem dX11_about_65 : decode cX11_about 65 = .ok (.aload_n 3, 1) := by decide +kernel
theorem dX11_about_66 : decode cX11_about 66 = .ok (.getfield 147, 3) := by decide +kernel
theorem dX11_about_69 : decode cX11_about 69 = .ok (.ireturn, 1) := by decide +kernel
theorem dX11_about_70 : decode cX11_about 70 = .ok (.aload_n 3, 1) := by decide +kernel
theorem dX11_about_71 : decode cX11_about 71 = .ok (.getfield 160, 3) := by decide +kernel
theorem dX11_about_74 : decode cX11_about 74 = .ok (.invokevirtual 79, 3) := by decide +kernel
theorem dX11_about_77 : decode cX11_about 77 = .ok (.ireturn, 1) := by decide +kernel
theorem dX11_about_78 : decode cX11_about 78 = .ok (.aload_n 3, 1) := by decide +kernel
theorem dX11_about_79 : decode cX11_about 79 = .ok (.getfield 160, 3) := by decide +kernel
theorem dX11_about_82 : decode cX11_about 82 = .ok (.invokestatic 195, 3) := by decide +kernel
theorem dX11_about_85 : decode cX11_about 85 = .ok (.ireturn, 1) := by decide +kernel
theorem dX11_about_86 : decode cX11_about 86 = .ok (.aload_n 3, 1) := by decide +kernel
theorem dX11_about_87 : decode cX11_about 87 = .ok (.iconst 0, 1) := by decide +kernel
theorem dX11_about_88 : decode cX11_about 88 = .ok (.aload_n 0, 1) := by decide +kernel
theorem dX11_about_89 : decode cX11_about 89 = .ok (.getfield 31, 3) := by decide +kernel
theorem dX11_about_92 : decode cX11_about 92 = .ok (.aload_n 0, 1) := by decide +kernel
theorem dX11_about_93 : decode cX11_about 93 = .ok (.getfield 150, 3) := by decide +kernel
theorem dX11_about_96 : decode cX11_about 96 = .ok (.invokevirtual 199, 3) := by decide +kernel
theorem dX11_about_99 : decode cX11_about 99 = .ok (.invokevirtual 203, 3) := by decide +kernel
theorem dX11_about_102 : decode cX11_about 102 = .ok (.ireturn, 1) := by decide +kernel
theorem dX11_about_103 : decode cX11_about 103 = .ok (.bipush (-9), 2) := by decide +kernel
theorem dX11_about_105 : decode cX11_about 105 = .ok (.ireturn, 1) := by decide +kernel
theorem dX11_pilotOf_0 : decode cX11_pilotOf 0 = .ok (.aload_n 0, 1) := by decide +kernel
theorem dX11_pilotOf_1 : decode cX11_pilotOf 1 = .ok (.iload_n 1, 1) := by decide +kernel
theorem dX11_pilotOf_2 : decode cX11_pilotOf 2 = .ok (.invokevirtual 207, 3) := by decide +kernel
theorem dX11_pilotOf_5 : decode cX11_pilotOf 5 = .ok (.ifCond .ne 6, 3) := by decide +kernel
theorem dX11_pilotOf_8 : decode cX11_pilotOf 8 = .ok (.bipush (-9), 2) := by decide +kernel
theorem dX11_pilotOf_10 : decode cX11_pilotOf 10 = .ok (.ireturn, 1) := by decide +kernel
theorem dX11_pilotOf_11 : decode cX11_pilotOf 11 = .ok (.aload_n 0, 1) := by decide +kernel
theorem dX11_pilotOf_12 : decode cX11_pilotOf 12 = .ok (.getfield 19, 3) := by decide +kernel
theorem dX11_pilotOf_15 : decode cX11_pilotOf 15 = .ok (.iload_n 1, 1) := by decide +kernel
theorem dX11_pilotOf_16 : decode cX11_pilotOf 16 = .ok (.invokevirtual 132, 3) := by decide +kernel
theorem dX11_pilotOf_19 : decode cX11_pilotOf 19 = .ok (.checkcast 88, 3) := by decide +kernel
theorem dX11_pilotOf_22 : decode cX11_pilotOf 22 = .ok (.astore_n 3, 1) := by decide +kernel
theorem dX11_pilotOf_23 : decode cX11_pilotOf 23 = .ok (.iload_n 2, 1) := by decide +kernel
theorem dX11_pilotOf_24 : decode cX11_pilotOf 24 = .ok (.tableswitch 48 0 2 #[28, 33, 38], 28) := by decide +kernel
theorem dX11_pilotOf_52 : decode cX11_pilotOf 52 = .ok (.aload_n 3, 1) := by decide +kernel
theorem dX11_pilotOf_53 : decode cX11_pilotOf 53 = .ok (.getfield 210, 3) := by decide +kernel
theorem dX11_pilotOf_56 : decode cX11_pilotOf 56 = .ok (.ireturn, 1) := by decide +kernel
theorem dX11_pilotOf_57 : decode cX11_pilotOf 57 = .ok (.aload_n 3, 1) := by decide +kernel
theorem dX11_pilotOf_58 : decode cX11_pilotOf 58 = .ok (.getfield 213, 3) := by decide +kernel
theorem dX11_pilotOf_61 : decode cX11_pilotOf 61 = .ok (.ireturn, 1) := by decide +kernel
theorem dX11_pilotOf_62 : decode cX11_pilotOf 62 = .ok (.aload_n 3, 1) := by decide +kernel
theorem dX11_pilotOf_63 : decode cX11_pilotOf 63 = .ok (.getfield 214, 3) := by decide +kernel
theorem dX11_pilotOf_66 : decode cX11_pilotOf 66 = .ok (.aload_n 3, 1) := by decide +kernel
theorem dX11_pilotOf_67 : decode cX11_pilotOf 67 = .ok (.getfield 210, 3) := by decide +kernel
theorem dX11_pilotOf_70 : decode cX11_pilotOf 70 = .ok (.isub, 1) := by decide +kernel
theorem dX11_pilotOf_71 : decode cX11_pilotOf 71 = .ok (.ireturn, 1) := by decide +kernel
theorem dX11_pilotOf_72 : decode cX11_pilotOf 72 = .ok (.bipush (-9), 2) := by decide +kernel
theorem dX11_pilotOf_74 : decode cX11_pilotOf 74 = .ok (.ireturn, 1) := by decide +kernel
theorem dX11_cargo_0 : decode cX11_cargo 0 = .ok (.aload_n 0, 1) := by decide +kernel
theorem dX11_cargo_1 : decode cX11_cargo 1 = .ok (.iload_n 1, 1) := by decide +kernel
theorem dX11_cargo_2 : decode cX11_cargo 2 = .ok (.invokevirtual 144, 3) := by decide +kernel
theorem dX11_cargo_5 : decode cX11_cargo 5 = .ok (.ifCond .ne 6, 3) := by decide +kernel
theorem dX11_cargo_8 : decode cX11_cargo 8 = .ok (.bipush (-9), 2) := by decide +kernel
theorem dX11_cargo_10 : decode cX11_cargo 10 = .ok (.ireturn, 1) := by decide +kernel
theorem dX11_cargo_11 : decode cX11_cargo 11 = .ok (.aload_n 0, 1) := by decide +kernel
theorem dX11_cargo_12 : decode cX11_cargo 12 = .ok (.getfield 22, 3) := by decide +kernel
theorem dX11_cargo_15 : decode cX11_cargo 15 = .ok (.iload_n 1, 1) := by decide +kernel
theorem dX11_cargo_16 : decode cX11_cargo 16 = .ok (.invokevirtual 132, 3) := by decide +kernel
theorem dX11_cargo_19 : decode cX11_cargo 19 = .ok (.checkcast 95, 3) := by decide +kernel
theorem dX11_cargo_22 : decode cX11_cargo 22 = .ok (.astore_n 3, 1) := by decide +kernel
theorem dX11_cargo_23 : decode cX11_cargo 23 = .ok (.iload_n 2, 1) := by decide +kernel
theorem dX11_cargo_24 : decode cX11_cargo 24 = .ok (.tableswitch 78 0 5 #[40, 45, 50, 55, 60, 73], 40) := by decide +kernel
theorem dX11_cargo_64 : decode cX11_cargo 64 = .ok (.aload_n 3, 1) := by decide +kernel
theorem dX11_cargo_65 : decode cX11_cargo 65 = .ok (.getfield 163, 3) := by decide +kernel
theorem dX11_cargo_68 : decode cX11_cargo 68 = .ok (.ireturn, 1) := by decide +kernel
theorem dX11_cargo_69 : decode cX11_cargo 69 = .ok (.aload_n 3, 1) := by decide +kernel
theorem dX11_cargo_70 : decode cX11_cargo 70 = .ok (.getfield 166, 3) := by decide +kernel
theorem dX11_cargo_73 : decode cX11_cargo 73 = .ok (.ireturn, 1) := by decide +kernel
theorem dX11_cargo_74 : decode cX11_cargo 74 = .ok (.aload_n 3, 1) := by decide +kernel
theorem dX11_cargo_75 : decode cX11_cargo 75 = .ok (.getfield 217, 3) := by decide +kernel
theorem dX11_cargo_78 : decode cX11_cargo 78 = .ok (.ireturn, 1) := by decide +kernel
theorem dX11_cargo_79 : decode cX11_cargo 79 = .ok (.aload_n 3, 1) := by decide +kernel
theorem dX11_cargo_80 : decode cX11_cargo 80 = .ok (.getfield 220, 3) := by decide +kernel
theorem dX11_cargo_83 : decode cX11_cargo 83 = .ok (.ireturn, 1) := by decide +kernel
theorem dX11_cargo_84 : decode cX11_cargo 84 = .ok (.aload_n 3, 1) := by decide +kernel
theorem dX11_cargo_85 : decode cX11_cargo 85 = .ok (.invokevirtual 223, 3) := by decide +kernel
theorem dX11_cargo_88 : decode cX11_cargo 88 = .ok (.ifCond .eq 7, 3) := by decide +kernel
theorem dX11_cargo_91 : decode cX11_cargo 91 = .ok (.iconst 1, 1) := by decide +kernel
theorem dX11_cargo_92 : decode cX11_cargo 92 = .ok (.goto 4, 3) := by decide +kernel
theorem dX11_cargo_95 : decode cX11_cargo 95 = .ok (.iconst 0, 1) := by decide +kernel
theorem dX11_cargo_96 : decode cX11_cargo 96 = .ok (.ireturn, 1) := by decide +kernel
theorem dX11_cargo_97 : decode cX11_cargo 97 = .ok (.aload_n 3, 1) := by decide +kernel
theorem dX11_cargo_98 : decode cX11_cargo 98 = .ok (.getfield 227, 3) := by decide +kernel
theorem dX11_cargo_101 : decode cX11_cargo 101 = .ok (.ireturn, 1) := by decide +kernel
theorem dX11_cargo_102 : decode cX11_cargo 102 = .ok (.bipush (-9), 2) := by decide +kernel
theorem dX11_cargo_104 : decode cX11_cargo 104 = .ok (.ireturn, 1) := by decide +kernel
theorem dX11_flight_0 : decode cX11_flight 0 = .ok (.iload_n 1, 1) := by decide +kernel
theorem dX11_flight_1 : decode cX11_flight 1 = .ok (.iconst 0, 1) := by decide +kernel
theorem dX11_flight_2 : decode cX11_flight 2 = .ok (.aload_n 0, 1) := by decide +kernel
theorem dX11_flight_3 : decode cX11_flight 3 = .ok (.getfield 25, 3) := by decide +kernel
theorem dX11_flight_6 : decode cX11_flight 6 = .ok (.invokevirtual 79, 3) := by decide +kernel
theorem dX11_flight_9 : decode cX11_flight 9 = .ok (.iconst 1, 1) := by decide +kernel
theorem dX11_flight_10 : decode cX11_flight 10 = .ok (.isub, 1) := by decide +kernel
theorem dX11_flight_11 : decode cX11_flight 11 = .ok (.invokestatic 75, 3) := by decide +kernel
theorem dX11_flight_14 : decode cX11_flight 14 = .ok (.ifCond .ne 6, 3) := by decide +kernel
theorem dX11_flight_17 : decode cX11_flight 17 = .ok (.bipush (-9), 2) := by decide +kernel
theorem dX11_flight_19 : decode cX11_flight 19 = .ok (.ireturn, 1) := by decide +kernel
theorem dX11_flight_20 : decode cX11_flight 20 = .ok (.aload_n 0, 1) := by decide +kernel
theorem dX11_flight_21 : decode cX11_flight 21 = .ok (.getfield 25, 3) := by decide +kernel
theorem dX11_flight_24 : decode cX11_flight 24 = .ok (.iload_n 1, 1) := by decide +kernel
theorem dX11_flight_25 : decode cX11_flight 25 = .ok (.invokevirtual 132, 3) := by decide +kernel
theorem dX11_flight_28 : decode cX11_flight 28 = .ok (.checkcast 230, 3) := by decide +kernel
theorem dX11_flight_31 : decode cX11_flight 31 = .ok (.astore_n 3, 1) := by decide +kernel
theorem dX11_flight_32 : decode cX11_flight 32 = .ok (.iload_n 2, 1) := by decide +kernel
theorem dX11_flight_33 : decode cX11_flight 33 = .ok (.tableswitch 96 0 8 #[51, 56, 61, 66, 71, 76, 81, 86, 91], 51) := by decide +kernel
theorem dX11_flight_84 : decode cX11_flight 84 = .ok (.aload_n 3, 1) := by decide +kernel
theorem dX11_flight_85 : decode cX11_flight 85 = .ok (.getfield 232, 3) := by decide +kernel
theorem dX11_flight_88 : decode cX11_flight 88 = .ok (.ireturn, 1) := by decide +kernel
theorem dX11_flight_89 : decode cX11_flight 89 = .ok (.aload_n 3, 1) := by decide +kernel
theorem dX11_flight_90 : decode cX11_flight 90 = .ok (.getfield 233, 3) := by decide +kernel
theorem dX11_flight_93 : decode cX11_flight 93 = .ok (.ireturn, 1) := by decide +kernel
theorem dX11_flight_94 : decode cX11_flight 94 = .ok (.aload_n 3, 1) := by decide +kernel
theorem dX11_flight_95 : decode cX11_flight 95 = .ok (.getfield 236, 3) := by decide +kernel
theorem dX11_flight_98 : decode cX11_flight 98 = .ok (.ireturn, 1) := by decide +kernel
theorem dX11_flight_99 : decode cX11_flight 99 = .ok (.aload_n 3, 1) := by decide +kernel
theorem dX11_flight_100 : decode cX11_flight 100 = .ok (.getfield 239, 3) := by decide +kernel
theorem dX11_flight_103 : decode cX11_flight 103 = .ok (.ireturn, 1) := by decide +kernel
theorem dX11_flight_104 : decode cX11_flight 104 = .ok (.aload_n 3, 1) := by decide +kernel
theorem dX11_flight_105 : decode cX11_flight 105 = .ok (.getfield 241, 3) := by decide +kernel
theorem dX11_flight_108 : decode cX11_flight 108 = .ok (.ireturn, 1) := by decide +kernel
theorem dX11_flight_109 : decode cX11_flight 109 = .ok (.aload_n 3, 1) := by decide +kernel
theorem dX11_flight_110 : decode cX11_flight 110 = .ok (.getfield 244, 3) := by decide +kernel
theorem dX11_flight_113 : decode cX11_flight 113 = .ok (.ireturn, 1) := by decide +kernel
theorem dX11_flight_114 : decode cX11_flight 114 = .ok (.aload_n 3, 1) := by decide +kernel
theorem dX11_flight_115 : decode cX11_flight 115 = .ok (.getfield 247, 3) := by decide +kernel
theorem dX11_flight_118 : decode cX11_flight 118 = .ok (.ireturn, 1) := by decide +kernel
theorem dX11_flight_119 : decode cX11_flight 119 = .ok (.aload_n 3, 1) := by decide +kernel
theorem dX11_flight_120 : decode cX11_flight 120 = .ok (.getfield 250, 3) := by decide +kernel
theorem dX11_flight_123 : decode cX11_flight 123 = .ok (.ireturn, 1) := by decide +kernel
theorem dX11_flight_124 : decode cX11_flight 124 = .ok (.aload_n 3, 1) := by decide +kernel
theorem dX11_flight_125 : decode cX11_flight 125 = .ok (.getfield 253, 3) := by decide +kernel
theorem dX11_flight_128 : decode cX11_flight 128 = .ok (.ireturn, 1) := by decide +kernel
theorem dX11_flight_129 : decode cX11_flight 129 = .ok (.bipush (-9), 2) := by decide +kernel
theorem dX11_flight_131 : decode cX11_flight 131 = .ok (.ireturn, 1) := by decide +kernel
theorem dX11_lift_0 : decode cX11_lift 0 = .ok (.aload_n 0, 1) := by decide +kernel
theorem dX11_lift_1 : decode cX11_lift 1 = .ok (.iload_n 1, 1) := by decide +kernel
theorem dX11_lift_2 : decode cX11_lift 2 = .ok (.invokevirtual 141, 3) := by decide +kernel
theorem dX11_lift_5 : decode cX11_lift 5 = .ok (.ifCond .eq 30, 3) := by decide +kernel
theorem dX11_lift_8 : decode cX11_lift 8 = .ok (.iload_n 2, 1) := by decide +kernel
theorem dX11_lift_9 : decode cX11_lift 9 = .ok (.iconst 0, 1) := by decide +kernel
theorem dX11_lift_10 : decode cX11_lift 10 = .ok (.aload_n 0, 1) := by decide +kernel
theorem dX11_lift_11 : decode cX11_lift 11 = .ok (.getfield 10, 3) := by decide +kernel
theorem dX11_lift_14 : decode cX11_lift 14 = .ok (.invokevirtual 79, 3) := by decide +kernel
theorem dX11_lift_17 : decode cX11_lift 17 = .ok (.iconst 1, 1) := by decide +kernel
theorem dX11_lift_18 : decode cX11_lift 18 = .ok (.isub, 1) := by decide +kernel
theorem dX11_lift_19 : decode cX11_lift 19 = .ok (.invokestatic 75, 3) := by decide +kernel
theorem dX11_lift_22 : decode cX11_lift 22 = .ok (.ifCond .eq 13, 3) := by decide +kernel
theorem dX11_lift_25 : decode cX11_lift 25 = .ok (.iload_n 3, 1) := by decide +kernel
theorem dX11_lift_26 : decode cX11_lift 26 = .ok (.iconst 0, 1) := by decide +kernel
theorem dX11_lift_27 : decode cX11_lift 27 = .ok (.bipush 11, 2) := by decide +kernel
theorem dX11_lift_29 : decode cX11_lift 29 = .ok (.invokestatic 75, 3) := by decide +kernel
theorem dX11_lift_32 : decode cX11_lift 32 = .ok (.ifCond .ne 6, 3) := by decide +kernel
theorem dX11_lift_35 : decode cX11_lift 35 = .ok (.bipush (-9), 2) := by decide +kernel
theorem dX11_lift_37 : decode cX11_lift 37 = .ok (.ireturn, 1) := by decide +kernel
theorem dX11_lift_38 : decode cX11_lift 38 = .ok (.aload_n 0, 1) := by decide +kernel
theorem dX11_lift_39 : decode cX11_lift 39 = .ok (.getfield 16, 3) := by decide +kernel
theorem dX11_lift_42 : decode cX11_lift 42 = .ok (.iload_n 1, 1) := by decide +kernel
theorem dX11_lift_43 : decode cX11_lift 43 = .ok (.invokevirtual 132, 3) := by decide +kernel
theorem dX11_lift_46 : decode cX11_lift 46 = .ok (.checkcast 83, 3) := by decide +kernel
theorem dX11_lift_49 : decode cX11_lift 49 = .ok (.aload_n 0, 1) := by decide +kernel
theorem dX11_lift_50 : decode cX11_lift 50 = .ok (.getfield 10, 3) := by decide +kernel
theorem dX11_lift_53 : decode cX11_lift 53 = .ok (.iload_n 2, 1) := by decide +kernel
theorem dX11_lift_54 : decode cX11_lift 54 = .ok (.invokevirtual 132, 3) := by decide +kernel
theorem dX11_lift_57 : decode cX11_lift 57 = .ok (.checkcast 66, 3) := by decide +kernel
theorem dX11_lift_60 : decode cX11_lift 60 = .ok (.getfield 255, 3) := by decide +kernel
theorem dX11_lift_63 : decode cX11_lift 63 = .ok (.aload_n 0, 1) := by decide +kernel
theorem dX11_lift_64 : decode cX11_lift 64 = .ok (.getfield 31, 3) := by decide +kernel
theorem dX11_lift_67 : decode cX11_lift 67 = .ok (.iload_n 3, 1) := by decide +kernel
theorem dX11_lift_68 : decode cX11_lift 68 = .ok (.bipush 60, 2) := by decide +kernel
theorem dX11_lift_70 : decode cX11_lift 70 = .ok (.imul, 1) := by decide +kernel
theorem dX11_lift_71 : decode cX11_lift 71 = .ok (.invokevirtual 199, 3) := by decide +kernel
theorem dX11_lift_74 : decode cX11_lift 74 = .ok (.invokevirtual 203, 3) := by decide +kernel
theorem dX11_lift_77 : decode cX11_lift 77 = .ok (.ireturn, 1) := by decide +kernel
theorem dX11_pack_0 : decode cX11_pack 0 = .ok (.aload_n 0, 1) := by decide +kernel
theorem dX11_pack_1 : decode cX11_pack 1 = .ok (.iload_n 1, 1) := by decide +kernel
theorem dX11_pack_2 : decode cX11_pack 2 = .ok (.invokevirtual 258, 3) := by decide +kernel
theorem dX11_pack_5 : decode cX11_pack 5 = .ok (.ifCond .eq 14, 3) := by decide +kernel
theorem dX11_pack_8 : decode cX11_pack 8 = .ok (.iload_n 2, 1) := by decide +kernel
theorem dX11_pack_9 : decode cX11_pack 9 = .ok (.iconst 0, 1) := by decide +kernel
theorem dX11_pack_10 : decode cX11_pack 10 = .ok (.sipush 400, 3) := by decide +kernel
theorem dX11_pack_13 : decode cX11_pack 13 = .ok (.invokestatic 75, 3) := by decide +kernel
theorem dX11_pack_16 : decode cX11_pack 16 = .ok (.ifCond .ne 5, 3) := by decide +kernel
theorem dX11_pack_19 : decode cX11_pack 19 = .ok (.iconst (-1), 1) := by decide +kernel
theorem dX11_pack_20 : decode cX11_pack 20 = .ok (.ireturn, 1) := by decide +kernel
theorem dX11_pack_21 : decode cX11_pack 21 = .ok (.aload_n 0, 1) := by decide +kernel
theorem dX11_pack_22 : decode cX11_pack 22 = .ok (.getfield 52, 3) := by decide +kernel
theorem dX11_pack_25 : decode cX11_pack 25 = .ok (.aload_n 0, 1) := by decide +kernel
theorem dX11_pack_26 : decode cX11_pack 26 = .ok (.getfield 22, 3) := by decide +kernel
theorem dX11_pack_29 : decode cX11_pack 29 = .ok (.iload_n 1, 1) := by decide +kernel
theorem dX11_pack_30 : decode cX11_pack 30 = .ok (.invokevirtual 261, 3) := by decide +kernel
theorem dX11_pack_33 : decode cX11_pack 33 = .ok (.aload_n 0, 1) := by decide +kernel
theorem dX11_pack_34 : decode cX11_pack 34 = .ok (.getfield 52, 3) := by decide +kernel
theorem dX11_pack_37 : decode cX11_pack 37 = .ok (.getfield 265, 3) := by decide +kernel
theorem dX11_pack_40 : decode cX11_pack 40 = .ok (.invokevirtual 79, 3) := by decide +kernel
theorem dX11_pack_43 : decode cX11_pack 43 = .ok (.bipush 9, 2) := by decide +kernel
theorem dX11_pack_45 : decode cX11_pack 45 = .ok (.if_icmp .le 6, 3) := by decide +kernel
theorem dX11_pack_48 : decode cX11_pack 48 = .ok (.bipush (-2), 2) := by decide +kernel
theorem dX11_pack_50 : decode cX11_pack 50 = .ok (.ireturn, 1) := by decide +kernel
theorem dX11_pack_51 : decode cX11_pack 51 = .ok (.aload_n 0, 1) := by decide +kernel
theorem dX11_pack_52 : decode cX11_pack 52 = .ok (.getfield 52, 3) := by decide +kernel
theorem dX11_pack_55 : decode cX11_pack 55 = .ok (.iload_n 2, 1) := by decide +kernel
theorem dX11_pack_56 : decode cX11_pack 56 = .ok (.invokevirtual 268, 3) := by decide +kernel
theorem dX11_pack_59 : decode cX11_pack 59 = .ok (.ireturn, 1) := by decide +kernel
theorem dX11_list_0 : decode cX11_list 0 = .ok (.aload_n 0, 1) := by decide +kernel
theorem dX11_list_1 : decode cX11_list 1 = .ok (.iload_n 1, 1) := by decide +kernel
theorem dX11_list_2 : decode cX11_list 2 = .ok (.invokevirtual 258, 3) := by decide +kernel
theorem dX11_list_5 : decode cX11_list 5 = .ok (.ifCond .ne 5, 3) := by decide +kernel
theorem dX11_list_8 : decode cX11_list 8 = .ok (.iconst (-1), 1) := by decide +kernel
theorem dX11_list_9 : decode cX11_list 9 = .ok (.ireturn, 1) := by decide +kernel
theorem dX11_list_10 : decode cX11_list 10 = .ok (.aload_n 0, 1) := by decide +kernel
theorem dX11_list_11 : decode cX11_list 11 = .ok (.getfield 59, 3) := by decide +kernel
theorem dX11_list_14 : decode cX11_list 14 = .ok (.getfield 271, 3) := by decide +kernel
theorem dX11_list_17 : decode cX11_list 17 = .ok (.iconst 5, 1) := by decide +kernel
theorem dX11_list_18 : decode cX11_list 18 = .ok (.if_icmp .lt 6, 3) := by decide +kernel
theorem dX11_list_21 : decode cX11_list 21 = .ok (.bipush (-2), 2) := by decide +kernel
theorem dX11_list_23 : decode cX11_list 23 = .ok (.ireturn, 1) := by decide +kernel
theorem dX11_list_24 : decode cX11_list 24 = .ok (.aload_n 0, 1) := by decide +kernel
theorem dX11_list_25 : decode cX11_list 25 = .ok (.getfield 59, 3) := by decide +kernel
theorem dX11_list_28 : decode cX11_list 28 = .ok (.aload_n 0, 1) := by decide +kernel
theorem dX11_list_29 : decode cX11_list 29 = .ok (.getfield 10, 3) := by decide +kernel
theorem dX11_list_32 : decode cX11_list 32 = .ok (.iload_n 1, 1) := by decide +kernel
theorem dX11_list_33 : decode cX11_list 33 = .ok (.invokevirtual 132, 3) := by decide +kernel
theorem dX11_list_36 : decode cX11_list 36 = .ok (.checkcast 66, 3) := by decide +kernel
theorem dX11_list_39 : decode cX11_list 39 = .ok (.invokevirtual 273, 3) := by decide +kernel
theorem dX11_list_42 : decode cX11_list 42 = .ok (.aload_n 0, 1) := by decide +kernel
theorem dX11_list_43 : decode cX11_list 43 = .ok (.getfield 59, 3) := by decide +kernel
theorem dX11_list_46 : decode cX11_list 46 = .ok (.getfield 271, 3) := by decide +kernel
theorem dX11_list_49 : decode cX11_list 49 = .ok (.ireturn, 1) := by decide +kernel
theorem dX11_order_0 : decode cX11_order 0 = .ok (.aload_n 0, 1) := by decide +kernel
theorem dX11_order_1 : decode cX11_order 1 = .ok (.iload_n 1, 1) := by decide +kernel
theorem dX11_order_2 : decode cX11_order 2 = .ok (.invokevirtual 141, 3) := by decide +kernel
theorem dX11_order_5 : decode cX11_order 5 = .ok (.ifCond .eq 11, 3) := by decide +kernel
theorem dX11_order_8 : decode cX11_order 8 = .ok (.aload_n 0, 1) := by decide +kernel
theorem dX11_order_9 : decode cX11_order 9 = .ok (.iload_n 2, 1) := by decide +kernel
theorem dX11_order_10 : decode cX11_order 10 = .ok (.invokevirtual 207, 3) := by decide +kernel
theorem dX11_order_13 : decode cX11_order 13 = .ok (.ifCond .ne 5, 3) := by decide +kernel
theorem dX11_order_16 : decode cX11_order 16 = .ok (.iconst (-1), 1) := by decide +kernel
theorem dX11_order_17 : decode cX11_order 17 = .ok (.ireturn, 1) := by decide +kernel
theorem dX11_order_18 : decode cX11_order 18 = .ok (.aload_n 0, 1) := by decide +kernel
theorem dX11_order_19 : decode cX11_order 19 = .ok (.getfield 16, 3) := by decide +kernel
theorem dX11_order_22 : decode cX11_order 22 = .ok (.iload_n 1, 1) := by decide +kernel
theorem dX11_order_23 : decode cX11_order 23 = .ok (.invokevirtual 132, 3) := by decide +kernel
theorem dX11_order_26 : decode cX11_order 26 = .ok (.checkcast 83, 3) := by decide +kernel
theorem dX11_order_29 : decode cX11_order 29 = .ok (.astore_n 3, 1) := by decide +kernel
theorem dX11_order_30 : decode cX11_order 30 = .ok (.aload_n 0, 1) := by decide +kernel
theorem dX11_order_31 : decode cX11_order 31 = .ok (.getfield 59, 3) := by decide +kernel
theorem dX11_order_34 : decode cX11_order 34 = .ok (.getfield 271, 3) := by decide +kernel
theorem dX11_order_37 : decode cX11_order 37 = .ok (.ifCond .eq 13, 3) := by decide +kernel
theorem dX11_order_40 : decode cX11_order 40 = .ok (.aload_n 3, 1) := by decide +kernel
theorem dX11_order_41 : decode cX11_order 41 = .ok (.getfield 160, 3) := by decide +kernel
theorem dX11_order_44 : decode cX11_order 44 = .ok (.invokevirtual 277, 3) := by decide +kernel
theorem dX11_order_47 : decode cX11_order 47 = .ok (.ifCond .ne 6, 3) := by decide +kernel
theorem dX11_order_50 : decode cX11_order 50 = .ok (.bipush (-3), 2) := by decide +kernel
theorem dX11_order_52 : decode cX11_order 52 = .ok (.ireturn, 1) := by decide +kernel
theorem dX11_order_53 : decode cX11_order 53 = .ok (.aload_n 0, 1) := by decide +kernel
theorem dX11_order_54 : decode cX11_order 54 = .ok (.getfield 19, 3) := by decide +kernel
theorem dX11_order_57 : decode cX11_order 57 = .ok (.iload_n 2, 1) := by decide +kernel
theorem dX11_order_58 : decode cX11_order 58 = .ok (.invokevirtual 132, 3) := by decide +kernel
theorem dX11_order_61 : decode cX11_order 61 = .ok (.checkcast 88, 3) := by decide +kernel
theorem dX11_order_64 : decode cX11_order 64 = .ok (.astore 4, 2) := by decide +kernel
theorem dX11_order_66 : decode cX11_order 66 = .ok (.aload_n 0, 1) := by decide +kernel
theorem dX11_order_67 : decode cX11_order 67 = .ok (.getfield 59, 3) := by decide +kernel
theorem dX11_order_70 : decode cX11_order 70 = .ok (.aload_n 3, 1) := by decide +kernel
theorem dX11_order_71 : decode cX11_order 71 = .ok (.aload 4, 2) := by decide +kernel
theorem dX11_order_73 : decode cX11_order 73 = .ok (.invokevirtual 280, 3) := by decide +kernel
theorem dX11_order_76 : decode cX11_order 76 = .ok (.ifCond .ne 6, 3) := by decide +kernel
theorem dX11_order_79 : decode cX11_order 79 = .ok (.bipush (-3), 2) := by decide +kernel
theorem dX11_order_81 : decode cX11_order 81 = .ok (.ireturn, 1) := by decide +kernel
theorem dX11_order_82 : decode cX11_order 82 = .ok (.aload_n 0, 1) := by decide +kernel
theorem dX11_order_83 : decode cX11_order 83 = .ok (.getfield 45, 3) := by decide +kernel
theorem dX11_order_86 : decode cX11_order 86 = .ok (.aload_n 3, 1) := by decide +kernel
theorem dX11_order_87 : decode cX11_order 87 = .ok (.invokevirtual 284, 3) := by decide +kernel
theorem dX11_order_90 : decode cX11_order 90 = .ok (.aload_n 0, 1) := by decide +kernel
theorem dX11_order_91 : decode cX11_order 91 = .ok (.getfield 150, 3) := by decide +kernel
theorem dX11_order_94 : decode cX11_order 94 = .ok (.aload_n 3, 1) := by decide +kernel
theorem dX11_order_95 : decode cX11_order 95 = .ok (.getfield 147, 3) := by decide +kernel
theorem dX11_order_98 : decode cX11_order 98 = .ok (.aload 4, 2) := by decide +kernel
theorem dX11_order_100 : decode cX11_order 100 = .ok (.getfield 213, 3) := by decide +kernel
theorem dX11_order_103 : decode cX11_order 103 = .ok (.invokestatic 288, 3) := by decide +kernel
theorem dX11_order_106 : decode cX11_order 106 = .ok (.invokestatic 288, 3) := by decide +kernel
theorem dX11_order_109 : decode cX11_order 109 = .ok (.istore 5, 2) := by decide +kernel
theorem dX11_order_111 : decode cX11_order 111 = .ok (.aload_n 0, 1) := by decide +kernel
theorem dX11_order_112 : decode cX11_order 112 = .ok (.getfield 59, 3) := by decide +kernel
theorem dX11_order_115 : decode cX11_order 115 = .ok (.aload_n 0, 1) := by decide +kernel
theorem dX11_order_116 : decode cX11_order 116 = .ok (.getfield 45, 3) := by decide +kernel
theorem dX11_order_119 : decode cX11_order 119 = .ok (.aload_n 0, 1) := by decide +kernel
theorem dX11_order_120 : decode cX11_order 120 = .ok (.getfield 31, 3) := by decide +kernel
theorem dX11_order_123 : decode cX11_order 123 = .ok (.aload 4, 2) := by decide +kernel
theorem dX11_order_125 : decode cX11_order 125 = .ok (.iload 5, 2) := by decide +kernel
theorem dX11_order_127 : decode cX11_order 127 = .ok (.invokevirtual 293, 3) := by decide +kernel
theorem dX11_order_130 : decode cX11_order 130 = .ok (.ifCond .ne 6, 3) := by decide +kernel
theorem dX11_order_133 : decode cX11_order 133 = .ok (.bipush (-3), 2) := by decide +kernel
theorem dX11_order_135 : decode cX11_order 135 = .ok (.ireturn, 1) := by decide +kernel
theorem dX11_order_136 : decode cX11_order 136 = .ok (.aload_n 0, 1) := by decide +kernel
theorem dX11_order_137 : decode cX11_order 137 = .ok (.getfield 59, 3) := by decide +kernel
theorem dX11_order_140 : decode cX11_order 140 = .ok (.getfield 297, 3) := by decide +kernel
theorem dX11_order_143 : decode cX11_order 143 = .ok (.ireturn, 1) := by decide +kernel
theorem dX11_ordered_0 : decode cX11_ordered 0 = .ok (.iload_n 1, 1) := by decide +kernel
theorem dX11_ordered_1 : decode cX11_ordered 1 = .ok (.iconst 0, 1) := by decide +kernel
theorem dX11_ordered_2 : decode cX11_ordered 2 = .ok (.aload_n 0, 1) := by decide +kernel
theorem dX11_ordered_3 : decode cX11_ordered 3 = .ok (.getfield 59, 3) := by decide +kernel
theorem dX11_ordered_6 : decode cX11_ordered 6 = .ok (.getfield 300, 3) := by decide +kernel
theorem dX11_ordered_9 : decode cX11_ordered 9 = .ok (.iconst 1, 1) := by decide +kernel
theorem dX11_ordered_10 : decode cX11_ordered 10 = .ok (.isub, 1) := by decide +kernel
theorem dX11_ordered_11 : decode cX11_ordered 11 = .ok (.invokestatic 75, 3) := by decide +kernel
theorem dX11_ordered_14 : decode cX11_ordered 14 = .ok (.ifCond .eq 15, 3) := by decide +kernel
theorem dX11_ordered_17 : decode cX11_ordered 17 = .ok (.aload_n 0, 1) := by decide +kernel
theorem dX11_ordered_18 : decode cX11_ordered 18 = .ok (.getfield 59, 3) := by decide +kernel
theorem dX11_ordered_21 : decode cX11_ordered 21 = .ok (.getfield 303, 3) := by decide +kernel
theorem dX11_ordered_24 : decode cX11_ordered 24 = .ok (.iload_n 1, 1) := by decide +kernel
theorem dX11_ordered_25 : decode cX11_ordered 25 = .ok (.iaload, 1) := by decide +kernel
theorem dX11_ordered_26 : decode cX11_ordered 26 = .ok (.goto 4, 3) := by decide +kernel
theorem dX11_ordered_29 : decode cX11_ordered 29 = .ok (.iconst (-1), 1) := by decide +kernel
theorem dX11_ordered_30 : decode cX11_ordered 30 = .ok (.ireturn, 1) := by decide +kernel
theorem dX11_count_0 : decode cX11_count 0 = .ok (.iload_n 1, 1) := by decide +kernel
theorem dX11_count_1 : decode cX11_count 1 = .ok (.tableswitch 129 0 9 #[55, 63, 71, 79, 87, 98, 106, 111, 116, 121], 55) := by decide +kernel
theorem dX11_count_56 : decode cX11_count 56 = .ok (.aload_n 0, 1) := by decide +kernel
theorem dX11_count_57 : decode cX11_count 57 = .ok (.getfield 10, 3) := by decide +kernel
theorem dX11_count_60 : decode cX11_count 60 = .ok (.invokevirtual 79, 3) := by decide +kernel
theorem dX11_count_63 : decode cX11_count 63 = .ok (.ireturn, 1) := by decide +kernel
theorem dX11_count_64 : decode cX11_count 64 = .ok (.aload_n 0, 1) := by decide +kernel
theorem dX11_count_65 : decode cX11_count 65 = .ok (.getfield 16, 3) := by decide +kernel
theorem dX11_count_68 : decode cX11_count 68 = .ok (.invokevirtual 79, 3) := by decide +kernel
theorem dX11_count_71 : decode cX11_count 71 = .ok (.ireturn, 1) := by decide +kernel
theorem dX11_count_72 : decode cX11_count 72 = .ok (.aload_n 0, 1) := by decide +kernel
theorem dX11_count_73 : decode cX11_count 73 = .ok (.getfield 19, 3) := by decide +kernel
theorem dX11_count_76 : decode cX11_count 76 = .ok (.invokevirtual 79, 3) := by decide +kernel
theorem dX11_count_79 : decode cX11_count 79 = .ok (.ireturn, 1) := by decide +kernel
theorem dX11_count_80 : decode cX11_count 80 = .ok (.aload_n 0, 1) := by decide +kernel
theorem dX11_count_81 : decode cX11_count 81 = .ok (.getfield 22, 3) := by decide +kernel
theorem dX11_count_84 : decode cX11_count 84 = .ok (.invokevirtual 79, 3) := by decide +kernel
theorem dX11_count_87 : decode cX11_count 87 = .ok (.ireturn, 1) := by decide +kernel
theorem dX11_count_88 : decode cX11_count 88 = .ok (.aload_n 0, 1) := by decide +kernel
theorem dX11_count_89 : decode cX11_count 89 = .ok (.getfield 45, 3) := by decide +kernel
theorem dX11_count_92 : decode cX11_count 92 = .ok (.getfield 111, 3) := by decide +kernel
theorem dX11_count_95 : decode cX11_count 95 = .ok (.invokevirtual 79, 3) := by decide +kernel
theorem dX11_count_98 : decode cX11_count 98 = .ok (.ireturn, 1) := by decide +kernel
theorem dX11_count_99 : decode cX11_count 99 = .ok (.aload_n 0, 1) := by decide +kernel
theorem dX11_count_100 : decode cX11_count 100 = .ok (.getfield 25, 3) := by decide +kernel
theorem dX11_count_103 : decode cX11_count 103 = .ok (.invokevirtual 79, 3) := by decide +kernel
theorem dX11_count_106 : decode cX11_count 106 = .ok (.ireturn, 1) := by decide +kernel
theorem dX11_count_107 : decode cX11_count 107 = .ok (.aload_n 0, 1) := by decide +kernel
theorem dX11_count_108 : decode cX11_count 108 = .ok (.getfield 150, 3) := by decide +kernel
theorem dX11_count_111 : decode cX11_count 111 = .ok (.ireturn, 1) := by decide +kernel
theorem dX11_count_112 : decode cX11_count 112 = .ok (.aload_n 0, 1) := by decide +kernel
theorem dX11_count_113 : decode cX11_count 113 = .ok (.invokevirtual 307, 3) := by decide +kernel
theorem dX11_count_116 : decode cX11_count 116 = .ok (.ireturn, 1) := by decide +kernel
theorem dX11_count_117 : decode cX11_count 117 = .ok (.aload_n 0, 1) := by decide +kernel
theorem dX11_count_118 : decode cX11_count 118 = .ok (.invokevirtual 310, 3) := by decide +kernel
theorem dX11_count_121 : decode cX11_count 121 = .ok (.ireturn, 1) := by decide +kernel
theorem dX11_count_122 : decode cX11_count 122 = .ok (.aload_n 0, 1) := by decide +kernel
theorem dX11_count_123 : decode cX11_count 123 = .ok (.getfield 38, 3) := by decide +kernel
theorem dX11_count_126 : decode cX11_count 126 = .ok (.getfield 104, 3) := by decide +kernel
theorem dX11_count_129 : decode cX11_count 129 = .ok (.ireturn, 1) := by decide +kernel
theorem dX11_count_130 : decode cX11_count 130 = .ok (.iconst (-1), 1) := by decide +kernel
theorem dX11_count_131 : decode cX11_count 131 = .ok (.ireturn, 1) := by decide +kernel
theorem dX11_isWithin_0 : decode cX11_isWithin 0 = .ok (.iload_n 0, 1) := by decide +kernel
theorem dX11_isWithin_1 : decode cX11_isWithin 1 = .ok (.iload_n 1, 1) := by decide +kernel
theorem dX11_isWithin_2 : decode cX11_isWithin 2 = .ok (.if_icmp .lt 12, 3) := by decide +kernel
theorem dX11_isWithin_5 : decode cX11_isWithin 5 = .ok (.iload_n 0, 1) := by decide +kernel
theorem dX11_isWithin_6 : decode cX11_isWithin 6 = .ok (.iload_n 2, 1) := by decide +kernel
theorem dX11_isWithin_7 : decode cX11_isWithin 7 = .ok (.if_icmp .gt 7, 3) := by decide +kernel
theorem dX11_isWithin_10 : decode cX11_isWithin 10 = .ok (.iconst 1, 1) := by decide +kernel
theorem dX11_isWithin_11 : decode cX11_isWithin 11 = .ok (.goto 4, 3) := by decide +kernel
theorem dX11_isWithin_14 : decode cX11_isWithin 14 = .ok (.iconst 0, 1) := by decide +kernel
theorem dX11_isWithin_15 : decode cX11_isWithin 15 = .ok (.ireturn, 1) := by decide +kernel
theorem dX11_isMachine_0 : decode cX11_isMachine 0 = .ok (.iload_n 1, 1) := by decide +kernel
theorem dX11_isMachine_1 : decode cX11_isMachine 1 = .ok (.iconst 0, 1) := by decide +kernel
theorem dX11_isMachine_2 : decode cX11_isMachine 2 = .ok (.aload_n 0, 1) := by decide +kernel
theorem dX11_isMachine_3 : decode cX11_isMachine 3 = .ok (.getfield 16, 3) := by decide +kernel
theorem dX11_isMachine_6 : decode cX11_isMachine 6 = .ok (.invokevirtual 79, 3) := by decide +kernel
theorem dX11_isMachine_9 : decode cX11_isMachine 9 = .ok (.iconst 1, 1) := by decide +kernel
theorem dX11_isMachine_10 : decode cX11_isMachine 10 = .ok (.isub, 1) := by decide +kernel
theorem dX11_isMachine_11 : decode cX11_isMachine 11 = .ok (.invokestatic 75, 3) := by decide +kernel
theorem dX11_isMachine_14 : decode cX11_isMachine 14 = .ok (.ireturn, 1) := by decide +kernel
theorem dX11_isPilot_0 : decode cX11_isPilot 0 = .ok (.iload_n 1, 1) := by decide +kernel
theorem dX11_isPilot_1 : decode cX11_isPilot 1 = .ok (.iconst 0, 1) := by decide +kernel
theorem dX11_isPilot_2 : decode cX11_isPilot 2 = .ok (.aload_n 0, 1) := by decide +kernel
theorem dX11_isPilot_3 : decode cX11_isPilot 3 = .ok (.getfield 19, 3) := by decide +kernel
theorem dX11_isPilot_6 : decode cX11_isPilot 6 = .ok (.invokevirtual 79, 3) := by decide +kernel
theorem dX11_isPilot_9 : decode cX11_isPilot 9 = .ok (.iconst 1, 1) := by decide +kernel
theorem dX11_isPilot_10 : decode cX11_isPilot 10 = .ok (.isub, 1) := by decide +kernel
theorem dX11_isPilot_11 : decode cX11_isPilot 11 = .ok (.invokestatic 75, 3) := by decide +kernel
theorem dX11_isPilot_14 : decode cX11_isPilot 14 = .ok (.ireturn, 1) := by decide +kernel
theorem dX11_isLoad_0 : decode cX11_isLoad 0 = .ok (.iload_n 1, 1) := by decide +kernel
theorem dX11_isLoad_1 : decode cX11_isLoad 1 = .ok (.iconst 0, 1) := by decide +kernel
theorem dX11_isLoad_2 : decode cX11_isLoad 2 = .ok (.aload_n 0, 1) := by decide +kernel
theorem dX11_isLoad_3 : decode cX11_isLoad 3 = .ok (.getfield 22, 3) := by decide +kernel
theorem dX11_isLoad_6 : decode cX11_isLoad 6 = .ok (.invokevirtual 79, 3) := by decide +kernel
theorem dX11_isLoad_9 : decode cX11_isLoad 9 = .ok (.iconst 1, 1) := by decide +kernel
theorem dX11_isLoad_10 : decode cX11_isLoad 10 = .ok (.isub, 1) := by decide +kernel
theorem dX11_isLoad_11 : decode cX11_isLoad 11 = .ok (.invokestatic 75, 3) := by decide +kernel
theorem dX11_isLoad_14 : decode cX11_isLoad 14 = .ok (.ireturn, 1) := by decide +kernel
theorem dX11_isHut_0 : decode cX11_isHut 0 = .ok (.iload_n 1, 1) := by decide +kernel
theorem dX11_isHut_1 : decode cX11_isHut 1 = .ok (.iconst 1, 1) := by decide +kernel
theorem dX11_isHut_2 : decode cX11_isHut 2 = .ok (.aload_n 0, 1) := by decide +kernel
theorem dX11_isHut_3 : decode cX11_isHut 3 = .ok (.getfield 10, 3) := by decide +kernel
theorem dX11_isHut_6 : decode cX11_isHut 6 = .ok (.invokevirtual 79, 3) := by decide +kernel
theorem dX11_isHut_9 : decode cX11_isHut 9 = .ok (.iconst 1, 1) := by decide +kernel
theorem dX11_isHut_10 : decode cX11_isHut 10 = .ok (.isub, 1) := by decide +kernel
theorem dX11_isHut_11 : decode cX11_isHut 11 = .ok (.invokestatic 75, 3) := by decide +kernel
theorem dX11_isHut_14 : decode cX11_isHut 14 = .ok (.ireturn, 1) := by decide +kernel
theorem dX11_isFlight_0 : decode cX11_isFlight 0 = .ok (.aload_n 0, 1) := by decide +kernel
theorem dX11_isFlight_1 : decode cX11_isFlight 1 = .ok (.iload_n 1, 1) := by decide +kernel
theorem dX11_isFlight_2 : decode cX11_isFlight 2 = .ok (.invokevirtual 141, 3) := by decide +kernel
theorem dX11_isFlight_5 : decode cX11_isFlight 5 = .ok (.ifCond .eq 23, 3) := by decide +kernel
theorem dX11_isFlight_8 : decode cX11_isFlight 8 = .ok (.aload_n 0, 1) := by decide +kernel
theorem dX11_isFlight_9 : decode cX11_isFlight 9 = .ok (.iload_n 2, 1) := by decide +kernel
theorem dX11_isFlight_10 : decode cX11_isFlight 10 = .ok (.invokevirtual 207, 3) := by decide +kernel
theorem dX11_isFlight_13 : decode cX11_isFlight 13 = .ok (.ifCond .eq 15, 3) := by decide +kernel
theorem dX11_isFlight_16 : decode cX11_isFlight 16 = .ok (.aload_n 0, 1) := by decide +kernel
theorem dX11_isFlight_17 : decode cX11_isFlight 17 = .ok (.iload_n 3, 1) := by decide +kernel
theorem dX11_isFlight_18 : decode cX11_isFlight 18 = .ok (.invokevirtual 258, 3) := by decide +kernel
theorem dX11_isFlight_21 : decode cX11_isFlight 21 = .ok (.ifCond .eq 7, 3) := by decide +kernel
theorem dX11_isFlight_24 : decode cX11_isFlight 24 = .ok (.iconst 1, 1) := by decide +kernel
theorem dX11_isFlight_25 : decode cX11_isFlight 25 = .ok (.goto 4, 3) := by decide +kernel
theorem dX11_isFlight_28 : decode cX11_isFlight 28 = .ok (.iconst 0, 1) := by decide +kernel
theorem dX11_isFlight_29 : decode cX11_isFlight 29 = .ok (.ireturn, 1) := by decide +kernel
theorem dX11_isCargo_0 : decode cX11_isCargo 0 = .ok (.iload_n 1, 1) := by decide +kernel
theorem dX11_isCargo_1 : decode cX11_isCargo 1 = .ok (.ifCond .lt 43, 3) := by decide +kernel
theorem dX11_isCargo_4 : decode cX11_isCargo 4 = .ok (.iload_n 1, 1) := by decide +kernel
theorem dX11_isCargo_5 : decode cX11_isCargo 5 = .ok (.sipush 10000, 3) := by decide +kernel
theorem dX11_isCargo_8 : decode cX11_isCargo 8 = .ok (.idiv, 1) := by decide +kernel
theorem dX11_isCargo_9 : decode cX11_isCargo 9 = .ok (.iconst 4, 1) := by decide +kernel
theorem dX11_isCargo_10 : decode cX11_isCargo 10 = .ok (.if_icmp .gt 34, 3) := by decide +kernel
theorem dX11_isCargo_13 : decode cX11_isCargo 13 = .ok (.aload_n 0, 1) := by decide +kernel
theorem dX11_isCargo_14 : decode cX11_isCargo 14 = .ok (.iload_n 1, 1) := by decide +kernel
theorem dX11_isCargo_15 : decode cX11_isCargo 15 = .ok (.bipush 100, 2) := by decide +kernel
theorem dX11_isCargo_17 : decode cX11_isCargo 17 = .ok (.idiv, 1) := by decide +kernel
theorem dX11_isCargo_18 : decode cX11_isCargo 18 = .ok (.bipush 100, 2) := by decide +kernel
theorem dX11_isCargo_20 : decode cX11_isCargo 20 = .ok (.irem, 1) := by decide +kernel
theorem dX11_isCargo_21 : decode cX11_isCargo 21 = .ok (.invokevirtual 258, 3) := by decide +kernel
theorem dX11_isCargo_24 : decode cX11_isCargo 24 = .ok (.ifCond .eq 20, 3) := by decide +kernel
theorem dX11_isCargo_27 : decode cX11_isCargo 27 = .ok (.iload_n 1, 1) := by decide +kernel
theorem dX11_isCargo_28 : decode cX11_isCargo 28 = .ok (.bipush 100, 2) := by decide +kernel
theorem dX11_isCargo_30 : decode cX11_isCargo 30 = .ok (.irem, 1) := by decide +kernel
theorem dX11_isCargo_31 : decode cX11_isCargo 31 = .ok (.iconst 1, 1) := by decide +kernel
theorem dX11_isCargo_32 : decode cX11_isCargo 32 = .ok (.bipush 9, 2) := by decide +kernel
theorem dX11_isCargo_34 : decode cX11_isCargo 34 = .ok (.invokestatic 75, 3) := by decide +kernel
theorem dX11_isCargo_37 : decode cX11_isCargo 37 = .ok (.ifCond .eq 7, 3) := by decide +kernel
theorem dX11_isCargo_40 : decode cX11_isCargo 40 = .ok (.iconst 1, 1) := by decide +kernel
theorem dX11_isCargo_41 : decode cX11_isCargo 41 = .ok (.goto 4, 3) := by decide +kernel
theorem dX11_isCargo_44 : decode cX11_isCargo 44 = .ok (.iconst 0, 1) := by decide +kernel
theorem dX11_isCargo_45 : decode cX11_isCargo 45 = .ok (.ireturn, 1) := by decide +kernel
theorem dX11_weightOf_0 : decode cX11_weightOf 0 = .ok (.iconst 0, 1) := by decide +kernel
theorem dX11_weightOf_1 : decode cX11_weightOf 1 = .ok (.istore_n 1, 1) := by decide +kernel
theorem dX11_weightOf_2 : decode cX11_weightOf 2 = .ok (.iconst 0, 1) := by decide +kernel
theorem dX11_weightOf_3 : decode cX11_weightOf 3 = .ok (.istore_n 2, 1) := by decide +kernel
theorem dX11_weightOf_4 : decode cX11_weightOf 4 = .ok (.iload_n 2, 1) := by decide +kernel
theorem dX11_weightOf_5 : decode cX11_weightOf 5 = .ok (.aload_n 0, 1) := by decide +kernel
theorem dX11_weightOf_6 : decode cX11_weightOf 6 = .ok (.invokevirtual 79, 3) := by decide +kernel
theorem dX11_weightOf_9 : decode cX11_weightOf 9 = .ok (.if_icmp .ge 23, 3) := by decide +kernel
theorem dX11_weightOf_12 : decode cX11_weightOf 12 = .ok (.iload_n 1, 1) := by decide +kernel
theorem dX11_weightOf_13 : decode cX11_weightOf 13 = .ok (.aload_n 0, 1) := by decide +kernel
theorem dX11_weightOf_14 : decode cX11_weightOf 14 = .ok (.iload_n 2, 1) := by decide +kernel
theorem dX11_weightOf_15 : decode cX11_weightOf 15 = .ok (.invokevirtual 132, 3) := by decide +kernel
theorem dX11_weightOf_18 : decode cX11_weightOf 18 = .ok (.checkcast 95, 3) := by decide +kernel
theorem dX11_weightOf_21 : decode cX11_weightOf 21 = .ok (.getfield 313, 3) := by decide +kernel
theorem dX11_weightOf_24 : decode cX11_weightOf 24 = .ok (.iadd, 1) := by decide +kernel
theorem dX11_weightOf_25 : decode cX11_weightOf 25 = .ok (.istore_n 1, 1) := by decide +kernel
theorem dX11_weightOf_26 : decode cX11_weightOf 26 = .ok (.iinc 2 1, 3) := by decide +kernel
theorem dX11_weightOf_29 : decode cX11_weightOf 29 = .ok (.goto (-25), 3) := by decide +kernel
theorem dX11_weightOf_32 : decode cX11_weightOf 32 = .ok (.iload_n 1, 1) := by decide +kernel
theorem dX11_weightOf_33 : decode cX11_weightOf 33 = .ok (.ireturn, 1) := by decide +kernel
theorem dX11_roomOf_0 : decode cX11_roomOf 0 = .ok (.iconst 0, 1) := by decide +kernel
theorem dX11_roomOf_1 : decode cX11_roomOf 1 = .ok (.istore_n 1, 1) := by decide +kernel
theorem dX11_roomOf_2 : decode cX11_roomOf 2 = .ok (.iconst 0, 1) := by decide +kernel
theorem dX11_roomOf_3 : decode cX11_roomOf 3 = .ok (.istore_n 2, 1) := by decide +kernel
theorem dX11_roomOf_4 : decode cX11_roomOf 4 = .ok (.iload_n 2, 1) := by decide +kernel
theorem dX11_roomOf_5 : decode cX11_roomOf 5 = .ok (.aload_n 0, 1) := by decide +kernel
theorem dX11_roomOf_6 : decode cX11_roomOf 6 = .ok (.invokevirtual 79, 3) := by decide +kernel
theorem dX11_roomOf_9 : decode cX11_roomOf 9 = .ok (.if_icmp .ge 23, 3) := by decide +kernel
theorem dX11_roomOf_12 : decode cX11_roomOf 12 = .ok (.iload_n 1, 1) := by decide +kernel
theorem dX11_roomOf_13 : decode cX11_roomOf 13 = .ok (.aload_n 0, 1) := by decide +kernel
theorem dX11_roomOf_14 : decode cX11_roomOf 14 = .ok (.iload_n 2, 1) := by decide +kernel
theorem dX11_roomOf_15 : decode cX11_roomOf 15 = .ok (.invokevirtual 132, 3) := by decide +kernel
theorem dX11_roomOf_18 : decode cX11_roomOf 18 = .ok (.checkcast 95, 3) := by decide +kernel
theorem dX11_roomOf_21 : decode cX11_roomOf 21 = .ok (.getfield 316, 3) := by decide +kernel
theorem dX11_roomOf_24 : decode cX11_roomOf 24 = .ok (.iadd, 1) := by decide +kernel
theorem dX11_roomOf_25 : decode cX11_roomOf 25 = .ok (.istore_n 1, 1) := by decide +kernel
theorem dX11_roomOf_26 : decode cX11_roomOf 26 = .ok (.iinc 2 1, 3) := by decide +kernel
theorem dX11_roomOf_29 : decode cX11_roomOf 29 = .ok (.goto (-25), 3) := by decide +kernel
theorem dX11_roomOf_32 : decode cX11_roomOf 32 = .ok (.iload_n 1, 1) := by decide +kernel
theorem dX11_roomOf_33 : decode cX11_roomOf 33 = .ok (.ireturn, 1) := by decide +kernel
theorem dX11_shelvedLoads_0 : decode cX11_shelvedLoads 0 = .ok (.iconst 0, 1) := by decide +kernel
theorem dX11_shelvedLoads_1 : decode cX11_shelvedLoads 1 = .ok (.istore_n 1, 1) := by decide +kernel
theorem dX11_shelvedLoads_2 : decode cX11_shelvedLoads 2 = .ok (.iconst 0, 1) := by decide +kernel
theorem dX11_shelvedLoads_3 : decode cX11_shelvedLoads 3 = .ok (.istore_n 2, 1) := by decide +kernel
theorem dX11_shelvedLoads_4 : decode cX11_shelvedLoads 4 = .ok (.iload_n 2, 1) := by decide +kernel
theorem dX11_shelvedLoads_5 : decode cX11_shelvedLoads 5 = .ok (.aload_n 0, 1) := by decide +kernel
theorem dX11_shelvedLoads_6 : decode cX11_shelvedLoads 6 = .ok (.getfield 22, 3) := by decide +kernel
theorem dX11_shelvedLoads_9 : decode cX11_shelvedLoads 9 = .ok (.invokevirtual 79, 3) := by decide +kernel
theorem dX11_shelvedLoads_12 : decode cX11_shelvedLoads 12 = .ok (.if_icmp .ge 35, 3) := by decide +kernel
theorem dX11_shelvedLoads_15 : decode cX11_shelvedLoads 15 = .ok (.iload_n 1, 1) := by decide +kernel
theorem dX11_shelvedLoads_16 : decode cX11_shelvedLoads 16 = .ok (.aload_n 0, 1) := by decide +kernel
theorem dX11_shelvedLoads_17 : decode cX11_shelvedLoads 17 = .ok (.getfield 22, 3) := by decide +kernel
theorem dX11_shelvedLoads_20 : decode cX11_shelvedLoads 20 = .ok (.iload_n 2, 1) := by decide +kernel
theorem dX11_shelvedLoads_21 : decode cX11_shelvedLoads 21 = .ok (.invokevirtual 132, 3) := by decide +kernel
theorem dX11_shelvedLoads_24 : decode cX11_shelvedLoads 24 = .ok (.checkcast 95, 3) := by decide +kernel
theorem dX11_shelvedLoads_27 : decode cX11_shelvedLoads 27 = .ok (.getfield 163, 3) := by decide +kernel
theorem dX11_shelvedLoads_30 : decode cX11_shelvedLoads 30 = .ok (.iconst 3, 1) := by decide +kernel
theorem dX11_shelvedLoads_31 : decode cX11_shelvedLoads 31 = .ok (.if_icmp .ne 7, 3) := by decide +kernel
theorem dX11_shelvedLoads_34 : decode cX11_shelvedLoads 34 = .ok (.iconst 1, 1) := by decide +kernel
theorem dX11_shelvedLoads_35 : decode cX11_shelvedLoads 35 = .ok (.goto 4, 3) := by decide +kernel
theorem dX11_shelvedLoads_38 : decode cX11_shelvedLoads 38 = .ok (.iconst 0, 1) := by decide +kernel
theorem dX11_shelvedLoads_39 : decode cX11_shelvedLoads 39 = .ok (.iadd, 1) := by decide +kernel
theorem dX11_shelvedLoads_40 : decode cX11_shelvedLoads 40 = .ok (.istore_n 1, 1) := by decide +kernel
theorem dX11_shelvedLoads_41 : decode cX11_shelvedLoads 41 = .ok (.iinc 2 1, 3) := by decide +kernel
theorem dX11_shelvedLoads_44 : decode cX11_shelvedLoads 44 = .ok (.goto (-40), 3) := by decide +kernel
theorem dX11_shelvedLoads_47 : decode cX11_shelvedLoads 47 = .ok (.iload_n 1, 1) := by decide +kernel
theorem dX11_shelvedLoads_48 : decode cX11_shelvedLoads 48 = .ok (.ireturn, 1) := by decide +kernel
theorem dX11_lateLoads_0 : decode cX11_lateLoads 0 = .ok (.iconst 0, 1) := by decide +kernel
theorem dX11_lateLoads_1 : decode cX11_lateLoads 1 = .ok (.istore_n 1, 1) := by decide +kernel
theorem dX11_lateLoads_2 : decode cX11_lateLoads 2 = .ok (.iconst 0, 1) := by decide +kernel
theorem dX11_lateLoads_3 : decode cX11_lateLoads 3 = .ok (.istore_n 2, 1) := by decide +kernel
theorem dX11_lateLoads_4 : decode cX11_lateLoads 4 = .ok (.iload_n 2, 1) := by decide +kernel
theorem dX11_lateLoads_5 : decode cX11_lateLoads 5 = .ok (.aload_n 0, 1) := by decide +kernel
theorem dX11_lateLoads_6 : decode cX11_lateLoads 6 = .ok (.getfield 22, 3) := by decide +kernel
theorem dX11_lateLoads_9 : decode cX11_lateLoads 9 = .ok (.invokevirtual 79, 3) := by decide +kernel
theorem dX11_lateLoads_12 : decode cX11_lateLoads 12 = .ok (.if_icmp .ge 34, 3) := by decide +kernel
theorem dX11_lateLoads_15 : decode cX11_lateLoads 15 = .ok (.iload_n 1, 1) := by decide +kernel
theorem dX11_lateLoads_16 : decode cX11_lateLoads 16 = .ok (.aload_n 0, 1) := by decide +kernel
theorem dX11_lateLoads_17 : decode cX11_lateLoads 17 = .ok (.getfield 22, 3) := by decide +kernel
theorem dX11_lateLoads_20 : decode cX11_lateLoads 20 = .ok (.iload_n 2, 1) := by decide +kernel
theorem dX11_lateLoads_21 : decode cX11_lateLoads 21 = .ok (.invokevirtual 132, 3) := by decide +kernel
theorem dX11_lateLoads_24 : decode cX11_lateLoads 24 = .ok (.checkcast 95, 3) := by decide +kernel
theorem dX11_lateLoads_27 : decode cX11_lateLoads 27 = .ok (.invokevirtual 223, 3) := by decide +kernel
theorem dX11_lateLoads_30 : decode cX11_lateLoads 30 = .ok (.ifCond .eq 7, 3) := by decide +kernel
theorem dX11_lateLoads_33 : decode cX11_lateLoads 33 = .ok (.iconst 1, 1) := by decide +kernel
theorem dX11_lateLoads_34 : decode cX11_lateLoads 34 = .ok (.goto 4, 3) := by decide +kernel
theorem dX11_lateLoads_37 : decode cX11_lateLoads 37 = .ok (.iconst 0, 1) := by decide +kernel
theorem dX11_lateLoads_38 : decode cX11_lateLoads 38 = .ok (.iadd, 1) := by decide +kernel
theorem dX11_lateLoads_39 : decode cX11_lateLoads 39 = .ok (.istore_n 1, 1) := by decide +kernel
theorem dX11_lateLoads_40 : decode cX11_lateLoads 40 = .ok (.iinc 2 1, 3) := by decide +kernel
theorem dX11_lateLoads_43 : decode cX11_lateLoads 43 = .ok (.goto (-39), 3) := by decide +kernel
theorem dX11_lateLoads_46 : decode cX11_lateLoads 46 = .ok (.iload_n 1, 1) := by decide +kernel
theorem dX11_lateLoads_47 : decode cX11_lateLoads 47 = .ok (.ireturn, 1) := by decide +kernel
theorem dX11_askAbout_0 : decode cX11_askAbout 0 = .ok (.aload_n 0, 1) := by decide +kernel
theorem dX11_askAbout_1 : decode cX11_askAbout 1 = .ok (.getfield 45, 3) := by decide +kernel
theorem dX11_askAbout_4 : decode cX11_askAbout 4 = .ok (.aload_n 0, 1) := by decide +kernel
theorem dX11_askAbout_5 : decode cX11_askAbout 5 = .ok (.getfield 31, 3) := by decide +kernel
theorem dX11_askAbout_8 : decode cX11_askAbout 8 = .ok (.aload_n 0, 1) := by decide +kernel
theorem dX11_askAbout_9 : decode cX11_askAbout 9 = .ok (.getfield 150, 3) := by decide +kernel
theorem dX11_askAbout_12 : decode cX11_askAbout 12 = .ok (.invokevirtual 319, 3) := by decide +kernel
theorem dX11_askAbout_15 : decode cX11_askAbout 15 = .ok (.aload_n 0, 1) := by decide +kernel
theorem dX11_askAbout_16 : decode cX11_askAbout 16 = .ok (.getfield 45, 3) := by decide +kernel
theorem dX11_askAbout_19 : decode cX11_askAbout 19 = .ok (.aload_n 0, 1) := by decide +kernel
theorem dX11_askAbout_20 : decode cX11_askAbout 20 = .ok (.getfield 10, 3) := by decide +kernel
theorem dX11_askAbout_23 : decode cX11_askAbout 23 = .ok (.iload_n 3, 1) := by decide +kernel
theorem dX11_askAbout_24 : decode cX11_askAbout 24 = .ok (.invokevirtual 132, 3) := by decide +kernel
theorem dX11_askAbout_27 : decode cX11_askAbout 27 = .ok (.checkcast 66, 3) := by decide +kernel
theorem dX11_askAbout_30 : decode cX11_askAbout 30 = .ok (.invokevirtual 323, 3) := by decide +kernel
theorem dX11_askAbout_33 : decode cX11_askAbout 33 = .ok (.aload_n 0, 1) := by decide +kernel
theorem dX11_askAbout_34 : decode cX11_askAbout 34 = .ok (.getfield 45, 3) := by decide +kernel
theorem dX11_askAbout_37 : decode cX11_askAbout 37 = .ok (.aload_n 0, 1) := by decide +kernel
theorem dX11_askAbout_38 : decode cX11_askAbout 38 = .ok (.getfield 16, 3) := by decide +kernel
theorem dX11_askAbout_41 : decode cX11_askAbout 41 = .ok (.iload_n 1, 1) := by decide +kernel
theorem dX11_askAbout_42 : decode cX11_askAbout 42 = .ok (.invokevirtual 132, 3) := by decide +kernel
theorem dX11_askAbout_45 : decode cX11_askAbout 45 = .ok (.checkcast 83, 3) := by decide +kernel
theorem dX11_askAbout_48 : decode cX11_askAbout 48 = .ok (.invokevirtual 284, 3) := by decide +kernel
theorem dX11_askAbout_51 : decode cX11_askAbout 51 = .ok (.aload_n 0, 1) := by decide +kernel
theorem dX11_askAbout_52 : decode cX11_askAbout 52 = .ok (.getfield 45, 3) := by decide +kernel
theorem dX11_askAbout_55 : decode cX11_askAbout 55 = .ok (.aload_n 0, 1) := by decide +kernel
theorem dX11_askAbout_56 : decode cX11_askAbout 56 = .ok (.getfield 19, 3) := by decide +kernel
theorem dX11_askAbout_59 : decode cX11_askAbout 59 = .ok (.iload_n 2, 1) := by decide +kernel
theorem dX11_askAbout_60 : decode cX11_askAbout 60 = .ok (.invokevirtual 132, 3) := by decide +kernel
theorem dX11_askAbout_63 : decode cX11_askAbout 63 = .ok (.checkcast 88, 3) := by decide +kernel
theorem dX11_askAbout_66 : decode cX11_askAbout 66 = .ok (.getfield 210, 3) := by decide +kernel
theorem dX11_askAbout_69 : decode cX11_askAbout 69 = .ok (.invokevirtual 326, 3) := by decide +kernel
theorem dX11_askAbout_72 : decode cX11_askAbout 72 = .ok (.return_, 1) := by decide +kernel
theorem dX11_planned_0 : decode cX11_planned 0 = .ok (.aload_n 0, 1) := by decide +kernel
theorem dX11_planned_1 : decode cX11_planned 1 = .ok (.getfield 16, 3) := by decide +kernel
theorem dX11_planned_4 : decode cX11_planned 4 = .ok (.iload_n 1, 1) := by decide +kernel
theorem dX11_planned_5 : decode cX11_planned 5 = .ok (.invokevirtual 132, 3) := by decide +kernel
theorem dX11_planned_8 : decode cX11_planned 8 = .ok (.checkcast 83, 3) := by decide +kernel
theorem dX11_planned_11 : decode cX11_planned 11 = .ok (.astore 4, 2) := by decide +kernel
theorem dX11_planned_13 : decode cX11_planned 13 = .ok (.aload_n 0, 1) := by decide +kernel
theorem dX11_planned_14 : decode cX11_planned 14 = .ok (.getfield 10, 3) := by decide +kernel
theorem dX11_planned_17 : decode cX11_planned 17 = .ok (.iload_n 3, 1) := by decide +kernel
theorem dX11_planned_18 : decode cX11_planned 18 = .ok (.invokevirtual 132, 3) := by decide +kernel
theorem dX11_planned_21 : decode cX11_planned 21 = .ok (.checkcast 66, 3) := by decide +kernel
theorem dX11_planned_24 : decode cX11_planned 24 = .ok (.astore 5, 2) := by decide +kernel
theorem dX11_planned_26 : decode cX11_planned 26 = .ok (.aload 4, 2) := by decide +kernel
theorem dX11_planned_28 : decode cX11_planned 28 = .ok (.iconst 1, 1) := by decide +kernel
theorem dX11_planned_29 : decode cX11_planned 29 = .ok (.invokevirtual 329, 3) := by decide +kernel
theorem dX11_planned_32 : decode cX11_planned 32 = .ok (.ifCond .eq 13, 3) := by decide +kernel
theorem dX11_planned_35 : decode cX11_planned 35 = .ok (.iconst 2, 1) := by decide +kernel
theorem dX11_planned_36 : decode cX11_planned 36 = .ok (.aload 5, 2) := by decide +kernel
theorem dX11_planned_38 : decode cX11_planned 38 = .ok (.getfield 332, 3) := by decide +kernel
theorem dX11_planned_41 : decode cX11_planned 41 = .ok (.imul, 1) := by decide +kernel
theorem dX11_planned_42 : decode cX11_planned 42 = .ok (.goto 8, 3) := by decide +kernel
theorem dX11_planned_45 : decode cX11_planned 45 = .ok (.aload 5, 2) := by decide +kernel
theorem dX11_planned_47 : decode cX11_planned 47 = .ok (.getfield 332, 3) := by decide +kernel
theorem dX11_planned_50 : decode cX11_planned 50 = .ok (.istore 6, 2) := by decide +kernel
theorem dX11_planned_52 : decode cX11_planned 52 = .ok (.new 230, 3) := by decide +kernel
theorem dX11_planned_55 : decode cX11_planned 55 = .ok (.dup, 1) := by decide +kernel
theorem dX11_planned_56 : decode cX11_planned 56 = .ok (.iload_n 1, 1) := by decide +kernel
theorem dX11_planned_57 : decode cX11_planned 57 = .ok (.iload_n 2, 1) := by decide +kernel
theorem dX11_planned_58 : decode cX11_planned 58 = .ok (.iload_n 3, 1) := by decide +kernel
theorem dX11_planned_59 : decode cX11_planned 59 = .ok (.aload_n 0, 1) := by decide +kernel
theorem dX11_planned_60 : decode cX11_planned 60 = .ok (.getfield 150, 3) := by decide +kernel
theorem dX11_planned_63 : decode cX11_planned 63 = .ok (.iload 6, 2) := by decide +kernel
theorem dX11_planned_65 : decode cX11_planned 65 = .ok (.invokespecial 335, 3) := by decide +kernel
theorem dX11_planned_68 : decode cX11_planned 68 = .ok (.astore 7, 2) := by decide +kernel
theorem dX11_planned_70 : decode cX11_planned 70 = .ok (.aload_n 0, 1) := by decide +kernel
theorem dX11_planned_71 : decode cX11_planned 71 = .ok (.iload_n 3, 1) := by decide +kernel
theorem dX11_planned_72 : decode cX11_planned 72 = .ok (.aload 7, 2) := by decide +kernel
theorem dX11_planned_74 : decode cX11_planned 74 = .ok (.getfield 241, 3) := by decide +kernel
theorem dX11_planned_77 : decode cX11_planned 77 = .ok (.aload 4, 2) := by decide +kernel
theorem dX11_planned_79 : decode cX11_planned 79 = .ok (.aload 5, 2) := by decide +kernel
theorem dX11_planned_81 : decode cX11_planned 81 = .ok (.getfield 255, 3) := by decide +kernel
theorem dX11_planned_84 : decode cX11_planned 84 = .ok (.aload_n 0, 1) := by decide +kernel
theorem dX11_planned_85 : decode cX11_planned 85 = .ok (.getfield 31, 3) := by decide +kernel
theorem dX11_planned_88 : decode cX11_planned 88 = .ok (.aload 7, 2) := by decide +kernel
theorem dX11_planned_90 : decode cX11_planned 90 = .ok (.getfield 241, 3) := by decide +kernel
theorem dX11_planned_93 : decode cX11_planned 93 = .ok (.invokevirtual 199, 3) := by decide +kernel
theorem dX11_planned_96 : decode cX11_planned 96 = .ok (.invokevirtual 203, 3) := by decide +kernel
theorem dX11_planned_99 : decode cX11_planned 99 = .ok (.invokevirtual 336, 3) := by decide +kernel
theorem dX11_planned_102 : decode cX11_planned 102 = .ok (.aload 7, 2) := by decide +kernel
theorem dX11_planned_104 : decode cX11_planned 104 = .ok (.aload 4, 2) := by decide +kernel
theorem dX11_planned_106 : decode cX11_planned 106 = .ok (.getfield 160, 3) := by decide +kernel
theorem dX11_planned_109 : decode cX11_planned 109 = .ok (.invokevirtual 79, 3) := by decide +kernel
theorem dX11_planned_112 : decode cX11_planned 112 = .ok (.putfield 250, 3) := by decide +kernel
theorem dX11_planned_115 : decode cX11_planned 115 = .ok (.aload 7, 2) := by decide +kernel
theorem dX11_planned_117 : decode cX11_planned 117 = .ok (.aload_n 0, 1) := by decide +kernel
theorem dX11_planned_118 : decode cX11_planned 118 = .ok (.getfield 63, 3) := by decide +kernel
theorem dX11_planned_121 : decode cX11_planned 121 = .ok (.invokevirtual 79, 3) := by decide +kernel
theorem dX11_planned_124 : decode cX11_planned 124 = .ok (.putfield 253, 3) := by decide +kernel
theorem dX11_planned_127 : decode cX11_planned 127 = .ok (.aload 7, 2) := by decide +kernel
theorem dX11_planned_129 : decode cX11_planned 129 = .ok (.iload 6, 2) := by decide +kernel
theorem dX11_planned_131 : decode cX11_planned 131 = .ok (.iconst 2, 1) := by decide +kernel
theorem dX11_planned_132 : decode cX11_planned 132 = .ok (.aload 4, 2) := by decide +kernel
theorem dX11_planned_134 : decode cX11_planned 134 = .ok (.getfield 160, 3) := by decide +kernel
theorem dX11_planned_137 : decode cX11_planned 137 = .ok (.invokestatic 195, 3) := by decide +kernel
theorem dX11_planned_140 : decode cX11_planned 140 = .ok (.bipush 20, 2) := by decide +kernel
theorem dX11_planned_142 : decode cX11_planned 142 = .ok (.idiv, 1) := by decide +kernel
theorem dX11_planned_143 : decode cX11_planned 143 = .ok (.iadd, 1) := by decide +kernel
theorem dX11_planned_144 : decode cX11_planned 144 = .ok (.imul, 1) := by decide +kernel
theorem dX11_planned_145 : decode cX11_planned 145 = .ok (.iload 6, 2) := by decide +kernel
theorem dX11_planned_147 : decode cX11_planned 147 = .ok (.iconst 2, 1) := by decide +kernel
theorem dX11_planned_148 : decode cX11_planned 148 = .ok (.aload_n 0, 1) := by decide +kernel
theorem dX11_planned_149 : decode cX11_planned 149 = .ok (.getfield 63, 3) := by decide +kernel
theorem dX11_planned_152 : decode cX11_planned 152 = .ok (.invokestatic 195, 3) := by decide +kernel
theorem dX11_planned_155 : decode cX11_planned 155 = .ok (.bipush 20, 2) := by decide +kernel
theorem dX11_planned_157 : decode cX11_planned 157 = .ok (.idiv, 1) := by decide +kernel
theorem dX11_planned_158 : decode cX11_planned 158 = .ok (.iadd, 1) := by decide +kernel
theorem dX11_planned_159 : decode cX11_planned 159 = .ok (.imul, 1) := by decide +kernel
theorem dX11_planned_160 : decode cX11_planned 160 = .ok (.iadd, 1) := by decide +kernel
theorem dX11_planned_161 : decode cX11_planned 161 = .ok (.putfield 247, 3) := by decide +kernel
theorem dX11_planned_164 : decode cX11_planned 164 = .ok (.aload 7, 2) := by decide +kernel
theorem dX11_planned_166 : decode cX11_planned 166 = .ok (.areturn, 1) := by decide +kernel
theorem dX11_chooseRiders_0 : decode cX11_chooseRiders 0 = .ok (.aload_n 0, 1) := by decide +kernel
theorem dX11_chooseRiders_1 : decode cX11_chooseRiders 1 = .ok (.getfield 63, 3) := by decide +kernel
theorem dX11_chooseRiders_4 : decode cX11_chooseRiders 4 = .ok (.invokevirtual 339, 3) := by decide +kernel
theorem dX11_chooseRiders_7 : decode cX11_chooseRiders 7 = .ok (.iconst 0, 1) := by decide +kernel
theorem dX11_chooseRiders_8 : decode cX11_chooseRiders 8 = .ok (.istore 4, 2) := by decide +kernel
theorem dX11_chooseRiders_10 : decode cX11_chooseRiders 10 = .ok (.iconst 0, 1) := by decide +kernel
theorem dX11_chooseRiders_11 : decode cX11_chooseRiders 11 = .ok (.istore 5, 2) := by decide +kernel
theorem dX11_chooseRiders_13 : decode cX11_chooseRiders 13 = .ok (.iconst 0, 1) := by decide +kernel
theorem dX11_chooseRiders_14 : decode cX11_chooseRiders 14 = .ok (.istore 6, 2) := by decide +kernel
theorem dX11_chooseRiders_16 : decode cX11_chooseRiders 16 = .ok (.iload 6, 2) := by decide +kernel
theorem dX11_chooseRiders_18 : decode cX11_chooseRiders 18 = .ok (.aload_n 0, 1) := by decide +kernel
theorem dX11_chooseRiders_19 : decode cX11_chooseRiders 19 = .ok (.getfield 22, 3) := by decide +kernel
theorem dX11_chooseRiders_22 : decode cX11_chooseRiders 22 = .ok (.invokevirtual 79, 3) := by decide +kernel
theorem dX11_chooseRiders_25 : decode cX11_chooseRiders 25 = .ok (.if_icmp .ge 108, 3) := by decide +kernel
theorem dX11_chooseRiders_28 : decode cX11_chooseRiders 28 = .ok (.aload_n 0, 1) := by decide +kernel
theorem dX11_chooseRiders_29 : decode cX11_chooseRiders 29 = .ok (.getfield 22, 3) := by decide +kernel
theorem dX11_chooseRiders_32 : decode cX11_chooseRiders 32 = .ok (.iload 6, 2) := by decide +kernel
theorem dX11_chooseRiders_34 : decode cX11_chooseRiders 34 = .ok (.invokevirtual 132, 3) := by decide +kernel
theorem dX11_chooseRiders_37 : decode cX11_chooseRiders 37 = .ok (.checkcast 95, 3) := by decide +kernel
theorem dX11_chooseRiders_40 : decode cX11_chooseRiders 40 = .ok (.astore 7, 2) := by decide +kernel
theorem dX11_chooseRiders_42 : decode cX11_chooseRiders 42 = .ok (.aload 7, 2) := by decide +kernel
theorem dX11_chooseRiders_44 : decode cX11_chooseRiders 44 = .ok (.iload_n 1, 1) := by decide +kernel
theorem dX11_chooseRiders_45 : decode cX11_chooseRiders 45 = .ok (.invokevirtual 342, 3) := by decide +kernel
theorem dX11_chooseRiders_48 : decode cX11_chooseRiders 48 = .ok (.ifCond .eq 79, 3) := by decide +kernel
theorem dX11_chooseRiders_51 : decode cX11_chooseRiders 51 = .ok (.aload 7, 2) := by decide +kernel
theorem dX11_chooseRiders_53 : decode cX11_chooseRiders 53 = .ok (.getfield 345, 3) := by decide +kernel
theorem dX11_chooseRiders_56 : decode cX11_chooseRiders 56 = .ok (.iconst 4, 1) := by decide +kernel
theorem dX11_chooseRiders_57 : decode cX11_chooseRiders 57 = .ok (.if_icmp .ne 70, 3) := by decide +kernel
theorem dX11_chooseRiders_60 : decode cX11_chooseRiders 60 = .ok (.aload 7, 2) := by decide +kernel
theorem dX11_chooseRiders_62 : decode cX11_chooseRiders 62 = .ok (.getfield 348, 3) := by decide +kernel
theorem dX11_chooseRiders_65 : decode cX11_chooseRiders 65 = .ok (.iload_n 2, 1) := by decide +kernel
theorem dX11_chooseRiders_66 : decode cX11_chooseRiders 66 = .ok (.if_icmp .le 6, 3) := by decide +kernel
theorem dX11_chooseRiders_69 : decode cX11_chooseRiders 69 = .ok (.goto 58, 3) := by decide +kernel
theorem dX11_chooseRiders_72 : decode cX11_chooseRiders 72 = .ok (.iload 4, 2) := by decide +kernel
theorem dX11_chooseRiders_74 : decode cX11_chooseRiders 74 = .ok (.aload 7, 2) := by decide +kernel
theorem dX11_chooseRiders_76 : decode cX11_chooseRiders 76 = .ok (.getfield 313, 3) := by decide +kernel
theorem dX11_chooseRiders_79 : decode cX11_chooseRiders 79 = .ok (.iadd, 1) := by decide +kernel
theorem dX11_chooseRiders_80 : decode cX11_chooseRiders 80 = .ok (.iload_n 3, 1) := by decide +kernel
theorem dX11_chooseRiders_81 : decode cX11_chooseRiders 81 = .ok (.if_icmp .gt 46, 3) := by decide +kernel
theorem dX11_chooseRiders_84 : decode cX11_chooseRiders 84 = .ok (.iload 5, 2) := by decide +kernel
theorem dX11_chooseRiders_86 : decode cX11_chooseRiders 86 = .ok (.aload 7, 2) := by decide +kernel
theorem dX11_chooseRiders_88 : decode cX11_chooseRiders 88 = .ok (.getfield 316, 3) := by decide +kernel
theorem dX11_chooseRiders_91 : decode cX11_chooseRiders 91 = .ok (.iadd, 1) := by decide +kernel
theorem dX11_chooseRiders_92 : decode cX11_chooseRiders 92 = .ok (.bipush 9, 2) := by decide +kernel
theorem dX11_chooseRiders_94 : decode cX11_chooseRiders 94 = .ok (.if_icmp .gt 33, 3) := by decide +kernel
theorem dX11_chooseRiders_97 : decode cX11_chooseRiders 97 = .ok (.aload_n 0, 1) := by decide +kernel
theorem dX11_chooseRiders_98 : decode cX11_chooseRiders 98 = .ok (.getfield 63, 3) := by decide +kernel
theorem dX11_chooseRiders_101 : decode cX11_chooseRiders 101 = .ok (.aload 7, 2) := by decide +kernel
theorem dX11_chooseRiders_103 : decode cX11_chooseRiders 103 = .ok (.invokevirtual 71, 3) := by decide +kernel
theorem dX11_chooseRiders_106 : decode cX11_chooseRiders 106 = .ok (.pop, 1) := by decide +kernel
theorem dX11_chooseRiders_107 : decode cX11_chooseRiders 107 = .ok (.iload 4, 2) := by decide +kernel
theorem dX11_chooseRiders_109 : decode cX11_chooseRiders 109 = .ok (.aload 7, 2) := by decide +kernel
theorem dX11_chooseRiders_111 : decode cX11_chooseRiders 111 = .ok (.getfield 313, 3) := by decide +kernel
theorem dX11_chooseRiders_114 : decode cX11_chooseRiders 114 = .ok (.iadd, 1) := by decide +kernel
theorem dX11_chooseRiders_115 : decode cX11_chooseRiders 115 = .ok (.istore 4, 2) := by decide +kernel
theorem dX11_chooseRiders_117 : decode cX11_chooseRiders 117 = .ok (.iload 5, 2) := by decide +kernel
theorem dX11_chooseRiders_119 : decode cX11_chooseRiders 119 = .ok (.aload 7, 2) := by decide +kernel
theorem dX11_chooseRiders_121 : decode cX11_chooseRiders 121 = .ok (.getfield 316, 3) := by decide +kernel
theorem dX11_chooseRiders_124 : decode cX11_chooseRiders 124 = .ok (.iadd, 1) := by decide +kernel
theorem dX11_chooseRiders_125 : decode cX11_chooseRiders 125 = .ok (.istore 5, 2) := by decide +kernel
theorem dX11_chooseRiders_127 : decode cX11_chooseRiders 127 = .ok (.iinc 6 1, 3) := by decide +kernel
theorem dX11_chooseRiders_130 : decode cX11_chooseRiders 130 = .ok (.goto (-114), 3) := by decide +kernel
theorem dX11_chooseRiders_133 : decode cX11_chooseRiders 133 = .ok (.return_, 1) := by decide +kernel
theorem dX11_whyNot_0 : decode cX11_whyNot 0 = .ok (.aload_n 0, 1) := by decide +kernel
theorem dX11_whyNot_1 : decode cX11_whyNot 1 = .ok (.getfield 16, 3) := by decide +kernel
theorem dX11_whyNot_4 : decode cX11_whyNot 4 = .ok (.aload_n 1, 1) := by decide +kernel
theorem dX11_whyNot_5 : decode cX11_whyNot 5 = .ok (.getfield 232, 3) := by decide +kernel
theorem dX11_whyNot_8 : decode cX11_whyNot 8 = .ok (.invokevirtual 132, 3) := by decide +kernel
theorem dX11_whyNot_11 : decode cX11_whyNot 11 = .ok (.checkcast 83, 3) := by decide +kernel
theorem dX11_whyNot_14 : decode cX11_whyNot 14 = .ok (.astore_n 2, 1) := by decide +kernel
theorem dX11_whyNot_15 : decode cX11_whyNot 15 = .ok (.aload_n 0, 1) := by decide +kernel
theorem dX11_whyNot_16 : decode cX11_whyNot 16 = .ok (.getfield 19, 3) := by decide +kernel
theorem dX11_whyNot_19 : decode cX11_whyNot 19 = .ok (.aload_n 1, 1) := by decide +kernel
theorem dX11_whyNot_20 : decode cX11_whyNot 20 = .ok (.getfield 233, 3) := by decide +kernel
theorem dX11_whyNot_23 : decode cX11_whyNot 23 = .ok (.invokevirtual 132, 3) := by decide +kernel
theorem dX11_whyNot_26 : decode cX11_whyNot 26 = .ok (.checkcast 88, 3) := by decide +kernel
theorem dX11_whyNot_29 : decode cX11_whyNot 29 = .ok (.astore_n 3, 1) := by decide +kernel
theorem dX11_whyNot_30 : decode cX11_whyNot 30 = .ok (.aload_n 2, 1) := by decide +kernel
theorem dX11_whyNot_31 : decode cX11_whyNot 31 = .ok (.getfield 147, 3) := by decide +kernel
theorem dX11_whyNot_34 : decode cX11_whyNot 34 = .ok (.aload_n 0, 1) := by decide +kernel
theorem dX11_whyNot_35 : decode cX11_whyNot 35 = .ok (.getfield 150, 3) := by decide +kernel
theorem dX11_whyNot_38 : decode cX11_whyNot 38 = .ok (.if_icmp .le 5, 3) := by decide +kernel
theorem dX11_whyNot_41 : decode cX11_whyNot 41 = .ok (.iconst 1, 1) := by decide +kernel
theorem dX11_whyNot_42 : decode cX11_whyNot 42 = .ok (.ireturn, 1) := by decide +kernel
theorem dX11_whyNot_43 : decode cX11_whyNot 43 = .ok (.aload_n 3, 1) := by decide +kernel
theorem dX11_whyNot_44 : decode cX11_whyNot 44 = .ok (.getfield 213, 3) := by decide +kernel
theorem dX11_whyNot_47 : decode cX11_whyNot 47 = .ok (.aload_n 0, 1) := by decide +kernel
theorem dX11_whyNot_48 : decode cX11_whyNot 48 = .ok (.getfield 150, 3) := by decide +kernel
theorem dX11_whyNot_51 : decode cX11_whyNot 51 = .ok (.if_icmp .le 5, 3) := by decide +kernel
theorem dX11_whyNot_54 : decode cX11_whyNot 54 = .ok (.iconst 2, 1) := by decide +kernel
theorem dX11_whyNot_55 : decode cX11_whyNot 55 = .ok (.ireturn, 1) := by decide +kernel
theorem dX11_whyNot_56 : decode cX11_whyNot 56 = .ok (.aload_n 2, 1) := by decide +kernel
theorem dX11_whyNot_57 : decode cX11_whyNot 57 = .ok (.aload_n 1, 1) := by decide +kernel
theorem dX11_whyNot_58 : decode cX11_whyNot 58 = .ok (.getfield 236, 3) := by decide +kernel
theorem dX11_whyNot_61 : decode cX11_whyNot 61 = .ok (.invokevirtual 351, 3) := by decide +kernel
theorem dX11_whyNot_64 : decode cX11_whyNot 64 = .ok (.ifCond .eq 5, 3) := by decide +kernel
theorem dX11_whyNot_67 : decode cX11_whyNot 67 = .ok (.iconst 3, 1) := by decide +kernel
theorem dX11_whyNot_68 : decode cX11_whyNot 68 = .ok (.ireturn, 1) := by decide +kernel
theorem dX11_whyNot_69 : decode cX11_whyNot 69 = .ok (.aload_n 1, 1) := by decide +kernel
theorem dX11_whyNot_70 : decode cX11_whyNot 70 = .ok (.getfield 244, 3) := by decide +kernel
theorem dX11_whyNot_73 : decode cX11_whyNot 73 = .ok (.sipush 720, 3) := by decide +kernel
theorem dX11_whyNot_76 : decode cX11_whyNot 76 = .ok (.if_icmp .le 5, 3) := by decide +kernel
theorem dX11_whyNot_79 : decode cX11_whyNot 79 = .ok (.iconst 4, 1) := by decide +kernel
theorem dX11_whyNot_80 : decode cX11_whyNot 80 = .ok (.ireturn, 1) := by decide +kernel
theorem dX11_whyNot_81 : decode cX11_whyNot 81 = .ok (.aload_n 0, 1) := by decide +kernel
theorem dX11_whyNot_82 : decode cX11_whyNot 82 = .ok (.aload_n 2, 1) := by decide +kernel
theorem dX11_whyNot_83 : decode cX11_whyNot 83 = .ok (.aload_n 1, 1) := by decide +kernel
theorem dX11_whyNot_84 : decode cX11_whyNot 84 = .ok (.invokevirtual 354, 3) := by decide +kernel
theorem dX11_whyNot_87 : decode cX11_whyNot 87 = .ok (.ifCond .eq 5, 3) := by decide +kernel
theorem dX11_whyNot_90 : decode cX11_whyNot 90 = .ok (.iconst 5, 1) := by decide +kernel
theorem dX11_whyNot_91 : decode cX11_whyNot 91 = .ok (.ireturn, 1) := by decide +kernel
theorem dX11_whyNot_92 : decode cX11_whyNot 92 = .ok (.aload_n 1, 1) := by decide +kernel
theorem dX11_whyNot_93 : decode cX11_whyNot 93 = .ok (.getfield 247, 3) := by decide +kernel
theorem dX11_whyNot_96 : decode cX11_whyNot 96 = .ok (.bipush 10, 2) := by decide +kernel
theorem dX11_whyNot_98 : decode cX11_whyNot 98 = .ok (.iadd, 1) := by decide +kernel
theorem dX11_whyNot_99 : decode cX11_whyNot 99 = .ok (.aload_n 2, 1) := by decide +kernel
theorem dX11_whyNot_100 : decode cX11_whyNot 100 = .ok (.getfield 188, 3) := by decide +kernel
theorem dX11_whyNot_103 : decode cX11_whyNot 103 = .ok (.if_icmp .le 6, 3) := by decide +kernel
theorem dX11_whyNot_106 : decode cX11_whyNot 106 = .ok (.bipush 6, 2) := by decide +kernel
theorem dX11_whyNot_108 : decode cX11_whyNot 108 = .ok (.ireturn, 1) := by decide +kernel
theorem dX11_whyNot_109 : decode cX11_whyNot 109 = .ok (.aload_n 3, 1) := by decide +kernel
theorem dX11_whyNot_110 : decode cX11_whyNot 110 = .ok (.getfield 210, 3) := by decide +kernel
theorem dX11_whyNot_113 : decode cX11_whyNot 113 = .ok (.aload_n 1, 1) := by decide +kernel
theorem dX11_whyNot_114 : decode cX11_whyNot 114 = .ok (.getfield 244, 3) := by decide +kernel
theorem dX11_whyNot_117 : decode cX11_whyNot 117 = .ok (.iadd, 1) := by decide +kernel
theorem dX11_whyNot_118 : decode cX11_whyNot 118 = .ok (.aload_n 1, 1) := by decide +kernel
theorem dX11_whyNot_119 : decode cX11_whyNot 119 = .ok (.getfield 239, 3) := by decide +kernel
theorem dX11_whyNot_122 : decode cX11_whyNot 122 = .ok (.isub, 1) := by decide +kernel
theorem dX11_whyNot_123 : decode cX11_whyNot 123 = .ok (.aload_n 3, 1) := by decide +kernel
theorem dX11_whyNot_124 : decode cX11_whyNot 124 = .ok (.getfield 214, 3) := by decide +kernel
theorem dX11_whyNot_127 : decode cX11_whyNot 127 = .ok (.if_icmp .le 6, 3) := by decide +kernel
theorem dX11_whyNot_130 : decode cX11_whyNot 130 = .ok (.bipush 7, 2) := by decide +kernel
theorem dX11_whyNot_132 : decode cX11_whyNot 132 = .ok (.ireturn, 1) := by decide +kernel
theorem dX11_whyNot_133 : decode cX11_whyNot 133 = .ok (.aload_n 2, 1) := by decide +kernel
theorem dX11_whyNot_134 : decode cX11_whyNot 134 = .ok (.aload_n 1, 1) := by decide +kernel
theorem dX11_whyNot_135 : decode cX11_whyNot 135 = .ok (.getfield 241, 3) := by decide +kernel
theorem dX11_whyNot_138 : decode cX11_whyNot 138 = .ok (.invokevirtual 358, 3) := by decide +kernel
theorem dX11_whyNot_141 : decode cX11_whyNot 141 = .ok (.ifCond .eq 6, 3) := by decide +kernel
theorem dX11_whyNot_144 : decode cX11_whyNot 144 = .ok (.bipush 8, 2) := by decide +kernel
theorem dX11_whyNot_146 : decode cX11_whyNot 146 = .ok (.ireturn, 1) := by decide +kernel
theorem dX11_whyNot_147 : decode cX11_whyNot 147 = .ok (.aload_n 0, 1) := by decide +kernel
theorem dX11_whyNot_148 : decode cX11_whyNot 148 = .ok (.aload_n 1, 1) := by decide +kernel
theorem dX11_whyNot_149 : decode cX11_whyNot 149 = .ok (.getfield 232, 3) := by decide +kernel
theorem dX11_whyNot_152 : decode cX11_whyNot 152 = .ok (.aload_n 1, 1) := by decide +kernel
theorem dX11_whyNot_153 : decode cX11_whyNot 153 = .ok (.getfield 233, 3) := by decide +kernel
theorem dX11_whyNot_156 : decode cX11_whyNot 156 = .ok (.aload_n 1, 1) := by decide +kernel
theorem dX11_whyNot_157 : decode cX11_whyNot 157 = .ok (.getfield 236, 3) := by decide +kernel
theorem dX11_whyNot_160 : decode cX11_whyNot 160 = .ok (.invokevirtual 129, 3) := by decide +kernel
theorem dX11_whyNot_163 : decode cX11_whyNot 163 = .ok (.aload_n 0, 1) := by decide +kernel
theorem dX11_whyNot_164 : decode cX11_whyNot 164 = .ok (.getfield 45, 3) := by decide +kernel
theorem dX11_whyNot_167 : decode cX11_whyNot 167 = .ok (.invokevirtual 361, 3) := by decide +kernel
theorem dX11_whyNot_170 : decode cX11_whyNot 170 = .ok (.istore 4, 2) := by decide +kernel
theorem dX11_whyNot_172 : decode cX11_whyNot 172 = .ok (.iload 4, 2) := by decide +kernel
theorem dX11_whyNot_174 : decode cX11_whyNot 174 = .ok (.ifCond .ge 7, 3) := by decide +kernel
theorem dX11_whyNot_177 : decode cX11_whyNot 177 = .ok (.iconst 0, 1) := by decide +kernel
theorem dX11_whyNot_178 : decode cX11_whyNot 178 = .ok (.goto 8, 3) := by decide +kernel
theorem dX11_whyNot_181 : decode cX11_whyNot 181 = .ok (.bipush 10, 2) := by decide +kernel
theorem dX11_whyNot_183 : decode cX11_whyNot 183 = .ok (.iload 4, 2) := by decide +kernel
theorem dX11_whyNot_185 : decode cX11_whyNot 185 = .ok (.iadd, 1) := by decide +kernel
theorem dX11_whyNot_186 : decode cX11_whyNot 186 = .ok (.ireturn, 1) := by decide +kernel
theorem dX11_isTooHeavy_0 : decode cX11_isTooHeavy 0 = .ok (.aload_n 1, 1) := by decide +kernel
theorem dX11_isTooHeavy_1 : decode cX11_isTooHeavy 1 = .ok (.getfield 160, 3) := by decide +kernel
theorem dX11_isTooHeavy_4 : decode cX11_isTooHeavy 4 = .ok (.invokestatic 195, 3) := by decide +kernel
theorem dX11_isTooHeavy_7 : decode cX11_isTooHeavy 7 = .ok (.istore_n 3, 1) := by decide +kernel
theorem dX11_isTooHeavy_8 : decode cX11_isTooHeavy 8 = .ok (.aload_n 0, 1) := by decide +kernel
theorem dX11_isTooHeavy_9 : decode cX11_isTooHeavy 9 = .ok (.getfield 10, 3) := by decide +kernel
theorem dX11_isTooHeavy_12 : decode cX11_isTooHeavy 12 = .ok (.aload_n 2, 1) := by decide +kernel
theorem dX11_isTooHeavy_13 : decode cX11_isTooHeavy 13 = .ok (.getfield 236, 3) := by decide +kernel
theorem dX11_isTooHeavy_16 : decode cX11_isTooHeavy 16 = .ok (.invokevirtual 132, 3) := by decide +kernel
theorem dX11_isTooHeavy_19 : decode cX11_isTooHeavy 19 = .ok (.checkcast 66, 3) := by decide +kernel
theorem dX11_isTooHeavy_22 : decode cX11_isTooHeavy 22 = .ok (.getfield 255, 3) := by decide +kernel
theorem dX11_isTooHeavy_25 : decode cX11_isTooHeavy 25 = .ok (.istore 4, 2) := by decide +kernel
theorem dX11_isTooHeavy_27 : decode cX11_isTooHeavy 27 = .ok (.iload_n 3, 1) := by decide +kernel
theorem dX11_isTooHeavy_28 : decode cX11_isTooHeavy 28 = .ok (.aload_n 1, 1) := by decide +kernel
theorem dX11_isTooHeavy_29 : decode cX11_isTooHeavy 29 = .ok (.iconst 0, 1) := by decide +kernel
theorem dX11_isTooHeavy_30 : decode cX11_isTooHeavy 30 = .ok (.aload_n 0, 1) := by decide +kernel
theorem dX11_isTooHeavy_31 : decode cX11_isTooHeavy 31 = .ok (.getfield 31, 3) := by decide +kernel
theorem dX11_isTooHeavy_34 : decode cX11_isTooHeavy 34 = .ok (.aload_n 0, 1) := by decide +kernel
theorem dX11_isTooHeavy_35 : decode cX11_isTooHeavy 35 = .ok (.getfield 150, 3) := by decide +kernel
theorem dX11_isTooHeavy_38 : decode cX11_isTooHeavy 38 = .ok (.invokevirtual 199, 3) := by decide +kernel
theorem dX11_isTooHeavy_41 : decode cX11_isTooHeavy 41 = .ok (.invokevirtual 203, 3) := by decide +kernel
theorem dX11_isTooHeavy_44 : decode cX11_isTooHeavy 44 = .ok (.if_icmp .gt 24, 3) := by decide +kernel
theorem dX11_isTooHeavy_47 : decode cX11_isTooHeavy 47 = .ok (.iload_n 3, 1) := by decide +kernel
theorem dX11_isTooHeavy_48 : decode cX11_isTooHeavy 48 = .ok (.aload_n 1, 1) := by decide +kernel
theorem dX11_isTooHeavy_49 : decode cX11_isTooHeavy 49 = .ok (.iload 4, 2) := by decide +kernel
theorem dX11_isTooHeavy_51 : decode cX11_isTooHeavy 51 = .ok (.aload_n 0, 1) := by decide +kernel
theorem dX11_isTooHeavy_52 : decode cX11_isTooHeavy 52 = .ok (.getfield 31, 3) := by decide +kernel
theorem dX11_isTooHeavy_55 : decode cX11_isTooHeavy 55 = .ok (.aload_n 2, 1) := by decide +kernel
theorem dX11_isTooHeavy_56 : decode cX11_isTooHeavy 56 = .ok (.getfield 241, 3) := by decide +kernel
theorem dX11_isTooHeavy_59 : decode cX11_isTooHeavy 59 = .ok (.invokevirtual 199, 3) := by decide +kernel
theorem dX11_isTooHeavy_62 : decode cX11_isTooHeavy 62 = .ok (.invokevirtual 203, 3) := by decide +kernel
theorem dX11_isTooHeavy_65 : decode cX11_isTooHeavy 65 = .ok (.if_icmp .le 7, 3) := by decide +kernel
theorem dX11_isTooHeavy_68 : decode cX11_isTooHeavy 68 = .ok (.iconst 1, 1) := by decide +kernel
theorem dX11_isTooHeavy_69 : decode cX11_isTooHeavy 69 = .ok (.goto 4, 3) := by decide +kernel
theorem dX11_isTooHeavy_72 : decode cX11_isTooHeavy 72 = .ok (.iconst 0, 1) := by decide +kernel
theorem dX11_isTooHeavy_73 : decode cX11_isTooHeavy 73 = .ok (.ireturn, 1) := by decide +kernel
theorem dX11_begin_0 : decode cX11_begin 0 = .ok (.aload_n 0, 1) := by decide +kernel
theorem dX11_begin_1 : decode cX11_begin 1 = .ok (.getfield 16, 3) := by decide +kernel
theorem dX11_begin_4 : decode cX11_begin 4 = .ok (.aload_n 1, 1) := by decide +kernel
theorem dX11_begin_5 : decode cX11_begin 5 = .ok (.getfield 232, 3) := by decide +kernel
theorem dX11_begin_8 : decode cX11_begin 8 = .ok (.invokevirtual 132, 3) := by decide +kernel
theorem dX11_begin_11 : decode cX11_begin 11 = .ok (.checkcast 83, 3) := by decide +kernel
theorem dX11_begin_14 : decode cX11_begin 14 = .ok (.astore_n 2, 1) := by decide +kernel
theorem dX11_begin_15 : decode cX11_begin 15 = .ok (.aload_n 0, 1) := by decide +kernel
theorem dX11_begin_16 : decode cX11_begin 16 = .ok (.getfield 19, 3) := by decide +kernel
theorem dX11_begin_19 : decode cX11_begin 19 = .ok (.aload_n 1, 1) := by decide +kernel
theorem dX11_begin_20 : decode cX11_begin 20 = .ok (.getfield 233, 3) := by decide +kernel
theorem dX11_begin_23 : decode cX11_begin 23 = .ok (.invokevirtual 132, 3) := by decide +kernel
theorem dX11_begin_26 : decode cX11_begin 26 = .ok (.checkcast 88, 3) := by decide +kernel
theorem dX11_begin_29 : decode cX11_begin 29 = .ok (.astore_n 3, 1) := by decide +kernel
theorem dX11_begin_30 : decode cX11_begin 30 = .ok (.aload_n 2, 1) := by decide +kernel
theorem dX11_begin_31 : decode cX11_begin 31 = .ok (.dup, 1) := by decide +kernel
theorem dX11_begin_32 : decode cX11_begin 32 = .ok (.getfield 188, 3) := by decide +kernel
theorem dX11_begin_35 : decode cX11_begin 35 = .ok (.aload_n 1, 1) := by decide +kernel
theorem dX11_begin_36 : decode cX11_begin 36 = .ok (.getfield 247, 3) := by decide +kernel
theorem dX11_begin_39 : decode cX11_begin 39 = .ok (.isub, 1) := by decide +kernel
theorem dX11_begin_40 : decode cX11_begin 40 = .ok (.putfield 188, 3) := by decide +kernel
theorem dX11_begin_43 : decode cX11_begin 43 = .ok (.aload_n 2, 1) := by decide +kernel
theorem dX11_begin_44 : decode cX11_begin 44 = .ok (.aload_n 1, 1) := by decide +kernel
theorem dX11_begin_45 : decode cX11_begin 45 = .ok (.getfield 244, 3) := by decide +kernel
theorem dX11_begin_48 : decode cX11_begin 48 = .ok (.putfield 147, 3) := by decide +kernel
theorem dX11_begin_51 : decode cX11_begin 51 = .ok (.aload_n 3, 1) := by decide +kernel
theorem dX11_begin_52 : decode cX11_begin 52 = .ok (.aload_n 1, 1) := by decide +kernel
theorem dX11_begin_53 : decode cX11_begin 53 = .ok (.getfield 244, 3) := by decide +kernel
theorem dX11_begin_56 : decode cX11_begin 56 = .ok (.aload_n 3, 1) := by decide +kernel
theorem dX11_begin_57 : decode cX11_begin 57 = .ok (.getfield 364, 3) := by decide +kernel
theorem dX11_begin_60 : decode cX11_begin 60 = .ok (.iadd, 1) := by decide +kernel
theorem dX11_begin_61 : decode cX11_begin 61 = .ok (.putfield 213, 3) := by decide +kernel
theorem dX11_begin_64 : decode cX11_begin 64 = .ok (.aload_n 3, 1) := by decide +kernel
theorem dX11_begin_65 : decode cX11_begin 65 = .ok (.dup, 1) := by decide +kernel
theorem dX11_begin_66 : decode cX11_begin 66 = .ok (.getfield 210, 3) := by decide +kernel
theorem dX11_begin_69 : decode cX11_begin 69 = .ok (.aload_n 1, 1) := by decide +kernel
theorem dX11_begin_70 : decode cX11_begin 70 = .ok (.getfield 244, 3) := by decide +kernel
theorem dX11_begin_73 : decode cX11_begin 73 = .ok (.aload_n 1, 1) := by decide +kernel
theorem dX11_begin_74 : decode cX11_begin 74 = .ok (.getfield 239, 3) := by decide +kernel
theorem dX11_begin_77 : decode cX11_begin 77 = .ok (.isub, 1) := by decide +kernel
theorem dX11_begin_78 : decode cX11_begin 78 = .ok (.iadd, 1) := by decide +kernel
theorem dX11_begin_79 : decode cX11_begin 79 = .ok (.putfield 210, 3) := by decide +kernel
theorem dX11_begin_82 : decode cX11_begin 82 = .ok (.aload_n 1, 1) := by decide +kernel
theorem dX11_begin_83 : decode cX11_begin 83 = .ok (.getfield 244, 3) := by decide +kernel
theorem dX11_begin_86 : decode cX11_begin 86 = .ok (.aload_n 1, 1) := by decide +kernel
theorem dX11_begin_87 : decode cX11_begin 87 = .ok (.getfield 239, 3) := by decide +kernel
theorem dX11_begin_90 : decode cX11_begin 90 = .ok (.isub, 1) := by decide +kernel
theorem dX11_begin_91 : decode cX11_begin 91 = .ok (.aload_n 2, 1) := by decide +kernel
theorem dX11_begin_92 : decode cX11_begin 92 = .ok (.getfield 160, 3) := by decide +kernel
theorem dX11_begin_95 : decode cX11_begin 95 = .ok (.aload_n 0, 1) := by decide +kernel
theorem dX11_begin_96 : decode cX11_begin 96 = .ok (.getfield 63, 3) := by decide +kernel
theorem dX11_begin_99 : decode cX11_begin 99 = .ok (.invokestatic 367, 3) := by decide +kernel
theorem dX11_begin_102 : decode cX11_begin 102 = .ok (.aload_n 2, 1) := by decide +kernel
theorem dX11_begin_103 : decode cX11_begin 103 = .ok (.getfield 160, 3) := by decide +kernel
theorem dX11_begin_106 : decode cX11_begin 106 = .ok (.aload_n 0, 1) := by decide +kernel
theorem dX11_begin_107 : decode cX11_begin 107 = .ok (.getfield 25, 3) := by decide +kernel
theorem dX11_begin_110 : decode cX11_begin 110 = .ok (.invokevirtual 79, 3) := by decide +kernel
theorem dX11_begin_113 : decode cX11_begin 113 = .ok (.aload_n 1, 1) := by decide +kernel
theorem dX11_begin_114 : decode cX11_begin 114 = .ok (.getfield 241, 3) := by decide +kernel
theorem dX11_begin_117 : decode cX11_begin 117 = .ok (.invokestatic 371, 3) := by decide +kernel
theorem dX11_begin_120 : decode cX11_begin 120 = .ok (.aload_n 0, 1) := by decide +kernel
theorem dX11_begin_121 : decode cX11_begin 121 = .ok (.getfield 63, 3) := by decide +kernel
theorem dX11_begin_124 : decode cX11_begin 124 = .ok (.aload_n 0, 1) := by decide +kernel
theorem dX11_begin_125 : decode cX11_begin 125 = .ok (.getfield 25, 3) := by decide +kernel
theorem dX11_begin_128 : decode cX11_begin 128 = .ok (.invokevirtual 79, 3) := by decide +kernel
theorem dX11_begin_131 : decode cX11_begin 131 = .ok (.aload_n 1, 1) := by decide +kernel
theorem dX11_begin_132 : decode cX11_begin 132 = .ok (.getfield 244, 3) := by decide +kernel
theorem dX11_begin_135 : decode cX11_begin 135 = .ok (.invokestatic 371, 3) := by decide +kernel
theorem dX11_begin_138 : decode cX11_begin 138 = .ok (.aload_n 2, 1) := by decide +kernel
theorem dX11_begin_139 : decode cX11_begin 139 = .ok (.getfield 160, 3) := by decide +kernel
theorem dX11_begin_142 : decode cX11_begin 142 = .ok (.invokevirtual 339, 3) := by decide +kernel
theorem dX11_begin_145 : decode cX11_begin 145 = .ok (.aload_n 0, 1) := by decide +kernel
theorem dX11_begin_146 : decode cX11_begin 146 = .ok (.getfield 25, 3) := by decide +kernel
theorem dX11_begin_149 : decode cX11_begin 149 = .ok (.aload_n 1, 1) := by decide +kernel
theorem dX11_begin_150 : decode cX11_begin 150 = .ok (.invokevirtual 71, 3) := by decide +kernel
theorem dX11_begin_153 : decode cX11_begin 153 = .ok (.pop, 1) := by decide +kernel
theorem dX11_begin_154 : decode cX11_begin 154 = .ok (.return_, 1) := by decide +kernel
theorem dX11_takeAlong_0 : decode cX11_takeAlong 0 = .ok (.iconst 0, 1) := by decide +kernel
theorem dX11_takeAlong_1 : decode cX11_takeAlong 1 = .ok (.istore_n 3, 1) := by decide +kernel
theorem dX11_takeAlong_2 : decode cX11_takeAlong 2 = .ok (.iload_n 3, 1) := by decide +kernel
theorem dX11_takeAlong_3 : decode cX11_takeAlong 3 = .ok (.aload_n 0, 1) := by decide +kernel
theorem dX11_takeAlong_4 : decode cX11_takeAlong 4 = .ok (.invokevirtual 79, 3) := by decide +kernel
theorem dX11_takeAlong_7 : decode cX11_takeAlong 7 = .ok (.if_icmp .ge 43, 3) := by decide +kernel
theorem dX11_takeAlong_10 : decode cX11_takeAlong 10 = .ok (.aload_n 0, 1) := by decide +kernel
theorem dX11_takeAlong_11 : decode cX11_takeAlong 11 = .ok (.iload_n 3, 1) := by decide +kernel
theorem dX11_takeAlong_12 : decode cX11_takeAlong 12 = .ok (.invokevirtual 132, 3) := by decide +kernel
theorem dX11_takeAlong_15 : decode cX11_takeAlong 15 = .ok (.checkcast 95, 3) := by decide +kernel
theorem dX11_takeAlong_18 : decode cX11_takeAlong 18 = .ok (.astore 4, 2) := by decide +kernel
theorem dX11_takeAlong_20 : decode cX11_takeAlong 20 = .ok (.aload 4, 2) := by decide +kernel
theorem dX11_takeAlong_22 : decode cX11_takeAlong 22 = .ok (.iconst 2, 1) := by decide +kernel
theorem dX11_takeAlong_23 : decode cX11_takeAlong 23 = .ok (.putfield 163, 3) := by decide +kernel
theorem dX11_takeAlong_26 : decode cX11_takeAlong 26 = .ok (.aload 4, 2) := by decide +kernel
theorem dX11_takeAlong_28 : decode cX11_takeAlong 28 = .ok (.iconst (-1), 1) := by decide +kernel
theorem dX11_takeAlong_29 : decode cX11_takeAlong 29 = .ok (.putfield 166, 3) := by decide +kernel
theorem dX11_takeAlong_32 : decode cX11_takeAlong 32 = .ok (.aload 4, 2) := by decide +kernel
theorem dX11_takeAlong_34 : decode cX11_takeAlong 34 = .ok (.iload_n 1, 1) := by decide +kernel
theorem dX11_takeAlong_35 : decode cX11_takeAlong 35 = .ok (.putfield 217, 3) := by decide +kernel
theorem dX11_takeAlong_38 : decode cX11_takeAlong 38 = .ok (.aload 4, 2) := by decide +kernel
theorem dX11_takeAlong_40 : decode cX11_takeAlong 40 = .ok (.iload_n 2, 1) := by decide +kernel
theorem dX11_takeAlong_41 : decode cX11_takeAlong 41 = .ok (.putfield 375, 3) := by decide +kernel
theorem dX11_takeAlong_44 : decode cX11_takeAlong 44 = .ok (.iinc 3 1, 3) := by decide +kernel
theorem dX11_takeAlong_47 : decode cX11_takeAlong 47 = .ok (.goto (-45), 3) := by decide +kernel
theorem dX11_takeAlong_50 : decode cX11_takeAlong 50 = .ok (.return_, 1) := by decide +kernel
theorem dX11_partMinutes_0 : decode cX11_partMinutes 0 = .ok (.aload_n 1, 1) := by decide +kernel
theorem dX11_partMinutes_1 : decode cX11_partMinutes 1 = .ok (.invokestatic 195, 3) := by decide +kernel
theorem dX11_partMinutes_4 : decode cX11_partMinutes 4 = .ok (.aload_n 2, 1) := by decide +kernel
theorem dX11_partMinutes_5 : decode cX11_partMinutes 5 = .ok (.invokestatic 195, 3) := by decide +kernel
theorem dX11_partMinutes_8 : decode cX11_partMinutes 8 = .ok (.iadd, 1) := by decide +kernel
theorem dX11_partMinutes_9 : decode cX11_partMinutes 9 = .ok (.istore_n 3, 1) := by decide +kernel
theorem dX11_partMinutes_10 : decode cX11_partMinutes 10 = .ok (.iload_n 3, 1) := by decide +kernel
theorem dX11_partMinutes_11 : decode cX11_partMinutes 11 = .ok (.ifCond .gt 4, 3) := by decide +kernel
theorem dX11_partMinutes_14 : decode cX11_partMinutes 14 = .ok (.return_, 1) := by decide +kernel
theorem dX11_partMinutes_15 : decode cX11_partMinutes 15 = .ok (.aload_n 1, 1) := by decide +kernel
theorem dX11_partMinutes_16 : decode cX11_partMinutes 16 = .ok (.iload_n 0, 1) := by decide +kernel
theorem dX11_partMinutes_17 : decode cX11_partMinutes 17 = .ok (.iload_n 3, 1) := by decide +kernel
theorem dX11_partMinutes_18 : decode cX11_partMinutes 18 = .ok (.invokestatic 378, 3) := by decide +kernel
theorem dX11_partMinutes_21 : decode cX11_partMinutes 21 = .ok (.aload_n 2, 1) := by decide +kernel
theorem dX11_partMinutes_22 : decode cX11_partMinutes 22 = .ok (.iload_n 0, 1) := by decide +kernel
theorem dX11_partMinutes_23 : decode cX11_partMinutes 23 = .ok (.iload_n 3, 1) := by decide +kernel
theorem dX11_partMinutes_24 : decode cX11_partMinutes 24 = .ok (.invokestatic 378, 3) := by decide +kernel
theorem dX11_partMinutes_27 : decode cX11_partMinutes 27 = .ok (.iadd, 1) := by decide +kernel
theorem dX11_partMinutes_28 : decode cX11_partMinutes 28 = .ok (.istore 4, 2) := by decide +kernel
theorem dX11_partMinutes_30 : decode cX11_partMinutes 30 = .ok (.aload_n 1, 1) := by decide +kernel
theorem dX11_partMinutes_31 : decode cX11_partMinutes 31 = .ok (.invokestatic 382, 3) := by decide +kernel
theorem dX11_partMinutes_34 : decode cX11_partMinutes 34 = .ok (.aload_n 2, 1) := by decide +kernel
theorem dX11_partMinutes_35 : decode cX11_partMinutes 35 = .ok (.invokestatic 382, 3) := by decide +kernel
theorem dX11_partMinutes_38 : decode cX11_partMinutes 38 = .ok (.invokestatic 386, 3) := by decide +kernel
theorem dX11_partMinutes_41 : decode cX11_partMinutes 41 = .ok (.astore 5, 2) := by decide +kernel
theorem dX11_partMinutes_43 : decode cX11_partMinutes 43 = .ok (.aload 5, 2) := by decide +kernel
theorem dX11_partMinutes_45 : decode cX11_partMinutes 45 = .ok (.ifnull 17, 3) := by decide +kernel
theorem dX11_partMinutes_48 : decode cX11_partMinutes 48 = .ok (.aload 5, 2) := by decide +kernel
theorem dX11_partMinutes_50 : decode cX11_partMinutes 50 = .ok (.dup, 1) := by decide +kernel
theorem dX11_partMinutes_51 : decode cX11_partMinutes 51 = .ok (.getfield 227, 3) := by decide +kernel
theorem dX11_partMinutes_54 : decode cX11_partMinutes 54 = .ok (.iload_n 0, 1) := by decide +kernel
theorem dX11_partMinutes_55 : decode cX11_partMinutes 55 = .ok (.iload 4, 2) := by decide +kernel
theorem dX11_partMinutes_57 : decode cX11_partMinutes 57 = .ok (.isub, 1) := by decide +kernel
theorem dX11_partMinutes_58 : decode cX11_partMinutes 58 = .ok (.iadd, 1) := by decide +kernel
theorem dX11_partMinutes_59 : decode cX11_partMinutes 59 = .ok (.putfield 227, 3) := by decide +kernel
theorem dX11_partMinutes_62 : decode cX11_partMinutes 62 = .ok (.return_, 1) := by decide +kernel
theorem dX11_giveShares_0 : decode cX11_giveShares 0 = .ok (.iconst 0, 1) := by decide +kernel
theorem dX11_giveShares_1 : decode cX11_giveShares 1 = .ok (.istore_n 3, 1) := by decide +kernel
theorem dX11_giveShares_2 : decode cX11_giveShares 2 = .ok (.iconst 0, 1) := by decide +kernel
theorem dX11_giveShares_3 : decode cX11_giveShares 3 = .ok (.istore 4, 2) := by decide +kernel
theorem dX11_giveShares_5 : decode cX11_giveShares 5 = .ok (.iload 4, 2) := by decide +kernel
theorem dX11_giveShares_7 : decode cX11_giveShares 7 = .ok (.aload_n 0, 1) := by decide +kernel
theorem dX11_giveShares_8 : decode cX11_giveShares 8 = .ok (.invokevirtual 79, 3) := by decide +kernel
theorem dX11_giveShares_11 : decode cX11_giveShares 11 = .ok (.if_icmp .ge 42, 3) := by decide +kernel
theorem dX11_giveShares_14 : decode cX11_giveShares 14 = .ok (.aload_n 0, 1) := by decide +kernel
theorem dX11_giveShares_15 : decode cX11_giveShares 15 = .ok (.iload 4, 2) := by decide +kernel
theorem dX11_giveShares_17 : decode cX11_giveShares 17 = .ok (.invokevirtual 132, 3) := by decide +kernel
theorem dX11_giveShares_20 : decode cX11_giveShares 20 = .ok (.checkcast 95, 3) := by decide +kernel
theorem dX11_giveShares_23 : decode cX11_giveShares 23 = .ok (.astore 5, 2) := by decide +kernel
theorem dX11_giveShares_25 : decode cX11_giveShares 25 = .ok (.aload 5, 2) := by decide +kernel
theorem dX11_giveShares_27 : decode cX11_giveShares 27 = .ok (.iload_n 1, 1) := by decide +kernel
theorem dX11_giveShares_28 : decode cX11_giveShares 28 = .ok (.aload 5, 2) := by decide +kernel
theorem dX11_giveShares_30 : decode cX11_giveShares 30 = .ok (.getfield 313, 3) := by decide +kernel
theorem dX11_giveShares_33 : decode cX11_giveShares 33 = .ok (.imul, 1) := by decide +kernel
theorem dX11_giveShares_34 : decode cX11_giveShares 34 = .ok (.iload_n 2, 1) := by decide +kernel
theorem dX11_giveShares_35 : decode cX11_giveShares 35 = .ok (.idiv, 1) := by decide +kernel
theorem dX11_giveShares_36 : decode cX11_giveShares 36 = .ok (.putfield 227, 3) := by decide +kernel
theorem dX11_giveShares_39 : decode cX11_giveShares 39 = .ok (.iload_n 3, 1) := by decide +kernel
theorem dX11_giveShares_40 : decode cX11_giveShares 40 = .ok (.aload 5, 2) := by decide +kernel
theorem dX11_giveShares_42 : decode cX11_giveShares 42 = .ok (.getfield 227, 3) := by decide +kernel
theorem dX11_giveShares_45 : decode cX11_giveShares 45 = .ok (.iadd, 1) := by decide +kernel
theorem dX11_giveShares_46 : decode cX11_giveShares 46 = .ok (.istore_n 3, 1) := by decide +kernel
theorem dX11_giveShares_47 : decode cX11_giveShares 47 = .ok (.iinc 4 1, 3) := by decide +kernel
theorem dX11_giveShares_50 : decode cX11_giveShares 50 = .ok (.goto (-45), 3) := by decide +kernel
theorem dX11_giveShares_53 : decode cX11_giveShares 53 = .ok (.iload_n 3, 1) := by decide +kernel
theorem dX11_giveShares_54 : decode cX11_giveShares 54 = .ok (.ireturn, 1) := by decide +kernel
theorem dX11_leastOf_0 : decode cX11_leastOf 0 = .ok (.aconst_null, 1) := by decide +kernel
theorem dX11_leastOf_1 : decode cX11_leastOf 1 = .ok (.astore_n 1, 1) := by decide +kernel
theorem dX11_leastOf_2 : decode cX11_leastOf 2 = .ok (.iconst 0, 1) := by decide +kernel
theorem dX11_leastOf_3 : decode cX11_leastOf 3 = .ok (.istore_n 2, 1) := by decide +kernel
theorem dX11_leastOf_4 : decode cX11_leastOf 4 = .ok (.iload_n 2, 1) := by decide +kernel
theorem dX11_leastOf_5 : decode cX11_leastOf 5 = .ok (.aload_n 0, 1) := by decide +kernel
theorem dX11_leastOf_6 : decode cX11_leastOf 6 = .ok (.invokevirtual 79, 3) := by decide +kernel
theorem dX11_leastOf_9 : decode cX11_leastOf 9 = .ok (.if_icmp .ge 22, 3) := by decide +kernel
theorem dX11_leastOf_12 : decode cX11_leastOf 12 = .ok (.aload_n 1, 1) := by decide +kernel
theorem dX11_leastOf_13 : decode cX11_leastOf 13 = .ok (.aload_n 0, 1) := by decide +kernel
theorem dX11_leastOf_14 : decode cX11_leastOf 14 = .ok (.iload_n 2, 1) := by decide +kernel
theorem dX11_leastOf_15 : decode cX11_leastOf 15 = .ok (.invokevirtual 132, 3) := by decide +kernel
theorem dX11_leastOf_18 : decode cX11_leastOf 18 = .ok (.checkcast 95, 3) := by decide +kernel
theorem dX11_leastOf_21 : decode cX11_leastOf 21 = .ok (.invokestatic 386, 3) := by decide +kernel
theorem dX11_leastOf_24 : decode cX11_leastOf 24 = .ok (.astore_n 1, 1) := by decide +kernel
theorem dX11_leastOf_25 : decode cX11_leastOf 25 = .ok (.iinc 2 1, 3) := by decide +kernel
theorem dX11_leastOf_28 : decode cX11_leastOf 28 = .ok (.goto (-24), 3) := by decide +kernel
theorem dX11_leastOf_31 : decode cX11_leastOf 31 = .ok (.aload_n 1, 1) := by decide +kernel
theorem dX11_leastOf_32 : decode cX11_leastOf 32 = .ok (.areturn, 1) := by decide +kernel
theorem dX11_lesserOf_0 : decode cX11_lesserOf 0 = .ok (.aload_n 0, 1) := by decide +kernel
theorem dX11_lesserOf_1 : decode cX11_lesserOf 1 = .ok (.ifnonnull 5, 3) := by decide +kernel
theorem dX11_lesserOf_4 : decode cX11_lesserOf 4 = .ok (.aload_n 1, 1) := by decide +kernel
theorem dX11_lesserOf_5 : decode cX11_lesserOf 5 = .ok (.areturn, 1) := by decide +kernel
theorem dX11_lesserOf_6 : decode cX11_lesserOf 6 = .ok (.aload_n 1, 1) := by decide +kernel
theorem dX11_lesserOf_7 : decode cX11_lesserOf 7 = .ok (.ifnull 14, 3) := by decide +kernel
theorem dX11_lesserOf_10 : decode cX11_lesserOf 10 = .ok (.aload_n 0, 1) := by decide +kernel
theorem dX11_lesserOf_11 : decode cX11_lesserOf 11 = .ok (.getfield 390, 3) := by decide +kernel
theorem dX11_lesserOf_14 : decode cX11_lesserOf 14 = .ok (.aload_n 1, 1) := by decide +kernel
theorem dX11_lesserOf_15 : decode cX11_lesserOf 15 = .ok (.getfield 390, 3) := by decide +kernel
theorem dX11_lesserOf_18 : decode cX11_lesserOf 18 = .ok (.if_icmp .ge 7, 3) := by decide +kernel
theorem dX11_lesserOf_21 : decode cX11_lesserOf 21 = .ok (.aload_n 0, 1) := by decide +kernel
theorem dX11_lesserOf_22 : decode cX11_lesserOf 22 = .ok (.goto 4, 3) := by decide +kernel
theorem dX11_lesserOf_25 : decode cX11_lesserOf 25 = .ok (.aload_n 1, 1) := by decide +kernel
theorem dX11_lesserOf_26 : decode cX11_lesserOf 26 = .ok (.areturn, 1) := by decide +kernel
theorem dX12_init_0 : decode cX12_init 0 = .ok (.aload_n 0, 1) := by decide +kernel
theorem dX12_init_1 : decode cX12_init 1 = .ok (.invokespecial 1, 3) := by decide +kernel
theorem dX12_init_4 : decode cX12_init 4 = .ok (.aload_n 0, 1) := by decide +kernel
theorem dX12_init_5 : decode cX12_init 5 = .ok (.bipush 12, 2) := by decide +kernel
theorem dX12_init_7 : decode cX12_init 7 = .ok (.newarray .int, 2) := by decide +kernel
theorem dX12_init_9 : decode cX12_init 9 = .ok (.putfield 9, 3) := by decide +kernel
theorem dX12_init_12 : decode cX12_init 12 = .ok (.aload_n 0, 1) := by decide +kernel
theorem dX12_init_13 : decode cX12_init 13 = .ok (.bipush 12, 2) := by decide +kernel
theorem dX12_init_15 : decode cX12_init 15 = .ok (.newarray .int, 2) := by decide +kernel
theorem dX12_init_17 : decode cX12_init 17 = .ok (.putfield 13, 3) := by decide +kernel
theorem dX12_init_20 : decode cX12_init 20 = .ok (.aload_n 0, 1) := by decide +kernel
theorem dX12_init_21 : decode cX12_init 21 = .ok (.iconst 1, 1) := by decide +kernel
theorem dX12_init_22 : decode cX12_init 22 = .ok (.putfield 16, 3) := by decide +kernel
theorem dX12_init_25 : decode cX12_init 25 = .ok (.aload_n 0, 1) := by decide +kernel
theorem dX12_init_26 : decode cX12_init 26 = .ok (.bipush 12, 2) := by decide +kernel
theorem dX12_init_28 : decode cX12_init 28 = .ok (.newarray .int, 2) := by decide +kernel
theorem dX12_init_30 : decode cX12_init 30 = .ok (.putfield 20, 3) := by decide +kernel
theorem dX12_init_33 : decode cX12_init 33 = .ok (.aload_n 0, 1) := by decide +kernel
theorem dX12_init_34 : decode cX12_init 34 = .ok (.bipush 12, 2) := by decide +kernel
theorem dX12_init_36 : decode cX12_init 36 = .ok (.newarray .int, 2) := by decide +kernel
theorem dX12_init_38 : decode cX12_init 38 = .ok (.putfield 23, 3) := by decide +kernel
theorem dX12_init_41 : decode cX12_init 41 = .ok (.aload_n 0, 1) := by decide +kernel
theorem dX12_init_42 : decode cX12_init 42 = .ok (.bipush 12, 2) := by decide +kernel
theorem dX12_init_44 : decode cX12_init 44 = .ok (.newarray .int, 2) := by decide +kernel
theorem dX12_init_46 : decode cX12_init 46 = .ok (.putfield 26, 3) := by decide +kernel
theorem dX12_init_49 : decode cX12_init 49 = .ok (.aload_n 0, 1) := by decide +kernel
theorem dX12_init_50 : decode cX12_init 50 = .ok (.iconst 4, 1) := by decide +kernel
theorem dX12_init_51 : decode cX12_init 51 = .ok (.newarray .int, 2) := by decide +kernel
theorem dX12_init_53 : decode cX12_init 53 = .ok (.putfield 29, 3) := by decide +kernel
theorem dX12_init_56 : decode cX12_init 56 = .ok (.aload_n 0, 1) := by decide +kernel
theorem dX12_init_57 : decode cX12_init 57 = .ok (.iconst 4, 1) := by decide +kernel
theorem dX12_init_58 : decode cX12_init 58 = .ok (.newarray .int, 2) := by decide +kernel
theorem dX12_init_60 : decode cX12_init 60 = .ok (.putfield 32, 3) := by decide +kernel
theorem dX12_init_63 : decode cX12_init 63 = .ok (.aload_n 0, 1) := by decide +kernel
theorem dX12_init_64 : decode cX12_init 64 = .ok (.iconst 4, 1) := by decide +kernel
theorem dX12_init_65 : decode cX12_init 65 = .ok (.newarray .int, 2) := by decide +kernel
theorem dX12_init_67 : decode cX12_init 67 = .ok (.putfield 35, 3) := by decide +kernel
theorem dX12_init_70 : decode cX12_init 70 = .ok (.aload_n 0, 1) := by decide +kernel
theorem dX12_init_71 : decode cX12_init 71 = .ok (.iconst 4, 1) := by decide +kernel
theorem dX12_init_72 : decode cX12_init 72 = .ok (.newarray .int, 2) := by decide +kernel
theorem dX12_init_74 : decode cX12_init 74 = .ok (.putfield 38, 3) := by decide +kernel
theorem dX12_init_77 : decode cX12_init 77 = .ok (.aload_n 0, 1) := by decide +kernel
theorem dX12_init_78 : decode cX12_init 78 = .ok (.bipush 6, 2) := by decide +kernel
theorem dX12_init_80 : decode cX12_init 80 = .ok (.newarray .int, 2) := by decide +kernel
theorem dX12_init_82 : decode cX12_init 82 = .ok (.putfield 41, 3) := by decide +kernel
theorem dX12_init_85 : decode cX12_init 85 = .ok (.aload_n 0, 1) := by decide +kernel
theorem dX12_init_86 : decode cX12_init 86 = .ok (.bipush 6, 2) := by decide +kernel
theorem dX12_init_88 : decode cX12_init 88 = .ok (.newarray .int, 2) := by decide +kernel
theorem dX12_init_90 : decode cX12_init 90 = .ok (.putfield 44, 3) := by decide +kernel
theorem dX12_init_93 : decode cX12_init 93 = .ok (.aload_n 0, 1) := by decide +kernel
theorem dX12_init_94 : decode cX12_init 94 = .ok (.bipush 6, 2) := by decide +kernel
theorem dX12_init_96 : decode cX12_init 96 = .ok (.newarray .int, 2) := by decide +kernel
theorem dX12_init_98 : decode cX12_init 98 = .ok (.putfield 47, 3) := by decide +kernel
theorem dX12_init_101 : decode cX12_init 101 = .ok (.aload_n 0, 1) := by decide +kernel
theorem dX12_init_102 : decode cX12_init 102 = .ok (.bipush 6, 2) := by decide +kernel
theorem dX12_init_104 : decode cX12_init 104 = .ok (.newarray .int, 2) := by decide +kernel
theorem dX12_init_106 : decode cX12_init 106 = .ok (.putfield 50, 3) := by decide +kernel
theorem dX12_init_109 : decode cX12_init 109 = .ok (.aload_n 0, 1) := by decide +kernel
theorem dX12_init_110 : decode cX12_init 110 = .ok (.bipush 80, 2) := by decide +kernel
theorem dX12_init_112 : decode cX12_init 112 = .ok (.newarray .int, 2) := by decide +kernel
theorem dX12_init_114 : decode cX12_init 114 = .ok (.putfield 53, 3) := by decide +kernel
theorem dX12_init_117 : decode cX12_init 117 = .ok (.aload_n 0, 1) := by decide +kernel
theorem dX12_init_118 : decode cX12_init 118 = .ok (.bipush 80, 2) := by decide +kernel
theorem dX12_init_120 : decode cX12_init 120 = .ok (.newarray .int, 2) := by decide +kernel
theorem dX12_init_122 : decode cX12_init 122 = .ok (.putfield 56, 3) := by decide +kernel
theorem dX12_init_125 : decode cX12_init 125 = .ok (.aload_n 0, 1) := by decide +kernel
theorem dX12_init_126 : decode cX12_init 126 = .ok (.bipush 80, 2) := by decide +kernel
theorem dX12_init_128 : decode cX12_init 128 = .ok (.newarray .int, 2) := by decide +kernel
theorem dX12_init_130 : decode cX12_init 130 = .ok (.putfield 59, 3) := by decide +kernel
theorem dX12_init_133 : decode cX12_init 133 = .ok (.aload_n 0, 1) := by decide +kernel
theorem dX12_init_134 : decode cX12_init 134 = .ok (.bipush 80, 2) := by decide +kernel
theorem dX12_init_136 : decode cX12_init 136 = .ok (.newarray .int, 2) := by decide +kernel
theorem dX12_init_138 : decode cX12_init 138 = .ok (.putfield 62, 3) := by decide +kernel
theorem dX12_init_141 : decode cX12_init 141 = .ok (.aload_n 0, 1) := by decide +kernel
theorem dX12_init_142 : decode cX12_init 142 = .ok (.bipush 80, 2) := by decide +kernel
theorem dX12_init_144 : decode cX12_init 144 = .ok (.newarray .int, 2) := by decide +kernel
theorem dX12_init_146 : decode cX12_init 146 = .ok (.putfield 65, 3) := by decide +kernel
theorem dX12_init_149 : decode cX12_init 149 = .ok (.aload_n 0, 1) := by decide +kernel
theorem dX12_init_150 : decode cX12_init 150 = .ok (.bipush 80, 2) := by decide +kernel
theorem dX12_init_152 : decode cX12_init 152 = .ok (.newarray .int, 2) := by decide +kernel
theorem dX12_init_154 : decode cX12_init 154 = .ok (.putfield 68, 3) := by decide +kernel
theorem dX12_init_157 : decode cX12_init 157 = .ok (.aload_n 0, 1) := by decide +kernel
theorem dX12_init_158 : decode cX12_init 158 = .ok (.bipush 80, 2) := by decide +kernel
theorem dX12_init_160 : decode cX12_init 160 = .ok (.newarray .int, 2) := by decide +kernel
theorem dX12_init_162 : decode cX12_init 162 = .ok (.putfield 71, 3) := by decide +kernel
theorem dX12_init_165 : decode cX12_init 165 = .ok (.aload_n 0, 1) := by decide +kernel
theorem dX12_init_166 : decode cX12_init 166 = .ok (.bipush 80, 2) := by decide +kernel
theorem dX12_init_168 : decode cX12_init 168 = .ok (.newarray .int, 2) := by decide +kernel
theorem dX12_init_170 : decode cX12_init 170 = .ok (.putfield 74, 3) := by decide +kernel
theorem dX12_init_173 : decode cX12_init 173 = .ok (.aload_n 0, 1) := by decide +kernel
theorem dX12_init_174 : decode cX12_init 174 = .ok (.bipush 80, 2) := by decide +kernel
theorem dX12_init_176 : decode cX12_init 176 = .ok (.newarray .int, 2) := by decide +kernel
theorem dX12_init_178 : decode cX12_init 178 = .ok (.putfield 77, 3) := by decide +kernel
theorem dX12_init_181 : decode cX12_init 181 = .ok (.aload_n 0, 1) := by decide +kernel
theorem dX12_init_182 : decode cX12_init 182 = .ok (.bipush 80, 2) := by decide +kernel
theorem dX12_init_184 : decode cX12_init 184 = .ok (.newarray .int, 2) := by decide +kernel
theorem dX12_init_186 : decode cX12_init 186 = .ok (.putfield 80, 3) := by decide +kernel
theorem dX12_init_189 : decode cX12_init 189 = .ok (.aload_n 0, 1) := by decide +kernel
theorem dX12_init_190 : decode cX12_init 190 = .ok (.bipush 80, 2) := by decide +kernel
theorem dX12_init_192 : decode cX12_init 192 = .ok (.newarray .int, 2) := by decide +kernel
theorem dX12_init_194 : decode cX12_init 194 = .ok (.putfield 83, 3) := by decide +kernel
theorem dX12_init_197 : decode cX12_init 197 = .ok (.aload_n 0, 1) := by decide +kernel
theorem dX12_init_198 : decode cX12_init 198 = .ok (.bipush 60, 2) := by decide +kernel
theorem dX12_init_200 : decode cX12_init 200 = .ok (.newarray .int, 2) := by decide +kernel
theorem dX12_init_202 : decode cX12_init 202 = .ok (.putfield 86, 3) := by decide +kernel
theorem dX12_init_205 : decode cX12_init 205 = .ok (.aload_n 0, 1) := by decide +kernel
theorem dX12_init_206 : decode cX12_init 206 = .ok (.sipush 600, 3) := by decide +kernel
theorem dX12_init_209 : decode cX12_init 209 = .ok (.newarray .int, 2) := by decide +kernel
theorem dX12_init_211 : decode cX12_init 211 = .ok (.putfield 89, 3) := by decide +kernel
theorem dX12_init_214 : decode cX12_init 214 = .ok (.aload_n 0, 1) := by decide +kernel
theorem dX12_init_215 : decode cX12_init 215 = .ok (.bipush 10, 2) := by decide +kernel
theorem dX12_init_217 : decode cX12_init 217 = .ok (.newarray .int, 2) := by decide +kernel
theorem dX12_init_219 : decode cX12_init 219 = .ok (.putfield 92, 3) := by decide +kernel
theorem dX12_init_222 : decode cX12_init 222 = .ok (.aload_n 0, 1) := by decide +kernel
theorem dX12_init_223 : decode cX12_init 223 = .ok (.bipush 20, 2) := by decide +kernel
theorem dX12_init_225 : decode cX12_init 225 = .ok (.newarray .int, 2) := by decide +kernel
theorem dX12_init_227 : decode cX12_init 227 = .ok (.putfield 95, 3) := by decide +kernel
theorem dX12_init_230 : decode cX12_init 230 = .ok (.aload_n 0, 1) := by decide +kernel
theorem dX12_init_231 : decode cX12_init 231 = .ok (.sipush 200, 3) := by decide +kernel
theorem dX12_init_234 : decode cX12_init 234 = .ok (.newarray .int, 2) := by decide +kernel
theorem dX12_init_236 : decode cX12_init 236 = .ok (.putfield 98, 3) := by decide +kernel
theorem dX12_init_239 : decode cX12_init 239 = .ok (.aload_n 0, 1) := by decide +kernel
theorem dX12_init_240 : decode cX12_init 240 = .ok (.sipush 200, 3) := by decide +kernel
theorem dX12_init_243 : decode cX12_init 243 = .ok (.newarray .int, 2) := by decide +kernel
theorem dX12_init_245 : decode cX12_init 245 = .ok (.putfield 101, 3) := by decide +kernel
theorem dX12_init_248 : decode cX12_init 248 = .ok (.aload_n 0, 1) := by decide +kernel
theorem dX12_init_249 : decode cX12_init 249 = .ok (.sipush 200, 3) := by decide +kernel
theorem dX12_init_252 : decode cX12_init 252 = .ok (.newarray .int, 2) := by decide +kernel
theorem dX12_init_254 : decode cX12_init 254 = .ok (.putfield 104, 3) := by decide +kernel
theorem dX12_init_257 : decode cX12_init 257 = .ok (.aload_n 0, 1) := by decide +kernel
theorem dX12_init_258 : decode cX12_init 258 = .ok (.sipush 200, 3) := by decide +kernel
theorem dX12_init_261 : decode cX12_init 261 = .ok (.newarray .int, 2) := by decide +kernel
theorem dX12_init_263 : decode cX12_init 263 = .ok (.putfield 107, 3) := by decide +kernel
theorem dX12_init_266 : decode cX12_init 266 = .ok (.aload_n 0, 1) := by decide +kernel
theorem dX12_init_267 : decode cX12_init 267 = .ok (.sipush 200, 3) := by decide +kernel
theorem dX12_init_270 : decode cX12_init 270 = .ok (.newarray .int, 2) := by decide +kernel
theorem dX12_init_272 : decode cX12_init 272 = .ok (.putfield 110, 3) := by decide +kernel
theorem dX12_init_275 : decode cX12_init 275 = .ok (.aload_n 0, 1) := by decide +kernel
theorem dX12_init_276 : decode cX12_init 276 = .ok (.sipush 200, 3) := by decide +kernel
theorem dX12_init_279 : decode cX12_init 279 = .ok (.newarray .int, 2) := by decide +kernel
theorem dX12_init_281 : decode cX12_init 281 = .ok (.putfield 113, 3) := by decide +kernel
theorem dX12_init_284 : decode cX12_init 284 = .ok (.aload_n 0, 1) := by decide +kernel
theorem dX12_init_285 : decode cX12_init 285 = .ok (.sipush 200, 3) := by decide +kernel
theorem dX12_init_288 : decode cX12_init 288 = .ok (.newarray .int, 2) := by decide +kernel
theorem dX12_init_290 : decode cX12_init 290 = .ok (.putfield 116, 3) := by decide +kernel
theorem dX12_init_293 : decode cX12_init 293 = .ok (.aload_n 0, 1) := by decide +kernel
theorem dX12_init_294 : decode cX12_init 294 = .ok (.sipush 200, 3) := by decide +kernel
theorem dX12_init_297 : decode cX12_init 297 = .ok (.newarray .int, 2) := by decide +kernel
theorem dX12_init_299 : decode cX12_init 299 = .ok (.putfield 119, 3) := by decide +kernel
theorem dX12_init_302 : decode cX12_init 302 = .ok (.aload_n 0, 1) := by decide +kernel
theorem dX12_init_303 : decode cX12_init 303 = .ok (.sipush 200, 3) := by decide +kernel
theorem dX12_init_306 : decode cX12_init 306 = .ok (.newarray .int, 2) := by decide +kernel
theorem dX12_init_308 : decode cX12_init 308 = .ok (.putfield 122, 3) := by decide +kernel
theorem dX12_init_311 : decode cX12_init 311 = .ok (.aload_n 0, 1) := by decide +kernel
theorem dX12_init_312 : decode cX12_init 312 = .ok (.bipush 80, 2) := by decide +kernel
theorem dX12_init_314 : decode cX12_init 314 = .ok (.newarray .boolean, 2) := by decide +kernel
theorem dX12_init_316 : decode cX12_init 316 = .ok (.putfield 125, 3) := by decide +kernel
theorem dX12_init_319 : decode cX12_init 319 = .ok (.aload_n 0, 1) := by decide +kernel
theorem dX12_init_320 : decode cX12_init 320 = .ok (.iconst 5, 1) := by decide +kernel
theorem dX12_init_321 : decode cX12_init 321 = .ok (.newarray .int, 2) := by decide +kernel
theorem dX12_init_323 : decode cX12_init 323 = .ok (.putfield 129, 3) := by decide +kernel
theorem dX12_init_326 : decode cX12_init 326 = .ok (.aload_n 0, 1) := by decide +kernel
theorem dX12_init_327 : decode cX12_init 327 = .ok (.iconst 5, 1) := by decide +kernel
theorem dX12_init_328 : decode cX12_init 328 = .ok (.newarray .int, 2) := by decide +kernel
theorem dX12_init_330 : decode cX12_init 330 = .ok (.putfield 132, 3) := by decide +kernel
theorem dX12_init_333 : decode cX12_init 333 = .ok (.aload_n 0, 1) := by decide +kernel
theorem dX12_init_334 : decode cX12_init 334 = .ok (.iconst 5, 1) := by decide +kernel
theorem dX12_init_335 : decode cX12_init 335 = .ok (.newarray .int, 2) := by decide +kernel
theorem dX12_init_337 : decode cX12_init 337 = .ok (.putfield 135, 3) := by decide +kernel
theorem dX12_init_340 : decode cX12_init 340 = .ok (.aload_n 0, 1) := by decide +kernel
theorem dX12_init_341 : decode cX12_init 341 = .ok (.iconst 5, 1) := by decide +kernel
theorem dX12_init_342 : decode cX12_init 342 = .ok (.newarray .boolean, 2) := by decide +kernel
theorem dX12_init_344 : decode cX12_init 344 = .ok (.putfield 138, 3) := by decide +kernel
theorem dX12_init_347 : decode cX12_init 347 = .ok (.aload_n 0, 1) := by decide +kernel
theorem dX12_init_348 : decode cX12_init 348 = .ok (.iconst (-1), 1) := by decide +kernel
theorem dX12_init_349 : decode cX12_init 349 = .ok (.putfield 141, 3) := by decide +kernel
theorem dX12_init_352 : decode cX12_init 352 = .ok (.aload_n 0, 1) := by decide +kernel
theorem dX12_init_353 : decode cX12_init 353 = .ok (.bipush 9, 2) := by decide +kernel
theorem dX12_init_355 : decode cX12_init 355 = .ok (.newarray .int, 2) := by decide +kernel
theorem dX12_init_357 : decode cX12_init 357 = .ok (.putfield 144, 3) := by decide +kernel
theorem dX12_init_360 : decode cX12_init 360 = .ok (.aload_n 0, 1) := by decide +kernel
theorem dX12_init_361 : decode cX12_init 361 = .ok (.bipush 9, 2) := by decide +kernel
theorem dX12_init_363 : decode cX12_init 363 = .ok (.newarray .int, 2) := by decide +kernel
theorem dX12_init_365 : decode cX12_init 365 = .ok (.putfield 147, 3) := by decide +kernel
theorem dX12_init_368 : decode cX12_init 368 = .ok (.aload_n 0, 1) := by decide +kernel
theorem dX12_init_369 : decode cX12_init 369 = .ok (.iconst 5, 1) := by decide +kernel
theorem dX12_init_370 : decode cX12_init 370 = .ok (.newarray .int, 2) := by decide +kernel
theorem dX12_init_372 : decode cX12_init 372 = .ok (.putfield 150, 3) := by decide +kernel
theorem dX12_init_375 : decode cX12_init 375 = .ok (.iconst 0, 1) := by decide +kernel
theorem dX12_init_376 : decode cX12_init 376 = .ok (.istore_n 1, 1) := by decide +kernel
theorem dX12_init_377 : decode cX12_init 377 = .ok (.iload_n 1, 1) := by decide +kernel
theorem dX12_init_378 : decode cX12_init 378 = .ok (.bipush 12, 2) := by decide +kernel
theorem dX12_init_380 : decode cX12_init 380 = .ok (.if_icmp .ge 17, 3) := by decide +kernel
theorem dX12_init_383 : decode cX12_init 383 = .ok (.aload_n 0, 1) := by decide +kernel
theorem dX12_init_384 : decode cX12_init 384 = .ok (.getfield 26, 3) := by decide +kernel
theorem dX12_init_387 : decode cX12_init 387 = .ok (.iload_n 1, 1) := by decide +kernel
theorem dX12_init_388 : decode cX12_init 388 = .ok (.bipush 9, 2) := by decide +kernel
theorem dX12_init_390 : decode cX12_init 390 = .ok (.iastore, 1) := by decide +kernel
theorem dX12_init_391 : decode cX12_init 391 = .ok (.iinc 1 1, 3) := by decide +kernel
theorem dX12_init_394 : decode cX12_init 394 = .ok (.goto (-17), 3) := by decide +kernel
theorem dX12_init_397 : decode cX12_init 397 = .ok (.return_, 1) := by decide +kernel
theorem dX12_within_0 : decode cX12_within 0 = .ok (.iload_n 0, 1) := by decide +kernel
theorem dX12_within_1 : decode cX12_within 1 = .ok (.iload_n 1, 1) := by decide +kernel
theorem dX12_within_2 : decode cX12_within 2 = .ok (.if_icmp .lt 12, 3) := by decide +kernel
theorem dX12_within_5 : decode cX12_within 5 = .ok (.iload_n 0, 1) := by decide +kernel
theorem dX12_within_6 : decode cX12_within 6 = .ok (.iload_n 2, 1) := by decide +kernel
theorem dX12_within_7 : decode cX12_within 7 = .ok (.if_icmp .gt 7, 3) := by decide +kernel
theorem dX12_within_10 : decode cX12_within 10 = .ok (.iconst 1, 1) := by decide +kernel
theorem dX12_within_11 : decode cX12_within 11 = .ok (.goto 4, 3) := by decide +kernel
theorem dX12_within_14 : decode cX12_within 14 = .ok (.iconst 0, 1) := by decide +kernel
theorem dX12_within_15 : decode cX12_within 15 = .ok (.ireturn, 1) := by decide +kernel
theorem dX12_hourOf_0 : decode cX12_hourOf 0 = .ok (.iload_n 0, 1) := by decide +kernel
theorem dX12_hourOf_1 : decode cX12_hourOf 1 = .ok (.sipush 720, 3) := by decide +kernel
theorem dX12_hourOf_4 : decode cX12_hourOf 4 = .ok (.if_icmp .lt 8, 3) := by decide +kernel
theorem dX12_hourOf_7 : decode cX12_hourOf 7 = .ok (.bipush 11, 2) := by decide +kernel
theorem dX12_hourOf_9 : decode cX12_hourOf 9 = .ok (.goto 7, 3) := by decide +kernel
theorem dX12_hourOf_12 : decode cX12_hourOf 12 = .ok (.iload_n 0, 1) := by decide +kernel
theorem dX12_hourOf_13 : decode cX12_hourOf 13 = .ok (.bipush 60, 2) := by decide +kernel
theorem dX12_hourOf_15 : decode cX12_hourOf 15 = .ok (.idiv, 1) := by decide +kernel
theorem dX12_hourOf_16 : decode cX12_hourOf 16 = .ok (.ireturn, 1) := by decide +kernel
theorem dX12_place_0 : decode cX12_place 0 = .ok (.iload_n 1, 1) := by decide +kernel
theorem dX12_place_1 : decode cX12_place 1 = .ok (.iconst 0, 1) := by decide +kernel
theorem dX12_place_2 : decode cX12_place 2 = .ok (.bipush 9, 2) := by decide +kernel
theorem dX12_place_4 : decode cX12_place 4 = .ok (.invokestatic 153, 3) := by decide +kernel
theorem dX12_place_7 : decode cX12_place 7 = .ok (.ifCond .eq 13, 3) := by decide +kernel
theorem dX12_place_10 : decode cX12_place 10 = .ok (.iload_n 2, 1) := by decide +kernel
theorem dX12_place_11 : decode cX12_place 11 = .ok (.iconst 1, 1) := by decide +kernel
theorem dX12_place_12 : decode cX12_place 12 = .ok (.bipush 60, 2) := by decide +kernel
theorem dX12_place_14 : decode cX12_place 14 = .ok (.invokestatic 153, 3) := by decide +kernel
theorem dX12_place_17 : decode cX12_place 17 = .ok (.ifCond .ne 5, 3) := by decide +kernel
theorem dX12_place_20 : decode cX12_place 20 = .ok (.iconst (-1), 1) := by decide +kernel
theorem dX12_place_21 : decode cX12_place 21 = .ok (.ireturn, 1) := by decide +kernel
theorem dX12_place_22 : decode cX12_place 22 = .ok (.aload_n 0, 1) := by decide +kernel
theorem dX12_place_23 : decode cX12_place 23 = .ok (.getfield 16, 3) := by decide +kernel
theorem dX12_place_26 : decode cX12_place 26 = .ok (.bipush 12, 2) := by decide +kernel
theorem dX12_place_28 : decode cX12_place 28 = .ok (.if_icmp .ne 6, 3) := by decide +kernel
theorem dX12_place_31 : decode cX12_place 31 = .ok (.bipush (-2), 2) := by decide +kernel
theorem dX12_place_33 : decode cX12_place 33 = .ok (.ireturn, 1) := by decide +kernel
theorem dX12_place_34 : decode cX12_place 34 = .ok (.aload_n 0, 1) := by decide +kernel
theorem dX12_place_35 : decode cX12_place 35 = .ok (.getfield 9, 3) := by decide +kernel
theorem dX12_place_38 : decode cX12_place 38 = .ok (.aload_n 0, 1) := by decide +kernel
theorem dX12_place_39 : decode cX12_place 39 = .ok (.getfield 16, 3) := by decide +kernel
theorem dX12_place_42 : decode cX12_place 42 = .ok (.iload_n 1, 1) := by decide +kernel
theorem dX12_place_43 : decode cX12_place 43 = .ok (.iastore, 1) := by decide +kernel
theorem dX12_place_44 : decode cX12_place 44 = .ok (.aload_n 0, 1) := by decide +kernel
theorem dX12_place_45 : decode cX12_place 45 = .ok (.getfield 13, 3) := by decide +kernel
theorem dX12_place_48 : decode cX12_place 48 = .ok (.aload_n 0, 1) := by decide +kernel
theorem dX12_place_49 : decode cX12_place 49 = .ok (.getfield 16, 3) := by decide +kernel
theorem dX12_place_52 : decode cX12_place 52 = .ok (.iload_n 2, 1) := by decide +kernel
theorem dX12_place_53 : decode cX12_place 53 = .ok (.iastore, 1) := by decide +kernel
theorem dX12_place_54 : decode cX12_place 54 = .ok (.aload_n 0, 1) := by decide +kernel
theorem dX12_place_55 : decode cX12_place 55 = .ok (.dup, 1) := by decide +kernel
theorem dX12_place_56 : decode cX12_place 56 = .ok (.getfield 16, 3) := by decide +kernel
theorem dX12_place_59 : decode cX12_place 59 = .ok (.iconst 1, 1) := by decide +kernel
theorem dX12_place_60 : decode cX12_place 60 = .ok (.iadd, 1) := by decide +kernel
theorem dX12_place_61 : decode cX12_place 61 = .ok (.putfield 16, 3) := by decide +kernel
theorem dX12_place_64 : decode cX12_place 64 = .ok (.aload_n 0, 1) := by decide +kernel
theorem dX12_place_65 : decode cX12_place 65 = .ok (.getfield 16, 3) := by decide +kernel
theorem dX12_place_68 : decode cX12_place 68 = .ok (.iconst 1, 1) := by decide +kernel
theorem dX12_place_69 : decode cX12_place 69 = .ok (.isub, 1) := by decide +kernel
theorem dX12_place_70 : decode cX12_place 70 = .ok (.ireturn, 1) := by decide +kernel
theorem dX12_machine_0 : decode cX12_machine 0 = .ok (.iload_n 1, 1) := by decide +kernel
theorem dX12_machine_1 : decode cX12_machine 1 = .ok (.iconst 1, 1) := by decide +kernel
theorem dX12_machine_2 : decode cX12_machine 2 = .ok (.sipush 200, 3) := by decide +kernel
theorem dX12_machine_5 : decode cX12_machine 5 = .ok (.invokestatic 153, 3) := by decide +kernel
theorem dX12_machine_8 : decode cX12_machine 8 = .ok (.ifCond .eq 14, 3) := by decide +kernel
theorem dX12_machine_11 : decode cX12_machine 11 = .ok (.iload_n 2, 1) := by decide +kernel
theorem dX12_machine_12 : decode cX12_machine 12 = .ok (.iconst 1, 1) := by decide +kernel
theorem dX12_machine_13 : decode cX12_machine 13 = .ok (.sipush 2000, 3) := by decide +kernel
theorem dX12_machine_16 : decode cX12_machine 16 = .ok (.invokestatic 153, 3) := by decide +kernel
theorem dX12_machine_19 : decode cX12_machine 19 = .ok (.ifCond .ne 5, 3) := by decide +kernel
theorem dX12_machine_22 : decode cX12_machine 22 = .ok (.iconst (-1), 1) := by decide +kernel
theorem dX12_machine_23 : decode cX12_machine 23 = .ok (.ireturn, 1) := by decide +kernel
theorem dX12_machine_24 : decode cX12_machine 24 = .ok (.aload_n 0, 1) := by decide +kernel
theorem dX12_machine_25 : decode cX12_machine 25 = .ok (.getfield 157, 3) := by decide +kernel
theorem dX12_machine_28 : decode cX12_machine 28 = .ok (.iconst 4, 1) := by decide +kernel
theorem dX12_machine_29 : decode cX12_machine 29 = .ok (.if_icmp .ne 6, 3) := by decide +kernel
theorem dX12_machine_32 : decode cX12_machine 32 = .ok (.bipush (-2), 2) := by decide +kernel
theorem dX12_machine_34 : decode cX12_machine 34 = .ok (.ireturn, 1) := by decide +kernel
theorem dX12_machine_35 : decode cX12_machine 35 = .ok (.aload_n 0, 1) := by decide +kernel
theorem dX12_machine_36 : decode cX12_machine 36 = .ok (.getfield 29, 3) := by decide +kernel
theorem dX12_machine_39 : decode cX12_machine 39 = .ok (.aload_n 0, 1) := by decide +kernel
theorem dX12_machine_40 : decode cX12_machine 40 = .ok (.getfield 157, 3) := by decide +kernel
theorem dX12_machine_43 : decode cX12_machine 43 = .ok (.iload_n 1, 1) := by decide +kernel
theorem dX12_machine_44 : decode cX12_machine 44 = .ok (.iastore, 1) := by decide +kernel
theorem dX12_machine_45 : decode cX12_machine 45 = .ok (.aload_n 0, 1) := by decide +kernel
theorem dX12_machine_46 : decode cX12_machine 46 = .ok (.getfield 32, 3) := by decide +kernel
theorem dX12_machine_49 : decode cX12_machine 49 = .ok (.aload_n 0, 1) := by decide +kernel
theorem dX12_machine_50 : decode cX12_machine 50 = .ok (.getfield 157, 3) := by decide +kernel
theorem dX12_machine_53 : decode cX12_machine 53 = .ok (.iload_n 2, 1) := by decide +kernel
theorem dX12_machine_54 : decode cX12_machine 54 = .ok (.iastore, 1) := by decide +kernel
theorem dX12_machine_55 : decode cX12_machine 55 = .ok (.aload_n 0, 1) := by decide +kernel
theorem dX12_machine_56 : decode cX12_machine 56 = .ok (.getfield 35, 3) := by decide +kernel
theorem dX12_machine_59 : decode cX12_machine 59 = .ok (.aload_n 0, 1) := by decide +kernel
theorem dX12_machine_60 : decode cX12_machine 60 = .ok (.getfield 157, 3) := by decide +kernel
theorem dX12_machine_63 : decode cX12_machine 63 = .ok (.iload_n 2, 1) := by decide +kernel
theorem dX12_machine_64 : decode cX12_machine 64 = .ok (.iastore, 1) := by decide +kernel
theorem dX12_machine_65 : decode cX12_machine 65 = .ok (.aload_n 0, 1) := by decide +kernel
theorem dX12_machine_66 : decode cX12_machine 66 = .ok (.dup, 1) := by decide +kernel
theorem dX12_machine_67 : decode cX12_machine 67 = .ok (.getfield 157, 3) := by decide +kernel
theorem dX12_machine_70 : decode cX12_machine 70 = .ok (.iconst 1, 1) := by decide +kernel
theorem dX12_machine_71 : decode cX12_machine 71 = .ok (.iadd, 1) := by decide +kernel
theorem dX12_machine_72 : decode cX12_machine 72 = .ok (.putfield 157, 3) := by decide +kernel
theorem dX12_machine_75 : decode cX12_machine 75 = .ok (.aload_n 0, 1) := by decide +kernel
theorem dX12_machine_76 : decode cX12_machine 76 = .ok (.getfield 157, 3) := by decide +kernel
theorem dX12_machine_79 : decode cX12_machine 79 = .ok (.iconst 1, 1) := by decide +kernel
theorem dX12_machine_80 : decode cX12_machine 80 = .ok (.isub, 1) := by decide +kernel
theorem dX12_machine_81 : decode cX12_machine 81 = .ok (.ireturn, 1) := by decide +kernel
theorem dX12_pilot_0 : decode cX12_pilot 0 = .ok (.iload_n 1, 1) := by decide +kernel
theorem dX12_pilot_1 : decode cX12_pilot 1 = .ok (.iconst 0, 1) := by decide +kernel
theorem dX12_pilot_2 : decode cX12_pilot 2 = .ok (.sipush 720, 3) := by decide +kernel
theorem dX12_pilot_5 : decode cX12_pilot 5 = .ok (.invokestatic 153, 3) := by decide +kernel
theorem dX12_pilot_8 : decode cX12_pilot 8 = .ok (.ifCond .eq 13, 3) := by decide +kernel
theorem dX12_pilot_11 : decode cX12_pilot 11 = .ok (.iload_n 2, 1) := by decide +kernel
theorem dX12_pilot_12 : decode cX12_pilot 12 = .ok (.iconst 0, 1) := by decide +kernel
theorem dX12_pilot_13 : decode cX12_pilot 13 = .ok (.bipush 120, 2) := by decide +kernel
theorem dX12_pilot_15 : decode cX12_pilot 15 = .ok (.invokestatic 153, 3) := by decide +kernel
theorem dX12_pilot_18 : decode cX12_pilot 18 = .ok (.ifCond .ne 5, 3) := by decide +kernel
theorem dX12_pilot_21 : decode cX12_pilot 21 = .ok (.iconst (-1), 1) := by decide +kernel
theorem dX12_pilot_22 : decode cX12_pilot 22 = .ok (.ireturn, 1) := by decide +kernel
theorem dX12_pilot_23 : decode cX12_pilot 23 = .ok (.aload_n 0, 1) := by decide +kernel
theorem dX12_pilot_24 : decode cX12_pilot 24 = .ok (.getfield 160, 3) := by decide +kernel
theorem dX12_pilot_27 : decode cX12_pilot 27 = .ok (.bipush 6, 2) := by decide +kernel
theorem dX12_pilot_29 : decode cX12_pilot 29 = .ok (.if_icmp .ne 6, 3) := by decide +kernel
theorem dX12_pilot_32 : decode cX12_pilot 32 = .ok (.bipush (-2), 2) := by decide +kernel
theorem dX12_pilot_34 : decode cX12_pilot 34 = .ok (.ireturn, 1) := by decide +kernel
theorem dX12_pilot_35 : decode cX12_pilot 35 = .ok (.aload_n 0, 1) := by decide +kernel
theorem dX12_pilot_36 : decode cX12_pilot 36 = .ok (.getfield 41, 3) := by decide +kernel
theorem dX12_pilot_39 : decode cX12_pilot 39 = .ok (.aload_n 0, 1) := by decide +kernel
theorem dX12_pilot_40 : decode cX12_pilot 40 = .ok (.getfield 160, 3) := by decide +kernel
theorem dX12_pilot_43 : decode cX12_pilot 43 = .ok (.iload_n 1, 1) := by decide +kernel
theorem dX12_pilot_44 : decode cX12_pilot 44 = .ok (.iastore, 1) := by decide +kernel
theorem dX12_pilot_45 : decode cX12_pilot 45 = .ok (.aload_n 0, 1) := by decide +kernel
theorem dX12_pilot_46 : decode cX12_pilot 46 = .ok (.getfield 44, 3) := by decide +kernel
theorem dX12_pilot_49 : decode cX12_pilot 49 = .ok (.aload_n 0, 1) := by decide +kernel
theorem dX12_pilot_50 : decode cX12_pilot 50 = .ok (.getfield 160, 3) := by decide +kernel
theorem dX12_pilot_53 : decode cX12_pilot 53 = .ok (.iload_n 2, 1) := by decide +kernel
theorem dX12_pilot_54 : decode cX12_pilot 54 = .ok (.iastore, 1) := by decide +kernel
theorem dX12_pilot_55 : decode cX12_pilot 55 = .ok (.aload_n 0, 1) := by decide +kernel
theorem dX12_pilot_56 : decode cX12_pilot 56 = .ok (.dup, 1) := by decide +kernel
theorem dX12_pilot_57 : decode cX12_pilot 57 = .ok (.getfield 160, 3) := by decide +kernel
theorem dX12_pilot_60 : decode cX12_pilot 60 = .ok (.iconst 1, 1) := by decide +kernel
theorem dX12_pilot_61 : decode cX12_pilot 61 = .ok (.iadd, 1) := by decide +kernel
theorem dX12_pilot_62 : decode cX12_pilot 62 = .ok (.putfield 160, 3) := by decide +kernel
theorem dX12_pilot_65 : decode cX12_pilot 65 = .ok (.aload_n 0, 1) := by decide +kernel
theorem dX12_pilot_66 : decode cX12_pilot 66 = .ok (.getfield 160, 3) := by decide +kernel
theorem dX12_pilot_69 : decode cX12_pilot 69 = .ok (.iconst 1, 1) := by decide +kernel
theorem dX12_pilot_70 : decode cX12_pilot 70 = .ok (.isub, 1) := by decide +kernel
theorem dX12_pilot_71 : decode cX12_pilot 71 = .ok (.ireturn, 1) := by decide +kernel
theorem dX12_isMachine_0 : decode cX12_isMachine 0 = .ok (.iload_n 1, 1) := by decide +kernel
theorem dX12_isMachine_1 : decode cX12_isMachine 1 = .ok (.ifCond .lt 15, 3) := by decide +kernel
theorem dX12_isMachine_4 : decode cX12_isMachine 4 = .ok (.iload_n 1, 1) := by decide +kernel
theorem dX12_isMachine_5 : decode cX12_isMachine 5 = .ok (.aload_n 0, 1) := by decide +kernel
theorem dX12_isMachine_6 : decode cX12_isMachine 6 = .ok (.getfield 157, 3) := by decide +kernel
theorem dX12_isMachine_9 : decode cX12_isMachine 9 = .ok (.if_icmp .ge 7, 3) := by decide +kernel
theorem dX12_isMachine_12 : decode cX12_isMachine 12 = .ok (.iconst 1, 1) := by decide +kernel
theorem dX12_isMachine_13 : decode cX12_isMachine 13 = .ok (.goto 4, 3) := by decide +kernel
theorem dX12_isMachine_16 : decode cX12_isMachine 16 = .ok (.iconst 0, 1) := by decide +kernel
theorem dX12_isMachine_17 : decode cX12_isMachine 17 = .ok (.ireturn, 1) := by decide +kernel
theorem dX12_isPilot_0 : decode cX12_isPilot 0 = .ok (.iload_n 1, 1) := by decide +kernel
theorem dX12_isPilot_1 : decode cX12_isPilot 1 = .ok (.ifCond .lt 15, 3) := by decide +kernel
theorem dX12_isPilot_4 : decode cX12_isPilot 4 = .ok (.iload_n 1, 1) := by decide +kernel
theorem dX12_isPilot_5 : decode cX12_isPilot 5 = .ok (.aload_n 0, 1) := by decide +kernel
theorem dX12_isPilot_6 : decode cX12_isPilot 6 = .ok (.getfield 160, 3) := by decide +kernel
theorem dX12_isPilot_9 : decode cX12_isPilot 9 = .ok (.if_icmp .ge 7, 3) := by decide +kernel
theorem dX12_isPilot_12 : decode cX12_isPilot 12 = .ok (.iconst 1, 1) := by decide +kernel
theorem dX12_isPilot_13 : decode cX12_isPilot 13 = .ok (.goto 4, 3) := by decide +kernel
theorem dX12_isPilot_16 : decode cX12_isPilot 16 = .ok (.iconst 0, 1) := by decide +kernel
theorem dX12_isPilot_17 : decode cX12_isPilot 17 = .ok (.ireturn, 1) := by decide +kernel
theorem dX12_isHut_0 : decode cX12_isHut 0 = .ok (.iload_n 1, 1) := by decide +kernel
theorem dX12_isHut_1 : decode cX12_isHut 1 = .ok (.ifCond .le 15, 3) := by decide +kernel
theorem dX12_isHut_4 : decode cX12_isHut 4 = .ok (.iload_n 1, 1) := by decide +kernel
theorem dX12_isHut_5 : decode cX12_isHut 5 = .ok (.aload_n 0, 1) := by decide +kernel
theorem dX12_isHut_6 : decode cX12_isHut 6 = .ok (.getfield 16, 3) := by decide +kernel
theorem dX12_isHut_9 : decode cX12_isHut 9 = .ok (.if_icmp .ge 7, 3) := by decide +kernel
theorem dX12_isHut_12 : decode cX12_isHut 12 = .ok (.iconst 1, 1) := by decide +kernel
theorem dX12_isHut_13 : decode cX12_isHut 13 = .ok (.goto 4, 3) := by decide +kernel
theorem dX12_isHut_16 : decode cX12_isHut 16 = .ok (.iconst 0, 1) := by decide +kernel
theorem dX12_isHut_17 : decode cX12_isHut 17 = .ok (.ireturn, 1) := by decide +kernel
theorem dX12_isLoad_0 : decode cX12_isLoad 0 = .ok (.iload_n 1, 1) := by decide +kernel
theorem dX12_isLoad_1 : decode cX12_isLoad 1 = .ok (.ifCond .lt 15, 3) := by decide +kernel
theorem dX12_isLoad_4 : decode cX12_isLoad 4 = .ok (.iload_n 1, 1) := by decide +kernel
theorem dX12_isLoad_5 : decode cX12_isLoad 5 = .ok (.aload_n 0, 1) := by decide +kernel
theorem dX12_isLoad_6 : decode cX12_isLoad 6 = .ok (.getfield 163, 3) := by decide +kernel
theorem dX12_isLoad_9 : decode cX12_isLoad 9 = .ok (.if_icmp .ge 7, 3) := by decide +kernel
theorem dX12_isLoad_12 : decode cX12_isLoad 12 = .ok (.iconst 1, 1) := by decide +kernel
theorem dX12_isLoad_13 : decode cX12_isLoad 13 = .ok (.goto 4, 3) := by decide +kernel
theorem dX12_isLoad_16 : decode cX12_isLoad 16 = .ok (.iconst 0, 1) := by decide +kernel
theorem dX12_isLoad_17 : decode cX12_isLoad 17 = .ok (.ireturn, 1) := by decide +kernel
theorem dX12_load_0 : decode cX12_load 0 = .ok (.iload_n 1, 1) := by decide +kernel
theorem dX12_load_1 : decode cX12_load 1 = .ok (.ifCond .lt 76, 3) := by decide +kernel
theorem dX12_load_4 : decode cX12_load 4 = .ok (.iload_n 1, 1) := by decide +kernel
theorem dX12_load_5 : decode cX12_load 5 = .ok (.sipush 10000, 3) := by decide +kernel
theorem dX12_load_8 : decode cX12_load 8 = .ok (.idiv, 1) := by decide +kernel
theorem dX12_load_9 : decode cX12_load 9 = .ok (.iconst 0, 1) := by decide +kernel
theorem dX12_load_10 : decode cX12_load 10 = .ok (.iconst 4, 1) := by decide +kernel
theorem dX12_load_11 : decode cX12_load 11 = .ok (.invokestatic 153, 3) := by decide +kernel
theorem dX12_load_14 : decode cX12_load 14 = .ok (.ifCond .eq 63, 3) := by decide +kernel
theorem dX12_load_17 : decode cX12_load 17 = .ok (.aload_n 0, 1) := by decide +kernel
theorem dX12_load_18 : decode cX12_load 18 = .ok (.iload_n 1, 1) := by decide +kernel
theorem dX12_load_19 : decode cX12_load 19 = .ok (.bipush 100, 2) := by decide +kernel
theorem dX12_load_21 : decode cX12_load 21 = .ok (.idiv, 1) := by decide +kernel
theorem dX12_load_22 : decode cX12_load 22 = .ok (.bipush 100, 2) := by decide +kernel
theorem dX12_load_24 : decode cX12_load 24 = .ok (.irem, 1) := by decide +kernel
theorem dX12_load_25 : decode cX12_load 25 = .ok (.invokevirtual 166, 3) := by decide +kernel
theorem dX12_load_28 : decode cX12_load 28 = .ok (.ifCond .eq 49, 3) := by decide +kernel
theorem dX12_load_31 : decode cX12_load 31 = .ok (.iload_n 1, 1) := by decide +kernel
theorem dX12_load_32 : decode cX12_load 32 = .ok (.bipush 100, 2) := by decide +kernel
theorem dX12_load_34 : decode cX12_load 34 = .ok (.irem, 1) := by decide +kernel
theorem dX12_load_35 : decode cX12_load 35 = .ok (.iconst 1, 1) := by decide +kernel
theorem dX12_load_36 : decode cX12_load 36 = .ok (.bipush 9, 2) := by decide +kernel
theorem dX12_load_38 : decode cX12_load 38 = .ok (.invokestatic 153, 3) := by decide +kernel
theorem dX12_load_41 : decode cX12_load 41 = .ok (.ifCond .eq 36, 3) := by decide +kernel
theorem dX12_load_44 : decode cX12_load 44 = .ok (.iload_n 2, 1) := by decide +kernel
theorem dX12_load_45 : decode cX12_load 45 = .ok (.iconst 1, 1) := by decide +kernel
theorem dX12_load_46 : decode cX12_load 46 = .ok (.bipush 99, 2) := by decide +kernel
theorem dX12_load_48 : decode cX12_load 48 = .ok (.invokestatic 153, 3) := by decide +kernel
theorem dX12_load_51 : decode cX12_load 51 = .ok (.ifCond .eq 26, 3) := by decide +kernel
theorem dX12_load_54 : decode cX12_load 54 = .ok (.iload_n 3, 1) := by decide +kernel
theorem dX12_load_55 : decode cX12_load 55 = .ok (.iconst 0, 1) := by decide +kernel
theorem dX12_load_56 : decode cX12_load 56 = .ok (.sipush 720, 3) := by decide +kernel
theorem dX12_load_59 : decode cX12_load 59 = .ok (.invokestatic 153, 3) := by decide +kernel
theorem dX12_load_62 : decode cX12_load 62 = .ok (.ifCond .eq 15, 3) := by decide +kernel
theorem dX12_load_65 : decode cX12_load 65 = .ok (.iload 4, 2) := by decide +kernel
theorem dX12_load_67 : decode cX12_load 67 = .ok (.iconst 0, 1) := by decide +kernel
theorem dX12_load_68 : decode cX12_load 68 = .ok (.sipush 720, 3) := by decide +kernel
theorem dX12_load_71 : decode cX12_load 71 = .ok (.invokestatic 153, 3) := by decide +kernel
theorem dX12_load_74 : decode cX12_load 74 = .ok (.ifCond .ne 5, 3) := by decide +kernel
theorem dX12_load_77 : decode cX12_load 77 = .ok (.iconst (-1), 1) := by decide +kernel
theorem dX12_load_78 : decode cX12_load 78 = .ok (.ireturn, 1) := by decide +kernel
theorem dX12_load_79 : decode cX12_load 79 = .ok (.aload_n 0, 1) := by decide +kernel
theorem dX12_load_80 : decode cX12_load 80 = .ok (.getfield 163, 3) := by decide +kernel
theorem dX12_load_83 : decode cX12_load 83 = .ok (.bipush 80, 2) := by decide +kernel
theorem dX12_load_85 : decode cX12_load 85 = .ok (.if_icmp .ne 6, 3) := by decide +kernel
theorem dX12_load_88 : decode cX12_load 88 = .ok (.bipush (-2), 2) := by decide +kernel
theorem dX12_load_90 : decode cX12_load 90 = .ok (.ireturn, 1) := by decide +kernel
theorem dX12_load_91 : decode cX12_load 91 = .ok (.aload_n 0, 1) := by decide +kernel
theorem dX12_load_92 : decode cX12_load 92 = .ok (.getfield 62, 3) := by decide +kernel
theorem dX12_load_95 : decode cX12_load 95 = .ok (.aload_n 0, 1) := by decide +kernel
theorem dX12_load_96 : decode cX12_load 96 = .ok (.getfield 163, 3) := by decide +kernel
theorem dX12_load_99 : decode cX12_load 99 = .ok (.iload_n 1, 1) := by decide +kernel
theorem dX12_load_100 : decode cX12_load 100 = .ok (.sipush 10000, 3) := by decide +kernel
theorem dX12_load_103 : decode cX12_load 103 = .ok (.idiv, 1) := by decide +kernel
theorem dX12_load_104 : decode cX12_load 104 = .ok (.iastore, 1) := by decide +kernel
theorem dX12_load_105 : decode cX12_load 105 = .ok (.aload_n 0, 1) := by decide +kernel
theorem dX12_load_106 : decode cX12_load 106 = .ok (.getfield 53, 3) := by decide +kernel
theorem dX12_load_109 : decode cX12_load 109 = .ok (.aload_n 0, 1) := by decide +kernel
theorem dX12_load_110 : decode cX12_load 110 = .ok (.getfield 163, 3) := by decide +kernel
theorem dX12_load_113 : decode cX12_load 113 = .ok (.iload_n 1, 1) := by decide +kernel
theorem dX12_load_114 : decode cX12_load 114 = .ok (.bipush 100, 2) := by decide +kernel
theorem dX12_load_116 : decode cX12_load 116 = .ok (.idiv, 1) := by decide +kernel
theorem dX12_load_117 : decode cX12_load 117 = .ok (.bipush 100, 2) := by decide +kernel
theorem dX12_load_119 : decode cX12_load 119 = .ok (.irem, 1) := by decide +kernel
theorem dX12_load_120 : decode cX12_load 120 = .ok (.iastore, 1) := by decide +kernel
theorem dX12_load_121 : decode cX12_load 121 = .ok (.aload_n 0, 1) := by decide +kernel
theorem dX12_load_122 : decode cX12_load 122 = .ok (.getfield 59, 3) := by decide +kernel
theorem dX12_load_125 : decode cX12_load 125 = .ok (.aload_n 0, 1) := by decide +kernel
theorem dX12_load_126 : decode cX12_load 126 = .ok (.getfield 163, 3) := by decide +kernel
theorem dX12_load_129 : decode cX12_load 129 = .ok (.iload_n 1, 1) := by decide +kernel
theorem dX12_load_130 : decode cX12_load 130 = .ok (.bipush 100, 2) := by decide +kernel
theorem dX12_load_132 : decode cX12_load 132 = .ok (.irem, 1) := by decide +kernel
theorem dX12_load_133 : decode cX12_load 133 = .ok (.iastore, 1) := by decide +kernel
theorem dX12_load_134 : decode cX12_load 134 = .ok (.aload_n 0, 1) := by decide +kernel
theorem dX12_load_135 : decode cX12_load 135 = .ok (.getfield 56, 3) := by decide +kernel
theorem dX12_load_138 : decode cX12_load 138 = .ok (.aload_n 0, 1) := by decide +kernel
theorem dX12_load_139 : decode cX12_load 139 = .ok (.getfield 163, 3) := by decide +kernel
theorem dX12_load_142 : decode cX12_load 142 = .ok (.iload_n 2, 1) := by decide +kernel
theorem dX12_load_143 : decode cX12_load 143 = .ok (.iastore, 1) := by decide +kernel
theorem dX12_load_144 : decode cX12_load 144 = .ok (.aload_n 0, 1) := by decide +kernel
theorem dX12_load_145 : decode cX12_load 145 = .ok (.getfield 65, 3) := by decide +kernel
theorem dX12_load_148 : decode cX12_load 148 = .ok (.aload_n 0, 1) := by decide +kernel
theorem dX12_load_149 : decode cX12_load 149 = .ok (.getfield 163, 3) := by decide +kernel
theorem dX12_load_152 : decode cX12_load 152 = .ok (.iload_n 3, 1) := by decide +kernel
theorem dX12_load_153 : decode cX12_load 153 = .ok (.iastore, 1) := by decide +kernel
theorem dX12_load_154 : decode cX12_load 154 = .ok (.aload_n 0, 1) := by decide +kernel
theorem dX12_load_155 : decode cX12_load 155 = .ok (.getfield 68, 3) := by decide +kernel
theorem dX12_load_158 : decode cX12_load 158 = .ok (.aload_n 0, 1) := by decide +kernel
theorem dX12_load_159 : decode cX12_load 159 = .ok (.getfield 163, 3) := by decide +kernel
theorem dX12_load_162 : decode cX12_load 162 = .ok (.iload 4, 2) := by decide +kernel
theorem dX12_load_164 : decode cX12_load 164 = .ok (.iastore, 1) := by decide +kernel
theorem dX12_load_165 : decode cX12_load 165 = .ok (.aload_n 0, 1) := by decide +kernel
theorem dX12_load_166 : decode cX12_load 166 = .ok (.getfield 74, 3) := by decide +kernel
theorem dX12_load_169 : decode cX12_load 169 = .ok (.aload_n 0, 1) := by decide +kernel
theorem dX12_load_170 : decode cX12_load 170 = .ok (.getfield 163, 3) := by decide +kernel
theorem dX12_load_173 : decode cX12_load 173 = .ok (.iconst (-1), 1) := by decide +kernel
theorem dX12_load_174 : decode cX12_load 174 = .ok (.iastore, 1) := by decide +kernel
theorem dX12_load_175 : decode cX12_load 175 = .ok (.aload_n 0, 1) := by decide +kernel
theorem dX12_load_176 : decode cX12_load 176 = .ok (.getfield 77, 3) := by decide +kernel
theorem dX12_load_179 : decode cX12_load 179 = .ok (.aload_n 0, 1) := by decide +kernel
theorem dX12_load_180 : decode cX12_load 180 = .ok (.getfield 163, 3) := by decide +kernel
theorem dX12_load_183 : decode cX12_load 183 = .ok (.iconst (-1), 1) := by decide +kernel
theorem dX12_load_184 : decode cX12_load 184 = .ok (.iastore, 1) := by decide +kernel
theorem dX12_load_185 : decode cX12_load 185 = .ok (.aload_n 0, 1) := by decide +kernel
theorem dX12_load_186 : decode cX12_load 186 = .ok (.getfield 80, 3) := by decide +kernel
theorem dX12_load_189 : decode cX12_load 189 = .ok (.aload_n 0, 1) := by decide +kernel
theorem dX12_load_190 : decode cX12_load 190 = .ok (.getfield 163, 3) := by decide +kernel
theorem dX12_load_193 : decode cX12_load 193 = .ok (.iconst (-1), 1) := by decide +kernel
theorem dX12_load_194 : decode cX12_load 194 = .ok (.iastore, 1) := by decide +kernel
theorem dX12_load_195 : decode cX12_load 195 = .ok (.aload_n 0, 1) := by decide +kernel
theorem dX12_load_196 : decode cX12_load 196 = .ok (.dup, 1) := by decide +kernel
theorem dX12_load_197 : decode cX12_load 197 = .ok (.getfield 163, 3) := by decide +kernel
theorem dX12_load_200 : decode cX12_load 200 = .ok (.iconst 1, 1) := by decide +kernel
theorem dX12_load_201 : decode cX12_load 201 = .ok (.iadd, 1) := by decide +kernel
theorem dX12_load_202 : decode cX12_load 202 = .ok (.putfield 163, 3) := by decide +kernel
theorem dX12_load_205 : decode cX12_load 205 = .ok (.aload_n 0, 1) := by decide +kernel
theorem dX12_load_206 : decode cX12_load 206 = .ok (.getfield 163, 3) := by decide +kernel
theorem dX12_load_209 : decode cX12_load 209 = .ok (.iconst 1, 1) := by decide +kernel
theorem dX12_load_210 : decode cX12_load 210 = .ok (.isub, 1) := by decide +kernel
theorem dX12_load_211 : decode cX12_load 211 = .ok (.ireturn, 1) := by decide +kernel
theorem dX12_hour_0 : decode cX12_hour 0 = .ok (.iload_n 1, 1) := by decide +kernel
theorem dX12_hour_1 : decode cX12_hour 1 = .ok (.iconst 0, 1) := by decide +kernel
theorem dX12_hour_2 : decode cX12_hour 2 = .ok (.bipush 11, 2) := by decide +kernel
theorem dX12_hour_4 : decode cX12_hour 4 = .ok (.invokestatic 153, 3) := by decide +kernel
theorem dX12_hour_7 : decode cX12_hour 7 = .ok (.ifCond .eq 34, 3) := by decide +kernel
theorem dX12_hour_10 : decode cX12_hour 10 = .ok (.iload_n 2, 1) := by decide +kernel
theorem dX12_hour_11 : decode cX12_hour 11 = .ok (.iconst (-1), 1) := by decide +kernel
theorem dX12_hour_12 : decode cX12_hour 12 = .ok (.bipush 9, 2) := by decide +kernel
theorem dX12_hour_14 : decode cX12_hour 14 = .ok (.invokestatic 153, 3) := by decide +kernel
theorem dX12_hour_17 : decode cX12_hour 17 = .ok (.ifCond .eq 24, 3) := by decide +kernel
theorem dX12_hour_20 : decode cX12_hour 20 = .ok (.iload_n 3, 1) := by decide +kernel
theorem dX12_hour_21 : decode cX12_hour 21 = .ok (.iconst (-1), 1) := by decide +kernel
theorem dX12_hour_22 : decode cX12_hour 22 = .ok (.bipush 9, 2) := by decide +kernel
theorem dX12_hour_24 : decode cX12_hour 24 = .ok (.invokestatic 153, 3) := by decide +kernel
theorem dX12_hour_27 : decode cX12_hour 27 = .ok (.ifCond .eq 14, 3) := by decide +kernel
theorem dX12_hour_30 : decode cX12_hour 30 = .ok (.iload 4, 2) := by decide +kernel
theorem dX12_hour_32 : decode cX12_hour 32 = .ok (.iconst (-1), 1) := by decide +kernel
theorem dX12_hour_33 : decode cX12_hour 33 = .ok (.bipush 9, 2) := by decide +kernel
theorem dX12_hour_35 : decode cX12_hour 35 = .ok (.invokestatic 153, 3) := by decide +kernel
theorem dX12_hour_38 : decode cX12_hour 38 = .ok (.ifCond .ne 5, 3) := by decide +kernel
theorem dX12_hour_41 : decode cX12_hour 41 = .ok (.iconst (-1), 1) := by decide +kernel
theorem dX12_hour_42 : decode cX12_hour 42 = .ok (.ireturn, 1) := by decide +kernel
theorem dX12_hour_43 : decode cX12_hour 43 = .ok (.aload_n 0, 1) := by decide +kernel
theorem dX12_hour_44 : decode cX12_hour 44 = .ok (.getfield 20, 3) := by decide +kernel
theorem dX12_hour_47 : decode cX12_hour 47 = .ok (.iload_n 1, 1) := by decide +kernel
theorem dX12_hour_48 : decode cX12_hour 48 = .ok (.iload_n 2, 1) := by decide +kernel
theorem dX12_hour_49 : decode cX12_hour 49 = .ok (.ifCond .ge 8, 3) := by decide +kernel
theorem dX12_hour_52 : decode cX12_hour 52 = .ok (.bipush 9, 2) := by decide +kernel
theorem dX12_hour_54 : decode cX12_hour 54 = .ok (.goto 4, 3) := by decide +kernel
theorem dX12_hour_57 : decode cX12_hour 57 = .ok (.iload_n 2, 1) := by decide +kernel
theorem dX12_hour_58 : decode cX12_hour 58 = .ok (.iastore, 1) := by decide +kernel
theorem dX12_hour_59 : decode cX12_hour 59 = .ok (.aload_n 0, 1) := by decide +kernel
theorem dX12_hour_60 : decode cX12_hour 60 = .ok (.getfield 23, 3) := by decide +kernel
theorem dX12_hour_63 : decode cX12_hour 63 = .ok (.iload_n 1, 1) := by decide +kernel
theorem dX12_hour_64 : decode cX12_hour 64 = .ok (.iload_n 3, 1) := by decide +kernel
theorem dX12_hour_65 : decode cX12_hour 65 = .ok (.ifCond .ge 8, 3) := by decide +kernel
theorem dX12_hour_68 : decode cX12_hour 68 = .ok (.bipush 9, 2) := by decide +kernel
theorem dX12_hour_70 : decode cX12_hour 70 = .ok (.goto 4, 3) := by decide +kernel
theorem dX12_hour_73 : decode cX12_hour 73 = .ok (.iload_n 3, 1) := by decide +kernel
theorem dX12_hour_74 : decode cX12_hour 74 = .ok (.iastore, 1) := by decide +kernel
theorem dX12_hour_75 : decode cX12_hour 75 = .ok (.aload_n 0, 1) := by decide +kernel
theorem dX12_hour_76 : decode cX12_hour 76 = .ok (.getfield 26, 3) := by decide +kernel
theorem dX12_hour_79 : decode cX12_hour 79 = .ok (.iload_n 1, 1) := by decide +kernel
theorem dX12_hour_80 : decode cX12_hour 80 = .ok (.iload 4, 2) := by decide +kernel
theorem dX12_hour_82 : decode cX12_hour 82 = .ok (.ifCond .ge 7, 3) := by decide +kernel
theorem dX12_hour_85 : decode cX12_hour 85 = .ok (.iconst 0, 1) := by decide +kernel
theorem dX12_hour_86 : decode cX12_hour 86 = .ok (.goto 5, 3) := by decide +kernel
theorem dX12_hour_89 : decode cX12_hour 89 = .ok (.iload 4, 2) := by decide +kernel
theorem dX12_hour_91 : decode cX12_hour 91 = .ok (.iastore, 1) := by decide +kernel
theorem dX12_hour_92 : decode cX12_hour 92 = .ok (.iconst 1, 1) := by decide +kernel
theorem dX12_hour_93 : decode cX12_hour 93 = .ok (.ireturn, 1) := by decide +kernel
theorem dX12_feed_0 : decode cX12_feed 0 = .ok (.iload_n 1, 1) := by decide +kernel
theorem dX12_feed_1 : decode cX12_feed 1 = .ok (.iconst 1, 1) := by decide +kernel
theorem dX12_feed_2 : decode cX12_feed 2 = .ok (.iconst 4, 1) := by decide +kernel
theorem dX12_feed_3 : decode cX12_feed 3 = .ok (.invokestatic 153, 3) := by decide +kernel
theorem dX12_feed_6 : decode cX12_feed 6 = .ok (.ifCond .ne 5, 3) := by decide +kernel
theorem dX12_feed_9 : decode cX12_feed 9 = .ok (.iconst (-1), 1) := by decide +kernel
theorem dX12_feed_10 : decode cX12_feed 10 = .ok (.ireturn, 1) := by decide +kernel
theorem dX12_feed_11 : decode cX12_feed 11 = .ok (.aload_n 0, 1) := by decide +kernel
theorem dX12_feed_12 : decode cX12_feed 12 = .ok (.getfield 170, 3) := by decide +kernel
theorem dX12_feed_15 : decode cX12_feed 15 = .ok (.iload_n 1, 1) := by decide +kernel
theorem dX12_feed_16 : decode cX12_feed 16 = .ok (.iadd, 1) := by decide +kernel
theorem dX12_feed_17 : decode cX12_feed 17 = .ok (.bipush 60, 2) := by decide +kernel
theorem dX12_feed_19 : decode cX12_feed 19 = .ok (.if_icmp .le 6, 3) := by decide +kernel
theorem dX12_feed_22 : decode cX12_feed 22 = .ok (.bipush (-2), 2) := by decide +kernel
theorem dX12_feed_24 : decode cX12_feed 24 = .ok (.ireturn, 1) := by decide +kernel
theorem dX12_feed_25 : decode cX12_feed 25 = .ok (.iconst 0, 1) := by decide +kernel
theorem dX12_feed_26 : decode cX12_feed 26 = .ok (.istore_n 3, 1) := by decide +kernel
theorem dX12_feed_27 : decode cX12_feed 27 = .ok (.iload_n 3, 1) := by decide +kernel
theorem dX12_feed_28 : decode cX12_feed 28 = .ok (.iload_n 1, 1) := by decide +kernel
theorem dX12_feed_29 : decode cX12_feed 29 = .ok (.if_icmp .ge 38, 3) := by decide +kernel
theorem dX12_feed_32 : decode cX12_feed 32 = .ok (.aload_n 0, 1) := by decide +kernel
theorem dX12_feed_33 : decode cX12_feed 33 = .ok (.getfield 86, 3) := by decide +kernel
theorem dX12_feed_36 : decode cX12_feed 36 = .ok (.aload_n 0, 1) := by decide +kernel
theorem dX12_feed_37 : decode cX12_feed 37 = .ok (.getfield 170, 3) := by decide +kernel
theorem dX12_feed_40 : decode cX12_feed 40 = .ok (.iload_n 2, 1) := by decide +kernel
theorem dX12_feed_41 : decode cX12_feed 41 = .ok (.bipush 8, 2) := by decide +kernel
theorem dX12_feed_43 : decode cX12_feed 43 = .ok (.iload_n 3, 1) := by decide +kernel
theorem dX12_feed_44 : decode cX12_feed 44 = .ok (.imul, 1) := by decide +kernel
theorem dX12_feed_45 : decode cX12_feed 45 = .ok (.ishr, 1) := by decide +kernel
theorem dX12_feed_46 : decode cX12_feed 46 = .ok (.sipush 255, 3) := by decide +kernel
theorem dX12_feed_49 : decode cX12_feed 49 = .ok (.iand, 1) := by decide +kernel
theorem dX12_feed_50 : decode cX12_feed 50 = .ok (.iastore, 1) := by decide +kernel
theorem dX12_feed_51 : decode cX12_feed 51 = .ok (.aload_n 0, 1) := by decide +kernel
theorem dX12_feed_52 : decode cX12_feed 52 = .ok (.dup, 1) := by decide +kernel
theorem dX12_feed_53 : decode cX12_feed 53 = .ok (.getfield 170, 3) := by decide +kernel
theorem dX12_feed_56 : decode cX12_feed 56 = .ok (.iconst 1, 1) := by decide +kernel
theorem dX12_feed_57 : decode cX12_feed 57 = .ok (.iadd, 1) := by decide +kernel
theorem dX12_feed_58 : decode cX12_feed 58 = .ok (.putfield 170, 3) := by decide +kernel
theorem dX12_feed_61 : decode cX12_feed 61 = .ok (.iinc 3 1, 3) := by decide +kernel
theorem dX12_feed_64 : decode cX12_feed 64 = .ok (.goto (-37), 3) := by decide +kernel
theorem dX12_feed_67 : decode cX12_feed 67 = .ok (.aload_n 0, 1) := by decide +kernel
theorem dX12_feed_68 : decode cX12_feed 68 = .ok (.getfield 170, 3) := by decide +kernel
theorem dX12_feed_71 : decode cX12_feed 71 = .ok (.ireturn, 1) := by decide +kernel
theorem dX12_isTwo_0 : decode cX12_isTwo 0 = .ok (.iload_n 0, 1) := by decide +kernel
theorem dX12_isTwo_1 : decode cX12_isTwo 1 = .ok (.bipush 43, 2) := by decide +kernel
theorem dX12_isTwo_3 : decode cX12_isTwo 3 = .ok (.if_icmp .eq 45, 3) := by decide +kernel
theorem dX12_isTwo_6 : decode cX12_isTwo 6 = .ok (.iload_n 0, 1) := by decide +kernel
theorem dX12_isTwo_7 : decode cX12_isTwo 7 = .ok (.bipush 45, 2) := by decide +kernel
theorem dX12_isTwo_9 : decode cX12_isTwo 9 = .ok (.if_icmp .eq 39, 3) := by decide +kernel
theorem dX12_isTwo_12 : decode cX12_isTwo 12 = .ok (.iload_n 0, 1) := by decide +kernel
theorem dX12_isTwo_13 : decode cX12_isTwo 13 = .ok (.bipush 42, 2) := by decide +kernel
theorem dX12_isTwo_15 : decode cX12_isTwo 15 = .ok (.if_icmp .eq 33, 3) := by decide +kernel
theorem dX12_isTwo_18 : decode cX12_isTwo 18 = .ok (.iload_n 0, 1) := by decide +kernel
theorem dX12_isTwo_19 : decode cX12_isTwo 19 = .ok (.bipush 60, 2) := by decide +kernel
theorem dX12_isTwo_21 : decode cX12_isTwo 21 = .ok (.if_icmp .eq 27, 3) := by decide +kernel
theorem dX12_isTwo_24 : decode cX12_isTwo 24 = .ok (.iload_n 0, 1) := by decide +kernel
theorem dX12_isTwo_25 : decode cX12_isTwo 25 = .ok (.bipush 61, 2) := by decide +kernel
theorem dX12_isTwo_27 : decode cX12_isTwo 27 = .ok (.if_icmp .eq 21, 3) := by decide +kernel
theorem dX12_isTwo_30 : decode cX12_isTwo 30 = .ok (.iload_n 0, 1) := by decide +kernel
theorem dX12_isTwo_31 : decode cX12_isTwo 31 = .ok (.bipush 62, 2) := by decide +kernel
theorem dX12_isTwo_33 : decode cX12_isTwo 33 = .ok (.if_icmp .eq 15, 3) := by decide +kernel
theorem dX12_isTwo_36 : decode cX12_isTwo 36 = .ok (.iload_n 0, 1) := by decide +kernel
theorem dX12_isTwo_37 : decode cX12_isTwo 37 = .ok (.bipush 38, 2) := by decide +kernel
theorem dX12_isTwo_39 : decode cX12_isTwo 39 = .ok (.if_icmp .eq 9, 3) := by decide +kernel
theorem dX12_isTwo_42 : decode cX12_isTwo 42 = .ok (.iload_n 0, 1) := by decide +kernel
theorem dX12_isTwo_43 : decode cX12_isTwo 43 = .ok (.bipush 124, 2) := by decide +kernel
theorem dX12_isTwo_45 : decode cX12_isTwo 45 = .ok (.if_icmp .ne 7, 3) := by decide +kernel
theorem dX12_isTwo_48 : decode cX12_isTwo 48 = .ok (.iconst 1, 1) := by decide +kernel
theorem dX12_isTwo_49 : decode cX12_isTwo 49 = .ok (.goto 4, 3) := by decide +kernel
theorem dX12_isTwo_52 : decode cX12_isTwo 52 = .ok (.iconst 0, 1) := by decide +kernel
theorem dX12_isTwo_53 : decode cX12_isTwo 53 = .ok (.ireturn, 1) := by decide +kernel
theorem dX12_isName_0 : decode cX12_isName 0 = .ok (.iload_n 0, 1) := by decide +kernel
theorem dX12_isName_1 : decode cX12_isName 1 = .ok (.bipush 119, 2) := by decide +kernel
theorem dX12_isName_3 : decode cX12_isName 3 = .ok (.if_icmp .eq 63, 3) := by decide +kernel
theorem dX12_isName_6 : decode cX12_isName 6 = .ok (.iload_n 0, 1) := by decide +kernel
theorem dX12_isName_7 : decode cX12_isName 7 = .ok (.bipush 116, 2) := by decide +kernel
theorem dX12_isName_9 : decode cX12_isName 9 = .ok (.if_icmp .eq 57, 3) := by decide +kernel
theorem dX12_isName_12 : decode cX12_isName 12 = .ok (.iload_n 0, 1) := by decide +kernel
theorem dX12_isName_13 : decode cX12_isName 13 = .ok (.bipush 115, 2) := by decide +kernel
theorem dX12_isName_15 : decode cX12_isName 15 = .ok (.if_icmp .eq 51, 3) := by decide +kernel
theorem dX12_isName_18 : decode cX12_isName 18 = .ok (.iload_n 0, 1) := by decide +kernel
theorem dX12_isName_19 : decode cX12_isName 19 = .ok (.bipush 104, 2) := by decide +kernel
theorem dX12_isName_21 : decode cX12_isName 21 = .ok (.if_icmp .eq 45, 3) := by decide +kernel
theorem dX12_isName_24 : decode cX12_isName 24 = .ok (.iload_n 0, 1) := by decide +kernel
theorem dX12_isName_25 : decode cX12_isName 25 = .ok (.bipush 109, 2) := by decide +kernel
theorem dX12_isName_27 : decode cX12_isName 27 = .ok (.if_icmp .eq 39, 3) := by decide +kernel
theorem dX12_isName_30 : decode cX12_isName 30 = .ok (.iload_n 0, 1) := by decide +kernel
theorem dX12_isName_31 : decode cX12_isName 31 = .ok (.bipush 112, 2) := by decide +kernel
theorem dX12_isName_33 : decode cX12_isName 33 = .ok (.if_icmp .eq 33, 3) := by decide +kernel
theorem dX12_isName_36 : decode cX12_isName 36 = .ok (.iload_n 0, 1) := by decide +kernel
theorem dX12_isName_37 : decode cX12_isName 37 = .ok (.bipush 101, 2) := by decide +kernel
theorem dX12_isName_39 : decode cX12_isName 39 = .ok (.if_icmp .eq 27, 3) := by decide +kernel
theorem dX12_isName_42 : decode cX12_isName 42 = .ok (.iload_n 0, 1) := by decide +kernel
theorem dX12_isName_43 : decode cX12_isName 43 = .ok (.bipush 107, 2) := by decide +kernel
theorem dX12_isName_45 : decode cX12_isName 45 = .ok (.if_icmp .eq 21, 3) := by decide +kernel
theorem dX12_isName_48 : decode cX12_isName 48 = .ok (.iload_n 0, 1) := by decide +kernel
theorem dX12_isName_49 : decode cX12_isName 49 = .ok (.bipush 108, 2) := by decide +kernel
theorem dX12_isName_51 : decode cX12_isName 51 = .ok (.if_icmp .eq 15, 3) := by decide +kernel
theorem dX12_isName_54 : decode cX12_isName 54 = .ok (.iload_n 0, 1) := by decide +kernel
theorem dX12_isName_55 : decode cX12_isName 55 = .ok (.bipush 110, 2) := by decide +kernel
theorem dX12_isName_57 : decode cX12_isName 57 = .ok (.if_icmp .eq 9, 3) := by decide +kernel
theorem dX12_isName_60 : decode cX12_isName 60 = .ok (.iload_n 0, 1) := by decide +kernel
theorem dX12_isName_61 : decode cX12_isName 61 = .ok (.bipush 102, 2) := by decide +kernel
theorem dX12_isName_63 : decode cX12_isName 63 = .ok (.if_icmp .ne 7, 3) := by decide +kernel
theorem dX12_isName_66 : decode cX12_isName 66 = .ok (.iconst 1, 1) := by decide +kernel
theorem dX12_isName_67 : decode cX12_isName 67 = .ok (.goto 4, 3) := by decide +kernel
theorem dX12_isName_70 : decode cX12_isName 70 = .ok (.iconst 0, 1) := by decide +kernel
theorem dX12_isName_71 : decode cX12_isName 71 = .ok (.ireturn, 1) := by decide +kernel
theorem dX12_isDigit_0 : decode cX12_isDigit 0 = .ok (.iload_n 0, 1) := by decide +kernel
theorem dX12_isDigit_1 : decode cX12_isDigit 1 = .ok (.bipush 48, 2) := by decide +kernel
theorem dX12_isDigit_3 : decode cX12_isDigit 3 = .ok (.if_icmp .lt 13, 3) := by decide +kernel
theorem dX12_isDigit_6 : decode cX12_isDigit 6 = .ok (.iload_n 0, 1) := by decide +kernel
theorem dX12_isDigit_7 : decode cX12_isDigit 7 = .ok (.bipush 57, 2) := by decide +kernel
theorem dX12_isDigit_9 : decode cX12_isDigit 9 = .ok (.if_icmp .gt 7, 3) := by decide +kernel
theorem dX12_isDigit_12 : decode cX12_isDigit 12 = .ok (.iconst 1, 1) := by decide +kernel
theorem dX12_isDigit_13 : decode cX12_isDigit 13 = .ok (.goto 4, 3) := by decide +kernel
theorem dX12_isDigit_16 : decode cX12_isDigit 16 = .ok (.iconst 0, 1) := by decide +kernel
theorem dX12_isDigit_17 : decode cX12_isDigit 17 = .ok (.ireturn, 1) := by decide +kernel
theorem dX12_fault_0 : decode cX12_fault 0 = .ok (.iconst 0, 1) := by decide +kernel
theorem dX12_fault_1 : decode cX12_fault 1 = .ok (.istore_n 1, 1) := by decide +kernel
theorem dX12_fault_2 : decode cX12_fault 2 = .ok (.iconst 0, 1) := by decide +kernel
theorem dX12_fault_3 : decode cX12_fault 3 = .ok (.istore_n 2, 1) := by decide +kernel
theorem dX12_fault_4 : decode cX12_fault 4 = .ok (.iconst 0, 1) := by decide +kernel
theorem dX12_fault_5 : decode cX12_fault 5 = .ok (.istore_n 3, 1) := by decide +kernel
theorem dX12_fault_6 : decode cX12_fault 6 = .ok (.iload_n 3, 1) := by decide +kernel
theorem dX12_fault_7 : decode cX12_fault 7 = .ok (.aload_n 0, 1) := by decide +kernel
theorem dX12_fault_8 : decode cX12_fault 8 = .ok (.getfield 170, 3) := by decide +kernel
theorem dX12_fault_11 : decode cX12_fault 11 = .ok (.if_icmp .ge 171, 3) := by decide +kernel
theorem dX12_fault_14 : decode cX12_fault 14 = .ok (.aload_n 0, 1) := by decide +kernel
theorem dX12_fault_15 : decode cX12_fault 15 = .ok (.getfield 86, 3) := by decide +kernel
theorem dX12_fault_18 : decode cX12_fault 18 = .ok (.iload_n 3, 1) := by decide +kernel
theorem dX12_fault_19 : decode cX12_fault 19 = .ok (.iaload, 1) := by decide +kernel
theorem dX12_fault_20 : decode cX12_fault 20 = .ok (.istore 4, 2) := by decide +kernel
theorem dX12_fault_22 : decode cX12_fault 22 = .ok (.iload 4, 2) := by decide +kernel
theorem dX12_fault_24 : decode cX12_fault 24 = .ok (.invokestatic 173, 3) := by decide +kernel
theorem dX12_fault_27 : decode cX12_fault 27 = .ok (.ifCond .eq 9, 3) := by decide +kernel
theorem dX12_fault_30 : decode cX12_fault 30 = .ok (.iload_n 2, 1) := by decide +kernel
theorem dX12_fault_31 : decode cX12_fault 31 = .ok (.iconst 1, 1) := by decide +kernel
theorem dX12_fault_32 : decode cX12_fault 32 = .ok (.iadd, 1) := by decide +kernel
theorem dX12_fault_33 : decode cX12_fault 33 = .ok (.goto 4, 3) := by decide +kernel
theorem dX12_fault_36 : decode cX12_fault 36 = .ok (.iconst 0, 1) := by decide +kernel
theorem dX12_fault_37 : decode cX12_fault 37 = .ok (.istore_n 2, 1) := by decide +kernel
theorem dX12_fault_38 : decode cX12_fault 38 = .ok (.iload_n 2, 1) := by decide +kernel
theorem dX12_fault_39 : decode cX12_fault 39 = .ok (.iconst 1, 1) := by decide +kernel
theorem dX12_fault_40 : decode cX12_fault 40 = .ok (.if_icmp .eq 11, 3) := by decide +kernel
theorem dX12_fault_43 : decode cX12_fault 43 = .ok (.iload 4, 2) := by decide +kernel
theorem dX12_fault_45 : decode cX12_fault 45 = .ok (.invokestatic 176, 3) := by decide +kernel
theorem dX12_fault_48 : decode cX12_fault 48 = .ok (.ifCond .eq 7, 3) := by decide +kernel
theorem dX12_fault_51 : decode cX12_fault 51 = .ok (.iconst 1, 1) := by decide +kernel
theorem dX12_fault_52 : decode cX12_fault 52 = .ok (.goto 4, 3) := by decide +kernel
theorem dX12_fault_55 : decode cX12_fault 55 = .ok (.iconst 0, 1) := by decide +kernel
theorem dX12_fault_56 : decode cX12_fault 56 = .ok (.istore 5, 2) := by decide +kernel
theorem dX12_fault_58 : decode cX12_fault 58 = .ok (.iload 4, 2) := by decide +kernel
theorem dX12_fault_60 : decode cX12_fault 60 = .ok (.invokestatic 173, 3) := by decide +kernel
theorem dX12_fault_63 : decode cX12_fault 63 = .ok (.ifCond .ne 33, 3) := by decide +kernel
theorem dX12_fault_66 : decode cX12_fault 66 = .ok (.iload 4, 2) := by decide +kernel
theorem dX12_fault_68 : decode cX12_fault 68 = .ok (.invokestatic 176, 3) := by decide +kernel
theorem dX12_fault_71 : decode cX12_fault 71 = .ok (.ifCond .ne 25, 3) := by decide +kernel
theorem dX12_fault_74 : decode cX12_fault 74 = .ok (.iload 4, 2) := by decide +kernel
theorem dX12_fault_76 : decode cX12_fault 76 = .ok (.invokestatic 179, 3) := by decide +kernel
theorem dX12_fault_79 : decode cX12_fault 79 = .ok (.ifCond .ne 17, 3) := by decide +kernel
theorem dX12_fault_82 : decode cX12_fault 82 = .ok (.iload 4, 2) := by decide +kernel
theorem dX12_fault_84 : decode cX12_fault 84 = .ok (.bipush 33, 2) := by decide +kernel
theorem dX12_fault_86 : decode cX12_fault 86 = .ok (.if_icmp .eq 10, 3) := by decide +kernel
theorem dX12_fault_89 : decode cX12_fault 89 = .ok (.iload 4, 2) := by decide +kernel
theorem dX12_fault_91 : decode cX12_fault 91 = .ok (.bipush 32, 2) := by decide +kernel
theorem dX12_fault_93 : decode cX12_fault 93 = .ok (.if_icmp .ne 7, 3) := by decide +kernel
theorem dX12_fault_96 : decode cX12_fault 96 = .ok (.iconst 1, 1) := by decide +kernel
theorem dX12_fault_97 : decode cX12_fault 97 = .ok (.goto 4, 3) := by decide +kernel
theorem dX12_fault_100 : decode cX12_fault 100 = .ok (.iconst 0, 1) := by decide +kernel
theorem dX12_fault_101 : decode cX12_fault 101 = .ok (.istore 6, 2) := by decide +kernel
theorem dX12_fault_103 : decode cX12_fault 103 = .ok (.iload 6, 2) := by decide +kernel
theorem dX12_fault_105 : decode cX12_fault 105 = .ok (.ifCond .eq 44, 3) := by decide +kernel
theorem dX12_fault_108 : decode cX12_fault 108 = .ok (.iload_n 2, 1) := by decide +kernel
theorem dX12_fault_109 : decode cX12_fault 109 = .ok (.iconst 4, 1) := by decide +kernel
theorem dX12_fault_110 : decode cX12_fault 110 = .ok (.if_icmp .eq 39, 3) := by decide +kernel
theorem dX12_fault_113 : decode cX12_fault 113 = .ok (.iload 5, 2) := by decide +kernel
theorem dX12_fault_115 : decode cX12_fault 115 = .ok (.ifCond .eq 9, 3) := by decide +kernel
theorem dX12_fault_118 : decode cX12_fault 118 = .ok (.iload_n 1, 1) := by decide +kernel
theorem dX12_fault_119 : decode cX12_fault 119 = .ok (.bipush 20, 2) := by decide +kernel
theorem dX12_fault_121 : decode cX12_fault 121 = .ok (.if_icmp .eq 28, 3) := by decide +kernel
theorem dX12_fault_124 : decode cX12_fault 124 = .ok (.iload 4, 2) := by decide +kernel
theorem dX12_fault_126 : decode cX12_fault 126 = .ok (.invokestatic 179, 3) := by decide +kernel
theorem dX12_fault_129 : decode cX12_fault 129 = .ok (.ifCond .eq 8, 3) := by decide +kernel
theorem dX12_fault_132 : decode cX12_fault 132 = .ok (.iload_n 1, 1) := by decide +kernel
theorem dX12_fault_133 : decode cX12_fault 133 = .ok (.iconst 2, 1) := by decide +kernel
theorem dX12_fault_134 : decode cX12_fault 134 = .ok (.if_icmp .lt 15, 3) := by decide +kernel
theorem dX12_fault_137 : decode cX12_fault 137 = .ok (.iload 4, 2) := by decide +kernel
theorem dX12_fault_139 : decode cX12_fault 139 = .ok (.bipush 33, 2) := by decide +kernel
theorem dX12_fault_141 : decode cX12_fault 141 = .ok (.if_icmp .ne 10, 3) := by decide +kernel
theorem dX12_fault_144 : decode cX12_fault 144 = .ok (.iload_n 1, 1) := by decide +kernel
theorem dX12_fault_145 : decode cX12_fault 145 = .ok (.iconst 1, 1) := by decide +kernel
theorem dX12_fault_146 : decode cX12_fault 146 = .ok (.if_icmp .ge 5, 3) := by decide +kernel
theorem dX12_fault_149 : decode cX12_fault 149 = .ok (.iload_n 3, 1) := by decide +kernel
theorem dX12_fault_150 : decode cX12_fault 150 = .ok (.ireturn, 1) := by decide +kernel
theorem dX12_fault_151 : decode cX12_fault 151 = .ok (.iload_n 1, 1) := by decide +kernel
theorem dX12_fault_152 : decode cX12_fault 152 = .ok (.iload 5, 2) := by decide +kernel
theorem dX12_fault_154 : decode cX12_fault 154 = .ok (.ifCond .eq 7, 3) := by decide +kernel
theorem dX12_fault_157 : decode cX12_fault 157 = .ok (.iconst 1, 1) := by decide +kernel
theorem dX12_fault_158 : decode cX12_fault 158 = .ok (.goto 16, 3) := by decide +kernel
theorem dX12_fault_161 : decode cX12_fault 161 = .ok (.iload 4, 2) := by decide +kernel
theorem dX12_fault_163 : decode cX12_fault 163 = .ok (.invokestatic 179, 3) := by decide +kernel
theorem dX12_fault_166 : decode cX12_fault 166 = .ok (.ifCond .eq 7, 3) := by decide +kernel
theorem dX12_fault_169 : decode cX12_fault 169 = .ok (.iconst (-1), 1) := by decide +kernel
theorem dX12_fault_170 : decode cX12_fault 170 = .ok (.goto 4, 3) := by decide +kernel
theorem dX12_fault_173 : decode cX12_fault 173 = .ok (.iconst 0, 1) := by decide +kernel
theorem dX12_fault_174 : decode cX12_fault 174 = .ok (.iadd, 1) := by decide +kernel
theorem dX12_fault_175 : decode cX12_fault 175 = .ok (.istore_n 1, 1) := by decide +kernel
theorem dX12_fault_176 : decode cX12_fault 176 = .ok (.iinc 3 1, 3) := by decide +kernel
theorem dX12_fault_179 : decode cX12_fault 179 = .ok (.goto (-173), 3) := by decide +kernel
theorem dX12_fault_182 : decode cX12_fault 182 = .ok (.iload_n 1, 1) := by decide +kernel
theorem dX12_fault_183 : decode cX12_fault 183 = .ok (.iconst 1, 1) := by decide +kernel
theorem dX12_fault_184 : decode cX12_fault 184 = .ok (.if_icmp .ne 7, 3) := by decide +kernel
theorem dX12_fault_187 : decode cX12_fault 187 = .ok (.iconst (-1), 1) := by decide +kernel
theorem dX12_fault_188 : decode cX12_fault 188 = .ok (.goto 7, 3) := by decide +kernel
theorem dX12_fault_191 : decode cX12_fault 191 = .ok (.aload_n 0, 1) := by decide +kernel
theorem dX12_fault_192 : decode cX12_fault 192 = .ok (.getfield 170, 3) := by decide +kernel
theorem dX12_fault_195 : decode cX12_fault 195 = .ok (.ireturn, 1) := by decide +kernel
theorem dX12_rule_0 : decode cX12_rule 0 = .ok (.aload_n 0, 1) := by decide +kernel
theorem dX12_rule_1 : decode cX12_rule 1 = .ok (.getfield 182, 3) := by decide +kernel
theorem dX12_rule_4 : decode cX12_rule 4 = .ok (.bipush 10, 2) := by decide +kernel
theorem dX12_rule_6 : decode cX12_rule 6 = .ok (.if_icmp .ne 6, 3) := by decide +kernel
theorem dX12_rule_9 : decode cX12_rule 9 = .ok (.bipush (-2), 2) := by decide +kernel
theorem dX12_rule_11 : decode cX12_rule 11 = .ok (.ireturn, 1) := by decide +kernel
theorem dX12_rule_12 : decode cX12_rule 12 = .ok (.aload_n 0, 1) := by decide +kernel
theorem dX12_rule_13 : decode cX12_rule 13 = .ok (.invokevirtual 185, 3) := by decide +kernel
theorem dX12_rule_16 : decode cX12_rule 16 = .ok (.istore_n 1, 1) := by decide +kernel
theorem dX12_rule_17 : decode cX12_rule 17 = .ok (.aload_n 0, 1) := by decide +kernel
theorem dX12_rule_18 : decode cX12_rule 18 = .ok (.getfield 170, 3) := by decide +kernel
theorem dX12_rule_21 : decode cX12_rule 21 = .ok (.istore_n 2, 1) := by decide +kernel
theorem dX12_rule_22 : decode cX12_rule 22 = .ok (.aload_n 0, 1) := by decide +kernel
theorem dX12_rule_23 : decode cX12_rule 23 = .ok (.iconst 0, 1) := by decide +kernel
theorem dX12_rule_24 : decode cX12_rule 24 = .ok (.putfield 170, 3) := by decide +kernel
theorem dX12_rule_27 : decode cX12_rule 27 = .ok (.iload_n 1, 1) := by decide +kernel
theorem dX12_rule_28 : decode cX12_rule 28 = .ok (.ifCond .lt 8, 3) := by decide +kernel
theorem dX12_rule_31 : decode cX12_rule 31 = .ok (.bipush (-100), 2) := by decide +kernel
theorem dX12_rule_33 : decode cX12_rule 33 = .ok (.iload_n 1, 1) := by decide +kernel
theorem dX12_rule_34 : decode cX12_rule 34 = .ok (.isub, 1) := by decide +kernel
theorem dX12_rule_35 : decode cX12_rule 35 = .ok (.ireturn, 1) := by decide +kernel
theorem dX12_rule_36 : decode cX12_rule 36 = .ok (.iconst 0, 1) := by decide +kernel
theorem dX12_rule_37 : decode cX12_rule 37 = .ok (.istore_n 3, 1) := by decide +kernel
theorem dX12_rule_38 : decode cX12_rule 38 = .ok (.iload_n 3, 1) := by decide +kernel
theorem dX12_rule_39 : decode cX12_rule 39 = .ok (.iload_n 2, 1) := by decide +kernel
theorem dX12_rule_40 : decode cX12_rule 40 = .ok (.if_icmp .ge 29, 3) := by decide +kernel
theorem dX12_rule_43 : decode cX12_rule 43 = .ok (.aload_n 0, 1) := by decide +kernel
theorem dX12_rule_44 : decode cX12_rule 44 = .ok (.getfield 89, 3) := by decide +kernel
theorem dX12_rule_47 : decode cX12_rule 47 = .ok (.bipush 60, 2) := by decide +kernel
theorem dX12_rule_49 : decode cX12_rule 49 = .ok (.aload_n 0, 1) := by decide +kernel
theorem dX12_rule_50 : decode cX12_rule 50 = .ok (.getfield 182, 3) := by decide +kernel
theorem dX12_rule_53 : decode cX12_rule 53 = .ok (.imul, 1) := by decide +kernel
theorem dX12_rule_54 : decode cX12_rule 54 = .ok (.iload_n 3, 1) := by decide +kernel
theorem dX12_rule_55 : decode cX12_rule 55 = .ok (.iadd, 1) := by decide +kernel
theorem dX12_rule_56 : decode cX12_rule 56 = .ok (.aload_n 0, 1) := by decide +kernel
theorem dX12_rule_57 : decode cX12_rule 57 = .ok (.getfield 86, 3) := by decide +kernel
theorem dX12_rule_60 : decode cX12_rule 60 = .ok (.iload_n 3, 1) := by decide +kernel
theorem dX12_rule_61 : decode cX12_rule 61 = .ok (.iaload, 1) := by decide +kernel
theorem dX12_rule_62 : decode cX12_rule 62 = .ok (.iastore, 1) := by decide +kernel
theorem dX12_rule_63 : decode cX12_rule 63 = .ok (.iinc 3 1, 3) := by decide +kernel
theorem dX12_rule_66 : decode cX12_rule 66 = .ok (.goto (-28), 3) := by decide +kernel
theorem dX12_rule_69 : decode cX12_rule 69 = .ok (.aload_n 0, 1) := by decide +kernel
theorem dX12_rule_70 : decode cX12_rule 70 = .ok (.getfield 92, 3) := by decide +kernel
theorem dX12_rule_73 : decode cX12_rule 73 = .ok (.aload_n 0, 1) := by decide +kernel
theorem dX12_rule_74 : decode cX12_rule 74 = .ok (.getfield 182, 3) := by decide +kernel
theorem dX12_rule_77 : decode cX12_rule 77 = .ok (.iload_n 2, 1) := by decide +kernel
theorem dX12_rule_78 : decode cX12_rule 78 = .ok (.iastore, 1) := by decide +kernel
theorem dX12_rule_79 : decode cX12_rule 79 = .ok (.aload_n 0, 1) := by decide +kernel
theorem dX12_rule_80 : decode cX12_rule 80 = .ok (.dup, 1) := by decide +kernel
theorem dX12_rule_81 : decode cX12_rule 81 = .ok (.getfield 182, 3) := by decide +kernel
theorem dX12_rule_84 : decode cX12_rule 84 = .ok (.iconst 1, 1) := by decide +kernel
theorem dX12_rule_85 : decode cX12_rule 85 = .ok (.iadd, 1) := by decide +kernel
theorem dX12_rule_86 : decode cX12_rule 86 = .ok (.putfield 182, 3) := by decide +kernel
theorem dX12_rule_89 : decode cX12_rule 89 = .ok (.aload_n 0, 1) := by decide +kernel
theorem dX12_rule_90 : decode cX12_rule 90 = .ok (.getfield 182, 3) := by decide +kernel
theorem dX12_rule_93 : decode cX12_rule 93 = .ok (.iconst 1, 1) := by decide +kernel
theorem dX12_rule_94 : decode cX12_rule 94 = .ok (.isub, 1) := by decide +kernel
theorem dX12_rule_95 : decode cX12_rule 95 = .ok (.ireturn, 1) := by decide +kernel
theorem dX12_drop_0 : decode cX12_drop 0 = .ok (.aload_n 0, 1) := by decide +kernel
theorem dX12_drop_1 : decode cX12_drop 1 = .ok (.getfield 182, 3) := by decide +kernel
theorem dX12_drop_4 : decode cX12_drop 4 = .ok (.ifCond .ne 6, 3) := by decide +kernel
theorem dX12_drop_7 : decode cX12_drop 7 = .ok (.bipush (-3), 2) := by decide +kernel
theorem dX12_drop_9 : decode cX12_drop 9 = .ok (.ireturn, 1) := by decide +kernel
theorem dX12_drop_10 : decode cX12_drop 10 = .ok (.aload_n 0, 1) := by decide +kernel
theorem dX12_drop_11 : decode cX12_drop 11 = .ok (.dup, 1) := by decide +kernel
theorem dX12_drop_12 : decode cX12_drop 12 = .ok (.getfield 182, 3) := by decide +kernel
theorem dX12_drop_15 : decode cX12_drop 15 = .ok (.iconst 1, 1) := by decide +kernel
theorem dX12_drop_16 : decode cX12_drop 16 = .ok (.isub, 1) := by decide +kernel
theorem dX12_drop_17 : decode cX12_drop 17 = .ok (.putfield 182, 3) := by decide +kernel
theorem dX12_drop_20 : decode cX12_drop 20 = .ok (.aload_n 0, 1) := by decide +kernel
theorem dX12_drop_21 : decode cX12_drop 21 = .ok (.getfield 182, 3) := by decide +kernel
theorem dX12_drop_24 : decode cX12_drop 24 = .ok (.ireturn, 1) := by decide +kernel
theorem dX12_lay_0 : decode cX12_lay 0 = .ok (.aload_n 0, 1) := by decide +kernel
theorem dX12_lay_1 : decode cX12_lay 1 = .ok (.getfield 95, 3) := by decide +kernel
theorem dX12_lay_4 : decode cX12_lay 4 = .ok (.aload_n 0, 1) := by decide +kernel
theorem dX12_lay_5 : decode cX12_lay 5 = .ok (.getfield 189, 3) := by decide +kernel
theorem dX12_lay_8 : decode cX12_lay 8 = .ok (.iload_n 1, 1) := by decide +kernel
theorem dX12_lay_9 : decode cX12_lay 9 = .ok (.iastore, 1) := by decide +kernel
theorem dX12_lay_10 : decode cX12_lay 10 = .ok (.aload_n 0, 1) := by decide +kernel
theorem dX12_lay_11 : decode cX12_lay 11 = .ok (.dup, 1) := by decide +kernel
theorem dX12_lay_12 : decode cX12_lay 12 = .ok (.getfield 189, 3) := by decide +kernel
theorem dX12_lay_15 : decode cX12_lay 15 = .ok (.iconst 1, 1) := by decide +kernel
theorem dX12_lay_16 : decode cX12_lay 16 = .ok (.iadd, 1) := by decide +kernel
theorem dX12_lay_17 : decode cX12_lay 17 = .ok (.putfield 189, 3) := by decide +kernel
theorem dX12_lay_20 : decode cX12_lay 20 = .ok (.return_, 1) := by decide +kernel
theorem dX12_take_0 : decode cX12_take 0 = .ok (.aload_n 0, 1) := by decide +kernel
theorem dX12_take_1 : decode cX12_take 1 = .ok (.dup, 1) := by decide +kernel
theorem dX12_take_2 : decode cX12_take 2 = .ok (.getfield 189, 3) := by decide +kernel
theorem dX12_take_5 : decode cX12_take 5 = .ok (.iconst 1, 1) := by decide +kernel
theorem dX12_take_6 : decode cX12_take 6 = .ok (.isub, 1) := by decide +kernel
theorem dX12_take_7 : decode cX12_take 7 = .ok (.putfield 189, 3) := by decide +kernel
theorem dX12_take_10 : decode cX12_take 10 = .ok (.aload_n 0, 1) := by decide +kernel
theorem dX12_take_11 : decode cX12_take 11 = .ok (.getfield 95, 3) := by decide +kernel
theorem dX12_take_14 : decode cX12_take 14 = .ok (.aload_n 0, 1) := by decide +kernel
theorem dX12_take_15 : decode cX12_take 15 = .ok (.getfield 189, 3) := by decide +kernel
theorem dX12_take_18 : decode cX12_take 18 = .ok (.iaload, 1) := by decide +kernel
theorem dX12_take_19 : decode cX12_take 19 = .ok (.ireturn, 1) := by decide +kernel
theorem dX12_both_0 : decode cX12_both 0 = .ok (.iload_n 0, 1) := by decide +kernel
theorem dX12_both_1 : decode cX12_both 1 = .ok (.tableswitch 174 38 62 #[160, 174, 174, 174, 123, 115, 174, 119, 174, 174, 174, 174, 174, 174, 174, 174, 174, 174, 174, 174, 174, 174, 127, 138, 149], 115) := by decide +kernel
theorem dX12_both_116 : decode cX12_both 116 = .ok (.iload_n 1, 1) := by decide +kernel
theorem dX12_both_117 : decode cX12_both 117 = .ok (.iload_n 2, 1) := by decide +kernel
theorem dX12_both_118 : decode cX12_both 118 = .ok (.iadd, 1) := by decide +kernel
theorem dX12_both_119 : decode cX12_both 119 = .ok (.ireturn, 1) := by decide +kernel
theorem dX12_both_120 : decode cX12_both 120 = .ok (.iload_n 1, 1) := by decide +kernel
theorem dX12_both_121 : decode cX12_both 121 = .ok (.iload_n 2, 1) := by decide +kernel
theorem dX12_both_122 : decode cX12_both 122 = .ok (.isub, 1) := by decide +kernel
theorem dX12_both_123 : decode cX12_both 123 = .ok (.ireturn, 1) := by decide +kernel
theorem dX12_both_124 : decode cX12_both 124 = .ok (.iload_n 1, 1) := by decide +kernel
theorem dX12_both_125 : decode cX12_both 125 = .ok (.iload_n 2, 1) := by decide +kernel
theorem dX12_both_126 : decode cX12_both 126 = .ok (.imul, 1) := by decide +kernel
theorem dX12_both_127 : decode cX12_both 127 = .ok (.ireturn, 1) := by decide +kernel
theorem dX12_both_128 : decode cX12_both 128 = .ok (.iload_n 1, 1) := by decide +kernel
theorem dX12_both_129 : decode cX12_both 129 = .ok (.iload_n 2, 1) := by decide +kernel
theorem dX12_both_130 : decode cX12_both 130 = .ok (.if_icmp .ge 7, 3) := by decide +kernel
theorem dX12_both_133 : decode cX12_both 133 = .ok (.iconst 1, 1) := by decide +kernel
theorem dX12_both_134 : decode cX12_both 134 = .ok (.goto 4, 3) := by decide +kernel
theorem dX12_both_137 : decode cX12_both 137 = .ok (.iconst 0, 1) := by decide +kernel
theorem dX12_both_138 : decode cX12_both 138 = .ok (.ireturn, 1) := by decide +kernel
theorem dX12_both_139 : decode cX12_both 139 = .ok (.iload_n 1, 1) := by decide +kernel
theorem dX12_both_140 : decode cX12_both 140 = .ok (.iload_n 2, 1) := by decide +kernel
theorem dX12_both_141 : decode cX12_both 141 = .ok (.if_icmp .ne 7, 3) := by decide +kernel
theorem dX12_both_144 : decode cX12_both 144 = .ok (.iconst 1, 1) := by decide +kernel
theorem dX12_both_145 : decode cX12_both 145 = .ok (.goto 4, 3) := by decide +kernel
theorem dX12_both_148 : decode cX12_both 148 = .ok (.iconst 0, 1) := by decide +kernel
theorem dX12_both_149 : decode cX12_both 149 = .ok (.ireturn, 1) := by decide +kernel
theorem dX12_both_150 : decode cX12_both 150 = .ok (.iload_n 1, 1) := by decide +kernel
theorem dX12_both_151 : decode cX12_both 151 = .ok (.iload_n 2, 1) := by decide +kernel
theorem dX12_both_152 : decode cX12_both 152 = .ok (.if_icmp .le 7, 3) := by decide +kernel
theorem dX12_both_155 : decode cX12_both 155 = .ok (.iconst 1, 1) := by decide +kernel
theorem dX12_both_156 : decode cX12_both 156 = .ok (.goto 4, 3) := by decide +kernel
theorem dX12_both_159 : decode cX12_both 159 = .ok (.iconst 0, 1) := by decide +kernel
theorem dX12_both_160 : decode cX12_both 160 = .ok (.ireturn, 1) := by decide +kernel
theorem dX12_both_161 : decode cX12_both 161 = .ok (.iload_n 1, 1) := by decide +kernel
theorem dX12_both_162 : decode cX12_both 162 = .ok (.ifCond .eq 11, 3) := by decide +kernel
theorem dX12_both_165 : decode cX12_both 165 = .ok (.iload_n 2, 1) := by decide +kernel
theorem dX12_both_166 : decode cX12_both 166 = .ok (.ifCond .eq 7, 3) := by decide +kernel
theorem dX12_both_169 : decode cX12_both 169 = .ok (.iconst 1, 1) := by decide +kernel
theorem dX12_both_170 : decode cX12_both 170 = .ok (.goto 4, 3) := by decide +kernel
theorem dX12_both_173 : decode cX12_both 173 = .ok (.iconst 0, 1) := by decide +kernel
theorem dX12_both_174 : decode cX12_both 174 = .ok (.ireturn, 1) := by decide +kernel
theorem dX12_both_175 : decode cX12_both 175 = .ok (.iload_n 1, 1) := by decide +kernel
theorem dX12_both_176 : decode cX12_both 176 = .ok (.ifCond .ne 7, 3) := by decide +kernel
theorem dX12_both_179 : decode cX12_both 179 = .ok (.iload_n 2, 1) := by decide +kernel
theorem dX12_both_180 : decode cX12_both 180 = .ok (.ifCond .eq 7, 3) := by decide +kernel
theorem dX12_both_183 : decode cX12_both 183 = .ok (.iconst 1, 1) := by decide +kernel
theorem dX12_both_184 : decode cX12_both 184 = .ok (.goto 4, 3) := by decide +kernel
theorem dX12_both_187 : decode cX12_both 187 = .ok (.iconst 0, 1) := by decide +kernel
theorem dX12_both_188 : decode cX12_both 188 = .ok (.ireturn, 1) := by decide +kernel
theorem dX12_workedOut_0 : decode cX12_workedOut 0 = .ok (.aload_n 0, 1) := by decide +kernel
theorem dX12_workedOut_1 : decode cX12_workedOut 1 = .ok (.iconst 0, 1) := by decide +kernel
theorem dX12_workedOut_2 : decode cX12_workedOut 2 = .ok (.putfield 189, 3) := by decide +kernel
theorem dX12_workedOut_5 : decode cX12_workedOut 5 = .ok (.iconst (-1), 1) := by decide +kernel
theorem dX12_workedOut_6 : decode cX12_workedOut 6 = .ok (.istore 6, 2) := by decide +kernel
theorem dX12_workedOut_8 : decode cX12_workedOut 8 = .ok (.iconst 0, 1) := by decide +kernel
theorem dX12_workedOut_9 : decode cX12_workedOut 9 = .ok (.istore 7, 2) := by decide +kernel
theorem dX12_workedOut_11 : decode cX12_workedOut 11 = .ok (.iload 7, 2) := by decide +kernel
theorem dX12_workedOut_13 : decode cX12_workedOut 13 = .ok (.aload_n 0, 1) := by decide +kernel
theorem dX12_workedOut_14 : decode cX12_workedOut 14 = .ok (.getfield 92, 3) := by decide +kernel
theorem dX12_workedOut_17 : decode cX12_workedOut 17 = .ok (.iload_n 1, 1) := by decide +kernel
theorem dX12_workedOut_18 : decode cX12_workedOut 18 = .ok (.iaload, 1) := by decide +kernel
theorem dX12_workedOut_19 : decode cX12_workedOut 19 = .ok (.if_icmp .ge 159, 3) := by decide +kernel
theorem dX12_workedOut_22 : decode cX12_workedOut 22 = .ok (.aload_n 0, 1) := by decide +kernel
theorem dX12_workedOut_23 : decode cX12_workedOut 23 = .ok (.getfield 89, 3) := by decide +kernel
theorem dX12_workedOut_26 : decode cX12_workedOut 26 = .ok (.bipush 60, 2) := by decide +kernel
theorem dX12_workedOut_28 : decode cX12_workedOut 28 = .ok (.iload_n 1, 1) := by decide +kernel
theorem dX12_workedOut_29 : decode cX12_workedOut 29 = .ok (.imul, 1) := by decide +kernel
theorem dX12_workedOut_30 : decode cX12_workedOut 30 = .ok (.iload 7, 2) := by decide +kernel
theorem dX12_workedOut_32 : decode cX12_workedOut 32 = .ok (.iadd, 1) := by decide +kernel
theorem dX12_workedOut_33 : decode cX12_workedOut 33 = .ok (.iaload, 1) := by decide +kernel
theorem dX12_workedOut_34 : decode cX12_workedOut 34 = .ok (.istore 8, 2) := by decide +kernel
theorem dX12_workedOut_36 : decode cX12_workedOut 36 = .ok (.iload 8, 2) := by decide +kernel
theorem dX12_workedOut_38 : decode cX12_workedOut 38 = .ok (.invokestatic 173, 3) := by decide +kernel
theorem dX12_workedOut_41 : decode cX12_workedOut 41 = .ok (.ifCond .eq 32, 3) := by decide +kernel
theorem dX12_workedOut_44 : decode cX12_workedOut 44 = .ok (.iload 6, 2) := by decide +kernel
theorem dX12_workedOut_46 : decode cX12_workedOut 46 = .ok (.ifCond .ge 11, 3) := by decide +kernel
theorem dX12_workedOut_49 : decode cX12_workedOut 49 = .ok (.iload 8, 2) := by decide +kernel
theorem dX12_workedOut_51 : decode cX12_workedOut 51 = .ok (.bipush 48, 2) := by decide +kernel
theorem dX12_workedOut_53 : decode cX12_workedOut 53 = .ok (.isub, 1) := by decide +kernel
theorem dX12_workedOut_54 : decode cX12_workedOut 54 = .ok (.goto 14, 3) := by decide +kernel
theorem dX12_workedOut_57 : decode cX12_workedOut 57 = .ok (.bipush 10, 2) := by decide +kernel
theorem dX12_workedOut_59 : decode cX12_workedOut 59 = .ok (.iload 6, 2) := by decide +kernel
theorem dX12_workedOut_61 : decode cX12_workedOut 61 = .ok (.imul, 1) := by decide +kernel
theorem dX12_workedOut_62 : decode cX12_workedOut 62 = .ok (.iload 8, 2) := by decide +kernel
theorem dX12_workedOut_64 : decode cX12_workedOut 64 = .ok (.iadd, 1) := by decide +kernel
theorem dX12_workedOut_65 : decode cX12_workedOut 65 = .ok (.bipush 48, 2) := by decide +kernel
theorem dX12_workedOut_67 : decode cX12_workedOut 67 = .ok (.isub, 1) := by decide +kernel
theorem dX12_workedOut_68 : decode cX12_workedOut 68 = .ok (.istore 6, 2) := by decide +kernel
theorem dX12_workedOut_70 : decode cX12_workedOut 70 = .ok (.goto 102, 3) := by decide +kernel
theorem dX12_workedOut_73 : decode cX12_workedOut 73 = .ok (.iload 6, 2) := by decide +kernel
theorem dX12_workedOut_75 : decode cX12_workedOut 75 = .ok (.ifCond .lt 12, 3) := by decide +kernel
theorem dX12_workedOut_78 : decode cX12_workedOut 78 = .ok (.aload_n 0, 1) := by decide +kernel
theorem dX12_workedOut_79 : decode cX12_workedOut 79 = .ok (.iload 6, 2) := by decide +kernel
theorem dX12_workedOut_81 : decode cX12_workedOut 81 = .ok (.invokevirtual 192, 3) := by decide +kernel
theorem dX12_workedOut_84 : decode cX12_workedOut 84 = .ok (.iconst (-1), 1) := by decide +kernel
theorem dX12_workedOut_85 : decode cX12_workedOut 85 = .ok (.istore 6, 2) := by decide +kernel
theorem dX12_workedOut_87 : decode cX12_workedOut 87 = .ok (.iload 8, 2) := by decide +kernel
theorem dX12_workedOut_89 : decode cX12_workedOut 89 = .ok (.invokestatic 179, 3) := by decide +kernel
theorem dX12_workedOut_92 : decode cX12_workedOut 92 = .ok (.ifCond .eq 31, 3) := by decide +kernel
theorem dX12_workedOut_95 : decode cX12_workedOut 95 = .ok (.aload_n 0, 1) := by decide +kernel
theorem dX12_workedOut_96 : decode cX12_workedOut 96 = .ok (.invokevirtual 196, 3) := by decide +kernel
theorem dX12_workedOut_99 : decode cX12_workedOut 99 = .ok (.istore 9, 2) := by decide +kernel
theorem dX12_workedOut_101 : decode cX12_workedOut 101 = .ok (.aload_n 0, 1) := by decide +kernel
theorem dX12_workedOut_102 : decode cX12_workedOut 102 = .ok (.invokevirtual 196, 3) := by decide +kernel
theorem dX12_workedOut_105 : decode cX12_workedOut 105 = .ok (.istore 10, 2) := by decide +kernel
theorem dX12_workedOut_107 : decode cX12_workedOut 107 = .ok (.aload_n 0, 1) := by decide +kernel
theorem dX12_workedOut_108 : decode cX12_workedOut 108 = .ok (.iload 8, 2) := by decide +kernel
theorem dX12_workedOut_110 : decode cX12_workedOut 110 = .ok (.iload 10, 2) := by decide +kernel
theorem dX12_workedOut_112 : decode cX12_workedOut 112 = .ok (.iload 9, 2) := by decide +kernel
theorem dX12_workedOut_114 : decode cX12_workedOut 114 = .ok (.invokestatic 199, 3) := by decide +kernel
theorem dX12_workedOut_117 : decode cX12_workedOut 117 = .ok (.invokevirtual 192, 3) := by decide +kernel
theorem dX12_workedOut_120 : decode cX12_workedOut 120 = .ok (.goto 52, 3) := by decide +kernel
theorem dX12_workedOut_123 : decode cX12_workedOut 123 = .ok (.iload 8, 2) := by decide +kernel
theorem dX12_workedOut_125 : decode cX12_workedOut 125 = .ok (.bipush 33, 2) := by decide +kernel
theorem dX12_workedOut_127 : decode cX12_workedOut 127 = .ok (.if_icmp .ne 22, 3) := by decide +kernel
theorem dX12_workedOut_130 : decode cX12_workedOut 130 = .ok (.aload_n 0, 1) := by decide +kernel
theorem dX12_workedOut_131 : decode cX12_workedOut 131 = .ok (.aload_n 0, 1) := by decide +kernel
theorem dX12_workedOut_132 : decode cX12_workedOut 132 = .ok (.invokevirtual 196, 3) := by decide +kernel
theorem dX12_workedOut_135 : decode cX12_workedOut 135 = .ok (.ifCond .ne 7, 3) := by decide +kernel
theorem dX12_workedOut_138 : decode cX12_workedOut 138 = .ok (.iconst 1, 1) := by decide +kernel
theorem dX12_workedOut_139 : decode cX12_workedOut 139 = .ok (.goto 4, 3) := by decide +kernel
theorem dX12_workedOut_142 : decode cX12_workedOut 142 = .ok (.iconst 0, 1) := by decide +kernel
theorem dX12_workedOut_143 : decode cX12_workedOut 143 = .ok (.invokevirtual 192, 3) := by decide +kernel
theorem dX12_workedOut_146 : decode cX12_workedOut 146 = .ok (.goto 26, 3) := by decide +kernel
theorem dX12_workedOut_149 : decode cX12_workedOut 149 = .ok (.iload 8, 2) := by decide +kernel
theorem dX12_workedOut_151 : decode cX12_workedOut 151 = .ok (.bipush 32, 2) := by decide +kernel
theorem dX12_workedOut_153 : decode cX12_workedOut 153 = .ok (.if_icmp .eq 19, 3) := by decide +kernel
theorem dX12_workedOut_156 : decode cX12_workedOut 156 = .ok (.aload_n 0, 1) := by decide +kernel
theorem dX12_workedOut_157 : decode cX12_workedOut 157 = .ok (.aload_n 0, 1) := by decide +kernel
theorem dX12_workedOut_158 : decode cX12_workedOut 158 = .ok (.iload 8, 2) := by decide +kernel
theorem dX12_workedOut_160 : decode cX12_workedOut 160 = .ok (.iload_n 2, 1) := by decide +kernel
theorem dX12_workedOut_161 : decode cX12_workedOut 161 = .ok (.iload_n 3, 1) := by decide +kernel
theorem dX12_workedOut_162 : decode cX12_workedOut 162 = .ok (.iload 4, 2) := by decide +kernel
theorem dX12_workedOut_164 : decode cX12_workedOut 164 = .ok (.iload 5, 2) := by decide +kernel
theorem dX12_workedOut_166 : decode cX12_workedOut 166 = .ok (.invokevirtual 203, 3) := by decide +kernel
theorem dX12_workedOut_169 : decode cX12_workedOut 169 = .ok (.invokevirtual 192, 3) := by decide +kernel
theorem dX12_workedOut_172 : decode cX12_workedOut 172 = .ok (.iinc 7 1, 3) := by decide +kernel
theorem dX12_workedOut_175 : decode cX12_workedOut 175 = .ok (.goto (-164), 3) := by decide +kernel
theorem dX12_workedOut_178 : decode cX12_workedOut 178 = .ok (.iload 6, 2) := by decide +kernel
theorem dX12_workedOut_180 : decode cX12_workedOut 180 = .ok (.ifCond .lt 9, 3) := by decide +kernel
theorem dX12_workedOut_183 : decode cX12_workedOut 183 = .ok (.aload_n 0, 1) := by decide +kernel
theorem dX12_workedOut_184 : decode cX12_workedOut 184 = .ok (.iload 6, 2) := by decide +kernel
theorem dX12_workedOut_186 : decode cX12_workedOut 186 = .ok (.invokevirtual 192, 3) := by decide +kernel
theorem dX12_workedOut_189 : decode cX12_workedOut 189 = .ok (.aload_n 0, 1) := by decide +kernel
theorem dX12_workedOut_190 : decode cX12_workedOut 190 = .ok (.getfield 95, 3) := by decide +kernel
theorem dX12_workedOut_193 : decode cX12_workedOut 193 = .ok (.iconst 0, 1) := by decide +kernel
theorem dX12_workedOut_194 : decode cX12_workedOut 194 = .ok (.iaload, 1) := by decide +kernel
theorem dX12_workedOut_195 : decode cX12_workedOut 195 = .ok (.ireturn, 1) := by decide +kernel
theorem dX12_named_0 : decode cX12_named 0 = .ok (.iload_n 2, 1) := by decide +kernel
theorem dX12_named_1 : decode cX12_named 1 = .ok (.invokestatic 207, 3) := by decide +kernel
theorem dX12_named_4 : decode cX12_named 4 = .ok (.istore 6, 2) := by decide +kernel
theorem dX12_named_6 : decode cX12_named 6 = .ok (.iload_n 1, 1) := by decide +kernel
theorem dX12_named_7 : decode cX12_named 7 = .ok (.tableswitch 130 101 119 #[120, 127, 130, 113, 130, 130, 130, 130, 116, 130, 130, 118, 130, 130, 105, 97, 130, 130, 89], 89) := by decide +kernel
theorem dX12_named_96 : decode cX12_named 96 = .ok (.aload_n 0, 1) := by decide +kernel
theorem dX12_named_97 : decode cX12_named 97 = .ok (.getfield 20, 3) := by decide +kernel
theorem dX12_named_100 : decode cX12_named 100 = .ok (.iload 6, 2) := by decide +kernel
theorem dX12_named_102 : decode cX12_named 102 = .ok (.iaload, 1) := by decide +kernel
theorem dX12_named_103 : decode cX12_named 103 = .ok (.ireturn, 1) := by decide +kernel
theorem dX12_named_104 : decode cX12_named 104 = .ok (.aload_n 0, 1) := by decide +kernel
theorem dX12_named_105 : decode cX12_named 105 = .ok (.getfield 23, 3) := by decide +kernel
theorem dX12_named_108 : decode cX12_named 108 = .ok (.iload 6, 2) := by decide +kernel
theorem dX12_named_110 : decode cX12_named 110 = .ok (.iaload, 1) := by decide +kernel
theorem dX12_named_111 : decode cX12_named 111 = .ok (.ireturn, 1) := by decide +kernel
theorem dX12_named_112 : decode cX12_named 112 = .ok (.aload_n 0, 1) := by decide +kernel
theorem dX12_named_113 : decode cX12_named 113 = .ok (.getfield 26, 3) := by decide +kernel
theorem dX12_named_116 : decode cX12_named 116 = .ok (.iload 6, 2) := by decide +kernel
theorem dX12_named_118 : decode cX12_named 118 = .ok (.iaload, 1) := by decide +kernel
theorem dX12_named_119 : decode cX12_named 119 = .ok (.ireturn, 1) := by decide +kernel
theorem dX12_named_120 : decode cX12_named 120 = .ok (.iload 6, 2) := by decide +kernel
theorem dX12_named_122 : decode cX12_named 122 = .ok (.ireturn, 1) := by decide +kernel
theorem dX12_named_123 : decode cX12_named 123 = .ok (.iload_n 2, 1) := by decide +kernel
theorem dX12_named_124 : decode cX12_named 124 = .ok (.ireturn, 1) := by decide +kernel
theorem dX12_named_125 : decode cX12_named 125 = .ok (.iload_n 3, 1) := by decide +kernel
theorem dX12_named_126 : decode cX12_named 126 = .ok (.ireturn, 1) := by decide +kernel
theorem dX12_named_127 : decode cX12_named 127 = .ok (.aload_n 0, 1) := by decide +kernel
theorem dX12_named_128 : decode cX12_named 128 = .ok (.getfield 9, 3) := by decide +kernel
theorem dX12_named_131 : decode cX12_named 131 = .ok (.iload_n 3, 1) := by decide +kernel
theorem dX12_named_132 : decode cX12_named 132 = .ok (.iaload, 1) := by decide +kernel
theorem dX12_named_133 : decode cX12_named 133 = .ok (.ireturn, 1) := by decide +kernel
theorem dX12_named_134 : decode cX12_named 134 = .ok (.iload 5, 2) := by decide +kernel
theorem dX12_named_136 : decode cX12_named 136 = .ok (.ireturn, 1) := by decide +kernel
theorem dX12_named_137 : decode cX12_named 137 = .ok (.aload_n 0, 1) := by decide +kernel
theorem dX12_named_138 : decode cX12_named 138 = .ok (.iload 4, 2) := by decide +kernel
theorem dX12_named_140 : decode cX12_named 140 = .ok (.iload_n 1, 1) := by decide +kernel
theorem dX12_named_141 : decode cX12_named 141 = .ok (.invokevirtual 211, 3) := by decide +kernel
theorem dX12_named_144 : decode cX12_named 144 = .ok (.ireturn, 1) := by decide +kernel
theorem dX12_ofHanging_0 : decode cX12_ofHanging 0 = .ok (.iconst 0, 1) := by decide +kernel
theorem dX12_ofHanging_1 : decode cX12_ofHanging 1 = .ok (.istore_n 3, 1) := by decide +kernel
theorem dX12_ofHanging_2 : decode cX12_ofHanging 2 = .ok (.iconst 0, 1) := by decide +kernel
theorem dX12_ofHanging_3 : decode cX12_ofHanging 3 = .ok (.istore 4, 2) := by decide +kernel
theorem dX12_ofHanging_5 : decode cX12_ofHanging 5 = .ok (.iload 4, 2) := by decide +kernel
theorem dX12_ofHanging_7 : decode cX12_ofHanging 7 = .ok (.aload_n 0, 1) := by decide +kernel
theorem dX12_ofHanging_8 : decode cX12_ofHanging 8 = .ok (.getfield 163, 3) := by decide +kernel
theorem dX12_ofHanging_11 : decode cX12_ofHanging 11 = .ok (.if_icmp .ge 106, 3) := by decide +kernel
theorem dX12_ofHanging_14 : decode cX12_ofHanging 14 = .ok (.iload_n 1, 1) := by decide +kernel
theorem dX12_ofHanging_15 : decode cX12_ofHanging 15 = .ok (.ifCond .lt 96, 3) := by decide +kernel
theorem dX12_ofHanging_18 : decode cX12_ofHanging 18 = .ok (.aload_n 0, 1) := by decide +kernel
theorem dX12_ofHanging_19 : decode cX12_ofHanging 19 = .ok (.getfield 71, 3) := by decide +kernel
theorem dX12_ofHanging_22 : decode cX12_ofHanging 22 = .ok (.iload 4, 2) := by decide +kernel
theorem dX12_ofHanging_24 : decode cX12_ofHanging 24 = .ok (.iaload, 1) := by decide +kernel
theorem dX12_ofHanging_25 : decode cX12_ofHanging 25 = .ok (.iconst 1, 1) := by decide +kernel
theorem dX12_ofHanging_26 : decode cX12_ofHanging 26 = .ok (.if_icmp .ne 85, 3) := by decide +kernel
theorem dX12_ofHanging_29 : decode cX12_ofHanging 29 = .ok (.aload_n 0, 1) := by decide +kernel
theorem dX12_ofHanging_30 : decode cX12_ofHanging 30 = .ok (.getfield 74, 3) := by decide +kernel
theorem dX12_ofHanging_33 : decode cX12_ofHanging 33 = .ok (.iload 4, 2) := by decide +kernel
theorem dX12_ofHanging_35 : decode cX12_ofHanging 35 = .ok (.iaload, 1) := by decide +kernel
theorem dX12_ofHanging_36 : decode cX12_ofHanging 36 = .ok (.iload_n 1, 1) := by decide +kernel
theorem dX12_ofHanging_37 : decode cX12_ofHanging 37 = .ok (.if_icmp .ne 74, 3) := by decide +kernel
theorem dX12_ofHanging_40 : decode cX12_ofHanging 40 = .ok (.iload_n 2, 1) := by decide +kernel
theorem dX12_ofHanging_41 : decode cX12_ofHanging 41 = .ok (.bipush 110, 2) := by decide +kernel
theorem dX12_ofHanging_43 : decode cX12_ofHanging 43 = .ok (.if_icmp .ne 9, 3) := by decide +kernel
theorem dX12_ofHanging_46 : decode cX12_ofHanging 46 = .ok (.iload_n 3, 1) := by decide +kernel
theorem dX12_ofHanging_47 : decode cX12_ofHanging 47 = .ok (.iconst 1, 1) := by decide +kernel
theorem dX12_ofHanging_48 : decode cX12_ofHanging 48 = .ok (.iadd, 1) := by decide +kernel
theorem dX12_ofHanging_49 : decode cX12_ofHanging 49 = .ok (.goto 61, 3) := by decide +kernel
theorem dX12_ofHanging_52 : decode cX12_ofHanging 52 = .ok (.iload_n 2, 1) := by decide +kernel
theorem dX12_ofHanging_53 : decode cX12_ofHanging 53 = .ok (.bipush 108, 2) := by decide +kernel
theorem dX12_ofHanging_55 : decode cX12_ofHanging 55 = .ok (.if_icmp .ne 15, 3) := by decide +kernel
theorem dX12_ofHanging_58 : decode cX12_ofHanging 58 = .ok (.iload_n 3, 1) := by decide +kernel
theorem dX12_ofHanging_59 : decode cX12_ofHanging 59 = .ok (.aload_n 0, 1) := by decide +kernel
theorem dX12_ofHanging_60 : decode cX12_ofHanging 60 = .ok (.getfield 56, 3) := by decide +kernel
theorem dX12_ofHanging_63 : decode cX12_ofHanging 63 = .ok (.iload 4, 2) := by decide +kernel
theorem dX12_ofHanging_65 : decode cX12_ofHanging 65 = .ok (.iaload, 1) := by decide +kernel
theorem dX12_ofHanging_66 : decode cX12_ofHanging 66 = .ok (.iadd, 1) := by decide +kernel
theorem dX12_ofHanging_67 : decode cX12_ofHanging 67 = .ok (.goto 43, 3) := by decide +kernel
theorem dX12_ofHanging_70 : decode cX12_ofHanging 70 = .ok (.iload_n 2, 1) := by decide +kernel
theorem dX12_ofHanging_71 : decode cX12_ofHanging 71 = .ok (.bipush 114, 2) := by decide +kernel
theorem dX12_ofHanging_73 : decode cX12_ofHanging 73 = .ok (.if_icmp .ne 15, 3) := by decide +kernel
theorem dX12_ofHanging_76 : decode cX12_ofHanging 76 = .ok (.iload_n 3, 1) := by decide +kernel
theorem dX12_ofHanging_77 : decode cX12_ofHanging 77 = .ok (.aload_n 0, 1) := by decide +kernel
theorem dX12_ofHanging_78 : decode cX12_ofHanging 78 = .ok (.getfield 59, 3) := by decide +kernel
theorem dX12_ofHanging_81 : decode cX12_ofHanging 81 = .ok (.iload 4, 2) := by decide +kernel
theorem dX12_ofHanging_83 : decode cX12_ofHanging 83 = .ok (.iaload, 1) := by decide +kernel
theorem dX12_ofHanging_84 : decode cX12_ofHanging 84 = .ok (.iadd, 1) := by decide +kernel
theorem dX12_ofHanging_85 : decode cX12_ofHanging 85 = .ok (.goto 25, 3) := by decide +kernel
theorem dX12_ofHanging_88 : decode cX12_ofHanging 88 = .ok (.iload_n 3, 1) := by decide +kernel
theorem dX12_ofHanging_89 : decode cX12_ofHanging 89 = .ok (.aload_n 0, 1) := by decide +kernel
theorem dX12_ofHanging_90 : decode cX12_ofHanging 90 = .ok (.getfield 62, 3) := by decide +kernel
theorem dX12_ofHanging_93 : decode cX12_ofHanging 93 = .ok (.iload 4, 2) := by decide +kernel
theorem dX12_ofHanging_95 : decode cX12_ofHanging 95 = .ok (.iaload, 1) := by decide +kernel
theorem dX12_ofHanging_96 : decode cX12_ofHanging 96 = .ok (.if_icmp .le 7, 3) := by decide +kernel
theorem dX12_ofHanging_99 : decode cX12_ofHanging 99 = .ok (.iload_n 3, 1) := by decide +kernel
theorem dX12_ofHanging_100 : decode cX12_ofHanging 100 = .ok (.goto 10, 3) := by decide +kernel
theorem dX12_ofHanging_103 : decode cX12_ofHanging 103 = .ok (.aload_n 0, 1) := by decide +kernel
theorem dX12_ofHanging_104 : decode cX12_ofHanging 104 = .ok (.getfield 62, 3) := by decide +kernel
theorem dX12_ofHanging_107 : decode cX12_ofHanging 107 = .ok (.iload 4, 2) := by decide +kernel
theorem dX12_ofHanging_109 : decode cX12_ofHanging 109 = .ok (.iaload, 1) := by decide +kernel
theorem dX12_ofHanging_110 : decode cX12_ofHanging 110 = .ok (.istore_n 3, 1) := by decide +kernel
theorem dX12_ofHanging_111 : decode cX12_ofHanging 111 = .ok (.iinc 4 1, 3) := by decide +kernel
theorem dX12_ofHanging_114 : decode cX12_ofHanging 114 = .ok (.goto (-109), 3) := by decide +kernel
theorem dX12_ofHanging_117 : decode cX12_ofHanging 117 = .ok (.iload_n 3, 1) := by decide +kernel
theorem dX12_ofHanging_118 : decode cX12_ofHanging 118 = .ok (.ireturn, 1) := by decide +kernel
theorem dX12_says_0 : decode cX12_says 0 = .ok (.iload_n 1, 1) := by decide +kernel
theorem dX12_says_1 : decode cX12_says 1 = .ok (.ifCond .lt 57, 3) := by decide +kernel
theorem dX12_says_4 : decode cX12_says 4 = .ok (.iload_n 1, 1) := by decide +kernel
theorem dX12_says_5 : decode cX12_says 5 = .ok (.aload_n 0, 1) := by decide +kernel
theorem dX12_says_6 : decode cX12_says 6 = .ok (.getfield 182, 3) := by decide +kernel
theorem dX12_says_9 : decode cX12_says 9 = .ok (.if_icmp .ge 49, 3) := by decide +kernel
theorem dX12_says_12 : decode cX12_says 12 = .ok (.aload_n 0, 1) := by decide +kernel
theorem dX12_says_13 : decode cX12_says 13 = .ok (.iload_n 2, 1) := by decide +kernel
theorem dX12_says_14 : decode cX12_says 14 = .ok (.invokevirtual 215, 3) := by decide +kernel
theorem dX12_says_17 : decode cX12_says 17 = .ok (.ifCond .eq 41, 3) := by decide +kernel
theorem dX12_says_20 : decode cX12_says 20 = .ok (.aload_n 0, 1) := by decide +kernel
theorem dX12_says_21 : decode cX12_says 21 = .ok (.iload_n 3, 1) := by decide +kernel
theorem dX12_says_22 : decode cX12_says 22 = .ok (.invokevirtual 218, 3) := by decide +kernel
theorem dX12_says_25 : decode cX12_says 25 = .ok (.ifCond .eq 33, 3) := by decide +kernel
theorem dX12_says_28 : decode cX12_says 28 = .ok (.aload_n 0, 1) := by decide +kernel
theorem dX12_says_29 : decode cX12_says 29 = .ok (.iload 4, 2) := by decide +kernel
theorem dX12_says_31 : decode cX12_says 31 = .ok (.invokevirtual 166, 3) := by decide +kernel
theorem dX12_says_34 : decode cX12_says 34 = .ok (.ifCond .eq 24, 3) := by decide +kernel
theorem dX12_says_37 : decode cX12_says 37 = .ok (.aload_n 0, 1) := by decide +kernel
theorem dX12_says_38 : decode cX12_says 38 = .ok (.iload_n 1, 1) := by decide +kernel
theorem dX12_says_39 : decode cX12_says 39 = .ok (.aload_n 0, 1) := by decide +kernel
theorem dX12_says_40 : decode cX12_says 40 = .ok (.getfield 221, 3) := by decide +kernel
theorem dX12_says_43 : decode cX12_says 43 = .ok (.iload 4, 2) := by decide +kernel
theorem dX12_says_45 : decode cX12_says 45 = .ok (.iload_n 2, 1) := by decide +kernel
theorem dX12_says_46 : decode cX12_says 46 = .ok (.aload_n 0, 1) := by decide +kernel
theorem dX12_says_47 : decode cX12_says 47 = .ok (.getfield 47, 3) := by decide +kernel
theorem dX12_says_50 : decode cX12_says 50 = .ok (.iload_n 3, 1) := by decide +kernel
theorem dX12_says_51 : decode cX12_says 51 = .ok (.iaload, 1) := by decide +kernel
theorem dX12_says_52 : decode cX12_says 52 = .ok (.invokevirtual 224, 3) := by decide +kernel
theorem dX12_says_55 : decode cX12_says 55 = .ok (.goto 5, 3) := by decide +kernel
theorem dX12_says_58 : decode cX12_says 58 = .ok (.ldc 227, 2) := by decide +kernel
theorem dX12_says_60 : decode cX12_says 60 = .ok (.ireturn, 1) := by decide +kernel
theorem dX12_hang_0 : decode cX12_hang 0 = .ok (.aload_n 0, 1) := by decide +kernel
theorem dX12_hang_1 : decode cX12_hang 1 = .ok (.iload_n 1, 1) := by decide +kernel
theorem dX12_hang_2 : decode cX12_hang 2 = .ok (.invokevirtual 215, 3) := by decide +kernel
theorem dX12_hang_5 : decode cX12_hang 5 = .ok (.ifCond .eq 11, 3) := by decide +kernel
theorem dX12_hang_8 : decode cX12_hang 8 = .ok (.aload_n 0, 1) := by decide +kernel
theorem dX12_hang_9 : decode cX12_hang 9 = .ok (.iload_n 2, 1) := by decide +kernel
theorem dX12_hang_10 : decode cX12_hang 10 = .ok (.invokevirtual 228, 3) := by decide +kernel
theorem dX12_hang_13 : decode cX12_hang 13 = .ok (.ifCond .ne 5, 3) := by decide +kernel
theorem dX12_hang_16 : decode cX12_hang 16 = .ok (.iconst (-1), 1) := by decide +kernel
theorem dX12_hang_17 : decode cX12_hang 17 = .ok (.ireturn, 1) := by decide +kernel
theorem dX12_hang_18 : decode cX12_hang 18 = .ok (.aload_n 0, 1) := by decide +kernel
theorem dX12_hang_19 : decode cX12_hang 19 = .ok (.iload_n 1, 1) := by decide +kernel
theorem dX12_hang_20 : decode cX12_hang 20 = .ok (.bipush 110, 2) := by decide +kernel
theorem dX12_hang_22 : decode cX12_hang 22 = .ok (.invokevirtual 211, 3) := by decide +kernel
theorem dX12_hang_25 : decode cX12_hang 25 = .ok (.istore_n 3, 1) := by decide +kernel
theorem dX12_hang_26 : decode cX12_hang 26 = .ok (.aload_n 0, 1) := by decide +kernel
theorem dX12_hang_27 : decode cX12_hang 27 = .ok (.getfield 38, 3) := by decide +kernel
theorem dX12_hang_30 : decode cX12_hang 30 = .ok (.iload_n 1, 1) := by decide +kernel
theorem dX12_hang_31 : decode cX12_hang 31 = .ok (.iaload, 1) := by decide +kernel
theorem dX12_hang_32 : decode cX12_hang 32 = .ok (.aload_n 0, 1) := by decide +kernel
theorem dX12_hang_33 : decode cX12_hang 33 = .ok (.getfield 221, 3) := by decide +kernel
theorem dX12_hang_36 : decode cX12_hang 36 = .ok (.if_icmp .gt 58, 3) := by decide +kernel
theorem dX12_hang_39 : decode cX12_hang 39 = .ok (.aload_n 0, 1) := by decide +kernel
theorem dX12_hang_40 : decode cX12_hang 40 = .ok (.getfield 71, 3) := by decide +kernel
theorem dX12_hang_43 : decode cX12_hang 43 = .ok (.iload_n 2, 1) := by decide +kernel
theorem dX12_hang_44 : decode cX12_hang 44 = .ok (.iaload, 1) := by decide +kernel
theorem dX12_hang_45 : decode cX12_hang 45 = .ok (.ifCond .ne 49, 3) := by decide +kernel
theorem dX12_hang_48 : decode cX12_hang 48 = .ok (.aload_n 0, 1) := by decide +kernel
theorem dX12_hang_49 : decode cX12_hang 49 = .ok (.getfield 65, 3) := by decide +kernel
theorem dX12_hang_52 : decode cX12_hang 52 = .ok (.iload_n 2, 1) := by decide +kernel
theorem dX12_hang_53 : decode cX12_hang 53 = .ok (.iaload, 1) := by decide +kernel
theorem dX12_hang_54 : decode cX12_hang 54 = .ok (.aload_n 0, 1) := by decide +kernel
theorem dX12_hang_55 : decode cX12_hang 55 = .ok (.getfield 221, 3) := by decide +kernel
theorem dX12_hang_58 : decode cX12_hang 58 = .ok (.if_icmp .gt 36, 3) := by decide +kernel
theorem dX12_hang_61 : decode cX12_hang 61 = .ok (.aload_n 0, 1) := by decide +kernel
theorem dX12_hang_62 : decode cX12_hang 62 = .ok (.getfield 62, 3) := by decide +kernel
theorem dX12_hang_65 : decode cX12_hang 65 = .ok (.iload_n 2, 1) := by decide +kernel
theorem dX12_hang_66 : decode cX12_hang 66 = .ok (.iaload, 1) := by decide +kernel
theorem dX12_hang_67 : decode cX12_hang 67 = .ok (.iconst 4, 1) := by decide +kernel
theorem dX12_hang_68 : decode cX12_hang 68 = .ok (.if_icmp .eq 26, 3) := by decide +kernel
theorem dX12_hang_71 : decode cX12_hang 71 = .ok (.aload_n 0, 1) := by decide +kernel
theorem dX12_hang_72 : decode cX12_hang 72 = .ok (.iload_n 1, 1) := by decide +kernel
theorem dX12_hang_73 : decode cX12_hang 73 = .ok (.bipush 114, 2) := by decide +kernel
theorem dX12_hang_75 : decode cX12_hang 75 = .ok (.invokevirtual 211, 3) := by decide +kernel
theorem dX12_hang_78 : decode cX12_hang 78 = .ok (.aload_n 0, 1) := by decide +kernel
theorem dX12_hang_79 : decode cX12_hang 79 = .ok (.getfield 59, 3) := by decide +kernel
theorem dX12_hang_82 : decode cX12_hang 82 = .ok (.iload_n 2, 1) := by decide +kernel
theorem dX12_hang_83 : decode cX12_hang 83 = .ok (.iaload, 1) := by decide +kernel
theorem dX12_hang_84 : decode cX12_hang 84 = .ok (.iadd, 1) := by decide +kernel
theorem dX12_hang_85 : decode cX12_hang 85 = .ok (.bipush 9, 2) := by decide +kernel
theorem dX12_hang_87 : decode cX12_hang 87 = .ok (.if_icmp .gt 7, 3) := by decide +kernel
theorem dX12_hang_90 : decode cX12_hang 90 = .ok (.iconst 1, 1) := by decide +kernel
theorem dX12_hang_91 : decode cX12_hang 91 = .ok (.goto 4, 3) := by decide +kernel
theorem dX12_hang_94 : decode cX12_hang 94 = .ok (.iconst 0, 1) := by decide +kernel
theorem dX12_hang_95 : decode cX12_hang 95 = .ok (.istore 4, 2) := by decide +kernel
theorem dX12_hang_97 : decode cX12_hang 97 = .ok (.iconst 0, 1) := by decide +kernel
theorem dX12_hang_98 : decode cX12_hang 98 = .ok (.istore 5, 2) := by decide +kernel
theorem dX12_hang_100 : decode cX12_hang 100 = .ok (.iload 5, 2) := by decide +kernel
theorem dX12_hang_102 : decode cX12_hang 102 = .ok (.aload_n 0, 1) := by decide +kernel
theorem dX12_hang_103 : decode cX12_hang 103 = .ok (.getfield 163, 3) := by decide +kernel
theorem dX12_hang_106 : decode cX12_hang 106 = .ok (.if_icmp .ge 101, 3) := by decide +kernel
theorem dX12_hang_109 : decode cX12_hang 109 = .ok (.aload_n 0, 1) := by decide +kernel
theorem dX12_hang_110 : decode cX12_hang 110 = .ok (.getfield 71, 3) := by decide +kernel
theorem dX12_hang_113 : decode cX12_hang 113 = .ok (.iload 5, 2) := by decide +kernel
theorem dX12_hang_115 : decode cX12_hang 115 = .ok (.iaload, 1) := by decide +kernel
theorem dX12_hang_116 : decode cX12_hang 116 = .ok (.iconst 1, 1) := by decide +kernel
theorem dX12_hang_117 : decode cX12_hang 117 = .ok (.if_icmp .ne 84, 3) := by decide +kernel
theorem dX12_hang_120 : decode cX12_hang 120 = .ok (.aload_n 0, 1) := by decide +kernel
theorem dX12_hang_121 : decode cX12_hang 121 = .ok (.getfield 74, 3) := by decide +kernel
theorem dX12_hang_124 : decode cX12_hang 124 = .ok (.iload 5, 2) := by decide +kernel
theorem dX12_hang_126 : decode cX12_hang 126 = .ok (.iaload, 1) := by decide +kernel
theorem dX12_hang_127 : decode cX12_hang 127 = .ok (.iload_n 1, 1) := by decide +kernel
theorem dX12_hang_128 : decode cX12_hang 128 = .ok (.if_icmp .ne 73, 3) := by decide +kernel
theorem dX12_hang_131 : decode cX12_hang 131 = .ok (.iload 4, 2) := by decide +kernel
theorem dX12_hang_133 : decode cX12_hang 133 = .ok (.ifCond .eq 65, 3) := by decide +kernel
theorem dX12_hang_136 : decode cX12_hang 136 = .ok (.aload_n 0, 1) := by decide +kernel
theorem dX12_hang_137 : decode cX12_hang 137 = .ok (.getfield 53, 3) := by decide +kernel
theorem dX12_hang_140 : decode cX12_hang 140 = .ok (.iload 5, 2) := by decide +kernel
theorem dX12_hang_142 : decode cX12_hang 142 = .ok (.iaload, 1) := by decide +kernel
theorem dX12_hang_143 : decode cX12_hang 143 = .ok (.aload_n 0, 1) := by decide +kernel
theorem dX12_hang_144 : decode cX12_hang 144 = .ok (.getfield 53, 3) := by decide +kernel
theorem dX12_hang_147 : decode cX12_hang 147 = .ok (.iload_n 2, 1) := by decide +kernel
theorem dX12_hang_148 : decode cX12_hang 148 = .ok (.iaload, 1) := by decide +kernel
theorem dX12_hang_149 : decode cX12_hang 149 = .ok (.if_icmp .ne 49, 3) := by decide +kernel
theorem dX12_hang_152 : decode cX12_hang 152 = .ok (.aload_n 0, 1) := by decide +kernel
theorem dX12_hang_153 : decode cX12_hang 153 = .ok (.getfield 62, 3) := by decide +kernel
theorem dX12_hang_156 : decode cX12_hang 156 = .ok (.iload 5, 2) := by decide +kernel
theorem dX12_hang_158 : decode cX12_hang 158 = .ok (.iaload, 1) := by decide +kernel
theorem dX12_hang_159 : decode cX12_hang 159 = .ok (.iconst 1, 1) := by decide +kernel
theorem dX12_hang_160 : decode cX12_hang 160 = .ok (.if_icmp .eq 38, 3) := by decide +kernel
theorem dX12_hang_163 : decode cX12_hang 163 = .ok (.aload_n 0, 1) := by decide +kernel
theorem dX12_hang_164 : decode cX12_hang 164 = .ok (.getfield 62, 3) := by decide +kernel
theorem dX12_hang_167 : decode cX12_hang 167 = .ok (.iload 5, 2) := by decide +kernel
theorem dX12_hang_169 : decode cX12_hang 169 = .ok (.iaload, 1) := by decide +kernel
theorem dX12_hang_170 : decode cX12_hang 170 = .ok (.iconst 3, 1) := by decide +kernel
theorem dX12_hang_171 : decode cX12_hang 171 = .ok (.if_icmp .eq 27, 3) := by decide +kernel
theorem dX12_hang_174 : decode cX12_hang 174 = .ok (.aload_n 0, 1) := by decide +kernel
theorem dX12_hang_175 : decode cX12_hang 175 = .ok (.getfield 62, 3) := by decide +kernel
theorem dX12_hang_178 : decode cX12_hang 178 = .ok (.iload_n 2, 1) := by decide +kernel
theorem dX12_hang_179 : decode cX12_hang 179 = .ok (.iaload, 1) := by decide +kernel
theorem dX12_hang_180 : decode cX12_hang 180 = .ok (.iconst 1, 1) := by decide +kernel
theorem dX12_hang_181 : decode cX12_hang 181 = .ok (.if_icmp .eq 17, 3) := by decide +kernel
theorem dX12_hang_184 : decode cX12_hang 184 = .ok (.aload_n 0, 1) := by decide +kernel
theorem dX12_hang_185 : decode cX12_hang 185 = .ok (.getfield 62, 3) := by decide +kernel
theorem dX12_hang_188 : decode cX12_hang 188 = .ok (.iload_n 2, 1) := by decide +kernel
theorem dX12_hang_189 : decode cX12_hang 189 = .ok (.iaload, 1) := by decide +kernel
theorem dX12_hang_190 : decode cX12_hang 190 = .ok (.iconst 3, 1) := by decide +kernel
theorem dX12_hang_191 : decode cX12_hang 191 = .ok (.if_icmp .eq 7, 3) := by decide +kernel
theorem dX12_hang_194 : decode cX12_hang 194 = .ok (.iconst 1, 1) := by decide +kernel
theorem dX12_hang_195 : decode cX12_hang 195 = .ok (.goto 4, 3) := by decide +kernel
theorem dX12_hang_198 : decode cX12_hang 198 = .ok (.iconst 0, 1) := by decide +kernel
theorem dX12_hang_199 : decode cX12_hang 199 = .ok (.istore 4, 2) := by decide +kernel
theorem dX12_hang_201 : decode cX12_hang 201 = .ok (.iinc 5 1, 3) := by decide +kernel
theorem dX12_hang_204 : decode cX12_hang 204 = .ok (.goto (-104), 3) := by decide +kernel
theorem dX12_hang_207 : decode cX12_hang 207 = .ok (.iload 4, 2) := by decide +kernel
theorem dX12_hang_209 : decode cX12_hang 209 = .ok (.ifCond .ne 6, 3) := by decide +kernel
theorem dX12_hang_212 : decode cX12_hang 212 = .ok (.bipush (-3), 2) := by decide +kernel
theorem dX12_hang_214 : decode cX12_hang 214 = .ok (.ireturn, 1) := by decide +kernel
theorem dX12_hang_215 : decode cX12_hang 215 = .ok (.aload_n 0, 1) := by decide +kernel
theorem dX12_hang_216 : decode cX12_hang 216 = .ok (.getfield 71, 3) := by decide +kernel
theorem dX12_hang_219 : decode cX12_hang 219 = .ok (.iload_n 2, 1) := by decide +kernel
theorem dX12_hang_220 : decode cX12_hang 220 = .ok (.iconst 1, 1) := by decide +kernel
theorem dX12_hang_221 : decode cX12_hang 221 = .ok (.iastore, 1) := by decide +kernel
theorem dX12_hang_222 : decode cX12_hang 222 = .ok (.aload_n 0, 1) := by decide +kernel
theorem dX12_hang_223 : decode cX12_hang 223 = .ok (.getfield 74, 3) := by decide +kernel
theorem dX12_hang_226 : decode cX12_hang 226 = .ok (.iload_n 2, 1) := by decide +kernel
theorem dX12_hang_227 : decode cX12_hang 227 = .ok (.iload_n 1, 1) := by decide +kernel
theorem dX12_hang_228 : decode cX12_hang 228 = .ok (.iastore, 1) := by decide +kernel
theorem dX12_hang_229 : decode cX12_hang 229 = .ok (.iload_n 3, 1) := by decide +kernel
theorem dX12_hang_230 : decode cX12_hang 230 = .ok (.iconst 1, 1) := by decide +kernel
theorem dX12_hang_231 : decode cX12_hang 231 = .ok (.iadd, 1) := by decide +kernel
theorem dX12_hang_232 : decode cX12_hang 232 = .ok (.ireturn, 1) := by decide +kernel
theorem dX12_off_0 : decode cX12_off 0 = .ok (.aload_n 0, 1) := by decide +kernel
theorem dX12_off_1 : decode cX12_off 1 = .ok (.iload_n 1, 1) := by decide +kernel
theorem dX12_off_2 : decode cX12_off 2 = .ok (.invokevirtual 228, 3) := by decide +kernel
theorem dX12_off_5 : decode cX12_off 5 = .ok (.ifCond .ne 5, 3) := by decide +kernel
theorem dX12_off_8 : decode cX12_off 8 = .ok (.iconst (-1), 1) := by decide +kernel
theorem dX12_off_9 : decode cX12_off 9 = .ok (.ireturn, 1) := by decide +kernel
theorem dX12_off_10 : decode cX12_off 10 = .ok (.aload_n 0, 1) := by decide +kernel
theorem dX12_off_11 : decode cX12_off 11 = .ok (.getfield 71, 3) := by decide +kernel
theorem dX12_off_14 : decode cX12_off 14 = .ok (.iload_n 1, 1) := by decide +kernel
theorem dX12_off_15 : decode cX12_off 15 = .ok (.iaload, 1) := by decide +kernel
theorem dX12_off_16 : decode cX12_off 16 = .ok (.iconst 1, 1) := by decide +kernel
theorem dX12_off_17 : decode cX12_off 17 = .ok (.if_icmp .eq 6, 3) := by decide +kernel
theorem dX12_off_20 : decode cX12_off 20 = .ok (.bipush (-3), 2) := by decide +kernel
theorem dX12_off_22 : decode cX12_off 22 = .ok (.ireturn, 1) := by decide +kernel
theorem dX12_off_23 : decode cX12_off 23 = .ok (.aload_n 0, 1) := by decide +kernel
theorem dX12_off_24 : decode cX12_off 24 = .ok (.getfield 74, 3) := by decide +kernel
theorem dX12_off_27 : decode cX12_off 27 = .ok (.iload_n 1, 1) := by decide +kernel
theorem dX12_off_28 : decode cX12_off 28 = .ok (.iaload, 1) := by decide +kernel
theorem dX12_off_29 : decode cX12_off 29 = .ok (.istore_n 2, 1) := by decide +kernel
theorem dX12_off_30 : decode cX12_off 30 = .ok (.aload_n 0, 1) := by decide +kernel
theorem dX12_off_31 : decode cX12_off 31 = .ok (.getfield 71, 3) := by decide +kernel
theorem dX12_off_34 : decode cX12_off 34 = .ok (.iload_n 1, 1) := by decide +kernel
theorem dX12_off_35 : decode cX12_off 35 = .ok (.iconst 0, 1) := by decide +kernel
theorem dX12_off_36 : decode cX12_off 36 = .ok (.iastore, 1) := by decide +kernel
theorem dX12_off_37 : decode cX12_off 37 = .ok (.aload_n 0, 1) := by decide +kernel
theorem dX12_off_38 : decode cX12_off 38 = .ok (.getfield 74, 3) := by decide +kernel
theorem dX12_off_41 : decode cX12_off 41 = .ok (.iload_n 1, 1) := by decide +kernel
theorem dX12_off_42 : decode cX12_off 42 = .ok (.iconst (-1), 1) := by decide +kernel
theorem dX12_off_43 : decode cX12_off 43 = .ok (.iastore, 1) := by decide +kernel
theorem dX12_off_44 : decode cX12_off 44 = .ok (.aload_n 0, 1) := by decide +kernel
theorem dX12_off_45 : decode cX12_off 45 = .ok (.iload_n 2, 1) := by decide +kernel
theorem dX12_off_46 : decode cX12_off 46 = .ok (.bipush 110, 2) := by decide +kernel
theorem dX12_off_48 : decode cX12_off 48 = .ok (.invokevirtual 211, 3) := by decide +kernel
theorem dX12_off_51 : decode cX12_off 51 = .ok (.ireturn, 1) := by decide +kernel
theorem dX12_liftOf_0 : decode cX12_liftOf 0 = .ok (.aload_n 0, 1) := by decide +kernel
theorem dX12_liftOf_1 : decode cX12_liftOf 1 = .ok (.getfield 29, 3) := by decide +kernel
theorem dX12_liftOf_4 : decode cX12_liftOf 4 = .ok (.iload_n 1, 1) := by decide +kernel
theorem dX12_liftOf_5 : decode cX12_liftOf 5 = .ok (.iaload, 1) := by decide +kernel
theorem dX12_liftOf_6 : decode cX12_liftOf 6 = .ok (.iconst 4, 1) := by decide +kernel
theorem dX12_liftOf_7 : decode cX12_liftOf 7 = .ok (.aload_n 0, 1) := by decide +kernel
theorem dX12_liftOf_8 : decode cX12_liftOf 8 = .ok (.getfield 9, 3) := by decide +kernel
theorem dX12_liftOf_11 : decode cX12_liftOf 11 = .ok (.iload_n 2, 1) := by decide +kernel
theorem dX12_liftOf_12 : decode cX12_liftOf 12 = .ok (.iaload, 1) := by decide +kernel
theorem dX12_liftOf_13 : decode cX12_liftOf 13 = .ok (.imul, 1) := by decide +kernel
theorem dX12_liftOf_14 : decode cX12_liftOf 14 = .ok (.isub, 1) := by decide +kernel
theorem dX12_liftOf_15 : decode cX12_liftOf 15 = .ok (.aload_n 0, 1) := by decide +kernel
theorem dX12_liftOf_16 : decode cX12_liftOf 16 = .ok (.getfield 23, 3) := by decide +kernel
theorem dX12_liftOf_19 : decode cX12_liftOf 19 = .ok (.iload_n 3, 1) := by decide +kernel
theorem dX12_liftOf_20 : decode cX12_liftOf 20 = .ok (.iaload, 1) := by decide +kernel
theorem dX12_liftOf_21 : decode cX12_liftOf 21 = .ok (.isub, 1) := by decide +kernel
theorem dX12_liftOf_22 : decode cX12_liftOf 22 = .ok (.istore 4, 2) := by decide +kernel
theorem dX12_liftOf_24 : decode cX12_liftOf 24 = .ok (.iload 4, 2) := by decide +kernel
theorem dX12_liftOf_26 : decode cX12_liftOf 26 = .ok (.ifCond .ge 7, 3) := by decide +kernel
theorem dX12_liftOf_29 : decode cX12_liftOf 29 = .ok (.iconst 0, 1) := by decide +kernel
theorem dX12_liftOf_30 : decode cX12_liftOf 30 = .ok (.goto 5, 3) := by decide +kernel
theorem dX12_liftOf_33 : decode cX12_liftOf 33 = .ok (.iload 4, 2) := by decide +kernel
theorem dX12_liftOf_35 : decode cX12_liftOf 35 = .ok (.ireturn, 1) := by decide +kernel
theorem dX12_wayOf_0 : decode cX12_wayOf 0 = .ok (.aload_n 0, 1) := by decide +kernel
theorem dX12_wayOf_1 : decode cX12_wayOf 1 = .ok (.iload_n 1, 1) := by decide +kernel
theorem dX12_wayOf_2 : decode cX12_wayOf 2 = .ok (.invokevirtual 231, 3) := by decide +kernel
theorem dX12_wayOf_5 : decode cX12_wayOf 5 = .ok (.ifCond .eq 14, 3) := by decide +kernel
theorem dX12_wayOf_8 : decode cX12_wayOf 8 = .ok (.iconst 2, 1) := by decide +kernel
theorem dX12_wayOf_9 : decode cX12_wayOf 9 = .ok (.aload_n 0, 1) := by decide +kernel
theorem dX12_wayOf_10 : decode cX12_wayOf 10 = .ok (.getfield 13, 3) := by decide +kernel
theorem dX12_wayOf_13 : decode cX12_wayOf 13 = .ok (.iload_n 2, 1) := by decide +kernel
theorem dX12_wayOf_14 : decode cX12_wayOf 14 = .ok (.iaload, 1) := by decide +kernel
theorem dX12_wayOf_15 : decode cX12_wayOf 15 = .ok (.imul, 1) := by decide +kernel
theorem dX12_wayOf_16 : decode cX12_wayOf 16 = .ok (.goto 9, 3) := by decide +kernel
theorem dX12_wayOf_19 : decode cX12_wayOf 19 = .ok (.aload_n 0, 1) := by decide +kernel
theorem dX12_wayOf_20 : decode cX12_wayOf 20 = .ok (.getfield 13, 3) := by decide +kernel
theorem dX12_wayOf_23 : decode cX12_wayOf 23 = .ok (.iload_n 2, 1) := by decide +kernel
theorem dX12_wayOf_24 : decode cX12_wayOf 24 = .ok (.iaload, 1) := by decide +kernel
theorem dX12_wayOf_25 : decode cX12_wayOf 25 = .ok (.ireturn, 1) := by decide +kernel
theorem dX12_longHangs_0 : decode cX12_longHangs 0 = .ok (.iconst 0, 1) := by decide +kernel
theorem dX12_longHangs_1 : decode cX12_longHangs 1 = .ok (.istore_n 2, 1) := by decide +kernel
theorem dX12_longHangs_2 : decode cX12_longHangs 2 = .ok (.iconst 0, 1) := by decide +kernel
theorem dX12_longHangs_3 : decode cX12_longHangs 3 = .ok (.istore_n 3, 1) := by decide +kernel
theorem dX12_longHangs_4 : decode cX12_longHangs 4 = .ok (.iload_n 3, 1) := by decide +kernel
theorem dX12_longHangs_5 : decode cX12_longHangs 5 = .ok (.aload_n 0, 1) := by decide +kernel
theorem dX12_longHangs_6 : decode cX12_longHangs 6 = .ok (.getfield 163, 3) := by decide +kernel
theorem dX12_longHangs_9 : decode cX12_longHangs 9 = .ok (.if_icmp .ge 49, 3) := by decide +kernel
theorem dX12_longHangs_12 : decode cX12_longHangs 12 = .ok (.iload_n 2, 1) := by decide +kernel
theorem dX12_longHangs_13 : decode cX12_longHangs 13 = .ok (.ifCond .ne 33, 3) := by decide +kernel
theorem dX12_longHangs_16 : decode cX12_longHangs 16 = .ok (.aload_n 0, 1) := by decide +kernel
theorem dX12_longHangs_17 : decode cX12_longHangs 17 = .ok (.getfield 71, 3) := by decide +kernel
theorem dX12_longHangs_20 : decode cX12_longHangs 20 = .ok (.iload_n 3, 1) := by decide +kernel
theorem dX12_longHangs_21 : decode cX12_longHangs 21 = .ok (.iaload, 1) := by decide +kernel
theorem dX12_longHangs_22 : decode cX12_longHangs 22 = .ok (.iconst 1, 1) := by decide +kernel
theorem dX12_longHangs_23 : decode cX12_longHangs 23 = .ok (.if_icmp .ne 27, 3) := by decide +kernel
theorem dX12_longHangs_26 : decode cX12_longHangs 26 = .ok (.aload_n 0, 1) := by decide +kernel
theorem dX12_longHangs_27 : decode cX12_longHangs 27 = .ok (.getfield 74, 3) := by decide +kernel
theorem dX12_longHangs_30 : decode cX12_longHangs 30 = .ok (.iload_n 3, 1) := by decide +kernel
theorem dX12_longHangs_31 : decode cX12_longHangs 31 = .ok (.iaload, 1) := by decide +kernel
theorem dX12_longHangs_32 : decode cX12_longHangs 32 = .ok (.iload_n 1, 1) := by decide +kernel
theorem dX12_longHangs_33 : decode cX12_longHangs 33 = .ok (.if_icmp .ne 17, 3) := by decide +kernel
theorem dX12_longHangs_36 : decode cX12_longHangs 36 = .ok (.aload_n 0, 1) := by decide +kernel
theorem dX12_longHangs_37 : decode cX12_longHangs 37 = .ok (.getfield 62, 3) := by decide +kernel
theorem dX12_longHangs_40 : decode cX12_longHangs 40 = .ok (.iload_n 3, 1) := by decide +kernel
theorem dX12_longHangs_41 : decode cX12_longHangs 41 = .ok (.iaload, 1) := by decide +kernel
theorem dX12_longHangs_42 : decode cX12_longHangs 42 = .ok (.iconst 1, 1) := by decide +kernel
theorem dX12_longHangs_43 : decode cX12_longHangs 43 = .ok (.if_icmp .ne 7, 3) := by decide +kernel
theorem dX12_longHangs_46 : decode cX12_longHangs 46 = .ok (.iconst 1, 1) := by decide +kernel
theorem dX12_longHangs_47 : decode cX12_longHangs 47 = .ok (.goto 4, 3) := by decide +kernel
theorem dX12_longHangs_50 : decode cX12_longHangs 50 = .ok (.iconst 0, 1) := by decide +kernel
theorem dX12_longHangs_51 : decode cX12_longHangs 51 = .ok (.istore_n 2, 1) := by decide +kernel
theorem dX12_longHangs_52 : decode cX12_longHangs 52 = .ok (.iinc 3 1, 3) := by decide +kernel
theorem dX12_longHangs_55 : decode cX12_longHangs 55 = .ok (.goto (-51), 3) := by decide +kernel
theorem dX12_longHangs_58 : decode cX12_longHangs 58 = .ok (.iload_n 2, 1) := by decide +kernel
theorem dX12_longHangs_59 : decode cX12_longHangs 59 = .ok (.ireturn, 1) := by decide +kernel
theorem dX12_find_0 : decode cX12_find 0 = .ok (.aload_n 0, 1) := by decide +kernel
theorem dX12_find_1 : decode cX12_find 1 = .ok (.iload_n 1, 1) := by decide +kernel
theorem dX12_find_2 : decode cX12_find 2 = .ok (.iload_n 2, 1) := by decide +kernel
theorem dX12_find_3 : decode cX12_find 3 = .ok (.invokevirtual 234, 3) := by decide +kernel
theorem dX12_find_6 : decode cX12_find 6 = .ok (.istore_n 3, 1) := by decide +kernel
theorem dX12_find_7 : decode cX12_find 7 = .ok (.aload_n 0, 1) := by decide +kernel
theorem dX12_find_8 : decode cX12_find 8 = .ok (.aload_n 0, 1) := by decide +kernel
theorem dX12_find_9 : decode cX12_find 9 = .ok (.getfield 221, 3) := by decide +kernel
theorem dX12_find_12 : decode cX12_find 12 = .ok (.iload_n 3, 1) := by decide +kernel
theorem dX12_find_13 : decode cX12_find 13 = .ok (.iadd, 1) := by decide +kernel
theorem dX12_find_14 : decode cX12_find 14 = .ok (.putfield 237, 3) := by decide +kernel
theorem dX12_find_17 : decode cX12_find 17 = .ok (.aload_n 0, 1) := by decide +kernel
theorem dX12_find_18 : decode cX12_find 18 = .ok (.aload_n 0, 1) := by decide +kernel
theorem dX12_find_19 : decode cX12_find 19 = .ok (.getfield 237, 3) := by decide +kernel
theorem dX12_find_22 : decode cX12_find 22 = .ok (.iconst 2, 1) := by decide +kernel
theorem dX12_find_23 : decode cX12_find 23 = .ok (.iadd, 1) := by decide +kernel
theorem dX12_find_24 : decode cX12_find 24 = .ok (.iload_n 3, 1) := by decide +kernel
theorem dX12_find_25 : decode cX12_find 25 = .ok (.iadd, 1) := by decide +kernel
theorem dX12_find_26 : decode cX12_find 26 = .ok (.putfield 240, 3) := by decide +kernel
theorem dX12_find_29 : decode cX12_find 29 = .ok (.iconst 0, 1) := by decide +kernel
theorem dX12_find_30 : decode cX12_find 30 = .ok (.istore 4, 2) := by decide +kernel
theorem dX12_find_32 : decode cX12_find 32 = .ok (.iconst 0, 1) := by decide +kernel
theorem dX12_find_33 : decode cX12_find 33 = .ok (.istore 5, 2) := by decide +kernel
theorem dX12_find_35 : decode cX12_find 35 = .ok (.iconst 0, 1) := by decide +kernel
theorem dX12_find_36 : decode cX12_find 36 = .ok (.istore 6, 2) := by decide +kernel
theorem dX12_find_38 : decode cX12_find 38 = .ok (.iload 6, 2) := by decide +kernel
theorem dX12_find_40 : decode cX12_find 40 = .ok (.aload_n 0, 1) := by decide +kernel
theorem dX12_find_41 : decode cX12_find 41 = .ok (.getfield 163, 3) := by decide +kernel
theorem dX12_find_44 : decode cX12_find 44 = .ok (.if_icmp .ge 170, 3) := by decide +kernel
theorem dX12_find_47 : decode cX12_find 47 = .ok (.aload_n 0, 1) := by decide +kernel
theorem dX12_find_48 : decode cX12_find 48 = .ok (.getfield 125, 3) := by decide +kernel
theorem dX12_find_51 : decode cX12_find 51 = .ok (.iload 6, 2) := by decide +kernel
theorem dX12_find_53 : decode cX12_find 53 = .ok (.aload_n 0, 1) := by decide +kernel
theorem dX12_find_54 : decode cX12_find 54 = .ok (.getfield 240, 3) := by decide +kernel
theorem dX12_find_57 : decode cX12_find 57 = .ok (.sipush 720, 3) := by decide +kernel
theorem dX12_find_60 : decode cX12_find 60 = .ok (.if_icmp .gt 94, 3) := by decide +kernel
theorem dX12_find_63 : decode cX12_find 63 = .ok (.aload_n 0, 1) := by decide +kernel
theorem dX12_find_64 : decode cX12_find 64 = .ok (.getfield 62, 3) := by decide +kernel
theorem dX12_find_67 : decode cX12_find 67 = .ok (.iload 6, 2) := by decide +kernel
theorem dX12_find_69 : decode cX12_find 69 = .ok (.iaload, 1) := by decide +kernel
theorem dX12_find_70 : decode cX12_find 70 = .ok (.iconst 4, 1) := by decide +kernel
theorem dX12_find_71 : decode cX12_find 71 = .ok (.if_icmp .ne 83, 3) := by decide +kernel
theorem dX12_find_74 : decode cX12_find 74 = .ok (.aload_n 0, 1) := by decide +kernel
theorem dX12_find_75 : decode cX12_find 75 = .ok (.getfield 53, 3) := by decide +kernel
theorem dX12_find_78 : decode cX12_find 78 = .ok (.iload 6, 2) := by decide +kernel
theorem dX12_find_80 : decode cX12_find 80 = .ok (.iaload, 1) := by decide +kernel
theorem dX12_find_81 : decode cX12_find 81 = .ok (.iload_n 2, 1) := by decide +kernel
theorem dX12_find_82 : decode cX12_find 82 = .ok (.if_icmp .ne 72, 3) := by decide +kernel
theorem dX12_find_85 : decode cX12_find 85 = .ok (.aload_n 0, 1) := by decide +kernel
theorem dX12_find_86 : decode cX12_find 86 = .ok (.getfield 71, 3) := by decide +kernel
theorem dX12_find_89 : decode cX12_find 89 = .ok (.iload 6, 2) := by decide +kernel
theorem dX12_find_91 : decode cX12_find 91 = .ok (.iaload, 1) := by decide +kernel
theorem dX12_find_92 : decode cX12_find 92 = .ok (.ifCond .ne 62, 3) := by decide +kernel
theorem dX12_find_95 : decode cX12_find 95 = .ok (.aload_n 0, 1) := by decide +kernel
theorem dX12_find_96 : decode cX12_find 96 = .ok (.getfield 65, 3) := by decide +kernel
theorem dX12_find_99 : decode cX12_find 99 = .ok (.iload 6, 2) := by decide +kernel
theorem dX12_find_101 : decode cX12_find 101 = .ok (.iaload, 1) := by decide +kernel
theorem dX12_find_102 : decode cX12_find 102 = .ok (.aload_n 0, 1) := by decide +kernel
theorem dX12_find_103 : decode cX12_find 103 = .ok (.getfield 237, 3) := by decide +kernel
theorem dX12_find_106 : decode cX12_find 106 = .ok (.if_icmp .gt 48, 3) := by decide +kernel
theorem dX12_find_109 : decode cX12_find 109 = .ok (.iload 4, 2) := by decide +kernel
theorem dX12_find_111 : decode cX12_find 111 = .ok (.aload_n 0, 1) := by decide +kernel
theorem dX12_find_112 : decode cX12_find 112 = .ok (.getfield 56, 3) := by decide +kernel
theorem dX12_find_115 : decode cX12_find 115 = .ok (.iload 6, 2) := by decide +kernel
theorem dX12_find_117 : decode cX12_find 117 = .ok (.iaload, 1) := by decide +kernel
theorem dX12_find_118 : decode cX12_find 118 = .ok (.iadd, 1) := by decide +kernel
theorem dX12_find_119 : decode cX12_find 119 = .ok (.aload_n 0, 1) := by decide +kernel
theorem dX12_find_120 : decode cX12_find 120 = .ok (.iload_n 1, 1) := by decide +kernel
theorem dX12_find_121 : decode cX12_find 121 = .ok (.iload_n 2, 1) := by decide +kernel
theorem dX12_find_122 : decode cX12_find 122 = .ok (.aload_n 0, 1) := by decide +kernel
theorem dX12_find_123 : decode cX12_find 123 = .ok (.getfield 237, 3) := by decide +kernel
theorem dX12_find_126 : decode cX12_find 126 = .ok (.invokestatic 207, 3) := by decide +kernel
theorem dX12_find_129 : decode cX12_find 129 = .ok (.invokevirtual 243, 3) := by decide +kernel
theorem dX12_find_132 : decode cX12_find 132 = .ok (.if_icmp .gt 22, 3) := by decide +kernel
theorem dX12_find_135 : decode cX12_find 135 = .ok (.iload 5, 2) := by decide +kernel
theorem dX12_find_137 : decode cX12_find 137 = .ok (.aload_n 0, 1) := by decide +kernel
theorem dX12_find_138 : decode cX12_find 138 = .ok (.getfield 59, 3) := by decide +kernel
theorem dX12_find_141 : decode cX12_find 141 = .ok (.iload 6, 2) := by decide +kernel
theorem dX12_find_143 : decode cX12_find 143 = .ok (.iaload, 1) := by decide +kernel
theorem dX12_find_144 : decode cX12_find 144 = .ok (.iadd, 1) := by decide +kernel
theorem dX12_find_145 : decode cX12_find 145 = .ok (.bipush 9, 2) := by decide +kernel
theorem dX12_find_147 : decode cX12_find 147 = .ok (.if_icmp .gt 7, 3) := by decide +kernel
theorem dX12_find_150 : decode cX12_find 150 = .ok (.iconst 1, 1) := by decide +kernel
theorem dX12_find_151 : decode cX12_find 151 = .ok (.goto 4, 3) := by decide +kernel
theorem dX12_find_154 : decode cX12_find 154 = .ok (.iconst 0, 1) := by decide +kernel
theorem dX12_find_155 : decode cX12_find 155 = .ok (.bastore, 1) := by decide +kernel
theorem dX12_find_156 : decode cX12_find 156 = .ok (.iload 4, 2) := by decide +kernel
theorem dX12_find_158 : decode cX12_find 158 = .ok (.aload_n 0, 1) := by decide +kernel
theorem dX12_find_159 : decode cX12_find 159 = .ok (.getfield 125, 3) := by decide +kernel
theorem dX12_find_162 : decode cX12_find 162 = .ok (.iload 6, 2) := by decide +kernel
theorem dX12_find_164 : decode cX12_find 164 = .ok (.baload, 1) := by decide +kernel
theorem dX12_find_165 : decode cX12_find 165 = .ok (.ifCond .eq 13, 3) := by decide +kernel
theorem dX12_find_168 : decode cX12_find 168 = .ok (.aload_n 0, 1) := by decide +kernel
theorem dX12_find_169 : decode cX12_find 169 = .ok (.getfield 56, 3) := by decide +kernel
theorem dX12_find_172 : decode cX12_find 172 = .ok (.iload 6, 2) := by decide +kernel
theorem dX12_find_174 : decode cX12_find 174 = .ok (.iaload, 1) := by decide +kernel
theorem dX12_find_175 : decode cX12_find 175 = .ok (.goto 4, 3) := by decide +kernel
theorem dX12_find_178 : decode cX12_find 178 = .ok (.iconst 0, 1) := by decide +kernel
theorem dX12_find_179 : decode cX12_find 179 = .ok (.iadd, 1) := by decide +kernel
theorem dX12_find_180 : decode cX12_find 180 = .ok (.istore 4, 2) := by decide +kernel
theorem dX12_find_182 : decode cX12_find 182 = .ok (.iload 5, 2) := by decide +kernel
theorem dX12_find_184 : decode cX12_find 184 = .ok (.aload_n 0, 1) := by decide +kernel
theorem dX12_find_185 : decode cX12_find 185 = .ok (.getfield 125, 3) := by decide +kernel
theorem dX12_find_188 : decode cX12_find 188 = .ok (.iload 6, 2) := by decide +kernel
theorem dX12_find_190 : decode cX12_find 190 = .ok (.baload, 1) := by decide +kernel
theorem dX12_find_191 : decode cX12_find 191 = .ok (.ifCond .eq 13, 3) := by decide +kernel
theorem dX12_find_194 : decode cX12_find 194 = .ok (.aload_n 0, 1) := by decide +kernel
theorem dX12_find_195 : decode cX12_find 195 = .ok (.getfield 59, 3) := by decide +kernel
theorem dX12_find_198 : decode cX12_find 198 = .ok (.iload 6, 2) := by decide +kernel
theorem dX12_find_200 : decode cX12_find 200 = .ok (.iaload, 1) := by decide +kernel
theorem dX12_find_201 : decode cX12_find 201 = .ok (.goto 4, 3) := by decide +kernel
theorem dX12_find_204 : decode cX12_find 204 = .ok (.iconst 0, 1) := by decide +kernel
theorem dX12_find_205 : decode cX12_find 205 = .ok (.iadd, 1) := by decide +kernel
theorem dX12_find_206 : decode cX12_find 206 = .ok (.istore 5, 2) := by decide +kernel
theorem dX12_find_208 : decode cX12_find 208 = .ok (.iinc 6 1, 3) := by decide +kernel
theorem dX12_find_211 : decode cX12_find 211 = .ok (.goto (-173), 3) := by decide +kernel
theorem dX12_find_214 : decode cX12_find 214 = .ok (.aload_n 0, 1) := by decide +kernel
theorem dX12_find_215 : decode cX12_find 215 = .ok (.iload_n 3, 1) := by decide +kernel
theorem dX12_find_216 : decode cX12_find 216 = .ok (.iconst 2, 1) := by decide +kernel
theorem dX12_find_217 : decode cX12_find 217 = .ok (.aload_n 0, 1) := by decide +kernel
theorem dX12_find_218 : decode cX12_find 218 = .ok (.iload_n 1, 1) := by decide +kernel
theorem dX12_find_219 : decode cX12_find 219 = .ok (.bipush 108, 2) := by decide +kernel
theorem dX12_find_221 : decode cX12_find 221 = .ok (.invokevirtual 211, 3) := by decide +kernel
theorem dX12_find_224 : decode cX12_find 224 = .ok (.bipush 20, 2) := by decide +kernel
theorem dX12_find_226 : decode cX12_find 226 = .ok (.idiv, 1) := by decide +kernel
theorem dX12_find_227 : decode cX12_find 227 = .ok (.iadd, 1) := by decide +kernel
theorem dX12_find_228 : decode cX12_find 228 = .ok (.imul, 1) := by decide +kernel
theorem dX12_find_229 : decode cX12_find 229 = .ok (.iload_n 3, 1) := by decide +kernel
theorem dX12_find_230 : decode cX12_find 230 = .ok (.iconst 2, 1) := by decide +kernel
theorem dX12_find_231 : decode cX12_find 231 = .ok (.iload 4, 2) := by decide +kernel
theorem dX12_find_233 : decode cX12_find 233 = .ok (.bipush 20, 2) := by decide +kernel
theorem dX12_find_235 : decode cX12_find 235 = .ok (.idiv, 1) := by decide +kernel
theorem dX12_find_236 : decode cX12_find 236 = .ok (.iadd, 1) := by decide +kernel
theorem dX12_find_237 : decode cX12_find 237 = .ok (.imul, 1) := by decide +kernel
theorem dX12_find_238 : decode cX12_find 238 = .ok (.iadd, 1) := by decide +kernel
theorem dX12_find_239 : decode cX12_find 239 = .ok (.putfield 246, 3) := by decide +kernel
theorem dX12_find_242 : decode cX12_find 242 = .ok (.return_, 1) := by decide +kernel
theorem dX12_why_0 : decode cX12_why 0 = .ok (.aload_n 0, 1) := by decide +kernel
theorem dX12_why_1 : decode cX12_why 1 = .ok (.iload_n 1, 1) := by decide +kernel
theorem dX12_why_2 : decode cX12_why 2 = .ok (.iload_n 3, 1) := by decide +kernel
theorem dX12_why_3 : decode cX12_why 3 = .ok (.invokevirtual 249, 3) := by decide +kernel
theorem dX12_why_6 : decode cX12_why 6 = .ok (.aload_n 0, 1) := by decide +kernel
theorem dX12_why_7 : decode cX12_why 7 = .ok (.getfield 38, 3) := by decide +kernel
theorem dX12_why_10 : decode cX12_why 10 = .ok (.iload_n 1, 1) := by decide +kernel
theorem dX12_why_11 : decode cX12_why 11 = .ok (.iaload, 1) := by decide +kernel
theorem dX12_why_12 : decode cX12_why 12 = .ok (.aload_n 0, 1) := by decide +kernel
theorem dX12_why_13 : decode cX12_why 13 = .ok (.getfield 221, 3) := by decide +kernel
theorem dX12_why_16 : decode cX12_why 16 = .ok (.if_icmp .le 5, 3) := by decide +kernel
theorem dX12_why_19 : decode cX12_why 19 = .ok (.iconst 1, 1) := by decide +kernel
theorem dX12_why_20 : decode cX12_why 20 = .ok (.ireturn, 1) := by decide +kernel
theorem dX12_why_21 : decode cX12_why 21 = .ok (.aload_n 0, 1) := by decide +kernel
theorem dX12_why_22 : decode cX12_why 22 = .ok (.getfield 50, 3) := by decide +kernel
theorem dX12_why_25 : decode cX12_why 25 = .ok (.iload_n 2, 1) := by decide +kernel
theorem dX12_why_26 : decode cX12_why 26 = .ok (.iaload, 1) := by decide +kernel
theorem dX12_why_27 : decode cX12_why 27 = .ok (.aload_n 0, 1) := by decide +kernel
theorem dX12_why_28 : decode cX12_why 28 = .ok (.getfield 221, 3) := by decide +kernel
theorem dX12_why_31 : decode cX12_why 31 = .ok (.if_icmp .le 5, 3) := by decide +kernel
theorem dX12_why_34 : decode cX12_why 34 = .ok (.iconst 2, 1) := by decide +kernel
theorem dX12_why_35 : decode cX12_why 35 = .ok (.ireturn, 1) := by decide +kernel
theorem dX12_why_36 : decode cX12_why 36 = .ok (.iconst 0, 1) := by decide +kernel
theorem dX12_why_37 : decode cX12_why 37 = .ok (.istore 4, 2) := by decide +kernel
theorem dX12_why_39 : decode cX12_why 39 = .ok (.iload 4, 2) := by decide +kernel
theorem dX12_why_41 : decode cX12_why 41 = .ok (.aload_n 0, 1) := by decide +kernel
theorem dX12_why_42 : decode cX12_why 42 = .ok (.getfield 163, 3) := by decide +kernel
theorem dX12_why_45 : decode cX12_why 45 = .ok (.if_icmp .ge 44, 3) := by decide +kernel
theorem dX12_why_48 : decode cX12_why 48 = .ok (.aload_n 0, 1) := by decide +kernel
theorem dX12_why_49 : decode cX12_why 49 = .ok (.getfield 71, 3) := by decide +kernel
theorem dX12_why_52 : decode cX12_why 52 = .ok (.iload 4, 2) := by decide +kernel
theorem dX12_why_54 : decode cX12_why 54 = .ok (.iaload, 1) := by decide +kernel
theorem dX12_why_55 : decode cX12_why 55 = .ok (.iconst 1, 1) := by decide +kernel
theorem dX12_why_56 : decode cX12_why 56 = .ok (.if_icmp .ne 27, 3) := by decide +kernel
theorem dX12_why_59 : decode cX12_why 59 = .ok (.aload_n 0, 1) := by decide +kernel
theorem dX12_why_60 : decode cX12_why 60 = .ok (.getfield 74, 3) := by decide +kernel
theorem dX12_why_63 : decode cX12_why 63 = .ok (.iload 4, 2) := by decide +kernel
theorem dX12_why_65 : decode cX12_why 65 = .ok (.iaload, 1) := by decide +kernel
theorem dX12_why_66 : decode cX12_why 66 = .ok (.iload_n 1, 1) := by decide +kernel
theorem dX12_why_67 : decode cX12_why 67 = .ok (.if_icmp .ne 16, 3) := by decide +kernel
theorem dX12_why_70 : decode cX12_why 70 = .ok (.aload_n 0, 1) := by decide +kernel
theorem dX12_why_71 : decode cX12_why 71 = .ok (.getfield 53, 3) := by decide +kernel
theorem dX12_why_74 : decode cX12_why 74 = .ok (.iload 4, 2) := by decide +kernel
theorem dX12_why_76 : decode cX12_why 76 = .ok (.iaload, 1) := by decide +kernel
theorem dX12_why_77 : decode cX12_why 77 = .ok (.iload_n 3, 1) := by decide +kernel
theorem dX12_why_78 : decode cX12_why 78 = .ok (.if_icmp .eq 5, 3) := by decide +kernel
theorem dX12_why_81 : decode cX12_why 81 = .ok (.iconst 3, 1) := by decide +kernel
theorem dX12_why_82 : decode cX12_why 82 = .ok (.ireturn, 1) := by decide +kernel
theorem dX12_why_83 : decode cX12_why 83 = .ok (.iinc 4 1, 3) := by decide +kernel
theorem dX12_why_86 : decode cX12_why 86 = .ok (.goto (-47), 3) := by decide +kernel
theorem dX12_why_89 : decode cX12_why 89 = .ok (.aload_n 0, 1) := by decide +kernel
theorem dX12_why_90 : decode cX12_why 90 = .ok (.getfield 240, 3) := by decide +kernel
theorem dX12_why_93 : decode cX12_why 93 = .ok (.sipush 720, 3) := by decide +kernel
theorem dX12_why_96 : decode cX12_why 96 = .ok (.if_icmp .le 5, 3) := by decide +kernel
theorem dX12_why_99 : decode cX12_why 99 = .ok (.iconst 4, 1) := by decide +kernel
theorem dX12_why_100 : decode cX12_why 100 = .ok (.ireturn, 1) := by decide +kernel
theorem dX12_why_101 : decode cX12_why 101 = .ok (.aload_n 0, 1) := by decide +kernel
theorem dX12_why_102 : decode cX12_why 102 = .ok (.iload_n 1, 1) := by decide +kernel
theorem dX12_why_103 : decode cX12_why 103 = .ok (.bipush 108, 2) := by decide +kernel
theorem dX12_why_105 : decode cX12_why 105 = .ok (.invokevirtual 211, 3) := by decide +kernel
theorem dX12_why_108 : decode cX12_why 108 = .ok (.istore 4, 2) := by decide +kernel
theorem dX12_why_110 : decode cX12_why 110 = .ok (.iload 4, 2) := by decide +kernel
theorem dX12_why_112 : decode cX12_why 112 = .ok (.aload_n 0, 1) := by decide +kernel
theorem dX12_why_113 : decode cX12_why 113 = .ok (.iload_n 1, 1) := by decide +kernel
theorem dX12_why_114 : decode cX12_why 114 = .ok (.iconst 0, 1) := by decide +kernel
theorem dX12_why_115 : decode cX12_why 115 = .ok (.aload_n 0, 1) := by decide +kernel
theorem dX12_why_116 : decode cX12_why 116 = .ok (.getfield 221, 3) := by decide +kernel
theorem dX12_why_119 : decode cX12_why 119 = .ok (.invokestatic 207, 3) := by decide +kernel
theorem dX12_why_122 : decode cX12_why 122 = .ok (.invokevirtual 243, 3) := by decide +kernel
theorem dX12_why_125 : decode cX12_why 125 = .ok (.if_icmp .gt 21, 3) := by decide +kernel
theorem dX12_why_128 : decode cX12_why 128 = .ok (.iload 4, 2) := by decide +kernel
theorem dX12_why_130 : decode cX12_why 130 = .ok (.aload_n 0, 1) := by decide +kernel
theorem dX12_why_131 : decode cX12_why 131 = .ok (.iload_n 1, 1) := by decide +kernel
theorem dX12_why_132 : decode cX12_why 132 = .ok (.iload_n 3, 1) := by decide +kernel
theorem dX12_why_133 : decode cX12_why 133 = .ok (.aload_n 0, 1) := by decide +kernel
theorem dX12_why_134 : decode cX12_why 134 = .ok (.getfield 237, 3) := by decide +kernel
theorem dX12_why_137 : decode cX12_why 137 = .ok (.invokestatic 207, 3) := by decide +kernel
theorem dX12_why_140 : decode cX12_why 140 = .ok (.invokevirtual 243, 3) := by decide +kernel
theorem dX12_why_143 : decode cX12_why 143 = .ok (.if_icmp .le 5, 3) := by decide +kernel
theorem dX12_why_146 : decode cX12_why 146 = .ok (.iconst 5, 1) := by decide +kernel
theorem dX12_why_147 : decode cX12_why 147 = .ok (.ireturn, 1) := by decide +kernel
theorem dX12_why_148 : decode cX12_why 148 = .ok (.aload_n 0, 1) := by decide +kernel
theorem dX12_why_149 : decode cX12_why 149 = .ok (.getfield 246, 3) := by decide +kernel
theorem dX12_why_152 : decode cX12_why 152 = .ok (.bipush 10, 2) := by decide +kernel
theorem dX12_why_154 : decode cX12_why 154 = .ok (.iadd, 1) := by decide +kernel
theorem dX12_why_155 : decode cX12_why 155 = .ok (.aload_n 0, 1) := by decide +kernel
theorem dX12_why_156 : decode cX12_why 156 = .ok (.getfield 35, 3) := by decide +kernel
theorem dX12_why_159 : decode cX12_why 159 = .ok (.iload_n 1, 1) := by decide +kernel
theorem dX12_why_160 : decode cX12_why 160 = .ok (.iaload, 1) := by decide +kernel
theorem dX12_why_161 : decode cX12_why 161 = .ok (.if_icmp .le 6, 3) := by decide +kernel
theorem dX12_why_164 : decode cX12_why 164 = .ok (.bipush 6, 2) := by decide +kernel
theorem dX12_why_166 : decode cX12_why 166 = .ok (.ireturn, 1) := by decide +kernel
theorem dX12_why_167 : decode cX12_why 167 = .ok (.aload_n 0, 1) := by decide +kernel
theorem dX12_why_168 : decode cX12_why 168 = .ok (.getfield 47, 3) := by decide +kernel
theorem dX12_why_171 : decode cX12_why 171 = .ok (.iload_n 2, 1) := by decide +kernel
theorem dX12_why_172 : decode cX12_why 172 = .ok (.iaload, 1) := by decide +kernel
theorem dX12_why_173 : decode cX12_why 173 = .ok (.aload_n 0, 1) := by decide +kernel
theorem dX12_why_174 : decode cX12_why 174 = .ok (.getfield 240, 3) := by decide +kernel
theorem dX12_why_177 : decode cX12_why 177 = .ok (.iadd, 1) := by decide +kernel
theorem dX12_why_178 : decode cX12_why 178 = .ok (.aload_n 0, 1) := by decide +kernel
theorem dX12_why_179 : decode cX12_why 179 = .ok (.getfield 221, 3) := by decide +kernel
theorem dX12_why_182 : decode cX12_why 182 = .ok (.isub, 1) := by decide +kernel
theorem dX12_why_183 : decode cX12_why 183 = .ok (.aload_n 0, 1) := by decide +kernel
theorem dX12_why_184 : decode cX12_why 184 = .ok (.getfield 41, 3) := by decide +kernel
theorem dX12_why_187 : decode cX12_why 187 = .ok (.iload_n 2, 1) := by decide +kernel
theorem dX12_why_188 : decode cX12_why 188 = .ok (.iaload, 1) := by decide +kernel
theorem dX12_why_189 : decode cX12_why 189 = .ok (.if_icmp .le 6, 3) := by decide +kernel
theorem dX12_why_192 : decode cX12_why 192 = .ok (.bipush 7, 2) := by decide +kernel
theorem dX12_why_194 : decode cX12_why 194 = .ok (.ireturn, 1) := by decide +kernel
theorem dX12_why_195 : decode cX12_why 195 = .ok (.iconst 0, 1) := by decide +kernel
theorem dX12_why_196 : decode cX12_why 196 = .ok (.istore 5, 2) := by decide +kernel
theorem dX12_why_198 : decode cX12_why 198 = .ok (.iload 5, 2) := by decide +kernel
theorem dX12_why_200 : decode cX12_why 200 = .ok (.aload_n 0, 1) := by decide +kernel
theorem dX12_why_201 : decode cX12_why 201 = .ok (.getfield 163, 3) := by decide +kernel
theorem dX12_why_204 : decode cX12_why 204 = .ok (.if_icmp .ge 62, 3) := by decide +kernel
theorem dX12_why_207 : decode cX12_why 207 = .ok (.aload_n 0, 1) := by decide +kernel
theorem dX12_why_208 : decode cX12_why 208 = .ok (.getfield 71, 3) := by decide +kernel
theorem dX12_why_211 : decode cX12_why 211 = .ok (.iload 5, 2) := by decide +kernel
theorem dX12_why_213 : decode cX12_why 213 = .ok (.iaload, 1) := by decide +kernel
theorem dX12_why_214 : decode cX12_why 214 = .ok (.iconst 1, 1) := by decide +kernel
theorem dX12_why_215 : decode cX12_why 215 = .ok (.if_icmp .ne 45, 3) := by decide +kernel
theorem dX12_why_218 : decode cX12_why 218 = .ok (.aload_n 0, 1) := by decide +kernel
theorem dX12_why_219 : decode cX12_why 219 = .ok (.getfield 74, 3) := by decide +kernel
theorem dX12_why_222 : decode cX12_why 222 = .ok (.iload 5, 2) := by decide +kernel
theorem dX12_why_224 : decode cX12_why 224 = .ok (.iaload, 1) := by decide +kernel
theorem dX12_why_225 : decode cX12_why 225 = .ok (.iload_n 1, 1) := by decide +kernel
theorem dX12_why_226 : decode cX12_why 226 = .ok (.if_icmp .ne 34, 3) := by decide +kernel
theorem dX12_why_229 : decode cX12_why 229 = .ok (.aload_n 0, 1) := by decide +kernel
theorem dX12_why_230 : decode cX12_why 230 = .ok (.getfield 62, 3) := by decide +kernel
theorem dX12_why_233 : decode cX12_why 233 = .ok (.iload 5, 2) := by decide +kernel
theorem dX12_why_235 : decode cX12_why 235 = .ok (.iaload, 1) := by decide +kernel
theorem dX12_why_236 : decode cX12_why 236 = .ok (.iconst 2, 1) := by decide +kernel
theorem dX12_why_237 : decode cX12_why 237 = .ok (.if_icmp .ne 23, 3) := by decide +kernel
theorem dX12_why_240 : decode cX12_why 240 = .ok (.aload_n 0, 1) := by decide +kernel
theorem dX12_why_241 : decode cX12_why 241 = .ok (.getfield 237, 3) := by decide +kernel
theorem dX12_why_244 : decode cX12_why 244 = .ok (.aload_n 0, 1) := by decide +kernel
theorem dX12_why_245 : decode cX12_why 245 = .ok (.getfield 65, 3) := by decide +kernel
theorem dX12_why_248 : decode cX12_why 248 = .ok (.iload 5, 2) := by decide +kernel
theorem dX12_why_250 : decode cX12_why 250 = .ok (.iaload, 1) := by decide +kernel
theorem dX12_why_251 : decode cX12_why 251 = .ok (.isub, 1) := by decide +kernel
theorem dX12_why_252 : decode cX12_why 252 = .ok (.bipush 90, 2) := by decide +kernel
theorem dX12_why_254 : decode cX12_why 254 = .ok (.if_icmp .le 6, 3) := by decide +kernel
theorem dX12_why_257 : decode cX12_why 257 = .ok (.bipush 8, 2) := by decide +kernel
theorem dX12_why_259 : decode cX12_why 259 = .ok (.ireturn, 1) := by decide +kernel
theorem dX12_why_260 : decode cX12_why 260 = .ok (.iinc 5 1, 3) := by decide +kernel
theorem dX12_why_263 : decode cX12_why 263 = .ok (.goto (-65), 3) := by decide +kernel
theorem dX12_why_266 : decode cX12_why 266 = .ok (.iconst 0, 1) := by decide +kernel
theorem dX12_why_267 : decode cX12_why 267 = .ok (.istore 5, 2) := by decide +kernel
theorem dX12_why_269 : decode cX12_why 269 = .ok (.iload 5, 2) := by decide +kernel
theorem dX12_why_271 : decode cX12_why 271 = .ok (.aload_n 0, 1) := by decide +kernel
theorem dX12_why_272 : decode cX12_why 272 = .ok (.getfield 182, 3) := by decide +kernel
theorem dX12_why_275 : decode cX12_why 275 = .ok (.if_icmp .ge 36, 3) := by decide +kernel
theorem dX12_why_278 : decode cX12_why 278 = .ok (.aload_n 0, 1) := by decide +kernel
theorem dX12_why_279 : decode cX12_why 279 = .ok (.iload 5, 2) := by decide +kernel
theorem dX12_why_281 : decode cX12_why 281 = .ok (.aload_n 0, 1) := by decide +kernel
theorem dX12_why_282 : decode cX12_why 282 = .ok (.getfield 221, 3) := by decide +kernel
theorem dX12_why_285 : decode cX12_why 285 = .ok (.iload_n 3, 1) := by decide +kernel
theorem dX12_why_286 : decode cX12_why 286 = .ok (.iload_n 1, 1) := by decide +kernel
theorem dX12_why_287 : decode cX12_why 287 = .ok (.aload_n 0, 1) := by decide +kernel
theorem dX12_why_288 : decode cX12_why 288 = .ok (.getfield 47, 3) := by decide +kernel
theorem dX12_why_291 : decode cX12_why 291 = .ok (.iload_n 2, 1) := by decide +kernel
theorem dX12_why_292 : decode cX12_why 292 = .ok (.iaload, 1) := by decide +kernel
theorem dX12_why_293 : decode cX12_why 293 = .ok (.invokevirtual 224, 3) := by decide +kernel
theorem dX12_why_296 : decode cX12_why 296 = .ok (.ifCond .ne 9, 3) := by decide +kernel
theorem dX12_why_299 : decode cX12_why 299 = .ok (.bipush 10, 2) := by decide +kernel
theorem dX12_why_301 : decode cX12_why 301 = .ok (.iload 5, 2) := by decide +kernel
theorem dX12_why_303 : decode cX12_why 303 = .ok (.iadd, 1) := by decide +kernel
theorem dX12_why_304 : decode cX12_why 304 = .ok (.ireturn, 1) := by decide +kernel
theorem dX12_why_305 : decode cX12_why 305 = .ok (.iinc 5 1, 3) := by decide +kernel
theorem dX12_why_308 : decode cX12_why 308 = .ok (.goto (-39), 3) := by decide +kernel
theorem dX12_why_311 : decode cX12_why 311 = .ok (.iconst 0, 1) := by decide +kernel
theorem dX12_why_312 : decode cX12_why 312 = .ok (.ireturn, 1) := by decide +kernel
theorem dX12_may_0 : decode cX12_may 0 = .ok (.aload_n 0, 1) := by decide +kernel
theorem dX12_may_1 : decode cX12_may 1 = .ok (.iload_n 1, 1) := by decide +kernel
theorem dX12_may_2 : decode cX12_may 2 = .ok (.invokevirtual 215, 3) := by decide +kernel
theorem dX12_may_5 : decode cX12_may 5 = .ok (.ifCond .eq 29, 3) := by decide +kernel
theorem dX12_may_8 : decode cX12_may 8 = .ok (.aload_n 0, 1) := by decide +kernel
theorem dX12_may_9 : decode cX12_may 9 = .ok (.iload_n 2, 1) := by decide +kernel
theorem dX12_may_10 : decode cX12_may 10 = .ok (.invokevirtual 218, 3) := by decide +kernel
theorem dX12_may_13 : decode cX12_may 13 = .ok (.ifCond .eq 21, 3) := by decide +kernel
theorem dX12_may_16 : decode cX12_may 16 = .ok (.aload_n 0, 1) := by decide +kernel
theorem dX12_may_17 : decode cX12_may 17 = .ok (.iload_n 3, 1) := by decide +kernel
theorem dX12_may_18 : decode cX12_may 18 = .ok (.invokevirtual 166, 3) := by decide +kernel
theorem dX12_may_21 : decode cX12_may 21 = .ok (.ifCond .eq 13, 3) := by decide +kernel
theorem dX12_may_24 : decode cX12_may 24 = .ok (.aload_n 0, 1) := by decide +kernel
theorem dX12_may_25 : decode cX12_may 25 = .ok (.iload_n 1, 1) := by decide +kernel
theorem dX12_may_26 : decode cX12_may 26 = .ok (.iload_n 2, 1) := by decide +kernel
theorem dX12_may_27 : decode cX12_may 27 = .ok (.iload_n 3, 1) := by decide +kernel
theorem dX12_may_28 : decode cX12_may 28 = .ok (.invokevirtual 253, 3) := by decide +kernel
theorem dX12_may_31 : decode cX12_may 31 = .ok (.goto 4, 3) := by decide +kernel
theorem dX12_may_34 : decode cX12_may 34 = .ok (.iconst (-1), 1) := by decide +kernel
theorem dX12_may_35 : decode cX12_may 35 = .ok (.ireturn, 1) := by decide +kernel
theorem dX12_part_0 : decode cX12_part 0 = .ok (.iconst 0, 1) := by decide +kernel
theorem dX12_part_1 : decode cX12_part 1 = .ok (.istore_n 3, 1) := by decide +kernel
theorem dX12_part_2 : decode cX12_part 2 = .ok (.iconst (-1), 1) := by decide +kernel
theorem dX12_part_3 : decode cX12_part 3 = .ok (.istore 4, 2) := by decide +kernel
theorem dX12_part_5 : decode cX12_part 5 = .ok (.iconst 0, 1) := by decide +kernel
theorem dX12_part_6 : decode cX12_part 6 = .ok (.istore 5, 2) := by decide +kernel
theorem dX12_part_8 : decode cX12_part 8 = .ok (.iload 5, 2) := by decide +kernel
theorem dX12_part_10 : decode cX12_part 10 = .ok (.aload_n 0, 1) := by decide +kernel
theorem dX12_part_11 : decode cX12_part 11 = .ok (.getfield 163, 3) := by decide +kernel
theorem dX12_part_14 : decode cX12_part 14 = .ok (.if_icmp .ge 44, 3) := by decide +kernel
theorem dX12_part_17 : decode cX12_part 17 = .ok (.aload_n 0, 1) := by decide +kernel
theorem dX12_part_18 : decode cX12_part 18 = .ok (.getfield 77, 3) := by decide +kernel
theorem dX12_part_21 : decode cX12_part 21 = .ok (.iload 5, 2) := by decide +kernel
theorem dX12_part_23 : decode cX12_part 23 = .ok (.iaload, 1) := by decide +kernel
theorem dX12_part_24 : decode cX12_part 24 = .ok (.iload_n 1, 1) := by decide +kernel
theorem dX12_part_25 : decode cX12_part 25 = .ok (.if_icmp .ne 27, 3) := by decide +kernel
theorem dX12_part_28 : decode cX12_part 28 = .ok (.iload_n 3, 1) := by decide +kernel
theorem dX12_part_29 : decode cX12_part 29 = .ok (.aload_n 0, 1) := by decide +kernel
theorem dX12_part_30 : decode cX12_part 30 = .ok (.getfield 56, 3) := by decide +kernel
theorem dX12_part_33 : decode cX12_part 33 = .ok (.iload 5, 2) := by decide +kernel
theorem dX12_part_35 : decode cX12_part 35 = .ok (.iaload, 1) := by decide +kernel
theorem dX12_part_36 : decode cX12_part 36 = .ok (.iadd, 1) := by decide +kernel
theorem dX12_part_37 : decode cX12_part 37 = .ok (.istore_n 3, 1) := by decide +kernel
theorem dX12_part_38 : decode cX12_part 38 = .ok (.iload 4, 2) := by decide +kernel
theorem dX12_part_40 : decode cX12_part 40 = .ok (.ifCond .ge 8, 3) := by decide +kernel
theorem dX12_part_43 : decode cX12_part 43 = .ok (.iload 5, 2) := by decide +kernel
theorem dX12_part_45 : decode cX12_part 45 = .ok (.goto 5, 3) := by decide +kernel
theorem dX12_part_48 : decode cX12_part 48 = .ok (.iload 4, 2) := by decide +kernel
theorem dX12_part_50 : decode cX12_part 50 = .ok (.istore 4, 2) := by decide +kernel
theorem dX12_part_52 : decode cX12_part 52 = .ok (.iinc 5 1, 3) := by decide +kernel
theorem dX12_part_55 : decode cX12_part 55 = .ok (.goto (-47), 3) := by decide +kernel
theorem dX12_part_58 : decode cX12_part 58 = .ok (.iload_n 2, 1) := by decide +kernel
theorem dX12_part_59 : decode cX12_part 59 = .ok (.istore 5, 2) := by decide +kernel
theorem dX12_part_61 : decode cX12_part 61 = .ok (.iconst 0, 1) := by decide +kernel
theorem dX12_part_62 : decode cX12_part 62 = .ok (.istore 6, 2) := by decide +kernel
theorem dX12_part_64 : decode cX12_part 64 = .ok (.iload 6, 2) := by decide +kernel
theorem dX12_part_66 : decode cX12_part 66 = .ok (.aload_n 0, 1) := by decide +kernel
theorem dX12_part_67 : decode cX12_part 67 = .ok (.getfield 163, 3) := by decide +kernel
theorem dX12_part_70 : decode cX12_part 70 = .ok (.if_icmp .ge 50, 3) := by decide +kernel
theorem dX12_part_73 : decode cX12_part 73 = .ok (.aload_n 0, 1) := by decide +kernel
theorem dX12_part_74 : decode cX12_part 74 = .ok (.getfield 77, 3) := by decide +kernel
theorem dX12_part_77 : decode cX12_part 77 = .ok (.iload 6, 2) := by decide +kernel
theorem dX12_part_79 : decode cX12_part 79 = .ok (.iaload, 1) := by decide +kernel
theorem dX12_part_80 : decode cX12_part 80 = .ok (.iload_n 1, 1) := by decide +kernel
theorem dX12_part_81 : decode cX12_part 81 = .ok (.if_icmp .ne 33, 3) := by decide +kernel
theorem dX12_part_84 : decode cX12_part 84 = .ok (.aload_n 0, 1) := by decide +kernel
theorem dX12_part_85 : decode cX12_part 85 = .ok (.getfield 83, 3) := by decide +kernel
theorem dX12_part_88 : decode cX12_part 88 = .ok (.iload 6, 2) := by decide +kernel
theorem dX12_part_90 : decode cX12_part 90 = .ok (.iload_n 2, 1) := by decide +kernel
theorem dX12_part_91 : decode cX12_part 91 = .ok (.aload_n 0, 1) := by decide +kernel
theorem dX12_part_92 : decode cX12_part 92 = .ok (.getfield 56, 3) := by decide +kernel
theorem dX12_part_95 : decode cX12_part 95 = .ok (.iload 6, 2) := by decide +kernel
theorem dX12_part_97 : decode cX12_part 97 = .ok (.iaload, 1) := by decide +kernel
theorem dX12_part_98 : decode cX12_part 98 = .ok (.imul, 1) := by decide +kernel
theorem dX12_part_99 : decode cX12_part 99 = .ok (.iload_n 3, 1) := by decide +kernel
theorem dX12_part_100 : decode cX12_part 100 = .ok (.idiv, 1) := by decide +kernel
theorem dX12_part_101 : decode cX12_part 101 = .ok (.iastore, 1) := by decide +kernel
theorem dX12_part_102 : decode cX12_part 102 = .ok (.iload 5, 2) := by decide +kernel
theorem dX12_part_104 : decode cX12_part 104 = .ok (.aload_n 0, 1) := by decide +kernel
theorem dX12_part_105 : decode cX12_part 105 = .ok (.getfield 83, 3) := by decide +kernel
theorem dX12_part_108 : decode cX12_part 108 = .ok (.iload 6, 2) := by decide +kernel
theorem dX12_part_110 : decode cX12_part 110 = .ok (.iaload, 1) := by decide +kernel
theorem dX12_part_111 : decode cX12_part 111 = .ok (.isub, 1) := by decide +kernel
theorem dX12_part_112 : decode cX12_part 112 = .ok (.istore 5, 2) := by decide +kernel
theorem dX12_part_114 : decode cX12_part 114 = .ok (.iinc 6 1, 3) := by decide +kernel
theorem dX12_part_117 : decode cX12_part 117 = .ok (.goto (-53), 3) := by decide +kernel
theorem dX12_part_120 : decode cX12_part 120 = .ok (.iload 4, 2) := by decide +kernel
theorem dX12_part_122 : decode cX12_part 122 = .ok (.ifCond .lt 15, 3) := by decide +kernel
theorem dX12_part_125 : decode cX12_part 125 = .ok (.aload_n 0, 1) := by decide +kernel
theorem dX12_part_126 : decode cX12_part 126 = .ok (.getfield 83, 3) := by decide +kernel
theorem dX12_part_129 : decode cX12_part 129 = .ok (.iload 4, 2) := by decide +kernel
theorem dX12_part_131 : decode cX12_part 131 = .ok (.dup2, 1) := by decide +kernel
theorem dX12_part_132 : decode cX12_part 132 = .ok (.iaload, 1) := by decide +kernel
theorem dX12_part_133 : decode cX12_part 133 = .ok (.iload 5, 2) := by decide +kernel
theorem dX12_part_135 : decode cX12_part 135 = .ok (.iadd, 1) := by decide +kernel
theorem dX12_part_136 : decode cX12_part 136 = .ok (.iastore, 1) := by decide +kernel
theorem dX12_part_137 : decode cX12_part 137 = .ok (.return_, 1) := by decide +kernel
theorem dX12_fly_0 : decode cX12_fly 0 = .ok (.aload_n 0, 1) := by decide +kernel
theorem dX12_fly_1 : decode cX12_fly 1 = .ok (.iload_n 1, 1) := by decide +kernel
theorem dX12_fly_2 : decode cX12_fly 2 = .ok (.invokevirtual 215, 3) := by decide +kernel
theorem dX12_fly_5 : decode cX12_fly 5 = .ok (.ifCond .eq 19, 3) := by decide +kernel
theorem dX12_fly_8 : decode cX12_fly 8 = .ok (.aload_n 0, 1) := by decide +kernel
theorem dX12_fly_9 : decode cX12_fly 9 = .ok (.iload_n 2, 1) := by decide +kernel
theorem dX12_fly_10 : decode cX12_fly 10 = .ok (.invokevirtual 218, 3) := by decide +kernel
theorem dX12_fly_13 : decode cX12_fly 13 = .ok (.ifCond .eq 11, 3) := by decide +kernel
theorem dX12_fly_16 : decode cX12_fly 16 = .ok (.aload_n 0, 1) := by decide +kernel
theorem dX12_fly_17 : decode cX12_fly 17 = .ok (.iload_n 3, 1) := by decide +kernel
theorem dX12_fly_18 : decode cX12_fly 18 = .ok (.invokevirtual 166, 3) := by decide +kernel
theorem dX12_fly_21 : decode cX12_fly 21 = .ok (.ifCond .ne 5, 3) := by decide +kernel
theorem dX12_fly_24 : decode cX12_fly 24 = .ok (.iconst (-1), 1) := by decide +kernel
theorem dX12_fly_25 : decode cX12_fly 25 = .ok (.ireturn, 1) := by decide +kernel
theorem dX12_fly_26 : decode cX12_fly 26 = .ok (.aload_n 0, 1) := by decide +kernel
theorem dX12_fly_27 : decode cX12_fly 27 = .ok (.iload_n 1, 1) := by decide +kernel
theorem dX12_fly_28 : decode cX12_fly 28 = .ok (.iload_n 2, 1) := by decide +kernel
theorem dX12_fly_29 : decode cX12_fly 29 = .ok (.iload_n 3, 1) := by decide +kernel
theorem dX12_fly_30 : decode cX12_fly 30 = .ok (.invokevirtual 253, 3) := by decide +kernel
theorem dX12_fly_33 : decode cX12_fly 33 = .ok (.istore 4, 2) := by decide +kernel
theorem dX12_fly_35 : decode cX12_fly 35 = .ok (.iload 4, 2) := by decide +kernel
theorem dX12_fly_37 : decode cX12_fly 37 = .ok (.ifCond .eq 9, 3) := by decide +kernel
theorem dX12_fly_40 : decode cX12_fly 40 = .ok (.bipush (-10), 2) := by decide +kernel
theorem dX12_fly_42 : decode cX12_fly 42 = .ok (.iload 4, 2) := by decide +kernel
theorem dX12_fly_44 : decode cX12_fly 44 = .ok (.isub, 1) := by decide +kernel
theorem dX12_fly_45 : decode cX12_fly 45 = .ok (.ireturn, 1) := by decide +kernel
theorem dX12_fly_46 : decode cX12_fly 46 = .ok (.aload_n 0, 1) := by decide +kernel
theorem dX12_fly_47 : decode cX12_fly 47 = .ok (.getfield 256, 3) := by decide +kernel
theorem dX12_fly_50 : decode cX12_fly 50 = .ok (.sipush 200, 3) := by decide +kernel
theorem dX12_fly_53 : decode cX12_fly 53 = .ok (.if_icmp .ne 6, 3) := by decide +kernel
theorem dX12_fly_56 : decode cX12_fly 56 = .ok (.bipush (-2), 2) := by decide +kernel
theorem dX12_fly_58 : decode cX12_fly 58 = .ok (.ireturn, 1) := by decide +kernel
theorem dX12_fly_59 : decode cX12_fly 59 = .ok (.aload_n 0, 1) := by decide +kernel
theorem dX12_fly_60 : decode cX12_fly 60 = .ok (.getfield 256, 3) := by decide +kernel
theorem dX12_fly_63 : decode cX12_fly 63 = .ok (.istore 5, 2) := by decide +kernel
theorem dX12_fly_65 : decode cX12_fly 65 = .ok (.aload_n 0, 1) := by decide +kernel
theorem dX12_fly_66 : decode cX12_fly 66 = .ok (.getfield 98, 3) := by decide +kernel
theorem dX12_fly_69 : decode cX12_fly 69 = .ok (.iload 5, 2) := by decide +kernel
theorem dX12_fly_71 : decode cX12_fly 71 = .ok (.iload_n 1, 1) := by decide +kernel
theorem dX12_fly_72 : decode cX12_fly 72 = .ok (.iastore, 1) := by decide +kernel
theorem dX12_fly_73 : decode cX12_fly 73 = .ok (.aload_n 0, 1) := by decide +kernel
theorem dX12_fly_74 : decode cX12_fly 74 = .ok (.getfield 101, 3) := by decide +kernel
theorem dX12_fly_77 : decode cX12_fly 77 = .ok (.iload 5, 2) := by decide +kernel
theorem dX12_fly_79 : decode cX12_fly 79 = .ok (.iload_n 2, 1) := by decide +kernel
theorem dX12_fly_80 : decode cX12_fly 80 = .ok (.iastore, 1) := by decide +kernel
theorem dX12_fly_81 : decode cX12_fly 81 = .ok (.aload_n 0, 1) := by decide +kernel
theorem dX12_fly_82 : decode cX12_fly 82 = .ok (.getfield 104, 3) := by decide +kernel
theorem dX12_fly_85 : decode cX12_fly 85 = .ok (.iload 5, 2) := by decide +kernel
theorem dX12_fly_87 : decode cX12_fly 87 = .ok (.iload_n 3, 1) := by decide +kernel
theorem dX12_fly_88 : decode cX12_fly 88 = .ok (.iastore, 1) := by decide +kernel
theorem dX12_fly_89 : decode cX12_fly 89 = .ok (.aload_n 0, 1) := by decide +kernel
theorem dX12_fly_90 : decode cX12_fly 90 = .ok (.getfield 107, 3) := by decide +kernel
theorem dX12_fly_93 : decode cX12_fly 93 = .ok (.iload 5, 2) := by decide +kernel
theorem dX12_fly_95 : decode cX12_fly 95 = .ok (.aload_n 0, 1) := by decide +kernel
theorem dX12_fly_96 : decode cX12_fly 96 = .ok (.getfield 221, 3) := by decide +kernel
theorem dX12_fly_99 : decode cX12_fly 99 = .ok (.iastore, 1) := by decide +kernel
theorem dX12_fly_100 : decode cX12_fly 100 = .ok (.aload_n 0, 1) := by decide +kernel
theorem dX12_fly_101 : decode cX12_fly 101 = .ok (.getfield 110, 3) := by decide +kernel
theorem dX12_fly_104 : decode cX12_fly 104 = .ok (.iload 5, 2) := by decide +kernel
theorem dX12_fly_106 : decode cX12_fly 106 = .ok (.aload_n 0, 1) := by decide +kernel
theorem dX12_fly_107 : decode cX12_fly 107 = .ok (.getfield 237, 3) := by decide +kernel
theorem dX12_fly_110 : decode cX12_fly 110 = .ok (.iastore, 1) := by decide +kernel
theorem dX12_fly_111 : decode cX12_fly 111 = .ok (.aload_n 0, 1) := by decide +kernel
theorem dX12_fly_112 : decode cX12_fly 112 = .ok (.getfield 113, 3) := by decide +kernel
theorem dX12_fly_115 : decode cX12_fly 115 = .ok (.iload 5, 2) := by decide +kernel
theorem dX12_fly_117 : decode cX12_fly 117 = .ok (.aload_n 0, 1) := by decide +kernel
theorem dX12_fly_118 : decode cX12_fly 118 = .ok (.getfield 240, 3) := by decide +kernel
theorem dX12_fly_121 : decode cX12_fly 121 = .ok (.iastore, 1) := by decide +kernel
theorem dX12_fly_122 : decode cX12_fly 122 = .ok (.aload_n 0, 1) := by decide +kernel
theorem dX12_fly_123 : decode cX12_fly 123 = .ok (.getfield 116, 3) := by decide +kernel
theorem dX12_fly_126 : decode cX12_fly 126 = .ok (.iload 5, 2) := by decide +kernel
theorem dX12_fly_128 : decode cX12_fly 128 = .ok (.aload_n 0, 1) := by decide +kernel
theorem dX12_fly_129 : decode cX12_fly 129 = .ok (.getfield 246, 3) := by decide +kernel
theorem dX12_fly_132 : decode cX12_fly 132 = .ok (.iastore, 1) := by decide +kernel
theorem dX12_fly_133 : decode cX12_fly 133 = .ok (.aload_n 0, 1) := by decide +kernel
theorem dX12_fly_134 : decode cX12_fly 134 = .ok (.getfield 119, 3) := by decide +kernel
theorem dX12_fly_137 : decode cX12_fly 137 = .ok (.iload 5, 2) := by decide +kernel
theorem dX12_fly_139 : decode cX12_fly 139 = .ok (.iconst 0, 1) := by decide +kernel
theorem dX12_fly_140 : decode cX12_fly 140 = .ok (.iastore, 1) := by decide +kernel
theorem dX12_fly_141 : decode cX12_fly 141 = .ok (.aload_n 0, 1) := by decide +kernel
theorem dX12_fly_142 : decode cX12_fly 142 = .ok (.getfield 122, 3) := by decide +kernel
theorem dX12_fly_145 : decode cX12_fly 145 = .ok (.iload 5, 2) := by decide +kernel
theorem dX12_fly_147 : decode cX12_fly 147 = .ok (.iconst 0, 1) := by decide +kernel
theorem dX12_fly_148 : decode cX12_fly 148 = .ok (.iastore, 1) := by decide +kernel
theorem dX12_fly_149 : decode cX12_fly 149 = .ok (.iconst 0, 1) := by decide +kernel
theorem dX12_fly_150 : decode cX12_fly 150 = .ok (.istore 6, 2) := by decide +kernel
theorem dX12_fly_152 : decode cX12_fly 152 = .ok (.iload 6, 2) := by decide +kernel
theorem dX12_fly_154 : decode cX12_fly 154 = .ok (.aload_n 0, 1) := by decide +kernel
theorem dX12_fly_155 : decode cX12_fly 155 = .ok (.getfield 163, 3) := by decide +kernel
theorem dX12_fly_158 : decode cX12_fly 158 = .ok (.if_icmp .ge 118, 3) := by decide +kernel
theorem dX12_fly_161 : decode cX12_fly 161 = .ok (.aload_n 0, 1) := by decide +kernel
theorem dX12_fly_162 : decode cX12_fly 162 = .ok (.getfield 71, 3) := by decide +kernel
theorem dX12_fly_165 : decode cX12_fly 165 = .ok (.iload 6, 2) := by decide +kernel
theorem dX12_fly_167 : decode cX12_fly 167 = .ok (.iaload, 1) := by decide +kernel
theorem dX12_fly_168 : decode cX12_fly 168 = .ok (.iconst 1, 1) := by decide +kernel
theorem dX12_fly_169 : decode cX12_fly 169 = .ok (.if_icmp .ne 18, 3) := by decide +kernel
theorem dX12_fly_172 : decode cX12_fly 172 = .ok (.aload_n 0, 1) := by decide +kernel
theorem dX12_fly_173 : decode cX12_fly 173 = .ok (.getfield 74, 3) := by decide +kernel
theorem dX12_fly_176 : decode cX12_fly 176 = .ok (.iload 6, 2) := by decide +kernel
theorem dX12_fly_178 : decode cX12_fly 178 = .ok (.iaload, 1) := by decide +kernel
theorem dX12_fly_179 : decode cX12_fly 179 = .ok (.iload_n 1, 1) := by decide +kernel
theorem dX12_fly_180 : decode cX12_fly 180 = .ok (.if_icmp .ne 7, 3) := by decide +kernel
theorem dX12_fly_183 : decode cX12_fly 183 = .ok (.iconst 1, 1) := by decide +kernel
theorem dX12_fly_184 : decode cX12_fly 184 = .ok (.goto 4, 3) := by decide +kernel
theorem dX12_fly_187 : decode cX12_fly 187 = .ok (.iconst 0, 1) := by decide +kernel
theorem dX12_fly_188 : decode cX12_fly 188 = .ok (.istore 7, 2) := by decide +kernel
theorem dX12_fly_190 : decode cX12_fly 190 = .ok (.iload 7, 2) := by decide +kernel
theorem dX12_fly_192 : decode cX12_fly 192 = .ok (.ifCond .ne 13, 3) := by decide +kernel
theorem dX12_fly_195 : decode cX12_fly 195 = .ok (.aload_n 0, 1) := by decide +kernel
theorem dX12_fly_196 : decode cX12_fly 196 = .ok (.getfield 125, 3) := by decide +kernel
theorem dX12_fly_199 : decode cX12_fly 199 = .ok (.iload 6, 2) := by decide +kernel
theorem dX12_fly_201 : decode cX12_fly 201 = .ok (.baload, 1) := by decide +kernel
theorem dX12_fly_202 : decode cX12_fly 202 = .ok (.ifCond .eq 68, 3) := by decide +kernel
theorem dX12_fly_205 : decode cX12_fly 205 = .ok (.aload_n 0, 1) := by decide +kernel
theorem dX12_fly_206 : decode cX12_fly 206 = .ok (.getfield 119, 3) := by decide +kernel
theorem dX12_fly_209 : decode cX12_fly 209 = .ok (.iload 5, 2) := by decide +kernel
theorem dX12_fly_211 : decode cX12_fly 211 = .ok (.dup2, 1) := by decide +kernel
theorem dX12_fly_212 : decode cX12_fly 212 = .ok (.iaload, 1) := by decide +kernel
theorem dX12_fly_213 : decode cX12_fly 213 = .ok (.iload 7, 2) := by decide +kernel
theorem dX12_fly_215 : decode cX12_fly 215 = .ok (.ifCond .eq 7, 3) := by decide +kernel
theorem dX12_fly_218 : decode cX12_fly 218 = .ok (.iconst 1, 1) := by decide +kernel
theorem dX12_fly_219 : decode cX12_fly 219 = .ok (.goto 4, 3) := by decide +kernel
theorem dX12_fly_222 : decode cX12_fly 222 = .ok (.iconst 0, 1) := by decide +kernel
theorem dX12_fly_223 : decode cX12_fly 223 = .ok (.iadd, 1) := by decide +kernel
theorem dX12_fly_224 : decode cX12_fly 224 = .ok (.iastore, 1) := by decide +kernel
theorem dX12_fly_225 : decode cX12_fly 225 = .ok (.aload_n 0, 1) := by decide +kernel
theorem dX12_fly_226 : decode cX12_fly 226 = .ok (.getfield 122, 3) := by decide +kernel
theorem dX12_fly_229 : decode cX12_fly 229 = .ok (.iload 5, 2) := by decide +kernel
theorem dX12_fly_231 : decode cX12_fly 231 = .ok (.dup2, 1) := by decide +kernel
theorem dX12_fly_232 : decode cX12_fly 232 = .ok (.iaload, 1) := by decide +kernel
theorem dX12_fly_233 : decode cX12_fly 233 = .ok (.iload 7, 2) := by decide +kernel
theorem dX12_fly_235 : decode cX12_fly 235 = .ok (.ifCond .eq 7, 3) := by decide +kernel
theorem dX12_fly_238 : decode cX12_fly 238 = .ok (.iconst 0, 1) := by decide +kernel
theorem dX12_fly_239 : decode cX12_fly 239 = .ok (.goto 4, 3) := by decide +kernel
theorem dX12_fly_242 : decode cX12_fly 242 = .ok (.iconst 1, 1) := by decide +kernel
theorem dX12_fly_243 : decode cX12_fly 243 = .ok (.iadd, 1) := by decide +kernel
theorem dX12_fly_244 : decode cX12_fly 244 = .ok (.iastore, 1) := by decide +kernel
theorem dX12_fly_245 : decode cX12_fly 245 = .ok (.aload_n 0, 1) := by decide +kernel
theorem dX12_fly_246 : decode cX12_fly 246 = .ok (.getfield 71, 3) := by decide +kernel
theorem dX12_fly_249 : decode cX12_fly 249 = .ok (.iload 6, 2) := by decide +kernel
theorem dX12_fly_251 : decode cX12_fly 251 = .ok (.iconst 2, 1) := by decide +kernel
theorem dX12_fly_252 : decode cX12_fly 252 = .ok (.iastore, 1) := by decide +kernel
theorem dX12_fly_253 : decode cX12_fly 253 = .ok (.aload_n 0, 1) := by decide +kernel
theorem dX12_fly_254 : decode cX12_fly 254 = .ok (.getfield 74, 3) := by decide +kernel
theorem dX12_fly_257 : decode cX12_fly 257 = .ok (.iload 6, 2) := by decide +kernel
theorem dX12_fly_259 : decode cX12_fly 259 = .ok (.iconst (-1), 1) := by decide +kernel
theorem dX12_fly_260 : decode cX12_fly 260 = .ok (.iastore, 1) := by decide +kernel
theorem dX12_fly_261 : decode cX12_fly 261 = .ok (.aload_n 0, 1) := by decide +kernel
theorem dX12_fly_262 : decode cX12_fly 262 = .ok (.getfield 77, 3) := by decide +kernel
theorem dX12_fly_265 : decode cX12_fly 265 = .ok (.iload 6, 2) := by decide +kernel
theorem dX12_fly_267 : decode cX12_fly 267 = .ok (.iload 5, 2) := by decide +kernel
theorem dX12_fly_269 : decode cX12_fly 269 = .ok (.iastore, 1) := by decide +kernel
theorem dX12_fly_270 : decode cX12_fly 270 = .ok (.iinc 6 1, 3) := by decide +kernel
theorem dX12_fly_273 : decode cX12_fly 273 = .ok (.goto (-121), 3) := by decide +kernel
theorem dX12_fly_276 : decode cX12_fly 276 = .ok (.aload_n 0, 1) := by decide +kernel
theorem dX12_fly_277 : decode cX12_fly 277 = .ok (.getfield 35, 3) := by decide +kernel
theorem dX12_fly_280 : decode cX12_fly 280 = .ok (.iload_n 1, 1) := by decide +kernel
theorem dX12_fly_281 : decode cX12_fly 281 = .ok (.dup2, 1) := by decide +kernel
theorem dX12_fly_282 : decode cX12_fly 282 = .ok (.iaload, 1) := by decide +kernel
theorem dX12_fly_283 : decode cX12_fly 283 = .ok (.aload_n 0, 1) := by decide +kernel
theorem dX12_fly_284 : decode cX12_fly 284 = .ok (.getfield 246, 3) := by decide +kernel
theorem dX12_fly_287 : decode cX12_fly 287 = .ok (.isub, 1) := by decide +kernel
theorem dX12_fly_288 : decode cX12_fly 288 = .ok (.iastore, 1) := by decide +kernel
theorem dX12_fly_289 : decode cX12_fly 289 = .ok (.aload_n 0, 1) := by decide +kernel
theorem dX12_fly_290 : decode cX12_fly 290 = .ok (.getfield 38, 3) := by decide +kernel
theorem dX12_fly_293 : decode cX12_fly 293 = .ok (.iload_n 1, 1) := by decide +kernel
theorem dX12_fly_294 : decode cX12_fly 294 = .ok (.aload_n 0, 1) := by decide +kernel
theorem dX12_fly_295 : decode cX12_fly 295 = .ok (.getfield 240, 3) := by decide +kernel
theorem dX12_fly_298 : decode cX12_fly 298 = .ok (.iastore, 1) := by decide +kernel
theorem dX12_fly_299 : decode cX12_fly 299 = .ok (.aload_n 0, 1) := by decide +kernel
theorem dX12_fly_300 : decode cX12_fly 300 = .ok (.getfield 50, 3) := by decide +kernel
theorem dX12_fly_303 : decode cX12_fly 303 = .ok (.iload_n 2, 1) := by decide +kernel
theorem dX12_fly_304 : decode cX12_fly 304 = .ok (.aload_n 0, 1) := by decide +kernel
theorem dX12_fly_305 : decode cX12_fly 305 = .ok (.getfield 240, 3) := by decide +kernel
theorem dX12_fly_308 : decode cX12_fly 308 = .ok (.aload_n 0, 1) := by decide +kernel
theorem dX12_fly_309 : decode cX12_fly 309 = .ok (.getfield 44, 3) := by decide +kernel
theorem dX12_fly_312 : decode cX12_fly 312 = .ok (.iload_n 2, 1) := by decide +kernel
theorem dX12_fly_313 : decode cX12_fly 313 = .ok (.iaload, 1) := by decide +kernel
theorem dX12_fly_314 : decode cX12_fly 314 = .ok (.iadd, 1) := by decide +kernel
theorem dX12_fly_315 : decode cX12_fly 315 = .ok (.iastore, 1) := by decide +kernel
theorem dX12_fly_316 : decode cX12_fly 316 = .ok (.aload_n 0, 1) := by decide +kernel
theorem dX12_fly_317 : decode cX12_fly 317 = .ok (.getfield 47, 3) := by decide +kernel
theorem dX12_fly_320 : decode cX12_fly 320 = .ok (.iload_n 2, 1) := by decide +kernel
theorem dX12_fly_321 : decode cX12_fly 321 = .ok (.dup2, 1) := by decide +kernel
theorem dX12_fly_322 : decode cX12_fly 322 = .ok (.iaload, 1) := by decide +kernel
theorem dX12_fly_323 : decode cX12_fly 323 = .ok (.aload_n 0, 1) := by decide +kernel
theorem dX12_fly_324 : decode cX12_fly 324 = .ok (.getfield 240, 3) := by decide +kernel
theorem dX12_fly_327 : decode cX12_fly 327 = .ok (.aload_n 0, 1) := by decide +kernel
theorem dX12_fly_328 : decode cX12_fly 328 = .ok (.getfield 221, 3) := by decide +kernel
theorem dX12_fly_331 : decode cX12_fly 331 = .ok (.isub, 1) := by decide +kernel
theorem dX12_fly_332 : decode cX12_fly 332 = .ok (.iadd, 1) := by decide +kernel
theorem dX12_fly_333 : decode cX12_fly 333 = .ok (.iastore, 1) := by decide +kernel
theorem dX12_fly_334 : decode cX12_fly 334 = .ok (.aload_n 0, 1) := by decide +kernel
theorem dX12_fly_335 : decode cX12_fly 335 = .ok (.iload 5, 2) := by decide +kernel
theorem dX12_fly_337 : decode cX12_fly 337 = .ok (.aload_n 0, 1) := by decide +kernel
theorem dX12_fly_338 : decode cX12_fly 338 = .ok (.getfield 240, 3) := by decide +kernel
theorem dX12_fly_341 : decode cX12_fly 341 = .ok (.aload_n 0, 1) := by decide +kernel
theorem dX12_fly_342 : decode cX12_fly 342 = .ok (.getfield 221, 3) := by decide +kernel
theorem dX12_fly_345 : decode cX12_fly 345 = .ok (.isub, 1) := by decide +kernel
theorem dX12_fly_346 : decode cX12_fly 346 = .ok (.invokevirtual 259, 3) := by decide +kernel
theorem dX12_fly_349 : decode cX12_fly 349 = .ok (.aload_n 0, 1) := by decide +kernel
theorem dX12_fly_350 : decode cX12_fly 350 = .ok (.dup, 1) := by decide +kernel
theorem dX12_fly_351 : decode cX12_fly 351 = .ok (.getfield 256, 3) := by decide +kernel
theorem dX12_fly_354 : decode cX12_fly 354 = .ok (.iconst 1, 1) := by decide +kernel
theorem dX12_fly_355 : decode cX12_fly 355 = .ok (.iadd, 1) := by decide +kernel
theorem dX12_fly_356 : decode cX12_fly 356 = .ok (.putfield 256, 3) := by decide +kernel
theorem dX12_fly_359 : decode cX12_fly 359 = .ok (.iload 5, 2) := by decide +kernel
theorem dX12_fly_361 : decode cX12_fly 361 = .ok (.ireturn, 1) := by decide +kernel
theorem dX12_fuel_0 : decode cX12_fuel 0 = .ok (.aload_n 0, 1) := by decide +kernel
theorem dX12_fuel_1 : decode cX12_fuel 1 = .ok (.iload_n 1, 1) := by decide +kernel
theorem dX12_fuel_2 : decode cX12_fuel 2 = .ok (.invokevirtual 215, 3) := by decide +kernel
theorem dX12_fuel_5 : decode cX12_fuel 5 = .ok (.ifCond .ne 5, 3) := by decide +kernel
theorem dX12_fuel_8 : decode cX12_fuel 8 = .ok (.iconst (-1), 1) := by decide +kernel
theorem dX12_fuel_9 : decode cX12_fuel 9 = .ok (.ireturn, 1) := by decide +kernel
theorem dX12_fuel_10 : decode cX12_fuel 10 = .ok (.aload_n 0, 1) := by decide +kernel
theorem dX12_fuel_11 : decode cX12_fuel 11 = .ok (.getfield 38, 3) := by decide +kernel
theorem dX12_fuel_14 : decode cX12_fuel 14 = .ok (.iload_n 1, 1) := by decide +kernel
theorem dX12_fuel_15 : decode cX12_fuel 15 = .ok (.iaload, 1) := by decide +kernel
theorem dX12_fuel_16 : decode cX12_fuel 16 = .ok (.aload_n 0, 1) := by decide +kernel
theorem dX12_fuel_17 : decode cX12_fuel 17 = .ok (.getfield 221, 3) := by decide +kernel
theorem dX12_fuel_20 : decode cX12_fuel 20 = .ok (.if_icmp .le 6, 3) := by decide +kernel
theorem dX12_fuel_23 : decode cX12_fuel 23 = .ok (.bipush (-3), 2) := by decide +kernel
theorem dX12_fuel_25 : decode cX12_fuel 25 = .ok (.ireturn, 1) := by decide +kernel
theorem dX12_fuel_26 : decode cX12_fuel 26 = .ok (.aload_n 0, 1) := by decide +kernel
theorem dX12_fuel_27 : decode cX12_fuel 27 = .ok (.getfield 32, 3) := by decide +kernel
theorem dX12_fuel_30 : decode cX12_fuel 30 = .ok (.iload_n 1, 1) := by decide +kernel
theorem dX12_fuel_31 : decode cX12_fuel 31 = .ok (.iaload, 1) := by decide +kernel
theorem dX12_fuel_32 : decode cX12_fuel 32 = .ok (.aload_n 0, 1) := by decide +kernel
theorem dX12_fuel_33 : decode cX12_fuel 33 = .ok (.getfield 35, 3) := by decide +kernel
theorem dX12_fuel_36 : decode cX12_fuel 36 = .ok (.iload_n 1, 1) := by decide +kernel
theorem dX12_fuel_37 : decode cX12_fuel 37 = .ok (.iaload, 1) := by decide +kernel
theorem dX12_fuel_38 : decode cX12_fuel 38 = .ok (.isub, 1) := by decide +kernel
theorem dX12_fuel_39 : decode cX12_fuel 39 = .ok (.istore_n 2, 1) := by decide +kernel
theorem dX12_fuel_40 : decode cX12_fuel 40 = .ok (.aload_n 0, 1) := by decide +kernel
theorem dX12_fuel_41 : decode cX12_fuel 41 = .ok (.getfield 35, 3) := by decide +kernel
theorem dX12_fuel_44 : decode cX12_fuel 44 = .ok (.iload_n 1, 1) := by decide +kernel
theorem dX12_fuel_45 : decode cX12_fuel 45 = .ok (.aload_n 0, 1) := by decide +kernel
theorem dX12_fuel_46 : decode cX12_fuel 46 = .ok (.getfield 32, 3) := by decide +kernel
theorem dX12_fuel_49 : decode cX12_fuel 49 = .ok (.iload_n 1, 1) := by decide +kernel
theorem dX12_fuel_50 : decode cX12_fuel 50 = .ok (.iaload, 1) := by decide +kernel
theorem dX12_fuel_51 : decode cX12_fuel 51 = .ok (.iastore, 1) := by decide +kernel
theorem dX12_fuel_52 : decode cX12_fuel 52 = .ok (.iload_n 2, 1) := by decide +kernel
theorem dX12_fuel_53 : decode cX12_fuel 53 = .ok (.ireturn, 1) := by decide +kernel
theorem dX12_minute_0 : decode cX12_minute 0 = .ok (.iload_n 1, 1) := by decide +kernel
theorem dX12_minute_1 : decode cX12_minute 1 = .ok (.iconst 1, 1) := by decide +kernel
theorem dX12_minute_2 : decode cX12_minute 2 = .ok (.bipush 120, 2) := by decide +kernel
theorem dX12_minute_4 : decode cX12_minute 4 = .ok (.invokestatic 153, 3) := by decide +kernel
theorem dX12_minute_7 : decode cX12_minute 7 = .ok (.ifCond .eq 15, 3) := by decide +kernel
theorem dX12_minute_10 : decode cX12_minute 10 = .ok (.aload_n 0, 1) := by decide +kernel
theorem dX12_minute_11 : decode cX12_minute 11 = .ok (.getfield 221, 3) := by decide +kernel
theorem dX12_minute_14 : decode cX12_minute 14 = .ok (.iload_n 1, 1) := by decide +kernel
theorem dX12_minute_15 : decode cX12_minute 15 = .ok (.iadd, 1) := by decide +kernel
theorem dX12_minute_16 : decode cX12_minute 16 = .ok (.sipush 720, 3) := by decide +kernel
theorem dX12_minute_19 : decode cX12_minute 19 = .ok (.if_icmp .le 5, 3) := by decide +kernel
theorem dX12_minute_22 : decode cX12_minute 22 = .ok (.iconst (-1), 1) := by decide +kernel
theorem dX12_minute_23 : decode cX12_minute 23 = .ok (.ireturn, 1) := by decide +kernel
theorem dX12_minute_24 : decode cX12_minute 24 = .ok (.aload_n 0, 1) := by decide +kernel
theorem dX12_minute_25 : decode cX12_minute 25 = .ok (.dup, 1) := by decide +kernel
theorem dX12_minute_26 : decode cX12_minute 26 = .ok (.getfield 221, 3) := by decide +kernel
theorem dX12_minute_29 : decode cX12_minute 29 = .ok (.iload_n 1, 1) := by decide +kernel
theorem dX12_minute_30 : decode cX12_minute 30 = .ok (.iadd, 1) := by decide +kernel
theorem dX12_minute_31 : decode cX12_minute 31 = .ok (.putfield 221, 3) := by decide +kernel
theorem dX12_minute_34 : decode cX12_minute 34 = .ok (.iconst 0, 1) := by decide +kernel
theorem dX12_minute_35 : decode cX12_minute 35 = .ok (.istore_n 2, 1) := by decide +kernel
theorem dX12_minute_36 : decode cX12_minute 36 = .ok (.iload_n 2, 1) := by decide +kernel
theorem dX12_minute_37 : decode cX12_minute 37 = .ok (.aload_n 0, 1) := by decide +kernel
theorem dX12_minute_38 : decode cX12_minute 38 = .ok (.getfield 163, 3) := by decide +kernel
theorem dX12_minute_41 : decode cX12_minute 41 = .ok (.if_icmp .ge 77, 3) := by decide +kernel
theorem dX12_minute_44 : decode cX12_minute 44 = .ok (.aload_n 0, 1) := by decide +kernel
theorem dX12_minute_45 : decode cX12_minute 45 = .ok (.getfield 71, 3) := by decide +kernel
theorem dX12_minute_48 : decode cX12_minute 48 = .ok (.iload_n 2, 1) := by decide +kernel
theorem dX12_minute_49 : decode cX12_minute 49 = .ok (.iaload, 1) := by decide +kernel
theorem dX12_minute_50 : decode cX12_minute 50 = .ok (.iconst 2, 1) := by decide +kernel
theorem dX12_minute_51 : decode cX12_minute 51 = .ok (.if_icmp .ne 61, 3) := by decide +kernel
theorem dX12_minute_54 : decode cX12_minute 54 = .ok (.aload_n 0, 1) := by decide +kernel
theorem dX12_minute_55 : decode cX12_minute 55 = .ok (.getfield 62, 3) := by decide +kernel
theorem dX12_minute_58 : decode cX12_minute 58 = .ok (.iload_n 2, 1) := by decide +kernel
theorem dX12_minute_59 : decode cX12_minute 59 = .ok (.iaload, 1) := by decide +kernel
theorem dX12_minute_60 : decode cX12_minute 60 = .ok (.iconst 4, 1) := by decide +kernel
theorem dX12_minute_61 : decode cX12_minute 61 = .ok (.if_icmp .ne 17, 3) := by decide +kernel
theorem dX12_minute_64 : decode cX12_minute 64 = .ok (.aload_n 0, 1) := by decide +kernel
theorem dX12_minute_65 : decode cX12_minute 65 = .ok (.getfield 113, 3) := by decide +kernel
theorem dX12_minute_68 : decode cX12_minute 68 = .ok (.aload_n 0, 1) := by decide +kernel
theorem dX12_minute_69 : decode cX12_minute 69 = .ok (.getfield 77, 3) := by decide +kernel
theorem dX12_minute_72 : decode cX12_minute 72 = .ok (.iload_n 2, 1) := by decide +kernel
theorem dX12_minute_73 : decode cX12_minute 73 = .ok (.iaload, 1) := by decide +kernel
theorem dX12_minute_74 : decode cX12_minute 74 = .ok (.iaload, 1) := by decide +kernel
theorem dX12_minute_75 : decode cX12_minute 75 = .ok (.goto 14, 3) := by decide +kernel
theorem dX12_minute_78 : decode cX12_minute 78 = .ok (.aload_n 0, 1) := by decide +kernel
theorem dX12_minute_79 : decode cX12_minute 79 = .ok (.getfield 110, 3) := by decide +kernel
theorem dX12_minute_82 : decode cX12_minute 82 = .ok (.aload_n 0, 1) := by decide +kernel
theorem dX12_minute_83 : decode cX12_minute 83 = .ok (.getfield 77, 3) := by decide +kernel
theorem dX12_minute_86 : decode cX12_minute 86 = .ok (.iload_n 2, 1) := by decide +kernel
theorem dX12_minute_87 : decode cX12_minute 87 = .ok (.iaload, 1) := by decide +kernel
theorem dX12_minute_88 : decode cX12_minute 88 = .ok (.iaload, 1) := by decide +kernel
theorem dX12_minute_89 : decode cX12_minute 89 = .ok (.istore_n 3, 1) := by decide +kernel
theorem dX12_minute_90 : decode cX12_minute 90 = .ok (.iload_n 3, 1) := by decide +kernel
theorem dX12_minute_91 : decode cX12_minute 91 = .ok (.aload_n 0, 1) := by decide +kernel
theorem dX12_minute_92 : decode cX12_minute 92 = .ok (.getfield 221, 3) := by decide +kernel
theorem dX12_minute_95 : decode cX12_minute 95 = .ok (.if_icmp .gt 17, 3) := by decide +kernel
theorem dX12_minute_98 : decode cX12_minute 98 = .ok (.aload_n 0, 1) := by decide +kernel
theorem dX12_minute_99 : decode cX12_minute 99 = .ok (.getfield 71, 3) := by decide +kernel
theorem dX12_minute_102 : decode cX12_minute 102 = .ok (.iload_n 2, 1) := by decide +kernel
theorem dX12_minute_103 : decode cX12_minute 103 = .ok (.iconst 3, 1) := by decide +kernel
theorem dX12_minute_104 : decode cX12_minute 104 = .ok (.iastore, 1) := by decide +kernel
theorem dX12_minute_105 : decode cX12_minute 105 = .ok (.aload_n 0, 1) := by decide +kernel
theorem dX12_minute_106 : decode cX12_minute 106 = .ok (.getfield 80, 3) := by decide +kernel
theorem dX12_minute_109 : decode cX12_minute 109 = .ok (.iload_n 2, 1) := by decide +kernel
theorem dX12_minute_110 : decode cX12_minute 110 = .ok (.iload_n 3, 1) := by decide +kernel
theorem dX12_minute_111 : decode cX12_minute 111 = .ok (.iastore, 1) := by decide +kernel
theorem dX12_minute_112 : decode cX12_minute 112 = .ok (.iinc 2 1, 3) := by decide +kernel
theorem dX12_minute_115 : decode cX12_minute 115 = .ok (.goto (-79), 3) := by decide +kernel
theorem dX12_minute_118 : decode cX12_minute 118 = .ok (.aload_n 0, 1) := by decide +kernel
theorem dX12_minute_119 : decode cX12_minute 119 = .ok (.getfield 221, 3) := by decide +kernel
theorem dX12_minute_122 : decode cX12_minute 122 = .ok (.ireturn, 1) := by decide +kernel
theorem dX12_about_0 : decode cX12_about 0 = .ok (.aload_n 0, 1) := by decide +kernel
theorem dX12_about_1 : decode cX12_about 1 = .ok (.iload_n 1, 1) := by decide +kernel
theorem dX12_about_2 : decode cX12_about 2 = .ok (.invokevirtual 215, 3) := by decide +kernel
theorem dX12_about_5 : decode cX12_about 5 = .ok (.ifCond .ne 6, 3) := by decide +kernel
theorem dX12_about_8 : decode cX12_about 8 = .ok (.bipush (-9), 2) := by decide +kernel
theorem dX12_about_10 : decode cX12_about 10 = .ok (.ireturn, 1) := by decide +kernel
theorem dX12_about_11 : decode cX12_about 11 = .ok (.iload_n 2, 1) := by decide +kernel
theorem dX12_about_12 : decode cX12_about 12 = .ok (.tableswitch 80 0 4 #[36, 43, 50, 58, 66], 36) := by decide +kernel
theorem dX12_about_48 : decode cX12_about 48 = .ok (.aload_n 0, 1) := by decide +kernel
theorem dX12_about_49 : decode cX12_about 49 = .ok (.getfield 35, 3) := by decide +kernel
theorem dX12_about_52 : decode cX12_about 52 = .ok (.iload_n 1, 1) := by decide +kernel
theorem dX12_about_53 : decode cX12_about 53 = .ok (.iaload, 1) := by decide +kernel
theorem dX12_about_54 : decode cX12_about 54 = .ok (.ireturn, 1) := by decide +kernel
theorem dX12_about_55 : decode cX12_about 55 = .ok (.aload_n 0, 1) := by decide +kernel
theorem dX12_about_56 : decode cX12_about 56 = .ok (.getfield 38, 3) := by decide +kernel
theorem dX12_about_59 : decode cX12_about 59 = .ok (.iload_n 1, 1) := by decide +kernel
theorem dX12_about_60 : decode cX12_about 60 = .ok (.iaload, 1) := by decide +kernel
theorem dX12_about_61 : decode cX12_about 61 = .ok (.ireturn, 1) := by decide +kernel
theorem dX12_about_62 : decode cX12_about 62 = .ok (.aload_n 0, 1) := by decide +kernel
theorem dX12_about_63 : decode cX12_about 63 = .ok (.iload_n 1, 1) := by decide +kernel
theorem dX12_about_64 : decode cX12_about 64 = .ok (.bipush 110, 2) := by decide +kernel
theorem dX12_about_66 : decode cX12_about 66 = .ok (.invokevirtual 211, 3) := by decide +kernel
theorem dX12_about_69 : decode cX12_about 69 = .ok (.ireturn, 1) := by decide +kernel
theorem dX12_about_70 : decode cX12_about 70 = .ok (.aload_n 0, 1) := by decide +kernel
theorem dX12_about_71 : decode cX12_about 71 = .ok (.iload_n 1, 1) := by decide +kernel
theorem dX12_about_72 : decode cX12_about 72 = .ok (.bipush 108, 2) := by decide +kernel
theorem dX12_about_74 : decode cX12_about 74 = .ok (.invokevirtual 211, 3) := by decide +kernel
theorem dX12_about_77 : decode cX12_about 77 = .ok (.ireturn, 1) := by decide +kernel
theorem dX12_about_78 : decode cX12_about 78 = .ok (.aload_n 0, 1) := by decide +kernel
theorem dX12_about_79 : decode cX12_about 79 = .ok (.iload_n 1, 1) := by decide +kernel
theorem dX12_about_80 : decode cX12_about 80 = .ok (.iconst 0, 1) := by decide +kernel
theorem dX12_about_81 : decode cX12_about 81 = .ok (.aload_n 0, 1) := by decide +kernel
theorem dX12_about_82 : decode cX12_about 82 = .ok (.getfield 221, 3) := by decide +kernel
theorem dX12_about_85 : decode cX12_about 85 = .ok (.invokestatic 207, 3) := by decide +kernel
theorem dX12_about_88 : decode cX12_about 88 = .ok (.invokevirtual 243, 3) := by decide +kernel
theorem dX12_about_91 : decode cX12_about 91 = .ok (.ireturn, 1) := by decide +kernel
theorem dX12_about_92 : decode cX12_about 92 = .ok (.bipush (-9), 2) := by decide +kernel
theorem dX12_about_94 : decode cX12_about 94 = .ok (.ireturn, 1) := by decide +kernel
theorem dX12_pilotOf_0 : decode cX12_pilotOf 0 = .ok (.aload_n 0, 1) := by decide +kernel
theorem dX12_pilotOf_1 : decode cX12_pilotOf 1 = .ok (.iload_n 1, 1) := by decide +kernel
theorem dX12_pilotOf_2 : decode cX12_pilotOf 2 = .ok (.invokevirtual 218, 3) := by decide +kernel
theorem dX12_pilotOf_5 : decode cX12_pilotOf 5 = .ok (.ifCond .ne 6, 3) := by decide +kernel
theorem dX12_pilotOf_8 : decode cX12_pilotOf 8 = .ok (.bipush (-9), 2) := by decide +kernel
theorem dX12_pilotOf_10 : decode cX12_pilotOf 10 = .ok (.ireturn, 1) := by decide +kernel
theorem dX12_pilotOf_11 : decode cX12_pilotOf 11 = .ok (.iload_n 2, 1) := by decide +kernel
theorem dX12_pilotOf_12 : decode cX12_pilotOf 12 = .ok (.ifCond .ne 12, 3) := by decide +kernel
theorem dX12_pilotOf_15 : decode cX12_pilotOf 15 = .ok (.aload_n 0, 1) := by decide +kernel
theorem dX12_pilotOf_16 : decode cX12_pilotOf 16 = .ok (.getfield 47, 3) := by decide +kernel
theorem dX12_pilotOf_19 : decode cX12_pilotOf 19 = .ok (.iload_n 1, 1) := by decide +kernel
theorem dX12_pilotOf_20 : decode cX12_pilotOf 20 = .ok (.iaload, 1) := by decide +kernel
theorem dX12_pilotOf_21 : decode cX12_pilotOf 21 = .ok (.goto 40, 3) := by decide +kernel
theorem dX12_pilotOf_24 : decode cX12_pilotOf 24 = .ok (.iload_n 2, 1) := by decide +kernel
theorem dX12_pilotOf_25 : decode cX12_pilotOf 25 = .ok (.iconst 1, 1) := by decide +kernel
theorem dX12_pilotOf_26 : decode cX12_pilotOf 26 = .ok (.if_icmp .ne 12, 3) := by decide +kernel
theorem dX12_pilotOf_29 : decode cX12_pilotOf 29 = .ok (.aload_n 0, 1) := by decide +kernel
theorem dX12_pilotOf_30 : decode cX12_pilotOf 30 = .ok (.getfield 50, 3) := by decide +kernel
theorem dX12_pilotOf_33 : decode cX12_pilotOf 33 = .ok (.iload_n 1, 1) := by decide +kernel
theorem dX12_pilotOf_34 : decode cX12_pilotOf 34 = .ok (.iaload, 1) := by decide +kernel
theorem dX12_pilotOf_35 : decode cX12_pilotOf 35 = .ok (.goto 26, 3) := by decide +kernel
theorem dX12_pilotOf_38 : decode cX12_pilotOf 38 = .ok (.iload_n 2, 1) := by decide +kernel
theorem dX12_pilotOf_39 : decode cX12_pilotOf 39 = .ok (.iconst 2, 1) := by decide +kernel
theorem dX12_pilotOf_40 : decode cX12_pilotOf 40 = .ok (.if_icmp .ne 19, 3) := by decide +kernel
theorem dX12_pilotOf_43 : decode cX12_pilotOf 43 = .ok (.aload_n 0, 1) := by decide +kernel
theorem dX12_pilotOf_44 : decode cX12_pilotOf 44 = .ok (.getfield 41, 3) := by decide +kernel
theorem dX12_pilotOf_47 : decode cX12_pilotOf 47 = .ok (.iload_n 1, 1) := by decide +kernel
theorem dX12_pilotOf_48 : decode cX12_pilotOf 48 = .ok (.iaload, 1) := by decide +kernel
theorem dX12_pilotOf_49 : decode cX12_pilotOf 49 = .ok (.aload_n 0, 1) := by decide +kernel
theorem dX12_pilotOf_50 : decode cX12_pilotOf 50 = .ok (.getfield 47, 3) := by decide +kernel
theorem dX12_pilotOf_53 : decode cX12_pilotOf 53 = .ok (.iload_n 1, 1) := by decide +kernel
theorem dX12_pilotOf_54 : decode cX12_pilotOf 54 = .ok (.iaload, 1) := by decide +kernel
theorem dX12_pilotOf_55 : decode cX12_pilotOf 55 = .ok (.isub, 1) := by decide +kernel
theorem dX12_pilotOf_56 : decode cX12_pilotOf 56 = .ok (.goto 5, 3) := by decide +kernel
theorem dX12_pilotOf_59 : decode cX12_pilotOf 59 = .ok (.bipush (-9), 2) := by decide +kernel
theorem dX12_pilotOf_61 : decode cX12_pilotOf 61 = .ok (.ireturn, 1) := by decide +kernel
theorem dX12_isLate_0 : decode cX12_isLate 0 = .ok (.aload_n 0, 1) := by decide +kernel
theorem dX12_isLate_1 : decode cX12_isLate 1 = .ok (.getfield 71, 3) := by decide +kernel
theorem dX12_isLate_4 : decode cX12_isLate 4 = .ok (.iload_n 1, 1) := by decide +kernel
theorem dX12_isLate_5 : decode cX12_isLate 5 = .ok (.iaload, 1) := by decide +kernel
theorem dX12_isLate_6 : decode cX12_isLate 6 = .ok (.iconst 3, 1) := by decide +kernel
theorem dX12_isLate_7 : decode cX12_isLate 7 = .ok (.if_icmp .ne 22, 3) := by decide +kernel
theorem dX12_isLate_10 : decode cX12_isLate 10 = .ok (.aload_n 0, 1) := by decide +kernel
theorem dX12_isLate_11 : decode cX12_isLate 11 = .ok (.getfield 80, 3) := by decide +kernel
theorem dX12_isLate_14 : decode cX12_isLate 14 = .ok (.iload_n 1, 1) := by decide +kernel
theorem dX12_isLate_15 : decode cX12_isLate 15 = .ok (.iaload, 1) := by decide +kernel
theorem dX12_isLate_16 : decode cX12_isLate 16 = .ok (.aload_n 0, 1) := by decide +kernel
theorem dX12_isLate_17 : decode cX12_isLate 17 = .ok (.getfield 68, 3) := by decide +kernel
theorem dX12_isLate_20 : decode cX12_isLate 20 = .ok (.iload_n 1, 1) := by decide +kernel
theorem dX12_isLate_21 : decode cX12_isLate 21 = .ok (.iaload, 1) := by decide +kernel
theorem dX12_isLate_22 : decode cX12_isLate 22 = .ok (.if_icmp .le 7, 3) := by decide +kernel
theorem dX12_isLate_25 : decode cX12_isLate 25 = .ok (.iconst 1, 1) := by decide +kernel
theorem dX12_isLate_26 : decode cX12_isLate 26 = .ok (.goto 4, 3) := by decide +kernel
theorem dX12_isLate_29 : decode cX12_isLate 29 = .ok (.iconst 0, 1) := by decide +kernel
theorem dX12_isLate_30 : decode cX12_isLate 30 = .ok (.ireturn, 1) := by decide +kernel
theorem dX12_cargo_0 : decode cX12_cargo 0 = .ok (.aload_n 0, 1) := by decide +kernel
theorem dX12_cargo_1 : decode cX12_cargo 1 = .ok (.iload_n 1, 1) := by decide +kernel
theorem dX12_cargo_2 : decode cX12_cargo 2 = .ok (.invokevirtual 228, 3) := by decide +kernel
theorem dX12_cargo_5 : decode cX12_cargo 5 = .ok (.ifCond .ne 6, 3) := by decide +kernel
theorem dX12_cargo_8 : decode cX12_cargo 8 = .ok (.bipush (-9), 2) := by decide +kernel
theorem dX12_cargo_10 : decode cX12_cargo 10 = .ok (.ireturn, 1) := by decide +kernel
theorem dX12_cargo_11 : decode cX12_cargo 11 = .ok (.iload_n 2, 1) := by decide +kernel
theorem dX12_cargo_12 : decode cX12_cargo 12 = .ok (.tableswitch 89 0 5 #[40, 47, 54, 61, 68, 82], 40) := by decide +kernel
theorem dX12_cargo_52 : decode cX12_cargo 52 = .ok (.aload_n 0, 1) := by decide +kernel
theorem dX12_cargo_53 : decode cX12_cargo 53 = .ok (.getfield 71, 3) := by decide +kernel
theorem dX12_cargo_56 : decode cX12_cargo 56 = .ok (.iload_n 1, 1) := by decide +kernel
theorem dX12_cargo_57 : decode cX12_cargo 57 = .ok (.iaload, 1) := by decide +kernel
theorem dX12_cargo_58 : decode cX12_cargo 58 = .ok (.ireturn, 1) := by decide +kernel
theorem dX12_cargo_59 : decode cX12_cargo 59 = .ok (.aload_n 0, 1) := by decide +kernel
theorem dX12_cargo_60 : decode cX12_cargo 60 = .ok (.getfield 74, 3) := by decide +kernel
theorem dX12_cargo_63 : decode cX12_cargo 63 = .ok (.iload_n 1, 1) := by decide +kernel
theorem dX12_cargo_64 : decode cX12_cargo 64 = .ok (.iaload, 1) := by decide +kernel
theorem dX12_cargo_65 : decode cX12_cargo 65 = .ok (.ireturn, 1) := by decide +kernel
theorem dX12_cargo_66 : decode cX12_cargo 66 = .ok (.aload_n 0, 1) := by decide +kernel
theorem dX12_cargo_67 : decode cX12_cargo 67 = .ok (.getfield 77, 3) := by decide +kernel
theorem dX12_cargo_70 : decode cX12_cargo 70 = .ok (.iload_n 1, 1) := by decide +kernel
theorem dX12_cargo_71 : decode cX12_cargo 71 = .ok (.iaload, 1) := by decide +kernel
theorem dX12_cargo_72 : decode cX12_cargo 72 = .ok (.ireturn, 1) := by decide +kernel
theorem dX12_cargo_73 : decode cX12_cargo 73 = .ok (.aload_n 0, 1) := by decide +kernel
theorem dX12_cargo_74 : decode cX12_cargo 74 = .ok (.getfield 80, 3) := by decide +kernel
theorem dX12_cargo_77 : decode cX12_cargo 77 = .ok (.iload_n 1, 1) := by decide +kernel
theorem dX12_cargo_78 : decode cX12_cargo 78 = .ok (.iaload, 1) := by decide +kernel
theorem dX12_cargo_79 : decode cX12_cargo 79 = .ok (.ireturn, 1) := by decide +kernel
theorem dX12_cargo_80 : decode cX12_cargo 80 = .ok (.aload_n 0, 1) := by decide +kernel
theorem dX12_cargo_81 : decode cX12_cargo 81 = .ok (.iload_n 1, 1) := by decide +kernel
theorem dX12_cargo_82 : decode cX12_cargo 82 = .ok (.invokevirtual 262, 3) := by decide +kernel
theorem dX12_cargo_85 : decode cX12_cargo 85 = .ok (.ifCond .eq 7, 3) := by decide +kernel
theorem dX12_cargo_88 : decode cX12_cargo 88 = .ok (.iconst 1, 1) := by decide +kernel
theorem dX12_cargo_89 : decode cX12_cargo 89 = .ok (.goto 4, 3) := by decide +kernel
theorem dX12_cargo_92 : decode cX12_cargo 92 = .ok (.iconst 0, 1) := by decide +kernel
theorem dX12_cargo_93 : decode cX12_cargo 93 = .ok (.ireturn, 1) := by decide +kernel
theorem dX12_cargo_94 : decode cX12_cargo 94 = .ok (.aload_n 0, 1) := by decide +kernel
theorem dX12_cargo_95 : decode cX12_cargo 95 = .ok (.getfield 83, 3) := by decide +kernel
theorem dX12_cargo_98 : decode cX12_cargo 98 = .ok (.iload_n 1, 1) := by decide +kernel
theorem dX12_cargo_99 : decode cX12_cargo 99 = .ok (.iaload, 1) := by decide +kernel
theorem dX12_cargo_100 : decode cX12_cargo 100 = .ok (.ireturn, 1) := by decide +kernel
theorem dX12_cargo_101 : decode cX12_cargo 101 = .ok (.bipush (-9), 2) := by decide +kernel
theorem dX12_cargo_103 : decode cX12_cargo 103 = .ok (.ireturn, 1) := by decide +kernel
theorem dX12_flight_0 : decode cX12_flight 0 = .ok (.iload_n 1, 1) := by decide +kernel
theorem dX12_flight_1 : decode cX12_flight 1 = .ok (.ifCond .lt 11, 3) := by decide +kernel
theorem dX12_flight_4 : decode cX12_flight 4 = .ok (.iload_n 1, 1) := by decide +kernel
theorem dX12_flight_5 : decode cX12_flight 5 = .ok (.aload_n 0, 1) := by decide +kernel
theorem dX12_flight_6 : decode cX12_flight 6 = .ok (.getfield 256, 3) := by decide +kernel
theorem dX12_flight_9 : decode cX12_flight 9 = .ok (.if_icmp .lt 6, 3) := by decide +kernel
theorem dX12_flight_12 : decode cX12_flight 12 = .ok (.bipush (-9), 2) := by decide +kernel
theorem dX12_flight_14 : decode cX12_flight 14 = .ok (.ireturn, 1) := by decide +kernel
theorem dX12_flight_15 : decode cX12_flight 15 = .ok (.iload_n 2, 1) := by decide +kernel
theorem dX12_flight_16 : decode cX12_flight 16 = .ok (.tableswitch 115 0 8 #[52, 59, 66, 73, 80, 87, 94, 101, 108], 52) := by decide +kernel
theorem dX12_flight_68 : decode cX12_flight 68 = .ok (.aload_n 0, 1) := by decide +kernel
theorem dX12_flight_69 : decode cX12_flight 69 = .ok (.getfield 98, 3) := by decide +kernel
theorem dX12_flight_72 : decode cX12_flight 72 = .ok (.iload_n 1, 1) := by decide +kernel
theorem dX12_flight_73 : decode cX12_flight 73 = .ok (.iaload, 1) := by decide +kernel
theorem dX12_flight_74 : decode cX12_flight 74 = .ok (.ireturn, 1) := by decide +kernel
theorem dX12_flight_75 : decode cX12_flight 75 = .ok (.aload_n 0, 1) := by decide +kernel
theorem dX12_flight_76 : decode cX12_flight 76 = .ok (.getfield 101, 3) := by decide +kernel
theorem dX12_flight_79 : decode cX12_flight 79 = .ok (.iload_n 1, 1) := by decide +kernel
theorem dX12_flight_80 : decode cX12_flight 80 = .ok (.iaload, 1) := by decide +kernel
theorem dX12_flight_81 : decode cX12_flight 81 = .ok (.ireturn, 1) := by decide +kernel
theorem dX12_flight_82 : decode cX12_flight 82 = .ok (.aload_n 0, 1) := by decide +kernel
theorem dX12_flight_83 : decode cX12_flight 83 = .ok (.getfield 104, 3) := by decide +kernel
theorem dX12_flight_86 : decode cX12_flight 86 = .ok (.iload_n 1, 1) := by decide +kernel
theorem dX12_flight_87 : decode cX12_flight 87 = .ok (.iaload, 1) := by decide +kernel
theorem dX12_flight_88 : decode cX12_flight 88 = .ok (.ireturn, 1) := by decide +kernel
theorem dX12_flight_89 : decode cX12_flight 89 = .ok (.aload_n 0, 1) := by decide +kernel
theorem dX12_flight_90 : decode cX12_flight 90 = .ok (.getfield 107, 3) := by decide +kernel
theorem dX12_flight_93 : decode cX12_flight 93 = .ok (.iload_n 1, 1) := by decide +kernel
theorem dX12_flight_94 : decode cX12_flight 94 = .ok (.iaload, 1) := by decide +kernel
theorem dX12_flight_95 : decode cX12_flight 95 = .ok (.ireturn, 1) := by decide +kernel
theorem dX12_flight_96 : decode cX12_flight 96 = .ok (.aload_n 0, 1) := by decide +kernel
theorem dX12_flight_97 : decode cX12_flight 97 = .ok (.getfield 110, 3) := by decide +kernel
theorem dX12_flight_100 : decode cX12_flight 100 = .ok (.iload_n 1, 1) := by decide +kernel
theorem dX12_flight_101 : decode cX12_flight 101 = .ok (.iaload, 1) := by decide +kernel
theorem dX12_flight_102 : decode cX12_flight 102 = .ok (.ireturn, 1) := by decide +kernel
theorem dX12_flight_103 : decode cX12_flight 103 = .ok (.aload_n 0, 1) := by decide +kernel
theorem dX12_flight_104 : decode cX12_flight 104 = .ok (.getfield 113, 3) := by decide +kernel
theorem dX12_flight_107 : decode cX12_flight 107 = .ok (.iload_n 1, 1) := by decide +kernel
theorem dX12_flight_108 : decode cX12_flight 108 = .ok (.iaload, 1) := by decide +kernel
theorem dX12_flight_109 : decode cX12_flight 109 = .ok (.ireturn, 1) := by decide +kernel
theorem dX12_flight_110 : decode cX12_flight 110 = .ok (.aload_n 0, 1) := by decide +kernel
theorem dX12_flight_111 : decode cX12_flight 111 = .ok (.getfield 116, 3) := by decide +kernel
theorem dX12_flight_114 : decode cX12_flight 114 = .ok (.iload_n 1, 1) := by decide +kernel
theorem dX12_flight_115 : decode cX12_flight 115 = .ok (.iaload, 1) := by decide +kernel
theorem dX12_flight_116 : decode cX12_flight 116 = .ok (.ireturn, 1) := by decide +kernel
theorem dX12_flight_117 : decode cX12_flight 117 = .ok (.aload_n 0, 1) := by decide +kernel
theorem dX12_flight_118 : decode cX12_flight 118 = .ok (.getfield 119, 3) := by decide +kernel
theorem dX12_flight_121 : decode cX12_flight 121 = .ok (.iload_n 1, 1) := by decide +kernel
theorem dX12_flight_122 : decode cX12_flight 122 = .ok (.iaload, 1) := by decide +kernel
theorem dX12_flight_123 : decode cX12_flight 123 = .ok (.ireturn, 1) := by decide +kernel
theorem dX12_flight_124 : decode cX12_flight 124 = .ok (.aload_n 0, 1) := by decide +kernel
theorem dX12_flight_125 : decode cX12_flight 125 = .ok (.getfield 122, 3) := by decide +kernel
theorem dX12_flight_128 : decode cX12_flight 128 = .ok (.iload_n 1, 1) := by decide +kernel
theorem dX12_flight_129 : decode cX12_flight 129 = .ok (.iaload, 1) := by decide +kernel
theorem dX12_flight_130 : decode cX12_flight 130 = .ok (.ireturn, 1) := by decide +kernel
theorem dX12_flight_131 : decode cX12_flight 131 = .ok (.bipush (-9), 2) := by decide +kernel
theorem dX12_flight_133 : decode cX12_flight 133 = .ok (.ireturn, 1) := by decide +kernel
theorem dX12_lift_0 : decode cX12_lift 0 = .ok (.aload_n 0, 1) := by decide +kernel
theorem dX12_lift_1 : decode cX12_lift 1 = .ok (.iload_n 1, 1) := by decide +kernel
theorem dX12_lift_2 : decode cX12_lift 2 = .ok (.invokevirtual 215, 3) := by decide +kernel
theorem dX12_lift_5 : decode cX12_lift 5 = .ok (.ifCond .eq 35, 3) := by decide +kernel
theorem dX12_lift_8 : decode cX12_lift 8 = .ok (.iload_n 2, 1) := by decide +kernel
theorem dX12_lift_9 : decode cX12_lift 9 = .ok (.ifCond .lt 31, 3) := by decide +kernel
theorem dX12_lift_12 : decode cX12_lift 12 = .ok (.iload_n 2, 1) := by decide +kernel
theorem dX12_lift_13 : decode cX12_lift 13 = .ok (.aload_n 0, 1) := by decide +kernel
theorem dX12_lift_14 : decode cX12_lift 14 = .ok (.getfield 16, 3) := by decide +kernel
theorem dX12_lift_17 : decode cX12_lift 17 = .ok (.if_icmp .ge 23, 3) := by decide +kernel
theorem dX12_lift_20 : decode cX12_lift 20 = .ok (.iload_n 3, 1) := by decide +kernel
theorem dX12_lift_21 : decode cX12_lift 21 = .ok (.iconst 0, 1) := by decide +kernel
theorem dX12_lift_22 : decode cX12_lift 22 = .ok (.bipush 11, 2) := by decide +kernel
theorem dX12_lift_24 : decode cX12_lift 24 = .ok (.invokestatic 153, 3) := by decide +kernel
theorem dX12_lift_27 : decode cX12_lift 27 = .ok (.ifCond .eq 13, 3) := by decide +kernel
theorem dX12_lift_30 : decode cX12_lift 30 = .ok (.aload_n 0, 1) := by decide +kernel
theorem dX12_lift_31 : decode cX12_lift 31 = .ok (.iload_n 1, 1) := by decide +kernel
theorem dX12_lift_32 : decode cX12_lift 32 = .ok (.iload_n 2, 1) := by decide +kernel
theorem dX12_lift_33 : decode cX12_lift 33 = .ok (.iload_n 3, 1) := by decide +kernel
theorem dX12_lift_34 : decode cX12_lift 34 = .ok (.invokevirtual 243, 3) := by decide +kernel
theorem dX12_lift_37 : decode cX12_lift 37 = .ok (.goto 5, 3) := by decide +kernel
theorem dX12_lift_40 : decode cX12_lift 40 = .ok (.bipush (-9), 2) := by decide +kernel
theorem dX12_lift_42 : decode cX12_lift 42 = .ok (.ireturn, 1) := by decide +kernel
theorem dX12_isAlone_0 : decode cX12_isAlone 0 = .ok (.aload_n 0, 1) := by decide +kernel
theorem dX12_isAlone_1 : decode cX12_isAlone 1 = .ok (.getfield 62, 3) := by decide +kernel
theorem dX12_isAlone_4 : decode cX12_isAlone 4 = .ok (.iload_n 1, 1) := by decide +kernel
theorem dX12_isAlone_5 : decode cX12_isAlone 5 = .ok (.iaload, 1) := by decide +kernel
theorem dX12_isAlone_6 : decode cX12_isAlone 6 = .ok (.iconst 1, 1) := by decide +kernel
theorem dX12_isAlone_7 : decode cX12_isAlone 7 = .ok (.if_icmp .eq 13, 3) := by decide +kernel
theorem dX12_isAlone_10 : decode cX12_isAlone 10 = .ok (.aload_n 0, 1) := by decide +kernel
theorem dX12_isAlone_11 : decode cX12_isAlone 11 = .ok (.getfield 62, 3) := by decide +kernel
theorem dX12_isAlone_14 : decode cX12_isAlone 14 = .ok (.iload_n 1, 1) := by decide +kernel
theorem dX12_isAlone_15 : decode cX12_isAlone 15 = .ok (.iaload, 1) := by decide +kernel
theorem dX12_isAlone_16 : decode cX12_isAlone 16 = .ok (.iconst 3, 1) := by decide +kernel
theorem dX12_isAlone_17 : decode cX12_isAlone 17 = .ok (.if_icmp .ne 7, 3) := by decide +kernel
theorem dX12_isAlone_20 : decode cX12_isAlone 20 = .ok (.iconst 1, 1) := by decide +kernel
theorem dX12_isAlone_21 : decode cX12_isAlone 21 = .ok (.goto 4, 3) := by decide +kernel
theorem dX12_isAlone_24 : decode cX12_isAlone 24 = .ok (.iconst 0, 1) := by decide +kernel
theorem dX12_isAlone_25 : decode cX12_isAlone 25 = .ok (.ireturn, 1) := by decide +kernel
theorem dX12_packs_0 : decode cX12_packs 0 = .ok (.iload_n 1, 1) := by decide +kernel
theorem dX12_packs_1 : decode cX12_packs 1 = .ok (.aload_n 0, 1) := by decide +kernel
theorem dX12_packs_2 : decode cX12_packs 2 = .ok (.getfield 265, 3) := by decide +kernel
theorem dX12_packs_5 : decode cX12_packs 5 = .ok (.if_icmp .ne 5, 3) := by decide +kernel
theorem dX12_packs_8 : decode cX12_packs 8 = .ok (.iconst 1, 1) := by decide +kernel
theorem dX12_packs_9 : decode cX12_packs 9 = .ok (.ireturn, 1) := by decide +kernel
theorem dX12_packs_10 : decode cX12_packs 10 = .ok (.iconst 0, 1) := by decide +kernel
theorem dX12_packs_11 : decode cX12_packs 11 = .ok (.istore 4, 2) := by decide +kernel
theorem dX12_packs_13 : decode cX12_packs 13 = .ok (.iload 4, 2) := by decide +kernel
theorem dX12_packs_15 : decode cX12_packs 15 = .ok (.iload_n 2, 1) := by decide +kernel
theorem dX12_packs_16 : decode cX12_packs 16 = .ok (.if_icmp .ge 208, 3) := by decide +kernel
theorem dX12_packs_19 : decode cX12_packs 19 = .ok (.aload_n 0, 1) := by decide +kernel
theorem dX12_packs_20 : decode cX12_packs 20 = .ok (.getfield 56, 3) := by decide +kernel
theorem dX12_packs_23 : decode cX12_packs 23 = .ok (.aload_n 0, 1) := by decide +kernel
theorem dX12_packs_24 : decode cX12_packs 24 = .ok (.getfield 147, 3) := by decide +kernel
theorem dX12_packs_27 : decode cX12_packs 27 = .ok (.iload_n 1, 1) := by decide +kernel
theorem dX12_packs_28 : decode cX12_packs 28 = .ok (.iaload, 1) := by decide +kernel
theorem dX12_packs_29 : decode cX12_packs 29 = .ok (.iaload, 1) := by decide +kernel
theorem dX12_packs_30 : decode cX12_packs 30 = .ok (.istore 5, 2) := by decide +kernel
theorem dX12_packs_32 : decode cX12_packs 32 = .ok (.aload_n 0, 1) := by decide +kernel
theorem dX12_packs_33 : decode cX12_packs 33 = .ok (.getfield 59, 3) := by decide +kernel
theorem dX12_packs_36 : decode cX12_packs 36 = .ok (.aload_n 0, 1) := by decide +kernel
theorem dX12_packs_37 : decode cX12_packs 37 = .ok (.getfield 147, 3) := by decide +kernel
theorem dX12_packs_40 : decode cX12_packs 40 = .ok (.iload_n 1, 1) := by decide +kernel
theorem dX12_packs_41 : decode cX12_packs 41 = .ok (.iaload, 1) := by decide +kernel
theorem dX12_packs_42 : decode cX12_packs 42 = .ok (.iaload, 1) := by decide +kernel
theorem dX12_packs_43 : decode cX12_packs 43 = .ok (.istore 6, 2) := by decide +kernel
theorem dX12_packs_45 : decode cX12_packs 45 = .ok (.iconst 1, 1) := by decide +kernel
theorem dX12_packs_46 : decode cX12_packs 46 = .ok (.istore 7, 2) := by decide +kernel
theorem dX12_packs_48 : decode cX12_packs 48 = .ok (.iconst 1, 1) := by decide +kernel
theorem dX12_packs_49 : decode cX12_packs 49 = .ok (.istore 8, 2) := by decide +kernel
theorem dX12_packs_51 : decode cX12_packs 51 = .ok (.iconst 0, 1) := by decide +kernel
theorem dX12_packs_52 : decode cX12_packs 52 = .ok (.istore 9, 2) := by decide +kernel
theorem dX12_packs_54 : decode cX12_packs 54 = .ok (.iload 9, 2) := by decide +kernel
theorem dX12_packs_56 : decode cX12_packs 56 = .ok (.iload_n 1, 1) := by decide +kernel
theorem dX12_packs_57 : decode cX12_packs 57 = .ok (.if_icmp .ge 84, 3) := by decide +kernel
theorem dX12_packs_60 : decode cX12_packs 60 = .ok (.aload_n 0, 1) := by decide +kernel
theorem dX12_packs_61 : decode cX12_packs 61 = .ok (.getfield 144, 3) := by decide +kernel
theorem dX12_packs_64 : decode cX12_packs 64 = .ok (.iload 9, 2) := by decide +kernel
theorem dX12_packs_66 : decode cX12_packs 66 = .ok (.iaload, 1) := by decide +kernel
theorem dX12_packs_67 : decode cX12_packs 67 = .ok (.iload 4, 2) := by decide +kernel
theorem dX12_packs_69 : decode cX12_packs 69 = .ok (.if_icmp .ne 66, 3) := by decide +kernel
theorem dX12_packs_72 : decode cX12_packs 72 = .ok (.iload 5, 2) := by decide +kernel
theorem dX12_packs_74 : decode cX12_packs 74 = .ok (.aload_n 0, 1) := by decide +kernel
theorem dX12_packs_75 : decode cX12_packs 75 = .ok (.getfield 56, 3) := by decide +kernel
theorem dX12_packs_78 : decode cX12_packs 78 = .ok (.aload_n 0, 1) := by decide +kernel
theorem dX12_packs_79 : decode cX12_packs 79 = .ok (.getfield 147, 3) := by decide +kernel
theorem dX12_packs_82 : decode cX12_packs 82 = .ok (.iload 9, 2) := by decide +kernel
theorem dX12_packs_84 : decode cX12_packs 84 = .ok (.iaload, 1) := by decide +kernel
theorem dX12_packs_85 : decode cX12_packs 85 = .ok (.iaload, 1) := by decide +kernel
theorem dX12_packs_86 : decode cX12_packs 86 = .ok (.iadd, 1) := by decide +kernel
theorem dX12_packs_87 : decode cX12_packs 87 = .ok (.istore 5, 2) := by decide +kernel
theorem dX12_packs_89 : decode cX12_packs 89 = .ok (.iload 6, 2) := by decide +kernel
theorem dX12_packs_91 : decode cX12_packs 91 = .ok (.aload_n 0, 1) := by decide +kernel
theorem dX12_packs_92 : decode cX12_packs 92 = .ok (.getfield 59, 3) := by decide +kernel
theorem dX12_packs_95 : decode cX12_packs 95 = .ok (.aload_n 0, 1) := by decide +kernel
theorem dX12_packs_96 : decode cX12_packs 96 = .ok (.getfield 147, 3) := by decide +kernel
theorem dX12_packs_99 : decode cX12_packs 99 = .ok (.iload 9, 2) := by decide +kernel
theorem dX12_packs_101 : decode cX12_packs 101 = .ok (.iaload, 1) := by decide +kernel
theorem dX12_packs_102 : decode cX12_packs 102 = .ok (.iaload, 1) := by decide +kernel
theorem dX12_packs_103 : decode cX12_packs 103 = .ok (.iadd, 1) := by decide +kernel
theorem dX12_packs_104 : decode cX12_packs 104 = .ok (.istore 6, 2) := by decide +kernel
theorem dX12_packs_106 : decode cX12_packs 106 = .ok (.iconst 0, 1) := by decide +kernel
theorem dX12_packs_107 : decode cX12_packs 107 = .ok (.istore 7, 2) := by decide +kernel
theorem dX12_packs_109 : decode cX12_packs 109 = .ok (.iload 8, 2) := by decide +kernel
theorem dX12_packs_111 : decode cX12_packs 111 = .ok (.ifCond .eq 21, 3) := by decide +kernel
theorem dX12_packs_114 : decode cX12_packs 114 = .ok (.aload_n 0, 1) := by decide +kernel
theorem dX12_packs_115 : decode cX12_packs 115 = .ok (.aload_n 0, 1) := by decide +kernel
theorem dX12_packs_116 : decode cX12_packs 116 = .ok (.getfield 147, 3) := by decide +kernel
theorem dX12_packs_119 : decode cX12_packs 119 = .ok (.iload 9, 2) := by decide +kernel
theorem dX12_packs_121 : decode cX12_packs 121 = .ok (.iaload, 1) := by decide +kernel
theorem dX12_packs_122 : decode cX12_packs 122 = .ok (.invokevirtual 268, 3) := by decide +kernel
theorem dX12_packs_125 : decode cX12_packs 125 = .ok (.ifCond .ne 7, 3) := by decide +kernel
theorem dX12_packs_128 : decode cX12_packs 128 = .ok (.iconst 1, 1) := by decide +kernel
theorem dX12_packs_129 : decode cX12_packs 129 = .ok (.goto 4, 3) := by decide +kernel
theorem dX12_packs_132 : decode cX12_packs 132 = .ok (.iconst 0, 1) := by decide +kernel
theorem dX12_packs_133 : decode cX12_packs 133 = .ok (.istore 8, 2) := by decide +kernel
theorem dX12_packs_135 : decode cX12_packs 135 = .ok (.iinc 9 1, 3) := by decide +kernel
theorem dX12_packs_138 : decode cX12_packs 138 = .ok (.goto (-84), 3) := by decide +kernel
theorem dX12_packs_141 : decode cX12_packs 141 = .ok (.iload 8, 2) := by decide +kernel
theorem dX12_packs_143 : decode cX12_packs 143 = .ok (.ifCond .eq 38, 3) := by decide +kernel
theorem dX12_packs_146 : decode cX12_packs 146 = .ok (.iload 7, 2) := by decide +kernel
theorem dX12_packs_148 : decode cX12_packs 148 = .ok (.ifCond .ne 16, 3) := by decide +kernel
theorem dX12_packs_151 : decode cX12_packs 151 = .ok (.aload_n 0, 1) := by decide +kernel
theorem dX12_packs_152 : decode cX12_packs 152 = .ok (.aload_n 0, 1) := by decide +kernel
theorem dX12_packs_153 : decode cX12_packs 153 = .ok (.getfield 147, 3) := by decide +kernel
theorem dX12_packs_156 : decode cX12_packs 156 = .ok (.iload_n 1, 1) := by decide +kernel
theorem dX12_packs_157 : decode cX12_packs 157 = .ok (.iaload, 1) := by decide +kernel
theorem dX12_packs_158 : decode cX12_packs 158 = .ok (.invokevirtual 268, 3) := by decide +kernel
theorem dX12_packs_161 : decode cX12_packs 161 = .ok (.ifCond .ne 20, 3) := by decide +kernel
theorem dX12_packs_164 : decode cX12_packs 164 = .ok (.iload 5, 2) := by decide +kernel
theorem dX12_packs_166 : decode cX12_packs 166 = .ok (.iload_n 3, 1) := by decide +kernel
theorem dX12_packs_167 : decode cX12_packs 167 = .ok (.if_icmp .gt 14, 3) := by decide +kernel
theorem dX12_packs_170 : decode cX12_packs 170 = .ok (.iload 6, 2) := by decide +kernel
theorem dX12_packs_172 : decode cX12_packs 172 = .ok (.bipush 9, 2) := by decide +kernel
theorem dX12_packs_174 : decode cX12_packs 174 = .ok (.if_icmp .gt 7, 3) := by decide +kernel
theorem dX12_packs_177 : decode cX12_packs 177 = .ok (.iconst 1, 1) := by decide +kernel
theorem dX12_packs_178 : decode cX12_packs 178 = .ok (.goto 4, 3) := by decide +kernel
theorem dX12_packs_181 : decode cX12_packs 181 = .ok (.iconst 0, 1) := by decide +kernel
theorem dX12_packs_182 : decode cX12_packs 182 = .ok (.istore 8, 2) := by decide +kernel
theorem dX12_packs_184 : decode cX12_packs 184 = .ok (.iload 8, 2) := by decide +kernel
theorem dX12_packs_186 : decode cX12_packs 186 = .ok (.ifCond .eq 25, 3) := by decide +kernel
theorem dX12_packs_189 : decode cX12_packs 189 = .ok (.aload_n 0, 1) := by decide +kernel
theorem dX12_packs_190 : decode cX12_packs 190 = .ok (.getfield 144, 3) := by decide +kernel
theorem dX12_packs_193 : decode cX12_packs 193 = .ok (.iload_n 1, 1) := by decide +kernel
theorem dX12_packs_194 : decode cX12_packs 194 = .ok (.iload 4, 2) := by decide +kernel
theorem dX12_packs_196 : decode cX12_packs 196 = .ok (.iastore, 1) := by decide +kernel
theorem dX12_packs_197 : decode cX12_packs 197 = .ok (.aload_n 0, 1) := by decide +kernel
theorem dX12_packs_198 : decode cX12_packs 198 = .ok (.iload_n 1, 1) := by decide +kernel
theorem dX12_packs_199 : decode cX12_packs 199 = .ok (.iconst 1, 1) := by decide +kernel
theorem dX12_packs_200 : decode cX12_packs 200 = .ok (.iadd, 1) := by decide +kernel
theorem dX12_packs_201 : decode cX12_packs 201 = .ok (.iload_n 2, 1) := by decide +kernel
theorem dX12_packs_202 : decode cX12_packs 202 = .ok (.iload_n 3, 1) := by decide +kernel
theorem dX12_packs_203 : decode cX12_packs 203 = .ok (.invokevirtual 271, 3) := by decide +kernel
theorem dX12_packs_206 : decode cX12_packs 206 = .ok (.ifCond .eq 5, 3) := by decide +kernel
theorem dX12_packs_209 : decode cX12_packs 209 = .ok (.iconst 1, 1) := by decide +kernel
theorem dX12_packs_210 : decode cX12_packs 210 = .ok (.ireturn, 1) := by decide +kernel
theorem dX12_packs_211 : decode cX12_packs 211 = .ok (.iload 7, 2) := by decide +kernel
theorem dX12_packs_213 : decode cX12_packs 213 = .ok (.ifCond .eq 5, 3) := by decide +kernel
theorem dX12_packs_216 : decode cX12_packs 216 = .ok (.iconst 0, 1) := by decide +kernel
theorem dX12_packs_217 : decode cX12_packs 217 = .ok (.ireturn, 1) := by decide +kernel
theorem dX12_packs_218 : decode cX12_packs 218 = .ok (.iinc 4 1, 3) := by decide +kernel
theorem dX12_packs_221 : decode cX12_packs 221 = .ok (.goto (-208), 3) := by decide +kernel
theorem dX12_packs_224 : decode cX12_packs 224 = .ok (.iconst 0, 1) := by decide +kernel
theorem dX12_packs_225 : decode cX12_packs 225 = .ok (.ireturn, 1) := by decide +kernel
theorem dX12_pack_0 : decode cX12_pack 0 = .ok (.aload_n 0, 1) := by decide +kernel
theorem dX12_pack_1 : decode cX12_pack 1 = .ok (.iload_n 1, 1) := by decide +kernel
theorem dX12_pack_2 : decode cX12_pack 2 = .ok (.invokevirtual 166, 3) := by decide +kernel
theorem dX12_pack_5 : decode cX12_pack 5 = .ok (.ifCond .eq 14, 3) := by decide +kernel
theorem dX12_pack_8 : decode cX12_pack 8 = .ok (.iload_n 2, 1) := by decide +kernel
theorem dX12_pack_9 : decode cX12_pack 9 = .ok (.iconst 0, 1) := by decide +kernel
theorem dX12_pack_10 : decode cX12_pack 10 = .ok (.sipush 400, 3) := by decide +kernel
theorem dX12_pack_13 : decode cX12_pack 13 = .ok (.invokestatic 153, 3) := by decide +kernel
theorem dX12_pack_16 : decode cX12_pack 16 = .ok (.ifCond .ne 5, 3) := by decide +kernel
theorem dX12_pack_19 : decode cX12_pack 19 = .ok (.iconst (-1), 1) := by decide +kernel
theorem dX12_pack_20 : decode cX12_pack 20 = .ok (.ireturn, 1) := by decide +kernel
theorem dX12_pack_21 : decode cX12_pack 21 = .ok (.aload_n 0, 1) := by decide +kernel
theorem dX12_pack_22 : decode cX12_pack 22 = .ok (.iconst 0, 1) := by decide +kernel
theorem dX12_pack_23 : decode cX12_pack 23 = .ok (.putfield 265, 3) := by decide +kernel
theorem dX12_pack_26 : decode cX12_pack 26 = .ok (.iconst 0, 1) := by decide +kernel
theorem dX12_pack_27 : decode cX12_pack 27 = .ok (.istore_n 3, 1) := by decide +kernel
theorem dX12_pack_28 : decode cX12_pack 28 = .ok (.iconst 0, 1) := by decide +kernel
theorem dX12_pack_29 : decode cX12_pack 29 = .ok (.istore 4, 2) := by decide +kernel
theorem dX12_pack_31 : decode cX12_pack 31 = .ok (.iconst 0, 1) := by decide +kernel
theorem dX12_pack_32 : decode cX12_pack 32 = .ok (.istore 5, 2) := by decide +kernel
theorem dX12_pack_34 : decode cX12_pack 34 = .ok (.iload 5, 2) := by decide +kernel
theorem dX12_pack_36 : decode cX12_pack 36 = .ok (.aload_n 0, 1) := by decide +kernel
theorem dX12_pack_37 : decode cX12_pack 37 = .ok (.getfield 163, 3) := by decide +kernel
theorem dX12_pack_40 : decode cX12_pack 40 = .ok (.if_icmp .ge 97, 3) := by decide +kernel
theorem dX12_pack_43 : decode cX12_pack 43 = .ok (.aload_n 0, 1) := by decide +kernel
theorem dX12_pack_44 : decode cX12_pack 44 = .ok (.getfield 53, 3) := by decide +kernel
theorem dX12_pack_47 : decode cX12_pack 47 = .ok (.iload 5, 2) := by decide +kernel
theorem dX12_pack_49 : decode cX12_pack 49 = .ok (.iaload, 1) := by decide +kernel
theorem dX12_pack_50 : decode cX12_pack 50 = .ok (.iload_n 1, 1) := by decide +kernel
theorem dX12_pack_51 : decode cX12_pack 51 = .ok (.if_icmp .ne 80, 3) := by decide +kernel
theorem dX12_pack_54 : decode cX12_pack 54 = .ok (.aload_n 0, 1) := by decide +kernel
theorem dX12_pack_55 : decode cX12_pack 55 = .ok (.getfield 71, 3) := by decide +kernel
theorem dX12_pack_58 : decode cX12_pack 58 = .ok (.iload 5, 2) := by decide +kernel
theorem dX12_pack_60 : decode cX12_pack 60 = .ok (.iaload, 1) := by decide +kernel
theorem dX12_pack_61 : decode cX12_pack 61 = .ok (.ifCond .ne 70, 3) := by decide +kernel
theorem dX12_pack_64 : decode cX12_pack 64 = .ok (.aload_n 0, 1) := by decide +kernel
theorem dX12_pack_65 : decode cX12_pack 65 = .ok (.getfield 62, 3) := by decide +kernel
theorem dX12_pack_68 : decode cX12_pack 68 = .ok (.iload 5, 2) := by decide +kernel
theorem dX12_pack_70 : decode cX12_pack 70 = .ok (.iaload, 1) := by decide +kernel
theorem dX12_pack_71 : decode cX12_pack 71 = .ok (.iconst 4, 1) := by decide +kernel
theorem dX12_pack_72 : decode cX12_pack 72 = .ok (.if_icmp .eq 59, 3) := by decide +kernel
theorem dX12_pack_75 : decode cX12_pack 75 = .ok (.aload_n 0, 1) := by decide +kernel
theorem dX12_pack_76 : decode cX12_pack 76 = .ok (.getfield 265, 3) := by decide +kernel
theorem dX12_pack_79 : decode cX12_pack 79 = .ok (.bipush 9, 2) := by decide +kernel
theorem dX12_pack_81 : decode cX12_pack 81 = .ok (.if_icmp .ge 24, 3) := by decide +kernel
theorem dX12_pack_84 : decode cX12_pack 84 = .ok (.aload_n 0, 1) := by decide +kernel
theorem dX12_pack_85 : decode cX12_pack 85 = .ok (.getfield 147, 3) := by decide +kernel
theorem dX12_pack_88 : decode cX12_pack 88 = .ok (.aload_n 0, 1) := by decide +kernel
theorem dX12_pack_89 : decode cX12_pack 89 = .ok (.getfield 265, 3) := by decide +kernel
theorem dX12_pack_92 : decode cX12_pack 92 = .ok (.iload 5, 2) := by decide +kernel
theorem dX12_pack_94 : decode cX12_pack 94 = .ok (.iastore, 1) := by decide +kernel
theorem dX12_pack_95 : decode cX12_pack 95 = .ok (.aload_n 0, 1) := by decide +kernel
theorem dX12_pack_96 : decode cX12_pack 96 = .ok (.dup, 1) := by decide +kernel
theorem dX12_pack_97 : decode cX12_pack 97 = .ok (.getfield 265, 3) := by decide +kernel
theorem dX12_pack_100 : decode cX12_pack 100 = .ok (.iconst 1, 1) := by decide +kernel
theorem dX12_pack_101 : decode cX12_pack 101 = .ok (.iadd, 1) := by decide +kernel
theorem dX12_pack_102 : decode cX12_pack 102 = .ok (.putfield 265, 3) := by decide +kernel
theorem dX12_pack_105 : decode cX12_pack 105 = .ok (.iinc 3 1, 3) := by decide +kernel
theorem dX12_pack_108 : decode cX12_pack 108 = .ok (.iload 4, 2) := by decide +kernel
theorem dX12_pack_110 : decode cX12_pack 110 = .ok (.ifCond .ne 14, 3) := by decide +kernel
theorem dX12_pack_113 : decode cX12_pack 113 = .ok (.aload_n 0, 1) := by decide +kernel
theorem dX12_pack_114 : decode cX12_pack 114 = .ok (.getfield 56, 3) := by decide +kernel
theorem dX12_pack_117 : decode cX12_pack 117 = .ok (.iload 5, 2) := by decide +kernel
theorem dX12_pack_119 : decode cX12_pack 119 = .ok (.iaload, 1) := by decide +kernel
theorem dX12_pack_120 : decode cX12_pack 120 = .ok (.iload_n 2, 1) := by decide +kernel
theorem dX12_pack_121 : decode cX12_pack 121 = .ok (.if_icmp .le 7, 3) := by decide +kernel
theorem dX12_pack_124 : decode cX12_pack 124 = .ok (.iconst 1, 1) := by decide +kernel
theorem dX12_pack_125 : decode cX12_pack 125 = .ok (.goto 4, 3) := by decide +kernel
theorem dX12_pack_128 : decode cX12_pack 128 = .ok (.iconst 0, 1) := by decide +kernel
theorem dX12_pack_129 : decode cX12_pack 129 = .ok (.istore 4, 2) := by decide +kernel
theorem dX12_pack_131 : decode cX12_pack 131 = .ok (.iinc 5 1, 3) := by decide +kernel
theorem dX12_pack_134 : decode cX12_pack 134 = .ok (.goto (-100), 3) := by decide +kernel
theorem dX12_pack_137 : decode cX12_pack 137 = .ok (.iload_n 3, 1) := by decide +kernel
theorem dX12_pack_138 : decode cX12_pack 138 = .ok (.bipush 9, 2) := by decide +kernel
theorem dX12_pack_140 : decode cX12_pack 140 = .ok (.if_icmp .le 6, 3) := by decide +kernel
theorem dX12_pack_143 : decode cX12_pack 143 = .ok (.bipush (-2), 2) := by decide +kernel
theorem dX12_pack_145 : decode cX12_pack 145 = .ok (.ireturn, 1) := by decide +kernel
theorem dX12_pack_146 : decode cX12_pack 146 = .ok (.iload 4, 2) := by decide +kernel
theorem dX12_pack_148 : decode cX12_pack 148 = .ok (.ifCond .eq 6, 3) := by decide +kernel
theorem dX12_pack_151 : decode cX12_pack 151 = .ok (.bipush (-3), 2) := by decide +kernel
theorem dX12_pack_153 : decode cX12_pack 153 = .ok (.ireturn, 1) := by decide +kernel
theorem dX12_pack_154 : decode cX12_pack 154 = .ok (.iconst 0, 1) := by decide +kernel
theorem dX12_pack_155 : decode cX12_pack 155 = .ok (.istore 5, 2) := by decide +kernel
theorem dX12_pack_157 : decode cX12_pack 157 = .ok (.aload_n 0, 1) := by decide +kernel
theorem dX12_pack_158 : decode cX12_pack 158 = .ok (.iconst 0, 1) := by decide +kernel
theorem dX12_pack_159 : decode cX12_pack 159 = .ok (.iload 5, 2) := by decide +kernel
theorem dX12_pack_161 : decode cX12_pack 161 = .ok (.iload_n 2, 1) := by decide +kernel
theorem dX12_pack_162 : decode cX12_pack 162 = .ok (.invokevirtual 271, 3) := by decide +kernel
theorem dX12_pack_165 : decode cX12_pack 165 = .ok (.ifCond .ne 9, 3) := by decide +kernel
theorem dX12_pack_168 : decode cX12_pack 168 = .ok (.iinc 5 1, 3) := by decide +kernel
theorem dX12_pack_171 : decode cX12_pack 171 = .ok (.goto (-14), 3) := by decide +kernel
theorem dX12_pack_174 : decode cX12_pack 174 = .ok (.iload 5, 2) := by decide +kernel
theorem dX12_pack_176 : decode cX12_pack 176 = .ok (.ireturn, 1) := by decide +kernel
theorem dX12_list_0 : decode cX12_list 0 = .ok (.aload_n 0, 1) := by decide +kernel
theorem dX12_list_1 : decode cX12_list 1 = .ok (.iload_n 1, 1) := by decide +kernel
theorem dX12_list_2 : decode cX12_list 2 = .ok (.invokevirtual 166, 3) := by decide +kernel
theorem dX12_list_5 : decode cX12_list 5 = .ok (.ifCond .ne 5, 3) := by decide +kernel
theorem dX12_list_8 : decode cX12_list 8 = .ok (.iconst (-1), 1) := by decide +kernel
theorem dX12_list_9 : decode cX12_list 9 = .ok (.ireturn, 1) := by decide +kernel
theorem dX12_list_10 : decode cX12_list 10 = .ok (.aload_n 0, 1) := by decide +kernel
theorem dX12_list_11 : decode cX12_list 11 = .ok (.getfield 274, 3) := by decide +kernel
theorem dX12_list_14 : decode cX12_list 14 = .ok (.iconst 5, 1) := by decide +kernel
theorem dX12_list_15 : decode cX12_list 15 = .ok (.if_icmp .ne 6, 3) := by decide +kernel
theorem dX12_list_18 : decode cX12_list 18 = .ok (.bipush (-2), 2) := by decide +kernel
theorem dX12_list_20 : decode cX12_list 20 = .ok (.ireturn, 1) := by decide +kernel
theorem dX12_list_21 : decode cX12_list 21 = .ok (.aload_n 0, 1) := by decide +kernel
theorem dX12_list_22 : decode cX12_list 22 = .ok (.getfield 129, 3) := by decide +kernel
theorem dX12_list_25 : decode cX12_list 25 = .ok (.aload_n 0, 1) := by decide +kernel
theorem dX12_list_26 : decode cX12_list 26 = .ok (.getfield 274, 3) := by decide +kernel
theorem dX12_list_29 : decode cX12_list 29 = .ok (.iload_n 1, 1) := by decide +kernel
theorem dX12_list_30 : decode cX12_list 30 = .ok (.iastore, 1) := by decide +kernel
theorem dX12_list_31 : decode cX12_list 31 = .ok (.aload_n 0, 1) := by decide +kernel
theorem dX12_list_32 : decode cX12_list 32 = .ok (.dup, 1) := by decide +kernel
theorem dX12_list_33 : decode cX12_list 33 = .ok (.getfield 274, 3) := by decide +kernel
theorem dX12_list_36 : decode cX12_list 36 = .ok (.iconst 1, 1) := by decide +kernel
theorem dX12_list_37 : decode cX12_list 37 = .ok (.iadd, 1) := by decide +kernel
theorem dX12_list_38 : decode cX12_list 38 = .ok (.putfield 274, 3) := by decide +kernel
theorem dX12_list_41 : decode cX12_list 41 = .ok (.aload_n 0, 1) := by decide +kernel
theorem dX12_list_42 : decode cX12_list 42 = .ok (.getfield 274, 3) := by decide +kernel
theorem dX12_list_45 : decode cX12_list 45 = .ok (.ireturn, 1) := by decide +kernel
theorem dX12_mayBegin_0 : decode cX12_mayBegin 0 = .ok (.iload_n 3, 1) := by decide +kernel
theorem dX12_mayBegin_1 : decode cX12_mayBegin 1 = .ok (.iconst 2, 1) := by decide +kernel
theorem dX12_mayBegin_2 : decode cX12_mayBegin 2 = .ok (.aload_n 0, 1) := by decide +kernel
theorem dX12_mayBegin_3 : decode cX12_mayBegin 3 = .ok (.getfield 13, 3) := by decide +kernel
theorem dX12_mayBegin_6 : decode cX12_mayBegin 6 = .ok (.iload_n 2, 1) := by decide +kernel
theorem dX12_mayBegin_7 : decode cX12_mayBegin 7 = .ok (.iaload, 1) := by decide +kernel
theorem dX12_mayBegin_8 : decode cX12_mayBegin 8 = .ok (.imul, 1) := by decide +kernel
theorem dX12_mayBegin_9 : decode cX12_mayBegin 9 = .ok (.iadd, 1) := by decide +kernel
theorem dX12_mayBegin_10 : decode cX12_mayBegin 10 = .ok (.iconst 2, 1) := by decide +kernel
theorem dX12_mayBegin_11 : decode cX12_mayBegin 11 = .ok (.iadd, 1) := by decide +kernel
theorem dX12_mayBegin_12 : decode cX12_mayBegin 12 = .ok (.istore 6, 2) := by decide +kernel
theorem dX12_mayBegin_14 : decode cX12_mayBegin 14 = .ok (.iload 6, 2) := by decide +kernel
theorem dX12_mayBegin_16 : decode cX12_mayBegin 16 = .ok (.sipush 720, 3) := by decide +kernel
theorem dX12_mayBegin_19 : decode cX12_mayBegin 19 = .ok (.if_icmp .gt 39, 3) := by decide +kernel
theorem dX12_mayBegin_22 : decode cX12_mayBegin 22 = .ok (.iconst 4, 1) := by decide +kernel
theorem dX12_mayBegin_23 : decode cX12_mayBegin 23 = .ok (.aload_n 0, 1) := by decide +kernel
theorem dX12_mayBegin_24 : decode cX12_mayBegin 24 = .ok (.getfield 13, 3) := by decide +kernel
theorem dX12_mayBegin_27 : decode cX12_mayBegin 27 = .ok (.iload_n 2, 1) := by decide +kernel
theorem dX12_mayBegin_28 : decode cX12_mayBegin 28 = .ok (.iaload, 1) := by decide +kernel
theorem dX12_mayBegin_29 : decode cX12_mayBegin 29 = .ok (.imul, 1) := by decide +kernel
theorem dX12_mayBegin_30 : decode cX12_mayBegin 30 = .ok (.bipush 10, 2) := by decide +kernel
theorem dX12_mayBegin_32 : decode cX12_mayBegin 32 = .ok (.iadd, 1) := by decide +kernel
theorem dX12_mayBegin_33 : decode cX12_mayBegin 33 = .ok (.iload 5, 2) := by decide +kernel
theorem dX12_mayBegin_35 : decode cX12_mayBegin 35 = .ok (.if_icmp .gt 23, 3) := by decide +kernel
theorem dX12_mayBegin_38 : decode cX12_mayBegin 38 = .ok (.iload 4, 2) := by decide +kernel
theorem dX12_mayBegin_40 : decode cX12_mayBegin 40 = .ok (.iload 6, 2) := by decide +kernel
theorem dX12_mayBegin_42 : decode cX12_mayBegin 42 = .ok (.iadd, 1) := by decide +kernel
theorem dX12_mayBegin_43 : decode cX12_mayBegin 43 = .ok (.iload_n 3, 1) := by decide +kernel
theorem dX12_mayBegin_44 : decode cX12_mayBegin 44 = .ok (.isub, 1) := by decide +kernel
theorem dX12_mayBegin_45 : decode cX12_mayBegin 45 = .ok (.aload_n 0, 1) := by decide +kernel
theorem dX12_mayBegin_46 : decode cX12_mayBegin 46 = .ok (.getfield 41, 3) := by decide +kernel
theorem dX12_mayBegin_49 : decode cX12_mayBegin 49 = .ok (.iload_n 1, 1) := by decide +kernel
theorem dX12_mayBegin_50 : decode cX12_mayBegin 50 = .ok (.iaload, 1) := by decide +kernel
theorem dX12_mayBegin_51 : decode cX12_mayBegin 51 = .ok (.if_icmp .gt 7, 3) := by decide +kernel
theorem dX12_mayBegin_54 : decode cX12_mayBegin 54 = .ok (.iconst 1, 1) := by decide +kernel
theorem dX12_mayBegin_55 : decode cX12_mayBegin 55 = .ok (.goto 4, 3) := by decide +kernel
theorem dX12_mayBegin_58 : decode cX12_mayBegin 58 = .ok (.iconst 0, 1) := by decide +kernel
theorem dX12_mayBegin_59 : decode cX12_mayBegin 59 = .ok (.istore 7, 2) := by decide +kernel
theorem dX12_mayBegin_61 : decode cX12_mayBegin 61 = .ok (.iconst 0, 1) := by decide +kernel
theorem dX12_mayBegin_62 : decode cX12_mayBegin 62 = .ok (.istore 8, 2) := by decide +kernel
theorem dX12_mayBegin_64 : decode cX12_mayBegin 64 = .ok (.iload 8, 2) := by decide +kernel
theorem dX12_mayBegin_66 : decode cX12_mayBegin 66 = .ok (.aload_n 0, 1) := by decide +kernel
theorem dX12_mayBegin_67 : decode cX12_mayBegin 67 = .ok (.getfield 182, 3) := by decide +kernel
theorem dX12_mayBegin_70 : decode cX12_mayBegin 70 = .ok (.if_icmp .ge 35, 3) := by decide +kernel
theorem dX12_mayBegin_73 : decode cX12_mayBegin 73 = .ok (.iload 7, 2) := by decide +kernel
theorem dX12_mayBegin_75 : decode cX12_mayBegin 75 = .ok (.ifCond .eq 30, 3) := by decide +kernel
theorem dX12_mayBegin_78 : decode cX12_mayBegin 78 = .ok (.aload_n 0, 1) := by decide +kernel
theorem dX12_mayBegin_79 : decode cX12_mayBegin 79 = .ok (.iload 8, 2) := by decide +kernel
theorem dX12_mayBegin_81 : decode cX12_mayBegin 81 = .ok (.iload_n 3, 1) := by decide +kernel
theorem dX12_mayBegin_82 : decode cX12_mayBegin 82 = .ok (.iload_n 2, 1) := by decide +kernel
theorem dX12_mayBegin_83 : decode cX12_mayBegin 83 = .ok (.iconst (-1), 1) := by decide +kernel
theorem dX12_mayBegin_84 : decode cX12_mayBegin 84 = .ok (.iload 4, 2) := by decide +kernel
theorem dX12_mayBegin_86 : decode cX12_mayBegin 86 = .ok (.invokevirtual 224, 3) := by decide +kernel
theorem dX12_mayBegin_89 : decode cX12_mayBegin 89 = .ok (.ifCond .eq 7, 3) := by decide +kernel
theorem dX12_mayBegin_92 : decode cX12_mayBegin 92 = .ok (.iconst 1, 1) := by decide +kernel
theorem dX12_mayBegin_93 : decode cX12_mayBegin 93 = .ok (.goto 4, 3) := by decide +kernel
theorem dX12_mayBegin_96 : decode cX12_mayBegin 96 = .ok (.iconst 0, 1) := by decide +kernel
theorem dX12_mayBegin_97 : decode cX12_mayBegin 97 = .ok (.istore 7, 2) := by decide +kernel
theorem dX12_mayBegin_99 : decode cX12_mayBegin 99 = .ok (.iinc 8 1, 3) := by decide +kernel
theorem dX12_mayBegin_102 : decode cX12_mayBegin 102 = .ok (.goto (-38), 3) := by decide +kernel
theorem dX12_mayBegin_105 : decode cX12_mayBegin 105 = .ok (.iload 7, 2) := by decide +kernel
theorem dX12_mayBegin_107 : decode cX12_mayBegin 107 = .ok (.ireturn, 1) := by decide +kernel
theorem dX12_goOn_0 : decode cX12_goOn 0 = .ok (.iload_n 1, 1) := by decide +kernel
theorem dX12_goOn_1 : decode cX12_goOn 1 = .ok (.aload_n 0, 1) := by decide +kernel
theorem dX12_goOn_2 : decode cX12_goOn 2 = .ok (.getfield 274, 3) := by decide +kernel
theorem dX12_goOn_5 : decode cX12_goOn 5 = .ok (.if_icmp .ne 148, 3) := by decide +kernel
theorem dX12_goOn_8 : decode cX12_goOn 8 = .ok (.aload_n 0, 1) := by decide +kernel
theorem dX12_goOn_9 : decode cX12_goOn 9 = .ok (.getfield 277, 3) := by decide +kernel
theorem dX12_goOn_12 : decode cX12_goOn 12 = .ok (.ifCond .lt 12, 3) := by decide +kernel
theorem dX12_goOn_15 : decode cX12_goOn 15 = .ok (.iload 7, 2) := by decide +kernel
theorem dX12_goOn_17 : decode cX12_goOn 17 = .ok (.aload_n 0, 1) := by decide +kernel
theorem dX12_goOn_18 : decode cX12_goOn 18 = .ok (.getfield 280, 3) := by decide +kernel
theorem dX12_goOn_21 : decode cX12_goOn 21 = .ok (.if_icmp .ge 7, 3) := by decide +kernel
theorem dX12_goOn_24 : decode cX12_goOn 24 = .ok (.iconst 1, 1) := by decide +kernel
theorem dX12_goOn_25 : decode cX12_goOn 25 = .ok (.goto 4, 3) := by decide +kernel
theorem dX12_goOn_28 : decode cX12_goOn 28 = .ok (.iconst 0, 1) := by decide +kernel
theorem dX12_goOn_29 : decode cX12_goOn 29 = .ok (.istore 8, 2) := by decide +kernel
theorem dX12_goOn_31 : decode cX12_goOn 31 = .ok (.iload 8, 2) := by decide +kernel
theorem dX12_goOn_33 : decode cX12_goOn 33 = .ok (.ifCond .ne 74, 3) := by decide +kernel
theorem dX12_goOn_36 : decode cX12_goOn 36 = .ok (.iload 7, 2) := by decide +kernel
theorem dX12_goOn_38 : decode cX12_goOn 38 = .ok (.aload_n 0, 1) := by decide +kernel
theorem dX12_goOn_39 : decode cX12_goOn 39 = .ok (.getfield 280, 3) := by decide +kernel
theorem dX12_goOn_42 : decode cX12_goOn 42 = .ok (.if_icmp .ne 65, 3) := by decide +kernel
theorem dX12_goOn_45 : decode cX12_goOn 45 = .ok (.iconst 0, 1) := by decide +kernel
theorem dX12_goOn_46 : decode cX12_goOn 46 = .ok (.istore 9, 2) := by decide +kernel
theorem dX12_goOn_48 : decode cX12_goOn 48 = .ok (.iload 9, 2) := by decide +kernel
theorem dX12_goOn_50 : decode cX12_goOn 50 = .ok (.iload_n 1, 1) := by decide +kernel
theorem dX12_goOn_51 : decode cX12_goOn 51 = .ok (.if_icmp .ge 26, 3) := by decide +kernel
theorem dX12_goOn_54 : decode cX12_goOn 54 = .ok (.aload_n 0, 1) := by decide +kernel
theorem dX12_goOn_55 : decode cX12_goOn 55 = .ok (.getfield 132, 3) := by decide +kernel
theorem dX12_goOn_58 : decode cX12_goOn 58 = .ok (.iload 9, 2) := by decide +kernel
theorem dX12_goOn_60 : decode cX12_goOn 60 = .ok (.iaload, 1) := by decide +kernel
theorem dX12_goOn_61 : decode cX12_goOn 61 = .ok (.aload_n 0, 1) := by decide +kernel
theorem dX12_goOn_62 : decode cX12_goOn 62 = .ok (.getfield 135, 3) := by decide +kernel
theorem dX12_goOn_65 : decode cX12_goOn 65 = .ok (.iload 9, 2) := by decide +kernel
theorem dX12_goOn_67 : decode cX12_goOn 67 = .ok (.iaload, 1) := by decide +kernel
theorem dX12_goOn_68 : decode cX12_goOn 68 = .ok (.if_icmp .ne 9, 3) := by decide +kernel
theorem dX12_goOn_71 : decode cX12_goOn 71 = .ok (.iinc 9 1, 3) := by decide +kernel
theorem dX12_goOn_74 : decode cX12_goOn 74 = .ok (.goto (-26), 3) := by decide +kernel
theorem dX12_goOn_77 : decode cX12_goOn 77 = .ok (.iload 9, 2) := by decide +kernel
theorem dX12_goOn_79 : decode cX12_goOn 79 = .ok (.iload_n 1, 1) := by decide +kernel
theorem dX12_goOn_80 : decode cX12_goOn 80 = .ok (.if_icmp .ge 24, 3) := by decide +kernel
theorem dX12_goOn_83 : decode cX12_goOn 83 = .ok (.aload_n 0, 1) := by decide +kernel
theorem dX12_goOn_84 : decode cX12_goOn 84 = .ok (.getfield 132, 3) := by decide +kernel
theorem dX12_goOn_87 : decode cX12_goOn 87 = .ok (.iload 9, 2) := by decide +kernel
theorem dX12_goOn_89 : decode cX12_goOn 89 = .ok (.iaload, 1) := by decide +kernel
theorem dX12_goOn_90 : decode cX12_goOn 90 = .ok (.aload_n 0, 1) := by decide +kernel
theorem dX12_goOn_91 : decode cX12_goOn 91 = .ok (.getfield 135, 3) := by decide +kernel
theorem dX12_goOn_94 : decode cX12_goOn 94 = .ok (.iload 9, 2) := by decide +kernel
theorem dX12_goOn_96 : decode cX12_goOn 96 = .ok (.iaload, 1) := by decide +kernel
theorem dX12_goOn_97 : decode cX12_goOn 97 = .ok (.if_icmp .ge 7, 3) := by decide +kernel
theorem dX12_goOn_100 : decode cX12_goOn 100 = .ok (.iconst 1, 1) := by decide +kernel
theorem dX12_goOn_101 : decode cX12_goOn 101 = .ok (.goto 4, 3) := by decide +kernel
theorem dX12_goOn_104 : decode cX12_goOn 104 = .ok (.iconst 0, 1) := by decide +kernel
theorem dX12_goOn_105 : decode cX12_goOn 105 = .ok (.istore 8, 2) := by decide +kernel
theorem dX12_goOn_107 : decode cX12_goOn 107 = .ok (.iload 8, 2) := by decide +kernel
theorem dX12_goOn_109 : decode cX12_goOn 109 = .ok (.ifCond .eq 43, 3) := by decide +kernel
theorem dX12_goOn_112 : decode cX12_goOn 112 = .ok (.aload_n 0, 1) := by decide +kernel
theorem dX12_goOn_113 : decode cX12_goOn 113 = .ok (.iload_n 1, 1) := by decide +kernel
theorem dX12_goOn_114 : decode cX12_goOn 114 = .ok (.putfield 277, 3) := by decide +kernel
theorem dX12_goOn_117 : decode cX12_goOn 117 = .ok (.aload_n 0, 1) := by decide +kernel
theorem dX12_goOn_118 : decode cX12_goOn 118 = .ok (.iload 7, 2) := by decide +kernel
theorem dX12_goOn_120 : decode cX12_goOn 120 = .ok (.putfield 280, 3) := by decide +kernel
theorem dX12_goOn_123 : decode cX12_goOn 123 = .ok (.iconst 0, 1) := by decide +kernel
theorem dX12_goOn_124 : decode cX12_goOn 124 = .ok (.istore 9, 2) := by decide +kernel
theorem dX12_goOn_126 : decode cX12_goOn 126 = .ok (.iload 9, 2) := by decide +kernel
theorem dX12_goOn_128 : decode cX12_goOn 128 = .ok (.iload_n 1, 1) := by decide +kernel
theorem dX12_goOn_129 : decode cX12_goOn 129 = .ok (.if_icmp .ge 23, 3) := by decide +kernel
theorem dX12_goOn_132 : decode cX12_goOn 132 = .ok (.aload_n 0, 1) := by decide +kernel
theorem dX12_goOn_133 : decode cX12_goOn 133 = .ok (.getfield 135, 3) := by decide +kernel
theorem dX12_goOn_136 : decode cX12_goOn 136 = .ok (.iload 9, 2) := by decide +kernel
theorem dX12_goOn_138 : decode cX12_goOn 138 = .ok (.aload_n 0, 1) := by decide +kernel
theorem dX12_goOn_139 : decode cX12_goOn 139 = .ok (.getfield 132, 3) := by decide +kernel
theorem dX12_goOn_142 : decode cX12_goOn 142 = .ok (.iload 9, 2) := by decide +kernel
theorem dX12_goOn_144 : decode cX12_goOn 144 = .ok (.iaload, 1) := by decide +kernel
theorem dX12_goOn_145 : decode cX12_goOn 145 = .ok (.iastore, 1) := by decide +kernel
theorem dX12_goOn_146 : decode cX12_goOn 146 = .ok (.iinc 9 1, 3) := by decide +kernel
theorem dX12_goOn_149 : decode cX12_goOn 149 = .ok (.goto (-23), 3) := by decide +kernel
theorem dX12_goOn_152 : decode cX12_goOn 152 = .ok (.return_, 1) := by decide +kernel
theorem dX12_goOn_153 : decode cX12_goOn 153 = .ok (.iconst 0, 1) := by decide +kernel
theorem dX12_goOn_154 : decode cX12_goOn 154 = .ok (.istore 8, 2) := by decide +kernel
theorem dX12_goOn_156 : decode cX12_goOn 156 = .ok (.iload 8, 2) := by decide +kernel
theorem dX12_goOn_158 : decode cX12_goOn 158 = .ok (.aload_n 0, 1) := by decide +kernel
theorem dX12_goOn_159 : decode cX12_goOn 159 = .ok (.getfield 274, 3) := by decide +kernel
theorem dX12_goOn_162 : decode cX12_goOn 162 = .ok (.if_icmp .ge 150, 3) := by decide +kernel
theorem dX12_goOn_165 : decode cX12_goOn 165 = .ok (.aload_n 0, 1) := by decide +kernel
theorem dX12_goOn_166 : decode cX12_goOn 166 = .ok (.getfield 138, 3) := by decide +kernel
theorem dX12_goOn_169 : decode cX12_goOn 169 = .ok (.iload 8, 2) := by decide +kernel
theorem dX12_goOn_171 : decode cX12_goOn 171 = .ok (.baload, 1) := by decide +kernel
theorem dX12_goOn_172 : decode cX12_goOn 172 = .ok (.ifCond .ne 134, 3) := by decide +kernel
theorem dX12_goOn_175 : decode cX12_goOn 175 = .ok (.aload_n 0, 1) := by decide +kernel
theorem dX12_goOn_176 : decode cX12_goOn 176 = .ok (.getfield 129, 3) := by decide +kernel
theorem dX12_goOn_179 : decode cX12_goOn 179 = .ok (.iload 8, 2) := by decide +kernel
theorem dX12_goOn_181 : decode cX12_goOn 181 = .ok (.iaload, 1) := by decide +kernel
theorem dX12_goOn_182 : decode cX12_goOn 182 = .ok (.istore 9, 2) := by decide +kernel
theorem dX12_goOn_184 : decode cX12_goOn 184 = .ok (.iload 4, 2) := by decide +kernel
theorem dX12_goOn_186 : decode cX12_goOn 186 = .ok (.istore 10, 2) := by decide +kernel
theorem dX12_goOn_188 : decode cX12_goOn 188 = .ok (.iload 10, 2) := by decide +kernel
theorem dX12_goOn_190 : decode cX12_goOn 190 = .ok (.sipush 720, 3) := by decide +kernel
theorem dX12_goOn_193 : decode cX12_goOn 193 = .ok (.if_icmp .gt 25, 3) := by decide +kernel
theorem dX12_goOn_196 : decode cX12_goOn 196 = .ok (.aload_n 0, 1) := by decide +kernel
theorem dX12_goOn_197 : decode cX12_goOn 197 = .ok (.iload_n 3, 1) := by decide +kernel
theorem dX12_goOn_198 : decode cX12_goOn 198 = .ok (.iload 9, 2) := by decide +kernel
theorem dX12_goOn_200 : decode cX12_goOn 200 = .ok (.iload 10, 2) := by decide +kernel
theorem dX12_goOn_202 : decode cX12_goOn 202 = .ok (.iload 5, 2) := by decide +kernel
theorem dX12_goOn_204 : decode cX12_goOn 204 = .ok (.iload 6, 2) := by decide +kernel
theorem dX12_goOn_206 : decode cX12_goOn 206 = .ok (.invokevirtual 283, 3) := by decide +kernel
theorem dX12_goOn_209 : decode cX12_goOn 209 = .ok (.ifCond .ne 9, 3) := by decide +kernel
theorem dX12_goOn_212 : decode cX12_goOn 212 = .ok (.iinc 10 1, 3) := by decide +kernel
theorem dX12_goOn_215 : decode cX12_goOn 215 = .ok (.goto (-27), 3) := by decide +kernel
theorem dX12_goOn_218 : decode cX12_goOn 218 = .ok (.iload 10, 2) := by decide +kernel
theorem dX12_goOn_220 : decode cX12_goOn 220 = .ok (.sipush 720, 3) := by decide +kernel
theorem dX12_goOn_223 : decode cX12_goOn 223 = .ok (.if_icmp .gt 83, 3) := by decide +kernel
theorem dX12_goOn_226 : decode cX12_goOn 226 = .ok (.iload 10, 2) := by decide +kernel
theorem dX12_goOn_228 : decode cX12_goOn 228 = .ok (.iconst 2, 1) := by decide +kernel
theorem dX12_goOn_229 : decode cX12_goOn 229 = .ok (.aload_n 0, 1) := by decide +kernel
theorem dX12_goOn_230 : decode cX12_goOn 230 = .ok (.getfield 13, 3) := by decide +kernel
theorem dX12_goOn_233 : decode cX12_goOn 233 = .ok (.iload 9, 2) := by decide +kernel
theorem dX12_goOn_235 : decode cX12_goOn 235 = .ok (.iaload, 1) := by decide +kernel
theorem dX12_goOn_236 : decode cX12_goOn 236 = .ok (.imul, 1) := by decide +kernel
theorem dX12_goOn_237 : decode cX12_goOn 237 = .ok (.iadd, 1) := by decide +kernel
theorem dX12_goOn_238 : decode cX12_goOn 238 = .ok (.iconst 2, 1) := by decide +kernel
theorem dX12_goOn_239 : decode cX12_goOn 239 = .ok (.iadd, 1) := by decide +kernel
theorem dX12_goOn_240 : decode cX12_goOn 240 = .ok (.istore 11, 2) := by decide +kernel
theorem dX12_goOn_242 : decode cX12_goOn 242 = .ok (.aload_n 0, 1) := by decide +kernel
theorem dX12_goOn_243 : decode cX12_goOn 243 = .ok (.getfield 138, 3) := by decide +kernel
theorem dX12_goOn_246 : decode cX12_goOn 246 = .ok (.iload 8, 2) := by decide +kernel
theorem dX12_goOn_248 : decode cX12_goOn 248 = .ok (.iconst 1, 1) := by decide +kernel
theorem dX12_goOn_249 : decode cX12_goOn 249 = .ok (.bastore, 1) := by decide +kernel
theorem dX12_goOn_250 : decode cX12_goOn 250 = .ok (.aload_n 0, 1) := by decide +kernel
theorem dX12_goOn_251 : decode cX12_goOn 251 = .ok (.getfield 132, 3) := by decide +kernel
theorem dX12_goOn_254 : decode cX12_goOn 254 = .ok (.iload_n 1, 1) := by decide +kernel
theorem dX12_goOn_255 : decode cX12_goOn 255 = .ok (.iload 9, 2) := by decide +kernel
theorem dX12_goOn_257 : decode cX12_goOn 257 = .ok (.iastore, 1) := by decide +kernel
theorem dX12_goOn_258 : decode cX12_goOn 258 = .ok (.aload_n 0, 1) := by decide +kernel
theorem dX12_goOn_259 : decode cX12_goOn 259 = .ok (.iload_n 1, 1) := by decide +kernel
theorem dX12_goOn_260 : decode cX12_goOn 260 = .ok (.iconst 1, 1) := by decide +kernel
theorem dX12_goOn_261 : decode cX12_goOn 261 = .ok (.iadd, 1) := by decide +kernel
theorem dX12_goOn_262 : decode cX12_goOn 262 = .ok (.iload_n 2, 1) := by decide +kernel
theorem dX12_goOn_263 : decode cX12_goOn 263 = .ok (.iload_n 3, 1) := by decide +kernel
theorem dX12_goOn_264 : decode cX12_goOn 264 = .ok (.iload 11, 2) := by decide +kernel
theorem dX12_goOn_266 : decode cX12_goOn 266 = .ok (.aload_n 0, 1) := by decide +kernel
theorem dX12_goOn_267 : decode cX12_goOn 267 = .ok (.getfield 44, 3) := by decide +kernel
theorem dX12_goOn_270 : decode cX12_goOn 270 = .ok (.iload_n 3, 1) := by decide +kernel
theorem dX12_goOn_271 : decode cX12_goOn 271 = .ok (.iaload, 1) := by decide +kernel
theorem dX12_goOn_272 : decode cX12_goOn 272 = .ok (.iadd, 1) := by decide +kernel
theorem dX12_goOn_273 : decode cX12_goOn 273 = .ok (.iload 5, 2) := by decide +kernel
theorem dX12_goOn_275 : decode cX12_goOn 275 = .ok (.iload 11, 2) := by decide +kernel
theorem dX12_goOn_277 : decode cX12_goOn 277 = .ok (.iadd, 1) := by decide +kernel
theorem dX12_goOn_278 : decode cX12_goOn 278 = .ok (.iload 10, 2) := by decide +kernel
theorem dX12_goOn_280 : decode cX12_goOn 280 = .ok (.isub, 1) := by decide +kernel
theorem dX12_goOn_281 : decode cX12_goOn 281 = .ok (.iload 6, 2) := by decide +kernel
theorem dX12_goOn_283 : decode cX12_goOn 283 = .ok (.iconst 4, 1) := by decide +kernel
theorem dX12_goOn_284 : decode cX12_goOn 284 = .ok (.aload_n 0, 1) := by decide +kernel
theorem dX12_goOn_285 : decode cX12_goOn 285 = .ok (.getfield 13, 3) := by decide +kernel
theorem dX12_goOn_288 : decode cX12_goOn 288 = .ok (.iload 9, 2) := by decide +kernel
theorem dX12_goOn_290 : decode cX12_goOn 290 = .ok (.iaload, 1) := by decide +kernel
theorem dX12_goOn_291 : decode cX12_goOn 291 = .ok (.imul, 1) := by decide +kernel
theorem dX12_goOn_292 : decode cX12_goOn 292 = .ok (.isub, 1) := by decide +kernel
theorem dX12_goOn_293 : decode cX12_goOn 293 = .ok (.iload 11, 2) := by decide +kernel
theorem dX12_goOn_295 : decode cX12_goOn 295 = .ok (.invokevirtual 287, 3) := by decide +kernel
theorem dX12_goOn_298 : decode cX12_goOn 298 = .ok (.aload_n 0, 1) := by decide +kernel
theorem dX12_goOn_299 : decode cX12_goOn 299 = .ok (.getfield 138, 3) := by decide +kernel
theorem dX12_goOn_302 : decode cX12_goOn 302 = .ok (.iload 8, 2) := by decide +kernel
theorem dX12_goOn_304 : decode cX12_goOn 304 = .ok (.iconst 0, 1) := by decide +kernel
theorem dX12_goOn_305 : decode cX12_goOn 305 = .ok (.bastore, 1) := by decide +kernel
theorem dX12_goOn_306 : decode cX12_goOn 306 = .ok (.iinc 8 1, 3) := by decide +kernel
theorem dX12_goOn_309 : decode cX12_goOn 309 = .ok (.goto (-153), 3) := by decide +kernel
theorem dX12_goOn_312 : decode cX12_goOn 312 = .ok (.return_, 1) := by decide +kernel
theorem dX12_order_0 : decode cX12_order 0 = .ok (.aload_n 0, 1) := by decide +kernel
theorem dX12_order_1 : decode cX12_order 1 = .ok (.iload_n 1, 1) := by decide +kernel
theorem dX12_order_2 : decode cX12_order 2 = .ok (.invokevirtual 215, 3) := by decide +kernel
theorem dX12_order_5 : decode cX12_order 5 = .ok (.ifCond .eq 11, 3) := by decide +kernel
theorem dX12_order_8 : decode cX12_order 8 = .ok (.aload_n 0, 1) := by decide +kernel
theorem dX12_order_9 : decode cX12_order 9 = .ok (.iload_n 2, 1) := by decide +kernel
theorem dX12_order_10 : decode cX12_order 10 = .ok (.invokevirtual 218, 3) := by decide +kernel
theorem dX12_order_13 : decode cX12_order 13 = .ok (.ifCond .ne 5, 3) := by decide +kernel
theorem dX12_order_16 : decode cX12_order 16 = .ok (.iconst (-1), 1) := by decide +kernel
theorem dX12_order_17 : decode cX12_order 17 = .ok (.ireturn, 1) := by decide +kernel
theorem dX12_order_18 : decode cX12_order 18 = .ok (.aload_n 0, 1) := by decide +kernel
theorem dX12_order_19 : decode cX12_order 19 = .ok (.getfield 274, 3) := by decide +kernel
theorem dX12_order_22 : decode cX12_order 22 = .ok (.ifCond .eq 13, 3) := by decide +kernel
theorem dX12_order_25 : decode cX12_order 25 = .ok (.aload_n 0, 1) := by decide +kernel
theorem dX12_order_26 : decode cX12_order 26 = .ok (.iload_n 1, 1) := by decide +kernel
theorem dX12_order_27 : decode cX12_order 27 = .ok (.bipush 110, 2) := by decide +kernel
theorem dX12_order_29 : decode cX12_order 29 = .ok (.invokevirtual 211, 3) := by decide +kernel
theorem dX12_order_32 : decode cX12_order 32 = .ok (.ifCond .le 6, 3) := by decide +kernel
theorem dX12_order_35 : decode cX12_order 35 = .ok (.bipush (-3), 2) := by decide +kernel
theorem dX12_order_37 : decode cX12_order 37 = .ok (.ireturn, 1) := by decide +kernel
theorem dX12_order_38 : decode cX12_order 38 = .ok (.aload_n 0, 1) := by decide +kernel
theorem dX12_order_39 : decode cX12_order 39 = .ok (.getfield 38, 3) := by decide +kernel
theorem dX12_order_42 : decode cX12_order 42 = .ok (.iload_n 1, 1) := by decide +kernel
theorem dX12_order_43 : decode cX12_order 43 = .ok (.iaload, 1) := by decide +kernel
theorem dX12_order_44 : decode cX12_order 44 = .ok (.aload_n 0, 1) := by decide +kernel
theorem dX12_order_45 : decode cX12_order 45 = .ok (.getfield 221, 3) := by decide +kernel
theorem dX12_order_48 : decode cX12_order 48 = .ok (.if_icmp .le 12, 3) := by decide +kernel
theorem dX12_order_51 : decode cX12_order 51 = .ok (.aload_n 0, 1) := by decide +kernel
theorem dX12_order_52 : decode cX12_order 52 = .ok (.getfield 38, 3) := by decide +kernel
theorem dX12_order_55 : decode cX12_order 55 = .ok (.iload_n 1, 1) := by decide +kernel
theorem dX12_order_56 : decode cX12_order 56 = .ok (.iaload, 1) := by decide +kernel
theorem dX12_order_57 : decode cX12_order 57 = .ok (.goto 7, 3) := by decide +kernel
theorem dX12_order_60 : decode cX12_order 60 = .ok (.aload_n 0, 1) := by decide +kernel
theorem dX12_order_61 : decode cX12_order 61 = .ok (.getfield 221, 3) := by decide +kernel
theorem dX12_order_64 : decode cX12_order 64 = .ok (.istore_n 3, 1) := by decide +kernel
theorem dX12_order_65 : decode cX12_order 65 = .ok (.aload_n 0, 1) := by decide +kernel
theorem dX12_order_66 : decode cX12_order 66 = .ok (.getfield 50, 3) := by decide +kernel
theorem dX12_order_69 : decode cX12_order 69 = .ok (.iload_n 2, 1) := by decide +kernel
theorem dX12_order_70 : decode cX12_order 70 = .ok (.iaload, 1) := by decide +kernel
theorem dX12_order_71 : decode cX12_order 71 = .ok (.iload_n 3, 1) := by decide +kernel
theorem dX12_order_72 : decode cX12_order 72 = .ok (.if_icmp .le 12, 3) := by decide +kernel
theorem dX12_order_75 : decode cX12_order 75 = .ok (.aload_n 0, 1) := by decide +kernel
theorem dX12_order_76 : decode cX12_order 76 = .ok (.getfield 50, 3) := by decide +kernel
theorem dX12_order_79 : decode cX12_order 79 = .ok (.iload_n 2, 1) := by decide +kernel
theorem dX12_order_80 : decode cX12_order 80 = .ok (.iaload, 1) := by decide +kernel
theorem dX12_order_81 : decode cX12_order 81 = .ok (.goto 4, 3) := by decide +kernel
theorem dX12_order_84 : decode cX12_order 84 = .ok (.iload_n 3, 1) := by decide +kernel
theorem dX12_order_85 : decode cX12_order 85 = .ok (.istore_n 3, 1) := by decide +kernel
theorem dX12_order_86 : decode cX12_order 86 = .ok (.aload_n 0, 1) := by decide +kernel
theorem dX12_order_87 : decode cX12_order 87 = .ok (.iconst (-1), 1) := by decide +kernel
theorem dX12_order_88 : decode cX12_order 88 = .ok (.putfield 277, 3) := by decide +kernel
theorem dX12_order_91 : decode cX12_order 91 = .ok (.iconst 0, 1) := by decide +kernel
theorem dX12_order_92 : decode cX12_order 92 = .ok (.istore 4, 2) := by decide +kernel
theorem dX12_order_94 : decode cX12_order 94 = .ok (.iload 4, 2) := by decide +kernel
theorem dX12_order_96 : decode cX12_order 96 = .ok (.iconst 5, 1) := by decide +kernel
theorem dX12_order_97 : decode cX12_order 97 = .ok (.if_icmp .ge 31, 3) := by decide +kernel
theorem dX12_order_100 : decode cX12_order 100 = .ok (.aload_n 0, 1) := by decide +kernel
theorem dX12_order_101 : decode cX12_order 101 = .ok (.getfield 138, 3) := by decide +kernel
theorem dX12_order_104 : decode cX12_order 104 = .ok (.iload 4, 2) := by decide +kernel
theorem dX12_order_106 : decode cX12_order 106 = .ok (.iconst 0, 1) := by decide +kernel
theorem dX12_order_107 : decode cX12_order 107 = .ok (.bastore, 1) := by decide +kernel
theorem dX12_order_108 : decode cX12_order 108 = .ok (.aload_n 0, 1) := by decide +kernel
theorem dX12_order_109 : decode cX12_order 109 = .ok (.getfield 150, 3) := by decide +kernel
theorem dX12_order_112 : decode cX12_order 112 = .ok (.iload 4, 2) := by decide +kernel
theorem dX12_order_114 : decode cX12_order 114 = .ok (.aload_n 0, 1) := by decide +kernel
theorem dX12_order_115 : decode cX12_order 115 = .ok (.getfield 135, 3) := by decide +kernel
theorem dX12_order_118 : decode cX12_order 118 = .ok (.iload 4, 2) := by decide +kernel
theorem dX12_order_120 : decode cX12_order 120 = .ok (.iaload, 1) := by decide +kernel
theorem dX12_order_121 : decode cX12_order 121 = .ok (.iastore, 1) := by decide +kernel
theorem dX12_order_122 : decode cX12_order 122 = .ok (.iinc 4 1, 3) := by decide +kernel
theorem dX12_order_125 : decode cX12_order 125 = .ok (.goto (-31), 3) := by decide +kernel
theorem dX12_order_128 : decode cX12_order 128 = .ok (.aload_n 0, 1) := by decide +kernel
theorem dX12_order_129 : decode cX12_order 129 = .ok (.iconst 0, 1) := by decide +kernel
theorem dX12_order_130 : decode cX12_order 130 = .ok (.iload_n 1, 1) := by decide +kernel
theorem dX12_order_131 : decode cX12_order 131 = .ok (.iload_n 2, 1) := by decide +kernel
theorem dX12_order_132 : decode cX12_order 132 = .ok (.iload_n 3, 1) := by decide +kernel
theorem dX12_order_133 : decode cX12_order 133 = .ok (.aload_n 0, 1) := by decide +kernel
theorem dX12_order_134 : decode cX12_order 134 = .ok (.getfield 47, 3) := by decide +kernel
theorem dX12_order_137 : decode cX12_order 137 = .ok (.iload_n 2, 1) := by decide +kernel
theorem dX12_order_138 : decode cX12_order 138 = .ok (.iaload, 1) := by decide +kernel
theorem dX12_order_139 : decode cX12_order 139 = .ok (.aload_n 0, 1) := by decide +kernel
theorem dX12_order_140 : decode cX12_order 140 = .ok (.getfield 35, 3) := by decide +kernel
theorem dX12_order_143 : decode cX12_order 143 = .ok (.iload_n 1, 1) := by decide +kernel
theorem dX12_order_144 : decode cX12_order 144 = .ok (.iaload, 1) := by decide +kernel
theorem dX12_order_145 : decode cX12_order 145 = .ok (.iconst 0, 1) := by decide +kernel
theorem dX12_order_146 : decode cX12_order 146 = .ok (.invokevirtual 287, 3) := by decide +kernel
theorem dX12_order_149 : decode cX12_order 149 = .ok (.aload_n 0, 1) := by decide +kernel
theorem dX12_order_150 : decode cX12_order 150 = .ok (.getfield 277, 3) := by decide +kernel
theorem dX12_order_153 : decode cX12_order 153 = .ok (.ifCond .ge 35, 3) := by decide +kernel
theorem dX12_order_156 : decode cX12_order 156 = .ok (.iconst 0, 1) := by decide +kernel
theorem dX12_order_157 : decode cX12_order 157 = .ok (.istore 4, 2) := by decide +kernel
theorem dX12_order_159 : decode cX12_order 159 = .ok (.iload 4, 2) := by decide +kernel
theorem dX12_order_161 : decode cX12_order 161 = .ok (.iconst 5, 1) := by decide +kernel
theorem dX12_order_162 : decode cX12_order 162 = .ok (.if_icmp .ge 23, 3) := by decide +kernel
theorem dX12_order_165 : decode cX12_order 165 = .ok (.aload_n 0, 1) := by decide +kernel
theorem dX12_order_166 : decode cX12_order 166 = .ok (.getfield 135, 3) := by decide +kernel
theorem dX12_order_169 : decode cX12_order 169 = .ok (.iload 4, 2) := by decide +kernel
theorem dX12_order_171 : decode cX12_order 171 = .ok (.aload_n 0, 1) := by decide +kernel
theorem dX12_order_172 : decode cX12_order 172 = .ok (.getfield 150, 3) := by decide +kernel
theorem dX12_order_175 : decode cX12_order 175 = .ok (.iload 4, 2) := by decide +kernel
theorem dX12_order_177 : decode cX12_order 177 = .ok (.iaload, 1) := by decide +kernel
theorem dX12_order_178 : decode cX12_order 178 = .ok (.iastore, 1) := by decide +kernel
theorem dX12_order_179 : decode cX12_order 179 = .ok (.iinc 4 1, 3) := by decide +kernel
theorem dX12_order_182 : decode cX12_order 182 = .ok (.goto (-23), 3) := by decide +kernel
theorem dX12_order_185 : decode cX12_order 185 = .ok (.bipush (-3), 2) := by decide +kernel
theorem dX12_order_187 : decode cX12_order 187 = .ok (.ireturn, 1) := by decide +kernel
theorem dX12_order_188 : decode cX12_order 188 = .ok (.aload_n 0, 1) := by decide +kernel
theorem dX12_order_189 : decode cX12_order 189 = .ok (.aload_n 0, 1) := by decide +kernel
theorem dX12_order_190 : decode cX12_order 190 = .ok (.getfield 277, 3) := by decide +kernel
theorem dX12_order_193 : decode cX12_order 193 = .ok (.putfield 141, 3) := by decide +kernel
theorem dX12_order_196 : decode cX12_order 196 = .ok (.aload_n 0, 1) := by decide +kernel
theorem dX12_order_197 : decode cX12_order 197 = .ok (.iconst 0, 1) := by decide +kernel
theorem dX12_order_198 : decode cX12_order 198 = .ok (.putfield 274, 3) := by decide +kernel
theorem dX12_order_201 : decode cX12_order 201 = .ok (.aload_n 0, 1) := by decide +kernel
theorem dX12_order_202 : decode cX12_order 202 = .ok (.getfield 280, 3) := by decide +kernel
theorem dX12_order_205 : decode cX12_order 205 = .ok (.ireturn, 1) := by decide +kernel
theorem dX12_ordered_0 : decode cX12_ordered 0 = .ok (.iload_n 1, 1) := by decide +kernel
theorem dX12_ordered_1 : decode cX12_ordered 1 = .ok (.ifCond .lt 20, 3) := by decide +kernel
theorem dX12_ordered_4 : decode cX12_ordered 4 = .ok (.iload_n 1, 1) := by decide +kernel
theorem dX12_ordered_5 : decode cX12_ordered 5 = .ok (.aload_n 0, 1) := by decide +kernel
theorem dX12_ordered_6 : decode cX12_ordered 6 = .ok (.getfield 141, 3) := by decide +kernel
theorem dX12_ordered_9 : decode cX12_ordered 9 = .ok (.if_icmp .ge 12, 3) := by decide +kernel
theorem dX12_ordered_12 : decode cX12_ordered 12 = .ok (.aload_n 0, 1) := by decide +kernel
theorem dX12_ordered_13 : decode cX12_ordered 13 = .ok (.getfield 135, 3) := by decide +kernel
theorem dX12_ordered_16 : decode cX12_ordered 16 = .ok (.iload_n 1, 1) := by decide +kernel
theorem dX12_ordered_17 : decode cX12_ordered 17 = .ok (.iaload, 1) := by decide +kernel
theorem dX12_ordered_18 : decode cX12_ordered 18 = .ok (.goto 4, 3) := by decide +kernel
theorem dX12_ordered_21 : decode cX12_ordered 21 = .ok (.iconst (-1), 1) := by decide +kernel
theorem dX12_ordered_22 : decode cX12_ordered 22 = .ok (.ireturn, 1) := by decide +kernel
theorem dX12_count_0 : decode cX12_count 0 = .ok (.iconst 0, 1) := by decide +kernel
theorem dX12_count_1 : decode cX12_count 1 = .ok (.istore_n 2, 1) := by decide +kernel
theorem dX12_count_2 : decode cX12_count 2 = .ok (.iload_n 1, 1) := by decide +kernel
theorem dX12_count_3 : decode cX12_count 3 = .ok (.tableswitch 143 0 9 #[53, 58, 63, 68, 73, 78, 83, 88, 88, 138], 53) := by decide +kernel
theorem dX12_count_56 : decode cX12_count 56 = .ok (.aload_n 0, 1) := by decide +kernel
theorem dX12_count_57 : decode cX12_count 57 = .ok (.getfield 16, 3) := by decide +kernel
theorem dX12_count_60 : decode cX12_count 60 = .ok (.ireturn, 1) := by decide +kernel
theorem dX12_count_61 : decode cX12_count 61 = .ok (.aload_n 0, 1) := by decide +kernel
theorem dX12_count_62 : decode cX12_count 62 = .ok (.getfield 157, 3) := by decide +kernel
theorem dX12_count_65 : decode cX12_count 65 = .ok (.ireturn, 1) := by decide +kernel
theorem dX12_count_66 : decode cX12_count 66 = .ok (.aload_n 0, 1) := by decide +kernel
theorem dX12_count_67 : decode cX12_count 67 = .ok (.getfield 160, 3) := by decide +kernel
theorem dX12_count_70 : decode cX12_count 70 = .ok (.ireturn, 1) := by decide +kernel
theorem dX12_count_71 : decode cX12_count 71 = .ok (.aload_n 0, 1) := by decide +kernel
theorem dX12_count_72 : decode cX12_count 72 = .ok (.getfield 163, 3) := by decide +kernel
theorem dX12_count_75 : decode cX12_count 75 = .ok (.ireturn, 1) := by decide +kernel
theorem dX12_count_76 : decode cX12_count 76 = .ok (.aload_n 0, 1) := by decide +kernel
theorem dX12_count_77 : decode cX12_count 77 = .ok (.getfield 182, 3) := by decide +kernel
theorem dX12_count_80 : decode cX12_count 80 = .ok (.ireturn, 1) := by decide +kernel
theorem dX12_count_81 : decode cX12_count 81 = .ok (.aload_n 0, 1) := by decide +kernel
theorem dX12_count_82 : decode cX12_count 82 = .ok (.getfield 256, 3) := by decide +kernel
theorem dX12_count_85 : decode cX12_count 85 = .ok (.ireturn, 1) := by decide +kernel
theorem dX12_count_86 : decode cX12_count 86 = .ok (.aload_n 0, 1) := by decide +kernel
theorem dX12_count_87 : decode cX12_count 87 = .ok (.getfield 221, 3) := by decide +kernel
theorem dX12_count_90 : decode cX12_count 90 = .ok (.ireturn, 1) := by decide +kernel
theorem dX12_count_91 : decode cX12_count 91 = .ok (.iconst 0, 1) := by decide +kernel
theorem dX12_count_92 : decode cX12_count 92 = .ok (.istore_n 3, 1) := by decide +kernel
theorem dX12_count_93 : decode cX12_count 93 = .ok (.iload_n 3, 1) := by decide +kernel
theorem dX12_count_94 : decode cX12_count 94 = .ok (.aload_n 0, 1) := by decide +kernel
theorem dX12_count_95 : decode cX12_count 95 = .ok (.getfield 163, 3) := by decide +kernel
theorem dX12_count_98 : decode cX12_count 98 = .ok (.if_icmp .ge 41, 3) := by decide +kernel
theorem dX12_count_101 : decode cX12_count 101 = .ok (.iload_n 2, 1) := by decide +kernel
theorem dX12_count_102 : decode cX12_count 102 = .ok (.aload_n 0, 1) := by decide +kernel
theorem dX12_count_103 : decode cX12_count 103 = .ok (.getfield 71, 3) := by decide +kernel
theorem dX12_count_106 : decode cX12_count 106 = .ok (.iload_n 3, 1) := by decide +kernel
theorem dX12_count_107 : decode cX12_count 107 = .ok (.iaload, 1) := by decide +kernel
theorem dX12_count_108 : decode cX12_count 108 = .ok (.iconst 3, 1) := by decide +kernel
theorem dX12_count_109 : decode cX12_count 109 = .ok (.if_icmp .ne 21, 3) := by decide +kernel
theorem dX12_count_112 : decode cX12_count 112 = .ok (.iload_n 1, 1) := by decide +kernel
theorem dX12_count_113 : decode cX12_count 113 = .ok (.bipush 7, 2) := by decide +kernel
theorem dX12_count_115 : decode cX12_count 115 = .ok (.if_icmp .eq 11, 3) := by decide +kernel
theorem dX12_count_118 : decode cX12_count 118 = .ok (.aload_n 0, 1) := by decide +kernel
theorem dX12_count_119 : decode cX12_count 119 = .ok (.iload_n 3, 1) := by decide +kernel
theorem dX12_count_120 : decode cX12_count 120 = .ok (.invokevirtual 262, 3) := by decide +kernel
theorem dX12_count_123 : decode cX12_count 123 = .ok (.ifCond .eq 7, 3) := by decide +kernel
theorem dX12_count_126 : decode cX12_count 126 = .ok (.iconst 1, 1) := by decide +kernel
theorem dX12_count_127 : decode cX12_count 127 = .ok (.goto 4, 3) := by decide +kernel
theorem dX12_count_130 : decode cX12_count 130 = .ok (.iconst 0, 1) := by decide +kernel
theorem dX12_count_131 : decode cX12_count 131 = .ok (.iadd, 1) := by decide +kernel
theorem dX12_count_132 : decode cX12_count 132 = .ok (.istore_n 2, 1) := by decide +kernel
theorem dX12_count_133 : decode cX12_count 133 = .ok (.iinc 3 1, 3) := by decide +kernel
theorem dX12_count_136 : decode cX12_count 136 = .ok (.goto (-43), 3) := by decide +kernel
theorem dX12_count_139 : decode cX12_count 139 = .ok (.iload_n 2, 1) := by decide +kernel
theorem dX12_count_140 : decode cX12_count 140 = .ok (.ireturn, 1) := by decide +kernel
theorem dX12_count_141 : decode cX12_count 141 = .ok (.aload_n 0, 1) := by decide +kernel
theorem dX12_count_142 : decode cX12_count 142 = .ok (.getfield 170, 3) := by decide +kernel
theorem dX12_count_145 : decode cX12_count 145 = .ok (.ireturn, 1) := by decide +kernel
theorem dX12_count_146 : decode cX12_count 146 = .ok (.iconst (-1), 1) := by decide +kernel
theorem dX12_count_147 : decode cX12_count 147 = .ok (.ireturn, 1) := by decide +kernel
theorem dJ11_isValidCodePoint_9a6ad_0 : decode cJ11_isValidCodePoint_9a6ad 0 = .ok (.iload_n 0, 1) := by decide +kernel
theorem dJ11_isValidCodePoint_9a6ad_1 : decode cJ11_isValidCodePoint_9a6ad 1 = .ok (.bipush 16, 2) := by decide +kernel
theorem dJ11_isValidCodePoint_9a6ad_3 : decode cJ11_isValidCodePoint_9a6ad 3 = .ok (.iushr, 1) := by decide +kernel
theorem dJ11_isValidCodePoint_9a6ad_4 : decode cJ11_isValidCodePoint_9a6ad 4 = .ok (.istore_n 1, 1) := by decide +kernel
theorem dJ11_isValidCodePoint_9a6ad_5 : decode cJ11_isValidCodePoint_9a6ad 5 = .ok (.iload_n 1, 1) := by decide +kernel
theorem dJ11_isValidCodePoint_9a6ad_6 : decode cJ11_isValidCodePoint_9a6ad 6 = .ok (.bipush 17, 2) := by decide +kernel
theorem dJ11_isValidCodePoint_9a6ad_8 : decode cJ11_isValidCodePoint_9a6ad 8 = .ok (.if_icmp .ge 7, 3) := by decide +kernel
theorem dJ11_isValidCodePoint_9a6ad_11 : decode cJ11_isValidCodePoint_9a6ad 11 = .ok (.iconst 1, 1) := by decide +kernel
theorem dJ11_isValidCodePoint_9a6ad_12 : decode cJ11_isValidCodePoint_9a6ad 12 = .ok (.goto 4, 3) := by decide +kernel
theorem dJ11_isValidCodePoint_9a6ad_15 : decode cJ11_isValidCodePoint_9a6ad 15 = .ok (.iconst 0, 1) := by decide +kernel
theorem dJ11_isValidCodePoint_9a6ad_16 : decode cJ11_isValidCodePoint_9a6ad 16 = .ok (.ireturn, 1) := by decide +kernel
theorem dJ11_highSurrogate_5068e_0 : decode cJ11_highSurrogate_5068e 0 = .ok (.iload_n 0, 1) := by decide +kernel
theorem dJ11_highSurrogate_5068e_1 : decode cJ11_highSurrogate_5068e 1 = .ok (.bipush 10, 2) := by decide +kernel
theorem dJ11_highSurrogate_5068e_3 : decode cJ11_highSurrogate_5068e 3 = .ok (.iushr, 1) := by decide +kernel
theorem dJ11_highSurrogate_5068e_4 : decode cJ11_highSurrogate_5068e 4 = .ok (.ldc 110, 2) := by decide +kernel
theorem dJ11_highSurrogate_5068e_6 : decode cJ11_highSurrogate_5068e 6 = .ok (.iadd, 1) := by decide +kernel
theorem dJ11_highSurrogate_5068e_7 : decode cJ11_highSurrogate_5068e 7 = .ok (.i2c, 1) := by decide +kernel
theorem dJ11_highSurrogate_5068e_8 : decode cJ11_highSurrogate_5068e 8 = .ok (.ireturn, 1) := by decide +kernel
theorem dJ11_lowSurrogate_5068e_0 : decode cJ11_lowSurrogate_5068e 0 = .ok (.iload_n 0, 1) := by decide +kernel
theorem dJ11_lowSurrogate_5068e_1 : decode cJ11_lowSurrogate_5068e 1 = .ok (.sipush 1023, 3) := by decide +kernel
theorem dJ11_lowSurrogate_5068e_4 : decode cJ11_lowSurrogate_5068e 4 = .ok (.iand, 1) := by decide +kernel
theorem dJ11_lowSurrogate_5068e_5 : decode cJ11_lowSurrogate_5068e 5 = .ok (.ldc 76, 2) := by decide +kernel
theorem dJ11_lowSurrogate_5068e_7 : decode cJ11_lowSurrogate_5068e 7 = .ok (.iadd, 1) := by decide +kernel
theorem dJ11_lowSurrogate_5068e_8 : decode cJ11_lowSurrogate_5068e 8 = .ok (.i2c, 1) := by decide +kernel
theorem dJ11_lowSurrogate_5068e_9 : decode cJ11_lowSurrogate_5068e 9 = .ok (.ireturn, 1) := by decide +kernel
theorem dJ9_max_7cf53_0 : decode cJ9_max_7cf53 0 = .ok (.iload_n 0, 1) := by decide +kernel
theorem dJ9_max_7cf53_1 : decode cJ9_max_7cf53 1 = .ok (.iload_n 1, 1) := by decide +kernel
theorem dJ9_max_7cf53_2 : decode cJ9_max_7cf53 2 = .ok (.if_icmp .lt 7, 3) := by decide +kernel
theorem dJ9_max_7cf53_5 : decode cJ9_max_7cf53 5 = .ok (.iload_n 0, 1) := by decide +kernel
theorem dJ9_max_7cf53_6 : decode cJ9_max_7cf53 6 = .ok (.goto 4, 3) := by decide +kernel
theorem dJ9_max_7cf53_9 : decode cJ9_max_7cf53 9 = .ok (.iload_n 1, 1) := by decide +kernel
theorem dJ9_max_7cf53_10 : decode cJ9_max_7cf53 10 = .ok (.ireturn, 1) := by decide +kernel
theorem dJ9_min_7cf53_0 : decode cJ9_min_7cf53 0 = .ok (.iload_n 0, 1) := by decide +kernel
theorem dJ9_min_7cf53_1 : decode cJ9_min_7cf53 1 = .ok (.iload_n 1, 1) := by decide +kernel
theorem dJ9_min_7cf53_2 : decode cJ9_min_7cf53 2 = .ok (.if_icmp .gt 7, 3) := by decide +kernel
theorem dJ9_min_7cf53_5 : decode cJ9_min_7cf53 5 = .ok (.iload_n 0, 1) := by decide +kernel
theorem dJ9_min_7cf53_6 : decode cJ9_min_7cf53 6 = .ok (.goto 4, 3) := by decide +kernel
theorem dJ9_min_7cf53_9 : decode cJ9_min_7cf53 9 = .ok (.iload_n 1, 1) := by decide +kernel
theorem dJ9_min_7cf53_10 : decode cJ9_min_7cf53 10 = .ok (.ireturn, 1) := by decide +kernel
theorem dJ0_length_8abf5_0 : decode cJ0_length_8abf5 0 = .ok (.aload_n 0, 1) := by decide +kernel
theorem dJ0_length_8abf5_1 : decode cJ0_length_8abf5 1 = .ok (.getfield 9, 3) := by decide +kernel
theorem dJ0_length_8abf5_4 : decode cJ0_length_8abf5 4 = .ok (.arraylength, 1) := by decide +kernel
theorem dJ0_length_8abf5_5 : decode cJ0_length_8abf5 5 = .ok (.aload_n 0, 1) := by decide +kernel
theorem dJ0_length_8abf5_6 : decode cJ0_length_8abf5 6 = .ok (.invokevirtual 335, 3) := by decide +kernel
theorem dJ0_length_8abf5_9 : decode cJ0_length_8abf5 9 = .ok (.ishr, 1) := by decide +kernel
theorem dJ0_length_8abf5_10 : decode cJ0_length_8abf5 10 = .ok (.ireturn, 1) := by decide +kernel
theorem dJ0_indexOf_0f7a4_0 : decode cJ0_indexOf_0f7a4 0 = .ok (.aload_n 0, 1) := by decide +kernel
theorem dJ0_indexOf_0f7a4_1 : decode cJ0_indexOf_0f7a4 1 = .ok (.iload_n 1, 1) := by decide +kernel
theorem dJ0_indexOf_0f7a4_2 : decode cJ0_indexOf_0f7a4 2 = .ok (.iconst 0, 1) := by decide +kernel
theorem dJ0_indexOf_0f7a4_3 : decode cJ0_indexOf_0f7a4 3 = .ok (.invokevirtual 633, 3) := by decide +kernel
theorem dJ0_indexOf_0f7a4_6 : decode cJ0_indexOf_0f7a4 6 = .ok (.ireturn, 1) := by decide +kernel
theorem dJ0_indexOf_7cf53_0 : decode cJ0_indexOf_7cf53 0 = .ok (.aload_n 0, 1) := by decide +kernel
theorem dJ0_indexOf_7cf53_1 : decode cJ0_indexOf_7cf53 1 = .ok (.invokevirtual 492, 3) := by decide +kernel
theorem dJ0_indexOf_7cf53_4 : decode cJ0_indexOf_7cf53 4 = .ok (.ifCond .eq 19, 3) := by decide +kernel
theorem dJ0_indexOf_7cf53_7 : decode cJ0_indexOf_7cf53 7 = .ok (.aload_n 0, 1) := by decide +kernel
theorem dJ0_indexOf_7cf53_8 : decode cJ0_indexOf_7cf53 8 = .ok (.getfield 9, 3) := by decide +kernel
theorem dJ0_indexOf_7cf53_11 : decode cJ0_indexOf_7cf53 11 = .ok (.iload_n 1, 1) := by decide +kernel
theorem dJ0_indexOf_7cf53_12 : decode cJ0_indexOf_7cf53 12 = .ok (.iload_n 2, 1) := by decide +kernel
theorem dJ0_indexOf_7cf53_13 : decode cJ0_indexOf_7cf53 13 = .ok (.aload_n 0, 1) := by decide +kernel
theorem dJ0_indexOf_7cf53_14 : decode cJ0_indexOf_7cf53 14 = .ok (.invokevirtual 505, 3) := by decide +kernel
theorem dJ0_indexOf_7cf53_17 : decode cJ0_indexOf_7cf53 17 = .ok (.invokestatic 637, 3) := by decide +kernel
theorem dJ0_indexOf_7cf53_20 : decode cJ0_indexOf_7cf53 20 = .ok (.goto 16, 3) := by decide +kernel
theorem dJ0_indexOf_7cf53_23 : decode cJ0_indexOf_7cf53 23 = .ok (.aload_n 0, 1) := by decide +kernel
theorem dJ0_indexOf_7cf53_24 : decode cJ0_indexOf_7cf53 24 = .ok (.getfield 9, 3) := by decide +kernel
theorem dJ0_indexOf_7cf53_27 : decode cJ0_indexOf_7cf53 27 = .ok (.iload_n 1, 1) := by decide +kernel
theorem dJ0_indexOf_7cf53_28 : decode cJ0_indexOf_7cf53 28 = .ok (.iload_n 2, 1) := by decide +kernel
theorem dJ0_indexOf_7cf53_29 : decode cJ0_indexOf_7cf53 29 = .ok (.aload_n 0, 1) := by decide +kernel
theorem dJ0_indexOf_7cf53_30 : decode cJ0_indexOf_7cf53 30 = .ok (.invokevirtual 505, 3) := by decide +kernel
theorem dJ0_indexOf_7cf53_33 : decode cJ0_indexOf_7cf53 33 = .ok (.invokestatic 640, 3) := by decide +kernel
theorem dJ0_indexOf_7cf53_36 : decode cJ0_indexOf_7cf53 36 = .ok (.ireturn, 1) := by decide +kernel
theorem dJ0_coder_7d493_0 : decode cJ0_coder_7d493 0 = .ok (.getstatic 38, 3) := by decide +kernel
theorem dJ0_coder_7d493_3 : decode cJ0_coder_7d493 3 = .ok (.ifCond .eq 10, 3) := by decide +kernel
theorem dJ0_coder_7d493_6 : decode cJ0_coder_7d493 6 = .ok (.aload_n 0, 1) := by decide +kernel
theorem dJ0_coder_7d493_7 : decode cJ0_coder_7d493 7 = .ok (.getfield 15, 3) := by decide +kernel
theorem dJ0_coder_7d493_10 : decode cJ0_coder_7d493 10 = .ok (.goto 4, 3) := by decide +kernel
theorem dJ0_coder_7d493_13 : decode cJ0_coder_7d493 13 = .ok (.iconst 1, 1) := by decide +kernel
theorem dJ0_coder_7d493_14 : decode cJ0_coder_7d493 14 = .ok (.ireturn, 1) := by decide +kernel
theorem dJ0_isLatin1_aae02_0 : decode cJ0_isLatin1_aae02 0 = .ok (.getstatic 38, 3) := by decide +kernel
theorem dJ0_isLatin1_aae02_3 : decode cJ0_isLatin1_aae02 3 = .ok (.ifCond .eq 14, 3) := by decide +kernel
theorem dJ0_isLatin1_aae02_6 : decode cJ0_isLatin1_aae02 6 = .ok (.aload_n 0, 1) := by decide +kernel
theorem dJ0_isLatin1_aae02_7 : decode cJ0_isLatin1_aae02 7 = .ok (.getfield 15, 3) := by decide +kernel
theorem dJ0_isLatin1_aae02_10 : decode cJ0_isLatin1_aae02 10 = .ok (.ifCond .ne 7, 3) := by decide +kernel
theorem dJ0_isLatin1_aae02_13 : decode cJ0_isLatin1_aae02 13 = .ok (.iconst 1, 1) := by decide +kernel
theorem dJ0_isLatin1_aae02_14 : decode cJ0_isLatin1_aae02 14 = .ok (.goto 4, 3) := by decide +kernel
theorem dJ0_isLatin1_aae02_17 : decode cJ0_isLatin1_aae02 17 = .ok (.iconst 0, 1) := by decide +kernel
theorem dJ0_isLatin1_aae02_18 : decode cJ0_isLatin1_aae02 18 = .ok (.ireturn, 1) := by decide +kernel
theorem dJ0_checkBoundsBeginEnd_23922_0 : decode cJ0_checkBoundsBeginEnd_23922 0 = .ok (.iload_n 0, 1) := by decide +kernel
theorem dJ0_checkBoundsBeginEnd_23922_1 : decode cJ0_checkBoundsBeginEnd_23922 1 = .ok (.iload_n 1, 1) := by decide +kernel
theorem dJ0_checkBoundsBeginEnd_23922_2 : decode cJ0_checkBoundsBeginEnd_23922 2 = .ok (.iload_n 2, 1) := by decide +kernel
theorem dJ0_checkBoundsBeginEnd_23922_3 : decode cJ0_checkBoundsBeginEnd_23922 3 = .ok (.getstatic 1053, 3) := by decide +kernel
theorem dJ0_checkBoundsBeginEnd_23922_6 : decode cJ0_checkBoundsBeginEnd_23922 6 = .ok (.invokestatic 1062, 3) := by decide +kernel
theorem dJ0_checkBoundsBeginEnd_23922_9 : decode cJ0_checkBoundsBeginEnd_23922 9 = .ok (.pop, 1) := by decide +kernel
theorem dJ0_checkBoundsBeginEnd_23922_10 : decode cJ0_checkBoundsBeginEnd_23922 10 = .ok (.return_, 1) := by decide +kernel
theorem dJ1_canEncode_9a6ad_0 : decode cJ1_canEncode_9a6ad 0 = .ok (.iload_n 0, 1) := by decide +kernel
theorem dJ1_canEncode_9a6ad_1 : decode cJ1_canEncode_9a6ad 1 = .ok (.ifCond .lt 14, 3) := by decide +kernel
theorem dJ1_canEncode_9a6ad_4 : decode cJ1_canEncode_9a6ad 4 = .ok (.iload_n 0, 1) := by decide +kernel
theorem dJ1_canEncode_9a6ad_5 : decode cJ1_canEncode_9a6ad 5 = .ok (.sipush 255, 3) := by decide +kernel
theorem dJ1_canEncode_9a6ad_8 : decode cJ1_canEncode_9a6ad 8 = .ok (.if_icmp .gt 7, 3) := by decide +kernel
theorem dJ1_canEncode_9a6ad_11 : decode cJ1_canEncode_9a6ad 11 = .ok (.iconst 1, 1) := by decide +kernel
theorem dJ1_canEncode_9a6ad_12 : decode cJ1_canEncode_9a6ad 12 = .ok (.goto 4, 3) := by decide +kernel
theorem dJ1_canEncode_9a6ad_15 : decode cJ1_canEncode_9a6ad 15 = .ok (.iconst 0, 1) := by decide +kernel
theorem dJ1_canEncode_9a6ad_16 : decode cJ1_canEncode_9a6ad 16 = .ok (.ireturn, 1) := by decide +kernel
theorem dJ1_indexOf_4cfef_0 : decode cJ1_indexOf_4cfef 0 = .ok (.iload_n 1, 1) := by decide +kernel
theorem dJ1_indexOf_4cfef_1 : decode cJ1_indexOf_4cfef 1 = .ok (.invokestatic 88, 3) := by decide +kernel
theorem dJ1_indexOf_4cfef_4 : decode cJ1_indexOf_4cfef 4 = .ok (.ifCond .ne 5, 3) := by decide +kernel
theorem dJ1_indexOf_4cfef_7 : decode cJ1_indexOf_4cfef 7 = .ok (.iconst (-1), 1) := by decide +kernel
theorem dJ1_indexOf_4cfef_8 : decode cJ1_indexOf_4cfef 8 = .ok (.ireturn, 1) := by decide +kernel
theorem dJ1_indexOf_4cfef_9 : decode cJ1_indexOf_4cfef 9 = .ok (.iload_n 2, 1) := by decide +kernel
theorem dJ1_indexOf_4cfef_10 : decode cJ1_indexOf_4cfef 10 = .ok (.iconst 0, 1) := by decide +kernel
theorem dJ1_indexOf_4cfef_11 : decode cJ1_indexOf_4cfef 11 = .ok (.invokestatic 92, 3) := by decide +kernel
theorem dJ1_indexOf_4cfef_14 : decode cJ1_indexOf_4cfef 14 = .ok (.istore_n 2, 1) := by decide +kernel
theorem dJ1_indexOf_4cfef_15 : decode cJ1_indexOf_4cfef 15 = .ok (.iload_n 3, 1) := by decide +kernel
theorem dJ1_indexOf_4cfef_16 : decode cJ1_indexOf_4cfef 16 = .ok (.aload_n 0, 1) := by decide +kernel
theorem dJ1_indexOf_4cfef_17 : decode cJ1_indexOf_4cfef 17 = .ok (.arraylength, 1) := by decide +kernel
theorem dJ1_indexOf_4cfef_18 : decode cJ1_indexOf_4cfef 18 = .ok (.invokestatic 38, 3) := by decide +kernel
theorem dJ1_indexOf_4cfef_21 : decode cJ1_indexOf_4cfef 21 = .ok (.istore_n 3, 1) := by decide +kernel
theorem dJ1_indexOf_4cfef_22 : decode cJ1_indexOf_4cfef 22 = .ok (.iload_n 2, 1) := by decide +kernel
theorem dJ1_indexOf_4cfef_23 : decode cJ1_indexOf_4cfef 23 = .ok (.iload_n 3, 1) := by decide +kernel
theorem dJ1_indexOf_4cfef_24 : decode cJ1_indexOf_4cfef 24 = .ok (.if_icmp .lt 5, 3) := by decide +kernel
theorem dJ1_indexOf_4cfef_27 : decode cJ1_indexOf_4cfef 27 = .ok (.iconst (-1), 1) := by decide +kernel
theorem dJ1_indexOf_4cfef_28 : decode cJ1_indexOf_4cfef 28 = .ok (.ireturn, 1) := by decide +kernel
theorem dJ1_indexOf_4cfef_29 : decode cJ1_indexOf_4cfef 29 = .ok (.aload_n 0, 1) := by decide +kernel
theorem dJ1_indexOf_4cfef_30 : decode cJ1_indexOf_4cfef 30 = .ok (.iload_n 1, 1) := by decide +kernel
theorem dJ1_indexOf_4cfef_31 : decode cJ1_indexOf_4cfef 31 = .ok (.iload_n 2, 1) := by decide +kernel
theorem dJ1_indexOf_4cfef_32 : decode cJ1_indexOf_4cfef 32 = .ok (.iload_n 3, 1) := by decide +kernel
theorem dJ1_indexOf_4cfef_33 : decode cJ1_indexOf_4cfef 33 = .ok (.invokestatic 95, 3) := by decide +kernel
theorem dJ1_indexOf_4cfef_36 : decode cJ1_indexOf_4cfef 36 = .ok (.ireturn, 1) := by decide +kernel
theorem dJ1_indexOfChar_4cfef_0 : decode cJ1_indexOfChar_4cfef 0 = .ok (.iload_n 1, 1) := by decide +kernel
theorem dJ1_indexOfChar_4cfef_1 : decode cJ1_indexOfChar_4cfef 1 = .ok (.i2b, 1) := by decide +kernel
theorem dJ1_indexOfChar_4cfef_2 : decode cJ1_indexOfChar_4cfef 2 = .ok (.istore 4, 2) := by decide +kernel
theorem dJ1_indexOfChar_4cfef_4 : decode cJ1_indexOfChar_4cfef 4 = .ok (.iload_n 2, 1) := by decide +kernel
theorem dJ1_indexOfChar_4cfef_5 : decode cJ1_indexOfChar_4cfef 5 = .ok (.istore 5, 2) := by decide +kernel
theorem dJ1_indexOfChar_4cfef_7 : decode cJ1_indexOfChar_4cfef 7 = .ok (.iload 5, 2) := by decide +kernel
theorem dJ1_indexOfChar_4cfef_9 : decode cJ1_indexOfChar_4cfef 9 = .ok (.iload_n 3, 1) := by decide +kernel
theorem dJ1_indexOfChar_4cfef_10 : decode cJ1_indexOfChar_4cfef 10 = .ok (.if_icmp .ge 21, 3) := by decide +kernel
theorem dJ1_indexOfChar_4cfef_13 : decode cJ1_indexOfChar_4cfef 13 = .ok (.aload_n 0, 1) := by decide +kernel
theorem dJ1_indexOfChar_4cfef_14 : decode cJ1_indexOfChar_4cfef 14 = .ok (.iload 5, 2) := by decide +kernel
theorem dJ1_indexOfChar_4cfef_16 : decode cJ1_indexOfChar_4cfef 16 = .ok (.baload, 1) := by decide +kernel
theorem dJ1_indexOfChar_4cfef_17 : decode cJ1_indexOfChar_4cfef 17 = .ok (.iload 4, 2) := by decide +kernel
theorem dJ1_indexOfChar_4cfef_19 : decode cJ1_indexOfChar_4cfef 19 = .ok (.if_icmp .ne 6, 3) := by decide +kernel
theorem dJ1_indexOfChar_4cfef_22 : decode cJ1_indexOfChar_4cfef 22 = .ok (.iload 5, 2) := by decide +kernel
theorem dJ1_indexOfChar_4cfef_24 : decode cJ1_indexOfChar_4cfef 24 = .ok (.ireturn, 1) := by decide +kernel
theorem dJ1_indexOfChar_4cfef_25 : decode cJ1_indexOfChar_4cfef 25 = .ok (.iinc 5 1, 3) := by decide +kernel
theorem dJ1_indexOfChar_4cfef_28 : decode cJ1_indexOfChar_4cfef 28 = .ok (.goto (-21), 3) := by decide +kernel
theorem dJ1_indexOfChar_4cfef_31 : decode cJ1_indexOfChar_4cfef 31 = .ok (.iconst (-1), 1) := by decide +kernel
theorem dJ1_indexOfChar_4cfef_32 : decode cJ1_indexOfChar_4cfef 32 = .ok (.ireturn, 1) := by decide +kernel
theorem dJ2_getChar_3b067_0 : decode cJ2_getChar_3b067 0 = .ok (.getstatic 44, 3) := by decide +kernel
theorem dJ2_getChar_3b067_3 : decode cJ2_getChar_3b067 3 = .ok (.ifCond .ne 25, 3) := by decide +kernel
theorem dJ2_getChar_3b067_6 : decode cJ2_getChar_3b067 6 = .ok (.iload_n 1, 1) := by decide +kernel
theorem dJ2_getChar_3b067_7 : decode cJ2_getChar_3b067 7 = .ok (.ifCond .lt 11, 3) := by decide +kernel
theorem dJ2_getChar_3b067_10 : decode cJ2_getChar_3b067 10 = .ok (.iload_n 1, 1) := by decide +kernel
theorem dJ2_getChar_3b067_11 : decode cJ2_getChar_3b067 11 = .ok (.aload_n 0, 1) := by decide +kernel
theorem dJ2_getChar_3b067_12 : decode cJ2_getChar_3b067 12 = .ok (.invokestatic 48, 3) := by decide +kernel
theorem dJ2_getChar_3b067_15 : decode cJ2_getChar_3b067 15 = .ok (.if_icmp .lt 13, 3) := by decide +kernel
theorem dJ2_getChar_3b067_18 : decode cJ2_getChar_3b067 18 = .ok (.new 52, 3) := by decide +kernel
theorem dJ2_getChar_3b067_21 : decode cJ2_getChar_3b067 21 = .ok (.dup, 1) := by decide +kernel
theorem dJ2_getChar_3b067_22 : decode cJ2_getChar_3b067 22 = .ok (.ldc 54, 2) := by decide +kernel
theorem dJ2_getChar_3b067_24 : decode cJ2_getChar_3b067 24 = .ok (.invokespecial 56, 3) := by decide +kernel
theorem dJ2_getChar_3b067_27 : decode cJ2_getChar_3b067 27 = .ok (.athrow, 1) := by decide +kernel
theorem dJ2_getChar_3b067_28 : decode cJ2_getChar_3b067 28 = .ok (.iload_n 1, 1) := by decide +kernel
theorem dJ2_getChar_3b067_29 : decode cJ2_getChar_3b067 29 = .ok (.iconst 1, 1) := by decide +kernel
theorem dJ2_getChar_3b067_30 : decode cJ2_getChar_3b067 30 = .ok (.ishl, 1) := by decide +kernel
theorem dJ2_getChar_3b067_31 : decode cJ2_getChar_3b067 31 = .ok (.istore_n 1, 1) := by decide +kernel
theorem dJ2_getChar_3b067_32 : decode cJ2_getChar_3b067 32 = .ok (.aload_n 0, 1) := by decide +kernel
theorem dJ2_getChar_3b067_33 : decode cJ2_getChar_3b067 33 = .ok (.iload_n 1, 1) := by decide +kernel
theorem dJ2_getChar_3b067_34 : decode cJ2_getChar_3b067 34 = .ok (.iinc 1 1, 3) := by decide +kernel
theorem dJ2_getChar_3b067_37 : decode cJ2_getChar_3b067 37 = .ok (.baload, 1) := by decide +kernel
theorem dJ2_getChar_3b067_38 : decode cJ2_getChar_3b067 38 = .ok (.sipush 255, 3) := by decide +kernel
theorem dJ2_getChar_3b067_41 : decode cJ2_getChar_3b067 41 = .ok (.iand, 1) := by decide +kernel
theorem dJ2_getChar_3b067_42 : decode cJ2_getChar_3b067 42 = .ok (.getstatic 59, 3) := by decide +kernel
theorem dJ2_getChar_3b067_45 : decode cJ2_getChar_3b067 45 = .ok (.ishl, 1) := by decide +kernel
theorem dJ2_getChar_3b067_46 : decode cJ2_getChar_3b067 46 = .ok (.aload_n 0, 1) := by decide +kernel
theorem dJ2_getChar_3b067_47 : decode cJ2_getChar_3b067 47 = .ok (.iload_n 1, 1) := by decide +kernel
theorem dJ2_getChar_3b067_48 : decode cJ2_getChar_3b067 48 = .ok (.baload, 1) := by decide +kernel
theorem dJ2_getChar_3b067_49 : decode cJ2_getChar_3b067 49 = .ok (.sipush 255, 3) := by decide +kernel
theorem dJ2_getChar_3b067_52 : decode cJ2_getChar_3b067 52 = .ok (.iand, 1) := by decide +kernel
theorem dJ2_getChar_3b067_53 : decode cJ2_getChar_3b067 53 = .ok (.getstatic 63, 3) := by decide +kernel
theorem dJ2_getChar_3b067_56 : decode cJ2_getChar_3b067 56 = .ok (.ishl, 1) := by decide +kernel
theorem dJ2_getChar_3b067_57 : decode cJ2_getChar_3b067 57 = .ok (.ior, 1) := by decide +kernel
theorem dJ2_getChar_3b067_58 : decode cJ2_getChar_3b067 58 = .ok (.i2c, 1) := by decide +kernel
theorem dJ2_getChar_3b067_59 : decode cJ2_getChar_3b067 59 = .ok (.ireturn, 1) := by decide +kernel
theorem dJ2_length_9d52b_0 : decode cJ2_length_9d52b 0 = .ok (.aload_n 0, 1) := by decide +kernel
theorem dJ2_length_9d52b_1 : decode cJ2_length_9d52b 1 = .ok (.arraylength, 1) := by decide +kernel
theorem dJ2_length_9d52b_2 : decode cJ2_length_9d52b 2 = .ok (.iconst 1, 1) := by decide +kernel
theorem dJ2_length_9d52b_3 : decode cJ2_length_9d52b 3 = .ok (.ishr, 1) := by decide +kernel
theorem dJ2_length_9d52b_4 : decode cJ2_length_9d52b 4 = .ok (.ireturn, 1) := by decide +kernel
theorem dJ2_indexOf_4cfef_0 : decode cJ2_indexOf_4cfef 0 = .ok (.iload_n 2, 1) := by decide +kernel
theorem dJ2_indexOf_4cfef_1 : decode cJ2_indexOf_4cfef 1 = .ok (.iconst 0, 1) := by decide +kernel
theorem dJ2_indexOf_4cfef_2 : decode cJ2_indexOf_4cfef 2 = .ok (.invokestatic 224, 3) := by decide +kernel
theorem dJ2_indexOf_4cfef_5 : decode cJ2_indexOf_4cfef 5 = .ok (.istore_n 2, 1) := by decide +kernel
theorem dJ2_indexOf_4cfef_6 : decode cJ2_indexOf_4cfef 6 = .ok (.iload_n 3, 1) := by decide +kernel
theorem dJ2_indexOf_4cfef_7 : decode cJ2_indexOf_4cfef 7 = .ok (.aload_n 0, 1) := by decide +kernel
theorem dJ2_indexOf_4cfef_8 : decode cJ2_indexOf_4cfef 8 = .ok (.arraylength, 1) := by decide +kernel
theorem dJ2_indexOf_4cfef_9 : decode cJ2_indexOf_4cfef 9 = .ok (.iconst 1, 1) := by decide +kernel
theorem dJ2_indexOf_4cfef_10 : decode cJ2_indexOf_4cfef 10 = .ok (.ishr, 1) := by decide +kernel
theorem dJ2_indexOf_4cfef_11 : decode cJ2_indexOf_4cfef 11 = .ok (.invokestatic 183, 3) := by decide +kernel
theorem dJ2_indexOf_4cfef_14 : decode cJ2_indexOf_4cfef 14 = .ok (.istore_n 3, 1) := by decide +kernel
theorem dJ2_indexOf_4cfef_15 : decode cJ2_indexOf_4cfef 15 = .ok (.iload_n 2, 1) := by decide +kernel
theorem dJ2_indexOf_4cfef_16 : decode cJ2_indexOf_4cfef 16 = .ok (.iload_n 3, 1) := by decide +kernel
theorem dJ2_indexOf_4cfef_17 : decode cJ2_indexOf_4cfef 17 = .ok (.if_icmp .lt 5, 3) := by decide +kernel
theorem dJ2_indexOf_4cfef_20 : decode cJ2_indexOf_4cfef 20 = .ok (.iconst (-1), 1) := by decide +kernel
theorem dJ2_indexOf_4cfef_21 : decode cJ2_indexOf_4cfef 21 = .ok (.ireturn, 1) := by decide +kernel
theorem dJ2_indexOf_4cfef_22 : decode cJ2_indexOf_4cfef 22 = .ok (.iload_n 1, 1) := by decide +kernel
theorem dJ2_indexOf_4cfef_23 : decode cJ2_indexOf_4cfef 23 = .ok (.ldc 227, 2) := by decide +kernel
theorem dJ2_indexOf_4cfef_25 : decode cJ2_indexOf_4cfef 25 = .ok (.if_icmp .ge 11, 3) := by decide +kernel
theorem dJ2_indexOf_4cfef_28 : decode cJ2_indexOf_4cfef 28 = .ok (.aload_n 0, 1) := by decide +kernel
theorem dJ2_indexOf_4cfef_29 : decode cJ2_indexOf_4cfef 29 = .ok (.iload_n 1, 1) := by decide +kernel
theorem dJ2_indexOf_4cfef_30 : decode cJ2_indexOf_4cfef 30 = .ok (.iload_n 2, 1) := by decide +kernel
theorem dJ2_indexOf_4cfef_31 : decode cJ2_indexOf_4cfef 31 = .ok (.iload_n 3, 1) := by decide +kernel
theorem dJ2_indexOf_4cfef_32 : decode cJ2_indexOf_4cfef 32 = .ok (.invokestatic 228, 3) := by decide +kernel
theorem dJ2_indexOf_4cfef_35 : decode cJ2_indexOf_4cfef 35 = .ok (.ireturn, 1) := by decide +kernel
theorem dJ2_indexOf_4cfef_36 : decode cJ2_indexOf_4cfef 36 = .ok (.aload_n 0, 1) := by decide +kernel
theorem dJ2_indexOf_4cfef_37 : decode cJ2_indexOf_4cfef 37 = .ok (.iload_n 1, 1) := by decide +kernel
theorem dJ2_indexOf_4cfef_38 : decode cJ2_indexOf_4cfef 38 = .ok (.iload_n 2, 1) := by decide +kernel
theorem dJ2_indexOf_4cfef_39 : decode cJ2_indexOf_4cfef 39 = .ok (.iload_n 3, 1) := by decide +kernel
theorem dJ2_indexOf_4cfef_40 : decode cJ2_indexOf_4cfef 40 = .ok (.invokestatic 232, 3) := by decide +kernel
theorem dJ2_indexOf_4cfef_43 : decode cJ2_indexOf_4cfef 43 = .ok (.ireturn, 1) := by decide +kernel
theorem dJ2_indexOfChar_4cfef_0 : decode cJ2_indexOfChar_4cfef 0 = .ok (.iload_n 2, 1) := by decide +kernel
theorem dJ2_indexOfChar_4cfef_1 : decode cJ2_indexOfChar_4cfef 1 = .ok (.iload_n 3, 1) := by decide +kernel
theorem dJ2_indexOfChar_4cfef_2 : decode cJ2_indexOfChar_4cfef 2 = .ok (.aload_n 0, 1) := by decide +kernel
theorem dJ2_indexOfChar_4cfef_3 : decode cJ2_indexOfChar_4cfef 3 = .ok (.invokestatic 96, 3) := by decide +kernel
theorem dJ2_indexOfChar_4cfef_6 : decode cJ2_indexOfChar_4cfef 6 = .ok (.aload_n 0, 1) := by decide +kernel
theorem dJ2_indexOfChar_4cfef_7 : decode cJ2_indexOfChar_4cfef 7 = .ok (.iload_n 1, 1) := by decide +kernel
theorem dJ2_indexOfChar_4cfef_8 : decode cJ2_indexOfChar_4cfef 8 = .ok (.iload_n 2, 1) := by decide +kernel
theorem dJ2_indexOfChar_4cfef_9 : decode cJ2_indexOfChar_4cfef 9 = .ok (.iload_n 3, 1) := by decide +kernel
theorem dJ2_indexOfChar_4cfef_10 : decode cJ2_indexOfChar_4cfef 10 = .ok (.invokestatic 244, 3) := by decide +kernel
theorem dJ2_indexOfChar_4cfef_13 : decode cJ2_indexOfChar_4cfef 13 = .ok (.ireturn, 1) := by decide +kernel
theorem dJ2_indexOfCharUnsafe_4cfef_0 : decode cJ2_indexOfCharUnsafe_4cfef 0 = .ok (.iload_n 2, 1) := by decide +kernel
theorem dJ2_indexOfCharUnsafe_4cfef_1 : decode cJ2_indexOfCharUnsafe_4cfef 1 = .ok (.istore 4, 2) := by decide +kernel
theorem dJ2_indexOfCharUnsafe_4cfef_3 : decode cJ2_indexOfCharUnsafe_4cfef 3 = .ok (.iload 4, 2) := by decide +kernel
theorem dJ2_indexOfCharUnsafe_4cfef_5 : decode cJ2_indexOfCharUnsafe_4cfef 5 = .ok (.iload_n 3, 1) := by decide +kernel
theorem dJ2_indexOfCharUnsafe_4cfef_6 : decode cJ2_indexOfCharUnsafe_4cfef 6 = .ok (.if_icmp .ge 22, 3) := by decide +kernel
theorem dJ2_indexOfCharUnsafe_4cfef_9 : decode cJ2_indexOfCharUnsafe_4cfef 9 = .ok (.aload_n 0, 1) := by decide +kernel
theorem dJ2_indexOfCharUnsafe_4cfef_10 : decode cJ2_indexOfCharUnsafe_4cfef 10 = .ok (.iload 4, 2) := by decide +kernel
theorem dJ2_indexOfCharUnsafe_4cfef_12 : decode cJ2_indexOfCharUnsafe_4cfef 12 = .ok (.invokestatic 71, 3) := by decide +kernel
theorem dJ2_indexOfCharUnsafe_4cfef_15 : decode cJ2_indexOfCharUnsafe_4cfef 15 = .ok (.iload_n 1, 1) := by decide +kernel
theorem dJ2_indexOfCharUnsafe_4cfef_16 : decode cJ2_indexOfCharUnsafe_4cfef 16 = .ok (.if_icmp .ne 6, 3) := by decide +kernel
theorem dJ2_indexOfCharUnsafe_4cfef_19 : decode cJ2_indexOfCharUnsafe_4cfef 19 = .ok (.iload 4, 2) := by decide +kernel
theorem dJ2_indexOfCharUnsafe_4cfef_21 : decode cJ2_indexOfCharUnsafe_4cfef 21 = .ok (.ireturn, 1) := by decide +kernel
theorem dJ2_indexOfCharUnsafe_4cfef_22 : decode cJ2_indexOfCharUnsafe_4cfef 22 = .ok (.iinc 4 1, 3) := by decide +kernel
theorem dJ2_indexOfCharUnsafe_4cfef_25 : decode cJ2_indexOfCharUnsafe_4cfef 25 = .ok (.goto (-22), 3) := by decide +kernel
theorem dJ2_indexOfCharUnsafe_4cfef_28 : decode cJ2_indexOfCharUnsafe_4cfef 28 = .ok (.iconst (-1), 1) := by decide +kernel
theorem dJ2_indexOfCharUnsafe_4cfef_29 : decode cJ2_indexOfCharUnsafe_4cfef 29 = .ok (.ireturn, 1) := by decide +kernel
theorem dJ2_indexOfSupplementary_4cfef_0 : decode cJ2_indexOfSupplementary_4cfef 0 = .ok (.iload_n 1, 1) := by decide +kernel
theorem dJ2_indexOfSupplementary_4cfef_1 : decode cJ2_indexOfSupplementary_4cfef 1 = .ok (.invokestatic 164, 3) := by decide +kernel
theorem dJ2_indexOfSupplementary_4cfef_4 : decode cJ2_indexOfSupplementary_4cfef 4 = .ok (.ifCond .eq 65, 3) := by decide +kernel
theorem dJ2_indexOfSupplementary_4cfef_7 : decode cJ2_indexOfSupplementary_4cfef 7 = .ok (.iload_n 1, 1) := by decide +kernel
theorem dJ2_indexOfSupplementary_4cfef_8 : decode cJ2_indexOfSupplementary_4cfef 8 = .ok (.invokestatic 157, 3) := by decide +kernel
theorem dJ2_indexOfSupplementary_4cfef_11 : decode cJ2_indexOfSupplementary_4cfef 11 = .ok (.istore 4, 2) := by decide +kernel
theorem dJ2_indexOfSupplementary_4cfef_13 : decode cJ2_indexOfSupplementary_4cfef 13 = .ok (.iload_n 1, 1) := by decide +kernel
theorem dJ2_indexOfSupplementary_4cfef_14 : decode cJ2_indexOfSupplementary_4cfef 14 = .ok (.invokestatic 161, 3) := by decide +kernel
theorem dJ2_indexOfSupplementary_4cfef_17 : decode cJ2_indexOfSupplementary_4cfef 17 = .ok (.istore 5, 2) := by decide +kernel
theorem dJ2_indexOfSupplementary_4cfef_19 : decode cJ2_indexOfSupplementary_4cfef 19 = .ok (.iload_n 2, 1) := by decide +kernel
theorem dJ2_indexOfSupplementary_4cfef_20 : decode cJ2_indexOfSupplementary_4cfef 20 = .ok (.iload_n 3, 1) := by decide +kernel
theorem dJ2_indexOfSupplementary_4cfef_21 : decode cJ2_indexOfSupplementary_4cfef 21 = .ok (.aload_n 0, 1) := by decide +kernel
theorem dJ2_indexOfSupplementary_4cfef_22 : decode cJ2_indexOfSupplementary_4cfef 22 = .ok (.invokestatic 96, 3) := by decide +kernel
theorem dJ2_indexOfSupplementary_4cfef_25 : decode cJ2_indexOfSupplementary_4cfef 25 = .ok (.iload_n 2, 1) := by decide +kernel
theorem dJ2_indexOfSupplementary_4cfef_26 : decode cJ2_indexOfSupplementary_4cfef 26 = .ok (.istore 6, 2) := by decide +kernel
theorem dJ2_indexOfSupplementary_4cfef_28 : decode cJ2_indexOfSupplementary_4cfef 28 = .ok (.iload 6, 2) := by decide +kernel
theorem dJ2_indexOfSupplementary_4cfef_30 : decode cJ2_indexOfSupplementary_4cfef 30 = .ok (.iload_n 3, 1) := by decide +kernel
theorem dJ2_indexOfSupplementary_4cfef_31 : decode cJ2_indexOfSupplementary_4cfef 31 = .ok (.iconst 1, 1) := by decide +kernel
theorem dJ2_indexOfSupplementary_4cfef_32 : decode cJ2_indexOfSupplementary_4cfef 32 = .ok (.isub, 1) := by decide +kernel
theorem dJ2_indexOfSupplementary_4cfef_33 : decode cJ2_indexOfSupplementary_4cfef 33 = .ok (.if_icmp .ge 36, 3) := by decide +kernel
theorem dJ2_indexOfSupplementary_4cfef_36 : decode cJ2_indexOfSupplementary_4cfef 36 = .ok (.aload_n 0, 1) := by decide +kernel
theorem dJ2_indexOfSupplementary_4cfef_37 : decode cJ2_indexOfSupplementary_4cfef 37 = .ok (.iload 6, 2) := by decide +kernel
theorem dJ2_indexOfSupplementary_4cfef_39 : decode cJ2_indexOfSupplementary_4cfef 39 = .ok (.invokestatic 71, 3) := by decide +kernel
theorem dJ2_indexOfSupplementary_4cfef_42 : decode cJ2_indexOfSupplementary_4cfef 42 = .ok (.iload 4, 2) := by decide +kernel
theorem dJ2_indexOfSupplementary_4cfef_44 : decode cJ2_indexOfSupplementary_4cfef 44 = .ok (.if_icmp .ne 19, 3) := by decide +kernel
theorem dJ2_indexOfSupplementary_4cfef_47 : decode cJ2_indexOfSupplementary_4cfef 47 = .ok (.aload_n 0, 1) := by decide +kernel
theorem dJ2_indexOfSupplementary_4cfef_48 : decode cJ2_indexOfSupplementary_4cfef 48 = .ok (.iload 6, 2) := by decide +kernel
theorem dJ2_indexOfSupplementary_4cfef_50 : decode cJ2_indexOfSupplementary_4cfef 50 = .ok (.iconst 1, 1) := by decide +kernel
theorem dJ2_indexOfSupplementary_4cfef_51 : decode cJ2_indexOfSupplementary_4cfef 51 = .ok (.iadd, 1) := by decide +kernel
theorem dJ2_indexOfSupplementary_4cfef_52 : decode cJ2_indexOfSupplementary_4cfef 52 = .ok (.invokestatic 71, 3) := by decide +kernel
theorem dJ2_indexOfSupplementary_4cfef_55 : decode cJ2_indexOfSupplementary_4cfef 55 = .ok (.iload 5, 2) := by decide +kernel
theorem dJ2_indexOfSupplementary_4cfef_57 : decode cJ2_indexOfSupplementary_4cfef 57 = .ok (.if_icmp .ne 6, 3) := by decide +kernel
theorem dJ2_indexOfSupplementary_4cfef_60 : decode cJ2_indexOfSupplementary_4cfef 60 = .ok (.iload 6, 2) := by decide +kernel
theorem dJ2_indexOfSupplementary_4cfef_62 : decode cJ2_indexOfSupplementary_4cfef 62 = .ok (.ireturn, 1) := by decide +kernel
theorem dJ2_indexOfSupplementary_4cfef_63 : decode cJ2_indexOfSupplementary_4cfef 63 = .ok (.iinc 6 1, 3) := by decide +kernel
theorem dJ2_indexOfSupplementary_4cfef_66 : decode cJ2_indexOfSupplementary_4cfef 66 = .ok (.goto (-38), 3) := by decide +kernel
theorem dJ2_indexOfSupplementary_4cfef_69 : decode cJ2_indexOfSupplementary_4cfef 69 = .ok (.iconst (-1), 1) := by decide +kernel
theorem dJ2_indexOfSupplementary_4cfef_70 : decode cJ2_indexOfSupplementary_4cfef 70 = .ok (.ireturn, 1) := by decide +kernel
theorem dJ2_checkBoundsBeginEnd_d044e_0 : decode cJ2_checkBoundsBeginEnd_d044e 0 = .ok (.iload_n 0, 1) := by decide +kernel
theorem dJ2_checkBoundsBeginEnd_d044e_1 : decode cJ2_checkBoundsBeginEnd_d044e 1 = .ok (.iload_n 1, 1) := by decide +kernel
theorem dJ2_checkBoundsBeginEnd_d044e_2 : decode cJ2_checkBoundsBeginEnd_d044e 2 = .ok (.aload_n 2, 1) := by decide +kernel
theorem dJ2_checkBoundsBeginEnd_d044e_3 : decode cJ2_checkBoundsBeginEnd_d044e 3 = .ok (.invokestatic 48, 3) := by decide +kernel
theorem dJ2_checkBoundsBeginEnd_d044e_6 : decode cJ2_checkBoundsBeginEnd_d044e 6 = .ok (.invokestatic 241, 3) := by decide +kernel
theorem dJ2_checkBoundsBeginEnd_d044e_9 : decode cJ2_checkBoundsBeginEnd_d044e 9 = .ok (.return_, 1) := by decide +kernel
theorem dJxa1e45_init_da8c8_0 : decode cJxa1e45_init_da8c8 0 = .ok (.aload_n 0, 1) := by decide +kernel
theorem dJxa1e45_init_da8c8_1 : decode cJxa1e45_init_da8c8 1 = .ok (.invokespecial 1, 3) := by decide +kernel
theorem dJxa1e45_init_da8c8_4 : decode cJxa1e45_init_da8c8 4 = .ok (.return_, 1) := by decide +kernel
theorem dJxc12de_init_da8c8_0 : decode cJxc12de_init_da8c8 0 = .ok (.aload_n 0, 1) := by decide +kernel
theorem dJxc12de_init_da8c8_1 : decode cJxc12de_init_da8c8 1 = .ok (.invokespecial 1, 3) := by decide +kernel
theorem dJxc12de_init_da8c8_4 : decode cJxc12de_init_da8c8 4 = .ok (.aload_n 0, 1) := by decide +kernel
theorem dJxc12de_init_da8c8_5 : decode cJxc12de_init_da8c8 5 = .ok (.iconst 0, 1) := by decide +kernel
theorem dJxc12de_init_da8c8_6 : decode cJxc12de_init_da8c8 6 = .ok (.putfield 7, 3) := by decide +kernel
theorem dJxc12de_init_da8c8_9 : decode cJxc12de_init_da8c8 9 = .ok (.return_, 1) := by decide +kernel
theorem dJx4a65c_init_da8c8_0 : decode cJx4a65c_init_da8c8 0 = .ok (.aload_n 0, 1) := by decide +kernel
theorem dJx4a65c_init_da8c8_1 : decode cJx4a65c_init_da8c8 1 = .ok (.invokespecial 1, 3) := by decide +kernel
theorem dJx4a65c_init_da8c8_4 : decode cJx4a65c_init_da8c8 4 = .ok (.aload_n 0, 1) := by decide +kernel
theorem dJx4a65c_init_da8c8_5 : decode cJx4a65c_init_da8c8 5 = .ok (.getstatic 39, 3) := by decide +kernel
theorem dJx4a65c_init_da8c8_8 : decode cJx4a65c_init_da8c8 8 = .ok (.putfield 9, 3) := by decide +kernel
theorem dJx4a65c_init_da8c8_11 : decode cJx4a65c_init_da8c8 11 = .ok (.return_, 1) := by decide +kernel
theorem dJx4a65c_grow_92f84_0 : decode cJx4a65c_grow_92f84 0 = .ok (.aload_n 0, 1) := by decide +kernel
theorem dJx4a65c_grow_92f84_1 : decode cJx4a65c_grow_92f84 1 = .ok (.getfield 9, 3) := by decide +kernel
theorem dJx4a65c_grow_92f84_4 : decode cJx4a65c_grow_92f84 4 = .ok (.arraylength, 1) := by decide +kernel
theorem dJx4a65c_grow_92f84_5 : decode cJx4a65c_grow_92f84 5 = .ok (.istore_n 2, 1) := by decide +kernel
theorem dJx4a65c_grow_92f84_6 : decode cJx4a65c_grow_92f84 6 = .ok (.iload_n 2, 1) := by decide +kernel
theorem dJx4a65c_grow_92f84_7 : decode cJx4a65c_grow_92f84 7 = .ok (.ifCond .gt 13, 3) := by decide +kernel
theorem dJx4a65c_grow_92f84_10 : decode cJx4a65c_grow_92f84 10 = .ok (.aload_n 0, 1) := by decide +kernel
theorem dJx4a65c_grow_92f84_11 : decode cJx4a65c_grow_92f84 11 = .ok (.getfield 9, 3) := by decide +kernel
theorem dJx4a65c_grow_92f84_14 : decode cJx4a65c_grow_92f84 14 = .ok (.getstatic 39, 3) := by decide +kernel
theorem dJx4a65c_grow_92f84_17 : decode cJx4a65c_grow_92f84 17 = .ok (.if_acmp .eq 28, 3) := by decide +kernel
theorem dJx4a65c_grow_92f84_20 : decode cJx4a65c_grow_92f84 20 = .ok (.iload_n 2, 1) := by decide +kernel
theorem dJx4a65c_grow_92f84_21 : decode cJx4a65c_grow_92f84 21 = .ok (.iload_n 1, 1) := by decide +kernel
theorem dJx4a65c_grow_92f84_22 : decode cJx4a65c_grow_92f84 22 = .ok (.iload_n 2, 1) := by decide +kernel
theorem dJx4a65c_grow_92f84_23 : decode cJx4a65c_grow_92f84 23 = .ok (.isub, 1) := by decide +kernel
theorem dJx4a65c_grow_92f84_24 : decode cJx4a65c_grow_92f84 24 = .ok (.iload_n 2, 1) := by decide +kernel
theorem dJx4a65c_grow_92f84_25 : decode cJx4a65c_grow_92f84 25 = .ok (.iconst 1, 1) := by decide +kernel
theorem dJx4a65c_grow_92f84_26 : decode cJx4a65c_grow_92f84 26 = .ok (.ishr, 1) := by decide +kernel
theorem dJx4a65c_grow_92f84_27 : decode cJx4a65c_grow_92f84 27 = .ok (.invokestatic 73, 3) := by decide +kernel
theorem dJx4a65c_grow_92f84_30 : decode cJx4a65c_grow_92f84 30 = .ok (.istore_n 3, 1) := by decide +kernel
theorem dJx4a65c_grow_92f84_31 : decode cJx4a65c_grow_92f84 31 = .ok (.aload_n 0, 1) := by decide +kernel
theorem dJx4a65c_grow_92f84_32 : decode cJx4a65c_grow_92f84 32 = .ok (.aload_n 0, 1) := by decide +kernel
theorem dJx4a65c_grow_92f84_33 : decode cJx4a65c_grow_92f84 33 = .ok (.getfield 9, 3) := by decide +kernel
theorem dJx4a65c_grow_92f84_36 : decode cJx4a65c_grow_92f84 36 = .ok (.iload_n 3, 1) := by decide +kernel
theorem dJx4a65c_grow_92f84_37 : decode cJx4a65c_grow_92f84 37 = .ok (.invokestatic 66, 3) := by decide +kernel
theorem dJx4a65c_grow_92f84_40 : decode cJx4a65c_grow_92f84 40 = .ok (.dup_x1, 1) := by decide +kernel
theorem dJx4a65c_grow_92f84_41 : decode cJx4a65c_grow_92f84 41 = .ok (.putfield 9, 3) := by decide +kernel
theorem dJx4a65c_grow_92f84_44 : decode cJx4a65c_grow_92f84 44 = .ok (.areturn, 1) := by decide +kernel
theorem dJx4a65c_grow_92f84_45 : decode cJx4a65c_grow_92f84 45 = .ok (.aload_n 0, 1) := by decide +kernel
theorem dJx4a65c_grow_92f84_46 : decode cJx4a65c_grow_92f84 46 = .ok (.bipush 10, 2) := by decide +kernel
theorem dJx4a65c_grow_92f84_48 : decode cJx4a65c_grow_92f84 48 = .ok (.iload_n 1, 1) := by decide +kernel
theorem dJx4a65c_grow_92f84_49 : decode cJx4a65c_grow_92f84 49 = .ok (.invokestatic 79, 3) := by decide +kernel
theorem dJx4a65c_grow_92f84_52 : decode cJx4a65c_grow_92f84 52 = .ok (.anewarray 7, 3) := by decide +kernel
theorem dJx4a65c_grow_92f84_55 : decode cJx4a65c_grow_92f84 55 = .ok (.dup_x1, 1) := by decide +kernel
theorem dJx4a65c_grow_92f84_56 : decode cJx4a65c_grow_92f84 56 = .ok (.putfield 9, 3) := by decide +kernel
theorem dJx4a65c_grow_92f84_59 : decode cJx4a65c_grow_92f84 59 = .ok (.areturn, 1) := by decide +kernel
theorem dJx4a65c_grow_d5877_0 : decode cJx4a65c_grow_d5877 0 = .ok (.aload_n 0, 1) := by decide +kernel
theorem dJx4a65c_grow_d5877_1 : decode cJx4a65c_grow_d5877 1 = .ok (.aload_n 0, 1) := by decide +kernel
theorem dJx4a65c_grow_d5877_2 : decode cJx4a65c_grow_d5877 2 = .ok (.getfield 48, 3) := by decide +kernel
theorem dJx4a65c_grow_d5877_5 : decode cJx4a65c_grow_d5877 5 = .ok (.iconst 1, 1) := by decide +kernel
theorem dJx4a65c_grow_d5877_6 : decode cJx4a65c_grow_d5877 6 = .ok (.iadd, 1) := by decide +kernel
theorem dJx4a65c_grow_d5877_7 : decode cJx4a65c_grow_d5877 7 = .ok (.invokevirtual 69, 3) := by decide +kernel
theorem dJx4a65c_grow_d5877_10 : decode cJx4a65c_grow_d5877 10 = .ok (.areturn, 1) := by decide +kernel
theorem dJx4a65c_size_8abf5_0 : decode cJx4a65c_size_8abf5 0 = .ok (.aload_n 0, 1) := by decide +kernel
theorem dJx4a65c_size_8abf5_1 : decode cJx4a65c_size_8abf5 1 = .ok (.getfield 48, 3) := by decide +kernel
theorem dJx4a65c_size_8abf5_4 : decode cJx4a65c_size_8abf5 4 = .ok (.ireturn, 1) := by decide +kernel
theorem dJx4a65c_isEmpty_aae02_0 : decode cJx4a65c_isEmpty_aae02 0 = .ok (.aload_n 0, 1) := by decide +kernel
theorem dJx4a65c_isEmpty_aae02_1 : decode cJx4a65c_isEmpty_aae02 1 = .ok (.getfield 48, 3) := by decide +kernel
theorem dJx4a65c_isEmpty_aae02_4 : decode cJx4a65c_isEmpty_aae02 4 = .ok (.ifCond .ne 7, 3) := by decide +kernel
theorem dJx4a65c_isEmpty_aae02_7 : decode cJx4a65c_isEmpty_aae02 7 = .ok (.iconst 1, 1) := by decide +kernel
theorem dJx4a65c_isEmpty_aae02_8 : decode cJx4a65c_isEmpty_aae02 8 = .ok (.goto 4, 3) := by decide +kernel
theorem dJx4a65c_isEmpty_aae02_11 : decode cJx4a65c_isEmpty_aae02 11 = .ok (.iconst 0, 1) := by decide +kernel
theorem dJx4a65c_isEmpty_aae02_12 : decode cJx4a65c_isEmpty_aae02 12 = .ok (.ireturn, 1) := by decide +kernel
theorem dJx4a65c_elementData_915e3_0 : decode cJx4a65c_elementData_915e3 0 = .ok (.aload_n 0, 1) := by decide +kernel
theorem dJx4a65c_elementData_915e3_1 : decode cJx4a65c_elementData_915e3 1 = .ok (.getfield 9, 3) := by decide +kernel
theorem dJx4a65c_elementData_915e3_4 : decode cJx4a65c_elementData_915e3 4 = .ok (.iload_n 1, 1) := by decide +kernel
theorem dJx4a65c_elementData_915e3_5 : decode cJx4a65c_elementData_915e3 5 = .ok (.aaload, 1) := by decide +kernel
theorem dJx4a65c_elementData_915e3_6 : decode cJx4a65c_elementData_915e3 6 = .ok (.areturn, 1) := by decide +kernel
theorem dJx4a65c_get_915e3_0 : decode cJx4a65c_get_915e3 0 = .ok (.iload_n 1, 1) := by decide +kernel
theorem dJx4a65c_get_915e3_1 : decode cJx4a65c_get_915e3 1 = .ok (.aload_n 0, 1) := by decide +kernel
theorem dJx4a65c_get_915e3_2 : decode cJx4a65c_get_915e3 2 = .ok (.getfield 48, 3) := by decide +kernel
theorem dJx4a65c_get_915e3_5 : decode cJx4a65c_get_915e3 5 = .ok (.invokestatic 118, 3) := by decide +kernel
theorem dJx4a65c_get_915e3_8 : decode cJx4a65c_get_915e3 8 = .ok (.pop, 1) := by decide +kernel
theorem dJx4a65c_get_915e3_9 : decode cJx4a65c_get_915e3 9 = .ok (.aload_n 0, 1) := by decide +kernel
theorem dJx4a65c_get_915e3_10 : decode cJx4a65c_get_915e3 10 = .ok (.iload_n 1, 1) := by decide +kernel
theorem dJx4a65c_get_915e3_11 : decode cJx4a65c_get_915e3 11 = .ok (.invokevirtual 123, 3) := by decide +kernel
theorem dJx4a65c_get_915e3_14 : decode cJx4a65c_get_915e3 14 = .ok (.areturn, 1) := by decide +kernel
theorem dJx4a65c_add_72be8_0 : decode cJx4a65c_add_72be8 0 = .ok (.iload_n 3, 1) := by decide +kernel
theorem dJx4a65c_add_72be8_1 : decode cJx4a65c_add_72be8 1 = .ok (.aload_n 2, 1) := by decide +kernel
theorem dJx4a65c_add_72be8_2 : decode cJx4a65c_add_72be8 2 = .ok (.arraylength, 1) := by decide +kernel
theorem dJx4a65c_add_72be8_3 : decode cJx4a65c_add_72be8 3 = .ok (.if_icmp .ne 8, 3) := by decide +kernel
theorem dJx4a65c_add_72be8_6 : decode cJx4a65c_add_72be8 6 = .ok (.aload_n 0, 1) := by decide +kernel
theorem dJx4a65c_add_72be8_7 : decode cJx4a65c_add_72be8 7 = .ok (.invokevirtual 129, 3) := by decide +kernel
theorem dJx4a65c_add_72be8_10 : decode cJx4a65c_add_72be8 10 = .ok (.astore_n 2, 1) := by decide +kernel
theorem dJx4a65c_add_72be8_11 : decode cJx4a65c_add_72be8 11 = .ok (.aload_n 2, 1) := by decide +kernel
theorem dJx4a65c_add_72be8_12 : decode cJx4a65c_add_72be8 12 = .ok (.iload_n 3, 1) := by decide +kernel
theorem dJx4a65c_add_72be8_13 : decode cJx4a65c_add_72be8 13 = .ok (.aload_n 1, 1) := by decide +kernel
theorem dJx4a65c_add_72be8_14 : decode cJx4a65c_add_72be8 14 = .ok (.aastore, 1) := by decide +kernel
theorem dJx4a65c_add_72be8_15 : decode cJx4a65c_add_72be8 15 = .ok (.aload_n 0, 1) := by decide +kernel
theorem dJx4a65c_add_72be8_16 : decode cJx4a65c_add_72be8 16 = .ok (.iload_n 3, 1) := by decide +kernel
theorem dJx4a65c_add_72be8_17 : decode cJx4a65c_add_72be8 17 = .ok (.iconst 1, 1) := by decide +kernel
theorem dJx4a65c_add_72be8_18 : decode cJx4a65c_add_72be8 18 = .ok (.iadd, 1) := by decide +kernel
theorem dJx4a65c_add_72be8_19 : decode cJx4a65c_add_72be8 19 = .ok (.putfield 48, 3) := by decide +kernel
theorem dJx4a65c_add_72be8_22 : decode cJx4a65c_add_72be8 22 = .ok (.return_, 1) := by decide +kernel
theorem dJx4a65c_add_9ea2d_0 : decode cJx4a65c_add_9ea2d 0 = .ok (.aload_n 0, 1) := by decide +kernel
theorem dJx4a65c_add_9ea2d_1 : decode cJx4a65c_add_9ea2d 1 = .ok (.dup, 1) := by decide +kernel
theorem dJx4a65c_add_9ea2d_2 : decode cJx4a65c_add_9ea2d 2 = .ok (.getfield 63, 3) := by decide +kernel
theorem dJx4a65c_add_9ea2d_5 : decode cJx4a65c_add_9ea2d 5 = .ok (.iconst 1, 1) := by decide +kernel
theorem dJx4a65c_add_9ea2d_6 : decode cJx4a65c_add_9ea2d 6 = .ok (.iadd, 1) := by decide +kernel
theorem dJx4a65c_add_9ea2d_7 : decode cJx4a65c_add_9ea2d 7 = .ok (.putfield 63, 3) := by decide +kernel
theorem dJx4a65c_add_9ea2d_10 : decode cJx4a65c_add_9ea2d 10 = .ok (.aload_n 0, 1) := by decide +kernel
theorem dJx4a65c_add_9ea2d_11 : decode cJx4a65c_add_9ea2d 11 = .ok (.aload_n 1, 1) := by decide +kernel
theorem dJx4a65c_add_9ea2d_12 : decode cJx4a65c_add_9ea2d 12 = .ok (.aload_n 0, 1) := by decide +kernel
theorem dJx4a65c_add_9ea2d_13 : decode cJx4a65c_add_9ea2d 13 = .ok (.getfield 9, 3) := by decide +kernel
theorem dJx4a65c_add_9ea2d_16 : decode cJx4a65c_add_9ea2d 16 = .ok (.aload_n 0, 1) := by decide +kernel
theorem dJx4a65c_add_9ea2d_17 : decode cJx4a65c_add_9ea2d 17 = .ok (.getfield 48, 3) := by decide +kernel
theorem dJx4a65c_add_9ea2d_20 : decode cJx4a65c_add_9ea2d 20 = .ok (.invokevirtual 131, 3) := by decide +kernel
theorem dJx4a65c_add_9ea2d_23 : decode cJx4a65c_add_9ea2d 23 = .ok (.iconst 1, 1) := by decide +kernel
theorem dJx4a65c_add_9ea2d_24 : decode cJx4a65c_add_9ea2d 24 = .ok (.ireturn, 1) := by decide +kernel
theorem dJx4a65c_remove_915e3_0 : decode cJx4a65c_remove_915e3 0 = .ok (.iload_n 1, 1) := by decide +kernel
theorem dJx4a65c_remove_915e3_1 : decode cJx4a65c_remove_915e3 1 = .ok (.aload_n 0, 1) := by decide +kernel
theorem dJx4a65c_remove_915e3_2 : decode cJx4a65c_remove_915e3 2 = .ok (.getfield 48, 3) := by decide +kernel
theorem dJx4a65c_remove_915e3_5 : decode cJx4a65c_remove_915e3 5 = .ok (.invokestatic 118, 3) := by decide +kernel
theorem dJx4a65c_remove_915e3_8 : decode cJx4a65c_remove_915e3 8 = .ok (.pop, 1) := by decide +kernel
theorem dJx4a65c_remove_915e3_9 : decode cJx4a65c_remove_915e3 9 = .ok (.aload_n 0, 1) := by decide +kernel
theorem dJx4a65c_remove_915e3_10 : decode cJx4a65c_remove_915e3 10 = .ok (.getfield 9, 3) := by decide +kernel
theorem dJx4a65c_remove_915e3_13 : decode cJx4a65c_remove_915e3 13 = .ok (.astore_n 2, 1) := by decide +kernel
theorem dJx4a65c_remove_915e3_14 : decode cJx4a65c_remove_915e3 14 = .ok (.aload_n 2, 1) := by decide +kernel
theorem dJx4a65c_remove_915e3_15 : decode cJx4a65c_remove_915e3 15 = .ok (.iload_n 1, 1) := by decide +kernel
theorem dJx4a65c_remove_915e3_16 : decode cJx4a65c_remove_915e3 16 = .ok (.aaload, 1) := by decide +kernel
theorem dJx4a65c_remove_915e3_17 : decode cJx4a65c_remove_915e3 17 = .ok (.astore_n 3, 1) := by decide +kernel
theorem dJx4a65c_remove_915e3_18 : decode cJx4a65c_remove_915e3 18 = .ok (.aload_n 0, 1) := by decide +kernel
theorem dJx4a65c_remove_915e3_19 : decode cJx4a65c_remove_915e3 19 = .ok (.aload_n 2, 1) := by decide +kernel
theorem dJx4a65c_remove_915e3_20 : decode cJx4a65c_remove_915e3 20 = .ok (.iload_n 1, 1) := by decide +kernel
theorem dJx4a65c_remove_915e3_21 : decode cJx4a65c_remove_915e3 21 = .ok (.invokevirtual 144, 3) := by decide +kernel
theorem dJx4a65c_remove_915e3_24 : decode cJx4a65c_remove_915e3 24 = .ok (.aload_n 3, 1) := by decide +kernel
theorem dJx4a65c_remove_915e3_25 : decode cJx4a65c_remove_915e3 25 = .ok (.areturn, 1) := by decide +kernel
theorem dJx4a65c_fastRemove_b59b0_0 : decode cJx4a65c_fastRemove_b59b0 0 = .ok (.aload_n 0, 1) := by decide +kernel
theorem dJx4a65c_fastRemove_b59b0_1 : decode cJx4a65c_fastRemove_b59b0 1 = .ok (.dup, 1) := by decide +kernel
theorem dJx4a65c_fastRemove_b59b0_2 : decode cJx4a65c_fastRemove_b59b0 2 = .ok (.getfield 63, 3) := by decide +kernel
theorem dJx4a65c_fastRemove_b59b0_5 : decode cJx4a65c_fastRemove_b59b0 5 = .ok (.iconst 1, 1) := by decide +kernel
theorem dJx4a65c_fastRemove_b59b0_6 : decode cJx4a65c_fastRemove_b59b0 6 = .ok (.iadd, 1) := by decide +kernel
theorem dJx4a65c_fastRemove_b59b0_7 : decode cJx4a65c_fastRemove_b59b0 7 = .ok (.putfield 63, 3) := by decide +kernel
theorem dJx4a65c_fastRemove_b59b0_10 : decode cJx4a65c_fastRemove_b59b0 10 = .ok (.aload_n 0, 1) := by decide +kernel
theorem dJx4a65c_fastRemove_b59b0_11 : decode cJx4a65c_fastRemove_b59b0 11 = .ok (.getfield 48, 3) := by decide +kernel
theorem dJx4a65c_fastRemove_b59b0_14 : decode cJx4a65c_fastRemove_b59b0 14 = .ok (.iconst 1, 1) := by decide +kernel
theorem dJx4a65c_fastRemove_b59b0_15 : decode cJx4a65c_fastRemove_b59b0 15 = .ok (.isub, 1) := by decide +kernel
theorem dJx4a65c_fastRemove_b59b0_16 : decode cJx4a65c_fastRemove_b59b0 16 = .ok (.dup, 1) := by decide +kernel
theorem dJx4a65c_fastRemove_b59b0_17 : decode cJx4a65c_fastRemove_b59b0 17 = .ok (.istore_n 3, 1) := by decide +kernel
theorem dJx4a65c_fastRemove_b59b0_18 : decode cJx4a65c_fastRemove_b59b0 18 = .ok (.iload_n 2, 1) := by decide +kernel
theorem dJx4a65c_fastRemove_b59b0_19 : decode cJx4a65c_fastRemove_b59b0 19 = .ok (.if_icmp .le 15, 3) := by decide +kernel
theorem dJx4a65c_fastRemove_b59b0_22 : decode cJx4a65c_fastRemove_b59b0 22 = .ok (.aload_n 1, 1) := by decide +kernel
theorem dJx4a65c_fastRemove_b59b0_23 : decode cJx4a65c_fastRemove_b59b0 23 = .ok (.iload_n 2, 1) := by decide +kernel
theorem dJx4a65c_fastRemove_b59b0_24 : decode cJx4a65c_fastRemove_b59b0 24 = .ok (.iconst 1, 1) := by decide +kernel
theorem dJx4a65c_fastRemove_b59b0_25 : decode cJx4a65c_fastRemove_b59b0 25 = .ok (.iadd, 1) := by decide +kernel
theorem dJx4a65c_fastRemove_b59b0_26 : decode cJx4a65c_fastRemove_b59b0 26 = .ok (.aload_n 1, 1) := by decide +kernel
theorem dJx4a65c_fastRemove_b59b0_27 : decode cJx4a65c_fastRemove_b59b0 27 = .ok (.iload_n 2, 1) := by decide +kernel
theorem dJx4a65c_fastRemove_b59b0_28 : decode cJx4a65c_fastRemove_b59b0 28 = .ok (.iload_n 3, 1) := by decide +kernel
theorem dJx4a65c_fastRemove_b59b0_29 : decode cJx4a65c_fastRemove_b59b0 29 = .ok (.iload_n 2, 1) := by decide +kernel
theorem dJx4a65c_fastRemove_b59b0_30 : decode cJx4a65c_fastRemove_b59b0 30 = .ok (.isub, 1) := by decide +kernel
theorem dJx4a65c_fastRemove_b59b0_31 : decode cJx4a65c_fastRemove_b59b0 31 = .ok (.invokestatic 112, 3) := by decide +kernel
theorem dJx4a65c_fastRemove_b59b0_34 : decode cJx4a65c_fastRemove_b59b0 34 = .ok (.aload_n 1, 1) := by decide +kernel
theorem dJx4a65c_fastRemove_b59b0_35 : decode cJx4a65c_fastRemove_b59b0 35 = .ok (.aload_n 0, 1) := by decide +kernel
theorem dJx4a65c_fastRemove_b59b0_36 : decode cJx4a65c_fastRemove_b59b0 36 = .ok (.iload_n 3, 1) := by decide +kernel
theorem dJx4a65c_fastRemove_b59b0_37 : decode cJx4a65c_fastRemove_b59b0 37 = .ok (.dup_x1, 1) := by decide +kernel
theorem dJx4a65c_fastRemove_b59b0_38 : decode cJx4a65c_fastRemove_b59b0 38 = .ok (.putfield 48, 3) := by decide +kernel
theorem dJx4a65c_fastRemove_b59b0_41 : decode cJx4a65c_fastRemove_b59b0 41 = .ok (.aconst_null, 1) := by decide +kernel
theorem dJx4a65c_fastRemove_b59b0_42 : decode cJx4a65c_fastRemove_b59b0 42 = .ok (.aastore, 1) := by decide +kernel
theorem dJx4a65c_fastRemove_b59b0_43 : decode cJx4a65c_fastRemove_b59b0 43 = .ok (.return_, 1) := by decide +kernel
theorem dJx4a65c_clear_da8c8_0 : decode cJx4a65c_clear_da8c8 0 = .ok (.aload_n 0, 1) := by decide +kernel
theorem dJx4a65c_clear_da8c8_1 : decode cJx4a65c_clear_da8c8 1 = .ok (.dup, 1) := by decide +kernel
theorem dJx4a65c_clear_da8c8_2 : decode cJx4a65c_clear_da8c8 2 = .ok (.getfield 63, 3) := by decide +kernel
theorem dJx4a65c_clear_da8c8_5 : decode cJx4a65c_clear_da8c8 5 = .ok (.iconst 1, 1) := by decide +kernel
theorem dJx4a65c_clear_da8c8_6 : decode cJx4a65c_clear_da8c8 6 = .ok (.iadd, 1) := by decide +kernel
theorem dJx4a65c_clear_da8c8_7 : decode cJx4a65c_clear_da8c8 7 = .ok (.putfield 63, 3) := by decide +kernel
theorem dJx4a65c_clear_da8c8_10 : decode cJx4a65c_clear_da8c8 10 = .ok (.aload_n 0, 1) := by decide +kernel
theorem dJx4a65c_clear_da8c8_11 : decode cJx4a65c_clear_da8c8 11 = .ok (.getfield 9, 3) := by decide +kernel
theorem dJx4a65c_clear_da8c8_14 : decode cJx4a65c_clear_da8c8 14 = .ok (.astore_n 1, 1) := by decide +kernel
theorem dJx4a65c_clear_da8c8_15 : decode cJx4a65c_clear_da8c8 15 = .ok (.aload_n 0, 1) := by decide +kernel
theorem dJx4a65c_clear_da8c8_16 : decode cJx4a65c_clear_da8c8 16 = .ok (.getfield 48, 3) := by decide +kernel
theorem dJx4a65c_clear_da8c8_19 : decode cJx4a65c_clear_da8c8 19 = .ok (.istore_n 2, 1) := by decide +kernel
theorem dJx4a65c_clear_da8c8_20 : decode cJx4a65c_clear_da8c8 20 = .ok (.aload_n 0, 1) := by decide +kernel
theorem dJx4a65c_clear_da8c8_21 : decode cJx4a65c_clear_da8c8 21 = .ok (.iconst 0, 1) := by decide +kernel
theorem dJx4a65c_clear_da8c8_22 : decode cJx4a65c_clear_da8c8 22 = .ok (.dup_x1, 1) := by decide +kernel
theorem dJx4a65c_clear_da8c8_23 : decode cJx4a65c_clear_da8c8 23 = .ok (.putfield 48, 3) := by decide +kernel
theorem dJx4a65c_clear_da8c8_26 : decode cJx4a65c_clear_da8c8 26 = .ok (.istore_n 3, 1) := by decide +kernel
theorem dJx4a65c_clear_da8c8_27 : decode cJx4a65c_clear_da8c8 27 = .ok (.iload_n 3, 1) := by decide +kernel
theorem dJx4a65c_clear_da8c8_28 : decode cJx4a65c_clear_da8c8 28 = .ok (.iload_n 2, 1) := by decide +kernel
theorem dJx4a65c_clear_da8c8_29 : decode cJx4a65c_clear_da8c8 29 = .ok (.if_icmp .ge 13, 3) := by decide +kernel
theorem dJx4a65c_clear_da8c8_32 : decode cJx4a65c_clear_da8c8 32 = .ok (.aload_n 1, 1) := by decide +kernel
theorem dJx4a65c_clear_da8c8_33 : decode cJx4a65c_clear_da8c8 33 = .ok (.iload_n 3, 1) := by decide +kernel
theorem dJx4a65c_clear_da8c8_34 : decode cJx4a65c_clear_da8c8 34 = .ok (.aconst_null, 1) := by decide +kernel
theorem dJx4a65c_clear_da8c8_35 : decode cJx4a65c_clear_da8c8 35 = .ok (.aastore, 1) := by decide +kernel
theorem dJx4a65c_clear_da8c8_36 : decode cJx4a65c_clear_da8c8 36 = .ok (.iinc 3 1, 3) := by decide +kernel
theorem dJx4a65c_clear_da8c8_39 : decode cJx4a65c_clear_da8c8 39 = .ok (.goto (-12), 3) := by decide +kernel
theorem dJx4a65c_clear_da8c8_42 : decode cJx4a65c_clear_da8c8 42 = .ok (.return_, 1) := by decide +kernel
theorem dJ7_copyOf_1904c_0 : decode cJ7_copyOf_1904c 0 = .ok (.aload_n 0, 1) := by decide +kernel
theorem dJ7_copyOf_1904c_1 : decode cJ7_copyOf_1904c 1 = .ok (.iload_n 1, 1) := by decide +kernel
theorem dJ7_copyOf_1904c_2 : decode cJ7_copyOf_1904c 2 = .ok (.aload_n 0, 1) := by decide +kernel
theorem dJ7_copyOf_1904c_3 : decode cJ7_copyOf_1904c 3 = .ok (.invokevirtual 86, 3) := by decide +kernel
theorem dJ7_copyOf_1904c_6 : decode cJ7_copyOf_1904c 6 = .ok (.invokestatic 300, 3) := by decide +kernel
theorem dJ7_copyOf_1904c_9 : decode cJ7_copyOf_1904c 9 = .ok (.areturn, 1) := by decide +kernel
theorem dJ7_copyOf_6403c_0 : decode cJ7_copyOf_6403c 0 = .ok (.aload_n 2, 1) := by decide +kernel
theorem dJ7_copyOf_6403c_1 : decode cJ7_copyOf_6403c 1 = .ok (.ldc 110, 2) := by decide +kernel
theorem dJ7_copyOf_6403c_3 : decode cJ7_copyOf_6403c 3 = .ok (.if_acmp .ne 10, 3) := by decide +kernel
theorem dJ7_copyOf_6403c_6 : decode cJ7_copyOf_6403c 6 = .ok (.iload_n 1, 1) := by decide +kernel
theorem dJ7_copyOf_6403c_7 : decode cJ7_copyOf_6403c 7 = .ok (.anewarray 2, 3) := by decide +kernel
theorem dJ7_copyOf_6403c_10 : decode cJ7_copyOf_6403c 10 = .ok (.goto 14, 3) := by decide +kernel
theorem dJ7_copyOf_6403c_13 : decode cJ7_copyOf_6403c 13 = .ok (.aload_n 2, 1) := by decide +kernel
theorem dJ7_copyOf_6403c_14 : decode cJ7_copyOf_6403c 14 = .ok (.invokevirtual 90, 3) := by decide +kernel
theorem dJ7_copyOf_6403c_17 : decode cJ7_copyOf_6403c 17 = .ok (.iload_n 1, 1) := by decide +kernel
theorem dJ7_copyOf_6403c_18 : decode cJ7_copyOf_6403c 18 = .ok (.invokestatic 95, 3) := by decide +kernel
theorem dJ7_copyOf_6403c_21 : decode cJ7_copyOf_6403c 21 = .ok (.checkcast 110, 3) := by decide +kernel
theorem dJ7_copyOf_6403c_24 : decode cJ7_copyOf_6403c 24 = .ok (.astore_n 3, 1) := by decide +kernel
theorem dJ7_copyOf_6403c_25 : decode cJ7_copyOf_6403c 25 = .ok (.aload_n 0, 1) := by decide +kernel
theorem dJ7_copyOf_6403c_26 : decode cJ7_copyOf_6403c 26 = .ok (.iconst 0, 1) := by decide +kernel
theorem dJ7_copyOf_6403c_27 : decode cJ7_copyOf_6403c 27 = .ok (.aload_n 3, 1) := by decide +kernel
theorem dJ7_copyOf_6403c_28 : decode cJ7_copyOf_6403c 28 = .ok (.iconst 0, 1) := by decide +kernel
theorem dJ7_copyOf_6403c_29 : decode cJ7_copyOf_6403c 29 = .ok (.aload_n 0, 1) := by decide +kernel
theorem dJ7_copyOf_6403c_30 : decode cJ7_copyOf_6403c 30 = .ok (.arraylength, 1) := by decide +kernel
theorem dJ7_copyOf_6403c_31 : decode cJ7_copyOf_6403c 31 = .ok (.iload_n 1, 1) := by decide +kernel
theorem dJ7_copyOf_6403c_32 : decode cJ7_copyOf_6403c 32 = .ok (.invokestatic 304, 3) := by decide +kernel
theorem dJ7_copyOf_6403c_35 : decode cJ7_copyOf_6403c 35 = .ok (.invokestatic 150, 3) := by decide +kernel
theorem dJ7_copyOf_6403c_38 : decode cJ7_copyOf_6403c 38 = .ok (.aload_n 3, 1) := by decide +kernel
theorem dJ7_copyOf_6403c_39 : decode cJ7_copyOf_6403c 39 = .ok (.areturn, 1) := by decide +kernel
theorem dJ15_checkIndex_7cf53_0 : decode cJ15_checkIndex_7cf53 0 = .ok (.iload_n 0, 1) := by decide +kernel
theorem dJ15_checkIndex_7cf53_1 : decode cJ15_checkIndex_7cf53 1 = .ok (.iload_n 1, 1) := by decide +kernel
theorem dJ15_checkIndex_7cf53_2 : decode cJ15_checkIndex_7cf53 2 = .ok (.aconst_null, 1) := by decide +kernel
theorem dJ15_checkIndex_7cf53_3 : decode cJ15_checkIndex_7cf53 3 = .ok (.invokestatic 105, 3) := by decide +kernel
theorem dJ15_checkIndex_7cf53_6 : decode cJ15_checkIndex_7cf53 6 = .ok (.ireturn, 1) := by decide +kernel
theorem dJ8_newLength_cabcc_0 : decode cJ8_newLength_cabcc 0 = .ok (.iload_n 0, 1) := by decide +kernel
theorem dJ8_newLength_cabcc_1 : decode cJ8_newLength_cabcc 1 = .ok (.iload_n 1, 1) := by decide +kernel
theorem dJ8_newLength_cabcc_2 : decode cJ8_newLength_cabcc 2 = .ok (.iload_n 2, 1) := by decide +kernel
theorem dJ8_newLength_cabcc_3 : decode cJ8_newLength_cabcc 3 = .ok (.invokestatic 194, 3) := by decide +kernel
theorem dJ8_newLength_cabcc_6 : decode cJ8_newLength_cabcc 6 = .ok (.iadd, 1) := by decide +kernel
theorem dJ8_newLength_cabcc_7 : decode cJ8_newLength_cabcc 7 = .ok (.istore_n 3, 1) := by decide +kernel
theorem dJ8_newLength_cabcc_8 : decode cJ8_newLength_cabcc 8 = .ok (.iconst 0, 1) := by decide +kernel
theorem dJ8_newLength_cabcc_9 : decode cJ8_newLength_cabcc 9 = .ok (.iload_n 3, 1) := by decide +kernel
theorem dJ8_newLength_cabcc_10 : decode cJ8_newLength_cabcc 10 = .ok (.if_icmp .ge 11, 3) := by decide +kernel
theorem dJ8_newLength_cabcc_13 : decode cJ8_newLength_cabcc 13 = .ok (.iload_n 3, 1) := by decide +kernel
theorem dJ8_newLength_cabcc_14 : decode cJ8_newLength_cabcc 14 = .ok (.ldc 200, 2) := by decide +kernel
theorem dJ8_newLength_cabcc_16 : decode cJ8_newLength_cabcc 16 = .ok (.if_icmp .gt 5, 3) := by decide +kernel
theorem dJ8_newLength_cabcc_19 : decode cJ8_newLength_cabcc 19 = .ok (.iload_n 3, 1) := by decide +kernel
theorem dJ8_newLength_cabcc_20 : decode cJ8_newLength_cabcc 20 = .ok (.ireturn, 1) := by decide +kernel
theorem dJ8_newLength_cabcc_21 : decode cJ8_newLength_cabcc 21 = .ok (.iload_n 0, 1) := by decide +kernel
theorem dJ8_newLength_cabcc_22 : decode cJ8_newLength_cabcc 22 = .ok (.iload_n 1, 1) := by decide +kernel
theorem dJ8_newLength_cabcc_23 : decode cJ8_newLength_cabcc 23 = .ok (.invokestatic 201, 3) := by decide +kernel
theorem dJ8_newLength_cabcc_26 : decode cJ8_newLength_cabcc 26 = .ok (.ireturn, 1) := by decide +kernel
theorem dJ8_hugeLength_7cf53_0 : decode cJ8_hugeLength_7cf53 0 = .ok (.iload_n 0, 1) := by decide +kernel
theorem dJ8_hugeLength_7cf53_1 : decode cJ8_hugeLength_7cf53 1 = .ok (.iload_n 1, 1) := by decide +kernel
theorem dJ8_hugeLength_7cf53_2 : decode cJ8_hugeLength_7cf53 2 = .ok (.iadd, 1) := by decide +kernel
theorem dJ8_hugeLength_7cf53_3 : decode cJ8_hugeLength_7cf53 3 = .ok (.istore_n 2, 1) := by decide +kernel
theorem dJ8_hugeLength_7cf53_4 : decode cJ8_hugeLength_7cf53 4 = .ok (.iload_n 2, 1) := by decide +kernel
theorem dJ8_hugeLength_7cf53_5 : decode cJ8_hugeLength_7cf53 5 = .ok (.ifCond .ge 44, 3) := by decide +kernel
theorem dJ8_hugeLength_7cf53_8 : decode cJ8_hugeLength_7cf53 8 = .ok (.new 204, 3) := by decide +kernel
theorem dJ8_hugeLength_7cf53_11 : decode cJ8_hugeLength_7cf53 11 = .ok (.dup, 1) := by decide +kernel
theorem dJ8_hugeLength_7cf53_12 : decode cJ8_hugeLength_7cf53 12 = .ok (.new 89, 3) := by decide +kernel
theorem dJ8_hugeLength_7cf53_15 : decode cJ8_hugeLength_7cf53 15 = .ok (.dup, 1) := by decide +kernel
theorem dJ8_hugeLength_7cf53_16 : decode cJ8_hugeLength_7cf53 16 = .ok (.invokespecial 91, 3) := by decide +kernel
theorem dJ8_hugeLength_7cf53_19 : decode cJ8_hugeLength_7cf53 19 = .ok (.ldc 206, 2) := by decide +kernel
theorem dJ8_hugeLength_7cf53_21 : decode cJ8_hugeLength_7cf53 21 = .ok (.invokevirtual 94, 3) := by decide +kernel
theorem dJ8_hugeLength_7cf53_24 : decode cJ8_hugeLength_7cf53 24 = .ok (.iload_n 0, 1) := by decide +kernel
theorem dJ8_hugeLength_7cf53_25 : decode cJ8_hugeLength_7cf53 25 = .ok (.invokevirtual 98, 3) := by decide +kernel
theorem dJ8_hugeLength_7cf53_28 : decode cJ8_hugeLength_7cf53 28 = .ok (.ldc 208, 2) := by decide +kernel
theorem dJ8_hugeLength_7cf53_30 : decode cJ8_hugeLength_7cf53 30 = .ok (.invokevirtual 94, 3) := by decide +kernel
theorem dJ8_hugeLength_7cf53_33 : decode cJ8_hugeLength_7cf53 33 = .ok (.iload_n 1, 1) := by decide +kernel
theorem dJ8_hugeLength_7cf53_34 : decode cJ8_hugeLength_7cf53 34 = .ok (.invokevirtual 98, 3) := by decide +kernel
theorem dJ8_hugeLength_7cf53_37 : decode cJ8_hugeLength_7cf53 37 = .ok (.ldc 210, 2) := by decide +kernel
theorem dJ8_hugeLength_7cf53_39 : decode cJ8_hugeLength_7cf53 39 = .ok (.invokevirtual 94, 3) := by decide +kernel
theorem dJ8_hugeLength_7cf53_42 : decode cJ8_hugeLength_7cf53 42 = .ok (.invokevirtual 101, 3) := by decide +kernel
theorem dJ8_hugeLength_7cf53_45 : decode cJ8_hugeLength_7cf53 45 = .ok (.invokespecial 212, 3) := by decide +kernel
theorem dJ8_hugeLength_7cf53_48 : decode cJ8_hugeLength_7cf53 48 = .ok (.athrow, 1) := by decide +kernel
theorem dJ8_hugeLength_7cf53_49 : decode cJ8_hugeLength_7cf53 49 = .ok (.iload_n 2, 1) := by decide +kernel
theorem dJ8_hugeLength_7cf53_50 : decode cJ8_hugeLength_7cf53 50 = .ok (.ldc 200, 2) := by decide +kernel
theorem dJ8_hugeLength_7cf53_52 : decode cJ8_hugeLength_7cf53 52 = .ok (.if_icmp .gt 6, 3) := by decide +kernel
theorem dJ8_hugeLength_7cf53_55 : decode cJ8_hugeLength_7cf53 55 = .ok (.ldc 200, 2) := by decide +kernel
theorem dJ8_hugeLength_7cf53_57 : decode cJ8_hugeLength_7cf53 57 = .ok (.ireturn, 1) := by decide +kernel
theorem dJ8_hugeLength_7cf53_58 : decode cJ8_hugeLength_7cf53 58 = .ok (.iload_n 2, 1) := by decide +kernel
theorem dJ8_hugeLength_7cf53_59 : decode cJ8_hugeLength_7cf53 59 = .ok (.ireturn, 1) := by decide +kernel
theorem dJ3_checkIndex_8e157_0 : decode cJ3_checkIndex_8e157 0 = .ok (.iload_n 0, 1) := by decide +kernel
theorem dJ3_checkIndex_8e157_1 : decode cJ3_checkIndex_8e157 1 = .ok (.ifCond .lt 8, 3) := by decide +kernel
theorem dJ3_checkIndex_8e157_4 : decode cJ3_checkIndex_8e157 4 = .ok (.iload_n 0, 1) := by decide +kernel
theorem dJ3_checkIndex_8e157_5 : decode cJ3_checkIndex_8e157 5 = .ok (.iload_n 1, 1) := by decide +kernel
theorem dJ3_checkIndex_8e157_6 : decode cJ3_checkIndex_8e157 6 = .ok (.if_icmp .lt 10, 3) := by decide +kernel
theorem dJ3_checkIndex_8e157_9 : decode cJ3_checkIndex_8e157 9 = .ok (.aload_n 2, 1) := by decide +kernel
theorem dJ3_checkIndex_8e157_10 : decode cJ3_checkIndex_8e157 10 = .ok (.iload_n 0, 1) := by decide +kernel
theorem dJ3_checkIndex_8e157_11 : decode cJ3_checkIndex_8e157 11 = .ok (.iload_n 1, 1) := by decide +kernel
theorem dJ3_checkIndex_8e157_12 : decode cJ3_checkIndex_8e157 12 = .ok (.invokestatic 95, 3) := by decide +kernel
theorem dJ3_checkIndex_8e157_15 : decode cJ3_checkIndex_8e157 15 = .ok (.athrow, 1) := by decide +kernel
theorem dJ3_checkIndex_8e157_16 : decode cJ3_checkIndex_8e157 16 = .ok (.iload_n 0, 1) := by decide +kernel
theorem dJ3_checkIndex_8e157_17 : decode cJ3_checkIndex_8e157 17 = .ok (.ireturn, 1) := by decide +kernel
theorem dJ3_checkFromToIndex_8c36e_0 : decode cJ3_checkFromToIndex_8c36e 0 = .ok (.iload_n 0, 1) := by decide +kernel
theorem dJ3_checkFromToIndex_8c36e_1 : decode cJ3_checkFromToIndex_8c36e 1 = .ok (.ifCond .lt 13, 3) := by decide +kernel
theorem dJ3_checkFromToIndex_8c36e_4 : decode cJ3_checkFromToIndex_8c36e 4 = .ok (.iload_n 0, 1) := by decide +kernel
theorem dJ3_checkFromToIndex_8c36e_5 : decode cJ3_checkFromToIndex_8c36e 5 = .ok (.iload_n 1, 1) := by decide +kernel
theorem dJ3_checkFromToIndex_8c36e_6 : decode cJ3_checkFromToIndex_8c36e 6 = .ok (.if_icmp .gt 8, 3) := by decide +kernel
theorem dJ3_checkFromToIndex_8c36e_9 : decode cJ3_checkFromToIndex_8c36e 9 = .ok (.iload_n 1, 1) := by decide +kernel
theorem dJ3_checkFromToIndex_8c36e_10 : decode cJ3_checkFromToIndex_8c36e 10 = .ok (.iload_n 2, 1) := by decide +kernel
theorem dJ3_checkFromToIndex_8c36e_11 : decode cJ3_checkFromToIndex_8c36e 11 = .ok (.if_icmp .le 11, 3) := by decide +kernel
theorem dJ3_checkFromToIndex_8c36e_14 : decode cJ3_checkFromToIndex_8c36e 14 = .ok (.aload_n 3, 1) := by decide +kernel
theorem dJ3_checkFromToIndex_8c36e_15 : decode cJ3_checkFromToIndex_8c36e 15 = .ok (.iload_n 0, 1) := by decide +kernel
theorem dJ3_checkFromToIndex_8c36e_16 : decode cJ3_checkFromToIndex_8c36e 16 = .ok (.iload_n 1, 1) := by decide +kernel
theorem dJ3_checkFromToIndex_8c36e_17 : decode cJ3_checkFromToIndex_8c36e 17 = .ok (.iload_n 2, 1) := by decide +kernel
theorem dJ3_checkFromToIndex_8c36e_18 : decode cJ3_checkFromToIndex_8c36e 18 = .ok (.invokestatic 99, 3) := by decide +kernel
theorem dJ3_checkFromToIndex_8c36e_21 : decode cJ3_checkFromToIndex_8c36e 21 = .ok (.athrow, 1) := by decide +kernel
theorem dJ3_checkFromToIndex_8c36e_22 : decode cJ3_checkFromToIndex_8c36e 22 = .ok (.iload_n 0, 1) := by decide +kernel
theorem dJ3_checkFromToIndex_8c36e_23 : decode cJ3_checkFromToIndex_8c36e 23 = .ok (.ireturn, 1) := by decide +kernel
theorem dL_law_0 : decode cL_law 0 = .ok (.new 7, 3) := by decide +kernel
theorem dL_law_3 : decode cL_law 3 = .ok (.dup, 1) := by decide +kernel
theorem dL_law_4 : decode cL_law 4 = .ok (.invokespecial 9, 3) := by decide +kernel
theorem dL_law_7 : decode cL_law 7 = .ok (.astore_n 1, 1) := by decide +kernel
theorem dL_law_8 : decode cL_law 8 = .ok (.new 10, 3) := by decide +kernel
theorem dL_law_11 : decode cL_law 11 = .ok (.dup, 1) := by decide +kernel
theorem dL_law_12 : decode cL_law 12 = .ok (.invokespecial 12, 3) := by decide +kernel
theorem dL_law_15 : decode cL_law 15 = .ok (.astore_n 2, 1) := by decide +kernel
theorem dL_law_16 : decode cL_law 16 = .ok (.iconst 0, 1) := by decide +kernel
theorem dL_law_17 : decode cL_law 17 = .ok (.istore_n 3, 1) := by decide +kernel
theorem dL_law_18 : decode cL_law 18 = .ok (.iload_n 3, 1) := by decide +kernel
theorem dL_law_19 : decode cL_law 19 = .ok (.aload_n 0, 1) := by decide +kernel
theorem dL_law_20 : decode cL_law 20 = .ok (.arraylength, 1) := by decide +kernel
theorem dL_law_21 : decode cL_law 21 = .ok (.iconst 5, 1) := by decide +kernel
theorem dL_law_22 : decode cL_law 22 = .ok (.isub, 1) := by decide +kernel
theorem dL_law_23 : decode cL_law 23 = .ok (.if_icmp .gt 946, 3) := by decide +kernel
theorem dL_law_26 : decode cL_law 26 = .ok (.aload_n 0, 1) := by decide +kernel
theorem dL_law_27 : decode cL_law 27 = .ok (.iload_n 3, 1) := by decide +kernel
theorem dL_law_28 : decode cL_law 28 = .ok (.iaload, 1) := by decide +kernel
theorem dL_law_29 : decode cL_law 29 = .ok (.bipush 31, 2) := by decide +kernel
theorem dL_law_31 : decode cL_law 31 = .ok (.iand, 1) := by decide +kernel
theorem dL_law_32 : decode cL_law 32 = .ok (.tableswitch 931 0 24 #[116, 149, 182, 215, 268, 321, 354, 367, 380, 433, 466, 489, 532, 575, 598, 621, 654, 687, 720, 753, 796, 829, 852, 885, 908], 116) := by decide +kernel
theorem dL_law_148 : decode cL_law 148 = .ok (.aload_n 1, 1) := by decide +kernel
theorem dL_law_149 : decode cL_law 149 = .ok (.aload_n 0, 1) := by decide +kernel
theorem dL_law_150 : decode cL_law 150 = .ok (.iload_n 3, 1) := by decide +kernel
theorem dL_law_151 : decode cL_law 151 = .ok (.iconst 1, 1) := by decide +kernel
theorem dL_law_152 : decode cL_law 152 = .ok (.iadd, 1) := by decide +kernel
theorem dL_law_153 : decode cL_law 153 = .ok (.iaload, 1) := by decide +kernel
theorem dL_law_154 : decode cL_law 154 = .ok (.aload_n 0, 1) := by decide +kernel
theorem dL_law_155 : decode cL_law 155 = .ok (.iload_n 3, 1) := by decide +kernel
theorem dL_law_156 : decode cL_law 156 = .ok (.iconst 2, 1) := by decide +kernel
theorem dL_law_157 : decode cL_law 157 = .ok (.iadd, 1) := by decide +kernel
theorem dL_law_158 : decode cL_law 158 = .ok (.iaload, 1) := by decide +kernel
theorem dL_law_159 : decode cL_law 159 = .ok (.invokevirtual 13, 3) := by decide +kernel
theorem dL_law_162 : decode cL_law 162 = .ok (.aload_n 2, 1) := by decide +kernel
theorem dL_law_163 : decode cL_law 163 = .ok (.aload_n 0, 1) := by decide +kernel
theorem dL_law_164 : decode cL_law 164 = .ok (.iload_n 3, 1) := by decide +kernel
theorem dL_law_165 : decode cL_law 165 = .ok (.iconst 1, 1) := by decide +kernel
theorem dL_law_166 : decode cL_law 166 = .ok (.iadd, 1) := by decide +kernel
theorem dL_law_167 : decode cL_law 167 = .ok (.iaload, 1) := by decide +kernel
theorem dL_law_168 : decode cL_law 168 = .ok (.aload_n 0, 1) := by decide +kernel
theorem dL_law_169 : decode cL_law 169 = .ok (.iload_n 3, 1) := by decide +kernel
theorem dL_law_170 : decode cL_law 170 = .ok (.iconst 2, 1) := by decide +kernel
theorem dL_law_171 : decode cL_law 171 = .ok (.iadd, 1) := by decide +kernel
theorem dL_law_172 : decode cL_law 172 = .ok (.iaload, 1) := by decide +kernel
theorem dL_law_173 : decode cL_law 173 = .ok (.invokevirtual 17, 3) := by decide +kernel
theorem dL_law_176 : decode cL_law 176 = .ok (.if_icmp .eq 787, 3) := by decide +kernel
theorem dL_law_179 : decode cL_law 179 = .ok (.iconst 0, 1) := by decide +kernel
theorem dL_law_180 : decode cL_law 180 = .ok (.ireturn, 1) := by decide +kernel
theorem dL_law_181 : decode cL_law 181 = .ok (.aload_n 1, 1) := by decide +kernel
theorem dL_law_182 : decode cL_law 182 = .ok (.aload_n 0, 1) := by decide +kernel
theorem dL_law_183 : decode cL_law 183 = .ok (.iload_n 3, 1) := by decide +kernel
theorem dL_law_184 : decode cL_law 184 = .ok (.iconst 1, 1) := by decide +kernel
theorem dL_law_185 : decode cL_law 185 = .ok (.iadd, 1) := by decide +kernel
theorem dL_law_186 : decode cL_law 186 = .ok (.iaload, 1) := by decide +kernel
theorem dL_law_187 : decode cL_law 187 = .ok (.aload_n 0, 1) := by decide +kernel
theorem dL_law_188 : decode cL_law 188 = .ok (.iload_n 3, 1) := by decide +kernel
theorem dL_law_189 : decode cL_law 189 = .ok (.iconst 2, 1) := by decide +kernel
theorem dL_law_190 : decode cL_law 190 = .ok (.iadd, 1) := by decide +kernel
theorem dL_law_191 : decode cL_law 191 = .ok (.iaload, 1) := by decide +kernel
theorem dL_law_192 : decode cL_law 192 = .ok (.invokevirtual 18, 3) := by decide +kernel
theorem dL_law_195 : decode cL_law 195 = .ok (.aload_n 2, 1) := by decide +kernel
theorem dL_law_196 : decode cL_law 196 = .ok (.aload_n 0, 1) := by decide +kernel
theorem dL_law_197 : decode cL_law 197 = .ok (.iload_n 3, 1) := by decide +kernel
theorem dL_law_198 : decode cL_law 198 = .ok (.iconst 1, 1) := by decide +kernel
theorem dL_law_199 : decode cL_law 199 = .ok (.iadd, 1) := by decide +kernel
theorem dL_law_200 : decode cL_law 200 = .ok (.iaload, 1) := by decide +kernel
theorem dL_law_201 : decode cL_law 201 = .ok (.aload_n 0, 1) := by decide +kernel
theorem dL_law_202 : decode cL_law 202 = .ok (.iload_n 3, 1) := by decide +kernel
theorem dL_law_203 : decode cL_law 203 = .ok (.iconst 2, 1) := by decide +kernel
theorem dL_law_204 : decode cL_law 204 = .ok (.iadd, 1) := by decide +kernel
theorem dL_law_205 : decode cL_law 205 = .ok (.iaload, 1) := by decide +kernel
theorem dL_law_206 : decode cL_law 206 = .ok (.invokevirtual 21, 3) := by decide +kernel
theorem dL_law_209 : decode cL_law 209 = .ok (.if_icmp .eq 754, 3) := by decide +kernel
theorem dL_law_212 : decode cL_law 212 = .ok (.iconst 0, 1) := by decide +kernel
theorem dL_law_213 : decode cL_law 213 = .ok (.ireturn, 1) := by decide +kernel
theorem dL_law_214 : decode cL_law 214 = .ok (.aload_n 1, 1) := by decide +kernel
theorem dL_law_215 : decode cL_law 215 = .ok (.aload_n 0, 1) := by decide +kernel
theorem dL_law_216 : decode cL_law 216 = .ok (.iload_n 3, 1) := by decide +kernel
theorem dL_law_217 : decode cL_law 217 = .ok (.iconst 1, 1) := by decide +kernel
theorem dL_law_218 : decode cL_law 218 = .ok (.iadd, 1) := by decide +kernel
theorem dL_law_219 : decode cL_law 219 = .ok (.iaload, 1) := by decide +kernel
theorem dL_law_220 : decode cL_law 220 = .ok (.aload_n 0, 1) := by decide +kernel
theorem dL_law_221 : decode cL_law 221 = .ok (.iload_n 3, 1) := by decide +kernel
theorem dL_law_222 : decode cL_law 222 = .ok (.iconst 2, 1) := by decide +kernel
theorem dL_law_223 : decode cL_law 223 = .ok (.iadd, 1) := by decide +kernel
theorem dL_law_224 : decode cL_law 224 = .ok (.iaload, 1) := by decide +kernel
theorem dL_law_225 : decode cL_law 225 = .ok (.invokevirtual 22, 3) := by decide +kernel
theorem dL_law_228 : decode cL_law 228 = .ok (.aload_n 2, 1) := by decide +kernel
theorem dL_law_229 : decode cL_law 229 = .ok (.aload_n 0, 1) := by decide +kernel
theorem dL_law_230 : decode cL_law 230 = .ok (.iload_n 3, 1) := by decide +kernel
theorem dL_law_231 : decode cL_law 231 = .ok (.iconst 1, 1) := by decide +kernel
theorem dL_law_232 : decode cL_law 232 = .ok (.iadd, 1) := by decide +kernel
theorem dL_law_233 : decode cL_law 233 = .ok (.iaload, 1) := by decide +kernel
theorem dL_law_234 : decode cL_law 234 = .ok (.aload_n 0, 1) := by decide +kernel
theorem dL_law_235 : decode cL_law 235 = .ok (.iload_n 3, 1) := by decide +kernel
theorem dL_law_236 : decode cL_law 236 = .ok (.iconst 2, 1) := by decide +kernel
theorem dL_law_237 : decode cL_law 237 = .ok (.iadd, 1) := by decide +kernel
theorem dL_law_238 : decode cL_law 238 = .ok (.iaload, 1) := by decide +kernel
theorem dL_law_239 : decode cL_law 239 = .ok (.invokevirtual 25, 3) := by decide +kernel
theorem dL_law_242 : decode cL_law 242 = .ok (.if_icmp .eq 721, 3) := by decide +kernel
theorem dL_law_245 : decode cL_law 245 = .ok (.iconst 0, 1) := by decide +kernel
theorem dL_law_246 : decode cL_law 246 = .ok (.ireturn, 1) := by decide +kernel
theorem dL_law_247 : decode cL_law 247 = .ok (.aload_n 1, 1) := by decide +kernel
theorem dL_law_248 : decode cL_law 248 = .ok (.aload_n 0, 1) := by decide +kernel
theorem dL_law_249 : decode cL_law 249 = .ok (.iload_n 3, 1) := by decide +kernel
theorem dL_law_250 : decode cL_law 250 = .ok (.iconst 1, 1) := by decide +kernel
theorem dL_law_251 : decode cL_law 251 = .ok (.iadd, 1) := by decide +kernel
theorem dL_law_252 : decode cL_law 252 = .ok (.iaload, 1) := by decide +kernel
theorem dL_law_253 : decode cL_law 253 = .ok (.aload_n 0, 1) := by decide +kernel
theorem dL_law_254 : decode cL_law 254 = .ok (.iload_n 3, 1) := by decide +kernel
theorem dL_law_255 : decode cL_law 255 = .ok (.iconst 2, 1) := by decide +kernel
theorem dL_law_256 : decode cL_law 256 = .ok (.iadd, 1) := by decide +kernel
theorem dL_law_257 : decode cL_law 257 = .ok (.iaload, 1) := by decide +kernel
theorem dL_law_258 : decode cL_law 258 = .ok (.aload_n 0, 1) := by decide +kernel
theorem dL_law_259 : decode cL_law 259 = .ok (.iload_n 3, 1) := by decide +kernel
theorem dL_law_260 : decode cL_law 260 = .ok (.iconst 3, 1) := by decide +kernel
theorem dL_law_261 : decode cL_law 261 = .ok (.iadd, 1) := by decide +kernel
theorem dL_law_262 : decode cL_law 262 = .ok (.iaload, 1) := by decide +kernel
theorem dL_law_263 : decode cL_law 263 = .ok (.aload_n 0, 1) := by decide +kernel
theorem dL_law_264 : decode cL_law 264 = .ok (.iload_n 3, 1) := by decide +kernel
theorem dL_law_265 : decode cL_law 265 = .ok (.iconst 4, 1) := by decide +kernel
theorem dL_law_266 : decode cL_law 266 = .ok (.iadd, 1) := by decide +kernel
theorem dL_law_267 : decode cL_law 267 = .ok (.iaload, 1) := by decide +kernel
theorem dL_law_268 : decode cL_law 268 = .ok (.invokevirtual 26, 3) := by decide +kernel
theorem dL_law_271 : decode cL_law 271 = .ok (.aload_n 2, 1) := by decide +kernel
theorem dL_law_272 : decode cL_law 272 = .ok (.aload_n 0, 1) := by decide +kernel
theorem dL_law_273 : decode cL_law 273 = .ok (.iload_n 3, 1) := by decide +kernel
theorem dL_law_274 : decode cL_law 274 = .ok (.iconst 1, 1) := by decide +kernel
theorem dL_law_275 : decode cL_law 275 = .ok (.iadd, 1) := by decide +kernel
theorem dL_law_276 : decode cL_law 276 = .ok (.iaload, 1) := by decide +kernel
theorem dL_law_277 : decode cL_law 277 = .ok (.aload_n 0, 1) := by decide +kernel
theorem dL_law_278 : decode cL_law 278 = .ok (.iload_n 3, 1) := by decide +kernel
theorem dL_law_279 : decode cL_law 279 = .ok (.iconst 2, 1) := by decide +kernel
theorem dL_law_280 : decode cL_law 280 = .ok (.iadd, 1) := by decide +kernel
theorem dL_law_281 : decode cL_law 281 = .ok (.iaload, 1) := by decide +kernel
theorem dL_law_282 : decode cL_law 282 = .ok (.aload_n 0, 1) := by decide +kernel
theorem dL_law_283 : decode cL_law 283 = .ok (.iload_n 3, 1) := by decide +kernel
theorem dL_law_284 : decode cL_law 284 = .ok (.iconst 3, 1) := by decide +kernel
theorem dL_law_285 : decode cL_law 285 = .ok (.iadd, 1) := by decide +kernel
theorem dL_law_286 : decode cL_law 286 = .ok (.iaload, 1) := by decide +kernel
theorem dL_law_287 : decode cL_law 287 = .ok (.aload_n 0, 1) := by decide +kernel
theorem dL_law_288 : decode cL_law 288 = .ok (.iload_n 3, 1) := by decide +kernel
theorem dL_law_289 : decode cL_law 289 = .ok (.iconst 4, 1) := by decide +kernel
theorem dL_law_290 : decode cL_law 290 = .ok (.iadd, 1) := by decide +kernel
theorem dL_law_291 : decode cL_law 291 = .ok (.iaload, 1) := by decide +kernel
theorem dL_law_292 : decode cL_law 292 = .ok (.invokevirtual 30, 3) := by decide +kernel
theorem dL_law_295 : decode cL_law 295 = .ok (.if_icmp .eq 668, 3) := by decide +kernel
theorem dL_law_298 : decode cL_law 298 = .ok (.iconst 0, 1) := by decide +kernel
theorem dL_law_299 : decode cL_law 299 = .ok (.ireturn, 1) := by decide +kernel
theorem dL_law_300 : decode cL_law 300 = .ok (.aload_n 1, 1) := by decide +kernel
theorem dL_law_301 : decode cL_law 301 = .ok (.aload_n 0, 1) := by decide +kernel
theorem dL_law_302 : decode cL_law 302 = .ok (.iload_n 3, 1) := by decide +kernel
theorem dL_law_303 : decode cL_law 303 = .ok (.iconst 1, 1) := by decide +kernel
theorem dL_law_304 : decode cL_law 304 = .ok (.iadd, 1) := by decide +kernel
theorem dL_law_305 : decode cL_law 305 = .ok (.iaload, 1) := by decide +kernel
theorem dL_law_306 : decode cL_law 306 = .ok (.aload_n 0, 1) := by decide +kernel
theorem dL_law_307 : decode cL_law 307 = .ok (.iload_n 3, 1) := by decide +kernel
theorem dL_law_308 : decode cL_law 308 = .ok (.iconst 2, 1) := by decide +kernel
theorem dL_law_309 : decode cL_law 309 = .ok (.iadd, 1) := by decide +kernel
theorem dL_law_310 : decode cL_law 310 = .ok (.iaload, 1) := by decide +kernel
theorem dL_law_311 : decode cL_law 311 = .ok (.aload_n 0, 1) := by decide +kernel
theorem dL_law_312 : decode cL_law 312 = .ok (.iload_n 3, 1) := by decide +kernel
theorem dL_law_313 : decode cL_law 313 = .ok (.iconst 3, 1) := by decide +kernel
theorem dL_law_314 : decode cL_law 314 = .ok (.iadd, 1) := by decide +kernel
theorem dL_law_315 : decode cL_law 315 = .ok (.iaload, 1) := by decide +kernel
theorem dL_law_316 : decode cL_law 316 = .ok (.aload_n 0, 1) := by decide +kernel
theorem dL_law_317 : decode cL_law 317 = .ok (.iload_n 3, 1) := by decide +kernel
theorem dL_law_318 : decode cL_law 318 = .ok (.iconst 4, 1) := by decide +kernel
theorem dL_law_319 : decode cL_law 319 = .ok (.iadd, 1) := by decide +kernel
theorem dL_law_320 : decode cL_law 320 = .ok (.iaload, 1) := by decide +kernel
theorem dL_law_321 : decode cL_law 321 = .ok (.invokevirtual 31, 3) := by decide +kernel
theorem dL_law_324 : decode cL_law 324 = .ok (.aload_n 2, 1) := by decide +kernel
theorem dL_law_325 : decode cL_law 325 = .ok (.aload_n 0, 1) := by decide +kernel
theorem dL_law_326 : decode cL_law 326 = .ok (.iload_n 3, 1) := by decide +kernel
theorem dL_law_327 : decode cL_law 327 = .ok (.iconst 1, 1) := by decide +kernel
theorem dL_law_328 : decode cL_law 328 = .ok (.iadd, 1) := by decide +kernel
theorem dL_law_329 : decode cL_law 329 = .ok (.iaload, 1) := by decide +kernel
theorem dL_law_330 : decode cL_law 330 = .ok (.aload_n 0, 1) := by decide +kernel
theorem dL_law_331 : decode cL_law 331 = .ok (.iload_n 3, 1) := by decide +kernel
theorem dL_law_332 : decode cL_law 332 = .ok (.iconst 2, 1) := by decide +kernel
theorem dL_law_333 : decode cL_law 333 = .ok (.iadd, 1) := by decide +kernel
theorem dL_law_334 : decode cL_law 334 = .ok (.iaload, 1) := by decide +kernel
theorem dL_law_335 : decode cL_law 335 = .ok (.aload_n 0, 1) := by decide +kernel
theorem dL_law_336 : decode cL_law 336 = .ok (.iload_n 3, 1) := by decide +kernel
theorem dL_law_337 : decode cL_law 337 = .ok (.iconst 3, 1) := by decide +kernel
theorem dL_law_338 : decode cL_law 338 = .ok (.iadd, 1) := by decide +kernel
theorem dL_law_339 : decode cL_law 339 = .ok (.iaload, 1) := by decide +kernel
theorem dL_law_340 : decode cL_law 340 = .ok (.aload_n 0, 1) := by decide +kernel
theorem dL_law_341 : decode cL_law 341 = .ok (.iload_n 3, 1) := by decide +kernel
theorem dL_law_342 : decode cL_law 342 = .ok (.iconst 4, 1) := by decide +kernel
theorem dL_law_343 : decode cL_law 343 = .ok (.iadd, 1) := by decide +kernel
theorem dL_law_344 : decode cL_law 344 = .ok (.iaload, 1) := by decide +kernel
theorem dL_law_345 : decode cL_law 345 = .ok (.invokevirtual 34, 3) := by decide +kernel
theorem dL_law_348 : decode cL_law 348 = .ok (.if_icmp .eq 615, 3) := by decide +kernel
theorem dL_law_351 : decode cL_law 351 = .ok (.iconst 0, 1) := by decide +kernel
theorem dL_law_352 : decode cL_law 352 = .ok (.ireturn, 1) := by decide +kernel
theorem dL_law_353 : decode cL_law 353 = .ok (.aload_n 1, 1) := by decide +kernel
theorem dL_law_354 : decode cL_law 354 = .ok (.aload_n 0, 1) := by decide +kernel
theorem dL_law_355 : decode cL_law 355 = .ok (.iload_n 3, 1) := by decide +kernel
theorem dL_law_356 : decode cL_law 356 = .ok (.iconst 1, 1) := by decide +kernel
theorem dL_law_357 : decode cL_law 357 = .ok (.iadd, 1) := by decide +kernel
theorem dL_law_358 : decode cL_law 358 = .ok (.iaload, 1) := by decide +kernel
theorem dL_law_359 : decode cL_law 359 = .ok (.aload_n 0, 1) := by decide +kernel
theorem dL_law_360 : decode cL_law 360 = .ok (.iload_n 3, 1) := by decide +kernel
theorem dL_law_361 : decode cL_law 361 = .ok (.iconst 2, 1) := by decide +kernel
theorem dL_law_362 : decode cL_law 362 = .ok (.iadd, 1) := by decide +kernel
theorem dL_law_363 : decode cL_law 363 = .ok (.iaload, 1) := by decide +kernel
theorem dL_law_364 : decode cL_law 364 = .ok (.invokevirtual 35, 3) := by decide +kernel
theorem dL_law_367 : decode cL_law 367 = .ok (.aload_n 2, 1) := by decide +kernel
theorem dL_law_368 : decode cL_law 368 = .ok (.aload_n 0, 1) := by decide +kernel
theorem dL_law_369 : decode cL_law 369 = .ok (.iload_n 3, 1) := by decide +kernel
theorem dL_law_370 : decode cL_law 370 = .ok (.iconst 1, 1) := by decide +kernel
theorem dL_law_371 : decode cL_law 371 = .ok (.iadd, 1) := by decide +kernel
theorem dL_law_372 : decode cL_law 372 = .ok (.iaload, 1) := by decide +kernel
theorem dL_law_373 : decode cL_law 373 = .ok (.aload_n 0, 1) := by decide +kernel
theorem dL_law_374 : decode cL_law 374 = .ok (.iload_n 3, 1) := by decide +kernel
theorem dL_law_375 : decode cL_law 375 = .ok (.iconst 2, 1) := by decide +kernel
theorem dL_law_376 : decode cL_law 376 = .ok (.iadd, 1) := by decide +kernel
theorem dL_law_377 : decode cL_law 377 = .ok (.iaload, 1) := by decide +kernel
theorem dL_law_378 : decode cL_law 378 = .ok (.invokevirtual 38, 3) := by decide +kernel
theorem dL_law_381 : decode cL_law 381 = .ok (.if_icmp .eq 582, 3) := by decide +kernel
theorem dL_law_384 : decode cL_law 384 = .ok (.iconst 0, 1) := by decide +kernel
theorem dL_law_385 : decode cL_law 385 = .ok (.ireturn, 1) := by decide +kernel
theorem dL_law_386 : decode cL_law 386 = .ok (.aload_n 1, 1) := by decide +kernel
theorem dL_law_387 : decode cL_law 387 = .ok (.invokevirtual 39, 3) := by decide +kernel
theorem dL_law_390 : decode cL_law 390 = .ok (.aload_n 2, 1) := by decide +kernel
theorem dL_law_391 : decode cL_law 391 = .ok (.invokevirtual 43, 3) := by decide +kernel
theorem dL_law_394 : decode cL_law 394 = .ok (.if_icmp .eq 569, 3) := by decide +kernel
theorem dL_law_397 : decode cL_law 397 = .ok (.iconst 0, 1) := by decide +kernel
theorem dL_law_398 : decode cL_law 398 = .ok (.ireturn, 1) := by decide +kernel
theorem dL_law_399 : decode cL_law 399 = .ok (.aload_n 1, 1) := by decide +kernel
theorem dL_law_400 : decode cL_law 400 = .ok (.invokevirtual 44, 3) := by decide +kernel
theorem dL_law_403 : decode cL_law 403 = .ok (.aload_n 2, 1) := by decide +kernel
theorem dL_law_404 : decode cL_law 404 = .ok (.invokevirtual 47, 3) := by decide +kernel
theorem dL_law_407 : decode cL_law 407 = .ok (.if_icmp .eq 556, 3) := by decide +kernel
theorem dL_law_410 : decode cL_law 410 = .ok (.iconst 0, 1) := by decide +kernel
theorem dL_law_411 : decode cL_law 411 = .ok (.ireturn, 1) := by decide +kernel
theorem dL_law_412 : decode cL_law 412 = .ok (.aload_n 1, 1) := by decide +kernel
theorem dL_law_413 : decode cL_law 413 = .ok (.aload_n 0, 1) := by decide +kernel
theorem dL_law_414 : decode cL_law 414 = .ok (.iload_n 3, 1) := by decide +kernel
theorem dL_law_415 : decode cL_law 415 = .ok (.iconst 1, 1) := by decide +kernel
theorem dL_law_416 : decode cL_law 416 = .ok (.iadd, 1) := by decide +kernel
theorem dL_law_417 : decode cL_law 417 = .ok (.iaload, 1) := by decide +kernel
theorem dL_law_418 : decode cL_law 418 = .ok (.aload_n 0, 1) := by decide +kernel
theorem dL_law_419 : decode cL_law 419 = .ok (.iload_n 3, 1) := by decide +kernel
theorem dL_law_420 : decode cL_law 420 = .ok (.iconst 2, 1) := by decide +kernel
theorem dL_law_421 : decode cL_law 421 = .ok (.iadd, 1) := by decide +kernel
theorem dL_law_422 : decode cL_law 422 = .ok (.iaload, 1) := by decide +kernel
theorem dL_law_423 : decode cL_law 423 = .ok (.aload_n 0, 1) := by decide +kernel
theorem dL_law_424 : decode cL_law 424 = .ok (.iload_n 3, 1) := by decide +kernel
theorem dL_law_425 : decode cL_law 425 = .ok (.iconst 3, 1) := by decide +kernel
theorem dL_law_426 : decode cL_law 426 = .ok (.iadd, 1) := by decide +kernel
theorem dL_law_427 : decode cL_law 427 = .ok (.iaload, 1) := by decide +kernel
theorem dL_law_428 : decode cL_law 428 = .ok (.aload_n 0, 1) := by decide +kernel
theorem dL_law_429 : decode cL_law 429 = .ok (.iload_n 3, 1) := by decide +kernel
theorem dL_law_430 : decode cL_law 430 = .ok (.iconst 4, 1) := by decide +kernel
theorem dL_law_431 : decode cL_law 431 = .ok (.iadd, 1) := by decide +kernel
theorem dL_law_432 : decode cL_law 432 = .ok (.iaload, 1) := by decide +kernel
theorem dL_law_433 : decode cL_law 433 = .ok (.invokevirtual 48, 3) := by decide +kernel
theorem dL_law_436 : decode cL_law 436 = .ok (.aload_n 2, 1) := by decide +kernel
theorem dL_law_437 : decode cL_law 437 = .ok (.aload_n 0, 1) := by decide +kernel
theorem dL_law_438 : decode cL_law 438 = .ok (.iload_n 3, 1) := by decide +kernel
theorem dL_law_439 : decode cL_law 439 = .ok (.iconst 1, 1) := by decide +kernel
theorem dL_law_440 : decode cL_law 440 = .ok (.iadd, 1) := by decide +kernel
theorem dL_law_441 : decode cL_law 441 = .ok (.iaload, 1) := by decide +kernel
theorem dL_law_442 : decode cL_law 442 = .ok (.aload_n 0, 1) := by decide +kernel
theorem dL_law_443 : decode cL_law 443 = .ok (.iload_n 3, 1) := by decide +kernel
theorem dL_law_444 : decode cL_law 444 = .ok (.iconst 2, 1) := by decide +kernel
theorem dL_law_445 : decode cL_law 445 = .ok (.iadd, 1) := by decide +kernel
theorem dL_law_446 : decode cL_law 446 = .ok (.iaload, 1) := by decide +kernel
theorem dL_law_447 : decode cL_law 447 = .ok (.aload_n 0, 1) := by decide +kernel
theorem dL_law_448 : decode cL_law 448 = .ok (.iload_n 3, 1) := by decide +kernel
theorem dL_law_449 : decode cL_law 449 = .ok (.iconst 3, 1) := by decide +kernel
theorem dL_law_450 : decode cL_law 450 = .ok (.iadd, 1) := by decide +kernel
theorem dL_law_451 : decode cL_law 451 = .ok (.iaload, 1) := by decide +kernel
theorem dL_law_452 : decode cL_law 452 = .ok (.aload_n 0, 1) := by decide +kernel
theorem dL_law_453 : decode cL_law 453 = .ok (.iload_n 3, 1) := by decide +kernel
theorem dL_law_454 : decode cL_law 454 = .ok (.iconst 4, 1) := by decide +kernel
theorem dL_law_455 : decode cL_law 455 = .ok (.iadd, 1) := by decide +kernel
theorem dL_law_456 : decode cL_law 456 = .ok (.iaload, 1) := by decide +kernel
theorem dL_law_457 : decode cL_law 457 = .ok (.invokevirtual 51, 3) := by decide +kernel
theorem dL_law_460 : decode cL_law 460 = .ok (.if_icmp .eq 503, 3) := by decide +kernel
theorem dL_law_463 : decode cL_law 463 = .ok (.iconst 0, 1) := by decide +kernel
theorem dL_law_464 : decode cL_law 464 = .ok (.ireturn, 1) := by decide +kernel
theorem dL_law_465 : decode cL_law 465 = .ok (.aload_n 1, 1) := by decide +kernel
theorem dL_law_466 : decode cL_law 466 = .ok (.aload_n 0, 1) := by decide +kernel
theorem dL_law_467 : decode cL_law 467 = .ok (.iload_n 3, 1) := by decide +kernel
theorem dL_law_468 : decode cL_law 468 = .ok (.iconst 1, 1) := by decide +kernel
theorem dL_law_469 : decode cL_law 469 = .ok (.iadd, 1) := by decide +kernel
theorem dL_law_470 : decode cL_law 470 = .ok (.iaload, 1) := by decide +kernel
theorem dL_law_471 : decode cL_law 471 = .ok (.aload_n 0, 1) := by decide +kernel
theorem dL_law_472 : decode cL_law 472 = .ok (.iload_n 3, 1) := by decide +kernel
theorem dL_law_473 : decode cL_law 473 = .ok (.iconst 2, 1) := by decide +kernel
theorem dL_law_474 : decode cL_law 474 = .ok (.iadd, 1) := by decide +kernel
theorem dL_law_475 : decode cL_law 475 = .ok (.iaload, 1) := by decide +kernel
theorem dL_law_476 : decode cL_law 476 = .ok (.invokevirtual 52, 3) := by decide +kernel
theorem dL_law_479 : decode cL_law 479 = .ok (.aload_n 2, 1) := by decide +kernel
theorem dL_law_480 : decode cL_law 480 = .ok (.aload_n 0, 1) := by decide +kernel
theorem dL_law_481 : decode cL_law 481 = .ok (.iload_n 3, 1) := by decide +kernel
theorem dL_law_482 : decode cL_law 482 = .ok (.iconst 1, 1) := by decide +kernel
theorem dL_law_483 : decode cL_law 483 = .ok (.iadd, 1) := by decide +kernel
theorem dL_law_484 : decode cL_law 484 = .ok (.iaload, 1) := by decide +kernel
theorem dL_law_485 : decode cL_law 485 = .ok (.aload_n 0, 1) := by decide +kernel
theorem dL_law_486 : decode cL_law 486 = .ok (.iload_n 3, 1) := by decide +kernel
theorem dL_law_487 : decode cL_law 487 = .ok (.iconst 2, 1) := by decide +kernel
theorem dL_law_488 : decode cL_law 488 = .ok (.iadd, 1) := by decide +kernel
theorem dL_law_489 : decode cL_law 489 = .ok (.iaload, 1) := by decide +kernel
theorem dL_law_490 : decode cL_law 490 = .ok (.invokevirtual 55, 3) := by decide +kernel
theorem dL_law_493 : decode cL_law 493 = .ok (.if_icmp .eq 470, 3) := by decide +kernel
theorem dL_law_496 : decode cL_law 496 = .ok (.iconst 0, 1) := by decide +kernel
theorem dL_law_497 : decode cL_law 497 = .ok (.ireturn, 1) := by decide +kernel
theorem dL_law_498 : decode cL_law 498 = .ok (.aload_n 1, 1) := by decide +kernel
theorem dL_law_499 : decode cL_law 499 = .ok (.aload_n 0, 1) := by decide +kernel
theorem dL_law_500 : decode cL_law 500 = .ok (.iload_n 3, 1) := by decide +kernel
theorem dL_law_501 : decode cL_law 501 = .ok (.iconst 1, 1) := by decide +kernel
theorem dL_law_502 : decode cL_law 502 = .ok (.iadd, 1) := by decide +kernel
theorem dL_law_503 : decode cL_law 503 = .ok (.iaload, 1) := by decide +kernel
theorem dL_law_504 : decode cL_law 504 = .ok (.invokevirtual 56, 3) := by decide +kernel
theorem dL_law_507 : decode cL_law 507 = .ok (.aload_n 2, 1) := by decide +kernel
theorem dL_law_508 : decode cL_law 508 = .ok (.aload_n 0, 1) := by decide +kernel
theorem dL_law_509 : decode cL_law 509 = .ok (.iload_n 3, 1) := by decide +kernel
theorem dL_law_510 : decode cL_law 510 = .ok (.iconst 1, 1) := by decide +kernel
theorem dL_law_511 : decode cL_law 511 = .ok (.iadd, 1) := by decide +kernel
theorem dL_law_512 : decode cL_law 512 = .ok (.iaload, 1) := by decide +kernel
theorem dL_law_513 : decode cL_law 513 = .ok (.invokevirtual 60, 3) := by decide +kernel
theorem dL_law_516 : decode cL_law 516 = .ok (.if_icmp .eq 447, 3) := by decide +kernel
theorem dL_law_519 : decode cL_law 519 = .ok (.iconst 0, 1) := by decide +kernel
theorem dL_law_520 : decode cL_law 520 = .ok (.ireturn, 1) := by decide +kernel
theorem dL_law_521 : decode cL_law 521 = .ok (.aload_n 1, 1) := by decide +kernel
theorem dL_law_522 : decode cL_law 522 = .ok (.aload_n 0, 1) := by decide +kernel
theorem dL_law_523 : decode cL_law 523 = .ok (.iload_n 3, 1) := by decide +kernel
theorem dL_law_524 : decode cL_law 524 = .ok (.iconst 1, 1) := by decide +kernel
theorem dL_law_525 : decode cL_law 525 = .ok (.iadd, 1) := by decide +kernel
theorem dL_law_526 : decode cL_law 526 = .ok (.iaload, 1) := by decide +kernel
theorem dL_law_527 : decode cL_law 527 = .ok (.aload_n 0, 1) := by decide +kernel
theorem dL_law_528 : decode cL_law 528 = .ok (.iload_n 3, 1) := by decide +kernel
theorem dL_law_529 : decode cL_law 529 = .ok (.iconst 2, 1) := by decide +kernel
theorem dL_law_530 : decode cL_law 530 = .ok (.iadd, 1) := by decide +kernel
theorem dL_law_531 : decode cL_law 531 = .ok (.iaload, 1) := by decide +kernel
theorem dL_law_532 : decode cL_law 532 = .ok (.aload_n 0, 1) := by decide +kernel
theorem dL_law_533 : decode cL_law 533 = .ok (.iload_n 3, 1) := by decide +kernel
theorem dL_law_534 : decode cL_law 534 = .ok (.iconst 3, 1) := by decide +kernel
theorem dL_law_535 : decode cL_law 535 = .ok (.iadd, 1) := by decide +kernel
theorem dL_law_536 : decode cL_law 536 = .ok (.iaload, 1) := by decide +kernel
theorem dL_law_537 : decode cL_law 537 = .ok (.invokevirtual 61, 3) := by decide +kernel
theorem dL_law_540 : decode cL_law 540 = .ok (.aload_n 2, 1) := by decide +kernel
theorem dL_law_541 : decode cL_law 541 = .ok (.aload_n 0, 1) := by decide +kernel
theorem dL_law_542 : decode cL_law 542 = .ok (.iload_n 3, 1) := by decide +kernel
theorem dL_law_543 : decode cL_law 543 = .ok (.iconst 1, 1) := by decide +kernel
theorem dL_law_544 : decode cL_law 544 = .ok (.iadd, 1) := by decide +kernel
theorem dL_law_545 : decode cL_law 545 = .ok (.iaload, 1) := by decide +kernel
theorem dL_law_546 : decode cL_law 546 = .ok (.aload_n 0, 1) := by decide +kernel
theorem dL_law_547 : decode cL_law 547 = .ok (.iload_n 3, 1) := by decide +kernel
theorem dL_law_548 : decode cL_law 548 = .ok (.iconst 2, 1) := by decide +kernel
theorem dL_law_549 : decode cL_law 549 = .ok (.iadd, 1) := by decide +kernel
theorem dL_law_550 : decode cL_law 550 = .ok (.iaload, 1) := by decide +kernel
theorem dL_law_551 : decode cL_law 551 = .ok (.aload_n 0, 1) := by decide +kernel
theorem dL_law_552 : decode cL_law 552 = .ok (.iload_n 3, 1) := by decide +kernel
theorem dL_law_553 : decode cL_law 553 = .ok (.iconst 3, 1) := by decide +kernel
theorem dL_law_554 : decode cL_law 554 = .ok (.iadd, 1) := by decide +kernel
theorem dL_law_555 : decode cL_law 555 = .ok (.iaload, 1) := by decide +kernel
theorem dL_law_556 : decode cL_law 556 = .ok (.invokevirtual 65, 3) := by decide +kernel
theorem dL_law_559 : decode cL_law 559 = .ok (.if_icmp .eq 404, 3) := by decide +kernel
theorem dL_law_562 : decode cL_law 562 = .ok (.iconst 0, 1) := by decide +kernel
theorem dL_law_563 : decode cL_law 563 = .ok (.ireturn, 1) := by decide +kernel
theorem dL_law_564 : decode cL_law 564 = .ok (.aload_n 1, 1) := by decide +kernel
theorem dL_law_565 : decode cL_law 565 = .ok (.aload_n 0, 1) := by decide +kernel
theorem dL_law_566 : decode cL_law 566 = .ok (.iload_n 3, 1) := by decide +kernel
theorem dL_law_567 : decode cL_law 567 = .ok (.iconst 1, 1) := by decide +kernel
theorem dL_law_568 : decode cL_law 568 = .ok (.iadd, 1) := by decide +kernel
theorem dL_law_569 : decode cL_law 569 = .ok (.iaload, 1) := by decide +kernel
theorem dL_law_570 : decode cL_law 570 = .ok (.aload_n 0, 1) := by decide +kernel
theorem dL_law_571 : decode cL_law 571 = .ok (.iload_n 3, 1) := by decide +kernel
theorem dL_law_572 : decode cL_law 572 = .ok (.iconst 2, 1) := by decide +kernel
theorem dL_law_573 : decode cL_law 573 = .ok (.iadd, 1) := by decide +kernel
theorem dL_law_574 : decode cL_law 574 = .ok (.iaload, 1) := by decide +kernel
theorem dL_law_575 : decode cL_law 575 = .ok (.aload_n 0, 1) := by decide +kernel
theorem dL_law_576 : decode cL_law 576 = .ok (.iload_n 3, 1) := by decide +kernel
theorem dL_law_577 : decode cL_law 577 = .ok (.iconst 3, 1) := by decide +kernel
theorem dL_law_578 : decode cL_law 578 = .ok (.iadd, 1) := by decide +kernel
theorem dL_law_579 : decode cL_law 579 = .ok (.iaload, 1) := by decide +kernel
theorem dL_law_580 : decode cL_law 580 = .ok (.invokevirtual 66, 3) := by decide +kernel
theorem dL_law_583 : decode cL_law 583 = .ok (.aload_n 2, 1) := by decide +kernel
theorem dL_law_584 : decode cL_law 584 = .ok (.aload_n 0, 1) := by decide +kernel
theorem dL_law_585 : decode cL_law 585 = .ok (.iload_n 3, 1) := by decide +kernel
theorem dL_law_586 : decode cL_law 586 = .ok (.iconst 1, 1) := by decide +kernel
theorem dL_law_587 : decode cL_law 587 = .ok (.iadd, 1) := by decide +kernel
theorem dL_law_588 : decode cL_law 588 = .ok (.iaload, 1) := by decide +kernel
theorem dL_law_589 : decode cL_law 589 = .ok (.aload_n 0, 1) := by decide +kernel
theorem dL_law_590 : decode cL_law 590 = .ok (.iload_n 3, 1) := by decide +kernel
theorem dL_law_591 : decode cL_law 591 = .ok (.iconst 2, 1) := by decide +kernel
theorem dL_law_592 : decode cL_law 592 = .ok (.iadd, 1) := by decide +kernel
theorem dL_law_593 : decode cL_law 593 = .ok (.iaload, 1) := by decide +kernel
theorem dL_law_594 : decode cL_law 594 = .ok (.aload_n 0, 1) := by decide +kernel
theorem dL_law_595 : decode cL_law 595 = .ok (.iload_n 3, 1) := by decide +kernel
theorem dL_law_596 : decode cL_law 596 = .ok (.iconst 3, 1) := by decide +kernel
theorem dL_law_597 : decode cL_law 597 = .ok (.iadd, 1) := by decide +kernel
theorem dL_law_598 : decode cL_law 598 = .ok (.iaload, 1) := by decide +kernel
theorem dL_law_599 : decode cL_law 599 = .ok (.invokevirtual 69, 3) := by decide +kernel
theorem dL_law_602 : decode cL_law 602 = .ok (.if_icmp .eq 361, 3) := by decide +kernel
theorem dL_law_605 : decode cL_law 605 = .ok (.iconst 0, 1) := by decide +kernel
theorem dL_law_606 : decode cL_law 606 = .ok (.ireturn, 1) := by decide +kernel
theorem dL_law_607 : decode cL_law 607 = .ok (.aload_n 1, 1) := by decide +kernel
theorem dL_law_608 : decode cL_law 608 = .ok (.aload_n 0, 1) := by decide +kernel
theorem dL_law_609 : decode cL_law 609 = .ok (.iload_n 3, 1) := by decide +kernel
theorem dL_law_610 : decode cL_law 610 = .ok (.iconst 1, 1) := by decide +kernel
theorem dL_law_611 : decode cL_law 611 = .ok (.iadd, 1) := by decide +kernel
theorem dL_law_612 : decode cL_law 612 = .ok (.iaload, 1) := by decide +kernel
theorem dL_law_613 : decode cL_law 613 = .ok (.invokevirtual 70, 3) := by decide +kernel
theorem dL_law_616 : decode cL_law 616 = .ok (.aload_n 2, 1) := by decide +kernel
theorem dL_law_617 : decode cL_law 617 = .ok (.aload_n 0, 1) := by decide +kernel
theorem dL_law_618 : decode cL_law 618 = .ok (.iload_n 3, 1) := by decide +kernel
theorem dL_law_619 : decode cL_law 619 = .ok (.iconst 1, 1) := by decide +kernel
theorem dL_law_620 : decode cL_law 620 = .ok (.iadd, 1) := by decide +kernel
theorem dL_law_621 : decode cL_law 621 = .ok (.iaload, 1) := by decide +kernel
theorem dL_law_622 : decode cL_law 622 = .ok (.invokevirtual 73, 3) := by decide +kernel
theorem dL_law_625 : decode cL_law 625 = .ok (.if_icmp .eq 338, 3) := by decide +kernel
theorem dL_law_628 : decode cL_law 628 = .ok (.iconst 0, 1) := by decide +kernel
theorem dL_law_629 : decode cL_law 629 = .ok (.ireturn, 1) := by decide +kernel
theorem dL_law_630 : decode cL_law 630 = .ok (.aload_n 1, 1) := by decide +kernel
theorem dL_law_631 : decode cL_law 631 = .ok (.aload_n 0, 1) := by decide +kernel
theorem dL_law_632 : decode cL_law 632 = .ok (.iload_n 3, 1) := by decide +kernel
theorem dL_law_633 : decode cL_law 633 = .ok (.iconst 1, 1) := by decide +kernel
theorem dL_law_634 : decode cL_law 634 = .ok (.iadd, 1) := by decide +kernel
theorem dL_law_635 : decode cL_law 635 = .ok (.iaload, 1) := by decide +kernel
theorem dL_law_636 : decode cL_law 636 = .ok (.invokevirtual 74, 3) := by decide +kernel
theorem dL_law_639 : decode cL_law 639 = .ok (.aload_n 2, 1) := by decide +kernel
theorem dL_law_640 : decode cL_law 640 = .ok (.aload_n 0, 1) := by decide +kernel
theorem dL_law_641 : decode cL_law 641 = .ok (.iload_n 3, 1) := by decide +kernel
theorem dL_law_642 : decode cL_law 642 = .ok (.iconst 1, 1) := by decide +kernel
theorem dL_law_643 : decode cL_law 643 = .ok (.iadd, 1) := by decide +kernel
theorem dL_law_644 : decode cL_law 644 = .ok (.iaload, 1) := by decide +kernel
theorem dL_law_645 : decode cL_law 645 = .ok (.invokevirtual 77, 3) := by decide +kernel
theorem dL_law_648 : decode cL_law 648 = .ok (.if_icmp .eq 315, 3) := by decide +kernel
theorem dL_law_651 : decode cL_law 651 = .ok (.iconst 0, 1) := by decide +kernel
theorem dL_law_652 : decode cL_law 652 = .ok (.ireturn, 1) := by decide +kernel
theorem dL_law_653 : decode cL_law 653 = .ok (.aload_n 1, 1) := by decide +kernel
theorem dL_law_654 : decode cL_law 654 = .ok (.aload_n 0, 1) := by decide +kernel
theorem dL_law_655 : decode cL_law 655 = .ok (.iload_n 3, 1) := by decide +kernel
theorem dL_law_656 : decode cL_law 656 = .ok (.iconst 1, 1) := by decide +kernel
theorem dL_law_657 : decode cL_law 657 = .ok (.iadd, 1) := by decide +kernel
theorem dL_law_658 : decode cL_law 658 = .ok (.iaload, 1) := by decide +kernel
theorem dL_law_659 : decode cL_law 659 = .ok (.aload_n 0, 1) := by decide +kernel
theorem dL_law_660 : decode cL_law 660 = .ok (.iload_n 3, 1) := by decide +kernel
theorem dL_law_661 : decode cL_law 661 = .ok (.iconst 2, 1) := by decide +kernel
theorem dL_law_662 : decode cL_law 662 = .ok (.iadd, 1) := by decide +kernel
theorem dL_law_663 : decode cL_law 663 = .ok (.iaload, 1) := by decide +kernel
theorem dL_law_664 : decode cL_law 664 = .ok (.invokevirtual 78, 3) := by decide +kernel
theorem dL_law_667 : decode cL_law 667 = .ok (.aload_n 2, 1) := by decide +kernel
theorem dL_law_668 : decode cL_law 668 = .ok (.aload_n 0, 1) := by decide +kernel
theorem dL_law_669 : decode cL_law 669 = .ok (.iload_n 3, 1) := by decide +kernel
theorem dL_law_670 : decode cL_law 670 = .ok (.iconst 1, 1) := by decide +kernel
theorem dL_law_671 : decode cL_law 671 = .ok (.iadd, 1) := by decide +kernel
theorem dL_law_672 : decode cL_law 672 = .ok (.iaload, 1) := by decide +kernel
theorem dL_law_673 : decode cL_law 673 = .ok (.aload_n 0, 1) := by decide +kernel
theorem dL_law_674 : decode cL_law 674 = .ok (.iload_n 3, 1) := by decide +kernel
theorem dL_law_675 : decode cL_law 675 = .ok (.iconst 2, 1) := by decide +kernel
theorem dL_law_676 : decode cL_law 676 = .ok (.iadd, 1) := by decide +kernel
theorem dL_law_677 : decode cL_law 677 = .ok (.iaload, 1) := by decide +kernel
theorem dL_law_678 : decode cL_law 678 = .ok (.invokevirtual 81, 3) := by decide +kernel
theorem dL_law_681 : decode cL_law 681 = .ok (.if_icmp .eq 282, 3) := by decide +kernel
theorem dL_law_684 : decode cL_law 684 = .ok (.iconst 0, 1) := by decide +kernel
theorem dL_law_685 : decode cL_law 685 = .ok (.ireturn, 1) := by decide +kernel
theorem dL_law_686 : decode cL_law 686 = .ok (.aload_n 1, 1) := by decide +kernel
theorem dL_law_687 : decode cL_law 687 = .ok (.aload_n 0, 1) := by decide +kernel
theorem dL_law_688 : decode cL_law 688 = .ok (.iload_n 3, 1) := by decide +kernel
theorem dL_law_689 : decode cL_law 689 = .ok (.iconst 1, 1) := by decide +kernel
theorem dL_law_690 : decode cL_law 690 = .ok (.iadd, 1) := by decide +kernel
theorem dL_law_691 : decode cL_law 691 = .ok (.iaload, 1) := by decide +kernel
theorem dL_law_692 : decode cL_law 692 = .ok (.aload_n 0, 1) := by decide +kernel
theorem dL_law_693 : decode cL_law 693 = .ok (.iload_n 3, 1) := by decide +kernel
theorem dL_law_694 : decode cL_law 694 = .ok (.iconst 2, 1) := by decide +kernel
theorem dL_law_695 : decode cL_law 695 = .ok (.iadd, 1) := by decide +kernel
theorem dL_law_696 : decode cL_law 696 = .ok (.iaload, 1) := by decide +kernel
theorem dL_law_697 : decode cL_law 697 = .ok (.invokevirtual 82, 3) := by decide +kernel
theorem dL_law_700 : decode cL_law 700 = .ok (.aload_n 2, 1) := by decide +kernel
theorem dL_law_701 : decode cL_law 701 = .ok (.aload_n 0, 1) := by decide +kernel
theorem dL_law_702 : decode cL_law 702 = .ok (.iload_n 3, 1) := by decide +kernel
theorem dL_law_703 : decode cL_law 703 = .ok (.iconst 1, 1) := by decide +kernel
theorem dL_law_704 : decode cL_law 704 = .ok (.iadd, 1) := by decide +kernel
theorem dL_law_705 : decode cL_law 705 = .ok (.iaload, 1) := by decide +kernel
theorem dL_law_706 : decode cL_law 706 = .ok (.aload_n 0, 1) := by decide +kernel
theorem dL_law_707 : decode cL_law 707 = .ok (.iload_n 3, 1) := by decide +kernel
theorem dL_law_708 : decode cL_law 708 = .ok (.iconst 2, 1) := by decide +kernel
theorem dL_law_709 : decode cL_law 709 = .ok (.iadd, 1) := by decide +kernel
theorem dL_law_710 : decode cL_law 710 = .ok (.iaload, 1) := by decide +kernel
theorem dL_law_711 : decode cL_law 711 = .ok (.invokevirtual 85, 3) := by decide +kernel
theorem dL_law_714 : decode cL_law 714 = .ok (.if_icmp .eq 249, 3) := by decide +kernel
theorem dL_law_717 : decode cL_law 717 = .ok (.iconst 0, 1) := by decide +kernel
theorem dL_law_718 : decode cL_law 718 = .ok (.ireturn, 1) := by decide +kernel
theorem dL_law_719 : decode cL_law 719 = .ok (.aload_n 1, 1) := by decide +kernel
theorem dL_law_720 : decode cL_law 720 = .ok (.aload_n 0, 1) := by decide +kernel
theorem dL_law_721 : decode cL_law 721 = .ok (.iload_n 3, 1) := by decide +kernel
theorem dL_law_722 : decode cL_law 722 = .ok (.iconst 1, 1) := by decide +kernel
theorem dL_law_723 : decode cL_law 723 = .ok (.iadd, 1) := by decide +kernel
theorem dL_law_724 : decode cL_law 724 = .ok (.iaload, 1) := by decide +kernel
theorem dL_law_725 : decode cL_law 725 = .ok (.aload_n 0, 1) := by decide +kernel
theorem dL_law_726 : decode cL_law 726 = .ok (.iload_n 3, 1) := by decide +kernel
theorem dL_law_727 : decode cL_law 727 = .ok (.iconst 2, 1) := by decide +kernel
theorem dL_law_728 : decode cL_law 728 = .ok (.iadd, 1) := by decide +kernel
theorem dL_law_729 : decode cL_law 729 = .ok (.iaload, 1) := by decide +kernel
theorem dL_law_730 : decode cL_law 730 = .ok (.invokevirtual 86, 3) := by decide +kernel
theorem dL_law_733 : decode cL_law 733 = .ok (.aload_n 2, 1) := by decide +kernel
theorem dL_law_734 : decode cL_law 734 = .ok (.aload_n 0, 1) := by decide +kernel
theorem dL_law_735 : decode cL_law 735 = .ok (.iload_n 3, 1) := by decide +kernel
theorem dL_law_736 : decode cL_law 736 = .ok (.iconst 1, 1) := by decide +kernel
theorem dL_law_737 : decode cL_law 737 = .ok (.iadd, 1) := by decide +kernel
theorem dL_law_738 : decode cL_law 738 = .ok (.iaload, 1) := by decide +kernel
theorem dL_law_739 : decode cL_law 739 = .ok (.aload_n 0, 1) := by decide +kernel
theorem dL_law_740 : decode cL_law 740 = .ok (.iload_n 3, 1) := by decide +kernel
theorem dL_law_741 : decode cL_law 741 = .ok (.iconst 2, 1) := by decide +kernel
theorem dL_law_742 : decode cL_law 742 = .ok (.iadd, 1) := by decide +kernel
theorem dL_law_743 : decode cL_law 743 = .ok (.iaload, 1) := by decide +kernel
theorem dL_law_744 : decode cL_law 744 = .ok (.invokevirtual 89, 3) := by decide +kernel
theorem dL_law_747 : decode cL_law 747 = .ok (.if_icmp .eq 216, 3) := by decide +kernel
theorem dL_law_750 : decode cL_law 750 = .ok (.iconst 0, 1) := by decide +kernel
theorem dL_law_751 : decode cL_law 751 = .ok (.ireturn, 1) := by decide +kernel
theorem dL_law_752 : decode cL_law 752 = .ok (.aload_n 1, 1) := by decide +kernel
theorem dL_law_753 : decode cL_law 753 = .ok (.aload_n 0, 1) := by decide +kernel
theorem dL_law_754 : decode cL_law 754 = .ok (.iload_n 3, 1) := by decide +kernel
theorem dL_law_755 : decode cL_law 755 = .ok (.iconst 1, 1) := by decide +kernel
theorem dL_law_756 : decode cL_law 756 = .ok (.iadd, 1) := by decide +kernel
theorem dL_law_757 : decode cL_law 757 = .ok (.iaload, 1) := by decide +kernel
theorem dL_law_758 : decode cL_law 758 = .ok (.aload_n 0, 1) := by decide +kernel
theorem dL_law_759 : decode cL_law 759 = .ok (.iload_n 3, 1) := by decide +kernel
theorem dL_law_760 : decode cL_law 760 = .ok (.iconst 2, 1) := by decide +kernel
theorem dL_law_761 : decode cL_law 761 = .ok (.iadd, 1) := by decide +kernel
theorem dL_law_762 : decode cL_law 762 = .ok (.iaload, 1) := by decide +kernel
theorem dL_law_763 : decode cL_law 763 = .ok (.invokevirtual 90, 3) := by decide +kernel
theorem dL_law_766 : decode cL_law 766 = .ok (.aload_n 2, 1) := by decide +kernel
theorem dL_law_767 : decode cL_law 767 = .ok (.aload_n 0, 1) := by decide +kernel
theorem dL_law_768 : decode cL_law 768 = .ok (.iload_n 3, 1) := by decide +kernel
theorem dL_law_769 : decode cL_law 769 = .ok (.iconst 1, 1) := by decide +kernel
theorem dL_law_770 : decode cL_law 770 = .ok (.iadd, 1) := by decide +kernel
theorem dL_law_771 : decode cL_law 771 = .ok (.iaload, 1) := by decide +kernel
theorem dL_law_772 : decode cL_law 772 = .ok (.aload_n 0, 1) := by decide +kernel
theorem dL_law_773 : decode cL_law 773 = .ok (.iload_n 3, 1) := by decide +kernel
theorem dL_law_774 : decode cL_law 774 = .ok (.iconst 2, 1) := by decide +kernel
theorem dL_law_775 : decode cL_law 775 = .ok (.iadd, 1) := by decide +kernel
theorem dL_law_776 : decode cL_law 776 = .ok (.iaload, 1) := by decide +kernel
theorem dL_law_777 : decode cL_law 777 = .ok (.invokevirtual 93, 3) := by decide +kernel
theorem dL_law_780 : decode cL_law 780 = .ok (.if_icmp .eq 183, 3) := by decide +kernel
theorem dL_law_783 : decode cL_law 783 = .ok (.iconst 0, 1) := by decide +kernel
theorem dL_law_784 : decode cL_law 784 = .ok (.ireturn, 1) := by decide +kernel
theorem dL_law_785 : decode cL_law 785 = .ok (.aload_n 1, 1) := by decide +kernel
theorem dL_law_786 : decode cL_law 786 = .ok (.aload_n 0, 1) := by decide +kernel
theorem dL_law_787 : decode cL_law 787 = .ok (.iload_n 3, 1) := by decide +kernel
theorem dL_law_788 : decode cL_law 788 = .ok (.iconst 1, 1) := by decide +kernel
theorem dL_law_789 : decode cL_law 789 = .ok (.iadd, 1) := by decide +kernel
theorem dL_law_790 : decode cL_law 790 = .ok (.iaload, 1) := by decide +kernel
theorem dL_law_791 : decode cL_law 791 = .ok (.aload_n 0, 1) := by decide +kernel
theorem dL_law_792 : decode cL_law 792 = .ok (.iload_n 3, 1) := by decide +kernel
theorem dL_law_793 : decode cL_law 793 = .ok (.iconst 2, 1) := by decide +kernel
theorem dL_law_794 : decode cL_law 794 = .ok (.iadd, 1) := by decide +kernel
theorem dL_law_795 : decode cL_law 795 = .ok (.iaload, 1) := by decide +kernel
theorem dL_law_796 : decode cL_law 796 = .ok (.aload_n 0, 1) := by decide +kernel
theorem dL_law_797 : decode cL_law 797 = .ok (.iload_n 3, 1) := by decide +kernel
theorem dL_law_798 : decode cL_law 798 = .ok (.iconst 3, 1) := by decide +kernel
theorem dL_law_799 : decode cL_law 799 = .ok (.iadd, 1) := by decide +kernel
theorem dL_law_800 : decode cL_law 800 = .ok (.iaload, 1) := by decide +kernel
theorem dL_law_801 : decode cL_law 801 = .ok (.invokevirtual 94, 3) := by decide +kernel
theorem dL_law_804 : decode cL_law 804 = .ok (.aload_n 2, 1) := by decide +kernel
theorem dL_law_805 : decode cL_law 805 = .ok (.aload_n 0, 1) := by decide +kernel
theorem dL_law_806 : decode cL_law 806 = .ok (.iload_n 3, 1) := by decide +kernel
theorem dL_law_807 : decode cL_law 807 = .ok (.iconst 1, 1) := by decide +kernel
theorem dL_law_808 : decode cL_law 808 = .ok (.iadd, 1) := by decide +kernel
theorem dL_law_809 : decode cL_law 809 = .ok (.iaload, 1) := by decide +kernel
theorem dL_law_810 : decode cL_law 810 = .ok (.aload_n 0, 1) := by decide +kernel
theorem dL_law_811 : decode cL_law 811 = .ok (.iload_n 3, 1) := by decide +kernel
theorem dL_law_812 : decode cL_law 812 = .ok (.iconst 2, 1) := by decide +kernel
theorem dL_law_813 : decode cL_law 813 = .ok (.iadd, 1) := by decide +kernel
theorem dL_law_814 : decode cL_law 814 = .ok (.iaload, 1) := by decide +kernel
theorem dL_law_815 : decode cL_law 815 = .ok (.aload_n 0, 1) := by decide +kernel
theorem dL_law_816 : decode cL_law 816 = .ok (.iload_n 3, 1) := by decide +kernel
theorem dL_law_817 : decode cL_law 817 = .ok (.iconst 3, 1) := by decide +kernel
theorem dL_law_818 : decode cL_law 818 = .ok (.iadd, 1) := by decide +kernel
theorem dL_law_819 : decode cL_law 819 = .ok (.iaload, 1) := by decide +kernel
theorem dL_law_820 : decode cL_law 820 = .ok (.invokevirtual 97, 3) := by decide +kernel
theorem dL_law_823 : decode cL_law 823 = .ok (.if_icmp .eq 140, 3) := by decide +kernel
theorem dL_law_826 : decode cL_law 826 = .ok (.iconst 0, 1) := by decide +kernel
theorem dL_law_827 : decode cL_law 827 = .ok (.ireturn, 1) := by decide +kernel
theorem dL_law_828 : decode cL_law 828 = .ok (.aload_n 1, 1) := by decide +kernel
theorem dL_law_829 : decode cL_law 829 = .ok (.aload_n 0, 1) := by decide +kernel
theorem dL_law_830 : decode cL_law 830 = .ok (.iload_n 3, 1) := by decide +kernel
theorem dL_law_831 : decode cL_law 831 = .ok (.iconst 1, 1) := by decide +kernel
theorem dL_law_832 : decode cL_law 832 = .ok (.iadd, 1) := by decide +kernel
theorem dL_law_833 : decode cL_law 833 = .ok (.iaload, 1) := by decide +kernel
theorem dL_law_834 : decode cL_law 834 = .ok (.aload_n 0, 1) := by decide +kernel
theorem dL_law_835 : decode cL_law 835 = .ok (.iload_n 3, 1) := by decide +kernel
theorem dL_law_836 : decode cL_law 836 = .ok (.iconst 2, 1) := by decide +kernel
theorem dL_law_837 : decode cL_law 837 = .ok (.iadd, 1) := by decide +kernel
theorem dL_law_838 : decode cL_law 838 = .ok (.iaload, 1) := by decide +kernel
theorem dL_law_839 : decode cL_law 839 = .ok (.invokevirtual 98, 3) := by decide +kernel
theorem dL_law_842 : decode cL_law 842 = .ok (.aload_n 2, 1) := by decide +kernel
theorem dL_law_843 : decode cL_law 843 = .ok (.aload_n 0, 1) := by decide +kernel
theorem dL_law_844 : decode cL_law 844 = .ok (.iload_n 3, 1) := by decide +kernel
theorem dL_law_845 : decode cL_law 845 = .ok (.iconst 1, 1) := by decide +kernel
theorem dL_law_846 : decode cL_law 846 = .ok (.iadd, 1) := by decide +kernel
theorem dL_law_847 : decode cL_law 847 = .ok (.iaload, 1) := by decide +kernel
theorem dL_law_848 : decode cL_law 848 = .ok (.aload_n 0, 1) := by decide +kernel
theorem dL_law_849 : decode cL_law 849 = .ok (.iload_n 3, 1) := by decide +kernel
theorem dL_law_850 : decode cL_law 850 = .ok (.iconst 2, 1) := by decide +kernel
theorem dL_law_851 : decode cL_law 851 = .ok (.iadd, 1) := by decide +kernel
theorem dL_law_852 : decode cL_law 852 = .ok (.iaload, 1) := by decide +kernel
theorem dL_law_853 : decode cL_law 853 = .ok (.invokevirtual 101, 3) := by decide +kernel
theorem dL_law_856 : decode cL_law 856 = .ok (.if_icmp .eq 107, 3) := by decide +kernel
theorem dL_law_859 : decode cL_law 859 = .ok (.iconst 0, 1) := by decide +kernel
theorem dL_law_860 : decode cL_law 860 = .ok (.ireturn, 1) := by decide +kernel
theorem dL_law_861 : decode cL_law 861 = .ok (.aload_n 1, 1) := by decide +kernel
theorem dL_law_862 : decode cL_law 862 = .ok (.aload_n 0, 1) := by decide +kernel
theorem dL_law_863 : decode cL_law 863 = .ok (.iload_n 3, 1) := by decide +kernel
theorem dL_law_864 : decode cL_law 864 = .ok (.iconst 1, 1) := by decide +kernel
theorem dL_law_865 : decode cL_law 865 = .ok (.iadd, 1) := by decide +kernel
theorem dL_law_866 : decode cL_law 866 = .ok (.iaload, 1) := by decide +kernel
theorem dL_law_867 : decode cL_law 867 = .ok (.invokevirtual 102, 3) := by decide +kernel
theorem dL_law_870 : decode cL_law 870 = .ok (.aload_n 2, 1) := by decide +kernel
theorem dL_law_871 : decode cL_law 871 = .ok (.aload_n 0, 1) := by decide +kernel
theorem dL_law_872 : decode cL_law 872 = .ok (.iload_n 3, 1) := by decide +kernel
theorem dL_law_873 : decode cL_law 873 = .ok (.iconst 1, 1) := by decide +kernel
theorem dL_law_874 : decode cL_law 874 = .ok (.iadd, 1) := by decide +kernel
theorem dL_law_875 : decode cL_law 875 = .ok (.iaload, 1) := by decide +kernel
theorem dL_law_876 : decode cL_law 876 = .ok (.invokevirtual 105, 3) := by decide +kernel
theorem dL_law_879 : decode cL_law 879 = .ok (.if_icmp .eq 84, 3) := by decide +kernel
theorem dL_law_882 : decode cL_law 882 = .ok (.iconst 0, 1) := by decide +kernel
theorem dL_law_883 : decode cL_law 883 = .ok (.ireturn, 1) := by decide +kernel
theorem dL_law_884 : decode cL_law 884 = .ok (.aload_n 1, 1) := by decide +kernel
theorem dL_law_885 : decode cL_law 885 = .ok (.aload_n 0, 1) := by decide +kernel
theorem dL_law_886 : decode cL_law 886 = .ok (.iload_n 3, 1) := by decide +kernel
theorem dL_law_887 : decode cL_law 887 = .ok (.iconst 1, 1) := by decide +kernel
theorem dL_law_888 : decode cL_law 888 = .ok (.iadd, 1) := by decide +kernel
theorem dL_law_889 : decode cL_law 889 = .ok (.iaload, 1) := by decide +kernel
theorem dL_law_890 : decode cL_law 890 = .ok (.aload_n 0, 1) := by decide +kernel
theorem dL_law_891 : decode cL_law 891 = .ok (.iload_n 3, 1) := by decide +kernel
theorem dL_law_892 : decode cL_law 892 = .ok (.iconst 2, 1) := by decide +kernel
theorem dL_law_893 : decode cL_law 893 = .ok (.iadd, 1) := by decide +kernel
theorem dL_law_894 : decode cL_law 894 = .ok (.iaload, 1) := by decide +kernel
theorem dL_law_895 : decode cL_law 895 = .ok (.invokevirtual 106, 3) := by decide +kernel
theorem dL_law_898 : decode cL_law 898 = .ok (.aload_n 2, 1) := by decide +kernel
theorem dL_law_899 : decode cL_law 899 = .ok (.aload_n 0, 1) := by decide +kernel
theorem dL_law_900 : decode cL_law 900 = .ok (.iload_n 3, 1) := by decide +kernel
theorem dL_law_901 : decode cL_law 901 = .ok (.iconst 1, 1) := by decide +kernel
theorem dL_law_902 : decode cL_law 902 = .ok (.iadd, 1) := by decide +kernel
theorem dL_law_903 : decode cL_law 903 = .ok (.iaload, 1) := by decide +kernel
theorem dL_law_904 : decode cL_law 904 = .ok (.aload_n 0, 1) := by decide +kernel
theorem dL_law_905 : decode cL_law 905 = .ok (.iload_n 3, 1) := by decide +kernel
theorem dL_law_906 : decode cL_law 906 = .ok (.iconst 2, 1) := by decide +kernel
theorem dL_law_907 : decode cL_law 907 = .ok (.iadd, 1) := by decide +kernel
theorem dL_law_908 : decode cL_law 908 = .ok (.iaload, 1) := by decide +kernel
theorem dL_law_909 : decode cL_law 909 = .ok (.invokevirtual 109, 3) := by decide +kernel
theorem dL_law_912 : decode cL_law 912 = .ok (.if_icmp .eq 51, 3) := by decide +kernel
theorem dL_law_915 : decode cL_law 915 = .ok (.iconst 0, 1) := by decide +kernel
theorem dL_law_916 : decode cL_law 916 = .ok (.ireturn, 1) := by decide +kernel
theorem dL_law_917 : decode cL_law 917 = .ok (.aload_n 1, 1) := by decide +kernel
theorem dL_law_918 : decode cL_law 918 = .ok (.aload_n 0, 1) := by decide +kernel
theorem dL_law_919 : decode cL_law 919 = .ok (.iload_n 3, 1) := by decide +kernel
theorem dL_law_920 : decode cL_law 920 = .ok (.iconst 1, 1) := by decide +kernel
theorem dL_law_921 : decode cL_law 921 = .ok (.iadd, 1) := by decide +kernel
theorem dL_law_922 : decode cL_law 922 = .ok (.iaload, 1) := by decide +kernel
theorem dL_law_923 : decode cL_law 923 = .ok (.invokevirtual 110, 3) := by decide +kernel
theorem dL_law_926 : decode cL_law 926 = .ok (.aload_n 2, 1) := by decide +kernel
theorem dL_law_927 : decode cL_law 927 = .ok (.aload_n 0, 1) := by decide +kernel
theorem dL_law_928 : decode cL_law 928 = .ok (.iload_n 3, 1) := by decide +kernel
theorem dL_law_929 : decode cL_law 929 = .ok (.iconst 1, 1) := by decide +kernel
theorem dL_law_930 : decode cL_law 930 = .ok (.iadd, 1) := by decide +kernel
theorem dL_law_931 : decode cL_law 931 = .ok (.iaload, 1) := by decide +kernel
theorem dL_law_932 : decode cL_law 932 = .ok (.invokevirtual 113, 3) := by decide +kernel
theorem dL_law_935 : decode cL_law 935 = .ok (.if_icmp .eq 28, 3) := by decide +kernel
theorem dL_law_938 : decode cL_law 938 = .ok (.iconst 0, 1) := by decide +kernel
theorem dL_law_939 : decode cL_law 939 = .ok (.ireturn, 1) := by decide +kernel
theorem dL_law_940 : decode cL_law 940 = .ok (.aload_n 1, 1) := by decide +kernel
theorem dL_law_941 : decode cL_law 941 = .ok (.aload_n 0, 1) := by decide +kernel
theorem dL_law_942 : decode cL_law 942 = .ok (.iload_n 3, 1) := by decide +kernel
theorem dL_law_943 : decode cL_law 943 = .ok (.iconst 1, 1) := by decide +kernel
theorem dL_law_944 : decode cL_law 944 = .ok (.iadd, 1) := by decide +kernel
theorem dL_law_945 : decode cL_law 945 = .ok (.iaload, 1) := by decide +kernel
theorem dL_law_946 : decode cL_law 946 = .ok (.invokevirtual 114, 3) := by decide +kernel
theorem dL_law_949 : decode cL_law 949 = .ok (.aload_n 2, 1) := by decide +kernel
theorem dL_law_950 : decode cL_law 950 = .ok (.aload_n 0, 1) := by decide +kernel
theorem dL_law_951 : decode cL_law 951 = .ok (.iload_n 3, 1) := by decide +kernel
theorem dL_law_952 : decode cL_law 952 = .ok (.iconst 1, 1) := by decide +kernel
theorem dL_law_953 : decode cL_law 953 = .ok (.iadd, 1) := by decide +kernel
theorem dL_law_954 : decode cL_law 954 = .ok (.iaload, 1) := by decide +kernel
theorem dL_law_955 : decode cL_law 955 = .ok (.invokevirtual 117, 3) := by decide +kernel
theorem dL_law_958 : decode cL_law 958 = .ok (.if_icmp .eq 5, 3) := by decide +kernel
theorem dL_law_961 : decode cL_law 961 = .ok (.iconst 0, 1) := by decide +kernel
theorem dL_law_962 : decode cL_law 962 = .ok (.ireturn, 1) := by decide +kernel
theorem dL_law_963 : decode cL_law 963 = .ok (.iinc 3 5, 3) := by decide +kernel
theorem dL_law_966 : decode cL_law 966 = .ok (.goto (-948), 3) := by decide +kernel
theorem dL_law_969 : decode cL_law 969 = .ok (.iconst 1, 1) := by decide +kernel
theorem dL_law_970 : decode cL_law 970 = .ok (.ireturn, 1) := by decide +kernel
