theorem dX6_rulerOn_16 : decode cX6_rulerOn 16 = .ok (.bipush 40, 2) := by decide +kernel
theorem dX6_rulerOn_18 : decode cX6_rulerOn 18 = .ok (.if_icmp .gt 30, 3) := by decide +kernel
theorem dX6_rulerOn_21 : decode cX6_rulerOn 21 = .ok (.aload_n 0, 1) := by decide +kernel
theorem dX6_rulerOn_22 : decode cX6_rulerOn 22 = .ok (.iload_n 2, 1) := by decide +kernel
theorem dX6_rulerOn_23 : decode cX6_rulerOn 23 = .ok (.iload_n 3, 1) := by decide +kernel
theorem dX6_rulerOn_24 : decode cX6_rulerOn 24 = .ok (.invokestatic 64, 3) := by decide +kernel
theorem dX6_rulerOn_27 : decode cX6_rulerOn 27 = .ok (.iload_n 3, 1) := by decide +kernel
theorem dX6_rulerOn_28 : decode cX6_rulerOn 28 = .ok (.ifCond .eq 8, 3) := by decide +kernel
theorem dX6_rulerOn_31 : decode cX6_rulerOn 31 = .ok (.iload_n 3, 1) := by decide +kernel
theorem dX6_rulerOn_32 : decode cX6_rulerOn 32 = .ok (.iload_n 1, 1) := by decide +kernel
theorem dX6_rulerOn_33 : decode cX6_rulerOn 33 = .ok (.if_icmp .ne 7, 3) := by decide +kernel
theorem dX6_rulerOn_36 : decode cX6_rulerOn 36 = .ok (.iconst 1, 1) := by decide +kernel
theorem dX6_rulerOn_37 : decode cX6_rulerOn 37 = .ok (.goto 4, 3) := by decide +kernel
theorem dX6_rulerOn_40 : decode cX6_rulerOn 40 = .ok (.iconst 0, 1) := by decide +kernel
theorem dX6_rulerOn_41 : decode cX6_rulerOn 41 = .ok (.iastore, 1) := by decide +kernel
theorem dX6_rulerOn_42 : decode cX6_rulerOn 42 = .ok (.iinc 3 1, 3) := by decide +kernel
theorem dX6_rulerOn_45 : decode cX6_rulerOn 45 = .ok (.goto (-30), 3) := by decide +kernel
theorem dX6_rulerOn_48 : decode cX6_rulerOn 48 = .ok (.aload_n 0, 1) := by decide +kernel
theorem dX6_rulerOn_49 : decode cX6_rulerOn 49 = .ok (.iconst 0, 1) := by decide +kernel
theorem dX6_rulerOn_50 : decode cX6_rulerOn 50 = .ok (.dup2, 1) := by decide +kernel
theorem dX6_rulerOn_51 : decode cX6_rulerOn 51 = .ok (.iaload, 1) := by decide +kernel
theorem dX6_rulerOn_52 : decode cX6_rulerOn 52 = .ok (.iconst 1, 1) := by decide +kernel
theorem dX6_rulerOn_53 : decode cX6_rulerOn 53 = .ok (.iadd, 1) := by decide +kernel
theorem dX6_rulerOn_54 : decode cX6_rulerOn 54 = .ok (.iastore, 1) := by decide +kernel
theorem dX6_rulerOn_55 : decode cX6_rulerOn 55 = .ok (.iload_n 2, 1) := by decide +kernel
theorem dX6_rulerOn_56 : decode cX6_rulerOn 56 = .ok (.ireturn, 1) := by decide +kernel
theorem dX6_markOn_0 : decode cX6_markOn 0 = .ok (.aload_n 0, 1) := by decide +kernel
theorem dX6_markOn_1 : decode cX6_markOn 1 = .ok (.iload_n 1, 1) := by decide +kernel
theorem dX6_markOn_2 : decode cX6_markOn 2 = .ok (.iload_n 2, 1) := by decide +kernel
theorem dX6_markOn_3 : decode cX6_markOn 3 = .ok (.invokestatic 64, 3) := by decide +kernel
theorem dX6_markOn_6 : decode cX6_markOn 6 = .ok (.iload_n 3, 1) := by decide +kernel
theorem dX6_markOn_7 : decode cX6_markOn 7 = .ok (.ifCond .eq 7, 3) := by decide +kernel
theorem dX6_markOn_10 : decode cX6_markOn 10 = .ok (.iconst 1, 1) := by decide +kernel
theorem dX6_markOn_11 : decode cX6_markOn 11 = .ok (.goto 4, 3) := by decide +kernel
theorem dX6_markOn_14 : decode cX6_markOn 14 = .ok (.iconst 0, 1) := by decide +kernel
theorem dX6_markOn_15 : decode cX6_markOn 15 = .ok (.iastore, 1) := by decide +kernel
theorem dX6_markOn_16 : decode cX6_markOn 16 = .ok (.aload_n 0, 1) := by decide +kernel
theorem dX6_markOn_17 : decode cX6_markOn 17 = .ok (.iload_n 1, 1) := by decide +kernel
theorem dX6_markOn_18 : decode cX6_markOn 18 = .ok (.invokestatic 68, 3) := by decide +kernel
theorem dX6_markOn_21 : decode cX6_markOn 21 = .ok (.ireturn, 1) := by decide +kernel
theorem dX6_canMark_0 : decode cX6_canMark 0 = .ok (.aload_n 0, 1) := by decide +kernel
theorem dX6_canMark_1 : decode cX6_canMark 1 = .ok (.iload_n 1, 1) := by decide +kernel
theorem dX6_canMark_2 : decode cX6_canMark 2 = .ok (.iload_n 2, 1) := by decide +kernel
theorem dX6_canMark_3 : decode cX6_canMark 3 = .ok (.invokestatic 99, 3) := by decide +kernel
theorem dX6_canMark_6 : decode cX6_canMark 6 = .ok (.ifCond .eq 20, 3) := by decide +kernel
theorem dX6_canMark_9 : decode cX6_canMark 9 = .ok (.iload_n 3, 1) := by decide +kernel
theorem dX6_canMark_10 : decode cX6_canMark 10 = .ok (.ifCond .ne 12, 3) := by decide +kernel
theorem dX6_canMark_13 : decode cX6_canMark 13 = .ok (.aload_n 0, 1) := by decide +kernel
theorem dX6_canMark_14 : decode cX6_canMark 14 = .ok (.iload_n 1, 1) := by decide +kernel
theorem dX6_canMark_15 : decode cX6_canMark 15 = .ok (.iload_n 2, 1) := by decide +kernel
theorem dX6_canMark_16 : decode cX6_canMark 16 = .ok (.invokestatic 103, 3) := by decide +kernel
theorem dX6_canMark_19 : decode cX6_canMark 19 = .ok (.ifCond .ne 7, 3) := by decide +kernel
theorem dX6_canMark_22 : decode cX6_canMark 22 = .ok (.iconst 1, 1) := by decide +kernel
theorem dX6_canMark_23 : decode cX6_canMark 23 = .ok (.goto 4, 3) := by decide +kernel
theorem dX6_canMark_26 : decode cX6_canMark 26 = .ok (.iconst 0, 1) := by decide +kernel
theorem dX6_canMark_27 : decode cX6_canMark 27 = .ok (.ireturn, 1) := by decide +kernel
theorem dX6_cutOn_0 : decode cX6_cutOn 0 = .ok (.aload_n 0, 1) := by decide +kernel
theorem dX6_cutOn_1 : decode cX6_cutOn 1 = .ok (.iconst 3, 1) := by decide +kernel
theorem dX6_cutOn_2 : decode cX6_cutOn 2 = .ok (.bipush 42, 2) := by decide +kernel
theorem dX6_cutOn_4 : decode cX6_cutOn 4 = .ok (.iload_n 1, 1) := by decide +kernel
theorem dX6_cutOn_5 : decode cX6_cutOn 5 = .ok (.imul, 1) := by decide +kernel
theorem dX6_cutOn_6 : decode cX6_cutOn 6 = .ok (.iadd, 1) := by decide +kernel
theorem dX6_cutOn_7 : decode cX6_cutOn 7 = .ok (.iload_n 2, 1) := by decide +kernel
theorem dX6_cutOn_8 : decode cX6_cutOn 8 = .ok (.iastore, 1) := by decide +kernel
theorem dX6_cutOn_9 : decode cX6_cutOn 9 = .ok (.aload_n 0, 1) := by decide +kernel
theorem dX6_cutOn_10 : decode cX6_cutOn 10 = .ok (.iload_n 1, 1) := by decide +kernel
theorem dX6_cutOn_11 : decode cX6_cutOn 11 = .ok (.iload_n 2, 1) := by decide +kernel
theorem dX6_cutOn_12 : decode cX6_cutOn 12 = .ok (.invokestatic 64, 3) := by decide +kernel
theorem dX6_cutOn_15 : decode cX6_cutOn 15 = .ok (.iconst 1, 1) := by decide +kernel
theorem dX6_cutOn_16 : decode cX6_cutOn 16 = .ok (.iastore, 1) := by decide +kernel
theorem dX6_cutOn_17 : decode cX6_cutOn 17 = .ok (.iload_n 2, 1) := by decide +kernel
theorem dX6_cutOn_18 : decode cX6_cutOn 18 = .ok (.iconst 1, 1) := by decide +kernel
theorem dX6_cutOn_19 : decode cX6_cutOn 19 = .ok (.iadd, 1) := by decide +kernel
theorem dX6_cutOn_20 : decode cX6_cutOn 20 = .ok (.istore_n 3, 1) := by decide +kernel
theorem dX6_cutOn_21 : decode cX6_cutOn 21 = .ok (.iload_n 3, 1) := by decide +kernel
theorem dX6_cutOn_22 : decode cX6_cutOn 22 = .ok (.bipush 40, 2) := by decide +kernel
theorem dX6_cutOn_24 : decode cX6_cutOn 24 = .ok (.if_icmp .gt 17, 3) := by decide +kernel
theorem dX6_cutOn_27 : decode cX6_cutOn 27 = .ok (.aload_n 0, 1) := by decide +kernel
theorem dX6_cutOn_28 : decode cX6_cutOn 28 = .ok (.iload_n 1, 1) := by decide +kernel
theorem dX6_cutOn_29 : decode cX6_cutOn 29 = .ok (.iload_n 3, 1) := by decide +kernel
theorem dX6_cutOn_30 : decode cX6_cutOn 30 = .ok (.invokestatic 64, 3) := by decide +kernel
theorem dX6_cutOn_33 : decode cX6_cutOn 33 = .ok (.iconst 0, 1) := by decide +kernel
theorem dX6_cutOn_34 : decode cX6_cutOn 34 = .ok (.iastore, 1) := by decide +kernel
theorem dX6_cutOn_35 : decode cX6_cutOn 35 = .ok (.iinc 3 1, 3) := by decide +kernel
theorem dX6_cutOn_38 : decode cX6_cutOn 38 = .ok (.goto (-17), 3) := by decide +kernel
theorem dX6_cutOn_41 : decode cX6_cutOn 41 = .ok (.aload_n 0, 1) := by decide +kernel
theorem dX6_cutOn_42 : decode cX6_cutOn 42 = .ok (.iload_n 1, 1) := by decide +kernel
theorem dX6_cutOn_43 : decode cX6_cutOn 43 = .ok (.invokestatic 68, 3) := by decide +kernel
theorem dX6_cutOn_46 : decode cX6_cutOn 46 = .ok (.ireturn, 1) := by decide +kernel
theorem dX6_turnOn_0 : decode cX6_turnOn 0 = .ok (.aload_n 0, 1) := by decide +kernel
theorem dX6_turnOn_1 : decode cX6_turnOn 1 = .ok (.iload_n 1, 1) := by decide +kernel
theorem dX6_turnOn_2 : decode cX6_turnOn 2 = .ok (.invokestatic 54, 3) := by decide +kernel
theorem dX6_turnOn_5 : decode cX6_turnOn 5 = .ok (.istore_n 2, 1) := by decide +kernel
theorem dX6_turnOn_6 : decode cX6_turnOn 6 = .ok (.iconst 0, 1) := by decide +kernel
theorem dX6_turnOn_7 : decode cX6_turnOn 7 = .ok (.istore_n 3, 1) := by decide +kernel
theorem dX6_turnOn_8 : decode cX6_turnOn 8 = .ok (.iload_n 3, 1) := by decide +kernel
theorem dX6_turnOn_9 : decode cX6_turnOn 9 = .ok (.iload_n 2, 1) := by decide +kernel
theorem dX6_turnOn_10 : decode cX6_turnOn 10 = .ok (.iload_n 3, 1) := by decide +kernel
theorem dX6_turnOn_11 : decode cX6_turnOn 11 = .ok (.isub, 1) := by decide +kernel
theorem dX6_turnOn_12 : decode cX6_turnOn 12 = .ok (.if_icmp .ge 45, 3) := by decide +kernel
theorem dX6_turnOn_15 : decode cX6_turnOn 15 = .ok (.aload_n 0, 1) := by decide +kernel
theorem dX6_turnOn_16 : decode cX6_turnOn 16 = .ok (.iload_n 1, 1) := by decide +kernel
theorem dX6_turnOn_17 : decode cX6_turnOn 17 = .ok (.iload_n 3, 1) := by decide +kernel
theorem dX6_turnOn_18 : decode cX6_turnOn 18 = .ok (.invokestatic 64, 3) := by decide +kernel
theorem dX6_turnOn_21 : decode cX6_turnOn 21 = .ok (.iaload, 1) := by decide +kernel
theorem dX6_turnOn_22 : decode cX6_turnOn 22 = .ok (.istore 4, 2) := by decide +kernel
theorem dX6_turnOn_24 : decode cX6_turnOn 24 = .ok (.aload_n 0, 1) := by decide +kernel
theorem dX6_turnOn_25 : decode cX6_turnOn 25 = .ok (.iload_n 1, 1) := by decide +kernel
theorem dX6_turnOn_26 : decode cX6_turnOn 26 = .ok (.iload_n 3, 1) := by decide +kernel
theorem dX6_turnOn_27 : decode cX6_turnOn 27 = .ok (.invokestatic 64, 3) := by decide +kernel
theorem dX6_turnOn_30 : decode cX6_turnOn 30 = .ok (.aload_n 0, 1) := by decide +kernel
theorem dX6_turnOn_31 : decode cX6_turnOn 31 = .ok (.iload_n 1, 1) := by decide +kernel
theorem dX6_turnOn_32 : decode cX6_turnOn 32 = .ok (.iload_n 2, 1) := by decide +kernel
theorem dX6_turnOn_33 : decode cX6_turnOn 33 = .ok (.iload_n 3, 1) := by decide +kernel
theorem dX6_turnOn_34 : decode cX6_turnOn 34 = .ok (.isub, 1) := by decide +kernel
theorem dX6_turnOn_35 : decode cX6_turnOn 35 = .ok (.invokestatic 64, 3) := by decide +kernel
theorem dX6_turnOn_38 : decode cX6_turnOn 38 = .ok (.iaload, 1) := by decide +kernel
theorem dX6_turnOn_39 : decode cX6_turnOn 39 = .ok (.iastore, 1) := by decide +kernel
theorem dX6_turnOn_40 : decode cX6_turnOn 40 = .ok (.aload_n 0, 1) := by decide +kernel
theorem dX6_turnOn_41 : decode cX6_turnOn 41 = .ok (.iload_n 1, 1) := by decide +kernel
theorem dX6_turnOn_42 : decode cX6_turnOn 42 = .ok (.iload_n 2, 1) := by decide +kernel
theorem dX6_turnOn_43 : decode cX6_turnOn 43 = .ok (.iload_n 3, 1) := by decide +kernel
theorem dX6_turnOn_44 : decode cX6_turnOn 44 = .ok (.isub, 1) := by decide +kernel
theorem dX6_turnOn_45 : decode cX6_turnOn 45 = .ok (.invokestatic 64, 3) := by decide +kernel
theorem dX6_turnOn_48 : decode cX6_turnOn 48 = .ok (.iload 4, 2) := by decide +kernel
theorem dX6_turnOn_50 : decode cX6_turnOn 50 = .ok (.iastore, 1) := by decide +kernel
theorem dX6_turnOn_51 : decode cX6_turnOn 51 = .ok (.iinc 3 1, 3) := by decide +kernel
theorem dX6_turnOn_54 : decode cX6_turnOn 54 = .ok (.goto (-46), 3) := by decide +kernel
theorem dX6_turnOn_57 : decode cX6_turnOn 57 = .ok (.iconst 1, 1) := by decide +kernel
theorem dX6_turnOn_58 : decode cX6_turnOn 58 = .ok (.istore_n 3, 1) := by decide +kernel
theorem dX6_turnOn_59 : decode cX6_turnOn 59 = .ok (.aload_n 0, 1) := by decide +kernel
theorem dX6_turnOn_60 : decode cX6_turnOn 60 = .ok (.iload_n 1, 1) := by decide +kernel
theorem dX6_turnOn_61 : decode cX6_turnOn 61 = .ok (.iload_n 3, 1) := by decide +kernel
theorem dX6_turnOn_62 : decode cX6_turnOn 62 = .ok (.invokestatic 64, 3) := by decide +kernel
theorem dX6_turnOn_65 : decode cX6_turnOn 65 = .ok (.iaload, 1) := by decide +kernel
theorem dX6_turnOn_66 : decode cX6_turnOn 66 = .ok (.ifCond .ne 9, 3) := by decide +kernel
theorem dX6_turnOn_69 : decode cX6_turnOn 69 = .ok (.iinc 3 1, 3) := by decide +kernel
theorem dX6_turnOn_72 : decode cX6_turnOn 72 = .ok (.goto (-13), 3) := by decide +kernel
theorem dX6_turnOn_75 : decode cX6_turnOn 75 = .ok (.iload_n 3, 1) := by decide +kernel
theorem dX6_turnOn_76 : decode cX6_turnOn 76 = .ok (.ireturn, 1) := by decide +kernel
theorem dX6_change_0 : decode cX6_change 0 = .ok (.aload_n 0, 1) := by decide +kernel
theorem dX6_change_1 : decode cX6_change 1 = .ok (.iconst 1, 1) := by decide +kernel
theorem dX6_change_2 : decode cX6_change 2 = .ok (.iload_n 1, 1) := by decide +kernel
theorem dX6_change_3 : decode cX6_change 3 = .ok (.iadd, 1) := by decide +kernel
theorem dX6_change_4 : decode cX6_change 4 = .ok (.iaload, 1) := by decide +kernel
theorem dX6_change_5 : decode cX6_change 5 = .ok (.istore_n 3, 1) := by decide +kernel
theorem dX6_change_6 : decode cX6_change 6 = .ok (.aload_n 0, 1) := by decide +kernel
theorem dX6_change_7 : decode cX6_change 7 = .ok (.iconst 1, 1) := by decide +kernel
theorem dX6_change_8 : decode cX6_change 8 = .ok (.iload_n 1, 1) := by decide +kernel
theorem dX6_change_9 : decode cX6_change 9 = .ok (.iadd, 1) := by decide +kernel
theorem dX6_change_10 : decode cX6_change 10 = .ok (.iload_n 2, 1) := by decide +kernel
theorem dX6_change_11 : decode cX6_change 11 = .ok (.iastore, 1) := by decide +kernel
theorem dX6_change_12 : decode cX6_change 12 = .ok (.iload_n 3, 1) := by decide +kernel
theorem dX6_change_13 : decode cX6_change 13 = .ok (.ireturn, 1) := by decide +kernel
theorem dX6_append_0 : decode cX6_append 0 = .ok (.aload_n 0, 1) := by decide +kernel
theorem dX6_append_1 : decode cX6_append 1 = .ok (.iload_n 1, 1) := by decide +kernel
theorem dX6_append_2 : decode cX6_append 2 = .ok (.i2l, 1) := by decide +kernel
theorem dX6_append_3 : decode cX6_append 3 = .ok (.lconst 0, 1) := by decide +kernel
theorem dX6_append_4 : decode cX6_append 4 = .ok (.ldc2_w 106, 3) := by decide +kernel
theorem dX6_append_7 : decode cX6_append 7 = .ok (.invokestatic 46, 3) := by decide +kernel
theorem dX6_append_10 : decode cX6_append 10 = .ok (.ifCond .ne 7, 3) := by decide +kernel
theorem dX6_append_13 : decode cX6_append 13 = .ok (.iconst 1, 1) := by decide +kernel
theorem dX6_append_14 : decode cX6_append 14 = .ok (.goto 17, 3) := by decide +kernel
theorem dX6_append_17 : decode cX6_append 17 = .ok (.aload_n 0, 1) := by decide +kernel
theorem dX6_append_18 : decode cX6_append 18 = .ok (.getfield 108, 3) := by decide +kernel
theorem dX6_append_21 : decode cX6_append 21 = .ok (.bipush 120, 2) := by decide +kernel
theorem dX6_append_23 : decode cX6_append 23 = .ok (.if_icmp .ne 7, 3) := by decide +kernel
theorem dX6_append_26 : decode cX6_append 26 = .ok (.iconst 2, 1) := by decide +kernel
theorem dX6_append_27 : decode cX6_append 27 = .ok (.goto 4, 3) := by decide +kernel
theorem dX6_append_30 : decode cX6_append 30 = .ok (.iconst 0, 1) := by decide +kernel
theorem dX6_append_31 : decode cX6_append 31 = .ok (.invokevirtual 111, 3) := by decide +kernel
theorem dX6_append_34 : decode cX6_append 34 = .ok (.ifCond .eq 5, 3) := by decide +kernel
theorem dX6_append_37 : decode cX6_append 37 = .ok (.iconst 0, 1) := by decide +kernel
theorem dX6_append_38 : decode cX6_append 38 = .ok (.ireturn, 1) := by decide +kernel
theorem dX6_append_39 : decode cX6_append 39 = .ok (.aload_n 0, 1) := by decide +kernel
theorem dX6_append_40 : decode cX6_append 40 = .ok (.getfield 7, 3) := by decide +kernel
theorem dX6_append_43 : decode cX6_append 43 = .ok (.aload_n 0, 1) := by decide +kernel
theorem dX6_append_44 : decode cX6_append 44 = .ok (.getfield 108, 3) := by decide +kernel
theorem dX6_append_47 : decode cX6_append 47 = .ok (.iload_n 1, 1) := by decide +kernel
theorem dX6_append_48 : decode cX6_append 48 = .ok (.iastore, 1) := by decide +kernel
theorem dX6_append_49 : decode cX6_append 49 = .ok (.aload_n 0, 1) := by decide +kernel
theorem dX6_append_50 : decode cX6_append 50 = .ok (.dup, 1) := by decide +kernel
theorem dX6_append_51 : decode cX6_append 51 = .ok (.getfield 108, 3) := by decide +kernel
theorem dX6_append_54 : decode cX6_append 54 = .ok (.iconst 1, 1) := by decide +kernel
theorem dX6_append_55 : decode cX6_append 55 = .ok (.iadd, 1) := by decide +kernel
theorem dX6_append_56 : decode cX6_append 56 = .ok (.putfield 108, 3) := by decide +kernel
theorem dX6_append_59 : decode cX6_append 59 = .ok (.aload_n 0, 1) := by decide +kernel
theorem dX6_append_60 : decode cX6_append 60 = .ok (.getfield 108, 3) := by decide +kernel
theorem dX6_append_63 : decode cX6_append 63 = .ok (.ireturn, 1) := by decide +kernel
theorem dX6_clearText_0 : decode cX6_clearText 0 = .ok (.aload_n 0, 1) := by decide +kernel
theorem dX6_clearText_1 : decode cX6_clearText 1 = .ok (.iconst 0, 1) := by decide +kernel
theorem dX6_clearText_2 : decode cX6_clearText 2 = .ok (.putfield 42, 3) := by decide +kernel
theorem dX6_clearText_5 : decode cX6_clearText 5 = .ok (.aload_n 0, 1) := by decide +kernel
theorem dX6_clearText_6 : decode cX6_clearText 6 = .ok (.getfield 108, 3) := by decide +kernel
theorem dX6_clearText_9 : decode cX6_clearText 9 = .ok (.istore_n 1, 1) := by decide +kernel
theorem dX6_clearText_10 : decode cX6_clearText 10 = .ok (.aload_n 0, 1) := by decide +kernel
theorem dX6_clearText_11 : decode cX6_clearText 11 = .ok (.iconst 0, 1) := by decide +kernel
theorem dX6_clearText_12 : decode cX6_clearText 12 = .ok (.putfield 108, 3) := by decide +kernel
theorem dX6_clearText_15 : decode cX6_clearText 15 = .ok (.iload_n 1, 1) := by decide +kernel
theorem dX6_clearText_16 : decode cX6_clearText 16 = .ok (.ireturn, 1) := by decide +kernel
theorem dX6_figures_0 : decode cX6_figures 0 = .ok (.iconst 0, 1) := by decide +kernel
theorem dX6_figures_1 : decode cX6_figures 1 = .ok (.istore 5, 2) := by decide +kernel
theorem dX6_figures_3 : decode cX6_figures 3 = .ok (.iload_n 2, 1) := by decide +kernel
theorem dX6_figures_4 : decode cX6_figures 4 = .ok (.istore 6, 2) := by decide +kernel
theorem dX6_figures_6 : decode cX6_figures 6 = .ok (.iload 6, 2) := by decide +kernel
theorem dX6_figures_8 : decode cX6_figures 8 = .ok (.ifCond .le 104, 3) := by decide +kernel
theorem dX6_figures_11 : decode cX6_figures 11 = .ok (.iload_n 1, 1) := by decide +kernel
theorem dX6_figures_12 : decode cX6_figures 12 = .ok (.iconst (-1), 1) := by decide +kernel
theorem dX6_figures_13 : decode cX6_figures 13 = .ok (.if_icmp .eq 99, 3) := by decide +kernel
theorem dX6_figures_16 : decode cX6_figures 16 = .ok (.aload_n 0, 1) := by decide +kernel
theorem dX6_figures_17 : decode cX6_figures 17 = .ok (.getfield 115, 3) := by decide +kernel
theorem dX6_figures_20 : decode cX6_figures 20 = .ok (.aload_n 0, 1) := by decide +kernel
theorem dX6_figures_21 : decode cX6_figures 21 = .ok (.getfield 108, 3) := by decide +kernel
theorem dX6_figures_24 : decode cX6_figures 24 = .ok (.if_icmp .ge 18, 3) := by decide +kernel
theorem dX6_figures_27 : decode cX6_figures 27 = .ok (.aload_n 0, 1) := by decide +kernel
theorem dX6_figures_28 : decode cX6_figures 28 = .ok (.getfield 7, 3) := by decide +kernel
theorem dX6_figures_31 : decode cX6_figures 31 = .ok (.aload_n 0, 1) := by decide +kernel
theorem dX6_figures_32 : decode cX6_figures 32 = .ok (.getfield 115, 3) := by decide +kernel
theorem dX6_figures_35 : decode cX6_figures 35 = .ok (.iaload, 1) := by decide +kernel
theorem dX6_figures_36 : decode cX6_figures 36 = .ok (.bipush 48, 2) := by decide +kernel
theorem dX6_figures_38 : decode cX6_figures 38 = .ok (.isub, 1) := by decide +kernel
theorem dX6_figures_39 : decode cX6_figures 39 = .ok (.goto 4, 3) := by decide +kernel
theorem dX6_figures_42 : decode cX6_figures 42 = .ok (.iconst (-1), 1) := by decide +kernel
theorem dX6_figures_43 : decode cX6_figures 43 = .ok (.istore 7, 2) := by decide +kernel
theorem dX6_figures_45 : decode cX6_figures 45 = .ok (.iload 5, 2) := by decide +kernel
theorem dX6_figures_47 : decode cX6_figures 47 = .ok (.iload 7, 2) := by decide +kernel
theorem dX6_figures_49 : decode cX6_figures 49 = .ok (.iload 6, 2) := by decide +kernel
theorem dX6_figures_51 : decode cX6_figures 51 = .ok (.imul, 1) := by decide +kernel
theorem dX6_figures_52 : decode cX6_figures 52 = .ok (.iadd, 1) := by decide +kernel
theorem dX6_figures_53 : decode cX6_figures 53 = .ok (.istore 8, 2) := by decide +kernel
theorem dX6_figures_55 : decode cX6_figures 55 = .ok (.iload 7, 2) := by decide +kernel
theorem dX6_figures_57 : decode cX6_figures 57 = .ok (.i2l, 1) := by decide +kernel
theorem dX6_figures_58 : decode cX6_figures 58 = .ok (.lconst 0, 1) := by decide +kernel
theorem dX6_figures_59 : decode cX6_figures 59 = .ok (.ldc2_w 118, 3) := by decide +kernel
theorem dX6_figures_62 : decode cX6_figures 62 = .ok (.invokestatic 46, 3) := by decide +kernel
theorem dX6_figures_65 : decode cX6_figures 65 = .ok (.ifCond .eq 21, 3) := by decide +kernel
theorem dX6_figures_68 : decode cX6_figures 68 = .ok (.iload 8, 2) := by decide +kernel
theorem dX6_figures_70 : decode cX6_figures 70 = .ok (.iload 4, 2) := by decide +kernel
theorem dX6_figures_72 : decode cX6_figures 72 = .ok (.if_icmp .gt 14, 3) := by decide +kernel
theorem dX6_figures_75 : decode cX6_figures 75 = .ok (.iload 8, 2) := by decide +kernel
theorem dX6_figures_77 : decode cX6_figures 77 = .ok (.iload 6, 2) := by decide +kernel
theorem dX6_figures_79 : decode cX6_figures 79 = .ok (.iadd, 1) := by decide +kernel
theorem dX6_figures_80 : decode cX6_figures 80 = .ok (.iconst 1, 1) := by decide +kernel
theorem dX6_figures_81 : decode cX6_figures 81 = .ok (.isub, 1) := by decide +kernel
theorem dX6_figures_82 : decode cX6_figures 82 = .ok (.iload_n 3, 1) := by decide +kernel
theorem dX6_figures_83 : decode cX6_figures 83 = .ok (.if_icmp .ge 5, 3) := by decide +kernel
theorem dX6_figures_86 : decode cX6_figures 86 = .ok (.iconst (-1), 1) := by decide +kernel
theorem dX6_figures_87 : decode cX6_figures 87 = .ok (.ireturn, 1) := by decide +kernel
theorem dX6_figures_88 : decode cX6_figures 88 = .ok (.iload 8, 2) := by decide +kernel
theorem dX6_figures_90 : decode cX6_figures 90 = .ok (.istore 5, 2) := by decide +kernel
theorem dX6_figures_92 : decode cX6_figures 92 = .ok (.aload_n 0, 1) := by decide +kernel
theorem dX6_figures_93 : decode cX6_figures 93 = .ok (.dup, 1) := by decide +kernel
theorem dX6_figures_94 : decode cX6_figures 94 = .ok (.getfield 115, 3) := by decide +kernel
theorem dX6_figures_97 : decode cX6_figures 97 = .ok (.iconst 1, 1) := by decide +kernel
theorem dX6_figures_98 : decode cX6_figures 98 = .ok (.iadd, 1) := by decide +kernel
theorem dX6_figures_99 : decode cX6_figures 99 = .ok (.putfield 115, 3) := by decide +kernel
theorem dX6_figures_102 : decode cX6_figures 102 = .ok (.iload 6, 2) := by decide +kernel
theorem dX6_figures_104 : decode cX6_figures 104 = .ok (.bipush 10, 2) := by decide +kernel
theorem dX6_figures_106 : decode cX6_figures 106 = .ok (.idiv, 1) := by decide +kernel
theorem dX6_figures_107 : decode cX6_figures 107 = .ok (.istore 6, 2) := by decide +kernel
theorem dX6_figures_109 : decode cX6_figures 109 = .ok (.goto (-103), 3) := by decide +kernel
theorem dX6_figures_112 : decode cX6_figures 112 = .ok (.iload_n 1, 1) := by decide +kernel
theorem dX6_figures_113 : decode cX6_figures 113 = .ok (.iconst (-1), 1) := by decide +kernel
theorem dX6_figures_114 : decode cX6_figures 114 = .ok (.if_icmp .ne 7, 3) := by decide +kernel
theorem dX6_figures_117 : decode cX6_figures 117 = .ok (.iconst (-1), 1) := by decide +kernel
theorem dX6_figures_118 : decode cX6_figures 118 = .ok (.goto 5, 3) := by decide +kernel
theorem dX6_figures_121 : decode cX6_figures 121 = .ok (.iload 5, 2) := by decide +kernel
theorem dX6_figures_123 : decode cX6_figures 123 = .ok (.ireturn, 1) := by decide +kernel
theorem dX6_done_0 : decode cX6_done 0 = .ok (.aload_n 0, 1) := by decide +kernel
theorem dX6_done_1 : decode cX6_done 1 = .ok (.dup, 1) := by decide +kernel
theorem dX6_done_2 : decode cX6_done 2 = .ok (.getfield 120, 3) := by decide +kernel
theorem dX6_done_5 : decode cX6_done 5 = .ok (.iload_n 1, 1) := by decide +kernel
theorem dX6_done_6 : decode cX6_done 6 = .ok (.ifCond .eq 7, 3) := by decide +kernel
theorem dX6_done_9 : decode cX6_done 9 = .ok (.iconst 0, 1) := by decide +kernel
theorem dX6_done_10 : decode cX6_done 10 = .ok (.goto 4, 3) := by decide +kernel
theorem dX6_done_13 : decode cX6_done 13 = .ok (.iconst 1, 1) := by decide +kernel
theorem dX6_done_14 : decode cX6_done 14 = .ok (.iadd, 1) := by decide +kernel
theorem dX6_done_15 : decode cX6_done 15 = .ok (.putfield 120, 3) := by decide +kernel
theorem dX6_done_18 : decode cX6_done 18 = .ok (.iconst 1, 1) := by decide +kernel
theorem dX6_done_19 : decode cX6_done 19 = .ok (.ireturn, 1) := by decide +kernel
theorem dX6_readMark_0 : decode cX6_readMark 0 = .ok (.aload_n 0, 1) := by decide +kernel
theorem dX6_readMark_1 : decode cX6_readMark 1 = .ok (.iconst 0, 1) := by decide +kernel
theorem dX6_readMark_2 : decode cX6_readMark 2 = .ok (.iconst 1, 1) := by decide +kernel
theorem dX6_readMark_3 : decode cX6_readMark 3 = .ok (.iconst 0, 1) := by decide +kernel
theorem dX6_readMark_4 : decode cX6_readMark 4 = .ok (.iconst 3, 1) := by decide +kernel
theorem dX6_readMark_5 : decode cX6_readMark 5 = .ok (.invokevirtual 123, 3) := by decide +kernel
theorem dX6_readMark_8 : decode cX6_readMark 8 = .ok (.istore_n 3, 1) := by decide +kernel
theorem dX6_readMark_9 : decode cX6_readMark 9 = .ok (.aload_n 0, 1) := by decide +kernel
theorem dX6_readMark_10 : decode cX6_readMark 10 = .ok (.iload_n 3, 1) := by decide +kernel
theorem dX6_readMark_11 : decode cX6_readMark 11 = .ok (.bipush 10, 2) := by decide +kernel
theorem dX6_readMark_13 : decode cX6_readMark 13 = .ok (.iconst 0, 1) := by decide +kernel
theorem dX6_readMark_14 : decode cX6_readMark 14 = .ok (.bipush 40, 2) := by decide +kernel
theorem dX6_readMark_16 : decode cX6_readMark 16 = .ok (.invokevirtual 123, 3) := by decide +kernel
theorem dX6_readMark_19 : decode cX6_readMark 19 = .ok (.istore 4, 2) := by decide +kernel
theorem dX6_readMark_21 : decode cX6_readMark 21 = .ok (.iload 4, 2) := by decide +kernel
theorem dX6_readMark_23 : decode cX6_readMark 23 = .ok (.iconst (-1), 1) := by decide +kernel
theorem dX6_readMark_24 : decode cX6_readMark 24 = .ok (.if_icmp .eq 41, 3) := by decide +kernel
theorem dX6_readMark_27 : decode cX6_readMark 27 = .ok (.aload_n 0, 1) := by decide +kernel
theorem dX6_readMark_28 : decode cX6_readMark 28 = .ok (.aload_n 1, 1) := by decide +kernel
theorem dX6_readMark_29 : decode cX6_readMark 29 = .ok (.iload_n 3, 1) := by decide +kernel
theorem dX6_readMark_30 : decode cX6_readMark 30 = .ok (.iload 4, 2) := by decide +kernel
theorem dX6_readMark_32 : decode cX6_readMark 32 = .ok (.iload_n 2, 1) := by decide +kernel
theorem dX6_readMark_33 : decode cX6_readMark 33 = .ok (.invokestatic 127, 3) := by decide +kernel
theorem dX6_readMark_36 : decode cX6_readMark 36 = .ok (.ifCond .eq 18, 3) := by decide +kernel
theorem dX6_readMark_39 : decode cX6_readMark 39 = .ok (.aload_n 1, 1) := by decide +kernel
theorem dX6_readMark_40 : decode cX6_readMark 40 = .ok (.iload_n 3, 1) := by decide +kernel
theorem dX6_readMark_41 : decode cX6_readMark 41 = .ok (.iload 4, 2) := by decide +kernel
theorem dX6_readMark_43 : decode cX6_readMark 43 = .ok (.iload_n 2, 1) := by decide +kernel
theorem dX6_readMark_44 : decode cX6_readMark 44 = .ok (.invokestatic 131, 3) := by decide +kernel
theorem dX6_readMark_47 : decode cX6_readMark 47 = .ok (.ifCond .le 7, 3) := by decide +kernel
theorem dX6_readMark_50 : decode cX6_readMark 50 = .ok (.iconst 1, 1) := by decide +kernel
theorem dX6_readMark_51 : decode cX6_readMark 51 = .ok (.goto 4, 3) := by decide +kernel
theorem dX6_readMark_54 : decode cX6_readMark 54 = .ok (.iconst 0, 1) := by decide +kernel
theorem dX6_readMark_55 : decode cX6_readMark 55 = .ok (.invokevirtual 135, 3) := by decide +kernel
theorem dX6_readMark_58 : decode cX6_readMark 58 = .ok (.ifCond .eq 7, 3) := by decide +kernel
theorem dX6_readMark_61 : decode cX6_readMark 61 = .ok (.iconst 1, 1) := by decide +kernel
theorem dX6_readMark_62 : decode cX6_readMark 62 = .ok (.goto 4, 3) := by decide +kernel
theorem dX6_readMark_65 : decode cX6_readMark 65 = .ok (.iconst 0, 1) := by decide +kernel
theorem dX6_readMark_66 : decode cX6_readMark 66 = .ok (.ireturn, 1) := by decide +kernel
theorem dX6_readCommand_0 : decode cX6_readCommand 0 = .ok (.aload_n 0, 1) := by decide +kernel
theorem dX6_readCommand_1 : decode cX6_readCommand 1 = .ok (.getfield 7, 3) := by decide +kernel
theorem dX6_readCommand_4 : decode cX6_readCommand 4 = .ok (.aload_n 0, 1) := by decide +kernel
theorem dX6_readCommand_5 : decode cX6_readCommand 5 = .ok (.getfield 115, 3) := by decide +kernel
theorem dX6_readCommand_8 : decode cX6_readCommand 8 = .ok (.iaload, 1) := by decide +kernel
theorem dX6_readCommand_9 : decode cX6_readCommand 9 = .ok (.istore_n 2, 1) := by decide +kernel
theorem dX6_readCommand_10 : decode cX6_readCommand 10 = .ok (.aload_n 0, 1) := by decide +kernel
theorem dX6_readCommand_11 : decode cX6_readCommand 11 = .ok (.dup, 1) := by decide +kernel
theorem dX6_readCommand_12 : decode cX6_readCommand 12 = .ok (.getfield 115, 3) := by decide +kernel
theorem dX6_readCommand_15 : decode cX6_readCommand 15 = .ok (.iconst 1, 1) := by decide +kernel
theorem dX6_readCommand_16 : decode cX6_readCommand 16 = .ok (.iadd, 1) := by decide +kernel
theorem dX6_readCommand_17 : decode cX6_readCommand 17 = .ok (.putfield 115, 3) := by decide +kernel
theorem dX6_readCommand_20 : decode cX6_readCommand 20 = .ok (.iload_n 2, 1) := by decide +kernel
theorem dX6_readCommand_21 : decode cX6_readCommand 21 = .ok (.tableswitch 377 99 120 #[169, 377, 377, 377, 332, 377, 377, 377, 377, 377, 152, 377, 377, 377, 377, 103, 290, 242, 377, 377, 377, 152], 103) := by decide +kernel
theorem dX6_readCommand_124 : decode cX6_readCommand 124 = .ok (.aload_n 0, 1) := by decide +kernel
theorem dX6_readCommand_125 : decode cX6_readCommand 125 = .ok (.iconst 0, 1) := by decide +kernel
theorem dX6_readCommand_126 : decode cX6_readCommand 126 = .ok (.bipush 10, 2) := by decide +kernel
theorem dX6_readCommand_128 : decode cX6_readCommand 128 = .ok (.iconst 2, 1) := by decide +kernel
theorem dX6_readCommand_129 : decode cX6_readCommand 129 = .ok (.bipush 40, 2) := by decide +kernel
theorem dX6_readCommand_131 : decode cX6_readCommand 131 = .ok (.invokevirtual 123, 3) := by decide +kernel
theorem dX6_readCommand_134 : decode cX6_readCommand 134 = .ok (.istore_n 3, 1) := by decide +kernel
theorem dX6_readCommand_135 : decode cX6_readCommand 135 = .ok (.iload_n 3, 1) := by decide +kernel
theorem dX6_readCommand_136 : decode cX6_readCommand 136 = .ok (.iconst (-1), 1) := by decide +kernel
theorem dX6_readCommand_137 : decode cX6_readCommand 137 = .ok (.if_icmp .eq 34, 3) := by decide +kernel
theorem dX6_readCommand_140 : decode cX6_readCommand 140 = .ok (.aload_n 0, 1) := by decide +kernel
theorem dX6_readCommand_141 : decode cX6_readCommand 141 = .ok (.aload_n 1, 1) := by decide +kernel
theorem dX6_readCommand_142 : decode cX6_readCommand 142 = .ok (.iconst 0, 1) := by decide +kernel
theorem dX6_readCommand_143 : decode cX6_readCommand 143 = .ok (.iaload, 1) := by decide +kernel
theorem dX6_readCommand_144 : decode cX6_readCommand 144 = .ok (.iconst 4, 1) := by decide +kernel
theorem dX6_readCommand_145 : decode cX6_readCommand 145 = .ok (.if_icmp .ge 15, 3) := by decide +kernel
theorem dX6_readCommand_148 : decode cX6_readCommand 148 = .ok (.aload_n 1, 1) := by decide +kernel
theorem dX6_readCommand_149 : decode cX6_readCommand 149 = .ok (.iload_n 3, 1) := by decide +kernel
theorem dX6_readCommand_150 : decode cX6_readCommand 150 = .ok (.invokestatic 139, 3) := by decide +kernel
theorem dX6_readCommand_153 : decode cX6_readCommand 153 = .ok (.ifCond .lt 7, 3) := by decide +kernel
theorem dX6_readCommand_156 : decode cX6_readCommand 156 = .ok (.iconst 1, 1) := by decide +kernel
theorem dX6_readCommand_157 : decode cX6_readCommand 157 = .ok (.goto 4, 3) := by decide +kernel
theorem dX6_readCommand_160 : decode cX6_readCommand 160 = .ok (.iconst 0, 1) := by decide +kernel
theorem dX6_readCommand_161 : decode cX6_readCommand 161 = .ok (.invokevirtual 135, 3) := by decide +kernel
theorem dX6_readCommand_164 : decode cX6_readCommand 164 = .ok (.ifCond .eq 7, 3) := by decide +kernel
theorem dX6_readCommand_167 : decode cX6_readCommand 167 = .ok (.iconst 1, 1) := by decide +kernel
theorem dX6_readCommand_168 : decode cX6_readCommand 168 = .ok (.goto 4, 3) := by decide +kernel
theorem dX6_readCommand_171 : decode cX6_readCommand 171 = .ok (.iconst 0, 1) := by decide +kernel
theorem dX6_readCommand_172 : decode cX6_readCommand 172 = .ok (.ireturn, 1) := by decide +kernel
theorem dX6_readCommand_173 : decode cX6_readCommand 173 = .ok (.aload_n 0, 1) := by decide +kernel
theorem dX6_readCommand_174 : decode cX6_readCommand 174 = .ok (.aload_n 1, 1) := by decide +kernel
theorem dX6_readCommand_175 : decode cX6_readCommand 175 = .ok (.iload_n 2, 1) := by decide +kernel
theorem dX6_readCommand_176 : decode cX6_readCommand 176 = .ok (.bipush 109, 2) := by decide +kernel
theorem dX6_readCommand_178 : decode cX6_readCommand 178 = .ok (.if_icmp .ne 7, 3) := by decide +kernel
theorem dX6_readCommand_181 : decode cX6_readCommand 181 = .ok (.iconst 1, 1) := by decide +kernel
theorem dX6_readCommand_182 : decode cX6_readCommand 182 = .ok (.goto 4, 3) := by decide +kernel
theorem dX6_readCommand_185 : decode cX6_readCommand 185 = .ok (.iconst 0, 1) := by decide +kernel
theorem dX6_readCommand_186 : decode cX6_readCommand 186 = .ok (.invokevirtual 142, 3) := by decide +kernel
theorem dX6_readCommand_189 : decode cX6_readCommand 189 = .ok (.ireturn, 1) := by decide +kernel
theorem dX6_readCommand_190 : decode cX6_readCommand 190 = .ok (.aload_n 0, 1) := by decide +kernel
theorem dX6_readCommand_191 : decode cX6_readCommand 191 = .ok (.iconst 0, 1) := by decide +kernel
theorem dX6_readCommand_192 : decode cX6_readCommand 192 = .ok (.iconst 1, 1) := by decide +kernel
theorem dX6_readCommand_193 : decode cX6_readCommand 193 = .ok (.iconst 0, 1) := by decide +kernel
theorem dX6_readCommand_194 : decode cX6_readCommand 194 = .ok (.iconst 3, 1) := by decide +kernel
theorem dX6_readCommand_195 : decode cX6_readCommand 195 = .ok (.invokevirtual 123, 3) := by decide +kernel
theorem dX6_readCommand_198 : decode cX6_readCommand 198 = .ok (.istore_n 3, 1) := by decide +kernel
theorem dX6_readCommand_199 : decode cX6_readCommand 199 = .ok (.aload_n 0, 1) := by decide +kernel
theorem dX6_readCommand_200 : decode cX6_readCommand 200 = .ok (.iload_n 3, 1) := by decide +kernel
theorem dX6_readCommand_201 : decode cX6_readCommand 201 = .ok (.bipush 10, 2) := by decide +kernel
theorem dX6_readCommand_203 : decode cX6_readCommand 203 = .ok (.iconst 2, 1) := by decide +kernel
theorem dX6_readCommand_204 : decode cX6_readCommand 204 = .ok (.bipush 40, 2) := by decide +kernel
theorem dX6_readCommand_206 : decode cX6_readCommand 206 = .ok (.invokevirtual 123, 3) := by decide +kernel
theorem dX6_readCommand_209 : decode cX6_readCommand 209 = .ok (.istore 4, 2) := by decide +kernel
theorem dX6_readCommand_211 : decode cX6_readCommand 211 = .ok (.iload 4, 2) := by decide +kernel
theorem dX6_readCommand_213 : decode cX6_readCommand 213 = .ok (.iconst (-1), 1) := by decide +kernel
theorem dX6_readCommand_214 : decode cX6_readCommand 214 = .ok (.if_icmp .eq 47, 3) := by decide +kernel
theorem dX6_readCommand_217 : decode cX6_readCommand 217 = .ok (.aload_n 0, 1) := by decide +kernel
theorem dX6_readCommand_218 : decode cX6_readCommand 218 = .ok (.aload_n 1, 1) := by decide +kernel
theorem dX6_readCommand_219 : decode cX6_readCommand 219 = .ok (.iload_n 3, 1) := by decide +kernel
theorem dX6_readCommand_220 : decode cX6_readCommand 220 = .ok (.invokestatic 50, 3) := by decide +kernel
theorem dX6_readCommand_223 : decode cX6_readCommand 223 = .ok (.ifCond .eq 27, 3) := by decide +kernel
theorem dX6_readCommand_226 : decode cX6_readCommand 226 = .ok (.iload 4, 2) := by decide +kernel
theorem dX6_readCommand_228 : decode cX6_readCommand 228 = .ok (.aload_n 1, 1) := by decide +kernel
theorem dX6_readCommand_229 : decode cX6_readCommand 229 = .ok (.iload_n 3, 1) := by decide +kernel
theorem dX6_readCommand_230 : decode cX6_readCommand 230 = .ok (.invokestatic 54, 3) := by decide +kernel
theorem dX6_readCommand_233 : decode cX6_readCommand 233 = .ok (.if_icmp .gt 17, 3) := by decide +kernel
theorem dX6_readCommand_236 : decode cX6_readCommand 236 = .ok (.aload_n 1, 1) := by decide +kernel
theorem dX6_readCommand_237 : decode cX6_readCommand 237 = .ok (.iload_n 3, 1) := by decide +kernel
theorem dX6_readCommand_238 : decode cX6_readCommand 238 = .ok (.iload 4, 2) := by decide +kernel
theorem dX6_readCommand_240 : decode cX6_readCommand 240 = .ok (.invokestatic 146, 3) := by decide +kernel
theorem dX6_readCommand_243 : decode cX6_readCommand 243 = .ok (.ifCond .le 7, 3) := by decide +kernel
theorem dX6_readCommand_246 : decode cX6_readCommand 246 = .ok (.iconst 1, 1) := by decide +kernel
theorem dX6_readCommand_247 : decode cX6_readCommand 247 = .ok (.goto 4, 3) := by decide +kernel
theorem dX6_readCommand_250 : decode cX6_readCommand 250 = .ok (.iconst 0, 1) := by decide +kernel
theorem dX6_readCommand_251 : decode cX6_readCommand 251 = .ok (.invokevirtual 135, 3) := by decide +kernel
theorem dX6_readCommand_254 : decode cX6_readCommand 254 = .ok (.ifCond .eq 7, 3) := by decide +kernel
theorem dX6_readCommand_257 : decode cX6_readCommand 257 = .ok (.iconst 1, 1) := by decide +kernel
theorem dX6_readCommand_258 : decode cX6_readCommand 258 = .ok (.goto 4, 3) := by decide +kernel
theorem dX6_readCommand_261 : decode cX6_readCommand 261 = .ok (.iconst 0, 1) := by decide +kernel
theorem dX6_readCommand_262 : decode cX6_readCommand 262 = .ok (.ireturn, 1) := by decide +kernel
theorem dX6_readCommand_263 : decode cX6_readCommand 263 = .ok (.aload_n 0, 1) := by decide +kernel
theorem dX6_readCommand_264 : decode cX6_readCommand 264 = .ok (.iconst 0, 1) := by decide +kernel
theorem dX6_readCommand_265 : decode cX6_readCommand 265 = .ok (.iconst 1, 1) := by decide +kernel
theorem dX6_readCommand_266 : decode cX6_readCommand 266 = .ok (.iconst 0, 1) := by decide +kernel
theorem dX6_readCommand_267 : decode cX6_readCommand 267 = .ok (.iconst 3, 1) := by decide +kernel
theorem dX6_readCommand_268 : decode cX6_readCommand 268 = .ok (.invokevirtual 123, 3) := by decide +kernel
theorem dX6_readCommand_271 : decode cX6_readCommand 271 = .ok (.istore_n 3, 1) := by decide +kernel
theorem dX6_readCommand_272 : decode cX6_readCommand 272 = .ok (.iload_n 3, 1) := by decide +kernel
theorem dX6_readCommand_273 : decode cX6_readCommand 273 = .ok (.iconst (-1), 1) := by decide +kernel
theorem dX6_readCommand_274 : decode cX6_readCommand 274 = .ok (.if_icmp .eq 35, 3) := by decide +kernel
theorem dX6_readCommand_277 : decode cX6_readCommand 277 = .ok (.aload_n 0, 1) := by decide +kernel
theorem dX6_readCommand_278 : decode cX6_readCommand 278 = .ok (.aload_n 1, 1) := by decide +kernel
theorem dX6_readCommand_279 : decode cX6_readCommand 279 = .ok (.iload_n 3, 1) := by decide +kernel
theorem dX6_readCommand_280 : decode cX6_readCommand 280 = .ok (.invokestatic 50, 3) := by decide +kernel
theorem dX6_readCommand_283 : decode cX6_readCommand 283 = .ok (.ifCond .eq 15, 3) := by decide +kernel
theorem dX6_readCommand_286 : decode cX6_readCommand 286 = .ok (.aload_n 1, 1) := by decide +kernel
theorem dX6_readCommand_287 : decode cX6_readCommand 287 = .ok (.iload_n 3, 1) := by decide +kernel
theorem dX6_readCommand_288 : decode cX6_readCommand 288 = .ok (.invokestatic 150, 3) := by decide +kernel
theorem dX6_readCommand_291 : decode cX6_readCommand 291 = .ok (.ifCond .le 7, 3) := by decide +kernel
theorem dX6_readCommand_294 : decode cX6_readCommand 294 = .ok (.iconst 1, 1) := by decide +kernel
theorem dX6_readCommand_295 : decode cX6_readCommand 295 = .ok (.goto 4, 3) := by decide +kernel
theorem dX6_readCommand_298 : decode cX6_readCommand 298 = .ok (.iconst 0, 1) := by decide +kernel
theorem dX6_readCommand_299 : decode cX6_readCommand 299 = .ok (.invokevirtual 135, 3) := by decide +kernel
theorem dX6_readCommand_302 : decode cX6_readCommand 302 = .ok (.ifCond .eq 7, 3) := by decide +kernel
theorem dX6_readCommand_305 : decode cX6_readCommand 305 = .ok (.iconst 1, 1) := by decide +kernel
theorem dX6_readCommand_306 : decode cX6_readCommand 306 = .ok (.goto 4, 3) := by decide +kernel
theorem dX6_readCommand_309 : decode cX6_readCommand 309 = .ok (.iconst 0, 1) := by decide +kernel
theorem dX6_readCommand_310 : decode cX6_readCommand 310 = .ok (.ireturn, 1) := by decide +kernel
theorem dX6_readCommand_311 : decode cX6_readCommand 311 = .ok (.aload_n 0, 1) := by decide +kernel
theorem dX6_readCommand_312 : decode cX6_readCommand 312 = .ok (.iconst 0, 1) := by decide +kernel
theorem dX6_readCommand_313 : decode cX6_readCommand 313 = .ok (.iconst 1, 1) := by decide +kernel
theorem dX6_readCommand_314 : decode cX6_readCommand 314 = .ok (.iconst 1, 1) := by decide +kernel
theorem dX6_readCommand_315 : decode cX6_readCommand 315 = .ok (.bipush 6, 2) := by decide +kernel
theorem dX6_readCommand_317 : decode cX6_readCommand 317 = .ok (.invokevirtual 123, 3) := by decide +kernel
theorem dX6_readCommand_320 : decode cX6_readCommand 320 = .ok (.istore_n 3, 1) := by decide +kernel
theorem dX6_readCommand_321 : decode cX6_readCommand 321 = .ok (.iload_n 3, 1) := by decide +kernel
theorem dX6_readCommand_322 : decode cX6_readCommand 322 = .ok (.iconst (-1), 1) := by decide +kernel
theorem dX6_readCommand_323 : decode cX6_readCommand 323 = .ok (.if_icmp .eq 28, 3) := by decide +kernel
theorem dX6_readCommand_326 : decode cX6_readCommand 326 = .ok (.aload_n 0, 1) := by decide +kernel
theorem dX6_readCommand_327 : decode cX6_readCommand 327 = .ok (.aload_n 1, 1) := by decide +kernel
theorem dX6_readCommand_328 : decode cX6_readCommand 328 = .ok (.iconst 0, 1) := by decide +kernel
theorem dX6_readCommand_329 : decode cX6_readCommand 329 = .ok (.iload_n 3, 1) := by decide +kernel
theorem dX6_readCommand_330 : decode cX6_readCommand 330 = .ok (.invokestatic 153, 3) := by decide +kernel
theorem dX6_readCommand_333 : decode cX6_readCommand 333 = .ok (.ifCond .le 7, 3) := by decide +kernel
theorem dX6_readCommand_336 : decode cX6_readCommand 336 = .ok (.iconst 1, 1) := by decide +kernel
theorem dX6_readCommand_337 : decode cX6_readCommand 337 = .ok (.goto 4, 3) := by decide +kernel
theorem dX6_readCommand_340 : decode cX6_readCommand 340 = .ok (.iconst 0, 1) := by decide +kernel
theorem dX6_readCommand_341 : decode cX6_readCommand 341 = .ok (.invokevirtual 135, 3) := by decide +kernel
theorem dX6_readCommand_344 : decode cX6_readCommand 344 = .ok (.ifCond .eq 7, 3) := by decide +kernel
theorem dX6_readCommand_347 : decode cX6_readCommand 347 = .ok (.iconst 1, 1) := by decide +kernel
theorem dX6_readCommand_348 : decode cX6_readCommand 348 = .ok (.goto 4, 3) := by decide +kernel
theorem dX6_readCommand_351 : decode cX6_readCommand 351 = .ok (.iconst 0, 1) := by decide +kernel
theorem dX6_readCommand_352 : decode cX6_readCommand 352 = .ok (.ireturn, 1) := by decide +kernel
theorem dX6_readCommand_353 : decode cX6_readCommand 353 = .ok (.aload_n 0, 1) := by decide +kernel
theorem dX6_readCommand_354 : decode cX6_readCommand 354 = .ok (.iconst 0, 1) := by decide +kernel
theorem dX6_readCommand_355 : decode cX6_readCommand 355 = .ok (.bipush 100, 2) := by decide +kernel
theorem dX6_readCommand_357 : decode cX6_readCommand 357 = .ok (.bipush 10, 2) := by decide +kernel
theorem dX6_readCommand_359 : decode cX6_readCommand 359 = .ok (.sipush 150, 3) := by decide +kernel
theorem dX6_readCommand_362 : decode cX6_readCommand 362 = .ok (.invokevirtual 123, 3) := by decide +kernel
theorem dX6_readCommand_365 : decode cX6_readCommand 365 = .ok (.istore_n 3, 1) := by decide +kernel
theorem dX6_readCommand_366 : decode cX6_readCommand 366 = .ok (.iload_n 3, 1) := by decide +kernel
theorem dX6_readCommand_367 : decode cX6_readCommand 367 = .ok (.iconst (-1), 1) := by decide +kernel
theorem dX6_readCommand_368 : decode cX6_readCommand 368 = .ok (.if_icmp .eq 28, 3) := by decide +kernel
theorem dX6_readCommand_371 : decode cX6_readCommand 371 = .ok (.aload_n 0, 1) := by decide +kernel
theorem dX6_readCommand_372 : decode cX6_readCommand 372 = .ok (.aload_n 1, 1) := by decide +kernel
theorem dX6_readCommand_373 : decode cX6_readCommand 373 = .ok (.iconst 1, 1) := by decide +kernel
theorem dX6_readCommand_374 : decode cX6_readCommand 374 = .ok (.iload_n 3, 1) := by decide +kernel
theorem dX6_readCommand_375 : decode cX6_readCommand 375 = .ok (.invokestatic 153, 3) := by decide +kernel
theorem dX6_readCommand_378 : decode cX6_readCommand 378 = .ok (.ifCond .le 7, 3) := by decide +kernel
theorem dX6_readCommand_381 : decode cX6_readCommand 381 = .ok (.iconst 1, 1) := by decide +kernel
theorem dX6_readCommand_382 : decode cX6_readCommand 382 = .ok (.goto 4, 3) := by decide +kernel
theorem dX6_readCommand_385 : decode cX6_readCommand 385 = .ok (.iconst 0, 1) := by decide +kernel
theorem dX6_readCommand_386 : decode cX6_readCommand 386 = .ok (.invokevirtual 135, 3) := by decide +kernel
theorem dX6_readCommand_389 : decode cX6_readCommand 389 = .ok (.ifCond .eq 7, 3) := by decide +kernel
theorem dX6_readCommand_392 : decode cX6_readCommand 392 = .ok (.iconst 1, 1) := by decide +kernel
theorem dX6_readCommand_393 : decode cX6_readCommand 393 = .ok (.goto 4, 3) := by decide +kernel
theorem dX6_readCommand_396 : decode cX6_readCommand 396 = .ok (.iconst 0, 1) := by decide +kernel
theorem dX6_readCommand_397 : decode cX6_readCommand 397 = .ok (.ireturn, 1) := by decide +kernel
theorem dX6_readCommand_398 : decode cX6_readCommand 398 = .ok (.aload_n 0, 1) := by decide +kernel
theorem dX6_readCommand_399 : decode cX6_readCommand 399 = .ok (.dup, 1) := by decide +kernel
theorem dX6_readCommand_400 : decode cX6_readCommand 400 = .ok (.getfield 115, 3) := by decide +kernel
theorem dX6_readCommand_403 : decode cX6_readCommand 403 = .ok (.iconst 1, 1) := by decide +kernel
theorem dX6_readCommand_404 : decode cX6_readCommand 404 = .ok (.isub, 1) := by decide +kernel
theorem dX6_readCommand_405 : decode cX6_readCommand 405 = .ok (.putfield 115, 3) := by decide +kernel
theorem dX6_readCommand_408 : decode cX6_readCommand 408 = .ok (.iconst 0, 1) := by decide +kernel
theorem dX6_readCommand_409 : decode cX6_readCommand 409 = .ok (.ireturn, 1) := by decide +kernel
theorem dX6_readText_0 : decode cX6_readText 0 = .ok (.aload_n 1, 1) := by decide +kernel
theorem dX6_readText_1 : decode cX6_readText 1 = .ok (.invokestatic 38, 3) := by decide +kernel
theorem dX6_readText_4 : decode cX6_readText 4 = .ok (.aload_n 0, 1) := by decide +kernel
theorem dX6_readText_5 : decode cX6_readText 5 = .ok (.iconst 0, 1) := by decide +kernel
theorem dX6_readText_6 : decode cX6_readText 6 = .ok (.putfield 120, 3) := by decide +kernel
theorem dX6_readText_9 : decode cX6_readText 9 = .ok (.aload_n 0, 1) := by decide +kernel
theorem dX6_readText_10 : decode cX6_readText 10 = .ok (.iconst 0, 1) := by decide +kernel
theorem dX6_readText_11 : decode cX6_readText 11 = .ok (.putfield 115, 3) := by decide +kernel
theorem dX6_readText_14 : decode cX6_readText 14 = .ok (.aload_n 0, 1) := by decide +kernel
theorem dX6_readText_15 : decode cX6_readText 15 = .ok (.getfield 108, 3) := by decide +kernel
theorem dX6_readText_18 : decode cX6_readText 18 = .ok (.ifCond .eq 14, 3) := by decide +kernel
theorem dX6_readText_21 : decode cX6_readText 21 = .ok (.aload_n 0, 1) := by decide +kernel
theorem dX6_readText_22 : decode cX6_readText 22 = .ok (.getfield 7, 3) := by decide +kernel
theorem dX6_readText_25 : decode cX6_readText 25 = .ok (.iconst 0, 1) := by decide +kernel
theorem dX6_readText_26 : decode cX6_readText 26 = .ok (.iaload, 1) := by decide +kernel
theorem dX6_readText_27 : decode cX6_readText 27 = .ok (.bipush 75, 2) := by decide +kernel
theorem dX6_readText_29 : decode cX6_readText 29 = .ok (.if_icmp .eq 5, 3) := by decide +kernel
theorem dX6_readText_32 : decode cX6_readText 32 = .ok (.iconst 0, 1) := by decide +kernel
theorem dX6_readText_33 : decode cX6_readText 33 = .ok (.ireturn, 1) := by decide +kernel
theorem dX6_readText_34 : decode cX6_readText 34 = .ok (.aload_n 0, 1) := by decide +kernel
theorem dX6_readText_35 : decode cX6_readText 35 = .ok (.iconst 1, 1) := by decide +kernel
theorem dX6_readText_36 : decode cX6_readText 36 = .ok (.putfield 115, 3) := by decide +kernel
theorem dX6_readText_39 : decode cX6_readText 39 = .ok (.aload_n 0, 1) := by decide +kernel
theorem dX6_readText_40 : decode cX6_readText 40 = .ok (.getfield 115, 3) := by decide +kernel
theorem dX6_readText_43 : decode cX6_readText 43 = .ok (.aload_n 0, 1) := by decide +kernel
theorem dX6_readText_44 : decode cX6_readText 44 = .ok (.getfield 108, 3) := by decide +kernel
theorem dX6_readText_47 : decode cX6_readText 47 = .ok (.if_icmp .ge 16, 3) := by decide +kernel
theorem dX6_readText_50 : decode cX6_readText 50 = .ok (.aload_n 0, 1) := by decide +kernel
theorem dX6_readText_51 : decode cX6_readText 51 = .ok (.aload_n 1, 1) := by decide +kernel
theorem dX6_readText_52 : decode cX6_readText 52 = .ok (.invokevirtual 156, 3) := by decide +kernel
theorem dX6_readText_55 : decode cX6_readText 55 = .ok (.ifCond .ne (-16), 3) := by decide +kernel
theorem dX6_readText_58 : decode cX6_readText 58 = .ok (.aload_n 0, 1) := by decide +kernel
theorem dX6_readText_59 : decode cX6_readText 59 = .ok (.getfield 115, 3) := by decide +kernel
theorem dX6_readText_62 : decode cX6_readText 62 = .ok (.ireturn, 1) := by decide +kernel
theorem dX6_readText_63 : decode cX6_readText 63 = .ok (.iconst (-1), 1) := by decide +kernel
theorem dX6_readText_64 : decode cX6_readText 64 = .ok (.ireturn, 1) := by decide +kernel
theorem dX6_errorPosition_0 : decode cX6_errorPosition 0 = .ok (.aload_n 0, 1) := by decide +kernel
theorem dX6_errorPosition_1 : decode cX6_errorPosition 1 = .ok (.iconst 0, 1) := by decide +kernel
theorem dX6_errorPosition_2 : decode cX6_errorPosition 2 = .ok (.putfield 42, 3) := by decide +kernel
theorem dX6_errorPosition_5 : decode cX6_errorPosition 5 = .ok (.aload_n 0, 1) := by decide +kernel
theorem dX6_errorPosition_6 : decode cX6_errorPosition 6 = .ok (.aload_n 0, 1) := by decide +kernel
theorem dX6_errorPosition_7 : decode cX6_errorPosition 7 = .ok (.getfield 16, 3) := by decide +kernel
theorem dX6_errorPosition_10 : decode cX6_errorPosition 10 = .ok (.invokevirtual 160, 3) := by decide +kernel
theorem dX6_errorPosition_13 : decode cX6_errorPosition 13 = .ok (.ireturn, 1) := by decide +kernel
theorem dX6_load_0 : decode cX6_load 0 = .ok (.aload_n 0, 1) := by decide +kernel
theorem dX6_load_1 : decode cX6_load 1 = .ok (.aload_n 0, 1) := by decide +kernel
theorem dX6_load_2 : decode cX6_load 2 = .ok (.aload_n 0, 1) := by decide +kernel
theorem dX6_load_3 : decode cX6_load 3 = .ok (.getfield 16, 3) := by decide +kernel
theorem dX6_load_6 : decode cX6_load 6 = .ok (.invokevirtual 160, 3) := by decide +kernel
theorem dX6_load_9 : decode cX6_load 9 = .ok (.iconst (-1), 1) := by decide +kernel
theorem dX6_load_10 : decode cX6_load 10 = .ok (.if_icmp .ne 7, 3) := by decide +kernel
theorem dX6_load_13 : decode cX6_load 13 = .ok (.iconst 0, 1) := by decide +kernel
theorem dX6_load_14 : decode cX6_load 14 = .ok (.goto 4, 3) := by decide +kernel
theorem dX6_load_17 : decode cX6_load 17 = .ok (.iconst 1, 1) := by decide +kernel
theorem dX6_load_18 : decode cX6_load 18 = .ok (.invokevirtual 111, 3) := by decide +kernel
theorem dX6_load_21 : decode cX6_load 21 = .ok (.ifCond .eq 5, 3) := by decide +kernel
theorem dX6_load_24 : decode cX6_load 24 = .ok (.iconst 0, 1) := by decide +kernel
theorem dX6_load_25 : decode cX6_load 25 = .ok (.ireturn, 1) := by decide +kernel
theorem dX6_load_26 : decode cX6_load 26 = .ok (.aload_n 0, 1) := by decide +kernel
theorem dX6_load_27 : decode cX6_load 27 = .ok (.getfield 16, 3) := by decide +kernel
theorem dX6_load_30 : decode cX6_load 30 = .ok (.iconst 0, 1) := by decide +kernel
theorem dX6_load_31 : decode cX6_load 31 = .ok (.aload_n 0, 1) := by decide +kernel
theorem dX6_load_32 : decode cX6_load 32 = .ok (.getfield 13, 3) := by decide +kernel
theorem dX6_load_35 : decode cX6_load 35 = .ok (.iconst 0, 1) := by decide +kernel
theorem dX6_load_36 : decode cX6_load 36 = .ok (.invokestatic 163, 3) := by decide +kernel
theorem dX6_load_39 : decode cX6_load 39 = .ok (.aload_n 0, 1) := by decide +kernel
theorem dX6_load_40 : decode cX6_load 40 = .ok (.iconst 0, 1) := by decide +kernel
theorem dX6_load_41 : decode cX6_load 41 = .ok (.putfield 167, 3) := by decide +kernel
theorem dX6_load_44 : decode cX6_load 44 = .ok (.aload_n 0, 1) := by decide +kernel
theorem dX6_load_45 : decode cX6_load 45 = .ok (.getfield 25, 3) := by decide +kernel
theorem dX6_load_48 : decode cX6_load 48 = .ok (.iconst 0, 1) := by decide +kernel
theorem dX6_load_49 : decode cX6_load 49 = .ok (.iconst 0, 1) := by decide +kernel
theorem dX6_load_50 : decode cX6_load 50 = .ok (.bastore, 1) := by decide +kernel
theorem dX6_load_51 : decode cX6_load 51 = .ok (.aload_n 0, 1) := by decide +kernel
theorem dX6_load_52 : decode cX6_load 52 = .ok (.getfield 25, 3) := by decide +kernel
theorem dX6_load_55 : decode cX6_load 55 = .ok (.iconst 1, 1) := by decide +kernel
theorem dX6_load_56 : decode cX6_load 56 = .ok (.iconst 0, 1) := by decide +kernel
theorem dX6_load_57 : decode cX6_load 57 = .ok (.bastore, 1) := by decide +kernel
theorem dX6_load_58 : decode cX6_load 58 = .ok (.aload_n 0, 1) := by decide +kernel
theorem dX6_load_59 : decode cX6_load 59 = .ok (.getfield 120, 3) := by decide +kernel
theorem dX6_load_62 : decode cX6_load 62 = .ok (.ireturn, 1) := by decide +kernel
theorem dX6_about_0 : decode cX6_about 0 = .ok (.aload_n 0, 1) := by decide +kernel
theorem dX6_about_1 : decode cX6_about 1 = .ok (.iload_n 1, 1) := by decide +kernel
theorem dX6_about_2 : decode cX6_about 2 = .ok (.i2l, 1) := by decide +kernel
theorem dX6_about_3 : decode cX6_about 3 = .ok (.lconst 0, 1) := by decide +kernel
theorem dX6_about_4 : decode cX6_about 4 = .ok (.ldc2_w 170, 3) := by decide +kernel
theorem dX6_about_7 : decode cX6_about 7 = .ok (.invokestatic 46, 3) := by decide +kernel
theorem dX6_about_10 : decode cX6_about 10 = .ok (.ifCond .eq 7, 3) := by decide +kernel
theorem dX6_about_13 : decode cX6_about 13 = .ok (.iconst 0, 1) := by decide +kernel
theorem dX6_about_14 : decode cX6_about 14 = .ok (.goto 4, 3) := by decide +kernel
theorem dX6_about_17 : decode cX6_about 17 = .ok (.iconst 1, 1) := by decide +kernel
theorem dX6_about_18 : decode cX6_about 18 = .ok (.invokevirtual 111, 3) := by decide +kernel
theorem dX6_about_21 : decode cX6_about 21 = .ok (.ifCond .eq 5, 3) := by decide +kernel
theorem dX6_about_24 : decode cX6_about 24 = .ok (.iconst 0, 1) := by decide +kernel
theorem dX6_about_25 : decode cX6_about 25 = .ok (.ireturn, 1) := by decide +kernel
theorem dX6_about_26 : decode cX6_about 26 = .ok (.iconst 0, 1) := by decide +kernel
theorem dX6_about_27 : decode cX6_about 27 = .ok (.istore_n 2, 1) := by decide +kernel
theorem dX6_about_28 : decode cX6_about 28 = .ok (.aload_n 0, 1) := by decide +kernel
theorem dX6_about_29 : decode cX6_about 29 = .ok (.aload_n 0, 1) := by decide +kernel
theorem dX6_about_30 : decode cX6_about 30 = .ok (.getfield 13, 3) := by decide +kernel
theorem dX6_about_33 : decode cX6_about 33 = .ok (.invokevirtual 80, 3) := by decide +kernel
theorem dX6_about_36 : decode cX6_about 36 = .ok (.iload_n 1, 1) := by decide +kernel
theorem dX6_about_37 : decode cX6_about 37 = .ok (.tableswitch 117 0 6 #[43, 50, 58, 89, 94, 99, 108], 43) := by decide +kernel
theorem dX6_about_80 : decode cX6_about 80 = .ok (.aload_n 0, 1) := by decide +kernel
theorem dX6_about_81 : decode cX6_about 81 = .ok (.getfield 13, 3) := by decide +kernel
theorem dX6_about_84 : decode cX6_about 84 = .ok (.iconst 0, 1) := by decide +kernel
theorem dX6_about_85 : decode cX6_about 85 = .ok (.iaload, 1) := by decide +kernel
theorem dX6_about_86 : decode cX6_about 86 = .ok (.ireturn, 1) := by decide +kernel
theorem dX6_about_87 : decode cX6_about 87 = .ok (.aload_n 0, 1) := by decide +kernel
theorem dX6_about_88 : decode cX6_about 88 = .ok (.getfield 13, 3) := by decide +kernel
theorem dX6_about_91 : decode cX6_about 91 = .ok (.invokestatic 172, 3) := by decide +kernel
theorem dX6_about_94 : decode cX6_about 94 = .ok (.ireturn, 1) := by decide +kernel
theorem dX6_about_95 : decode cX6_about 95 = .ok (.iconst 0, 1) := by decide +kernel
theorem dX6_about_96 : decode cX6_about 96 = .ok (.istore_n 3, 1) := by decide +kernel
theorem dX6_about_97 : decode cX6_about 97 = .ok (.iload_n 3, 1) := by decide +kernel
theorem dX6_about_98 : decode cX6_about 98 = .ok (.aload_n 0, 1) := by decide +kernel
theorem dX6_about_99 : decode cX6_about 99 = .ok (.getfield 13, 3) := by decide +kernel
theorem dX6_about_102 : decode cX6_about 102 = .ok (.iconst 0, 1) := by decide +kernel
theorem dX6_about_103 : decode cX6_about 103 = .ok (.iaload, 1) := by decide +kernel
theorem dX6_about_104 : decode cX6_about 104 = .ok (.if_icmp .ge 20, 3) := by decide +kernel
theorem dX6_about_107 : decode cX6_about 107 = .ok (.iload_n 2, 1) := by decide +kernel
theorem dX6_about_108 : decode cX6_about 108 = .ok (.aload_n 0, 1) := by decide +kernel
theorem dX6_about_109 : decode cX6_about 109 = .ok (.getfield 13, 3) := by decide +kernel
theorem dX6_about_112 : decode cX6_about 112 = .ok (.iload_n 3, 1) := by decide +kernel
theorem dX6_about_113 : decode cX6_about 113 = .ok (.invokestatic 175, 3) := by decide +kernel
theorem dX6_about_116 : decode cX6_about 116 = .ok (.iadd, 1) := by decide +kernel
theorem dX6_about_117 : decode cX6_about 117 = .ok (.istore_n 2, 1) := by decide +kernel
theorem dX6_about_118 : decode cX6_about 118 = .ok (.iinc 3 1, 3) := by decide +kernel
theorem dX6_about_121 : decode cX6_about 121 = .ok (.goto (-24), 3) := by decide +kernel
theorem dX6_about_124 : decode cX6_about 124 = .ok (.iload_n 2, 1) := by decide +kernel
theorem dX6_about_125 : decode cX6_about 125 = .ok (.ireturn, 1) := by decide +kernel
theorem dX6_about_126 : decode cX6_about 126 = .ok (.aload_n 0, 1) := by decide +kernel
theorem dX6_about_127 : decode cX6_about 127 = .ok (.invokevirtual 178, 3) := by decide +kernel
theorem dX6_about_130 : decode cX6_about 130 = .ok (.ireturn, 1) := by decide +kernel
theorem dX6_about_131 : decode cX6_about 131 = .ok (.aload_n 0, 1) := by decide +kernel
theorem dX6_about_132 : decode cX6_about 132 = .ok (.invokevirtual 182, 3) := by decide +kernel
theorem dX6_about_135 : decode cX6_about 135 = .ok (.ireturn, 1) := by decide +kernel
theorem dX6_about_136 : decode cX6_about 136 = .ok (.aload_n 0, 1) := by decide +kernel
theorem dX6_about_137 : decode cX6_about 137 = .ok (.aload_n 0, 1) := by decide +kernel
theorem dX6_about_138 : decode cX6_about 138 = .ok (.getfield 13, 3) := by decide +kernel
theorem dX6_about_141 : decode cX6_about 141 = .ok (.invokevirtual 91, 3) := by decide +kernel
theorem dX6_about_144 : decode cX6_about 144 = .ok (.ireturn, 1) := by decide +kernel
theorem dX6_about_145 : decode cX6_about 145 = .ok (.aload_n 0, 1) := by decide +kernel
theorem dX6_about_146 : decode cX6_about 146 = .ok (.aload_n 0, 1) := by decide +kernel
theorem dX6_about_147 : decode cX6_about 147 = .ok (.getfield 13, 3) := by decide +kernel
theorem dX6_about_150 : decode cX6_about 150 = .ok (.invokevirtual 185, 3) := by decide +kernel
theorem dX6_about_153 : decode cX6_about 153 = .ok (.ireturn, 1) := by decide +kernel
theorem dX6_about_154 : decode cX6_about 154 = .ok (.aload_n 0, 1) := by decide +kernel
theorem dX6_about_155 : decode cX6_about 155 = .ok (.getfield 13, 3) := by decide +kernel
theorem dX6_about_158 : decode cX6_about 158 = .ok (.iconst 1, 1) := by decide +kernel
theorem dX6_about_159 : decode cX6_about 159 = .ok (.iload_n 1, 1) := by decide +kernel
theorem dX6_about_160 : decode cX6_about 160 = .ok (.iadd, 1) := by decide +kernel
theorem dX6_about_161 : decode cX6_about 161 = .ok (.bipush 7, 2) := by decide +kernel
theorem dX6_about_163 : decode cX6_about 163 = .ok (.isub, 1) := by decide +kernel
theorem dX6_about_164 : decode cX6_about 164 = .ok (.iaload, 1) := by decide +kernel
theorem dX6_about_165 : decode cX6_about 165 = .ok (.ireturn, 1) := by decide +kernel
theorem dX6_rulerOf_0 : decode cX6_rulerOf 0 = .ok (.aload_n 0, 1) := by decide +kernel
theorem dX6_rulerOf_1 : decode cX6_rulerOf 1 = .ok (.aload_n 0, 1) := by decide +kernel
theorem dX6_rulerOf_2 : decode cX6_rulerOf 2 = .ok (.getfield 13, 3) := by decide +kernel
theorem dX6_rulerOf_5 : decode cX6_rulerOf 5 = .ok (.iload_n 1, 1) := by decide +kernel
theorem dX6_rulerOf_6 : decode cX6_rulerOf 6 = .ok (.invokestatic 50, 3) := by decide +kernel
theorem dX6_rulerOf_9 : decode cX6_rulerOf 9 = .ok (.ifCond .ne 7, 3) := by decide +kernel
theorem dX6_rulerOf_12 : decode cX6_rulerOf 12 = .ok (.iconst 1, 1) := by decide +kernel
theorem dX6_rulerOf_13 : decode cX6_rulerOf 13 = .ok (.goto 20, 3) := by decide +kernel
theorem dX6_rulerOf_16 : decode cX6_rulerOf 16 = .ok (.iload_n 2, 1) := by decide +kernel
theorem dX6_rulerOf_17 : decode cX6_rulerOf 17 = .ok (.i2l, 1) := by decide +kernel
theorem dX6_rulerOf_18 : decode cX6_rulerOf 18 = .ok (.lconst 0, 1) := by decide +kernel
theorem dX6_rulerOf_19 : decode cX6_rulerOf 19 = .ok (.ldc2_w 188, 3) := by decide +kernel
theorem dX6_rulerOf_22 : decode cX6_rulerOf 22 = .ok (.invokestatic 46, 3) := by decide +kernel
theorem dX6_rulerOf_25 : decode cX6_rulerOf 25 = .ok (.ifCond .eq 7, 3) := by decide +kernel
theorem dX6_rulerOf_28 : decode cX6_rulerOf 28 = .ok (.iconst 0, 1) := by decide +kernel
theorem dX6_rulerOf_29 : decode cX6_rulerOf 29 = .ok (.goto 4, 3) := by decide +kernel
theorem dX6_rulerOf_32 : decode cX6_rulerOf 32 = .ok (.iconst 2, 1) := by decide +kernel
theorem dX6_rulerOf_33 : decode cX6_rulerOf 33 = .ok (.invokevirtual 111, 3) := by decide +kernel
theorem dX6_rulerOf_36 : decode cX6_rulerOf 36 = .ok (.ifCond .eq 5, 3) := by decide +kernel
theorem dX6_rulerOf_39 : decode cX6_rulerOf 39 = .ok (.iconst 0, 1) := by decide +kernel
theorem dX6_rulerOf_40 : decode cX6_rulerOf 40 = .ok (.ireturn, 1) := by decide +kernel
theorem dX6_rulerOf_41 : decode cX6_rulerOf 41 = .ok (.aload_n 0, 1) := by decide +kernel
theorem dX6_rulerOf_42 : decode cX6_rulerOf 42 = .ok (.invokevirtual 71, 3) := by decide +kernel
theorem dX6_rulerOf_45 : decode cX6_rulerOf 45 = .ok (.aload_n 0, 1) := by decide +kernel
theorem dX6_rulerOf_46 : decode cX6_rulerOf 46 = .ok (.aload_n 0, 1) := by decide +kernel
theorem dX6_rulerOf_47 : decode cX6_rulerOf 47 = .ok (.getfield 13, 3) := by decide +kernel
theorem dX6_rulerOf_50 : decode cX6_rulerOf 50 = .ok (.iload_n 1, 1) := by decide +kernel
theorem dX6_rulerOf_51 : decode cX6_rulerOf 51 = .ok (.invokevirtual 74, 3) := by decide +kernel
theorem dX6_rulerOf_54 : decode cX6_rulerOf 54 = .ok (.iconst 1, 1) := by decide +kernel
theorem dX6_rulerOf_55 : decode cX6_rulerOf 55 = .ok (.istore_n 3, 1) := by decide +kernel
theorem dX6_rulerOf_56 : decode cX6_rulerOf 56 = .ok (.iconst 1, 1) := by decide +kernel
theorem dX6_rulerOf_57 : decode cX6_rulerOf 57 = .ok (.istore 4, 2) := by decide +kernel
theorem dX6_rulerOf_59 : decode cX6_rulerOf 59 = .ok (.iconst 1, 1) := by decide +kernel
theorem dX6_rulerOf_60 : decode cX6_rulerOf 60 = .ok (.istore 5, 2) := by decide +kernel
theorem dX6_rulerOf_62 : decode cX6_rulerOf 62 = .ok (.iload 5, 2) := by decide +kernel
theorem dX6_rulerOf_64 : decode cX6_rulerOf 64 = .ok (.bipush 40, 2) := by decide +kernel
theorem dX6_rulerOf_66 : decode cX6_rulerOf 66 = .ok (.if_icmp .gt 60, 3) := by decide +kernel
theorem dX6_rulerOf_69 : decode cX6_rulerOf 69 = .ok (.aload_n 0, 1) := by decide +kernel
theorem dX6_rulerOf_70 : decode cX6_rulerOf 70 = .ok (.getfield 29, 3) := by decide +kernel
theorem dX6_rulerOf_73 : decode cX6_rulerOf 73 = .ok (.iload 5, 2) := by decide +kernel
theorem dX6_rulerOf_75 : decode cX6_rulerOf 75 = .ok (.iaload, 1) := by decide +kernel
theorem dX6_rulerOf_76 : decode cX6_rulerOf 76 = .ok (.aload_n 0, 1) := by decide +kernel
theorem dX6_rulerOf_77 : decode cX6_rulerOf 77 = .ok (.getfield 29, 3) := by decide +kernel
theorem dX6_rulerOf_80 : decode cX6_rulerOf 80 = .ok (.iload_n 3, 1) := by decide +kernel
theorem dX6_rulerOf_81 : decode cX6_rulerOf 81 = .ok (.iaload, 1) := by decide +kernel
theorem dX6_rulerOf_82 : decode cX6_rulerOf 82 = .ok (.if_icmp .le 8, 3) := by decide +kernel
theorem dX6_rulerOf_85 : decode cX6_rulerOf 85 = .ok (.iload 5, 2) := by decide +kernel
theorem dX6_rulerOf_87 : decode cX6_rulerOf 87 = .ok (.goto 4, 3) := by decide +kernel
theorem dX6_rulerOf_90 : decode cX6_rulerOf 90 = .ok (.iload_n 3, 1) := by decide +kernel
theorem dX6_rulerOf_91 : decode cX6_rulerOf 91 = .ok (.istore_n 3, 1) := by decide +kernel
theorem dX6_rulerOf_92 : decode cX6_rulerOf 92 = .ok (.aload_n 0, 1) := by decide +kernel
theorem dX6_rulerOf_93 : decode cX6_rulerOf 93 = .ok (.getfield 29, 3) := by decide +kernel
theorem dX6_rulerOf_96 : decode cX6_rulerOf 96 = .ok (.iload 5, 2) := by decide +kernel
theorem dX6_rulerOf_98 : decode cX6_rulerOf 98 = .ok (.iaload, 1) := by decide +kernel
theorem dX6_rulerOf_99 : decode cX6_rulerOf 99 = .ok (.ifCond .le 17, 3) := by decide +kernel
theorem dX6_rulerOf_102 : decode cX6_rulerOf 102 = .ok (.iload 4, 2) := by decide +kernel
theorem dX6_rulerOf_104 : decode cX6_rulerOf 104 = .ok (.iload 5, 2) := by decide +kernel
theorem dX6_rulerOf_106 : decode cX6_rulerOf 106 = .ok (.if_icmp .ne 10, 3) := by decide +kernel
theorem dX6_rulerOf_109 : decode cX6_rulerOf 109 = .ok (.iload 5, 2) := by decide +kernel
theorem dX6_rulerOf_111 : decode cX6_rulerOf 111 = .ok (.iconst 1, 1) := by decide +kernel
theorem dX6_rulerOf_112 : decode cX6_rulerOf 112 = .ok (.iadd, 1) := by decide +kernel
theorem dX6_rulerOf_113 : decode cX6_rulerOf 113 = .ok (.goto 5, 3) := by decide +kernel
theorem dX6_rulerOf_116 : decode cX6_rulerOf 116 = .ok (.iload 4, 2) := by decide +kernel
theorem dX6_rulerOf_118 : decode cX6_rulerOf 118 = .ok (.istore 4, 2) := by decide +kernel
theorem dX6_rulerOf_120 : decode cX6_rulerOf 120 = .ok (.iinc 5 1, 3) := by decide +kernel
theorem dX6_rulerOf_123 : decode cX6_rulerOf 123 = .ok (.goto (-61), 3) := by decide +kernel
theorem dX6_rulerOf_126 : decode cX6_rulerOf 126 = .ok (.iload_n 2, 1) := by decide +kernel
theorem dX6_rulerOf_127 : decode cX6_rulerOf 127 = .ok (.tableswitch 67 0 4 #[33, 42, 51, 60, 65], 33) := by decide +kernel
theorem dX6_rulerOf_160 : decode cX6_rulerOf 160 = .ok (.aload_n 0, 1) := by decide +kernel
theorem dX6_rulerOf_161 : decode cX6_rulerOf 161 = .ok (.getfield 13, 3) := by decide +kernel
theorem dX6_rulerOf_164 : decode cX6_rulerOf 164 = .ok (.iload_n 1, 1) := by decide +kernel
theorem dX6_rulerOf_165 : decode cX6_rulerOf 165 = .ok (.invokestatic 54, 3) := by decide +kernel
theorem dX6_rulerOf_168 : decode cX6_rulerOf 168 = .ok (.ireturn, 1) := by decide +kernel
theorem dX6_rulerOf_169 : decode cX6_rulerOf 169 = .ok (.aload_n 0, 1) := by decide +kernel
theorem dX6_rulerOf_170 : decode cX6_rulerOf 170 = .ok (.getfield 13, 3) := by decide +kernel
theorem dX6_rulerOf_173 : decode cX6_rulerOf 173 = .ok (.iload_n 1, 1) := by decide +kernel
theorem dX6_rulerOf_174 : decode cX6_rulerOf 174 = .ok (.invokestatic 68, 3) := by decide +kernel
theorem dX6_rulerOf_177 : decode cX6_rulerOf 177 = .ok (.ireturn, 1) := by decide +kernel
theorem dX6_rulerOf_178 : decode cX6_rulerOf 178 = .ok (.aload_n 0, 1) := by decide +kernel
theorem dX6_rulerOf_179 : decode cX6_rulerOf 179 = .ok (.getfield 13, 3) := by decide +kernel
theorem dX6_rulerOf_182 : decode cX6_rulerOf 182 = .ok (.iload_n 1, 1) := by decide +kernel
theorem dX6_rulerOf_183 : decode cX6_rulerOf 183 = .ok (.invokestatic 175, 3) := by decide +kernel
theorem dX6_rulerOf_186 : decode cX6_rulerOf 186 = .ok (.ireturn, 1) := by decide +kernel
theorem dX6_rulerOf_187 : decode cX6_rulerOf 187 = .ok (.aload_n 0, 1) := by decide +kernel
theorem dX6_rulerOf_188 : decode cX6_rulerOf 188 = .ok (.invokevirtual 178, 3) := by decide +kernel
theorem dX6_rulerOf_191 : decode cX6_rulerOf 191 = .ok (.ireturn, 1) := by decide +kernel
theorem dX6_rulerOf_192 : decode cX6_rulerOf 192 = .ok (.iload_n 3, 1) := by decide +kernel
theorem dX6_rulerOf_193 : decode cX6_rulerOf 193 = .ok (.ireturn, 1) := by decide +kernel
theorem dX6_rulerOf_194 : decode cX6_rulerOf 194 = .ok (.iload 4, 2) := by decide +kernel
theorem dX6_rulerOf_196 : decode cX6_rulerOf 196 = .ok (.ireturn, 1) := by decide +kernel
theorem dX6_isMarked_0 : decode cX6_isMarked 0 = .ok (.aload_n 0, 1) := by decide +kernel
theorem dX6_isMarked_1 : decode cX6_isMarked 1 = .ok (.aload_n 0, 1) := by decide +kernel
theorem dX6_isMarked_2 : decode cX6_isMarked 2 = .ok (.getfield 13, 3) := by decide +kernel
theorem dX6_isMarked_5 : decode cX6_isMarked 5 = .ok (.iload_n 1, 1) := by decide +kernel
theorem dX6_isMarked_6 : decode cX6_isMarked 6 = .ok (.iload_n 2, 1) := by decide +kernel
theorem dX6_isMarked_7 : decode cX6_isMarked 7 = .ok (.invokestatic 99, 3) := by decide +kernel
theorem dX6_isMarked_10 : decode cX6_isMarked 10 = .ok (.ifCond .eq 7, 3) := by decide +kernel
theorem dX6_isMarked_13 : decode cX6_isMarked 13 = .ok (.iconst 0, 1) := by decide +kernel
theorem dX6_isMarked_14 : decode cX6_isMarked 14 = .ok (.goto 4, 3) := by decide +kernel
theorem dX6_isMarked_17 : decode cX6_isMarked 17 = .ok (.iconst 1, 1) := by decide +kernel
theorem dX6_isMarked_18 : decode cX6_isMarked 18 = .ok (.invokevirtual 111, 3) := by decide +kernel
theorem dX6_isMarked_21 : decode cX6_isMarked 21 = .ok (.ifCond .eq 5, 3) := by decide +kernel
theorem dX6_isMarked_24 : decode cX6_isMarked 24 = .ok (.iconst 0, 1) := by decide +kernel
theorem dX6_isMarked_25 : decode cX6_isMarked 25 = .ok (.ireturn, 1) := by decide +kernel
theorem dX6_isMarked_26 : decode cX6_isMarked 26 = .ok (.aload_n 0, 1) := by decide +kernel
theorem dX6_isMarked_27 : decode cX6_isMarked 27 = .ok (.getfield 13, 3) := by decide +kernel
theorem dX6_isMarked_30 : decode cX6_isMarked 30 = .ok (.iload_n 1, 1) := by decide +kernel
theorem dX6_isMarked_31 : decode cX6_isMarked 31 = .ok (.iload_n 2, 1) := by decide +kernel
theorem dX6_isMarked_32 : decode cX6_isMarked 32 = .ok (.invokestatic 64, 3) := by decide +kernel
theorem dX6_isMarked_35 : decode cX6_isMarked 35 = .ok (.iaload, 1) := by decide +kernel
theorem dX6_isMarked_36 : decode cX6_isMarked 36 = .ok (.ireturn, 1) := by decide +kernel
theorem dX6_span_0 : decode cX6_span 0 = .ok (.aload_n 0, 1) := by decide +kernel
theorem dX6_span_1 : decode cX6_span 1 = .ok (.getfield 13, 3) := by decide +kernel
theorem dX6_span_4 : decode cX6_span 4 = .ok (.iload_n 1, 1) := by decide +kernel
theorem dX6_span_5 : decode cX6_span 5 = .ok (.invokestatic 50, 3) := by decide +kernel
theorem dX6_span_8 : decode cX6_span 8 = .ok (.ifCond .eq 27, 3) := by decide +kernel
theorem dX6_span_11 : decode cX6_span 11 = .ok (.iload_n 2, 1) := by decide +kernel
theorem dX6_span_12 : decode cX6_span 12 = .ok (.i2l, 1) := by decide +kernel
theorem dX6_span_13 : decode cX6_span 13 = .ok (.lconst 0, 1) := by decide +kernel
theorem dX6_span_14 : decode cX6_span 14 = .ok (.aload_n 0, 1) := by decide +kernel
theorem dX6_span_15 : decode cX6_span 15 = .ok (.getfield 13, 3) := by decide +kernel
theorem dX6_span_18 : decode cX6_span 18 = .ok (.iload_n 1, 1) := by decide +kernel
theorem dX6_span_19 : decode cX6_span 19 = .ok (.invokestatic 175, 3) := by decide +kernel
theorem dX6_span_22 : decode cX6_span 22 = .ok (.iconst 1, 1) := by decide +kernel
theorem dX6_span_23 : decode cX6_span 23 = .ok (.isub, 1) := by decide +kernel
theorem dX6_span_24 : decode cX6_span 24 = .ok (.i2l, 1) := by decide +kernel
theorem dX6_span_25 : decode cX6_span 25 = .ok (.invokestatic 46, 3) := by decide +kernel
theorem dX6_span_28 : decode cX6_span 28 = .ok (.ifCond .eq 7, 3) := by decide +kernel
theorem dX6_span_31 : decode cX6_span 31 = .ok (.iconst 1, 1) := by decide +kernel
theorem dX6_span_32 : decode cX6_span 32 = .ok (.goto 4, 3) := by decide +kernel
theorem dX6_span_35 : decode cX6_span 35 = .ok (.iconst 0, 1) := by decide +kernel
theorem dX6_span_36 : decode cX6_span 36 = .ok (.istore 4, 2) := by decide +kernel
theorem dX6_span_38 : decode cX6_span 38 = .ok (.aload_n 0, 1) := by decide +kernel
theorem dX6_span_39 : decode cX6_span 39 = .ok (.iload 4, 2) := by decide +kernel
theorem dX6_span_41 : decode cX6_span 41 = .ok (.ifCond .ne 7, 3) := by decide +kernel
theorem dX6_span_44 : decode cX6_span 44 = .ok (.iconst 1, 1) := by decide +kernel
theorem dX6_span_45 : decode cX6_span 45 = .ok (.goto 20, 3) := by decide +kernel
theorem dX6_span_48 : decode cX6_span 48 = .ok (.iload_n 3, 1) := by decide +kernel
theorem dX6_span_49 : decode cX6_span 49 = .ok (.i2l, 1) := by decide +kernel
theorem dX6_span_50 : decode cX6_span 50 = .ok (.lconst 0, 1) := by decide +kernel
theorem dX6_span_51 : decode cX6_span 51 = .ok (.ldc2_w 190, 3) := by decide +kernel
theorem dX6_span_54 : decode cX6_span 54 = .ok (.invokestatic 46, 3) := by decide +kernel
theorem dX6_span_57 : decode cX6_span 57 = .ok (.ifCond .eq 7, 3) := by decide +kernel
theorem dX6_span_60 : decode cX6_span 60 = .ok (.iconst 0, 1) := by decide +kernel
theorem dX6_span_61 : decode cX6_span 61 = .ok (.goto 4, 3) := by decide +kernel
theorem dX6_span_64 : decode cX6_span 64 = .ok (.iconst 2, 1) := by decide +kernel
theorem dX6_span_65 : decode cX6_span 65 = .ok (.invokevirtual 111, 3) := by decide +kernel
theorem dX6_span_68 : decode cX6_span 68 = .ok (.ifCond .eq 5, 3) := by decide +kernel
theorem dX6_span_71 : decode cX6_span 71 = .ok (.iconst 0, 1) := by decide +kernel
theorem dX6_span_72 : decode cX6_span 72 = .ok (.ireturn, 1) := by decide +kernel
theorem dX6_span_73 : decode cX6_span 73 = .ok (.aload_n 0, 1) := by decide +kernel
theorem dX6_span_74 : decode cX6_span 74 = .ok (.getfield 13, 3) := by decide +kernel
theorem dX6_span_77 : decode cX6_span 77 = .ok (.iload_n 1, 1) := by decide +kernel
theorem dX6_span_78 : decode cX6_span 78 = .ok (.iload_n 2, 1) := by decide +kernel
theorem dX6_span_79 : decode cX6_span 79 = .ok (.invokestatic 192, 3) := by decide +kernel
theorem dX6_span_82 : decode cX6_span 82 = .ok (.istore 5, 2) := by decide +kernel
theorem dX6_span_84 : decode cX6_span 84 = .ok (.aload_n 0, 1) := by decide +kernel
theorem dX6_span_85 : decode cX6_span 85 = .ok (.getfield 13, 3) := by decide +kernel
theorem dX6_span_88 : decode cX6_span 88 = .ok (.iload_n 1, 1) := by decide +kernel
theorem dX6_span_89 : decode cX6_span 89 = .ok (.iload_n 2, 1) := by decide +kernel
theorem dX6_span_90 : decode cX6_span 90 = .ok (.invokestatic 195, 3) := by decide +kernel
theorem dX6_span_93 : decode cX6_span 93 = .ok (.istore 6, 2) := by decide +kernel
theorem dX6_span_95 : decode cX6_span 95 = .ok (.aload_n 0, 1) := by decide +kernel
theorem dX6_span_96 : decode cX6_span 96 = .ok (.aload_n 0, 1) := by decide +kernel
theorem dX6_span_97 : decode cX6_span 97 = .ok (.getfield 13, 3) := by decide +kernel
theorem dX6_span_100 : decode cX6_span 100 = .ok (.invokevirtual 80, 3) := by decide +kernel
theorem dX6_span_103 : decode cX6_span 103 = .ok (.iload_n 3, 1) := by decide +kernel
theorem dX6_span_104 : decode cX6_span 104 = .ok (.ifCond .ne 8, 3) := by decide +kernel
theorem dX6_span_107 : decode cX6_span 107 = .ok (.iload 5, 2) := by decide +kernel
theorem dX6_span_109 : decode cX6_span 109 = .ok (.goto 36, 3) := by decide +kernel
theorem dX6_span_112 : decode cX6_span 112 = .ok (.iload_n 3, 1) := by decide +kernel
theorem dX6_span_113 : decode cX6_span 113 = .ok (.iconst 1, 1) := by decide +kernel
theorem dX6_span_114 : decode cX6_span 114 = .ok (.if_icmp .ne 8, 3) := by decide +kernel
theorem dX6_span_117 : decode cX6_span 117 = .ok (.iload 6, 2) := by decide +kernel
theorem dX6_span_119 : decode cX6_span 119 = .ok (.goto 26, 3) := by decide +kernel
theorem dX6_span_122 : decode cX6_span 122 = .ok (.iload_n 3, 1) := by decide +kernel
theorem dX6_span_123 : decode cX6_span 123 = .ok (.iconst 2, 1) := by decide +kernel
theorem dX6_span_124 : decode cX6_span 124 = .ok (.if_icmp .ne 11, 3) := by decide +kernel
theorem dX6_span_127 : decode cX6_span 127 = .ok (.iload 6, 2) := by decide +kernel
theorem dX6_span_129 : decode cX6_span 129 = .ok (.iload 5, 2) := by decide +kernel
theorem dX6_span_131 : decode cX6_span 131 = .ok (.isub, 1) := by decide +kernel
theorem dX6_span_132 : decode cX6_span 132 = .ok (.goto 13, 3) := by decide +kernel
theorem dX6_span_135 : decode cX6_span 135 = .ok (.aload_n 0, 1) := by decide +kernel
theorem dX6_span_136 : decode cX6_span 136 = .ok (.getfield 29, 3) := by decide +kernel
theorem dX6_span_139 : decode cX6_span 139 = .ok (.iload 6, 2) := by decide +kernel
theorem dX6_span_141 : decode cX6_span 141 = .ok (.iload 5, 2) := by decide +kernel
theorem dX6_span_143 : decode cX6_span 143 = .ok (.isub, 1) := by decide +kernel
theorem dX6_span_144 : decode cX6_span 144 = .ok (.iaload, 1) := by decide +kernel
theorem dX6_span_145 : decode cX6_span 145 = .ok (.ireturn, 1) := by decide +kernel
theorem dX6_gapFrom_0 : decode cX6_gapFrom 0 = .ok (.aload_n 0, 1) := by decide +kernel
theorem dX6_gapFrom_1 : decode cX6_gapFrom 1 = .ok (.aload_n 0, 1) := by decide +kernel
theorem dX6_gapFrom_2 : decode cX6_gapFrom 2 = .ok (.getfield 13, 3) := by decide +kernel
theorem dX6_gapFrom_5 : decode cX6_gapFrom 5 = .ok (.invokevirtual 91, 3) := by decide +kernel
theorem dX6_gapFrom_8 : decode cX6_gapFrom 8 = .ok (.pop, 1) := by decide +kernel
theorem dX6_gapFrom_9 : decode cX6_gapFrom 9 = .ok (.iload_n 1, 1) := by decide +kernel
theorem dX6_gapFrom_10 : decode cX6_gapFrom 10 = .ok (.istore_n 2, 1) := by decide +kernel
theorem dX6_gapFrom_11 : decode cX6_gapFrom 11 = .ok (.iconst 1, 1) := by decide +kernel
theorem dX6_gapFrom_12 : decode cX6_gapFrom 12 = .ok (.istore_n 3, 1) := by decide +kernel
theorem dX6_gapFrom_13 : decode cX6_gapFrom 13 = .ok (.iload_n 3, 1) := by decide +kernel
theorem dX6_gapFrom_14 : decode cX6_gapFrom 14 = .ok (.aload_n 0, 1) := by decide +kernel
theorem dX6_gapFrom_15 : decode cX6_gapFrom 15 = .ok (.getfield 13, 3) := by decide +kernel
theorem dX6_gapFrom_18 : decode cX6_gapFrom 18 = .ok (.iconst 2, 1) := by decide +kernel
theorem dX6_gapFrom_19 : decode cX6_gapFrom 19 = .ok (.iaload, 1) := by decide +kernel
theorem dX6_gapFrom_20 : decode cX6_gapFrom 20 = .ok (.if_icmp .gt 33, 3) := by decide +kernel
theorem dX6_gapFrom_23 : decode cX6_gapFrom 23 = .ok (.aload_n 0, 1) := by decide +kernel
theorem dX6_gapFrom_24 : decode cX6_gapFrom 24 = .ok (.getfield 13, 3) := by decide +kernel
theorem dX6_gapFrom_27 : decode cX6_gapFrom 27 = .ok (.aload_n 0, 1) := by decide +kernel
theorem dX6_gapFrom_28 : decode cX6_gapFrom 28 = .ok (.getfield 32, 3) := by decide +kernel
theorem dX6_gapFrom_31 : decode cX6_gapFrom 31 = .ok (.iload_n 3, 1) := by decide +kernel
theorem dX6_gapFrom_32 : decode cX6_gapFrom 32 = .ok (.invokestatic 95, 3) := by decide +kernel
theorem dX6_gapFrom_35 : decode cX6_gapFrom 35 = .ok (.ifCond .eq 12, 3) := by decide +kernel
theorem dX6_gapFrom_38 : decode cX6_gapFrom 38 = .ok (.iload_n 2, 1) := by decide +kernel
theorem dX6_gapFrom_39 : decode cX6_gapFrom 39 = .ok (.ifCond .ne 5, 3) := by decide +kernel
theorem dX6_gapFrom_42 : decode cX6_gapFrom 42 = .ok (.iload_n 3, 1) := by decide +kernel
theorem dX6_gapFrom_43 : decode cX6_gapFrom 43 = .ok (.ireturn, 1) := by decide +kernel
theorem dX6_gapFrom_44 : decode cX6_gapFrom 44 = .ok (.iinc 2 (-1), 3) := by decide +kernel
theorem dX6_gapFrom_47 : decode cX6_gapFrom 47 = .ok (.iinc 3 1, 3) := by decide +kernel
theorem dX6_gapFrom_50 : decode cX6_gapFrom 50 = .ok (.goto (-37), 3) := by decide +kernel
theorem dX6_gapFrom_53 : decode cX6_gapFrom 53 = .ok (.iconst (-1), 1) := by decide +kernel
theorem dX6_gapFrom_54 : decode cX6_gapFrom 54 = .ok (.ireturn, 1) := by decide +kernel
theorem dX6_gap_0 : decode cX6_gap 0 = .ok (.iload_n 1, 1) := by decide +kernel
theorem dX6_gap_1 : decode cX6_gap 1 = .ok (.ifCond .ge 7, 3) := by decide +kernel
theorem dX6_gap_4 : decode cX6_gap 4 = .ok (.iconst (-1), 1) := by decide +kernel
theorem dX6_gap_5 : decode cX6_gap 5 = .ok (.goto 8, 3) := by decide +kernel
theorem dX6_gap_8 : decode cX6_gap 8 = .ok (.aload_n 0, 1) := by decide +kernel
theorem dX6_gap_9 : decode cX6_gap 9 = .ok (.iload_n 1, 1) := by decide +kernel
theorem dX6_gap_10 : decode cX6_gap 10 = .ok (.invokevirtual 198, 3) := by decide +kernel
theorem dX6_gap_13 : decode cX6_gap 13 = .ok (.istore_n 3, 1) := by decide +kernel
theorem dX6_gap_14 : decode cX6_gap 14 = .ok (.aload_n 0, 1) := by decide +kernel
theorem dX6_gap_15 : decode cX6_gap 15 = .ok (.iload_n 3, 1) := by decide +kernel
theorem dX6_gap_16 : decode cX6_gap 16 = .ok (.iconst (-1), 1) := by decide +kernel
theorem dX6_gap_17 : decode cX6_gap 17 = .ok (.if_icmp .ne 7, 3) := by decide +kernel
theorem dX6_gap_20 : decode cX6_gap 20 = .ok (.iconst 1, 1) := by decide +kernel
theorem dX6_gap_21 : decode cX6_gap 21 = .ok (.goto 18, 3) := by decide +kernel
theorem dX6_gap_24 : decode cX6_gap 24 = .ok (.iload_n 2, 1) := by decide +kernel
theorem dX6_gap_25 : decode cX6_gap 25 = .ok (.i2l, 1) := by decide +kernel
theorem dX6_gap_26 : decode cX6_gap 26 = .ok (.lconst 0, 1) := by decide +kernel
theorem dX6_gap_27 : decode cX6_gap 27 = .ok (.lconst 1, 1) := by decide +kernel
theorem dX6_gap_28 : decode cX6_gap 28 = .ok (.invokestatic 46, 3) := by decide +kernel
theorem dX6_gap_31 : decode cX6_gap 31 = .ok (.ifCond .eq 7, 3) := by decide +kernel
theorem dX6_gap_34 : decode cX6_gap 34 = .ok (.iconst 0, 1) := by decide +kernel
theorem dX6_gap_35 : decode cX6_gap 35 = .ok (.goto 4, 3) := by decide +kernel
theorem dX6_gap_38 : decode cX6_gap 38 = .ok (.iconst 2, 1) := by decide +kernel
theorem dX6_gap_39 : decode cX6_gap 39 = .ok (.invokevirtual 111, 3) := by decide +kernel
theorem dX6_gap_42 : decode cX6_gap 42 = .ok (.ifCond .eq 5, 3) := by decide +kernel
theorem dX6_gap_45 : decode cX6_gap 45 = .ok (.iconst 0, 1) := by decide +kernel
theorem dX6_gap_46 : decode cX6_gap 46 = .ok (.ireturn, 1) := by decide +kernel
theorem dX6_gap_47 : decode cX6_gap 47 = .ok (.iload_n 3, 1) := by decide +kernel
theorem dX6_gap_48 : decode cX6_gap 48 = .ok (.istore 4, 2) := by decide +kernel
theorem dX6_gap_50 : decode cX6_gap 50 = .ok (.iload 4, 2) := by decide +kernel
theorem dX6_gap_52 : decode cX6_gap 52 = .ok (.aload_n 0, 1) := by decide +kernel
theorem dX6_gap_53 : decode cX6_gap 53 = .ok (.getfield 13, 3) := by decide +kernel
theorem dX6_gap_56 : decode cX6_gap 56 = .ok (.iconst 2, 1) := by decide +kernel
theorem dX6_gap_57 : decode cX6_gap 57 = .ok (.iaload, 1) := by decide +kernel
theorem dX6_gap_58 : decode cX6_gap 58 = .ok (.if_icmp .gt 28, 3) := by decide +kernel
theorem dX6_gap_61 : decode cX6_gap 61 = .ok (.aload_n 0, 1) := by decide +kernel
theorem dX6_gap_62 : decode cX6_gap 62 = .ok (.getfield 32, 3) := by decide +kernel
theorem dX6_gap_65 : decode cX6_gap 65 = .ok (.iload 4, 2) := by decide +kernel
theorem dX6_gap_67 : decode cX6_gap 67 = .ok (.iaload, 1) := by decide +kernel
theorem dX6_gap_68 : decode cX6_gap 68 = .ok (.aload_n 0, 1) := by decide +kernel
theorem dX6_gap_69 : decode cX6_gap 69 = .ok (.getfield 13, 3) := by decide +kernel
theorem dX6_gap_72 : decode cX6_gap 72 = .ok (.iconst 1, 1) := by decide +kernel
theorem dX6_gap_73 : decode cX6_gap 73 = .ok (.iaload, 1) := by decide +kernel
theorem dX6_gap_74 : decode cX6_gap 74 = .ok (.invokestatic 87, 3) := by decide +kernel
theorem dX6_gap_77 : decode cX6_gap 77 = .ok (.ifCond .ne 9, 3) := by decide +kernel
theorem dX6_gap_80 : decode cX6_gap 80 = .ok (.iinc 4 1, 3) := by decide +kernel
theorem dX6_gap_83 : decode cX6_gap 83 = .ok (.goto (-33), 3) := by decide +kernel
theorem dX6_gap_86 : decode cX6_gap 86 = .ok (.iload_n 2, 1) := by decide +kernel
theorem dX6_gap_87 : decode cX6_gap 87 = .ok (.ifCond .ne 7, 3) := by decide +kernel
theorem dX6_gap_90 : decode cX6_gap 90 = .ok (.iload_n 3, 1) := by decide +kernel
theorem dX6_gap_91 : decode cX6_gap 91 = .ok (.goto 7, 3) := by decide +kernel
theorem dX6_gap_94 : decode cX6_gap 94 = .ok (.iload 4, 2) := by decide +kernel
theorem dX6_gap_96 : decode cX6_gap 96 = .ok (.iload_n 3, 1) := by decide +kernel
theorem dX6_gap_97 : decode cX6_gap 97 = .ok (.isub, 1) := by decide +kernel
theorem dX6_gap_98 : decode cX6_gap 98 = .ok (.ireturn, 1) := by decide +kernel
theorem dX6_remember_0 : decode cX6_remember 0 = .ok (.aload_n 0, 1) := by decide +kernel
theorem dX6_remember_1 : decode cX6_remember 1 = .ok (.getfield 167, 3) := by decide +kernel
theorem dX6_remember_4 : decode cX6_remember 4 = .ok (.bipush 14, 2) := by decide +kernel
theorem dX6_remember_6 : decode cX6_remember 6 = .ok (.if_icmp .ne 44, 3) := by decide +kernel
theorem dX6_remember_9 : decode cX6_remember 9 = .ok (.iconst 0, 1) := by decide +kernel
theorem dX6_remember_10 : decode cX6_remember 10 = .ok (.istore_n 1, 1) := by decide +kernel
theorem dX6_remember_11 : decode cX6_remember 11 = .ok (.iload_n 1, 1) := by decide +kernel
theorem dX6_remember_12 : decode cX6_remember 12 = .ok (.sipush 2223, 3) := by decide +kernel
theorem dX6_remember_15 : decode cX6_remember 15 = .ok (.if_icmp .ge 25, 3) := by decide +kernel
theorem dX6_remember_18 : decode cX6_remember 18 = .ok (.aload_n 0, 1) := by decide +kernel
theorem dX6_remember_19 : decode cX6_remember 19 = .ok (.getfield 19, 3) := by decide +kernel
theorem dX6_remember_22 : decode cX6_remember 22 = .ok (.iload_n 1, 1) := by decide +kernel
theorem dX6_remember_23 : decode cX6_remember 23 = .ok (.aload_n 0, 1) := by decide +kernel
theorem dX6_remember_24 : decode cX6_remember 24 = .ok (.getfield 19, 3) := by decide +kernel
theorem dX6_remember_27 : decode cX6_remember 27 = .ok (.iload_n 1, 1) := by decide +kernel
theorem dX6_remember_28 : decode cX6_remember 28 = .ok (.sipush 171, 3) := by decide +kernel
theorem dX6_remember_31 : decode cX6_remember 31 = .ok (.iadd, 1) := by decide +kernel
theorem dX6_remember_32 : decode cX6_remember 32 = .ok (.iaload, 1) := by decide +kernel
theorem dX6_remember_33 : decode cX6_remember 33 = .ok (.iastore, 1) := by decide +kernel
theorem dX6_remember_34 : decode cX6_remember 34 = .ok (.iinc 1 1, 3) := by decide +kernel
theorem dX6_remember_37 : decode cX6_remember 37 = .ok (.goto (-26), 3) := by decide +kernel
theorem dX6_remember_40 : decode cX6_remember 40 = .ok (.aload_n 0, 1) := by decide +kernel
theorem dX6_remember_41 : decode cX6_remember 41 = .ok (.dup, 1) := by decide +kernel
theorem dX6_remember_42 : decode cX6_remember 42 = .ok (.getfield 167, 3) := by decide +kernel
theorem dX6_remember_45 : decode cX6_remember 45 = .ok (.iconst 1, 1) := by decide +kernel
theorem dX6_remember_46 : decode cX6_remember 46 = .ok (.isub, 1) := by decide +kernel
theorem dX6_remember_47 : decode cX6_remember 47 = .ok (.putfield 167, 3) := by decide +kernel
theorem dX6_remember_50 : decode cX6_remember 50 = .ok (.aload_n 0, 1) := by decide +kernel
theorem dX6_remember_51 : decode cX6_remember 51 = .ok (.getfield 13, 3) := by decide +kernel
theorem dX6_remember_54 : decode cX6_remember 54 = .ok (.iconst 0, 1) := by decide +kernel
theorem dX6_remember_55 : decode cX6_remember 55 = .ok (.aload_n 0, 1) := by decide +kernel
theorem dX6_remember_56 : decode cX6_remember 56 = .ok (.getfield 19, 3) := by decide +kernel
theorem dX6_remember_59 : decode cX6_remember 59 = .ok (.sipush 171, 3) := by decide +kernel
theorem dX6_remember_62 : decode cX6_remember 62 = .ok (.aload_n 0, 1) := by decide +kernel
theorem dX6_remember_63 : decode cX6_remember 63 = .ok (.getfield 167, 3) := by decide +kernel
theorem dX6_remember_66 : decode cX6_remember 66 = .ok (.imul, 1) := by decide +kernel
theorem dX6_remember_67 : decode cX6_remember 67 = .ok (.invokestatic 163, 3) := by decide +kernel
theorem dX6_remember_70 : decode cX6_remember 70 = .ok (.aload_n 0, 1) := by decide +kernel
theorem dX6_remember_71 : decode cX6_remember 71 = .ok (.dup, 1) := by decide +kernel
theorem dX6_remember_72 : decode cX6_remember 72 = .ok (.getfield 167, 3) := by decide +kernel
theorem dX6_remember_75 : decode cX6_remember 75 = .ok (.iconst 1, 1) := by decide +kernel
theorem dX6_remember_76 : decode cX6_remember 76 = .ok (.iadd, 1) := by decide +kernel
theorem dX6_remember_77 : decode cX6_remember 77 = .ok (.putfield 167, 3) := by decide +kernel
theorem dX6_remember_80 : decode cX6_remember 80 = .ok (.return_, 1) := by decide +kernel
theorem dX6_ruler_0 : decode cX6_ruler 0 = .ok (.aload_n 0, 1) := by decide +kernel
theorem dX6_ruler_1 : decode cX6_ruler 1 = .ok (.iload_n 1, 1) := by decide +kernel
theorem dX6_ruler_2 : decode cX6_ruler 2 = .ok (.i2l, 1) := by decide +kernel
theorem dX6_ruler_3 : decode cX6_ruler 3 = .ok (.ldc2_w 202, 3) := by decide +kernel
theorem dX6_ruler_6 : decode cX6_ruler 6 = .ok (.ldc2_w 204, 3) := by decide +kernel
theorem dX6_ruler_9 : decode cX6_ruler 9 = .ok (.invokestatic 46, 3) := by decide +kernel
theorem dX6_ruler_12 : decode cX6_ruler 12 = .ok (.ifCond .ne 7, 3) := by decide +kernel
theorem dX6_ruler_15 : decode cX6_ruler 15 = .ok (.iconst 1, 1) := by decide +kernel
theorem dX6_ruler_16 : decode cX6_ruler 16 = .ok (.goto 18, 3) := by decide +kernel
theorem dX6_ruler_19 : decode cX6_ruler 19 = .ok (.aload_n 0, 1) := by decide +kernel
theorem dX6_ruler_20 : decode cX6_ruler 20 = .ok (.getfield 13, 3) := by decide +kernel
theorem dX6_ruler_23 : decode cX6_ruler 23 = .ok (.iconst 0, 1) := by decide +kernel
theorem dX6_ruler_24 : decode cX6_ruler 24 = .ok (.iaload, 1) := by decide +kernel
theorem dX6_ruler_25 : decode cX6_ruler 25 = .ok (.iconst 4, 1) := by decide +kernel
theorem dX6_ruler_26 : decode cX6_ruler 26 = .ok (.if_icmp .ge 7, 3) := by decide +kernel
theorem dX6_ruler_29 : decode cX6_ruler 29 = .ok (.iconst 0, 1) := by decide +kernel
theorem dX6_ruler_30 : decode cX6_ruler 30 = .ok (.goto 4, 3) := by decide +kernel
theorem dX6_ruler_33 : decode cX6_ruler 33 = .ok (.iconst 2, 1) := by decide +kernel
theorem dX6_ruler_34 : decode cX6_ruler 34 = .ok (.invokevirtual 111, 3) := by decide +kernel
theorem dX6_ruler_37 : decode cX6_ruler 37 = .ok (.ifCond .eq 5, 3) := by decide +kernel
theorem dX6_ruler_40 : decode cX6_ruler 40 = .ok (.iconst 0, 1) := by decide +kernel
theorem dX6_ruler_41 : decode cX6_ruler 41 = .ok (.ireturn, 1) := by decide +kernel
theorem dX6_ruler_42 : decode cX6_ruler 42 = .ok (.aload_n 0, 1) := by decide +kernel
theorem dX6_ruler_43 : decode cX6_ruler 43 = .ok (.invokevirtual 206, 3) := by decide +kernel
theorem dX6_ruler_46 : decode cX6_ruler 46 = .ok (.aload_n 0, 1) := by decide +kernel
theorem dX6_ruler_47 : decode cX6_ruler 47 = .ok (.getfield 13, 3) := by decide +kernel
theorem dX6_ruler_50 : decode cX6_ruler 50 = .ok (.iload_n 1, 1) := by decide +kernel
theorem dX6_ruler_51 : decode cX6_ruler 51 = .ok (.invokestatic 139, 3) := by decide +kernel
theorem dX6_ruler_54 : decode cX6_ruler 54 = .ok (.ireturn, 1) := by decide +kernel
theorem dX6_mark_0 : decode cX6_mark 0 = .ok (.aload_n 0, 1) := by decide +kernel
theorem dX6_mark_1 : decode cX6_mark 1 = .ok (.aload_n 0, 1) := by decide +kernel
theorem dX6_mark_2 : decode cX6_mark 2 = .ok (.getfield 13, 3) := by decide +kernel
theorem dX6_mark_5 : decode cX6_mark 5 = .ok (.iload_n 1, 1) := by decide +kernel
theorem dX6_mark_6 : decode cX6_mark 6 = .ok (.iload_n 2, 1) := by decide +kernel
theorem dX6_mark_7 : decode cX6_mark 7 = .ok (.invokestatic 99, 3) := by decide +kernel
theorem dX6_mark_10 : decode cX6_mark 10 = .ok (.ifCond .ne 7, 3) := by decide +kernel
theorem dX6_mark_13 : decode cX6_mark 13 = .ok (.iconst 1, 1) := by decide +kernel
theorem dX6_mark_14 : decode cX6_mark 14 = .ok (.goto 21, 3) := by decide +kernel
theorem dX6_mark_17 : decode cX6_mark 17 = .ok (.aload_n 0, 1) := by decide +kernel
theorem dX6_mark_18 : decode cX6_mark 18 = .ok (.getfield 13, 3) := by decide +kernel
theorem dX6_mark_21 : decode cX6_mark 21 = .ok (.iload_n 1, 1) := by decide +kernel
theorem dX6_mark_22 : decode cX6_mark 22 = .ok (.iload_n 2, 1) := by decide +kernel
theorem dX6_mark_23 : decode cX6_mark 23 = .ok (.iload_n 3, 1) := by decide +kernel
theorem dX6_mark_24 : decode cX6_mark 24 = .ok (.invokestatic 127, 3) := by decide +kernel
theorem dX6_mark_27 : decode cX6_mark 27 = .ok (.ifCond .eq 7, 3) := by decide +kernel
theorem dX6_mark_30 : decode cX6_mark 30 = .ok (.iconst 0, 1) := by decide +kernel
theorem dX6_mark_31 : decode cX6_mark 31 = .ok (.goto 4, 3) := by decide +kernel
theorem dX6_mark_34 : decode cX6_mark 34 = .ok (.iconst 2, 1) := by decide +kernel
theorem dX6_mark_35 : decode cX6_mark 35 = .ok (.invokevirtual 111, 3) := by decide +kernel
theorem dX6_mark_38 : decode cX6_mark 38 = .ok (.ifCond .eq 5, 3) := by decide +kernel
theorem dX6_mark_41 : decode cX6_mark 41 = .ok (.iconst 0, 1) := by decide +kernel
theorem dX6_mark_42 : decode cX6_mark 42 = .ok (.ireturn, 1) := by decide +kernel
theorem dX6_mark_43 : decode cX6_mark 43 = .ok (.aload_n 0, 1) := by decide +kernel
theorem dX6_mark_44 : decode cX6_mark 44 = .ok (.invokevirtual 206, 3) := by decide +kernel
theorem dX6_mark_47 : decode cX6_mark 47 = .ok (.aload_n 0, 1) := by decide +kernel
theorem dX6_mark_48 : decode cX6_mark 48 = .ok (.getfield 13, 3) := by decide +kernel
theorem dX6_mark_51 : decode cX6_mark 51 = .ok (.iload_n 1, 1) := by decide +kernel
theorem dX6_mark_52 : decode cX6_mark 52 = .ok (.iload_n 2, 1) := by decide +kernel
theorem dX6_mark_53 : decode cX6_mark 53 = .ok (.iload_n 3, 1) := by decide +kernel
theorem dX6_mark_54 : decode cX6_mark 54 = .ok (.invokestatic 131, 3) := by decide +kernel
theorem dX6_mark_57 : decode cX6_mark 57 = .ok (.ireturn, 1) := by decide +kernel
theorem dX6_cut_0 : decode cX6_cut 0 = .ok (.aload_n 0, 1) := by decide +kernel
theorem dX6_cut_1 : decode cX6_cut 1 = .ok (.aload_n 0, 1) := by decide +kernel
theorem dX6_cut_2 : decode cX6_cut 2 = .ok (.getfield 13, 3) := by decide +kernel
theorem dX6_cut_5 : decode cX6_cut 5 = .ok (.iload_n 1, 1) := by decide +kernel
theorem dX6_cut_6 : decode cX6_cut 6 = .ok (.invokestatic 50, 3) := by decide +kernel
theorem dX6_cut_9 : decode cX6_cut 9 = .ok (.ifCond .ne 7, 3) := by decide +kernel
theorem dX6_cut_12 : decode cX6_cut 12 = .ok (.iconst 1, 1) := by decide +kernel
theorem dX6_cut_13 : decode cX6_cut 13 = .ok (.goto 28, 3) := by decide +kernel
theorem dX6_cut_16 : decode cX6_cut 16 = .ok (.iload_n 2, 1) := by decide +kernel
theorem dX6_cut_17 : decode cX6_cut 17 = .ok (.i2l, 1) := by decide +kernel
theorem dX6_cut_18 : decode cX6_cut 18 = .ok (.ldc2_w 202, 3) := by decide +kernel
theorem dX6_cut_21 : decode cX6_cut 21 = .ok (.aload_n 0, 1) := by decide +kernel
theorem dX6_cut_22 : decode cX6_cut 22 = .ok (.getfield 13, 3) := by decide +kernel
theorem dX6_cut_25 : decode cX6_cut 25 = .ok (.iload_n 1, 1) := by decide +kernel
theorem dX6_cut_26 : decode cX6_cut 26 = .ok (.invokestatic 54, 3) := by decide +kernel
theorem dX6_cut_29 : decode cX6_cut 29 = .ok (.i2l, 1) := by decide +kernel
theorem dX6_cut_30 : decode cX6_cut 30 = .ok (.invokestatic 46, 3) := by decide +kernel
theorem dX6_cut_33 : decode cX6_cut 33 = .ok (.ifCond .eq 7, 3) := by decide +kernel
theorem dX6_cut_36 : decode cX6_cut 36 = .ok (.iconst 0, 1) := by decide +kernel
theorem dX6_cut_37 : decode cX6_cut 37 = .ok (.goto 4, 3) := by decide +kernel
theorem dX6_cut_40 : decode cX6_cut 40 = .ok (.iconst 2, 1) := by decide +kernel
theorem dX6_cut_41 : decode cX6_cut 41 = .ok (.invokevirtual 111, 3) := by decide +kernel
theorem dX6_cut_44 : decode cX6_cut 44 = .ok (.ifCond .eq 5, 3) := by decide +kernel
theorem dX6_cut_47 : decode cX6_cut 47 = .ok (.iconst 0, 1) := by decide +kernel
theorem dX6_cut_48 : decode cX6_cut 48 = .ok (.ireturn, 1) := by decide +kernel
theorem dX6_cut_49 : decode cX6_cut 49 = .ok (.aload_n 0, 1) := by decide +kernel
theorem dX6_cut_50 : decode cX6_cut 50 = .ok (.invokevirtual 206, 3) := by decide +kernel
theorem dX6_cut_53 : decode cX6_cut 53 = .ok (.aload_n 0, 1) := by decide +kernel
theorem dX6_cut_54 : decode cX6_cut 54 = .ok (.getfield 13, 3) := by decide +kernel
theorem dX6_cut_57 : decode cX6_cut 57 = .ok (.iload_n 1, 1) := by decide +kernel
theorem dX6_cut_58 : decode cX6_cut 58 = .ok (.iload_n 2, 1) := by decide +kernel
theorem dX6_cut_59 : decode cX6_cut 59 = .ok (.invokestatic 146, 3) := by decide +kernel
theorem dX6_cut_62 : decode cX6_cut 62 = .ok (.ireturn, 1) := by decide +kernel
theorem dX6_turn_0 : decode cX6_turn 0 = .ok (.aload_n 0, 1) := by decide +kernel
theorem dX6_turn_1 : decode cX6_turn 1 = .ok (.aload_n 0, 1) := by decide +kernel
theorem dX6_turn_2 : decode cX6_turn 2 = .ok (.getfield 13, 3) := by decide +kernel
theorem dX6_turn_5 : decode cX6_turn 5 = .ok (.iload_n 1, 1) := by decide +kernel
theorem dX6_turn_6 : decode cX6_turn 6 = .ok (.invokestatic 50, 3) := by decide +kernel
theorem dX6_turn_9 : decode cX6_turn 9 = .ok (.ifCond .eq 7, 3) := by decide +kernel
theorem dX6_turn_12 : decode cX6_turn 12 = .ok (.iconst 0, 1) := by decide +kernel
theorem dX6_turn_13 : decode cX6_turn 13 = .ok (.goto 4, 3) := by decide +kernel
theorem dX6_turn_16 : decode cX6_turn 16 = .ok (.iconst 1, 1) := by decide +kernel
theorem dX6_turn_17 : decode cX6_turn 17 = .ok (.invokevirtual 111, 3) := by decide +kernel
theorem dX6_turn_20 : decode cX6_turn 20 = .ok (.ifCond .eq 5, 3) := by decide +kernel
theorem dX6_turn_23 : decode cX6_turn 23 = .ok (.iconst 0, 1) := by decide +kernel
theorem dX6_turn_24 : decode cX6_turn 24 = .ok (.ireturn, 1) := by decide +kernel
theorem dX6_turn_25 : decode cX6_turn 25 = .ok (.aload_n 0, 1) := by decide +kernel
theorem dX6_turn_26 : decode cX6_turn 26 = .ok (.invokevirtual 206, 3) := by decide +kernel
theorem dX6_turn_29 : decode cX6_turn 29 = .ok (.aload_n 0, 1) := by decide +kernel
theorem dX6_turn_30 : decode cX6_turn 30 = .ok (.getfield 13, 3) := by decide +kernel
theorem dX6_turn_33 : decode cX6_turn 33 = .ok (.iload_n 1, 1) := by decide +kernel
theorem dX6_turn_34 : decode cX6_turn 34 = .ok (.invokestatic 150, 3) := by decide +kernel
theorem dX6_turn_37 : decode cX6_turn 37 = .ok (.ireturn, 1) := by decide +kernel
theorem dX6_set_0 : decode cX6_set 0 = .ok (.aload_n 0, 1) := by decide +kernel
theorem dX6_set_1 : decode cX6_set 1 = .ok (.iload_n 1, 1) := by decide +kernel
theorem dX6_set_2 : decode cX6_set 2 = .ok (.iload_n 2, 1) := by decide +kernel
theorem dX6_set_3 : decode cX6_set 3 = .ok (.invokestatic 209, 3) := by decide +kernel
theorem dX6_set_6 : decode cX6_set 6 = .ok (.ifCond .eq 7, 3) := by decide +kernel
theorem dX6_set_9 : decode cX6_set 9 = .ok (.iconst 0, 1) := by decide +kernel
theorem dX6_set_10 : decode cX6_set 10 = .ok (.goto 4, 3) := by decide +kernel
theorem dX6_set_13 : decode cX6_set 13 = .ok (.iconst 1, 1) := by decide +kernel
theorem dX6_set_14 : decode cX6_set 14 = .ok (.invokevirtual 111, 3) := by decide +kernel
theorem dX6_set_17 : decode cX6_set 17 = .ok (.ifCond .eq 5, 3) := by decide +kernel
theorem dX6_set_20 : decode cX6_set 20 = .ok (.iconst 0, 1) := by decide +kernel
theorem dX6_set_21 : decode cX6_set 21 = .ok (.ireturn, 1) := by decide +kernel
theorem dX6_set_22 : decode cX6_set 22 = .ok (.aload_n 0, 1) := by decide +kernel
theorem dX6_set_23 : decode cX6_set 23 = .ok (.invokevirtual 206, 3) := by decide +kernel
theorem dX6_set_26 : decode cX6_set 26 = .ok (.aload_n 0, 1) := by decide +kernel
theorem dX6_set_27 : decode cX6_set 27 = .ok (.getfield 13, 3) := by decide +kernel
theorem dX6_set_30 : decode cX6_set 30 = .ok (.iload_n 1, 1) := by decide +kernel
theorem dX6_set_31 : decode cX6_set 31 = .ok (.iload_n 2, 1) := by decide +kernel
theorem dX6_set_32 : decode cX6_set 32 = .ok (.invokestatic 153, 3) := by decide +kernel
theorem dX6_set_35 : decode cX6_set 35 = .ok (.ireturn, 1) := by decide +kernel
theorem dX6_undo_0 : decode cX6_undo 0 = .ok (.aload_n 0, 1) := by decide +kernel
theorem dX6_undo_1 : decode cX6_undo 1 = .ok (.aload_n 0, 1) := by decide +kernel
theorem dX6_undo_2 : decode cX6_undo 2 = .ok (.getfield 167, 3) := by decide +kernel
theorem dX6_undo_5 : decode cX6_undo 5 = .ok (.ifCond .ne 7, 3) := by decide +kernel
theorem dX6_undo_8 : decode cX6_undo 8 = .ok (.iconst 1, 1) := by decide +kernel
theorem dX6_undo_9 : decode cX6_undo 9 = .ok (.goto 4, 3) := by decide +kernel
theorem dX6_undo_12 : decode cX6_undo 12 = .ok (.iconst 0, 1) := by decide +kernel
theorem dX6_undo_13 : decode cX6_undo 13 = .ok (.invokevirtual 111, 3) := by decide +kernel
theorem dX6_undo_16 : decode cX6_undo 16 = .ok (.ifCond .eq 5, 3) := by decide +kernel
theorem dX6_undo_19 : decode cX6_undo 19 = .ok (.iconst 0, 1) := by decide +kernel
theorem dX6_undo_20 : decode cX6_undo 20 = .ok (.ireturn, 1) := by decide +kernel
theorem dX6_undo_21 : decode cX6_undo 21 = .ok (.aload_n 0, 1) := by decide +kernel
theorem dX6_undo_22 : decode cX6_undo 22 = .ok (.dup, 1) := by decide +kernel
theorem dX6_undo_23 : decode cX6_undo 23 = .ok (.getfield 167, 3) := by decide +kernel
theorem dX6_undo_26 : decode cX6_undo 26 = .ok (.iconst 1, 1) := by decide +kernel
theorem dX6_undo_27 : decode cX6_undo 27 = .ok (.isub, 1) := by decide +kernel
theorem dX6_undo_28 : decode cX6_undo 28 = .ok (.putfield 167, 3) := by decide +kernel
theorem dX6_undo_31 : decode cX6_undo 31 = .ok (.aload_n 0, 1) := by decide +kernel
theorem dX6_undo_32 : decode cX6_undo 32 = .ok (.getfield 19, 3) := by decide +kernel
theorem dX6_undo_35 : decode cX6_undo 35 = .ok (.sipush 171, 3) := by decide +kernel
theorem dX6_undo_38 : decode cX6_undo 38 = .ok (.aload_n 0, 1) := by decide +kernel
theorem dX6_undo_39 : decode cX6_undo 39 = .ok (.getfield 167, 3) := by decide +kernel
theorem dX6_undo_42 : decode cX6_undo 42 = .ok (.imul, 1) := by decide +kernel
theorem dX6_undo_43 : decode cX6_undo 43 = .ok (.aload_n 0, 1) := by decide +kernel
theorem dX6_undo_44 : decode cX6_undo 44 = .ok (.getfield 13, 3) := by decide +kernel
theorem dX6_undo_47 : decode cX6_undo 47 = .ok (.iconst 0, 1) := by decide +kernel
theorem dX6_undo_48 : decode cX6_undo 48 = .ok (.invokestatic 163, 3) := by decide +kernel
theorem dX6_undo_51 : decode cX6_undo 51 = .ok (.aload_n 0, 1) := by decide +kernel
theorem dX6_undo_52 : decode cX6_undo 52 = .ok (.getfield 167, 3) := by decide +kernel
theorem dX6_undo_55 : decode cX6_undo 55 = .ok (.ireturn, 1) := by decide +kernel
theorem dX6_fewest_0 : decode cX6_fewest 0 = .ok (.aload_n 0, 1) := by decide +kernel
theorem dX6_fewest_1 : decode cX6_fewest 1 = .ok (.iload_n 1, 1) := by decide +kernel
theorem dX6_fewest_2 : decode cX6_fewest 2 = .ok (.i2l, 1) := by decide +kernel
theorem dX6_fewest_3 : decode cX6_fewest 3 = .ok (.lconst 0, 1) := by decide +kernel
theorem dX6_fewest_4 : decode cX6_fewest 4 = .ok (.ldc2_w 78, 3) := by decide +kernel
theorem dX6_fewest_7 : decode cX6_fewest 7 = .ok (.invokestatic 46, 3) := by decide +kernel
theorem dX6_fewest_10 : decode cX6_fewest 10 = .ok (.ifCond .eq 17, 3) := by decide +kernel
theorem dX6_fewest_13 : decode cX6_fewest 13 = .ok (.iload_n 2, 1) := by decide +kernel
theorem dX6_fewest_14 : decode cX6_fewest 14 = .ok (.i2l, 1) := by decide +kernel
theorem dX6_fewest_15 : decode cX6_fewest 15 = .ok (.lconst 0, 1) := by decide +kernel
theorem dX6_fewest_16 : decode cX6_fewest 16 = .ok (.lconst 1, 1) := by decide +kernel
theorem dX6_fewest_17 : decode cX6_fewest 17 = .ok (.invokestatic 46, 3) := by decide +kernel
theorem dX6_fewest_20 : decode cX6_fewest 20 = .ok (.ifCond .eq 7, 3) := by decide +kernel
theorem dX6_fewest_23 : decode cX6_fewest 23 = .ok (.iconst 0, 1) := by decide +kernel
theorem dX6_fewest_24 : decode cX6_fewest 24 = .ok (.goto 4, 3) := by decide +kernel
theorem dX6_fewest_27 : decode cX6_fewest 27 = .ok (.iconst 1, 1) := by decide +kernel
theorem dX6_fewest_28 : decode cX6_fewest 28 = .ok (.invokevirtual 111, 3) := by decide +kernel
theorem dX6_fewest_31 : decode cX6_fewest 31 = .ok (.ifCond .eq 5, 3) := by decide +kernel
theorem dX6_fewest_34 : decode cX6_fewest 34 = .ok (.iconst 0, 1) := by decide +kernel
theorem dX6_fewest_35 : decode cX6_fewest 35 = .ok (.ireturn, 1) := by decide +kernel
theorem dX6_fewest_36 : decode cX6_fewest 36 = .ok (.aload_n 0, 1) := by decide +kernel
theorem dX6_fewest_37 : decode cX6_fewest 37 = .ok (.aload_n 0, 1) := by decide +kernel
theorem dX6_fewest_38 : decode cX6_fewest 38 = .ok (.getfield 13, 3) := by decide +kernel
theorem dX6_fewest_41 : decode cX6_fewest 41 = .ok (.invokevirtual 80, 3) := by decide +kernel
theorem dX6_fewest_44 : decode cX6_fewest 44 = .ok (.aload_n 0, 1) := by decide +kernel
theorem dX6_fewest_45 : decode cX6_fewest 45 = .ok (.iconst 0, 1) := by decide +kernel
theorem dX6_fewest_46 : decode cX6_fewest 46 = .ok (.invokevirtual 83, 3) := by decide +kernel
theorem dX6_fewest_49 : decode cX6_fewest 49 = .ok (.aload_n 0, 1) := by decide +kernel
theorem dX6_fewest_50 : decode cX6_fewest 50 = .ok (.getfield 32, 3) := by decide +kernel
theorem dX6_fewest_53 : decode cX6_fewest 53 = .ok (.iload_n 1, 1) := by decide +kernel
theorem dX6_fewest_54 : decode cX6_fewest 54 = .ok (.iaload, 1) := by decide +kernel
theorem dX6_fewest_55 : decode cX6_fewest 55 = .ok (.ireturn, 1) := by decide +kernel
theorem dX6_nextLaying_0 : decode cX6_nextLaying 0 = .ok (.iconst 0, 1) := by decide +kernel
theorem dX6_nextLaying_1 : decode cX6_nextLaying 1 = .ok (.istore_n 2, 1) := by decide +kernel
theorem dX6_nextLaying_2 : decode cX6_nextLaying 2 = .ok (.iload_n 2, 1) := by decide +kernel
theorem dX6_nextLaying_3 : decode cX6_nextLaying 3 = .ok (.aload_n 0, 1) := by decide +kernel
theorem dX6_nextLaying_4 : decode cX6_nextLaying 4 = .ok (.getfield 13, 3) := by decide +kernel
theorem dX6_nextLaying_7 : decode cX6_nextLaying 7 = .ok (.iconst 0, 1) := by decide +kernel
theorem dX6_nextLaying_8 : decode cX6_nextLaying 8 = .ok (.iaload, 1) := by decide +kernel
theorem dX6_nextLaying_9 : decode cX6_nextLaying 9 = .ok (.if_icmp .ge 142, 3) := by decide +kernel
theorem dX6_nextLaying_12 : decode cX6_nextLaying 12 = .ok (.iconst 0, 1) := by decide +kernel
theorem dX6_nextLaying_13 : decode cX6_nextLaying 13 = .ok (.istore_n 3, 1) := by decide +kernel
theorem dX6_nextLaying_14 : decode cX6_nextLaying 14 = .ok (.iload_n 3, 1) := by decide +kernel
theorem dX6_nextLaying_15 : decode cX6_nextLaying 15 = .ok (.aload_n 0, 1) := by decide +kernel
theorem dX6_nextLaying_16 : decode cX6_nextLaying 16 = .ok (.getfield 13, 3) := by decide +kernel
theorem dX6_nextLaying_19 : decode cX6_nextLaying 19 = .ok (.iload_n 2, 1) := by decide +kernel
theorem dX6_nextLaying_20 : decode cX6_nextLaying 20 = .ok (.invokestatic 175, 3) := by decide +kernel
theorem dX6_nextLaying_23 : decode cX6_nextLaying 23 = .ok (.if_icmp .ge 122, 3) := by decide +kernel
theorem dX6_nextLaying_26 : decode cX6_nextLaying 26 = .ok (.aload_n 0, 1) := by decide +kernel
theorem dX6_nextLaying_27 : decode cX6_nextLaying 27 = .ok (.getfield 13, 3) := by decide +kernel
theorem dX6_nextLaying_30 : decode cX6_nextLaying 30 = .ok (.iload_n 2, 1) := by decide +kernel
theorem dX6_nextLaying_31 : decode cX6_nextLaying 31 = .ok (.iload_n 3, 1) := by decide +kernel
theorem dX6_nextLaying_32 : decode cX6_nextLaying 32 = .ok (.invokestatic 195, 3) := by decide +kernel
theorem dX6_nextLaying_35 : decode cX6_nextLaying 35 = .ok (.aload_n 0, 1) := by decide +kernel
theorem dX6_nextLaying_36 : decode cX6_nextLaying 36 = .ok (.getfield 13, 3) := by decide +kernel
theorem dX6_nextLaying_39 : decode cX6_nextLaying 39 = .ok (.iload_n 2, 1) := by decide +kernel
theorem dX6_nextLaying_40 : decode cX6_nextLaying 40 = .ok (.iload_n 3, 1) := by decide +kernel
theorem dX6_nextLaying_41 : decode cX6_nextLaying 41 = .ok (.invokestatic 192, 3) := by decide +kernel
theorem dX6_nextLaying_44 : decode cX6_nextLaying 44 = .ok (.isub, 1) := by decide +kernel
theorem dX6_nextLaying_45 : decode cX6_nextLaying 45 = .ok (.istore 4, 2) := by decide +kernel
theorem dX6_nextLaying_47 : decode cX6_nextLaying 47 = .ok (.iload_n 1, 1) := by decide +kernel
theorem dX6_nextLaying_48 : decode cX6_nextLaying 48 = .ok (.iload 4, 2) := by decide +kernel
theorem dX6_nextLaying_50 : decode cX6_nextLaying 50 = .ok (.iadd, 1) := by decide +kernel
theorem dX6_nextLaying_51 : decode cX6_nextLaying 51 = .ok (.i2l, 1) := by decide +kernel
theorem dX6_nextLaying_52 : decode cX6_nextLaying 52 = .ok (.lconst 0, 1) := by decide +kernel
theorem dX6_nextLaying_53 : decode cX6_nextLaying 53 = .ok (.ldc2_w 78, 3) := by decide +kernel
theorem dX6_nextLaying_56 : decode cX6_nextLaying 56 = .ok (.invokestatic 46, 3) := by decide +kernel
theorem dX6_nextLaying_59 : decode cX6_nextLaying 59 = .ok (.ifCond .eq 35, 3) := by decide +kernel
theorem dX6_nextLaying_62 : decode cX6_nextLaying 62 = .ok (.aload_n 0, 1) := by decide +kernel
theorem dX6_nextLaying_63 : decode cX6_nextLaying 63 = .ok (.getfield 32, 3) := by decide +kernel
theorem dX6_nextLaying_66 : decode cX6_nextLaying 66 = .ok (.iload_n 1, 1) := by decide +kernel
theorem dX6_nextLaying_67 : decode cX6_nextLaying 67 = .ok (.iload 4, 2) := by decide +kernel
theorem dX6_nextLaying_69 : decode cX6_nextLaying 69 = .ok (.iadd, 1) := by decide +kernel
theorem dX6_nextLaying_70 : decode cX6_nextLaying 70 = .ok (.iaload, 1) := by decide +kernel
theorem dX6_nextLaying_71 : decode cX6_nextLaying 71 = .ok (.aload_n 0, 1) := by decide +kernel
theorem dX6_nextLaying_72 : decode cX6_nextLaying 72 = .ok (.getfield 32, 3) := by decide +kernel
theorem dX6_nextLaying_75 : decode cX6_nextLaying 75 = .ok (.iload_n 1, 1) := by decide +kernel
theorem dX6_nextLaying_76 : decode cX6_nextLaying 76 = .ok (.iaload, 1) := by decide +kernel
theorem dX6_nextLaying_77 : decode cX6_nextLaying 77 = .ok (.iconst 1, 1) := by decide +kernel
theorem dX6_nextLaying_78 : decode cX6_nextLaying 78 = .ok (.isub, 1) := by decide +kernel
theorem dX6_nextLaying_79 : decode cX6_nextLaying 79 = .ok (.if_icmp .ne 15, 3) := by decide +kernel
theorem dX6_nextLaying_82 : decode cX6_nextLaying 82 = .ok (.iconst 2, 1) := by decide +kernel
theorem dX6_nextLaying_83 : decode cX6_nextLaying 83 = .ok (.sipush 10000, 3) := by decide +kernel
theorem dX6_nextLaying_86 : decode cX6_nextLaying 86 = .ok (.iload_n 2, 1) := by decide +kernel
theorem dX6_nextLaying_87 : decode cX6_nextLaying 87 = .ok (.imul, 1) := by decide +kernel
theorem dX6_nextLaying_88 : decode cX6_nextLaying 88 = .ok (.iload_n 3, 1) := by decide +kernel
theorem dX6_nextLaying_89 : decode cX6_nextLaying 89 = .ok (.iadd, 1) := by decide +kernel
theorem dX6_nextLaying_90 : decode cX6_nextLaying 90 = .ok (.imul, 1) := by decide +kernel
theorem dX6_nextLaying_91 : decode cX6_nextLaying 91 = .ok (.iconst 1, 1) := by decide +kernel
theorem dX6_nextLaying_92 : decode cX6_nextLaying 92 = .ok (.iadd, 1) := by decide +kernel
theorem dX6_nextLaying_93 : decode cX6_nextLaying 93 = .ok (.ireturn, 1) := by decide +kernel
theorem dX6_nextLaying_94 : decode cX6_nextLaying 94 = .ok (.iload_n 1, 1) := by decide +kernel
theorem dX6_nextLaying_95 : decode cX6_nextLaying 95 = .ok (.iload 4, 2) := by decide +kernel
theorem dX6_nextLaying_97 : decode cX6_nextLaying 97 = .ok (.isub, 1) := by decide +kernel
theorem dX6_nextLaying_98 : decode cX6_nextLaying 98 = .ok (.i2l, 1) := by decide +kernel
theorem dX6_nextLaying_99 : decode cX6_nextLaying 99 = .ok (.lconst 0, 1) := by decide +kernel
theorem dX6_nextLaying_100 : decode cX6_nextLaying 100 = .ok (.ldc2_w 78, 3) := by decide +kernel
theorem dX6_nextLaying_103 : decode cX6_nextLaying 103 = .ok (.invokestatic 46, 3) := by decide +kernel
theorem dX6_nextLaying_106 : decode cX6_nextLaying 106 = .ok (.ifCond .eq 33, 3) := by decide +kernel
theorem dX6_nextLaying_109 : decode cX6_nextLaying 109 = .ok (.aload_n 0, 1) := by decide +kernel
theorem dX6_nextLaying_110 : decode cX6_nextLaying 110 = .ok (.getfield 32, 3) := by decide +kernel
theorem dX6_nextLaying_113 : decode cX6_nextLaying 113 = .ok (.iload_n 1, 1) := by decide +kernel
theorem dX6_nextLaying_114 : decode cX6_nextLaying 114 = .ok (.iload 4, 2) := by decide +kernel
theorem dX6_nextLaying_116 : decode cX6_nextLaying 116 = .ok (.isub, 1) := by decide +kernel
theorem dX6_nextLaying_117 : decode cX6_nextLaying 117 = .ok (.iaload, 1) := by decide +kernel
theorem dX6_nextLaying_118 : decode cX6_nextLaying 118 = .ok (.aload_n 0, 1) := by decide +kernel
theorem dX6_nextLaying_119 : decode cX6_nextLaying 119 = .ok (.getfield 32, 3) := by decide +kernel
theorem dX6_nextLaying_122 : decode cX6_nextLaying 122 = .ok (.iload_n 1, 1) := by decide +kernel
theorem dX6_nextLaying_123 : decode cX6_nextLaying 123 = .ok (.iaload, 1) := by decide +kernel
theorem dX6_nextLaying_124 : decode cX6_nextLaying 124 = .ok (.iconst 1, 1) := by decide +kernel
theorem dX6_nextLaying_125 : decode cX6_nextLaying 125 = .ok (.isub, 1) := by decide +kernel
theorem dX6_nextLaying_126 : decode cX6_nextLaying 126 = .ok (.if_icmp .ne 13, 3) := by decide +kernel
theorem dX6_nextLaying_129 : decode cX6_nextLaying 129 = .ok (.iconst 2, 1) := by decide +kernel
theorem dX6_nextLaying_130 : decode cX6_nextLaying 130 = .ok (.sipush 10000, 3) := by decide +kernel
theorem dX6_nextLaying_133 : decode cX6_nextLaying 133 = .ok (.iload_n 2, 1) := by decide +kernel
theorem dX6_nextLaying_134 : decode cX6_nextLaying 134 = .ok (.imul, 1) := by decide +kernel
theorem dX6_nextLaying_135 : decode cX6_nextLaying 135 = .ok (.iload_n 3, 1) := by decide +kernel
theorem dX6_nextLaying_136 : decode cX6_nextLaying 136 = .ok (.iadd, 1) := by decide +kernel
theorem dX6_nextLaying_137 : decode cX6_nextLaying 137 = .ok (.imul, 1) := by decide +kernel
theorem dX6_nextLaying_138 : decode cX6_nextLaying 138 = .ok (.ireturn, 1) := by decide +kernel
theorem dX6_nextLaying_139 : decode cX6_nextLaying 139 = .ok (.iinc 3 1, 3) := by decide +kernel
theorem dX6_nextLaying_142 : decode cX6_nextLaying 142 = .ok (.goto (-128), 3) := by decide +kernel
theorem dX6_nextLaying_145 : decode cX6_nextLaying 145 = .ok (.iinc 2 1, 3) := by decide +kernel
theorem dX6_nextLaying_148 : decode cX6_nextLaying 148 = .ok (.goto (-146), 3) := by decide +kernel
theorem dX6_nextLaying_151 : decode cX6_nextLaying 151 = .ok (.iconst (-1), 1) := by decide +kernel
theorem dX6_nextLaying_152 : decode cX6_nextLaying 152 = .ok (.ireturn, 1) := by decide +kernel
theorem dX6_ends_0 : decode cX6_ends 0 = .ok (.iload_n 2, 1) := by decide +kernel
theorem dX6_ends_1 : decode cX6_ends 1 = .ok (.iconst 2, 1) := by decide +kernel
theorem dX6_ends_2 : decode cX6_ends 2 = .ok (.idiv, 1) := by decide +kernel
theorem dX6_ends_3 : decode cX6_ends 3 = .ok (.sipush 10000, 3) := by decide +kernel
theorem dX6_ends_6 : decode cX6_ends 6 = .ok (.idiv, 1) := by decide +kernel
theorem dX6_ends_7 : decode cX6_ends 7 = .ok (.istore_n 3, 1) := by decide +kernel
theorem dX6_ends_8 : decode cX6_ends 8 = .ok (.iload_n 2, 1) := by decide +kernel
theorem dX6_ends_9 : decode cX6_ends 9 = .ok (.iconst 2, 1) := by decide +kernel
theorem dX6_ends_10 : decode cX6_ends 10 = .ok (.idiv, 1) := by decide +kernel
theorem dX6_ends_11 : decode cX6_ends 11 = .ok (.sipush 10000, 3) := by decide +kernel
theorem dX6_ends_14 : decode cX6_ends 14 = .ok (.irem, 1) := by decide +kernel
theorem dX6_ends_15 : decode cX6_ends 15 = .ok (.istore 4, 2) := by decide +kernel
theorem dX6_ends_17 : decode cX6_ends 17 = .ok (.aload_n 0, 1) := by decide +kernel
theorem dX6_ends_18 : decode cX6_ends 18 = .ok (.getfield 13, 3) := by decide +kernel
theorem dX6_ends_21 : decode cX6_ends 21 = .ok (.iload_n 3, 1) := by decide +kernel
theorem dX6_ends_22 : decode cX6_ends 22 = .ok (.iload 4, 2) := by decide +kernel
theorem dX6_ends_24 : decode cX6_ends 24 = .ok (.invokestatic 195, 3) := by decide +kernel
theorem dX6_ends_27 : decode cX6_ends 27 = .ok (.aload_n 0, 1) := by decide +kernel
theorem dX6_ends_28 : decode cX6_ends 28 = .ok (.getfield 13, 3) := by decide +kernel
theorem dX6_ends_31 : decode cX6_ends 31 = .ok (.iload_n 3, 1) := by decide +kernel
theorem dX6_ends_32 : decode cX6_ends 32 = .ok (.iload 4, 2) := by decide +kernel
theorem dX6_ends_34 : decode cX6_ends 34 = .ok (.invokestatic 192, 3) := by decide +kernel
theorem dX6_ends_37 : decode cX6_ends 37 = .ok (.isub, 1) := by decide +kernel
theorem dX6_ends_38 : decode cX6_ends 38 = .ok (.istore 5, 2) := by decide +kernel
theorem dX6_ends_40 : decode cX6_ends 40 = .ok (.iload_n 2, 1) := by decide +kernel
theorem dX6_ends_41 : decode cX6_ends 41 = .ok (.iconst 2, 1) := by decide +kernel
theorem dX6_ends_42 : decode cX6_ends 42 = .ok (.irem, 1) := by decide +kernel
theorem dX6_ends_43 : decode cX6_ends 43 = .ok (.iconst 1, 1) := by decide +kernel
theorem dX6_ends_44 : decode cX6_ends 44 = .ok (.if_icmp .ne 10, 3) := by decide +kernel
theorem dX6_ends_47 : decode cX6_ends 47 = .ok (.iload_n 1, 1) := by decide +kernel
theorem dX6_ends_48 : decode cX6_ends 48 = .ok (.iload 5, 2) := by decide +kernel
theorem dX6_ends_50 : decode cX6_ends 50 = .ok (.iadd, 1) := by decide +kernel
theorem dX6_ends_51 : decode cX6_ends 51 = .ok (.goto 7, 3) := by decide +kernel
theorem dX6_ends_54 : decode cX6_ends 54 = .ok (.iload_n 1, 1) := by decide +kernel
theorem dX6_ends_55 : decode cX6_ends 55 = .ok (.iload 5, 2) := by decide +kernel
theorem dX6_ends_57 : decode cX6_ends 57 = .ok (.isub, 1) := by decide +kernel
theorem dX6_ends_58 : decode cX6_ends 58 = .ok (.ireturn, 1) := by decide +kernel
theorem dX6_laying_0 : decode cX6_laying 0 = .ok (.aload_n 0, 1) := by decide +kernel
theorem dX6_laying_1 : decode cX6_laying 1 = .ok (.iload_n 1, 1) := by decide +kernel
theorem dX6_laying_2 : decode cX6_laying 2 = .ok (.i2l, 1) := by decide +kernel
theorem dX6_laying_3 : decode cX6_laying 3 = .ok (.lconst 0, 1) := by decide +kernel
theorem dX6_laying_4 : decode cX6_laying 4 = .ok (.ldc2_w 78, 3) := by decide +kernel
theorem dX6_laying_7 : decode cX6_laying 7 = .ok (.invokestatic 46, 3) := by decide +kernel
theorem dX6_laying_10 : decode cX6_laying 10 = .ok (.ifCond .eq 23, 3) := by decide +kernel
theorem dX6_laying_13 : decode cX6_laying 13 = .ok (.iload_n 2, 1) := by decide +kernel
theorem dX6_laying_14 : decode cX6_laying 14 = .ok (.ifCond .lt 19, 3) := by decide +kernel
theorem dX6_laying_17 : decode cX6_laying 17 = .ok (.iload_n 3, 1) := by decide +kernel
theorem dX6_laying_18 : decode cX6_laying 18 = .ok (.i2l, 1) := by decide +kernel
theorem dX6_laying_19 : decode cX6_laying 19 = .ok (.lconst 0, 1) := by decide +kernel
theorem dX6_laying_20 : decode cX6_laying 20 = .ok (.ldc2_w 190, 3) := by decide +kernel
theorem dX6_laying_23 : decode cX6_laying 23 = .ok (.invokestatic 46, 3) := by decide +kernel
theorem dX6_laying_26 : decode cX6_laying 26 = .ok (.ifCond .eq 7, 3) := by decide +kernel
theorem dX6_laying_29 : decode cX6_laying 29 = .ok (.iconst 0, 1) := by decide +kernel
theorem dX6_laying_30 : decode cX6_laying 30 = .ok (.goto 4, 3) := by decide +kernel
theorem dX6_laying_33 : decode cX6_laying 33 = .ok (.iconst 1, 1) := by decide +kernel
theorem dX6_laying_34 : decode cX6_laying 34 = .ok (.invokevirtual 111, 3) := by decide +kernel
theorem dX6_laying_37 : decode cX6_laying 37 = .ok (.ifCond .eq 5, 3) := by decide +kernel
theorem dX6_laying_40 : decode cX6_laying 40 = .ok (.iconst 0, 1) := by decide +kernel
theorem dX6_laying_41 : decode cX6_laying 41 = .ok (.ireturn, 1) := by decide +kernel
theorem dX6_laying_42 : decode cX6_laying 42 = .ok (.aload_n 0, 1) := by decide +kernel
theorem dX6_laying_43 : decode cX6_laying 43 = .ok (.aload_n 0, 1) := by decide +kernel
theorem dX6_laying_44 : decode cX6_laying 44 = .ok (.getfield 13, 3) := by decide +kernel
theorem dX6_laying_47 : decode cX6_laying 47 = .ok (.invokevirtual 80, 3) := by decide +kernel
theorem dX6_laying_50 : decode cX6_laying 50 = .ok (.aload_n 0, 1) := by decide +kernel
theorem dX6_laying_51 : decode cX6_laying 51 = .ok (.iload_n 1, 1) := by decide +kernel
theorem dX6_laying_52 : decode cX6_laying 52 = .ok (.invokevirtual 83, 3) := by decide +kernel
theorem dX6_laying_55 : decode cX6_laying 55 = .ok (.iload_n 2, 1) := by decide +kernel
theorem dX6_laying_56 : decode cX6_laying 56 = .ok (.aload_n 0, 1) := by decide +kernel
theorem dX6_laying_57 : decode cX6_laying 57 = .ok (.getfield 32, 3) := by decide +kernel
theorem dX6_laying_60 : decode cX6_laying 60 = .ok (.iconst 0, 1) := by decide +kernel
theorem dX6_laying_61 : decode cX6_laying 61 = .ok (.iaload, 1) := by decide +kernel
theorem dX6_laying_62 : decode cX6_laying 62 = .ok (.if_icmp .lt 5, 3) := by decide +kernel
theorem dX6_laying_65 : decode cX6_laying 65 = .ok (.iconst (-1), 1) := by decide +kernel
theorem dX6_laying_66 : decode cX6_laying 66 = .ok (.ireturn, 1) := by decide +kernel
theorem dX6_laying_67 : decode cX6_laying 67 = .ok (.iconst 0, 1) := by decide +kernel
theorem dX6_laying_68 : decode cX6_laying 68 = .ok (.istore 4, 2) := by decide +kernel
theorem dX6_laying_70 : decode cX6_laying 70 = .ok (.iconst 0, 1) := by decide +kernel
theorem dX6_laying_71 : decode cX6_laying 71 = .ok (.istore 5, 2) := by decide +kernel
theorem dX6_laying_73 : decode cX6_laying 73 = .ok (.iload 5, 2) := by decide +kernel
theorem dX6_laying_75 : decode cX6_laying 75 = .ok (.iload_n 2, 1) := by decide +kernel
theorem dX6_laying_76 : decode cX6_laying 76 = .ok (.if_icmp .ge 23, 3) := by decide +kernel
theorem dX6_laying_79 : decode cX6_laying 79 = .ok (.aload_n 0, 1) := by decide +kernel
theorem dX6_laying_80 : decode cX6_laying 80 = .ok (.iload 4, 2) := by decide +kernel
theorem dX6_laying_82 : decode cX6_laying 82 = .ok (.aload_n 0, 1) := by decide +kernel
theorem dX6_laying_83 : decode cX6_laying 83 = .ok (.iload 4, 2) := by decide +kernel
theorem dX6_laying_85 : decode cX6_laying 85 = .ok (.invokevirtual 212, 3) := by decide +kernel
theorem dX6_laying_88 : decode cX6_laying 88 = .ok (.invokevirtual 215, 3) := by decide +kernel
theorem dX6_laying_91 : decode cX6_laying 91 = .ok (.istore 4, 2) := by decide +kernel
theorem dX6_laying_93 : decode cX6_laying 93 = .ok (.iinc 5 1, 3) := by decide +kernel
theorem dX6_laying_96 : decode cX6_laying 96 = .ok (.goto (-23), 3) := by decide +kernel
theorem dX6_laying_99 : decode cX6_laying 99 = .ok (.aload_n 0, 1) := by decide +kernel
theorem dX6_laying_100 : decode cX6_laying 100 = .ok (.iload 4, 2) := by decide +kernel
theorem dX6_laying_102 : decode cX6_laying 102 = .ok (.invokevirtual 212, 3) := by decide +kernel
theorem dX6_laying_105 : decode cX6_laying 105 = .ok (.istore 5, 2) := by decide +kernel
theorem dX6_laying_107 : decode cX6_laying 107 = .ok (.iload_n 3, 1) := by decide +kernel
theorem dX6_laying_108 : decode cX6_laying 108 = .ok (.ifCond .ne 14, 3) := by decide +kernel
theorem dX6_laying_111 : decode cX6_laying 111 = .ok (.iload 5, 2) := by decide +kernel
theorem dX6_laying_113 : decode cX6_laying 113 = .ok (.iconst 2, 1) := by decide +kernel
theorem dX6_laying_114 : decode cX6_laying 114 = .ok (.idiv, 1) := by decide +kernel
theorem dX6_laying_115 : decode cX6_laying 115 = .ok (.sipush 10000, 3) := by decide +kernel
theorem dX6_laying_118 : decode cX6_laying 118 = .ok (.idiv, 1) := by decide +kernel
theorem dX6_laying_119 : decode cX6_laying 119 = .ok (.goto 39, 3) := by decide +kernel
theorem dX6_laying_122 : decode cX6_laying 122 = .ok (.iload_n 3, 1) := by decide +kernel
theorem dX6_laying_123 : decode cX6_laying 123 = .ok (.iconst 1, 1) := by decide +kernel
theorem dX6_laying_124 : decode cX6_laying 124 = .ok (.if_icmp .ne 14, 3) := by decide +kernel
theorem dX6_laying_127 : decode cX6_laying 127 = .ok (.iload 5, 2) := by decide +kernel
theorem dX6_laying_129 : decode cX6_laying 129 = .ok (.iconst 2, 1) := by decide +kernel
theorem dX6_laying_130 : decode cX6_laying 130 = .ok (.idiv, 1) := by decide +kernel
theorem dX6_laying_131 : decode cX6_laying 131 = .ok (.sipush 10000, 3) := by decide +kernel
theorem dX6_laying_134 : decode cX6_laying 134 = .ok (.irem, 1) := by decide +kernel
theorem dX6_laying_135 : decode cX6_laying 135 = .ok (.goto 23, 3) := by decide +kernel
theorem dX6_laying_138 : decode cX6_laying 138 = .ok (.iload_n 3, 1) := by decide +kernel
theorem dX6_laying_139 : decode cX6_laying 139 = .ok (.iconst 2, 1) := by decide +kernel
theorem dX6_laying_140 : decode cX6_laying 140 = .ok (.if_icmp .ne 10, 3) := by decide +kernel
theorem dX6_laying_143 : decode cX6_laying 143 = .ok (.iload 5, 2) := by decide +kernel
theorem dX6_laying_145 : decode cX6_laying 145 = .ok (.iconst 2, 1) := by decide +kernel
theorem dX6_laying_146 : decode cX6_laying 146 = .ok (.irem, 1) := by decide +kernel
theorem dX6_laying_147 : decode cX6_laying 147 = .ok (.goto 11, 3) := by decide +kernel
theorem dX6_laying_150 : decode cX6_laying 150 = .ok (.aload_n 0, 1) := by decide +kernel
theorem dX6_laying_151 : decode cX6_laying 151 = .ok (.iload 4, 2) := by decide +kernel
theorem dX6_laying_153 : decode cX6_laying 153 = .ok (.iload 5, 2) := by decide +kernel
theorem dX6_laying_155 : decode cX6_laying 155 = .ok (.invokevirtual 215, 3) := by decide +kernel
theorem dX6_laying_158 : decode cX6_laying 158 = .ok (.ireturn, 1) := by decide +kernel
theorem dX6_why_0 : decode cX6_why 0 = .ok (.aload_n 0, 1) := by decide +kernel
theorem dX6_why_1 : decode cX6_why 1 = .ok (.iload_n 1, 1) := by decide +kernel
theorem dX6_why_2 : decode cX6_why 2 = .ok (.i2l, 1) := by decide +kernel
theorem dX6_why_3 : decode cX6_why 3 = .ok (.lconst 0, 1) := by decide +kernel
theorem dX6_why_4 : decode cX6_why 4 = .ok (.ldc2_w 78, 3) := by decide +kernel
theorem dX6_why_7 : decode cX6_why 7 = .ok (.invokestatic 46, 3) := by decide +kernel
theorem dX6_why_10 : decode cX6_why 10 = .ok (.ifCond .eq 7, 3) := by decide +kernel
theorem dX6_why_13 : decode cX6_why 13 = .ok (.iconst 0, 1) := by decide +kernel
theorem dX6_why_14 : decode cX6_why 14 = .ok (.goto 4, 3) := by decide +kernel
theorem dX6_why_17 : decode cX6_why 17 = .ok (.iconst 1, 1) := by decide +kernel
theorem dX6_why_18 : decode cX6_why 18 = .ok (.invokevirtual 111, 3) := by decide +kernel
theorem dX6_why_21 : decode cX6_why 21 = .ok (.ifCond .eq 5, 3) := by decide +kernel
theorem dX6_why_24 : decode cX6_why 24 = .ok (.iconst 0, 1) := by decide +kernel
theorem dX6_why_25 : decode cX6_why 25 = .ok (.ireturn, 1) := by decide +kernel
theorem dX6_why_26 : decode cX6_why 26 = .ok (.aload_n 0, 1) := by decide +kernel
theorem dX6_why_27 : decode cX6_why 27 = .ok (.aload_n 0, 1) := by decide +kernel
theorem dX6_why_28 : decode cX6_why 28 = .ok (.getfield 13, 3) := by decide +kernel
theorem dX6_why_31 : decode cX6_why 31 = .ok (.invokevirtual 80, 3) := by decide +kernel
theorem dX6_why_34 : decode cX6_why 34 = .ok (.aload_n 0, 1) := by decide +kernel
theorem dX6_why_35 : decode cX6_why 35 = .ok (.iconst 0, 1) := by decide +kernel
theorem dX6_why_36 : decode cX6_why 36 = .ok (.invokevirtual 83, 3) := by decide +kernel
theorem dX6_why_39 : decode cX6_why 39 = .ok (.aload_n 0, 1) := by decide +kernel
theorem dX6_why_40 : decode cX6_why 40 = .ok (.getfield 32, 3) := by decide +kernel
theorem dX6_why_43 : decode cX6_why 43 = .ok (.iload_n 1, 1) := by decide +kernel
theorem dX6_why_44 : decode cX6_why 44 = .ok (.iaload, 1) := by decide +kernel
theorem dX6_why_45 : decode cX6_why 45 = .ok (.aload_n 0, 1) := by decide +kernel
theorem dX6_why_46 : decode cX6_why 46 = .ok (.getfield 13, 3) := by decide +kernel
theorem dX6_why_49 : decode cX6_why 49 = .ok (.iconst 1, 1) := by decide +kernel
theorem dX6_why_50 : decode cX6_why 50 = .ok (.iaload, 1) := by decide +kernel
theorem dX6_why_51 : decode cX6_why 51 = .ok (.invokestatic 87, 3) := by decide +kernel
theorem dX6_why_54 : decode cX6_why 54 = .ok (.ifCond .eq 5, 3) := by decide +kernel
theorem dX6_why_57 : decode cX6_why 57 = .ok (.iconst 0, 1) := by decide +kernel
theorem dX6_why_58 : decode cX6_why 58 = .ok (.ireturn, 1) := by decide +kernel
theorem dX6_why_59 : decode cX6_why 59 = .ok (.aload_n 0, 1) := by decide +kernel
theorem dX6_why_60 : decode cX6_why 60 = .ok (.getfield 13, 3) := by decide +kernel
theorem dX6_why_63 : decode cX6_why 63 = .ok (.iconst 0, 1) := by decide +kernel
theorem dX6_why_64 : decode cX6_why 64 = .ok (.iaload, 1) := by decide +kernel
theorem dX6_why_65 : decode cX6_why 65 = .ok (.ifCond .ne 7, 3) := by decide +kernel
theorem dX6_why_68 : decode cX6_why 68 = .ok (.iconst 1, 1) := by decide +kernel
theorem dX6_why_69 : decode cX6_why 69 = .ok (.goto 31, 3) := by decide +kernel
theorem dX6_why_72 : decode cX6_why 72 = .ok (.iload_n 1, 1) := by decide +kernel
theorem dX6_why_73 : decode cX6_why 73 = .ok (.aload_n 0, 1) := by decide +kernel
theorem dX6_why_74 : decode cX6_why 74 = .ok (.invokevirtual 182, 3) := by decide +kernel
theorem dX6_why_77 : decode cX6_why 77 = .ok (.irem, 1) := by decide +kernel
theorem dX6_why_78 : decode cX6_why 78 = .ok (.ifCond .eq 7, 3) := by decide +kernel
theorem dX6_why_81 : decode cX6_why 81 = .ok (.iconst 2, 1) := by decide +kernel
theorem dX6_why_82 : decode cX6_why 82 = .ok (.goto 18, 3) := by decide +kernel
theorem dX6_why_85 : decode cX6_why 85 = .ok (.aload_n 0, 1) := by decide +kernel
theorem dX6_why_86 : decode cX6_why 86 = .ok (.getfield 32, 3) := by decide +kernel
theorem dX6_why_89 : decode cX6_why 89 = .ok (.iload_n 1, 1) := by decide +kernel
theorem dX6_why_90 : decode cX6_why 90 = .ok (.iaload, 1) := by decide +kernel
theorem dX6_why_91 : decode cX6_why 91 = .ok (.iconst (-1), 1) := by decide +kernel
theorem dX6_why_92 : decode cX6_why 92 = .ok (.if_icmp .eq 7, 3) := by decide +kernel
theorem dX6_why_95 : decode cX6_why 95 = .ok (.iconst 3, 1) := by decide +kernel
theorem dX6_why_96 : decode cX6_why 96 = .ok (.goto 4, 3) := by decide +kernel
theorem dX6_why_99 : decode cX6_why 99 = .ok (.iconst 4, 1) := by decide +kernel
theorem dX6_why_100 : decode cX6_why 100 = .ok (.ireturn, 1) := by decide +kernel
theorem dX6_bestMark_0 : decode cX6_bestMark 0 = .ok (.aload_n 0, 1) := by decide +kernel
theorem dX6_bestMark_1 : decode cX6_bestMark 1 = .ok (.aload_n 0, 1) := by decide +kernel
theorem dX6_bestMark_2 : decode cX6_bestMark 2 = .ok (.getfield 13, 3) := by decide +kernel
theorem dX6_bestMark_5 : decode cX6_bestMark 5 = .ok (.iload_n 1, 1) := by decide +kernel
theorem dX6_bestMark_6 : decode cX6_bestMark 6 = .ok (.invokestatic 50, 3) := by decide +kernel
theorem dX6_bestMark_9 : decode cX6_bestMark 9 = .ok (.ifCond .ne 7, 3) := by decide +kernel
theorem dX6_bestMark_12 : decode cX6_bestMark 12 = .ok (.iconst 1, 1) := by decide +kernel
theorem dX6_bestMark_13 : decode cX6_bestMark 13 = .ok (.goto 18, 3) := by decide +kernel
theorem dX6_bestMark_16 : decode cX6_bestMark 16 = .ok (.iload_n 2, 1) := by decide +kernel
theorem dX6_bestMark_17 : decode cX6_bestMark 17 = .ok (.i2l, 1) := by decide +kernel
theorem dX6_bestMark_18 : decode cX6_bestMark 18 = .ok (.lconst 0, 1) := by decide +kernel
theorem dX6_bestMark_19 : decode cX6_bestMark 19 = .ok (.lconst 1, 1) := by decide +kernel
theorem dX6_bestMark_20 : decode cX6_bestMark 20 = .ok (.invokestatic 46, 3) := by decide +kernel
theorem dX6_bestMark_23 : decode cX6_bestMark 23 = .ok (.ifCond .eq 7, 3) := by decide +kernel
theorem dX6_bestMark_26 : decode cX6_bestMark 26 = .ok (.iconst 0, 1) := by decide +kernel
theorem dX6_bestMark_27 : decode cX6_bestMark 27 = .ok (.goto 4, 3) := by decide +kernel
theorem dX6_bestMark_30 : decode cX6_bestMark 30 = .ok (.iconst 2, 1) := by decide +kernel
theorem dX6_bestMark_31 : decode cX6_bestMark 31 = .ok (.invokevirtual 111, 3) := by decide +kernel
theorem dX6_bestMark_34 : decode cX6_bestMark 34 = .ok (.ifCond .eq 5, 3) := by decide +kernel
theorem dX6_bestMark_37 : decode cX6_bestMark 37 = .ok (.iconst 0, 1) := by decide +kernel
theorem dX6_bestMark_38 : decode cX6_bestMark 38 = .ok (.ireturn, 1) := by decide +kernel
theorem dX6_bestMark_39 : decode cX6_bestMark 39 = .ok (.iconst (-1), 1) := by decide +kernel
theorem dX6_bestMark_40 : decode cX6_bestMark 40 = .ok (.istore_n 3, 1) := by decide +kernel
theorem dX6_bestMark_41 : decode cX6_bestMark 41 = .ok (.iconst (-1), 1) := by decide +kernel
theorem dX6_bestMark_42 : decode cX6_bestMark 42 = .ok (.istore 4, 2) := by decide +kernel
theorem dX6_bestMark_44 : decode cX6_bestMark 44 = .ok (.iconst 1, 1) := by decide +kernel
theorem dX6_bestMark_45 : decode cX6_bestMark 45 = .ok (.istore 5, 2) := by decide +kernel
theorem dX6_bestMark_47 : decode cX6_bestMark 47 = .ok (.iload 5, 2) := by decide +kernel
theorem dX6_bestMark_49 : decode cX6_bestMark 49 = .ok (.aload_n 0, 1) := by decide +kernel
theorem dX6_bestMark_50 : decode cX6_bestMark 50 = .ok (.getfield 13, 3) := by decide +kernel
theorem dX6_bestMark_53 : decode cX6_bestMark 53 = .ok (.iload_n 1, 1) := by decide +kernel
theorem dX6_bestMark_54 : decode cX6_bestMark 54 = .ok (.invokestatic 54, 3) := by decide +kernel
theorem dX6_bestMark_57 : decode cX6_bestMark 57 = .ok (.if_icmp .ge 88, 3) := by decide +kernel
theorem dX6_bestMark_60 : decode cX6_bestMark 60 = .ok (.aload_n 0, 1) := by decide +kernel
theorem dX6_bestMark_61 : decode cX6_bestMark 61 = .ok (.getfield 13, 3) := by decide +kernel
theorem dX6_bestMark_64 : decode cX6_bestMark 64 = .ok (.iload_n 1, 1) := by decide +kernel
theorem dX6_bestMark_65 : decode cX6_bestMark 65 = .ok (.iload 5, 2) := by decide +kernel
theorem dX6_bestMark_67 : decode cX6_bestMark 67 = .ok (.invokestatic 64, 3) := by decide +kernel
theorem dX6_bestMark_70 : decode cX6_bestMark 70 = .ok (.iaload, 1) := by decide +kernel
theorem dX6_bestMark_71 : decode cX6_bestMark 71 = .ok (.ifCond .ne 68, 3) := by decide +kernel
theorem dX6_bestMark_74 : decode cX6_bestMark 74 = .ok (.aload_n 0, 1) := by decide +kernel
theorem dX6_bestMark_75 : decode cX6_bestMark 75 = .ok (.getfield 13, 3) := by decide +kernel
theorem dX6_bestMark_78 : decode cX6_bestMark 78 = .ok (.iconst 0, 1) := by decide +kernel
theorem dX6_bestMark_79 : decode cX6_bestMark 79 = .ok (.aload_n 0, 1) := by decide +kernel
theorem dX6_bestMark_80 : decode cX6_bestMark 80 = .ok (.getfield 16, 3) := by decide +kernel
theorem dX6_bestMark_83 : decode cX6_bestMark 83 = .ok (.iconst 0, 1) := by decide +kernel
theorem dX6_bestMark_84 : decode cX6_bestMark 84 = .ok (.invokestatic 163, 3) := by decide +kernel
theorem dX6_bestMark_87 : decode cX6_bestMark 87 = .ok (.aload_n 0, 1) := by decide +kernel
theorem dX6_bestMark_88 : decode cX6_bestMark 88 = .ok (.getfield 16, 3) := by decide +kernel
theorem dX6_bestMark_91 : decode cX6_bestMark 91 = .ok (.iload_n 1, 1) := by decide +kernel
theorem dX6_bestMark_92 : decode cX6_bestMark 92 = .ok (.iload 5, 2) := by decide +kernel
theorem dX6_bestMark_94 : decode cX6_bestMark 94 = .ok (.iconst 1, 1) := by decide +kernel
theorem dX6_bestMark_95 : decode cX6_bestMark 95 = .ok (.invokestatic 131, 3) := by decide +kernel
theorem dX6_bestMark_98 : decode cX6_bestMark 98 = .ok (.pop, 1) := by decide +kernel
theorem dX6_bestMark_99 : decode cX6_bestMark 99 = .ok (.aload_n 0, 1) := by decide +kernel
theorem dX6_bestMark_100 : decode cX6_bestMark 100 = .ok (.aload_n 0, 1) := by decide +kernel
theorem dX6_bestMark_101 : decode cX6_bestMark 101 = .ok (.getfield 16, 3) := by decide +kernel
theorem dX6_bestMark_104 : decode cX6_bestMark 104 = .ok (.invokevirtual 91, 3) := by decide +kernel
theorem dX6_bestMark_107 : decode cX6_bestMark 107 = .ok (.istore 6, 2) := by decide +kernel
theorem dX6_bestMark_109 : decode cX6_bestMark 109 = .ok (.iload 6, 2) := by decide +kernel
theorem dX6_bestMark_111 : decode cX6_bestMark 111 = .ok (.iload 4, 2) := by decide +kernel
theorem dX6_bestMark_113 : decode cX6_bestMark 113 = .ok (.if_icmp .le 8, 3) := by decide +kernel
theorem dX6_bestMark_116 : decode cX6_bestMark 116 = .ok (.iload 5, 2) := by decide +kernel
theorem dX6_bestMark_118 : decode cX6_bestMark 118 = .ok (.goto 4, 3) := by decide +kernel
theorem dX6_bestMark_121 : decode cX6_bestMark 121 = .ok (.iload_n 3, 1) := by decide +kernel
theorem dX6_bestMark_122 : decode cX6_bestMark 122 = .ok (.istore_n 3, 1) := by decide +kernel
theorem dX6_bestMark_123 : decode cX6_bestMark 123 = .ok (.iload 6, 2) := by decide +kernel
theorem dX6_bestMark_125 : decode cX6_bestMark 125 = .ok (.iload 4, 2) := by decide +kernel
theorem dX6_bestMark_127 : decode cX6_bestMark 127 = .ok (.if_icmp .le 8, 3) := by decide +kernel
theorem dX6_bestMark_130 : decode cX6_bestMark 130 = .ok (.iload 6, 2) := by decide +kernel
theorem dX6_bestMark_132 : decode cX6_bestMark 132 = .ok (.goto 5, 3) := by decide +kernel
theorem dX6_bestMark_135 : decode cX6_bestMark 135 = .ok (.iload 4, 2) := by decide +kernel
theorem dX6_bestMark_137 : decode cX6_bestMark 137 = .ok (.istore 4, 2) := by decide +kernel
theorem dX6_bestMark_139 : decode cX6_bestMark 139 = .ok (.iinc 5 1, 3) := by decide +kernel
theorem dX6_bestMark_142 : decode cX6_bestMark 142 = .ok (.goto (-95), 3) := by decide +kernel
theorem dX6_bestMark_145 : decode cX6_bestMark 145 = .ok (.iload_n 2, 1) := by decide +kernel
theorem dX6_bestMark_146 : decode cX6_bestMark 146 = .ok (.ifCond .ne 7, 3) := by decide +kernel
theorem dX6_bestMark_149 : decode cX6_bestMark 149 = .ok (.iload_n 3, 1) := by decide +kernel
theorem dX6_bestMark_150 : decode cX6_bestMark 150 = .ok (.goto 5, 3) := by decide +kernel
theorem dX6_bestMark_153 : decode cX6_bestMark 153 = .ok (.iload 4, 2) := by decide +kernel
theorem dX6_bestMark_155 : decode cX6_bestMark 155 = .ok (.ireturn, 1) := by decide +kernel
theorem dX6_needless_0 : decode cX6_needless 0 = .ok (.aload_n 0, 1) := by decide +kernel
theorem dX6_needless_1 : decode cX6_needless 1 = .ok (.aload_n 0, 1) := by decide +kernel
theorem dX6_needless_2 : decode cX6_needless 2 = .ok (.getfield 13, 3) := by decide +kernel
theorem dX6_needless_5 : decode cX6_needless 5 = .ok (.iload_n 1, 1) := by decide +kernel
theorem dX6_needless_6 : decode cX6_needless 6 = .ok (.invokestatic 50, 3) := by decide +kernel
theorem dX6_needless_9 : decode cX6_needless 9 = .ok (.ifCond .eq 7, 3) := by decide +kernel
theorem dX6_needless_12 : decode cX6_needless 12 = .ok (.iconst 0, 1) := by decide +kernel
theorem dX6_needless_13 : decode cX6_needless 13 = .ok (.goto 4, 3) := by decide +kernel
theorem dX6_needless_16 : decode cX6_needless 16 = .ok (.iconst 1, 1) := by decide +kernel
theorem dX6_needless_17 : decode cX6_needless 17 = .ok (.invokevirtual 111, 3) := by decide +kernel
theorem dX6_needless_20 : decode cX6_needless 20 = .ok (.ifCond .eq 5, 3) := by decide +kernel
theorem dX6_needless_23 : decode cX6_needless 23 = .ok (.iconst 0, 1) := by decide +kernel
theorem dX6_needless_24 : decode cX6_needless 24 = .ok (.ireturn, 1) := by decide +kernel
theorem dX6_needless_25 : decode cX6_needless 25 = .ok (.aload_n 0, 1) := by decide +kernel
theorem dX6_needless_26 : decode cX6_needless 26 = .ok (.aload_n 0, 1) := by decide +kernel
theorem dX6_needless_27 : decode cX6_needless 27 = .ok (.getfield 13, 3) := by decide +kernel
theorem dX6_needless_30 : decode cX6_needless 30 = .ok (.invokevirtual 91, 3) := by decide +kernel
theorem dX6_needless_33 : decode cX6_needless 33 = .ok (.istore_n 2, 1) := by decide +kernel
theorem dX6_needless_34 : decode cX6_needless 34 = .ok (.iconst 0, 1) := by decide +kernel
theorem dX6_needless_35 : decode cX6_needless 35 = .ok (.istore_n 3, 1) := by decide +kernel
theorem dX6_needless_36 : decode cX6_needless 36 = .ok (.iconst 1, 1) := by decide +kernel
theorem dX6_needless_37 : decode cX6_needless 37 = .ok (.istore 4, 2) := by decide +kernel
theorem dX6_needless_39 : decode cX6_needless 39 = .ok (.iload 4, 2) := by decide +kernel
theorem dX6_needless_41 : decode cX6_needless 41 = .ok (.aload_n 0, 1) := by decide +kernel
theorem dX6_needless_42 : decode cX6_needless 42 = .ok (.getfield 13, 3) := by decide +kernel
theorem dX6_needless_45 : decode cX6_needless 45 = .ok (.iload_n 1, 1) := by decide +kernel
theorem dX6_needless_46 : decode cX6_needless 46 = .ok (.invokestatic 54, 3) := by decide +kernel
theorem dX6_needless_49 : decode cX6_needless 49 = .ok (.if_icmp .ge 69, 3) := by decide +kernel
theorem dX6_needless_52 : decode cX6_needless 52 = .ok (.aload_n 0, 1) := by decide +kernel
theorem dX6_needless_53 : decode cX6_needless 53 = .ok (.getfield 13, 3) := by decide +kernel
theorem dX6_needless_56 : decode cX6_needless 56 = .ok (.iload_n 1, 1) := by decide +kernel
theorem dX6_needless_57 : decode cX6_needless 57 = .ok (.iload 4, 2) := by decide +kernel
theorem dX6_needless_59 : decode cX6_needless 59 = .ok (.invokestatic 64, 3) := by decide +kernel
theorem dX6_needless_62 : decode cX6_needless 62 = .ok (.iaload, 1) := by decide +kernel
theorem dX6_needless_63 : decode cX6_needless 63 = .ok (.iconst 1, 1) := by decide +kernel
theorem dX6_needless_64 : decode cX6_needless 64 = .ok (.if_icmp .ne 48, 3) := by decide +kernel
theorem dX6_needless_67 : decode cX6_needless 67 = .ok (.aload_n 0, 1) := by decide +kernel
theorem dX6_needless_68 : decode cX6_needless 68 = .ok (.getfield 13, 3) := by decide +kernel
theorem dX6_needless_71 : decode cX6_needless 71 = .ok (.iconst 0, 1) := by decide +kernel
theorem dX6_needless_72 : decode cX6_needless 72 = .ok (.aload_n 0, 1) := by decide +kernel
theorem dX6_needless_73 : decode cX6_needless 73 = .ok (.getfield 16, 3) := by decide +kernel
theorem dX6_needless_76 : decode cX6_needless 76 = .ok (.iconst 0, 1) := by decide +kernel
theorem dX6_needless_77 : decode cX6_needless 77 = .ok (.invokestatic 163, 3) := by decide +kernel
theorem dX6_needless_80 : decode cX6_needless 80 = .ok (.aload_n 0, 1) := by decide +kernel
theorem dX6_needless_81 : decode cX6_needless 81 = .ok (.getfield 16, 3) := by decide +kernel
theorem dX6_needless_84 : decode cX6_needless 84 = .ok (.iload_n 1, 1) := by decide +kernel
theorem dX6_needless_85 : decode cX6_needless 85 = .ok (.iload 4, 2) := by decide +kernel
theorem dX6_needless_87 : decode cX6_needless 87 = .ok (.iconst 0, 1) := by decide +kernel
theorem dX6_needless_88 : decode cX6_needless 88 = .ok (.invokestatic 131, 3) := by decide +kernel
theorem dX6_needless_91 : decode cX6_needless 91 = .ok (.pop, 1) := by decide +kernel
theorem dX6_needless_92 : decode cX6_needless 92 = .ok (.iload_n 3, 1) := by decide +kernel
theorem dX6_needless_93 : decode cX6_needless 93 = .ok (.aload_n 0, 1) := by decide +kernel
theorem dX6_needless_94 : decode cX6_needless 94 = .ok (.aload_n 0, 1) := by decide +kernel
theorem dX6_needless_95 : decode cX6_needless 95 = .ok (.getfield 16, 3) := by decide +kernel
theorem dX6_needless_98 : decode cX6_needless 98 = .ok (.invokevirtual 91, 3) := by decide +kernel
theorem dX6_needless_101 : decode cX6_needless 101 = .ok (.iload_n 2, 1) := by decide +kernel
theorem dX6_needless_102 : decode cX6_needless 102 = .ok (.if_icmp .ne 7, 3) := by decide +kernel
theorem dX6_needless_105 : decode cX6_needless 105 = .ok (.iconst 1, 1) := by decide +kernel
theorem dX6_needless_106 : decode cX6_needless 106 = .ok (.goto 4, 3) := by decide +kernel
theorem dX6_needless_109 : decode cX6_needless 109 = .ok (.iconst 0, 1) := by decide +kernel
theorem dX6_needless_110 : decode cX6_needless 110 = .ok (.iadd, 1) := by decide +kernel
theorem dX6_needless_111 : decode cX6_needless 111 = .ok (.istore_n 3, 1) := by decide +kernel
theorem dX6_needless_112 : decode cX6_needless 112 = .ok (.iinc 4 1, 3) := by decide +kernel
theorem dX6_needless_115 : decode cX6_needless 115 = .ok (.goto (-76), 3) := by decide +kernel
theorem dX6_needless_118 : decode cX6_needless 118 = .ok (.iload_n 3, 1) := by decide +kernel
theorem dX6_needless_119 : decode cX6_needless 119 = .ok (.ireturn, 1) := by decide +kernel
theorem dX6_inner_0 : decode cX6_inner 0 = .ok (.aload_n 0, 1) := by decide +kernel
theorem dX6_inner_1 : decode cX6_inner 1 = .ok (.iload_n 1, 1) := by decide +kernel
theorem dX6_inner_2 : decode cX6_inner 2 = .ok (.invokestatic 54, 3) := by decide +kernel
theorem dX6_inner_5 : decode cX6_inner 5 = .ok (.istore 4, 2) := by decide +kernel
theorem dX6_inner_7 : decode cX6_inner 7 = .ok (.iload_n 2, 1) := by decide +kernel
theorem dX6_inner_8 : decode cX6_inner 8 = .ok (.istore 5, 2) := by decide +kernel
theorem dX6_inner_10 : decode cX6_inner 10 = .ok (.iconst 1, 1) := by decide +kernel
theorem dX6_inner_11 : decode cX6_inner 11 = .ok (.istore 6, 2) := by decide +kernel
theorem dX6_inner_13 : decode cX6_inner 13 = .ok (.iload 6, 2) := by decide +kernel
theorem dX6_inner_15 : decode cX6_inner 15 = .ok (.iload 4, 2) := by decide +kernel
theorem dX6_inner_17 : decode cX6_inner 17 = .ok (.if_icmp .ge 44, 3) := by decide +kernel
theorem dX6_inner_20 : decode cX6_inner 20 = .ok (.aload_n 0, 1) := by decide +kernel
theorem dX6_inner_21 : decode cX6_inner 21 = .ok (.iload_n 1, 1) := by decide +kernel
theorem dX6_inner_22 : decode cX6_inner 22 = .ok (.iload_n 3, 1) := by decide +kernel
theorem dX6_inner_23 : decode cX6_inner 23 = .ok (.ifCond .eq 11, 3) := by decide +kernel
theorem dX6_inner_26 : decode cX6_inner 26 = .ok (.iload 4, 2) := by decide +kernel
theorem dX6_inner_28 : decode cX6_inner 28 = .ok (.iload 6, 2) := by decide +kernel
theorem dX6_inner_30 : decode cX6_inner 30 = .ok (.isub, 1) := by decide +kernel
theorem dX6_inner_31 : decode cX6_inner 31 = .ok (.goto 5, 3) := by decide +kernel
theorem dX6_inner_34 : decode cX6_inner 34 = .ok (.iload 6, 2) := by decide +kernel
theorem dX6_inner_36 : decode cX6_inner 36 = .ok (.invokestatic 64, 3) := by decide +kernel
theorem dX6_inner_39 : decode cX6_inner 39 = .ok (.iaload, 1) := by decide +kernel
theorem dX6_inner_40 : decode cX6_inner 40 = .ok (.iconst 1, 1) := by decide +kernel
theorem dX6_inner_41 : decode cX6_inner 41 = .ok (.if_icmp .ne 14, 3) := by decide +kernel
theorem dX6_inner_44 : decode cX6_inner 44 = .ok (.iload 5, 2) := by decide +kernel
theorem dX6_inner_46 : decode cX6_inner 46 = .ok (.ifCond .ne 6, 3) := by decide +kernel
theorem dX6_inner_49 : decode cX6_inner 49 = .ok (.iload 6, 2) := by decide +kernel
theorem dX6_inner_51 : decode cX6_inner 51 = .ok (.ireturn, 1) := by decide +kernel
theorem dX6_inner_52 : decode cX6_inner 52 = .ok (.iinc 5 (-1), 3) := by decide +kernel
theorem dX6_inner_55 : decode cX6_inner 55 = .ok (.iinc 6 1, 3) := by decide +kernel
theorem dX6_inner_58 : decode cX6_inner 58 = .ok (.goto (-45), 3) := by decide +kernel
theorem dX6_inner_61 : decode cX6_inner 61 = .ok (.iconst (-1), 1) := by decide +kernel
theorem dX6_inner_62 : decode cX6_inner 62 = .ok (.ireturn, 1) := by decide +kernel
theorem dX6_twin_0 : decode cX6_twin 0 = .ok (.aload_n 0, 1) := by decide +kernel
theorem dX6_twin_1 : decode cX6_twin 1 = .ok (.aload_n 0, 1) := by decide +kernel
theorem dX6_twin_2 : decode cX6_twin 2 = .ok (.getfield 13, 3) := by decide +kernel
theorem dX6_twin_5 : decode cX6_twin 5 = .ok (.iload_n 1, 1) := by decide +kernel
theorem dX6_twin_6 : decode cX6_twin 6 = .ok (.invokestatic 50, 3) := by decide +kernel
theorem dX6_twin_9 : decode cX6_twin 9 = .ok (.ifCond .eq 18, 3) := by decide +kernel
theorem dX6_twin_12 : decode cX6_twin 12 = .ok (.aload_n 0, 1) := by decide +kernel
theorem dX6_twin_13 : decode cX6_twin 13 = .ok (.getfield 13, 3) := by decide +kernel
theorem dX6_twin_16 : decode cX6_twin 16 = .ok (.iload_n 2, 1) := by decide +kernel
theorem dX6_twin_17 : decode cX6_twin 17 = .ok (.invokestatic 50, 3) := by decide +kernel
theorem dX6_twin_20 : decode cX6_twin 20 = .ok (.ifCond .eq 7, 3) := by decide +kernel
theorem dX6_twin_23 : decode cX6_twin 23 = .ok (.iconst 0, 1) := by decide +kernel
theorem dX6_twin_24 : decode cX6_twin 24 = .ok (.goto 4, 3) := by decide +kernel
theorem dX6_twin_27 : decode cX6_twin 27 = .ok (.iconst 1, 1) := by decide +kernel
theorem dX6_twin_28 : decode cX6_twin 28 = .ok (.invokevirtual 111, 3) := by decide +kernel
theorem dX6_twin_31 : decode cX6_twin 31 = .ok (.ifCond .eq 5, 3) := by decide +kernel
theorem dX6_twin_34 : decode cX6_twin 34 = .ok (.iconst 0, 1) := by decide +kernel
theorem dX6_twin_35 : decode cX6_twin 35 = .ok (.ireturn, 1) := by decide +kernel
theorem dX6_twin_36 : decode cX6_twin 36 = .ok (.aload_n 0, 1) := by decide +kernel
theorem dX6_twin_37 : decode cX6_twin 37 = .ok (.getfield 13, 3) := by decide +kernel
theorem dX6_twin_40 : decode cX6_twin 40 = .ok (.iload_n 1, 1) := by decide +kernel
theorem dX6_twin_41 : decode cX6_twin 41 = .ok (.invokestatic 68, 3) := by decide +kernel
theorem dX6_twin_44 : decode cX6_twin 44 = .ok (.iconst 2, 1) := by decide +kernel
theorem dX6_twin_45 : decode cX6_twin 45 = .ok (.isub, 1) := by decide +kernel
theorem dX6_twin_46 : decode cX6_twin 46 = .ok (.istore 4, 2) := by decide +kernel
theorem dX6_twin_48 : decode cX6_twin 48 = .ok (.iload 4, 2) := by decide +kernel
theorem dX6_twin_50 : decode cX6_twin 50 = .ok (.ifCond .eq 18, 3) := by decide +kernel
theorem dX6_twin_53 : decode cX6_twin 53 = .ok (.aload_n 0, 1) := by decide +kernel
theorem dX6_twin_54 : decode cX6_twin 54 = .ok (.getfield 13, 3) := by decide +kernel
theorem dX6_twin_57 : decode cX6_twin 57 = .ok (.iload_n 2, 1) := by decide +kernel
theorem dX6_twin_58 : decode cX6_twin 58 = .ok (.invokestatic 68, 3) := by decide +kernel
theorem dX6_twin_61 : decode cX6_twin 61 = .ok (.iconst 2, 1) := by decide +kernel
theorem dX6_twin_62 : decode cX6_twin 62 = .ok (.isub, 1) := by decide +kernel
theorem dX6_twin_63 : decode cX6_twin 63 = .ok (.iload 4, 2) := by decide +kernel
theorem dX6_twin_65 : decode cX6_twin 65 = .ok (.if_icmp .eq 5, 3) := by decide +kernel
theorem dX6_twin_68 : decode cX6_twin 68 = .ok (.iconst (-1), 1) := by decide +kernel
theorem dX6_twin_69 : decode cX6_twin 69 = .ok (.ireturn, 1) := by decide +kernel
theorem dX6_twin_70 : decode cX6_twin 70 = .ok (.aload_n 0, 1) := by decide +kernel
theorem dX6_twin_71 : decode cX6_twin 71 = .ok (.getfield 13, 3) := by decide +kernel
theorem dX6_twin_74 : decode cX6_twin 74 = .ok (.iload_n 1, 1) := by decide +kernel
theorem dX6_twin_75 : decode cX6_twin 75 = .ok (.iconst 0, 1) := by decide +kernel
theorem dX6_twin_76 : decode cX6_twin 76 = .ok (.iconst 0, 1) := by decide +kernel
theorem dX6_twin_77 : decode cX6_twin 77 = .ok (.invokestatic 218, 3) := by decide +kernel
theorem dX6_twin_80 : decode cX6_twin 80 = .ok (.aload_n 0, 1) := by decide +kernel
theorem dX6_twin_81 : decode cX6_twin 81 = .ok (.getfield 13, 3) := by decide +kernel
theorem dX6_twin_84 : decode cX6_twin 84 = .ok (.iload_n 2, 1) := by decide +kernel
theorem dX6_twin_85 : decode cX6_twin 85 = .ok (.iconst 0, 1) := by decide +kernel
theorem dX6_twin_86 : decode cX6_twin 86 = .ok (.iload_n 3, 1) := by decide +kernel
theorem dX6_twin_87 : decode cX6_twin 87 = .ok (.invokestatic 218, 3) := by decide +kernel
theorem dX6_twin_90 : decode cX6_twin 90 = .ok (.isub, 1) := by decide +kernel
theorem dX6_twin_91 : decode cX6_twin 91 = .ok (.istore 5, 2) := by decide +kernel
theorem dX6_twin_93 : decode cX6_twin 93 = .ok (.iconst 1, 1) := by decide +kernel
theorem dX6_twin_94 : decode cX6_twin 94 = .ok (.istore 6, 2) := by decide +kernel
theorem dX6_twin_96 : decode cX6_twin 96 = .ok (.iload 6, 2) := by decide +kernel
theorem dX6_twin_98 : decode cX6_twin 98 = .ok (.iload 4, 2) := by decide +kernel
theorem dX6_twin_100 : decode cX6_twin 100 = .ok (.if_icmp .ge 39, 3) := by decide +kernel
theorem dX6_twin_103 : decode cX6_twin 103 = .ok (.aload_n 0, 1) := by decide +kernel
theorem dX6_twin_104 : decode cX6_twin 104 = .ok (.getfield 13, 3) := by decide +kernel
theorem dX6_twin_107 : decode cX6_twin 107 = .ok (.iload_n 1, 1) := by decide +kernel
theorem dX6_twin_108 : decode cX6_twin 108 = .ok (.iload 6, 2) := by decide +kernel
theorem dX6_twin_110 : decode cX6_twin 110 = .ok (.iconst 0, 1) := by decide +kernel
theorem dX6_twin_111 : decode cX6_twin 111 = .ok (.invokestatic 218, 3) := by decide +kernel
theorem dX6_twin_114 : decode cX6_twin 114 = .ok (.aload_n 0, 1) := by decide +kernel
theorem dX6_twin_115 : decode cX6_twin 115 = .ok (.getfield 13, 3) := by decide +kernel
theorem dX6_twin_118 : decode cX6_twin 118 = .ok (.iload_n 2, 1) := by decide +kernel
theorem dX6_twin_119 : decode cX6_twin 119 = .ok (.iload 6, 2) := by decide +kernel
theorem dX6_twin_121 : decode cX6_twin 121 = .ok (.iload_n 3, 1) := by decide +kernel
theorem dX6_twin_122 : decode cX6_twin 122 = .ok (.invokestatic 218, 3) := by decide +kernel
theorem dX6_twin_125 : decode cX6_twin 125 = .ok (.isub, 1) := by decide +kernel
theorem dX6_twin_126 : decode cX6_twin 126 = .ok (.iload 5, 2) := by decide +kernel
theorem dX6_twin_128 : decode cX6_twin 128 = .ok (.if_icmp .eq 5, 3) := by decide +kernel
theorem dX6_twin_131 : decode cX6_twin 131 = .ok (.iconst (-1), 1) := by decide +kernel
theorem dX6_twin_132 : decode cX6_twin 132 = .ok (.ireturn, 1) := by decide +kernel
theorem dX6_twin_133 : decode cX6_twin 133 = .ok (.iinc 6 1, 3) := by decide +kernel
theorem dX6_twin_136 : decode cX6_twin 136 = .ok (.goto (-40), 3) := by decide +kernel
theorem dX6_twin_139 : decode cX6_twin 139 = .ok (.iload 5, 2) := by decide +kernel
theorem dX6_twin_141 : decode cX6_twin 141 = .ok (.bipush 100, 2) := by decide +kernel
theorem dX6_twin_143 : decode cX6_twin 143 = .ok (.iadd, 1) := by decide +kernel
theorem dX6_twin_144 : decode cX6_twin 144 = .ok (.ireturn, 1) := by decide +kernel
theorem dX6_layings_0 : decode cX6_layings 0 = .ok (.aload_n 0, 1) := by decide +kernel
theorem dX6_layings_1 : decode cX6_layings 1 = .ok (.iconst 0, 1) := by decide +kernel
theorem dX6_layings_2 : decode cX6_layings 2 = .ok (.putfield 42, 3) := by decide +kernel
theorem dX6_layings_5 : decode cX6_layings 5 = .ok (.aload_n 0, 1) := by decide +kernel
theorem dX6_layings_6 : decode cX6_layings 6 = .ok (.aload_n 0, 1) := by decide +kernel
theorem dX6_layings_7 : decode cX6_layings 7 = .ok (.getfield 13, 3) := by decide +kernel
theorem dX6_layings_10 : decode cX6_layings 10 = .ok (.invokevirtual 80, 3) := by decide +kernel
theorem dX6_layings_13 : decode cX6_layings 13 = .ok (.aload_n 0, 1) := by decide +kernel
theorem dX6_layings_14 : decode cX6_layings 14 = .ok (.iconst 0, 1) := by decide +kernel
theorem dX6_layings_15 : decode cX6_layings 15 = .ok (.invokevirtual 83, 3) := by decide +kernel
theorem dX6_layings_18 : decode cX6_layings 18 = .ok (.iconst 0, 1) := by decide +kernel
theorem dX6_layings_19 : decode cX6_layings 19 = .ok (.istore_n 1, 1) := by decide +kernel
theorem dX6_layings_20 : decode cX6_layings 20 = .ok (.iconst 1, 1) := by decide +kernel
theorem dX6_layings_21 : decode cX6_layings 21 = .ok (.istore_n 2, 1) := by decide +kernel
theorem dX6_layings_22 : decode cX6_layings 22 = .ok (.iload_n 2, 1) := by decide +kernel
theorem dX6_layings_23 : decode cX6_layings 23 = .ok (.aload_n 0, 1) := by decide +kernel
theorem dX6_layings_24 : decode cX6_layings 24 = .ok (.getfield 13, 3) := by decide +kernel
theorem dX6_layings_27 : decode cX6_layings 27 = .ok (.iconst 2, 1) := by decide +kernel
theorem dX6_layings_28 : decode cX6_layings 28 = .ok (.iaload, 1) := by decide +kernel
theorem dX6_layings_29 : decode cX6_layings 29 = .ok (.if_icmp .gt 49, 3) := by decide +kernel
theorem dX6_layings_32 : decode cX6_layings 32 = .ok (.iload_n 1, 1) := by decide +kernel
theorem dX6_layings_33 : decode cX6_layings 33 = .ok (.iconst (-1), 1) := by decide +kernel
theorem dX6_layings_34 : decode cX6_layings 34 = .ok (.if_icmp .eq 44, 3) := by decide +kernel
theorem dX6_layings_37 : decode cX6_layings 37 = .ok (.aload_n 0, 1) := by decide +kernel
theorem dX6_layings_38 : decode cX6_layings 38 = .ok (.getfield 32, 3) := by decide +kernel
theorem dX6_layings_41 : decode cX6_layings 41 = .ok (.iload_n 2, 1) := by decide +kernel
theorem dX6_layings_42 : decode cX6_layings 42 = .ok (.iaload, 1) := by decide +kernel
theorem dX6_layings_43 : decode cX6_layings 43 = .ok (.iconst (-1), 1) := by decide +kernel
theorem dX6_layings_44 : decode cX6_layings 44 = .ok (.if_icmp .ne 7, 3) := by decide +kernel
theorem dX6_layings_47 : decode cX6_layings 47 = .ok (.iconst (-1), 1) := by decide +kernel
theorem dX6_layings_48 : decode cX6_layings 48 = .ok (.goto 23, 3) := by decide +kernel
theorem dX6_layings_51 : decode cX6_layings 51 = .ok (.aload_n 0, 1) := by decide +kernel
theorem dX6_layings_52 : decode cX6_layings 52 = .ok (.getfield 32, 3) := by decide +kernel
theorem dX6_layings_55 : decode cX6_layings 55 = .ok (.iload_n 2, 1) := by decide +kernel
theorem dX6_layings_56 : decode cX6_layings 56 = .ok (.iaload, 1) := by decide +kernel
theorem dX6_layings_57 : decode cX6_layings 57 = .ok (.iload_n 1, 1) := by decide +kernel
theorem dX6_layings_58 : decode cX6_layings 58 = .ok (.if_icmp .le 12, 3) := by decide +kernel
theorem dX6_layings_61 : decode cX6_layings 61 = .ok (.aload_n 0, 1) := by decide +kernel
theorem dX6_layings_62 : decode cX6_layings 62 = .ok (.getfield 32, 3) := by decide +kernel
theorem dX6_layings_65 : decode cX6_layings 65 = .ok (.iload_n 2, 1) := by decide +kernel
theorem dX6_layings_66 : decode cX6_layings 66 = .ok (.iaload, 1) := by decide +kernel
theorem dX6_layings_67 : decode cX6_layings 67 = .ok (.goto 4, 3) := by decide +kernel
theorem dX6_layings_70 : decode cX6_layings 70 = .ok (.iload_n 1, 1) := by decide +kernel
theorem dX6_layings_71 : decode cX6_layings 71 = .ok (.istore_n 1, 1) := by decide +kernel
theorem dX6_layings_72 : decode cX6_layings 72 = .ok (.iinc 2 1, 3) := by decide +kernel
theorem dX6_layings_75 : decode cX6_layings 75 = .ok (.goto (-53), 3) := by decide +kernel
theorem dX6_layings_78 : decode cX6_layings 78 = .ok (.iload_n 1, 1) := by decide +kernel
theorem dX6_layings_79 : decode cX6_layings 79 = .ok (.ireturn, 1) := by decide +kernel
theorem dX6_command_0 : decode cX6_command 0 = .ok (.iload_n 2, 1) := by decide +kernel
theorem dX6_command_1 : decode cX6_command 1 = .ok (.sipush 10000, 3) := by decide +kernel
theorem dX6_command_4 : decode cX6_command 4 = .ok (.idiv, 1) := by decide +kernel
theorem dX6_command_5 : decode cX6_command 5 = .ok (.istore_n 3, 1) := by decide +kernel
theorem dX6_command_6 : decode cX6_command 6 = .ok (.iload_n 2, 1) := by decide +kernel
theorem dX6_command_7 : decode cX6_command 7 = .ok (.bipush 100, 2) := by decide +kernel
theorem dX6_command_9 : decode cX6_command 9 = .ok (.idiv, 1) := by decide +kernel
theorem dX6_command_10 : decode cX6_command 10 = .ok (.bipush 100, 2) := by decide +kernel
theorem dX6_command_12 : decode cX6_command 12 = .ok (.irem, 1) := by decide +kernel
theorem dX6_command_13 : decode cX6_command 13 = .ok (.istore 4, 2) := by decide +kernel
theorem dX6_command_15 : decode cX6_command 15 = .ok (.iload_n 2, 1) := by decide +kernel
theorem dX6_command_16 : decode cX6_command 16 = .ok (.bipush 100, 2) := by decide +kernel
theorem dX6_command_18 : decode cX6_command 18 = .ok (.irem, 1) := by decide +kernel
theorem dX6_command_19 : decode cX6_command 19 = .ok (.istore 5, 2) := by decide +kernel
theorem dX6_command_21 : decode cX6_command 21 = .ok (.iload_n 2, 1) := by decide +kernel
theorem dX6_command_22 : decode cX6_command 22 = .ok (.sipush 1000, 3) := by decide +kernel
theorem dX6_command_25 : decode cX6_command 25 = .ok (.irem, 1) := by decide +kernel
theorem dX6_command_26 : decode cX6_command 26 = .ok (.istore 6, 2) := by decide +kernel
theorem dX6_command_28 : decode cX6_command 28 = .ok (.iload_n 2, 1) := by decide +kernel
theorem dX6_command_29 : decode cX6_command 29 = .ok (.sipush 10000, 3) := by decide +kernel
theorem dX6_command_32 : decode cX6_command 32 = .ok (.irem, 1) := by decide +kernel
theorem dX6_command_33 : decode cX6_command 33 = .ok (.istore 7, 2) := by decide +kernel
theorem dX6_command_35 : decode cX6_command 35 = .ok (.iload_n 2, 1) := by decide +kernel
theorem dX6_command_36 : decode cX6_command 36 = .ok (.bipush 10, 2) := by decide +kernel
theorem dX6_command_38 : decode cX6_command 38 = .ok (.irem, 1) := by decide +kernel
theorem dX6_command_39 : decode cX6_command 39 = .ok (.istore 8, 2) := by decide +kernel
theorem dX6_command_41 : decode cX6_command 41 = .ok (.iload_n 1, 1) := by decide +kernel
theorem dX6_command_42 : decode cX6_command 42 = .ok (.tableswitch 403 1 9 #[50, 91, 151, 209, 242, 278, 313, 338, 379], 50) := by decide +kernel
theorem dX6_command_92 : decode cX6_command 92 = .ok (.iload_n 2, 1) := by decide +kernel
theorem dX6_command_93 : decode cX6_command 93 = .ok (.i2l, 1) := by decide +kernel
theorem dX6_command_94 : decode cX6_command 94 = .ok (.ldc2_w 202, 3) := by decide +kernel
theorem dX6_command_97 : decode cX6_command 97 = .ok (.ldc2_w 204, 3) := by decide +kernel
theorem dX6_command_100 : decode cX6_command 100 = .ok (.invokestatic 46, 3) := by decide +kernel
theorem dX6_command_103 : decode cX6_command 103 = .ok (.ifCond .eq 28, 3) := by decide +kernel
theorem dX6_command_106 : decode cX6_command 106 = .ok (.aload_n 0, 1) := by decide +kernel
theorem dX6_command_107 : decode cX6_command 107 = .ok (.getfield 16, 3) := by decide +kernel
theorem dX6_command_110 : decode cX6_command 110 = .ok (.iconst 0, 1) := by decide +kernel
theorem dX6_command_111 : decode cX6_command 111 = .ok (.iaload, 1) := by decide +kernel
theorem dX6_command_112 : decode cX6_command 112 = .ok (.iconst 4, 1) := by decide +kernel
theorem dX6_command_113 : decode cX6_command 113 = .ok (.if_icmp .ge 18, 3) := by decide +kernel
theorem dX6_command_116 : decode cX6_command 116 = .ok (.aload_n 0, 1) := by decide +kernel
theorem dX6_command_117 : decode cX6_command 117 = .ok (.getfield 16, 3) := by decide +kernel
theorem dX6_command_120 : decode cX6_command 120 = .ok (.iload_n 2, 1) := by decide +kernel
theorem dX6_command_121 : decode cX6_command 121 = .ok (.invokestatic 139, 3) := by decide +kernel
theorem dX6_command_124 : decode cX6_command 124 = .ok (.ifCond .lt 7, 3) := by decide +kernel
theorem dX6_command_127 : decode cX6_command 127 = .ok (.iconst 1, 1) := by decide +kernel
theorem dX6_command_128 : decode cX6_command 128 = .ok (.goto 4, 3) := by decide +kernel
theorem dX6_command_131 : decode cX6_command 131 = .ok (.iconst 0, 1) := by decide +kernel
theorem dX6_command_132 : decode cX6_command 132 = .ok (.ireturn, 1) := by decide +kernel
theorem dX6_command_133 : decode cX6_command 133 = .ok (.iload 5, 2) := by decide +kernel
theorem dX6_command_135 : decode cX6_command 135 = .ok (.iconst 2, 1) := by decide +kernel
theorem dX6_command_136 : decode cX6_command 136 = .ok (.if_icmp .ge 55, 3) := by decide +kernel
theorem dX6_command_139 : decode cX6_command 139 = .ok (.aload_n 0, 1) := by decide +kernel
theorem dX6_command_140 : decode cX6_command 140 = .ok (.getfield 16, 3) := by decide +kernel
theorem dX6_command_143 : decode cX6_command 143 = .ok (.iload_n 3, 1) := by decide +kernel
theorem dX6_command_144 : decode cX6_command 144 = .ok (.iload 4, 2) := by decide +kernel
theorem dX6_command_146 : decode cX6_command 146 = .ok (.iload 5, 2) := by decide +kernel
theorem dX6_command_148 : decode cX6_command 148 = .ok (.iconst 1, 1) := by decide +kernel
theorem dX6_command_149 : decode cX6_command 149 = .ok (.if_icmp .ne 7, 3) := by decide +kernel
theorem dX6_command_152 : decode cX6_command 152 = .ok (.iconst 1, 1) := by decide +kernel
theorem dX6_command_153 : decode cX6_command 153 = .ok (.goto 4, 3) := by decide +kernel
theorem dX6_command_156 : decode cX6_command 156 = .ok (.iconst 0, 1) := by decide +kernel
theorem dX6_command_157 : decode cX6_command 157 = .ok (.invokestatic 127, 3) := by decide +kernel
theorem dX6_command_160 : decode cX6_command 160 = .ok (.ifCond .eq 31, 3) := by decide +kernel
theorem dX6_command_163 : decode cX6_command 163 = .ok (.aload_n 0, 1) := by decide +kernel
theorem dX6_command_164 : decode cX6_command 164 = .ok (.getfield 16, 3) := by decide +kernel
theorem dX6_command_167 : decode cX6_command 167 = .ok (.iload_n 3, 1) := by decide +kernel
theorem dX6_command_168 : decode cX6_command 168 = .ok (.iload 4, 2) := by decide +kernel
theorem dX6_command_170 : decode cX6_command 170 = .ok (.iload 5, 2) := by decide +kernel
theorem dX6_command_172 : decode cX6_command 172 = .ok (.iconst 1, 1) := by decide +kernel
theorem dX6_command_173 : decode cX6_command 173 = .ok (.if_icmp .ne 7, 3) := by decide +kernel
theorem dX6_command_176 : decode cX6_command 176 = .ok (.iconst 1, 1) := by decide +kernel
theorem dX6_command_177 : decode cX6_command 177 = .ok (.goto 4, 3) := by decide +kernel
theorem dX6_command_180 : decode cX6_command 180 = .ok (.iconst 0, 1) := by decide +kernel
theorem dX6_command_181 : decode cX6_command 181 = .ok (.invokestatic 131, 3) := by decide +kernel
theorem dX6_command_184 : decode cX6_command 184 = .ok (.ifCond .le 7, 3) := by decide +kernel
theorem dX6_command_187 : decode cX6_command 187 = .ok (.iconst 1, 1) := by decide +kernel
theorem dX6_command_188 : decode cX6_command 188 = .ok (.goto 4, 3) := by decide +kernel
theorem dX6_command_191 : decode cX6_command 191 = .ok (.iconst 0, 1) := by decide +kernel
theorem dX6_command_192 : decode cX6_command 192 = .ok (.ireturn, 1) := by decide +kernel
theorem dX6_command_193 : decode cX6_command 193 = .ok (.iload 7, 2) := by decide +kernel
theorem dX6_command_195 : decode cX6_command 195 = .ok (.bipush 100, 2) := by decide +kernel
theorem dX6_command_197 : decode cX6_command 197 = .ok (.if_icmp .ge 52, 3) := by decide +kernel
theorem dX6_command_200 : decode cX6_command 200 = .ok (.aload_n 0, 1) := by decide +kernel
theorem dX6_command_201 : decode cX6_command 201 = .ok (.getfield 16, 3) := by decide +kernel
theorem dX6_command_204 : decode cX6_command 204 = .ok (.iload_n 3, 1) := by decide +kernel
theorem dX6_command_205 : decode cX6_command 205 = .ok (.invokestatic 50, 3) := by decide +kernel
theorem dX6_command_208 : decode cX6_command 208 = .ok (.ifCond .eq 41, 3) := by decide +kernel
theorem dX6_command_211 : decode cX6_command 211 = .ok (.iload 7, 2) := by decide +kernel
theorem dX6_command_213 : decode cX6_command 213 = .ok (.i2l, 1) := by decide +kernel
theorem dX6_command_214 : decode cX6_command 214 = .ok (.ldc2_w 202, 3) := by decide +kernel
theorem dX6_command_217 : decode cX6_command 217 = .ok (.aload_n 0, 1) := by decide +kernel
theorem dX6_command_218 : decode cX6_command 218 = .ok (.getfield 16, 3) := by decide +kernel
theorem dX6_command_221 : decode cX6_command 221 = .ok (.iload_n 3, 1) := by decide +kernel
theorem dX6_command_222 : decode cX6_command 222 = .ok (.invokestatic 54, 3) := by decide +kernel
theorem dX6_command_225 : decode cX6_command 225 = .ok (.i2l, 1) := by decide +kernel
theorem dX6_command_226 : decode cX6_command 226 = .ok (.invokestatic 46, 3) := by decide +kernel
theorem dX6_command_229 : decode cX6_command 229 = .ok (.ifCond .eq 20, 3) := by decide +kernel
theorem dX6_command_232 : decode cX6_command 232 = .ok (.aload_n 0, 1) := by decide +kernel
theorem dX6_command_233 : decode cX6_command 233 = .ok (.getfield 16, 3) := by decide +kernel
theorem dX6_command_236 : decode cX6_command 236 = .ok (.iload_n 3, 1) := by decide +kernel
theorem dX6_command_237 : decode cX6_command 237 = .ok (.iload 7, 2) := by decide +kernel
theorem dX6_command_239 : decode cX6_command 239 = .ok (.invokestatic 146, 3) := by decide +kernel
theorem dX6_command_242 : decode cX6_command 242 = .ok (.ifCond .le 7, 3) := by decide +kernel
theorem dX6_command_245 : decode cX6_command 245 = .ok (.iconst 1, 1) := by decide +kernel
theorem dX6_command_246 : decode cX6_command 246 = .ok (.goto 4, 3) := by decide +kernel
theorem dX6_command_249 : decode cX6_command 249 = .ok (.iconst 0, 1) := by decide +kernel
theorem dX6_command_250 : decode cX6_command 250 = .ok (.ireturn, 1) := by decide +kernel
theorem dX6_command_251 : decode cX6_command 251 = .ok (.iload 7, 2) := by decide +kernel
theorem dX6_command_253 : decode cX6_command 253 = .ok (.ifCond .ne 29, 3) := by decide +kernel
theorem dX6_command_256 : decode cX6_command 256 = .ok (.aload_n 0, 1) := by decide +kernel
theorem dX6_command_257 : decode cX6_command 257 = .ok (.getfield 16, 3) := by decide +kernel
theorem dX6_command_260 : decode cX6_command 260 = .ok (.iload_n 3, 1) := by decide +kernel
theorem dX6_command_261 : decode cX6_command 261 = .ok (.invokestatic 50, 3) := by decide +kernel
theorem dX6_command_264 : decode cX6_command 264 = .ok (.ifCond .eq 18, 3) := by decide +kernel
theorem dX6_command_267 : decode cX6_command 267 = .ok (.aload_n 0, 1) := by decide +kernel
theorem dX6_command_268 : decode cX6_command 268 = .ok (.getfield 16, 3) := by decide +kernel
theorem dX6_command_271 : decode cX6_command 271 = .ok (.iload_n 3, 1) := by decide +kernel
theorem dX6_command_272 : decode cX6_command 272 = .ok (.invokestatic 150, 3) := by decide +kernel
theorem dX6_command_275 : decode cX6_command 275 = .ok (.ifCond .le 7, 3) := by decide +kernel
theorem dX6_command_278 : decode cX6_command 278 = .ok (.iconst 1, 1) := by decide +kernel
theorem dX6_command_279 : decode cX6_command 279 = .ok (.goto 4, 3) := by decide +kernel
theorem dX6_command_282 : decode cX6_command 282 = .ok (.iconst 0, 1) := by decide +kernel
theorem dX6_command_283 : decode cX6_command 283 = .ok (.ireturn, 1) := by decide +kernel
theorem dX6_command_284 : decode cX6_command 284 = .ok (.iload 7, 2) := by decide +kernel
theorem dX6_command_286 : decode cX6_command 286 = .ok (.sipush 1000, 3) := by decide +kernel
theorem dX6_command_289 : decode cX6_command 289 = .ok (.if_icmp .ge 29, 3) := by decide +kernel
theorem dX6_command_292 : decode cX6_command 292 = .ok (.iload_n 3, 1) := by decide +kernel
theorem dX6_command_293 : decode cX6_command 293 = .ok (.iload 6, 2) := by decide +kernel
theorem dX6_command_295 : decode cX6_command 295 = .ok (.invokestatic 209, 3) := by decide +kernel
theorem dX6_command_298 : decode cX6_command 298 = .ok (.ifCond .eq 20, 3) := by decide +kernel
theorem dX6_command_301 : decode cX6_command 301 = .ok (.aload_n 0, 1) := by decide +kernel
theorem dX6_command_302 : decode cX6_command 302 = .ok (.getfield 16, 3) := by decide +kernel
theorem dX6_command_305 : decode cX6_command 305 = .ok (.iload_n 3, 1) := by decide +kernel
theorem dX6_command_306 : decode cX6_command 306 = .ok (.iload 6, 2) := by decide +kernel
theorem dX6_command_308 : decode cX6_command 308 = .ok (.invokestatic 153, 3) := by decide +kernel
theorem dX6_command_311 : decode cX6_command 311 = .ok (.ifCond .le 7, 3) := by decide +kernel
theorem dX6_command_314 : decode cX6_command 314 = .ok (.iconst 1, 1) := by decide +kernel
theorem dX6_command_315 : decode cX6_command 315 = .ok (.goto 4, 3) := by decide +kernel
theorem dX6_command_318 : decode cX6_command 318 = .ok (.iconst 0, 1) := by decide +kernel
theorem dX6_command_319 : decode cX6_command 319 = .ok (.ireturn, 1) := by decide +kernel
theorem dX6_command_320 : decode cX6_command 320 = .ok (.iload_n 3, 1) := by decide +kernel
theorem dX6_command_321 : decode cX6_command 321 = .ok (.ifCond .ne 32, 3) := by decide +kernel
theorem dX6_command_324 : decode cX6_command 324 = .ok (.iload 7, 2) := by decide +kernel
theorem dX6_command_326 : decode cX6_command 326 = .ok (.bipush 10, 2) := by decide +kernel
theorem dX6_command_328 : decode cX6_command 328 = .ok (.idiv, 1) := by decide +kernel
theorem dX6_command_329 : decode cX6_command 329 = .ok (.sipush 200, 3) := by decide +kernel
theorem dX6_command_332 : decode cX6_command 332 = .ok (.if_icmp .gt 21, 3) := by decide +kernel
theorem dX6_command_335 : decode cX6_command 335 = .ok (.aload_n 0, 1) := by decide +kernel
theorem dX6_command_336 : decode cX6_command 336 = .ok (.iload 7, 2) := by decide +kernel
theorem dX6_command_338 : decode cX6_command 338 = .ok (.bipush 10, 2) := by decide +kernel
theorem dX6_command_340 : decode cX6_command 340 = .ok (.idiv, 1) := by decide +kernel
theorem dX6_command_341 : decode cX6_command 341 = .ok (.iload 8, 2) := by decide +kernel
theorem dX6_command_343 : decode cX6_command 343 = .ok (.invokevirtual 221, 3) := by decide +kernel
theorem dX6_command_346 : decode cX6_command 346 = .ok (.ifCond .eq 7, 3) := by decide +kernel
theorem dX6_command_349 : decode cX6_command 349 = .ok (.iconst 1, 1) := by decide +kernel
theorem dX6_command_350 : decode cX6_command 350 = .ok (.goto 4, 3) := by decide +kernel
theorem dX6_command_353 : decode cX6_command 353 = .ok (.iconst 0, 1) := by decide +kernel
theorem dX6_command_354 : decode cX6_command 354 = .ok (.ireturn, 1) := by decide +kernel
