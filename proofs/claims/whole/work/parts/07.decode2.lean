theorem dX5_act_20 : decode cX5_act 20 = .ok (.getfield 10, 3) := by decide +kernel
theorem dX5_act_23 : decode cX5_act 23 = .ok (.invokevirtual 214, 3) := by decide +kernel
theorem dX5_act_26 : decode cX5_act 26 = .ok (.aload_n 0, 1) := by decide +kernel
theorem dX5_act_27 : decode cX5_act 27 = .ok (.getfield 10, 3) := by decide +kernel
theorem dX5_act_30 : decode cX5_act 30 = .ok (.iload_n 1, 1) := by decide +kernel
theorem dX5_act_31 : decode cX5_act 31 = .ok (.iload_n 2, 1) := by decide +kernel
theorem dX5_act_32 : decode cX5_act 32 = .ok (.iload_n 3, 1) := by decide +kernel
theorem dX5_act_33 : decode cX5_act 33 = .ok (.iload 4, 2) := by decide +kernel
theorem dX5_act_35 : decode cX5_act 35 = .ok (.invokevirtual 218, 3) := by decide +kernel
theorem dX5_act_38 : decode cX5_act 38 = .ok (.ireturn, 1) := by decide +kernel
theorem dX5_refuse_0 : decode cX5_refuse 0 = .ok (.iload_n 0, 1) := by decide +kernel
theorem dX5_refuse_1 : decode cX5_refuse 1 = .ok (.iconst 1, 1) := by decide +kernel
theorem dX5_refuse_2 : decode cX5_refuse 2 = .ok (.if_icmp .ne 13, 3) := by decide +kernel
theorem dX5_refuse_5 : decode cX5_refuse 5 = .ok (.new 165, 3) := by decide +kernel
theorem dX5_refuse_8 : decode cX5_refuse 8 = .ok (.dup, 1) := by decide +kernel
theorem dX5_refuse_9 : decode cX5_refuse 9 = .ok (.ldc 221, 2) := by decide +kernel
theorem dX5_refuse_11 : decode cX5_refuse 11 = .ok (.invokespecial 169, 3) := by decide +kernel
theorem dX5_refuse_14 : decode cX5_refuse 14 = .ok (.athrow, 1) := by decide +kernel
theorem dX5_refuse_15 : decode cX5_refuse 15 = .ok (.iload_n 0, 1) := by decide +kernel
theorem dX5_refuse_16 : decode cX5_refuse 16 = .ok (.iconst 2, 1) := by decide +kernel
theorem dX5_refuse_17 : decode cX5_refuse 17 = .ok (.if_icmp .ne 13, 3) := by decide +kernel
theorem dX5_refuse_20 : decode cX5_refuse 20 = .ok (.new 53, 3) := by decide +kernel
theorem dX5_refuse_23 : decode cX5_refuse 23 = .ok (.dup, 1) := by decide +kernel
theorem dX5_refuse_24 : decode cX5_refuse 24 = .ok (.ldc 223, 2) := by decide +kernel
theorem dX5_refuse_26 : decode cX5_refuse 26 = .ok (.invokespecial 57, 3) := by decide +kernel
theorem dX5_refuse_29 : decode cX5_refuse 29 = .ok (.athrow, 1) := by decide +kernel
theorem dX5_refuse_30 : decode cX5_refuse 30 = .ok (.iload_n 0, 1) := by decide +kernel
theorem dX5_refuse_31 : decode cX5_refuse 31 = .ok (.iconst 3, 1) := by decide +kernel
theorem dX5_refuse_32 : decode cX5_refuse 32 = .ok (.if_icmp .ne 13, 3) := by decide +kernel
theorem dX5_refuse_35 : decode cX5_refuse 35 = .ok (.new 64, 3) := by decide +kernel
theorem dX5_refuse_38 : decode cX5_refuse 38 = .ok (.dup, 1) := by decide +kernel
theorem dX5_refuse_39 : decode cX5_refuse 39 = .ok (.ldc 225, 2) := by decide +kernel
theorem dX5_refuse_41 : decode cX5_refuse 41 = .ok (.invokespecial 68, 3) := by decide +kernel
theorem dX5_refuse_44 : decode cX5_refuse 44 = .ok (.athrow, 1) := by decide +kernel
theorem dX5_refuse_45 : decode cX5_refuse 45 = .ok (.return_, 1) := by decide +kernel
theorem dX5_checkRuler_0 : decode cX5_checkRuler 0 = .ok (.aload_n 0, 1) := by decide +kernel
theorem dX5_checkRuler_1 : decode cX5_checkRuler 1 = .ok (.getfield 10, 3) := by decide +kernel
theorem dX5_checkRuler_4 : decode cX5_checkRuler 4 = .ok (.iload_n 1, 1) := by decide +kernel
theorem dX5_checkRuler_5 : decode cX5_checkRuler 5 = .ok (.invokevirtual 173, 3) := by decide +kernel
theorem dX5_checkRuler_8 : decode cX5_checkRuler 8 = .ok (.ifCond .ne 13, 3) := by decide +kernel
theorem dX5_checkRuler_11 : decode cX5_checkRuler 11 = .ok (.new 165, 3) := by decide +kernel
theorem dX5_checkRuler_14 : decode cX5_checkRuler 14 = .ok (.dup, 1) := by decide +kernel
theorem dX5_checkRuler_15 : decode cX5_checkRuler 15 = .ok (.ldc 227, 2) := by decide +kernel
theorem dX5_checkRuler_17 : decode cX5_checkRuler 17 = .ok (.invokespecial 169, 3) := by decide +kernel
theorem dX5_checkRuler_20 : decode cX5_checkRuler 20 = .ok (.athrow, 1) := by decide +kernel
theorem dX5_checkRuler_21 : decode cX5_checkRuler 21 = .ok (.return_, 1) := by decide +kernel
theorem dX5_fewest_0 : decode cX5_fewest 0 = .ok (.iload_n 1, 1) := by decide +kernel
theorem dX5_fewest_1 : decode cX5_fewest 1 = .ok (.invokestatic 229, 3) := by decide +kernel
theorem dX5_fewest_4 : decode cX5_fewest 4 = .ok (.iload_n 2, 1) := by decide +kernel
theorem dX5_fewest_5 : decode cX5_fewest 5 = .ok (.ifCond .eq 18, 3) := by decide +kernel
theorem dX5_fewest_8 : decode cX5_fewest 8 = .ok (.iload_n 2, 1) := by decide +kernel
theorem dX5_fewest_9 : decode cX5_fewest 9 = .ok (.iconst 1, 1) := by decide +kernel
theorem dX5_fewest_10 : decode cX5_fewest 10 = .ok (.if_icmp .eq 13, 3) := by decide +kernel
theorem dX5_fewest_13 : decode cX5_fewest 13 = .ok (.new 53, 3) := by decide +kernel
theorem dX5_fewest_16 : decode cX5_fewest 16 = .ok (.dup, 1) := by decide +kernel
theorem dX5_fewest_17 : decode cX5_fewest 17 = .ok (.ldc 232, 2) := by decide +kernel
theorem dX5_fewest_19 : decode cX5_fewest 19 = .ok (.invokespecial 57, 3) := by decide +kernel
theorem dX5_fewest_22 : decode cX5_fewest 22 = .ok (.athrow, 1) := by decide +kernel
theorem dX5_fewest_23 : decode cX5_fewest 23 = .ok (.aload_n 0, 1) := by decide +kernel
theorem dX5_fewest_24 : decode cX5_fewest 24 = .ok (.getfield 10, 3) := by decide +kernel
theorem dX5_fewest_27 : decode cX5_fewest 27 = .ok (.invokevirtual 107, 3) := by decide +kernel
theorem dX5_fewest_30 : decode cX5_fewest 30 = .ok (.lstore_n 3, 1) := by decide +kernel
theorem dX5_fewest_31 : decode cX5_fewest 31 = .ok (.iload_n 2, 1) := by decide +kernel
theorem dX5_fewest_32 : decode cX5_fewest 32 = .ok (.ifCond .ne 15, 3) := by decide +kernel
theorem dX5_fewest_35 : decode cX5_fewest 35 = .ok (.aload_n 0, 1) := by decide +kernel
theorem dX5_fewest_36 : decode cX5_fewest 36 = .ok (.getfield 42, 3) := by decide +kernel
theorem dX5_fewest_39 : decode cX5_fewest 39 = .ok (.iload_n 1, 1) := by decide +kernel
theorem dX5_fewest_40 : decode cX5_fewest 40 = .ok (.lload_n 3, 1) := by decide +kernel
theorem dX5_fewest_41 : decode cX5_fewest 41 = .ok (.invokevirtual 234, 3) := by decide +kernel
theorem dX5_fewest_44 : decode cX5_fewest 44 = .ok (.goto 12, 3) := by decide +kernel
theorem dX5_fewest_47 : decode cX5_fewest 47 = .ok (.aload_n 0, 1) := by decide +kernel
theorem dX5_fewest_48 : decode cX5_fewest 48 = .ok (.getfield 42, 3) := by decide +kernel
theorem dX5_fewest_51 : decode cX5_fewest 51 = .ok (.iload_n 1, 1) := by decide +kernel
theorem dX5_fewest_52 : decode cX5_fewest 52 = .ok (.lload_n 3, 1) := by decide +kernel
theorem dX5_fewest_53 : decode cX5_fewest 53 = .ok (.invokevirtual 238, 3) := by decide +kernel
theorem dX5_fewest_56 : decode cX5_fewest 56 = .ok (.ireturn, 1) := by decide +kernel
theorem dX5_laying_0 : decode cX5_laying 0 = .ok (.iload_n 1, 1) := by decide +kernel
theorem dX5_laying_1 : decode cX5_laying 1 = .ok (.invokestatic 229, 3) := by decide +kernel
theorem dX5_laying_4 : decode cX5_laying 4 = .ok (.iload_n 2, 1) := by decide +kernel
theorem dX5_laying_5 : decode cX5_laying 5 = .ok (.ifCond .lt 12, 3) := by decide +kernel
theorem dX5_laying_8 : decode cX5_laying 8 = .ok (.iload_n 3, 1) := by decide +kernel
theorem dX5_laying_9 : decode cX5_laying 9 = .ok (.ifCond .lt 8, 3) := by decide +kernel
theorem dX5_laying_12 : decode cX5_laying 12 = .ok (.iload_n 3, 1) := by decide +kernel
theorem dX5_laying_13 : decode cX5_laying 13 = .ok (.iconst 3, 1) := by decide +kernel
theorem dX5_laying_14 : decode cX5_laying 14 = .ok (.if_icmp .le 13, 3) := by decide +kernel
theorem dX5_laying_17 : decode cX5_laying 17 = .ok (.new 53, 3) := by decide +kernel
theorem dX5_laying_20 : decode cX5_laying 20 = .ok (.dup, 1) := by decide +kernel
theorem dX5_laying_21 : decode cX5_laying 21 = .ok (.ldc 132, 2) := by decide +kernel
theorem dX5_laying_23 : decode cX5_laying 23 = .ok (.invokespecial 57, 3) := by decide +kernel
theorem dX5_laying_26 : decode cX5_laying 26 = .ok (.athrow, 1) := by decide +kernel
theorem dX5_laying_27 : decode cX5_laying 27 = .ok (.aload_n 0, 1) := by decide +kernel
theorem dX5_laying_28 : decode cX5_laying 28 = .ok (.getfield 42, 3) := by decide +kernel
theorem dX5_laying_31 : decode cX5_laying 31 = .ok (.iload_n 1, 1) := by decide +kernel
theorem dX5_laying_32 : decode cX5_laying 32 = .ok (.aload_n 0, 1) := by decide +kernel
theorem dX5_laying_33 : decode cX5_laying 33 = .ok (.getfield 10, 3) := by decide +kernel
theorem dX5_laying_36 : decode cX5_laying 36 = .ok (.invokevirtual 107, 3) := by decide +kernel
theorem dX5_laying_39 : decode cX5_laying 39 = .ok (.invokevirtual 241, 3) := by decide +kernel
theorem dX5_laying_42 : decode cX5_laying 42 = .ok (.aload_n 0, 1) := by decide +kernel
theorem dX5_laying_43 : decode cX5_laying 43 = .ok (.getfield 42, 3) := by decide +kernel
theorem dX5_laying_46 : decode cX5_laying 46 = .ok (.iconst 0, 1) := by decide +kernel
theorem dX5_laying_47 : decode cX5_laying 47 = .ok (.invokevirtual 245, 3) := by decide +kernel
theorem dX5_laying_50 : decode cX5_laying 50 = .ok (.istore 4, 2) := by decide +kernel
theorem dX5_laying_52 : decode cX5_laying 52 = .ok (.iload_n 2, 1) := by decide +kernel
theorem dX5_laying_53 : decode cX5_laying 53 = .ok (.iload 4, 2) := by decide +kernel
theorem dX5_laying_55 : decode cX5_laying 55 = .ok (.if_icmp .lt 5, 3) := by decide +kernel
theorem dX5_laying_58 : decode cX5_laying 58 = .ok (.iconst (-1), 1) := by decide +kernel
theorem dX5_laying_59 : decode cX5_laying 59 = .ok (.ireturn, 1) := by decide +kernel
theorem dX5_laying_60 : decode cX5_laying 60 = .ok (.aload_n 0, 1) := by decide +kernel
theorem dX5_laying_61 : decode cX5_laying 61 = .ok (.getfield 49, 3) := by decide +kernel
theorem dX5_laying_64 : decode cX5_laying 64 = .ok (.invokevirtual 248, 3) := by decide +kernel
theorem dX5_laying_67 : decode cX5_laying 67 = .ok (.iconst 0, 1) := by decide +kernel
theorem dX5_laying_68 : decode cX5_laying 68 = .ok (.istore 5, 2) := by decide +kernel
theorem dX5_laying_70 : decode cX5_laying 70 = .ok (.iload 5, 2) := by decide +kernel
theorem dX5_laying_72 : decode cX5_laying 72 = .ok (.iload_n 2, 1) := by decide +kernel
theorem dX5_laying_73 : decode cX5_laying 73 = .ok (.if_icmp .gt 28, 3) := by decide +kernel
theorem dX5_laying_76 : decode cX5_laying 76 = .ok (.iload 5, 2) := by decide +kernel
theorem dX5_laying_78 : decode cX5_laying 78 = .ok (.sipush 200, 3) := by decide +kernel
theorem dX5_laying_81 : decode cX5_laying 81 = .ok (.if_icmp .gt 20, 3) := by decide +kernel
theorem dX5_laying_84 : decode cX5_laying 84 = .ok (.aload_n 0, 1) := by decide +kernel
theorem dX5_laying_85 : decode cX5_laying 85 = .ok (.iload 4, 2) := by decide +kernel
theorem dX5_laying_87 : decode cX5_laying 87 = .ok (.iconst 1, 1) := by decide +kernel
theorem dX5_laying_88 : decode cX5_laying 88 = .ok (.isub, 1) := by decide +kernel
theorem dX5_laying_89 : decode cX5_laying 89 = .ok (.iload 5, 2) := by decide +kernel
theorem dX5_laying_91 : decode cX5_laying 91 = .ok (.isub, 1) := by decide +kernel
theorem dX5_laying_92 : decode cX5_laying 92 = .ok (.invokevirtual 249, 3) := by decide +kernel
theorem dX5_laying_95 : decode cX5_laying 95 = .ok (.iinc 5 1, 3) := by decide +kernel
theorem dX5_laying_98 : decode cX5_laying 98 = .ok (.goto (-28), 3) := by decide +kernel
theorem dX5_laying_101 : decode cX5_laying 101 = .ok (.aload_n 0, 1) := by decide +kernel
theorem dX5_laying_102 : decode cX5_laying 102 = .ok (.getfield 49, 3) := by decide +kernel
theorem dX5_laying_105 : decode cX5_laying 105 = .ok (.iload_n 3, 1) := by decide +kernel
theorem dX5_laying_106 : decode cX5_laying 106 = .ok (.invokevirtual 252, 3) := by decide +kernel
theorem dX5_laying_109 : decode cX5_laying 109 = .ok (.ireturn, 1) := by decide +kernel
theorem dX5_why_0 : decode cX5_why 0 = .ok (.iload_n 1, 1) := by decide +kernel
theorem dX5_why_1 : decode cX5_why 1 = .ok (.invokestatic 229, 3) := by decide +kernel
theorem dX5_why_4 : decode cX5_why 4 = .ok (.iload_n 1, 1) := by decide +kernel
theorem dX5_why_5 : decode cX5_why 5 = .ok (.ifCond .ne 5, 3) := by decide +kernel
theorem dX5_why_8 : decode cX5_why 8 = .ok (.iconst 0, 1) := by decide +kernel
theorem dX5_why_9 : decode cX5_why 9 = .ok (.ireturn, 1) := by decide +kernel
theorem dX5_why_10 : decode cX5_why 10 = .ok (.aload_n 0, 1) := by decide +kernel
theorem dX5_why_11 : decode cX5_why 11 = .ok (.getfield 10, 3) := by decide +kernel
theorem dX5_why_14 : decode cX5_why 14 = .ok (.invokevirtual 98, 3) := by decide +kernel
theorem dX5_why_17 : decode cX5_why 17 = .ok (.ifCond .ne 5, 3) := by decide +kernel
theorem dX5_why_20 : decode cX5_why 20 = .ok (.iconst 1, 1) := by decide +kernel
theorem dX5_why_21 : decode cX5_why 21 = .ok (.ireturn, 1) := by decide +kernel
theorem dX5_why_22 : decode cX5_why 22 = .ok (.aload_n 0, 1) := by decide +kernel
theorem dX5_why_23 : decode cX5_why 23 = .ok (.getfield 10, 3) := by decide +kernel
theorem dX5_why_26 : decode cX5_why 26 = .ok (.invokevirtual 107, 3) := by decide +kernel
theorem dX5_why_29 : decode cX5_why 29 = .ok (.invokestatic 117, 3) := by decide +kernel
theorem dX5_why_32 : decode cX5_why 32 = .ok (.istore_n 2, 1) := by decide +kernel
theorem dX5_why_33 : decode cX5_why 33 = .ok (.iload_n 2, 1) := by decide +kernel
theorem dX5_why_34 : decode cX5_why 34 = .ok (.ifCond .le 11, 3) := by decide +kernel
theorem dX5_why_37 : decode cX5_why 37 = .ok (.iload_n 1, 1) := by decide +kernel
theorem dX5_why_38 : decode cX5_why 38 = .ok (.iload_n 2, 1) := by decide +kernel
theorem dX5_why_39 : decode cX5_why 39 = .ok (.irem, 1) := by decide +kernel
theorem dX5_why_40 : decode cX5_why 40 = .ok (.ifCond .eq 5, 3) := by decide +kernel
theorem dX5_why_43 : decode cX5_why 43 = .ok (.iconst 2, 1) := by decide +kernel
theorem dX5_why_44 : decode cX5_why 44 = .ok (.ireturn, 1) := by decide +kernel
theorem dX5_why_45 : decode cX5_why 45 = .ok (.aload_n 0, 1) := by decide +kernel
theorem dX5_why_46 : decode cX5_why 46 = .ok (.getfield 42, 3) := by decide +kernel
theorem dX5_why_49 : decode cX5_why 49 = .ok (.iload_n 1, 1) := by decide +kernel
theorem dX5_why_50 : decode cX5_why 50 = .ok (.aload_n 0, 1) := by decide +kernel
theorem dX5_why_51 : decode cX5_why 51 = .ok (.getfield 10, 3) := by decide +kernel
theorem dX5_why_54 : decode cX5_why 54 = .ok (.invokevirtual 107, 3) := by decide +kernel
theorem dX5_why_57 : decode cX5_why 57 = .ok (.invokevirtual 234, 3) := by decide +kernel
theorem dX5_why_60 : decode cX5_why 60 = .ok (.istore_n 3, 1) := by decide +kernel
theorem dX5_why_61 : decode cX5_why 61 = .ok (.iload_n 3, 1) := by decide +kernel
theorem dX5_why_62 : decode cX5_why 62 = .ok (.iconst (-1), 1) := by decide +kernel
theorem dX5_why_63 : decode cX5_why 63 = .ok (.if_icmp .ne 5, 3) := by decide +kernel
theorem dX5_why_66 : decode cX5_why 66 = .ok (.iconst 4, 1) := by decide +kernel
theorem dX5_why_67 : decode cX5_why 67 = .ok (.ireturn, 1) := by decide +kernel
theorem dX5_why_68 : decode cX5_why 68 = .ok (.iload_n 3, 1) := by decide +kernel
theorem dX5_why_69 : decode cX5_why 69 = .ok (.aload_n 0, 1) := by decide +kernel
theorem dX5_why_70 : decode cX5_why 70 = .ok (.getfield 10, 3) := by decide +kernel
theorem dX5_why_73 : decode cX5_why 73 = .ok (.invokevirtual 126, 3) := by decide +kernel
theorem dX5_why_76 : decode cX5_why 76 = .ok (.if_icmp .le 7, 3) := by decide +kernel
theorem dX5_why_79 : decode cX5_why 79 = .ok (.iconst 3, 1) := by decide +kernel
theorem dX5_why_80 : decode cX5_why 80 = .ok (.goto 4, 3) := by decide +kernel
theorem dX5_why_83 : decode cX5_why 83 = .ok (.iconst 0, 1) := by decide +kernel
theorem dX5_why_84 : decode cX5_why 84 = .ok (.ireturn, 1) := by decide +kernel
theorem dX5_bestMark_0 : decode cX5_bestMark 0 = .ok (.aload_n 0, 1) := by decide +kernel
theorem dX5_bestMark_1 : decode cX5_bestMark 1 = .ok (.iload_n 1, 1) := by decide +kernel
theorem dX5_bestMark_2 : decode cX5_bestMark 2 = .ok (.invokevirtual 134, 3) := by decide +kernel
theorem dX5_bestMark_5 : decode cX5_bestMark 5 = .ok (.iload_n 2, 1) := by decide +kernel
theorem dX5_bestMark_6 : decode cX5_bestMark 6 = .ok (.ifCond .eq 18, 3) := by decide +kernel
theorem dX5_bestMark_9 : decode cX5_bestMark 9 = .ok (.iload_n 2, 1) := by decide +kernel
theorem dX5_bestMark_10 : decode cX5_bestMark 10 = .ok (.iconst 1, 1) := by decide +kernel
theorem dX5_bestMark_11 : decode cX5_bestMark 11 = .ok (.if_icmp .eq 13, 3) := by decide +kernel
theorem dX5_bestMark_14 : decode cX5_bestMark 14 = .ok (.new 53, 3) := by decide +kernel
theorem dX5_bestMark_17 : decode cX5_bestMark 17 = .ok (.dup, 1) := by decide +kernel
theorem dX5_bestMark_18 : decode cX5_bestMark 18 = .ok (.ldc 132, 2) := by decide +kernel
theorem dX5_bestMark_20 : decode cX5_bestMark 20 = .ok (.invokespecial 57, 3) := by decide +kernel
theorem dX5_bestMark_23 : decode cX5_bestMark 23 = .ok (.athrow, 1) := by decide +kernel
theorem dX5_bestMark_24 : decode cX5_bestMark 24 = .ok (.aload_n 0, 1) := by decide +kernel
theorem dX5_bestMark_25 : decode cX5_bestMark 25 = .ok (.getfield 10, 3) := by decide +kernel
theorem dX5_bestMark_28 : decode cX5_bestMark 28 = .ok (.iload_n 1, 1) := by decide +kernel
theorem dX5_bestMark_29 : decode cX5_bestMark 29 = .ok (.invokevirtual 255, 3) := by decide +kernel
theorem dX5_bestMark_32 : decode cX5_bestMark 32 = .ok (.lstore_n 3, 1) := by decide +kernel
theorem dX5_bestMark_33 : decode cX5_bestMark 33 = .ok (.iconst (-1), 1) := by decide +kernel
theorem dX5_bestMark_34 : decode cX5_bestMark 34 = .ok (.istore 5, 2) := by decide +kernel
theorem dX5_bestMark_36 : decode cX5_bestMark 36 = .ok (.iconst (-1), 1) := by decide +kernel
theorem dX5_bestMark_37 : decode cX5_bestMark 37 = .ok (.istore 6, 2) := by decide +kernel
theorem dX5_bestMark_39 : decode cX5_bestMark 39 = .ok (.iconst 0, 1) := by decide +kernel
theorem dX5_bestMark_40 : decode cX5_bestMark 40 = .ok (.istore 7, 2) := by decide +kernel
theorem dX5_bestMark_42 : decode cX5_bestMark 42 = .ok (.iload 7, 2) := by decide +kernel
theorem dX5_bestMark_44 : decode cX5_bestMark 44 = .ok (.bipush 40, 2) := by decide +kernel
theorem dX5_bestMark_46 : decode cX5_bestMark 46 = .ok (.if_icmp .gt 78, 3) := by decide +kernel
theorem dX5_bestMark_49 : decode cX5_bestMark 49 = .ok (.aload_n 0, 1) := by decide +kernel
theorem dX5_bestMark_50 : decode cX5_bestMark 50 = .ok (.getfield 10, 3) := by decide +kernel
theorem dX5_bestMark_53 : decode cX5_bestMark 53 = .ok (.iload_n 1, 1) := by decide +kernel
theorem dX5_bestMark_54 : decode cX5_bestMark 54 = .ok (.iload 7, 2) := by decide +kernel
theorem dX5_bestMark_56 : decode cX5_bestMark 56 = .ok (.invokevirtual 161, 3) := by decide +kernel
theorem dX5_bestMark_59 : decode cX5_bestMark 59 = .ok (.ifCond .eq 59, 3) := by decide +kernel
theorem dX5_bestMark_62 : decode cX5_bestMark 62 = .ok (.aload_n 0, 1) := by decide +kernel
theorem dX5_bestMark_63 : decode cX5_bestMark 63 = .ok (.getfield 10, 3) := by decide +kernel
theorem dX5_bestMark_66 : decode cX5_bestMark 66 = .ok (.iload_n 1, 1) := by decide +kernel
theorem dX5_bestMark_67 : decode cX5_bestMark 67 = .ok (.iload 7, 2) := by decide +kernel
theorem dX5_bestMark_69 : decode cX5_bestMark 69 = .ok (.invokevirtual 170, 3) := by decide +kernel
theorem dX5_bestMark_72 : decode cX5_bestMark 72 = .ok (.ifCond .ne 46, 3) := by decide +kernel
theorem dX5_bestMark_75 : decode cX5_bestMark 75 = .ok (.lload_n 3, 1) := by decide +kernel
theorem dX5_bestMark_76 : decode cX5_bestMark 76 = .ok (.aload_n 0, 1) := by decide +kernel
theorem dX5_bestMark_77 : decode cX5_bestMark 77 = .ok (.getfield 10, 3) := by decide +kernel
theorem dX5_bestMark_80 : decode cX5_bestMark 80 = .ok (.iload_n 1, 1) := by decide +kernel
theorem dX5_bestMark_81 : decode cX5_bestMark 81 = .ok (.invokevirtual 147, 3) := by decide +kernel
theorem dX5_bestMark_84 : decode cX5_bestMark 84 = .ok (.lconst 1, 1) := by decide +kernel
theorem dX5_bestMark_85 : decode cX5_bestMark 85 = .ok (.iload 7, 2) := by decide +kernel
theorem dX5_bestMark_87 : decode cX5_bestMark 87 = .ok (.lshl, 1) := by decide +kernel
theorem dX5_bestMark_88 : decode cX5_bestMark 88 = .ok (.lor, 1) := by decide +kernel
theorem dX5_bestMark_89 : decode cX5_bestMark 89 = .ok (.invokestatic 151, 3) := by decide +kernel
theorem dX5_bestMark_92 : decode cX5_bestMark 92 = .ok (.lor, 1) := by decide +kernel
theorem dX5_bestMark_93 : decode cX5_bestMark 93 = .ok (.lstore 8, 2) := by decide +kernel
theorem dX5_bestMark_95 : decode cX5_bestMark 95 = .ok (.aload_n 0, 1) := by decide +kernel
theorem dX5_bestMark_96 : decode cX5_bestMark 96 = .ok (.lload 8, 2) := by decide +kernel
theorem dX5_bestMark_98 : decode cX5_bestMark 98 = .ok (.invokevirtual 258, 3) := by decide +kernel
theorem dX5_bestMark_101 : decode cX5_bestMark 101 = .ok (.istore 10, 2) := by decide +kernel
theorem dX5_bestMark_103 : decode cX5_bestMark 103 = .ok (.iload 10, 2) := by decide +kernel
theorem dX5_bestMark_105 : decode cX5_bestMark 105 = .ok (.iload 6, 2) := by decide +kernel
theorem dX5_bestMark_107 : decode cX5_bestMark 107 = .ok (.if_icmp .le 11, 3) := by decide +kernel
theorem dX5_bestMark_110 : decode cX5_bestMark 110 = .ok (.iload 10, 2) := by decide +kernel
theorem dX5_bestMark_112 : decode cX5_bestMark 112 = .ok (.istore 6, 2) := by decide +kernel
theorem dX5_bestMark_114 : decode cX5_bestMark 114 = .ok (.iload 7, 2) := by decide +kernel
theorem dX5_bestMark_116 : decode cX5_bestMark 116 = .ok (.istore 5, 2) := by decide +kernel
theorem dX5_bestMark_118 : decode cX5_bestMark 118 = .ok (.iinc 7 1, 3) := by decide +kernel
theorem dX5_bestMark_121 : decode cX5_bestMark 121 = .ok (.goto (-79), 3) := by decide +kernel
theorem dX5_bestMark_124 : decode cX5_bestMark 124 = .ok (.iload_n 2, 1) := by decide +kernel
theorem dX5_bestMark_125 : decode cX5_bestMark 125 = .ok (.ifCond .ne 8, 3) := by decide +kernel
theorem dX5_bestMark_128 : decode cX5_bestMark 128 = .ok (.iload 5, 2) := by decide +kernel
theorem dX5_bestMark_130 : decode cX5_bestMark 130 = .ok (.goto 5, 3) := by decide +kernel
theorem dX5_bestMark_133 : decode cX5_bestMark 133 = .ok (.iload 6, 2) := by decide +kernel
theorem dX5_bestMark_135 : decode cX5_bestMark 135 = .ok (.ireturn, 1) := by decide +kernel
theorem dX5_needless_0 : decode cX5_needless 0 = .ok (.aload_n 0, 1) := by decide +kernel
theorem dX5_needless_1 : decode cX5_needless 1 = .ok (.iload_n 1, 1) := by decide +kernel
theorem dX5_needless_2 : decode cX5_needless 2 = .ok (.invokevirtual 134, 3) := by decide +kernel
theorem dX5_needless_5 : decode cX5_needless 5 = .ok (.aload_n 0, 1) := by decide +kernel
theorem dX5_needless_6 : decode cX5_needless 6 = .ok (.getfield 10, 3) := by decide +kernel
theorem dX5_needless_9 : decode cX5_needless 9 = .ok (.iload_n 1, 1) := by decide +kernel
theorem dX5_needless_10 : decode cX5_needless 10 = .ok (.invokevirtual 255, 3) := by decide +kernel
theorem dX5_needless_13 : decode cX5_needless 13 = .ok (.lstore_n 2, 1) := by decide +kernel
theorem dX5_needless_14 : decode cX5_needless 14 = .ok (.aload_n 0, 1) := by decide +kernel
theorem dX5_needless_15 : decode cX5_needless 15 = .ok (.aload_n 0, 1) := by decide +kernel
theorem dX5_needless_16 : decode cX5_needless 16 = .ok (.getfield 10, 3) := by decide +kernel
theorem dX5_needless_19 : decode cX5_needless 19 = .ok (.invokevirtual 120, 3) := by decide +kernel
theorem dX5_needless_22 : decode cX5_needless 22 = .ok (.istore 4, 2) := by decide +kernel
theorem dX5_needless_24 : decode cX5_needless 24 = .ok (.iconst 0, 1) := by decide +kernel
theorem dX5_needless_25 : decode cX5_needless 25 = .ok (.istore 5, 2) := by decide +kernel
theorem dX5_needless_27 : decode cX5_needless 27 = .ok (.iconst 1, 1) := by decide +kernel
theorem dX5_needless_28 : decode cX5_needless 28 = .ok (.istore 6, 2) := by decide +kernel
theorem dX5_needless_30 : decode cX5_needless 30 = .ok (.iload 6, 2) := by decide +kernel
theorem dX5_needless_32 : decode cX5_needless 32 = .ok (.bipush 40, 2) := by decide +kernel
theorem dX5_needless_34 : decode cX5_needless 34 = .ok (.if_icmp .ge 73, 3) := by decide +kernel
theorem dX5_needless_37 : decode cX5_needless 37 = .ok (.aload_n 0, 1) := by decide +kernel
theorem dX5_needless_38 : decode cX5_needless 38 = .ok (.getfield 10, 3) := by decide +kernel
theorem dX5_needless_41 : decode cX5_needless 41 = .ok (.iload_n 1, 1) := by decide +kernel
theorem dX5_needless_42 : decode cX5_needless 42 = .ok (.iload 6, 2) := by decide +kernel
theorem dX5_needless_44 : decode cX5_needless 44 = .ok (.invokevirtual 170, 3) := by decide +kernel
theorem dX5_needless_47 : decode cX5_needless 47 = .ok (.ifCond .eq 54, 3) := by decide +kernel
theorem dX5_needless_50 : decode cX5_needless 50 = .ok (.aload_n 0, 1) := by decide +kernel
theorem dX5_needless_51 : decode cX5_needless 51 = .ok (.getfield 10, 3) := by decide +kernel
theorem dX5_needless_54 : decode cX5_needless 54 = .ok (.iload_n 1, 1) := by decide +kernel
theorem dX5_needless_55 : decode cX5_needless 55 = .ok (.iload 6, 2) := by decide +kernel
theorem dX5_needless_57 : decode cX5_needless 57 = .ok (.invokevirtual 261, 3) := by decide +kernel
theorem dX5_needless_60 : decode cX5_needless 60 = .ok (.ifCond .ne 41, 3) := by decide +kernel
theorem dX5_needless_63 : decode cX5_needless 63 = .ok (.lload_n 2, 1) := by decide +kernel
theorem dX5_needless_64 : decode cX5_needless 64 = .ok (.aload_n 0, 1) := by decide +kernel
theorem dX5_needless_65 : decode cX5_needless 65 = .ok (.getfield 10, 3) := by decide +kernel
theorem dX5_needless_68 : decode cX5_needless 68 = .ok (.iload_n 1, 1) := by decide +kernel
theorem dX5_needless_69 : decode cX5_needless 69 = .ok (.invokevirtual 147, 3) := by decide +kernel
theorem dX5_needless_72 : decode cX5_needless 72 = .ok (.lconst 1, 1) := by decide +kernel
theorem dX5_needless_73 : decode cX5_needless 73 = .ok (.iload 6, 2) := by decide +kernel
theorem dX5_needless_75 : decode cX5_needless 75 = .ok (.lshl, 1) := by decide +kernel
theorem dX5_needless_76 : decode cX5_needless 76 = .ok (.ldc2_w 264, 3) := by decide +kernel
theorem dX5_needless_79 : decode cX5_needless 79 = .ok (.lxor, 1) := by decide +kernel
theorem dX5_needless_80 : decode cX5_needless 80 = .ok (.land, 1) := by decide +kernel
theorem dX5_needless_81 : decode cX5_needless 81 = .ok (.invokestatic 151, 3) := by decide +kernel
theorem dX5_needless_84 : decode cX5_needless 84 = .ok (.lor, 1) := by decide +kernel
theorem dX5_needless_85 : decode cX5_needless 85 = .ok (.lstore 7, 2) := by decide +kernel
theorem dX5_needless_87 : decode cX5_needless 87 = .ok (.aload_n 0, 1) := by decide +kernel
theorem dX5_needless_88 : decode cX5_needless 88 = .ok (.lload 7, 2) := by decide +kernel
theorem dX5_needless_90 : decode cX5_needless 90 = .ok (.invokevirtual 258, 3) := by decide +kernel
theorem dX5_needless_93 : decode cX5_needless 93 = .ok (.iload 4, 2) := by decide +kernel
theorem dX5_needless_95 : decode cX5_needless 95 = .ok (.if_icmp .ne 6, 3) := by decide +kernel
theorem dX5_needless_98 : decode cX5_needless 98 = .ok (.iinc 5 1, 3) := by decide +kernel
theorem dX5_needless_101 : decode cX5_needless 101 = .ok (.iinc 6 1, 3) := by decide +kernel
theorem dX5_needless_104 : decode cX5_needless 104 = .ok (.goto (-74), 3) := by decide +kernel
theorem dX5_needless_107 : decode cX5_needless 107 = .ok (.iload 5, 2) := by decide +kernel
theorem dX5_needless_109 : decode cX5_needless 109 = .ok (.ireturn, 1) := by decide +kernel
theorem dX5_twin_0 : decode cX5_twin 0 = .ok (.aload_n 0, 1) := by decide +kernel
theorem dX5_twin_1 : decode cX5_twin 1 = .ok (.iload_n 1, 1) := by decide +kernel
theorem dX5_twin_2 : decode cX5_twin 2 = .ok (.invokevirtual 134, 3) := by decide +kernel
theorem dX5_twin_5 : decode cX5_twin 5 = .ok (.aload_n 0, 1) := by decide +kernel
theorem dX5_twin_6 : decode cX5_twin 6 = .ok (.iload_n 2, 1) := by decide +kernel
theorem dX5_twin_7 : decode cX5_twin 7 = .ok (.invokevirtual 134, 3) := by decide +kernel
theorem dX5_twin_10 : decode cX5_twin 10 = .ok (.aload_n 0, 1) := by decide +kernel
theorem dX5_twin_11 : decode cX5_twin 11 = .ok (.getfield 10, 3) := by decide +kernel
theorem dX5_twin_14 : decode cX5_twin 14 = .ok (.iload_n 1, 1) := by decide +kernel
theorem dX5_twin_15 : decode cX5_twin 15 = .ok (.invokevirtual 266, 3) := by decide +kernel
theorem dX5_twin_18 : decode cX5_twin 18 = .ok (.lstore 4, 2) := by decide +kernel
theorem dX5_twin_20 : decode cX5_twin 20 = .ok (.iload_n 3, 1) := by decide +kernel
theorem dX5_twin_21 : decode cX5_twin 21 = .ok (.ifCond .eq 25, 3) := by decide +kernel
theorem dX5_twin_24 : decode cX5_twin 24 = .ok (.aload_n 0, 1) := by decide +kernel
theorem dX5_twin_25 : decode cX5_twin 25 = .ok (.getfield 10, 3) := by decide +kernel
theorem dX5_twin_28 : decode cX5_twin 28 = .ok (.iload_n 2, 1) := by decide +kernel
theorem dX5_twin_29 : decode cX5_twin 29 = .ok (.invokevirtual 266, 3) := by decide +kernel
theorem dX5_twin_32 : decode cX5_twin 32 = .ok (.aload_n 0, 1) := by decide +kernel
theorem dX5_twin_33 : decode cX5_twin 33 = .ok (.getfield 10, 3) := by decide +kernel
theorem dX5_twin_36 : decode cX5_twin 36 = .ok (.iload_n 2, 1) := by decide +kernel
theorem dX5_twin_37 : decode cX5_twin 37 = .ok (.invokevirtual 138, 3) := by decide +kernel
theorem dX5_twin_40 : decode cX5_twin 40 = .ok (.invokestatic 269, 3) := by decide +kernel
theorem dX5_twin_43 : decode cX5_twin 43 = .ok (.goto 11, 3) := by decide +kernel
theorem dX5_twin_46 : decode cX5_twin 46 = .ok (.aload_n 0, 1) := by decide +kernel
theorem dX5_twin_47 : decode cX5_twin 47 = .ok (.getfield 10, 3) := by decide +kernel
theorem dX5_twin_50 : decode cX5_twin 50 = .ok (.iload_n 2, 1) := by decide +kernel
theorem dX5_twin_51 : decode cX5_twin 51 = .ok (.invokevirtual 266, 3) := by decide +kernel
theorem dX5_twin_54 : decode cX5_twin 54 = .ok (.lstore 6, 2) := by decide +kernel
theorem dX5_twin_56 : decode cX5_twin 56 = .ok (.lload 4, 2) := by decide +kernel
theorem dX5_twin_58 : decode cX5_twin 58 = .ok (.lconst 0, 1) := by decide +kernel
theorem dX5_twin_59 : decode cX5_twin 59 = .ok (.lcmp, 1) := by decide +kernel
theorem dX5_twin_60 : decode cX5_twin 60 = .ok (.ifCond .eq 16, 3) := by decide +kernel
theorem dX5_twin_63 : decode cX5_twin 63 = .ok (.lload 4, 2) := by decide +kernel
theorem dX5_twin_65 : decode cX5_twin 65 = .ok (.invokestatic 111, 3) := by decide +kernel
theorem dX5_twin_68 : decode cX5_twin 68 = .ok (.lload 6, 2) := by decide +kernel
theorem dX5_twin_70 : decode cX5_twin 70 = .ok (.invokestatic 111, 3) := by decide +kernel
theorem dX5_twin_73 : decode cX5_twin 73 = .ok (.if_icmp .eq 5, 3) := by decide +kernel
theorem dX5_twin_76 : decode cX5_twin 76 = .ok (.iconst (-1), 1) := by decide +kernel
theorem dX5_twin_77 : decode cX5_twin 77 = .ok (.ireturn, 1) := by decide +kernel
theorem dX5_twin_78 : decode cX5_twin 78 = .ok (.lload 4, 2) := by decide +kernel
theorem dX5_twin_80 : decode cX5_twin 80 = .ok (.invokestatic 273, 3) := by decide +kernel
theorem dX5_twin_83 : decode cX5_twin 83 = .ok (.lload 6, 2) := by decide +kernel
theorem dX5_twin_85 : decode cX5_twin 85 = .ok (.invokestatic 273, 3) := by decide +kernel
theorem dX5_twin_88 : decode cX5_twin 88 = .ok (.isub, 1) := by decide +kernel
theorem dX5_twin_89 : decode cX5_twin 89 = .ok (.istore 8, 2) := by decide +kernel
theorem dX5_twin_91 : decode cX5_twin 91 = .ok (.iload 8, 2) := by decide +kernel
theorem dX5_twin_93 : decode cX5_twin 93 = .ok (.ifCond .lt 11, 3) := by decide +kernel
theorem dX5_twin_96 : decode cX5_twin 96 = .ok (.lload 6, 2) := by decide +kernel
theorem dX5_twin_98 : decode cX5_twin 98 = .ok (.iload 8, 2) := by decide +kernel
theorem dX5_twin_100 : decode cX5_twin 100 = .ok (.lshl, 1) := by decide +kernel
theorem dX5_twin_101 : decode cX5_twin 101 = .ok (.goto 9, 3) := by decide +kernel
theorem dX5_twin_104 : decode cX5_twin 104 = .ok (.lload 6, 2) := by decide +kernel
theorem dX5_twin_106 : decode cX5_twin 106 = .ok (.iload 8, 2) := by decide +kernel
theorem dX5_twin_108 : decode cX5_twin 108 = .ok (.ineg, 1) := by decide +kernel
theorem dX5_twin_109 : decode cX5_twin 109 = .ok (.lushr, 1) := by decide +kernel
theorem dX5_twin_110 : decode cX5_twin 110 = .ok (.lstore 9, 2) := by decide +kernel
theorem dX5_twin_112 : decode cX5_twin 112 = .ok (.lload 9, 2) := by decide +kernel
theorem dX5_twin_114 : decode cX5_twin 114 = .ok (.lload 4, 2) := by decide +kernel
theorem dX5_twin_116 : decode cX5_twin 116 = .ok (.lcmp, 1) := by decide +kernel
theorem dX5_twin_117 : decode cX5_twin 117 = .ok (.ifCond .ne 11, 3) := by decide +kernel
theorem dX5_twin_120 : decode cX5_twin 120 = .ok (.iload 8, 2) := by decide +kernel
theorem dX5_twin_122 : decode cX5_twin 122 = .ok (.bipush 100, 2) := by decide +kernel
theorem dX5_twin_124 : decode cX5_twin 124 = .ok (.iadd, 1) := by decide +kernel
theorem dX5_twin_125 : decode cX5_twin 125 = .ok (.goto 4, 3) := by decide +kernel
theorem dX5_twin_128 : decode cX5_twin 128 = .ok (.iconst (-1), 1) := by decide +kernel
theorem dX5_twin_129 : decode cX5_twin 129 = .ok (.ireturn, 1) := by decide +kernel
theorem dX5_layings_0 : decode cX5_layings 0 = .ok (.aload_n 0, 1) := by decide +kernel
theorem dX5_layings_1 : decode cX5_layings 1 = .ok (.getfield 42, 3) := by decide +kernel
theorem dX5_layings_4 : decode cX5_layings 4 = .ok (.iconst 0, 1) := by decide +kernel
theorem dX5_layings_5 : decode cX5_layings 5 = .ok (.aload_n 0, 1) := by decide +kernel
theorem dX5_layings_6 : decode cX5_layings 6 = .ok (.getfield 10, 3) := by decide +kernel
theorem dX5_layings_9 : decode cX5_layings 9 = .ok (.invokevirtual 107, 3) := by decide +kernel
theorem dX5_layings_12 : decode cX5_layings 12 = .ok (.invokevirtual 241, 3) := by decide +kernel
theorem dX5_layings_15 : decode cX5_layings 15 = .ok (.iconst 0, 1) := by decide +kernel
theorem dX5_layings_16 : decode cX5_layings 16 = .ok (.istore_n 1, 1) := by decide +kernel
theorem dX5_layings_17 : decode cX5_layings 17 = .ok (.iconst 1, 1) := by decide +kernel
theorem dX5_layings_18 : decode cX5_layings 18 = .ok (.istore_n 2, 1) := by decide +kernel
theorem dX5_layings_19 : decode cX5_layings 19 = .ok (.iload_n 2, 1) := by decide +kernel
theorem dX5_layings_20 : decode cX5_layings 20 = .ok (.aload_n 0, 1) := by decide +kernel
theorem dX5_layings_21 : decode cX5_layings 21 = .ok (.getfield 10, 3) := by decide +kernel
theorem dX5_layings_24 : decode cX5_layings 24 = .ok (.invokevirtual 129, 3) := by decide +kernel
theorem dX5_layings_27 : decode cX5_layings 27 = .ok (.if_icmp .gt 38, 3) := by decide +kernel
theorem dX5_layings_30 : decode cX5_layings 30 = .ok (.iload_n 2, 1) := by decide +kernel
theorem dX5_layings_31 : decode cX5_layings 31 = .ok (.sipush 150, 3) := by decide +kernel
theorem dX5_layings_34 : decode cX5_layings 34 = .ok (.if_icmp .gt 31, 3) := by decide +kernel
theorem dX5_layings_37 : decode cX5_layings 37 = .ok (.aload_n 0, 1) := by decide +kernel
theorem dX5_layings_38 : decode cX5_layings 38 = .ok (.getfield 42, 3) := by decide +kernel
theorem dX5_layings_41 : decode cX5_layings 41 = .ok (.iload_n 2, 1) := by decide +kernel
theorem dX5_layings_42 : decode cX5_layings 42 = .ok (.invokevirtual 245, 3) := by decide +kernel
theorem dX5_layings_45 : decode cX5_layings 45 = .ok (.istore_n 3, 1) := by decide +kernel
theorem dX5_layings_46 : decode cX5_layings 46 = .ok (.iload_n 3, 1) := by decide +kernel
theorem dX5_layings_47 : decode cX5_layings 47 = .ok (.iconst (-1), 1) := by decide +kernel
theorem dX5_layings_48 : decode cX5_layings 48 = .ok (.if_icmp .ne 5, 3) := by decide +kernel
theorem dX5_layings_51 : decode cX5_layings 51 = .ok (.iconst (-1), 1) := by decide +kernel
theorem dX5_layings_52 : decode cX5_layings 52 = .ok (.ireturn, 1) := by decide +kernel
theorem dX5_layings_53 : decode cX5_layings 53 = .ok (.iload_n 1, 1) := by decide +kernel
theorem dX5_layings_54 : decode cX5_layings 54 = .ok (.iload_n 3, 1) := by decide +kernel
theorem dX5_layings_55 : decode cX5_layings 55 = .ok (.invokestatic 276, 3) := by decide +kernel
theorem dX5_layings_58 : decode cX5_layings 58 = .ok (.istore_n 1, 1) := by decide +kernel
theorem dX5_layings_59 : decode cX5_layings 59 = .ok (.iinc 2 1, 3) := by decide +kernel
theorem dX5_layings_62 : decode cX5_layings 62 = .ok (.goto (-43), 3) := by decide +kernel
theorem dX5_layings_65 : decode cX5_layings 65 = .ok (.iload_n 1, 1) := by decide +kernel
theorem dX5_layings_66 : decode cX5_layings 66 = .ok (.ireturn, 1) := by decide +kernel
theorem dX5_checkLength_0 : decode cX5_checkLength 0 = .ok (.iload_n 0, 1) := by decide +kernel
theorem dX5_checkLength_1 : decode cX5_checkLength 1 = .ok (.ifCond .lt 10, 3) := by decide +kernel
theorem dX5_checkLength_4 : decode cX5_checkLength 4 = .ok (.iload_n 0, 1) := by decide +kernel
theorem dX5_checkLength_5 : decode cX5_checkLength 5 = .ok (.sipush 200, 3) := by decide +kernel
theorem dX5_checkLength_8 : decode cX5_checkLength 8 = .ok (.if_icmp .le 14, 3) := by decide +kernel
theorem dX5_checkLength_11 : decode cX5_checkLength 11 = .ok (.new 53, 3) := by decide +kernel
theorem dX5_checkLength_14 : decode cX5_checkLength 14 = .ok (.dup, 1) := by decide +kernel
theorem dX5_checkLength_15 : decode cX5_checkLength 15 = .ok (.ldc_w 281, 3) := by decide +kernel
theorem dX5_checkLength_18 : decode cX5_checkLength 18 = .ok (.invokespecial 57, 3) := by decide +kernel
theorem dX5_checkLength_21 : decode cX5_checkLength 21 = .ok (.athrow, 1) := by decide +kernel
theorem dX5_checkLength_22 : decode cX5_checkLength 22 = .ok (.return_, 1) := by decide +kernel
theorem dX5_laidLengths_0 : decode cX5_laidLengths 0 = .ok (.aload_n 0, 1) := by decide +kernel
theorem dX5_laidLengths_1 : decode cX5_laidLengths 1 = .ok (.getfield 42, 3) := by decide +kernel
theorem dX5_laidLengths_4 : decode cX5_laidLengths 4 = .ok (.aload_n 1, 1) := by decide +kernel
theorem dX5_laidLengths_5 : decode cX5_laidLengths 5 = .ok (.invokevirtual 126, 3) := by decide +kernel
theorem dX5_laidLengths_8 : decode cX5_laidLengths 8 = .ok (.aload_n 1, 1) := by decide +kernel
theorem dX5_laidLengths_9 : decode cX5_laidLengths 9 = .ok (.invokevirtual 107, 3) := by decide +kernel
theorem dX5_laidLengths_12 : decode cX5_laidLengths 12 = .ok (.invokevirtual 283, 3) := by decide +kernel
theorem dX5_laidLengths_15 : decode cX5_laidLengths 15 = .ok (.aload_n 0, 1) := by decide +kernel
theorem dX5_laidLengths_16 : decode cX5_laidLengths 16 = .ok (.getfield 42, 3) := by decide +kernel
theorem dX5_laidLengths_19 : decode cX5_laidLengths 19 = .ok (.aload_n 1, 1) := by decide +kernel
theorem dX5_laidLengths_20 : decode cX5_laidLengths 20 = .ok (.invokevirtual 129, 3) := by decide +kernel
theorem dX5_laidLengths_23 : decode cX5_laidLengths 23 = .ok (.invokevirtual 286, 3) := by decide +kernel
theorem dX5_laidLengths_26 : decode cX5_laidLengths 26 = .ok (.ireturn, 1) := by decide +kernel
theorem dX5_laidBy_0 : decode cX5_laidBy 0 = .ok (.aload_n 0, 1) := by decide +kernel
theorem dX5_laidBy_1 : decode cX5_laidBy 1 = .ok (.getfield 42, 3) := by decide +kernel
theorem dX5_laidBy_4 : decode cX5_laidBy 4 = .ok (.aload_n 0, 1) := by decide +kernel
theorem dX5_laidBy_5 : decode cX5_laidBy 5 = .ok (.getfield 10, 3) := by decide +kernel
theorem dX5_laidBy_8 : decode cX5_laidBy 8 = .ok (.invokevirtual 126, 3) := by decide +kernel
theorem dX5_laidBy_11 : decode cX5_laidBy 11 = .ok (.lload_n 1, 1) := by decide +kernel
theorem dX5_laidBy_12 : decode cX5_laidBy 12 = .ok (.invokevirtual 283, 3) := by decide +kernel
theorem dX5_laidBy_15 : decode cX5_laidBy 15 = .ok (.aload_n 0, 1) := by decide +kernel
theorem dX5_laidBy_16 : decode cX5_laidBy 16 = .ok (.getfield 42, 3) := by decide +kernel
theorem dX5_laidBy_19 : decode cX5_laidBy 19 = .ok (.aload_n 0, 1) := by decide +kernel
theorem dX5_laidBy_20 : decode cX5_laidBy 20 = .ok (.getfield 10, 3) := by decide +kernel
theorem dX5_laidBy_23 : decode cX5_laidBy 23 = .ok (.invokevirtual 129, 3) := by decide +kernel
theorem dX5_laidBy_26 : decode cX5_laidBy 26 = .ok (.invokevirtual 286, 3) := by decide +kernel
theorem dX5_laidBy_29 : decode cX5_laidBy 29 = .ok (.ireturn, 1) := by decide +kernel
theorem dX5_gaps_0 : decode cX5_gaps 0 = .ok (.aload_n 0, 1) := by decide +kernel
theorem dX5_gaps_1 : decode cX5_gaps 1 = .ok (.getfield 42, 3) := by decide +kernel
theorem dX5_gaps_4 : decode cX5_gaps 4 = .ok (.aload_n 1, 1) := by decide +kernel
theorem dX5_gaps_5 : decode cX5_gaps 5 = .ok (.invokevirtual 126, 3) := by decide +kernel
theorem dX5_gaps_8 : decode cX5_gaps 8 = .ok (.aload_n 1, 1) := by decide +kernel
theorem dX5_gaps_9 : decode cX5_gaps 9 = .ok (.invokevirtual 107, 3) := by decide +kernel
theorem dX5_gaps_12 : decode cX5_gaps 12 = .ok (.invokevirtual 283, 3) := by decide +kernel
theorem dX5_gaps_15 : decode cX5_gaps 15 = .ok (.aload_n 0, 1) := by decide +kernel
theorem dX5_gaps_16 : decode cX5_gaps 16 = .ok (.getfield 42, 3) := by decide +kernel
theorem dX5_gaps_19 : decode cX5_gaps 19 = .ok (.aload_n 1, 1) := by decide +kernel
theorem dX5_gaps_20 : decode cX5_gaps 20 = .ok (.invokevirtual 129, 3) := by decide +kernel
theorem dX5_gaps_23 : decode cX5_gaps 23 = .ok (.invokevirtual 289, 3) := by decide +kernel
theorem dX5_gaps_26 : decode cX5_gaps 26 = .ok (.ireturn, 1) := by decide +kernel
theorem dX5_layNext_0 : decode cX5_layNext 0 = .ok (.aload_n 0, 1) := by decide +kernel
theorem dX5_layNext_1 : decode cX5_layNext 1 = .ok (.getfield 49, 3) := by decide +kernel
theorem dX5_layNext_4 : decode cX5_layNext 4 = .ok (.invokevirtual 292, 3) := by decide +kernel
theorem dX5_layNext_7 : decode cX5_layNext 7 = .ok (.istore_n 2, 1) := by decide +kernel
theorem dX5_layNext_8 : decode cX5_layNext 8 = .ok (.iconst 0, 1) := by decide +kernel
theorem dX5_layNext_9 : decode cX5_layNext 9 = .ok (.istore_n 3, 1) := by decide +kernel
theorem dX5_layNext_10 : decode cX5_layNext 10 = .ok (.iload_n 3, 1) := by decide +kernel
theorem dX5_layNext_11 : decode cX5_layNext 11 = .ok (.aload_n 0, 1) := by decide +kernel
theorem dX5_layNext_12 : decode cX5_layNext 12 = .ok (.getfield 10, 3) := by decide +kernel
theorem dX5_layNext_15 : decode cX5_layNext 15 = .ok (.invokevirtual 98, 3) := by decide +kernel
theorem dX5_layNext_18 : decode cX5_layNext 18 = .ok (.if_icmp .ge 158, 3) := by decide +kernel
theorem dX5_layNext_21 : decode cX5_layNext 21 = .ok (.iload_n 3, 1) := by decide +kernel
theorem dX5_layNext_22 : decode cX5_layNext 22 = .ok (.iconst 4, 1) := by decide +kernel
theorem dX5_layNext_23 : decode cX5_layNext 23 = .ok (.if_icmp .ge 153, 3) := by decide +kernel
theorem dX5_layNext_26 : decode cX5_layNext 26 = .ok (.iconst 0, 1) := by decide +kernel
theorem dX5_layNext_27 : decode cX5_layNext 27 = .ok (.istore 4, 2) := by decide +kernel
theorem dX5_layNext_29 : decode cX5_layNext 29 = .ok (.iconst 0, 1) := by decide +kernel
theorem dX5_layNext_30 : decode cX5_layNext 30 = .ok (.istore 5, 2) := by decide +kernel
theorem dX5_layNext_32 : decode cX5_layNext 32 = .ok (.iload 5, 2) := by decide +kernel
theorem dX5_layNext_34 : decode cX5_layNext 34 = .ok (.bipush 40, 2) := by decide +kernel
theorem dX5_layNext_36 : decode cX5_layNext 36 = .ok (.if_icmp .gt 134, 3) := by decide +kernel
theorem dX5_layNext_39 : decode cX5_layNext 39 = .ok (.iload 5, 2) := by decide +kernel
theorem dX5_layNext_41 : decode cX5_layNext 41 = .ok (.iconst 1, 1) := by decide +kernel
theorem dX5_layNext_42 : decode cX5_layNext 42 = .ok (.iadd, 1) := by decide +kernel
theorem dX5_layNext_43 : decode cX5_layNext 43 = .ok (.istore 6, 2) := by decide +kernel
theorem dX5_layNext_45 : decode cX5_layNext 45 = .ok (.iload 6, 2) := by decide +kernel
theorem dX5_layNext_47 : decode cX5_layNext 47 = .ok (.bipush 40, 2) := by decide +kernel
theorem dX5_layNext_49 : decode cX5_layNext 49 = .ok (.if_icmp .gt 115, 3) := by decide +kernel
theorem dX5_layNext_52 : decode cX5_layNext 52 = .ok (.aload_n 0, 1) := by decide +kernel
theorem dX5_layNext_53 : decode cX5_layNext 53 = .ok (.getfield 10, 3) := by decide +kernel
theorem dX5_layNext_56 : decode cX5_layNext 56 = .ok (.iload_n 3, 1) := by decide +kernel
theorem dX5_layNext_57 : decode cX5_layNext 57 = .ok (.iload 5, 2) := by decide +kernel
theorem dX5_layNext_59 : decode cX5_layNext 59 = .ok (.invokevirtual 170, 3) := by decide +kernel
theorem dX5_layNext_62 : decode cX5_layNext 62 = .ok (.ifCond .eq 102, 3) := by decide +kernel
theorem dX5_layNext_65 : decode cX5_layNext 65 = .ok (.aload_n 0, 1) := by decide +kernel
theorem dX5_layNext_66 : decode cX5_layNext 66 = .ok (.getfield 10, 3) := by decide +kernel
theorem dX5_layNext_69 : decode cX5_layNext 69 = .ok (.iload_n 3, 1) := by decide +kernel
theorem dX5_layNext_70 : decode cX5_layNext 70 = .ok (.iload 6, 2) := by decide +kernel
theorem dX5_layNext_72 : decode cX5_layNext 72 = .ok (.invokevirtual 170, 3) := by decide +kernel
theorem dX5_layNext_75 : decode cX5_layNext 75 = .ok (.ifCond .ne 6, 3) := by decide +kernel
theorem dX5_layNext_78 : decode cX5_layNext 78 = .ok (.goto 80, 3) := by decide +kernel
theorem dX5_layNext_81 : decode cX5_layNext 81 = .ok (.aload_n 0, 1) := by decide +kernel
theorem dX5_layNext_82 : decode cX5_layNext 82 = .ok (.getfield 42, 3) := by decide +kernel
theorem dX5_layNext_85 : decode cX5_layNext 85 = .ok (.iload_n 2, 1) := by decide +kernel
theorem dX5_layNext_86 : decode cX5_layNext 86 = .ok (.iload 6, 2) := by decide +kernel
theorem dX5_layNext_88 : decode cX5_layNext 88 = .ok (.iadd, 1) := by decide +kernel
theorem dX5_layNext_89 : decode cX5_layNext 89 = .ok (.iload 5, 2) := by decide +kernel
theorem dX5_layNext_91 : decode cX5_layNext 91 = .ok (.isub, 1) := by decide +kernel
theorem dX5_layNext_92 : decode cX5_layNext 92 = .ok (.invokevirtual 245, 3) := by decide +kernel
theorem dX5_layNext_95 : decode cX5_layNext 95 = .ok (.iload_n 1, 1) := by decide +kernel
theorem dX5_layNext_96 : decode cX5_layNext 96 = .ok (.if_icmp .ne 22, 3) := by decide +kernel
theorem dX5_layNext_99 : decode cX5_layNext 99 = .ok (.aload_n 0, 1) := by decide +kernel
theorem dX5_layNext_100 : decode cX5_layNext 100 = .ok (.getfield 49, 3) := by decide +kernel
theorem dX5_layNext_103 : decode cX5_layNext 103 = .ok (.iload_n 3, 1) := by decide +kernel
theorem dX5_layNext_104 : decode cX5_layNext 104 = .ok (.iload 4, 2) := by decide +kernel
theorem dX5_layNext_106 : decode cX5_layNext 106 = .ok (.iconst 1, 1) := by decide +kernel
theorem dX5_layNext_107 : decode cX5_layNext 107 = .ok (.iload_n 2, 1) := by decide +kernel
theorem dX5_layNext_108 : decode cX5_layNext 108 = .ok (.iload 6, 2) := by decide +kernel
theorem dX5_layNext_110 : decode cX5_layNext 110 = .ok (.iadd, 1) := by decide +kernel
theorem dX5_layNext_111 : decode cX5_layNext 111 = .ok (.iload 5, 2) := by decide +kernel
theorem dX5_layNext_113 : decode cX5_layNext 113 = .ok (.isub, 1) := by decide +kernel
theorem dX5_layNext_114 : decode cX5_layNext 114 = .ok (.invokevirtual 295, 3) := by decide +kernel
theorem dX5_layNext_117 : decode cX5_layNext 117 = .ok (.return_, 1) := by decide +kernel
theorem dX5_layNext_118 : decode cX5_layNext 118 = .ok (.aload_n 0, 1) := by decide +kernel
theorem dX5_layNext_119 : decode cX5_layNext 119 = .ok (.getfield 42, 3) := by decide +kernel
theorem dX5_layNext_122 : decode cX5_layNext 122 = .ok (.iload_n 2, 1) := by decide +kernel
theorem dX5_layNext_123 : decode cX5_layNext 123 = .ok (.iload 5, 2) := by decide +kernel
theorem dX5_layNext_125 : decode cX5_layNext 125 = .ok (.iadd, 1) := by decide +kernel
theorem dX5_layNext_126 : decode cX5_layNext 126 = .ok (.iload 6, 2) := by decide +kernel
theorem dX5_layNext_128 : decode cX5_layNext 128 = .ok (.isub, 1) := by decide +kernel
theorem dX5_layNext_129 : decode cX5_layNext 129 = .ok (.invokevirtual 245, 3) := by decide +kernel
theorem dX5_layNext_132 : decode cX5_layNext 132 = .ok (.iload_n 1, 1) := by decide +kernel
theorem dX5_layNext_133 : decode cX5_layNext 133 = .ok (.if_icmp .ne 22, 3) := by decide +kernel
theorem dX5_layNext_136 : decode cX5_layNext 136 = .ok (.aload_n 0, 1) := by decide +kernel
theorem dX5_layNext_137 : decode cX5_layNext 137 = .ok (.getfield 49, 3) := by decide +kernel
theorem dX5_layNext_140 : decode cX5_layNext 140 = .ok (.iload_n 3, 1) := by decide +kernel
theorem dX5_layNext_141 : decode cX5_layNext 141 = .ok (.iload 4, 2) := by decide +kernel
theorem dX5_layNext_143 : decode cX5_layNext 143 = .ok (.iconst 0, 1) := by decide +kernel
theorem dX5_layNext_144 : decode cX5_layNext 144 = .ok (.iload_n 2, 1) := by decide +kernel
theorem dX5_layNext_145 : decode cX5_layNext 145 = .ok (.iload 5, 2) := by decide +kernel
theorem dX5_layNext_147 : decode cX5_layNext 147 = .ok (.iadd, 1) := by decide +kernel
theorem dX5_layNext_148 : decode cX5_layNext 148 = .ok (.iload 6, 2) := by decide +kernel
theorem dX5_layNext_150 : decode cX5_layNext 150 = .ok (.isub, 1) := by decide +kernel
theorem dX5_layNext_151 : decode cX5_layNext 151 = .ok (.invokevirtual 295, 3) := by decide +kernel
theorem dX5_layNext_154 : decode cX5_layNext 154 = .ok (.return_, 1) := by decide +kernel
theorem dX5_layNext_155 : decode cX5_layNext 155 = .ok (.iinc 4 1, 3) := by decide +kernel
theorem dX5_layNext_158 : decode cX5_layNext 158 = .ok (.iinc 6 1, 3) := by decide +kernel
theorem dX5_layNext_161 : decode cX5_layNext 161 = .ok (.goto (-116), 3) := by decide +kernel
theorem dX5_layNext_164 : decode cX5_layNext 164 = .ok (.iinc 5 1, 3) := by decide +kernel
theorem dX5_layNext_167 : decode cX5_layNext 167 = .ok (.goto (-135), 3) := by decide +kernel
theorem dX5_layNext_170 : decode cX5_layNext 170 = .ok (.iinc 3 1, 3) := by decide +kernel
theorem dX5_layNext_173 : decode cX5_layNext 173 = .ok (.goto (-163), 3) := by decide +kernel
theorem dX5_layNext_176 : decode cX5_layNext 176 = .ok (.return_, 1) := by decide +kernel
theorem dX5_runScript_0 : decode cX5_runScript 0 = .ok (.iload_n 1, 1) := by decide +kernel
theorem dX5_runScript_1 : decode cX5_runScript 1 = .ok (.iconst 1, 1) := by decide +kernel
theorem dX5_runScript_2 : decode cX5_runScript 2 = .ok (.if_icmp .lt 8, 3) := by decide +kernel
theorem dX5_runScript_5 : decode cX5_runScript 5 = .ok (.iload_n 1, 1) := by decide +kernel
theorem dX5_runScript_6 : decode cX5_runScript 6 = .ok (.iconst 3, 1) := by decide +kernel
theorem dX5_runScript_7 : decode cX5_runScript 7 = .ok (.if_icmp .le 14, 3) := by decide +kernel
theorem dX5_runScript_10 : decode cX5_runScript 10 = .ok (.new 53, 3) := by decide +kernel
theorem dX5_runScript_13 : decode cX5_runScript 13 = .ok (.dup, 1) := by decide +kernel
theorem dX5_runScript_14 : decode cX5_runScript 14 = .ok (.ldc_w 299, 3) := by decide +kernel
theorem dX5_runScript_17 : decode cX5_runScript 17 = .ok (.invokespecial 57, 3) := by decide +kernel
theorem dX5_runScript_20 : decode cX5_runScript 20 = .ok (.athrow, 1) := by decide +kernel
theorem dX5_runScript_21 : decode cX5_runScript 21 = .ok (.lconst 1, 1) := by decide +kernel
theorem dX5_runScript_22 : decode cX5_runScript 22 = .ok (.lstore 4, 2) := by decide +kernel
theorem dX5_runScript_24 : decode cX5_runScript 24 = .ok (.iconst 1, 1) := by decide +kernel
theorem dX5_runScript_25 : decode cX5_runScript 25 = .ok (.istore 6, 2) := by decide +kernel
theorem dX5_runScript_27 : decode cX5_runScript 27 = .ok (.iload 6, 2) := by decide +kernel
theorem dX5_runScript_29 : decode cX5_runScript 29 = .ok (.iload_n 1, 1) := by decide +kernel
theorem dX5_runScript_30 : decode cX5_runScript 30 = .ok (.if_icmp .ge 23, 3) := by decide +kernel
theorem dX5_runScript_33 : decode cX5_runScript 33 = .ok (.iload 6, 2) := by decide +kernel
theorem dX5_runScript_35 : decode cX5_runScript 35 = .ok (.iconst 3, 1) := by decide +kernel
theorem dX5_runScript_36 : decode cX5_runScript 36 = .ok (.if_icmp .ge 17, 3) := by decide +kernel
theorem dX5_runScript_39 : decode cX5_runScript 39 = .ok (.lload 4, 2) := by decide +kernel
theorem dX5_runScript_41 : decode cX5_runScript 41 = .ok (.ldc2_w 301, 3) := by decide +kernel
theorem dX5_runScript_44 : decode cX5_runScript 44 = .ok (.lmul, 1) := by decide +kernel
theorem dX5_runScript_45 : decode cX5_runScript 45 = .ok (.lstore 4, 2) := by decide +kernel
theorem dX5_runScript_47 : decode cX5_runScript 47 = .ok (.iinc 6 1, 3) := by decide +kernel
theorem dX5_runScript_50 : decode cX5_runScript 50 = .ok (.goto (-23), 3) := by decide +kernel
theorem dX5_runScript_53 : decode cX5_runScript 53 = .ok (.lload_n 2, 1) := by decide +kernel
theorem dX5_runScript_54 : decode cX5_runScript 54 = .ok (.lconst 0, 1) := by decide +kernel
theorem dX5_runScript_55 : decode cX5_runScript 55 = .ok (.lcmp, 1) := by decide +kernel
theorem dX5_runScript_56 : decode cX5_runScript 56 = .ok (.ifCond .lt 14, 3) := by decide +kernel
theorem dX5_runScript_59 : decode cX5_runScript 59 = .ok (.lload_n 2, 1) := by decide +kernel
theorem dX5_runScript_60 : decode cX5_runScript 60 = .ok (.lload 4, 2) := by decide +kernel
theorem dX5_runScript_62 : decode cX5_runScript 62 = .ok (.ldc2_w 301, 3) := by decide +kernel
theorem dX5_runScript_65 : decode cX5_runScript 65 = .ok (.lmul, 1) := by decide +kernel
theorem dX5_runScript_66 : decode cX5_runScript 66 = .ok (.lcmp, 1) := by decide +kernel
theorem dX5_runScript_67 : decode cX5_runScript 67 = .ok (.ifCond .lt 14, 3) := by decide +kernel
theorem dX5_runScript_70 : decode cX5_runScript 70 = .ok (.new 53, 3) := by decide +kernel
theorem dX5_runScript_73 : decode cX5_runScript 73 = .ok (.dup, 1) := by decide +kernel
theorem dX5_runScript_74 : decode cX5_runScript 74 = .ok (.ldc_w 303, 3) := by decide +kernel
theorem dX5_runScript_77 : decode cX5_runScript 77 = .ok (.invokespecial 57, 3) := by decide +kernel
theorem dX5_runScript_80 : decode cX5_runScript 80 = .ok (.athrow, 1) := by decide +kernel
theorem dX5_runScript_81 : decode cX5_runScript 81 = .ok (.aload_n 0, 1) := by decide +kernel
theorem dX5_runScript_82 : decode cX5_runScript 82 = .ok (.getfield 16, 3) := by decide +kernel
theorem dX5_runScript_85 : decode cX5_runScript 85 = .ok (.aload_n 0, 1) := by decide +kernel
theorem dX5_runScript_86 : decode cX5_runScript 86 = .ok (.getfield 10, 3) := by decide +kernel
theorem dX5_runScript_89 : decode cX5_runScript 89 = .ok (.invokevirtual 305, 3) := by decide +kernel
theorem dX5_runScript_92 : decode cX5_runScript 92 = .ok (.iconst 0, 1) := by decide +kernel
theorem dX5_runScript_93 : decode cX5_runScript 93 = .ok (.istore 6, 2) := by decide +kernel
theorem dX5_runScript_95 : decode cX5_runScript 95 = .ok (.iload 6, 2) := by decide +kernel
theorem dX5_runScript_97 : decode cX5_runScript 97 = .ok (.iload_n 1, 1) := by decide +kernel
theorem dX5_runScript_98 : decode cX5_runScript 98 = .ok (.if_icmp .ge 50, 3) := by decide +kernel
theorem dX5_runScript_101 : decode cX5_runScript 101 = .ok (.iload 6, 2) := by decide +kernel
theorem dX5_runScript_103 : decode cX5_runScript 103 = .ok (.iconst 3, 1) := by decide +kernel
theorem dX5_runScript_104 : decode cX5_runScript 104 = .ok (.if_icmp .ge 44, 3) := by decide +kernel
theorem dX5_runScript_107 : decode cX5_runScript 107 = .ok (.aload_n 0, 1) := by decide +kernel
theorem dX5_runScript_108 : decode cX5_runScript 108 = .ok (.lload_n 2, 1) := by decide +kernel
theorem dX5_runScript_109 : decode cX5_runScript 109 = .ok (.lload 4, 2) := by decide +kernel
theorem dX5_runScript_111 : decode cX5_runScript 111 = .ok (.lconst 1, 1) := by decide +kernel
theorem dX5_runScript_112 : decode cX5_runScript 112 = .ok (.invokestatic 308, 3) := by decide +kernel
theorem dX5_runScript_115 : decode cX5_runScript 115 = .ok (.ldiv, 1) := by decide +kernel
theorem dX5_runScript_116 : decode cX5_runScript 116 = .ok (.ldc2_w 301, 3) := by decide +kernel
theorem dX5_runScript_119 : decode cX5_runScript 119 = .ok (.lrem, 1) := by decide +kernel
theorem dX5_runScript_120 : decode cX5_runScript 120 = .ok (.l2i, 1) := by decide +kernel
theorem dX5_runScript_121 : decode cX5_runScript 121 = .ok (.aload_n 0, 1) := by decide +kernel
theorem dX5_runScript_122 : decode cX5_runScript 122 = .ok (.getfield 16, 3) := by decide +kernel
theorem dX5_runScript_125 : decode cX5_runScript 125 = .ok (.invokevirtual 311, 3) := by decide +kernel
theorem dX5_runScript_128 : decode cX5_runScript 128 = .ok (.ifCond .ne 6, 3) := by decide +kernel
theorem dX5_runScript_131 : decode cX5_runScript 131 = .ok (.iload 6, 2) := by decide +kernel
theorem dX5_runScript_133 : decode cX5_runScript 133 = .ok (.ireturn, 1) := by decide +kernel
theorem dX5_runScript_134 : decode cX5_runScript 134 = .ok (.lload 4, 2) := by decide +kernel
theorem dX5_runScript_136 : decode cX5_runScript 136 = .ok (.ldc2_w 301, 3) := by decide +kernel
theorem dX5_runScript_139 : decode cX5_runScript 139 = .ok (.ldiv, 1) := by decide +kernel
theorem dX5_runScript_140 : decode cX5_runScript 140 = .ok (.lstore 4, 2) := by decide +kernel
theorem dX5_runScript_142 : decode cX5_runScript 142 = .ok (.iinc 6 1, 3) := by decide +kernel
theorem dX5_runScript_145 : decode cX5_runScript 145 = .ok (.goto (-50), 3) := by decide +kernel
theorem dX5_runScript_148 : decode cX5_runScript 148 = .ok (.iconst (-1), 1) := by decide +kernel
theorem dX5_runScript_149 : decode cX5_runScript 149 = .ok (.ireturn, 1) := by decide +kernel
theorem dX5_simulate_0 : decode cX5_simulate 0 = .ok (.iload_n 3, 1) := by decide +kernel
theorem dX5_simulate_1 : decode cX5_simulate 1 = .ok (.iconst 1, 1) := by decide +kernel
theorem dX5_simulate_2 : decode cX5_simulate 2 = .ok (.if_icmp .lt 9, 3) := by decide +kernel
theorem dX5_simulate_5 : decode cX5_simulate 5 = .ok (.iload_n 3, 1) := by decide +kernel
theorem dX5_simulate_6 : decode cX5_simulate 6 = .ok (.bipush 60, 2) := by decide +kernel
theorem dX5_simulate_8 : decode cX5_simulate 8 = .ok (.if_icmp .le 14, 3) := by decide +kernel
theorem dX5_simulate_11 : decode cX5_simulate 11 = .ok (.new 53, 3) := by decide +kernel
theorem dX5_simulate_14 : decode cX5_simulate 14 = .ok (.dup, 1) := by decide +kernel
theorem dX5_simulate_15 : decode cX5_simulate 15 = .ok (.ldc_w 315, 3) := by decide +kernel
theorem dX5_simulate_18 : decode cX5_simulate 18 = .ok (.invokespecial 57, 3) := by decide +kernel
theorem dX5_simulate_21 : decode cX5_simulate 21 = .ok (.athrow, 1) := by decide +kernel
theorem dX5_simulate_22 : decode cX5_simulate 22 = .ok (.aload_n 0, 1) := by decide +kernel
theorem dX5_simulate_23 : decode cX5_simulate 23 = .ok (.getfield 16, 3) := by decide +kernel
theorem dX5_simulate_26 : decode cX5_simulate 26 = .ok (.aload_n 0, 1) := by decide +kernel
theorem dX5_simulate_27 : decode cX5_simulate 27 = .ok (.getfield 10, 3) := by decide +kernel
theorem dX5_simulate_30 : decode cX5_simulate 30 = .ok (.invokevirtual 305, 3) := by decide +kernel
theorem dX5_simulate_33 : decode cX5_simulate 33 = .ok (.lload_n 1, 1) := by decide +kernel
theorem dX5_simulate_34 : decode cX5_simulate 34 = .ok (.lstore 4, 2) := by decide +kernel
theorem dX5_simulate_36 : decode cX5_simulate 36 = .ok (.iconst 0, 1) := by decide +kernel
theorem dX5_simulate_37 : decode cX5_simulate 37 = .ok (.istore 6, 2) := by decide +kernel
theorem dX5_simulate_39 : decode cX5_simulate 39 = .ok (.iload 6, 2) := by decide +kernel
theorem dX5_simulate_41 : decode cX5_simulate 41 = .ok (.iload_n 3, 1) := by decide +kernel
theorem dX5_simulate_42 : decode cX5_simulate 42 = .ok (.if_icmp .ge 41, 3) := by decide +kernel
theorem dX5_simulate_45 : decode cX5_simulate 45 = .ok (.iload 6, 2) := by decide +kernel
theorem dX5_simulate_47 : decode cX5_simulate 47 = .ok (.bipush 60, 2) := by decide +kernel
theorem dX5_simulate_49 : decode cX5_simulate 49 = .ok (.if_icmp .ge 34, 3) := by decide +kernel
theorem dX5_simulate_52 : decode cX5_simulate 52 = .ok (.lload 4, 2) := by decide +kernel
theorem dX5_simulate_54 : decode cX5_simulate 54 = .ok (.ldc2_w 317, 3) := by decide +kernel
theorem dX5_simulate_57 : decode cX5_simulate 57 = .ok (.lmul, 1) := by decide +kernel
theorem dX5_simulate_58 : decode cX5_simulate 58 = .ok (.ldc2_w 319, 3) := by decide +kernel
theorem dX5_simulate_61 : decode cX5_simulate 61 = .ok (.ladd, 1) := by decide +kernel
theorem dX5_simulate_62 : decode cX5_simulate 62 = .ok (.lstore 4, 2) := by decide +kernel
theorem dX5_simulate_64 : decode cX5_simulate 64 = .ok (.lload 4, 2) := by decide +kernel
theorem dX5_simulate_66 : decode cX5_simulate 66 = .ok (.bipush 33, 2) := by decide +kernel
theorem dX5_simulate_68 : decode cX5_simulate 68 = .ok (.lushr, 1) := by decide +kernel
theorem dX5_simulate_69 : decode cX5_simulate 69 = .ok (.l2i, 1) := by decide +kernel
theorem dX5_simulate_70 : decode cX5_simulate 70 = .ok (.aload_n 0, 1) := by decide +kernel
theorem dX5_simulate_71 : decode cX5_simulate 71 = .ok (.getfield 16, 3) := by decide +kernel
theorem dX5_simulate_74 : decode cX5_simulate 74 = .ok (.invokestatic 321, 3) := by decide +kernel
theorem dX5_simulate_77 : decode cX5_simulate 77 = .ok (.iinc 6 1, 3) := by decide +kernel
theorem dX5_simulate_80 : decode cX5_simulate 80 = .ok (.goto (-41), 3) := by decide +kernel
theorem dX5_simulate_83 : decode cX5_simulate 83 = .ok (.sipush 10000, 3) := by decide +kernel
theorem dX5_simulate_86 : decode cX5_simulate 86 = .ok (.aload_n 0, 1) := by decide +kernel
theorem dX5_simulate_87 : decode cX5_simulate 87 = .ok (.getfield 16, 3) := by decide +kernel
theorem dX5_simulate_90 : decode cX5_simulate 90 = .ok (.invokevirtual 101, 3) := by decide +kernel
theorem dX5_simulate_93 : decode cX5_simulate 93 = .ok (.imul, 1) := by decide +kernel
theorem dX5_simulate_94 : decode cX5_simulate 94 = .ok (.bipush 10, 2) := by decide +kernel
theorem dX5_simulate_96 : decode cX5_simulate 96 = .ok (.aload_n 0, 1) := by decide +kernel
theorem dX5_simulate_97 : decode cX5_simulate 97 = .ok (.aload_n 0, 1) := by decide +kernel
theorem dX5_simulate_98 : decode cX5_simulate 98 = .ok (.getfield 16, 3) := by decide +kernel
theorem dX5_simulate_101 : decode cX5_simulate 101 = .ok (.invokevirtual 120, 3) := by decide +kernel
theorem dX5_simulate_104 : decode cX5_simulate 104 = .ok (.imul, 1) := by decide +kernel
theorem dX5_simulate_105 : decode cX5_simulate 105 = .ok (.iadd, 1) := by decide +kernel
theorem dX5_simulate_106 : decode cX5_simulate 106 = .ok (.aload_n 0, 1) := by decide +kernel
theorem dX5_simulate_107 : decode cX5_simulate 107 = .ok (.getfield 16, 3) := by decide +kernel
theorem dX5_simulate_110 : decode cX5_simulate 110 = .ok (.invokevirtual 98, 3) := by decide +kernel
theorem dX5_simulate_113 : decode cX5_simulate 113 = .ok (.iadd, 1) := by decide +kernel
theorem dX5_simulate_114 : decode cX5_simulate 114 = .ok (.ireturn, 1) := by decide +kernel
theorem dX5_runGroup_0 : decode cX5_runGroup 0 = .ok (.iload_n 1, 1) := by decide +kernel
theorem dX5_runGroup_1 : decode cX5_runGroup 1 = .ok (.ldc_w 325, 3) := by decide +kernel
theorem dX5_runGroup_4 : decode cX5_runGroup 4 = .ok (.idiv, 1) := by decide +kernel
theorem dX5_runGroup_5 : decode cX5_runGroup 5 = .ok (.istore_n 3, 1) := by decide +kernel
theorem dX5_runGroup_6 : decode cX5_runGroup 6 = .ok (.iload_n 1, 1) := by decide +kernel
theorem dX5_runGroup_7 : decode cX5_runGroup 7 = .ok (.sipush 10000, 3) := by decide +kernel
theorem dX5_runGroup_10 : decode cX5_runGroup 10 = .ok (.idiv, 1) := by decide +kernel
theorem dX5_runGroup_11 : decode cX5_runGroup 11 = .ok (.bipush 10, 2) := by decide +kernel
theorem dX5_runGroup_13 : decode cX5_runGroup 13 = .ok (.irem, 1) := by decide +kernel
theorem dX5_runGroup_14 : decode cX5_runGroup 14 = .ok (.istore 4, 2) := by decide +kernel
theorem dX5_runGroup_16 : decode cX5_runGroup 16 = .ok (.iload_n 1, 1) := by decide +kernel
theorem dX5_runGroup_17 : decode cX5_runGroup 17 = .ok (.bipush 10, 2) := by decide +kernel
theorem dX5_runGroup_19 : decode cX5_runGroup 19 = .ok (.irem, 1) := by decide +kernel
theorem dX5_runGroup_20 : decode cX5_runGroup 20 = .ok (.istore 5, 2) := by decide +kernel
theorem dX5_runGroup_22 : decode cX5_runGroup 22 = .ok (.iload_n 3, 1) := by decide +kernel
theorem dX5_runGroup_23 : decode cX5_runGroup 23 = .ok (.tableswitch 357 1 9 #[49, 80, 130, 161, 187, 220, 249, 279, 328], 49) := by decide +kernel
theorem dX5_runGroup_72 : decode cX5_runGroup 72 = .ok (.iload_n 1, 1) := by decide +kernel
theorem dX5_runGroup_73 : decode cX5_runGroup 73 = .ok (.bipush 100, 2) := by decide +kernel
theorem dX5_runGroup_75 : decode cX5_runGroup 75 = .ok (.idiv, 1) := by decide +kernel
theorem dX5_runGroup_76 : decode cX5_runGroup 76 = .ok (.sipush 1000, 3) := by decide +kernel
theorem dX5_runGroup_79 : decode cX5_runGroup 79 = .ok (.irem, 1) := by decide +kernel
theorem dX5_runGroup_80 : decode cX5_runGroup 80 = .ok (.ifCond .ne 21, 3) := by decide +kernel
theorem dX5_runGroup_83 : decode cX5_runGroup 83 = .ok (.aload_n 2, 1) := by decide +kernel
theorem dX5_runGroup_84 : decode cX5_runGroup 84 = .ok (.iconst 1, 1) := by decide +kernel
theorem dX5_runGroup_85 : decode cX5_runGroup 85 = .ok (.iload_n 1, 1) := by decide +kernel
theorem dX5_runGroup_86 : decode cX5_runGroup 86 = .ok (.bipush 100, 2) := by decide +kernel
theorem dX5_runGroup_88 : decode cX5_runGroup 88 = .ok (.irem, 1) := by decide +kernel
theorem dX5_runGroup_89 : decode cX5_runGroup 89 = .ok (.iconst 0, 1) := by decide +kernel
theorem dX5_runGroup_90 : decode cX5_runGroup 90 = .ok (.iconst 0, 1) := by decide +kernel
theorem dX5_runGroup_91 : decode cX5_runGroup 91 = .ok (.invokevirtual 326, 3) := by decide +kernel
theorem dX5_runGroup_94 : decode cX5_runGroup 94 = .ok (.ifCond .eq 7, 3) := by decide +kernel
theorem dX5_runGroup_97 : decode cX5_runGroup 97 = .ok (.iconst 1, 1) := by decide +kernel
theorem dX5_runGroup_98 : decode cX5_runGroup 98 = .ok (.goto 4, 3) := by decide +kernel
theorem dX5_runGroup_101 : decode cX5_runGroup 101 = .ok (.iconst 0, 1) := by decide +kernel
theorem dX5_runGroup_102 : decode cX5_runGroup 102 = .ok (.ireturn, 1) := by decide +kernel
theorem dX5_runGroup_103 : decode cX5_runGroup 103 = .ok (.iload_n 1, 1) := by decide +kernel
theorem dX5_runGroup_104 : decode cX5_runGroup 104 = .ok (.bipush 10, 2) := by decide +kernel
theorem dX5_runGroup_106 : decode cX5_runGroup 106 = .ok (.idiv, 1) := by decide +kernel
theorem dX5_runGroup_107 : decode cX5_runGroup 107 = .ok (.bipush 10, 2) := by decide +kernel
theorem dX5_runGroup_109 : decode cX5_runGroup 109 = .ok (.irem, 1) := by decide +kernel
theorem dX5_runGroup_110 : decode cX5_runGroup 110 = .ok (.ifCond .ne 41, 3) := by decide +kernel
theorem dX5_runGroup_113 : decode cX5_runGroup 113 = .ok (.iload 5, 2) := by decide +kernel
theorem dX5_runGroup_115 : decode cX5_runGroup 115 = .ok (.iconst 1, 1) := by decide +kernel
theorem dX5_runGroup_116 : decode cX5_runGroup 116 = .ok (.if_icmp .gt 35, 3) := by decide +kernel
theorem dX5_runGroup_119 : decode cX5_runGroup 119 = .ok (.aload_n 2, 1) := by decide +kernel
theorem dX5_runGroup_120 : decode cX5_runGroup 120 = .ok (.iconst 2, 1) := by decide +kernel
theorem dX5_runGroup_121 : decode cX5_runGroup 121 = .ok (.iload 4, 2) := by decide +kernel
theorem dX5_runGroup_123 : decode cX5_runGroup 123 = .ok (.iload_n 1, 1) := by decide +kernel
theorem dX5_runGroup_124 : decode cX5_runGroup 124 = .ok (.bipush 100, 2) := by decide +kernel
theorem dX5_runGroup_126 : decode cX5_runGroup 126 = .ok (.idiv, 1) := by decide +kernel
theorem dX5_runGroup_127 : decode cX5_runGroup 127 = .ok (.bipush 100, 2) := by decide +kernel
theorem dX5_runGroup_129 : decode cX5_runGroup 129 = .ok (.irem, 1) := by decide +kernel
theorem dX5_runGroup_130 : decode cX5_runGroup 130 = .ok (.iload 5, 2) := by decide +kernel
theorem dX5_runGroup_132 : decode cX5_runGroup 132 = .ok (.iconst 1, 1) := by decide +kernel
theorem dX5_runGroup_133 : decode cX5_runGroup 133 = .ok (.if_icmp .ne 7, 3) := by decide +kernel
theorem dX5_runGroup_136 : decode cX5_runGroup 136 = .ok (.iconst 1, 1) := by decide +kernel
theorem dX5_runGroup_137 : decode cX5_runGroup 137 = .ok (.goto 4, 3) := by decide +kernel
theorem dX5_runGroup_140 : decode cX5_runGroup 140 = .ok (.iconst 0, 1) := by decide +kernel
theorem dX5_runGroup_141 : decode cX5_runGroup 141 = .ok (.invokevirtual 326, 3) := by decide +kernel
theorem dX5_runGroup_144 : decode cX5_runGroup 144 = .ok (.ifCond .eq 7, 3) := by decide +kernel
theorem dX5_runGroup_147 : decode cX5_runGroup 147 = .ok (.iconst 1, 1) := by decide +kernel
theorem dX5_runGroup_148 : decode cX5_runGroup 148 = .ok (.goto 4, 3) := by decide +kernel
theorem dX5_runGroup_151 : decode cX5_runGroup 151 = .ok (.iconst 0, 1) := by decide +kernel
theorem dX5_runGroup_152 : decode cX5_runGroup 152 = .ok (.ireturn, 1) := by decide +kernel
theorem dX5_runGroup_153 : decode cX5_runGroup 153 = .ok (.iload_n 1, 1) := by decide +kernel
theorem dX5_runGroup_154 : decode cX5_runGroup 154 = .ok (.bipush 100, 2) := by decide +kernel
theorem dX5_runGroup_156 : decode cX5_runGroup 156 = .ok (.idiv, 1) := by decide +kernel
theorem dX5_runGroup_157 : decode cX5_runGroup 157 = .ok (.bipush 100, 2) := by decide +kernel
theorem dX5_runGroup_159 : decode cX5_runGroup 159 = .ok (.irem, 1) := by decide +kernel
theorem dX5_runGroup_160 : decode cX5_runGroup 160 = .ok (.ifCond .ne 22, 3) := by decide +kernel
theorem dX5_runGroup_163 : decode cX5_runGroup 163 = .ok (.aload_n 2, 1) := by decide +kernel
theorem dX5_runGroup_164 : decode cX5_runGroup 164 = .ok (.iconst 3, 1) := by decide +kernel
theorem dX5_runGroup_165 : decode cX5_runGroup 165 = .ok (.iload 4, 2) := by decide +kernel
theorem dX5_runGroup_167 : decode cX5_runGroup 167 = .ok (.iload_n 1, 1) := by decide +kernel
theorem dX5_runGroup_168 : decode cX5_runGroup 168 = .ok (.bipush 100, 2) := by decide +kernel
theorem dX5_runGroup_170 : decode cX5_runGroup 170 = .ok (.irem, 1) := by decide +kernel
theorem dX5_runGroup_171 : decode cX5_runGroup 171 = .ok (.iconst 0, 1) := by decide +kernel
theorem dX5_runGroup_172 : decode cX5_runGroup 172 = .ok (.invokevirtual 326, 3) := by decide +kernel
theorem dX5_runGroup_175 : decode cX5_runGroup 175 = .ok (.ifCond .eq 7, 3) := by decide +kernel
theorem dX5_runGroup_178 : decode cX5_runGroup 178 = .ok (.iconst 1, 1) := by decide +kernel
theorem dX5_runGroup_179 : decode cX5_runGroup 179 = .ok (.goto 4, 3) := by decide +kernel
theorem dX5_runGroup_182 : decode cX5_runGroup 182 = .ok (.iconst 0, 1) := by decide +kernel
theorem dX5_runGroup_183 : decode cX5_runGroup 183 = .ok (.ireturn, 1) := by decide +kernel
theorem dX5_runGroup_184 : decode cX5_runGroup 184 = .ok (.iload_n 1, 1) := by decide +kernel
theorem dX5_runGroup_185 : decode cX5_runGroup 185 = .ok (.sipush 10000, 3) := by decide +kernel
theorem dX5_runGroup_188 : decode cX5_runGroup 188 = .ok (.irem, 1) := by decide +kernel
theorem dX5_runGroup_189 : decode cX5_runGroup 189 = .ok (.ifCond .ne 19, 3) := by decide +kernel
theorem dX5_runGroup_192 : decode cX5_runGroup 192 = .ok (.aload_n 2, 1) := by decide +kernel
theorem dX5_runGroup_193 : decode cX5_runGroup 193 = .ok (.iconst 4, 1) := by decide +kernel
theorem dX5_runGroup_194 : decode cX5_runGroup 194 = .ok (.iload 4, 2) := by decide +kernel
theorem dX5_runGroup_196 : decode cX5_runGroup 196 = .ok (.iconst 0, 1) := by decide +kernel
theorem dX5_runGroup_197 : decode cX5_runGroup 197 = .ok (.iconst 0, 1) := by decide +kernel
theorem dX5_runGroup_198 : decode cX5_runGroup 198 = .ok (.invokevirtual 326, 3) := by decide +kernel
theorem dX5_runGroup_201 : decode cX5_runGroup 201 = .ok (.ifCond .eq 7, 3) := by decide +kernel
theorem dX5_runGroup_204 : decode cX5_runGroup 204 = .ok (.iconst 1, 1) := by decide +kernel
theorem dX5_runGroup_205 : decode cX5_runGroup 205 = .ok (.goto 4, 3) := by decide +kernel
theorem dX5_runGroup_208 : decode cX5_runGroup 208 = .ok (.iconst 0, 1) := by decide +kernel
theorem dX5_runGroup_209 : decode cX5_runGroup 209 = .ok (.ireturn, 1) := by decide +kernel
theorem dX5_runGroup_210 : decode cX5_runGroup 210 = .ok (.iload_n 1, 1) := by decide +kernel
theorem dX5_runGroup_211 : decode cX5_runGroup 211 = .ok (.sipush 1000, 3) := by decide +kernel
theorem dX5_runGroup_214 : decode cX5_runGroup 214 = .ok (.idiv, 1) := by decide +kernel
theorem dX5_runGroup_215 : decode cX5_runGroup 215 = .ok (.bipush 10, 2) := by decide +kernel
theorem dX5_runGroup_217 : decode cX5_runGroup 217 = .ok (.irem, 1) := by decide +kernel
theorem dX5_runGroup_218 : decode cX5_runGroup 218 = .ok (.ifCond .ne 23, 3) := by decide +kernel
theorem dX5_runGroup_221 : decode cX5_runGroup 221 = .ok (.aload_n 2, 1) := by decide +kernel
theorem dX5_runGroup_222 : decode cX5_runGroup 222 = .ok (.iconst 5, 1) := by decide +kernel
theorem dX5_runGroup_223 : decode cX5_runGroup 223 = .ok (.iload 4, 2) := by decide +kernel
theorem dX5_runGroup_225 : decode cX5_runGroup 225 = .ok (.iload_n 1, 1) := by decide +kernel
theorem dX5_runGroup_226 : decode cX5_runGroup 226 = .ok (.sipush 1000, 3) := by decide +kernel
theorem dX5_runGroup_229 : decode cX5_runGroup 229 = .ok (.irem, 1) := by decide +kernel
theorem dX5_runGroup_230 : decode cX5_runGroup 230 = .ok (.iconst 0, 1) := by decide +kernel
theorem dX5_runGroup_231 : decode cX5_runGroup 231 = .ok (.invokevirtual 326, 3) := by decide +kernel
theorem dX5_runGroup_234 : decode cX5_runGroup 234 = .ok (.ifCond .eq 7, 3) := by decide +kernel
theorem dX5_runGroup_237 : decode cX5_runGroup 237 = .ok (.iconst 1, 1) := by decide +kernel
theorem dX5_runGroup_238 : decode cX5_runGroup 238 = .ok (.goto 4, 3) := by decide +kernel
theorem dX5_runGroup_241 : decode cX5_runGroup 241 = .ok (.iconst 0, 1) := by decide +kernel
theorem dX5_runGroup_242 : decode cX5_runGroup 242 = .ok (.ireturn, 1) := by decide +kernel
theorem dX5_runGroup_243 : decode cX5_runGroup 243 = .ok (.iload 4, 2) := by decide +kernel
theorem dX5_runGroup_245 : decode cX5_runGroup 245 = .ok (.ifCond .ne 25, 3) := by decide +kernel
theorem dX5_runGroup_248 : decode cX5_runGroup 248 = .ok (.aload_n 0, 1) := by decide +kernel
theorem dX5_runGroup_249 : decode cX5_runGroup 249 = .ok (.iload_n 1, 1) := by decide +kernel
theorem dX5_runGroup_250 : decode cX5_runGroup 250 = .ok (.bipush 10, 2) := by decide +kernel
theorem dX5_runGroup_252 : decode cX5_runGroup 252 = .ok (.idiv, 1) := by decide +kernel
theorem dX5_runGroup_253 : decode cX5_runGroup 253 = .ok (.sipush 1000, 3) := by decide +kernel
theorem dX5_runGroup_256 : decode cX5_runGroup 256 = .ok (.irem, 1) := by decide +kernel
theorem dX5_runGroup_257 : decode cX5_runGroup 257 = .ok (.iload 5, 2) := by decide +kernel
theorem dX5_runGroup_259 : decode cX5_runGroup 259 = .ok (.aload_n 2, 1) := by decide +kernel
theorem dX5_runGroup_260 : decode cX5_runGroup 260 = .ok (.invokevirtual 330, 3) := by decide +kernel
theorem dX5_runGroup_263 : decode cX5_runGroup 263 = .ok (.ifCond .eq 7, 3) := by decide +kernel
theorem dX5_runGroup_266 : decode cX5_runGroup 266 = .ok (.iconst 1, 1) := by decide +kernel
theorem dX5_runGroup_267 : decode cX5_runGroup 267 = .ok (.goto 4, 3) := by decide +kernel
theorem dX5_runGroup_270 : decode cX5_runGroup 270 = .ok (.iconst 0, 1) := by decide +kernel
theorem dX5_runGroup_271 : decode cX5_runGroup 271 = .ok (.ireturn, 1) := by decide +kernel
theorem dX5_runGroup_272 : decode cX5_runGroup 272 = .ok (.iload_n 1, 1) := by decide +kernel
theorem dX5_runGroup_273 : decode cX5_runGroup 273 = .ok (.sipush 1000, 3) := by decide +kernel
theorem dX5_runGroup_276 : decode cX5_runGroup 276 = .ok (.idiv, 1) := by decide +kernel
theorem dX5_runGroup_277 : decode cX5_runGroup 277 = .ok (.bipush 100, 2) := by decide +kernel
theorem dX5_runGroup_279 : decode cX5_runGroup 279 = .ok (.irem, 1) := by decide +kernel
theorem dX5_runGroup_280 : decode cX5_runGroup 280 = .ok (.ifCond .ne 20, 3) := by decide +kernel
theorem dX5_runGroup_283 : decode cX5_runGroup 283 = .ok (.aload_n 0, 1) := by decide +kernel
theorem dX5_runGroup_284 : decode cX5_runGroup 284 = .ok (.aload_n 2, 1) := by decide +kernel
theorem dX5_runGroup_285 : decode cX5_runGroup 285 = .ok (.invokevirtual 120, 3) := by decide +kernel
theorem dX5_runGroup_288 : decode cX5_runGroup 288 = .ok (.iload_n 1, 1) := by decide +kernel
theorem dX5_runGroup_289 : decode cX5_runGroup 289 = .ok (.sipush 1000, 3) := by decide +kernel
theorem dX5_runGroup_292 : decode cX5_runGroup 292 = .ok (.irem, 1) := by decide +kernel
theorem dX5_runGroup_293 : decode cX5_runGroup 293 = .ok (.if_icmp .lt 7, 3) := by decide +kernel
theorem dX5_runGroup_296 : decode cX5_runGroup 296 = .ok (.iconst 1, 1) := by decide +kernel
theorem dX5_runGroup_297 : decode cX5_runGroup 297 = .ok (.goto 4, 3) := by decide +kernel
theorem dX5_runGroup_300 : decode cX5_runGroup 300 = .ok (.iconst 0, 1) := by decide +kernel
theorem dX5_runGroup_301 : decode cX5_runGroup 301 = .ok (.ireturn, 1) := by decide +kernel
theorem dX5_runGroup_302 : decode cX5_runGroup 302 = .ok (.iload_n 1, 1) := by decide +kernel
theorem dX5_runGroup_303 : decode cX5_runGroup 303 = .ok (.bipush 10, 2) := by decide +kernel
theorem dX5_runGroup_305 : decode cX5_runGroup 305 = .ok (.idiv, 1) := by decide +kernel
theorem dX5_runGroup_306 : decode cX5_runGroup 306 = .ok (.bipush 10, 2) := by decide +kernel
theorem dX5_runGroup_308 : decode cX5_runGroup 308 = .ok (.irem, 1) := by decide +kernel
theorem dX5_runGroup_309 : decode cX5_runGroup 309 = .ok (.ifCond .ne 40, 3) := by decide +kernel
theorem dX5_runGroup_312 : decode cX5_runGroup 312 = .ok (.iload 5, 2) := by decide +kernel
theorem dX5_runGroup_314 : decode cX5_runGroup 314 = .ok (.iconst 1, 1) := by decide +kernel
theorem dX5_runGroup_315 : decode cX5_runGroup 315 = .ok (.if_icmp .gt 34, 3) := by decide +kernel
theorem dX5_runGroup_318 : decode cX5_runGroup 318 = .ok (.iload 4, 2) := by decide +kernel
theorem dX5_runGroup_320 : decode cX5_runGroup 320 = .ok (.iload_n 1, 1) := by decide +kernel
theorem dX5_runGroup_321 : decode cX5_runGroup 321 = .ok (.bipush 100, 2) := by decide +kernel
theorem dX5_runGroup_323 : decode cX5_runGroup 323 = .ok (.idiv, 1) := by decide +kernel
theorem dX5_runGroup_324 : decode cX5_runGroup 324 = .ok (.bipush 100, 2) := by decide +kernel
theorem dX5_runGroup_326 : decode cX5_runGroup 326 = .ok (.irem, 1) := by decide +kernel
theorem dX5_runGroup_327 : decode cX5_runGroup 327 = .ok (.iload 5, 2) := by decide +kernel
theorem dX5_runGroup_329 : decode cX5_runGroup 329 = .ok (.iconst 1, 1) := by decide +kernel
theorem dX5_runGroup_330 : decode cX5_runGroup 330 = .ok (.if_icmp .ne 7, 3) := by decide +kernel
theorem dX5_runGroup_333 : decode cX5_runGroup 333 = .ok (.iconst 1, 1) := by decide +kernel
theorem dX5_runGroup_334 : decode cX5_runGroup 334 = .ok (.goto 4, 3) := by decide +kernel
theorem dX5_runGroup_337 : decode cX5_runGroup 337 = .ok (.iconst 0, 1) := by decide +kernel
theorem dX5_runGroup_338 : decode cX5_runGroup 338 = .ok (.aload_n 2, 1) := by decide +kernel
theorem dX5_runGroup_339 : decode cX5_runGroup 339 = .ok (.invokestatic 334, 3) := by decide +kernel
theorem dX5_runGroup_342 : decode cX5_runGroup 342 = .ok (.ifCond .eq 7, 3) := by decide +kernel
theorem dX5_runGroup_345 : decode cX5_runGroup 345 = .ok (.iconst 1, 1) := by decide +kernel
theorem dX5_runGroup_346 : decode cX5_runGroup 346 = .ok (.goto 4, 3) := by decide +kernel
theorem dX5_runGroup_349 : decode cX5_runGroup 349 = .ok (.iconst 0, 1) := by decide +kernel
theorem dX5_runGroup_350 : decode cX5_runGroup 350 = .ok (.ireturn, 1) := by decide +kernel
theorem dX5_runGroup_351 : decode cX5_runGroup 351 = .ok (.iload_n 1, 1) := by decide +kernel
theorem dX5_runGroup_352 : decode cX5_runGroup 352 = .ok (.bipush 100, 2) := by decide +kernel
theorem dX5_runGroup_354 : decode cX5_runGroup 354 = .ok (.idiv, 1) := by decide +kernel
theorem dX5_runGroup_355 : decode cX5_runGroup 355 = .ok (.sipush 1000, 3) := by decide +kernel
theorem dX5_runGroup_358 : decode cX5_runGroup 358 = .ok (.irem, 1) := by decide +kernel
theorem dX5_runGroup_359 : decode cX5_runGroup 359 = .ok (.ifCond .ne 19, 3) := by decide +kernel
theorem dX5_runGroup_362 : decode cX5_runGroup 362 = .ok (.aload_n 0, 1) := by decide +kernel
theorem dX5_runGroup_363 : decode cX5_runGroup 363 = .ok (.aload_n 2, 1) := by decide +kernel
theorem dX5_runGroup_364 : decode cX5_runGroup 364 = .ok (.invokevirtual 123, 3) := by decide +kernel
theorem dX5_runGroup_367 : decode cX5_runGroup 367 = .ok (.iload_n 1, 1) := by decide +kernel
theorem dX5_runGroup_368 : decode cX5_runGroup 368 = .ok (.bipush 100, 2) := by decide +kernel
theorem dX5_runGroup_370 : decode cX5_runGroup 370 = .ok (.irem, 1) := by decide +kernel
theorem dX5_runGroup_371 : decode cX5_runGroup 371 = .ok (.if_icmp .gt 7, 3) := by decide +kernel
theorem dX5_runGroup_374 : decode cX5_runGroup 374 = .ok (.iconst 1, 1) := by decide +kernel
theorem dX5_runGroup_375 : decode cX5_runGroup 375 = .ok (.goto 4, 3) := by decide +kernel
theorem dX5_runGroup_378 : decode cX5_runGroup 378 = .ok (.iconst 0, 1) := by decide +kernel
theorem dX5_runGroup_379 : decode cX5_runGroup 379 = .ok (.ireturn, 1) := by decide +kernel
theorem dX5_runGroup_380 : decode cX5_runGroup 380 = .ok (.iconst 0, 1) := by decide +kernel
theorem dX5_runGroup_381 : decode cX5_runGroup 381 = .ok (.ireturn, 1) := by decide +kernel
theorem dX5_laysWithin_0 : decode cX5_laysWithin 0 = .ok (.iload_n 1, 1) := by decide +kernel
theorem dX5_laysWithin_1 : decode cX5_laysWithin 1 = .ok (.sipush 200, 3) := by decide +kernel
theorem dX5_laysWithin_4 : decode cX5_laysWithin 4 = .ok (.if_icmp .le 5, 3) := by decide +kernel
theorem dX5_laysWithin_7 : decode cX5_laysWithin 7 = .ok (.iconst 0, 1) := by decide +kernel
theorem dX5_laysWithin_8 : decode cX5_laysWithin 8 = .ok (.ireturn, 1) := by decide +kernel
theorem dX5_laysWithin_9 : decode cX5_laysWithin 9 = .ok (.aload_n 0, 1) := by decide +kernel
theorem dX5_laysWithin_10 : decode cX5_laysWithin 10 = .ok (.getfield 42, 3) := by decide +kernel
theorem dX5_laysWithin_13 : decode cX5_laysWithin 13 = .ok (.iload_n 1, 1) := by decide +kernel
theorem dX5_laysWithin_14 : decode cX5_laysWithin 14 = .ok (.aload_n 3, 1) := by decide +kernel
theorem dX5_laysWithin_15 : decode cX5_laysWithin 15 = .ok (.invokevirtual 107, 3) := by decide +kernel
theorem dX5_laysWithin_18 : decode cX5_laysWithin 18 = .ok (.invokevirtual 234, 3) := by decide +kernel
theorem dX5_laysWithin_21 : decode cX5_laysWithin 21 = .ok (.istore 4, 2) := by decide +kernel
theorem dX5_laysWithin_23 : decode cX5_laysWithin 23 = .ok (.iload 4, 2) := by decide +kernel
theorem dX5_laysWithin_25 : decode cX5_laysWithin 25 = .ok (.iconst (-1), 1) := by decide +kernel
theorem dX5_laysWithin_26 : decode cX5_laysWithin 26 = .ok (.if_icmp .eq 13, 3) := by decide +kernel
theorem dX5_laysWithin_29 : decode cX5_laysWithin 29 = .ok (.iload 4, 2) := by decide +kernel
theorem dX5_laysWithin_31 : decode cX5_laysWithin 31 = .ok (.iload_n 2, 1) := by decide +kernel
theorem dX5_laysWithin_32 : decode cX5_laysWithin 32 = .ok (.if_icmp .gt 7, 3) := by decide +kernel
theorem dX5_laysWithin_35 : decode cX5_laysWithin 35 = .ok (.iconst 1, 1) := by decide +kernel
theorem dX5_laysWithin_36 : decode cX5_laysWithin 36 = .ok (.goto 4, 3) := by decide +kernel
theorem dX5_laysWithin_39 : decode cX5_laysWithin 39 = .ok (.iconst 0, 1) := by decide +kernel
theorem dX5_laysWithin_40 : decode cX5_laysWithin 40 = .ok (.ireturn, 1) := by decide +kernel
theorem dX5_marksAs_0 : decode cX5_marksAs 0 = .ok (.aload_n 3, 1) := by decide +kernel
theorem dX5_marksAs_1 : decode cX5_marksAs 1 = .ok (.iload_n 0, 1) := by decide +kernel
theorem dX5_marksAs_2 : decode cX5_marksAs 2 = .ok (.iload_n 1, 1) := by decide +kernel
theorem dX5_marksAs_3 : decode cX5_marksAs 3 = .ok (.invokevirtual 161, 3) := by decide +kernel
theorem dX5_marksAs_6 : decode cX5_marksAs 6 = .ok (.ifCond .eq 17, 3) := by decide +kernel
theorem dX5_marksAs_9 : decode cX5_marksAs 9 = .ok (.aload_n 3, 1) := by decide +kernel
theorem dX5_marksAs_10 : decode cX5_marksAs 10 = .ok (.iload_n 0, 1) := by decide +kernel
theorem dX5_marksAs_11 : decode cX5_marksAs 11 = .ok (.iload_n 1, 1) := by decide +kernel
theorem dX5_marksAs_12 : decode cX5_marksAs 12 = .ok (.invokevirtual 170, 3) := by decide +kernel
theorem dX5_marksAs_15 : decode cX5_marksAs 15 = .ok (.iload_n 2, 1) := by decide +kernel
theorem dX5_marksAs_16 : decode cX5_marksAs 16 = .ok (.if_icmp .ne 7, 3) := by decide +kernel
theorem dX5_marksAs_19 : decode cX5_marksAs 19 = .ok (.iconst 1, 1) := by decide +kernel
theorem dX5_marksAs_20 : decode cX5_marksAs 20 = .ok (.goto 4, 3) := by decide +kernel
theorem dX5_marksAs_23 : decode cX5_marksAs 23 = .ok (.iconst 0, 1) := by decide +kernel
theorem dX5_marksAs_24 : decode cX5_marksAs 24 = .ok (.ireturn, 1) := by decide +kernel
theorem dX5_takeTurn_0 : decode cX5_takeTurn 0 = .ok (.iload_n 0, 1) := by decide +kernel
theorem dX5_takeTurn_1 : decode cX5_takeTurn 1 = .ok (.bipush 8, 2) := by decide +kernel
theorem dX5_takeTurn_3 : decode cX5_takeTurn 3 = .ok (.idiv, 1) := by decide +kernel
theorem dX5_takeTurn_4 : decode cX5_takeTurn 4 = .ok (.istore_n 2, 1) := by decide +kernel
theorem dX5_takeTurn_5 : decode cX5_takeTurn 5 = .ok (.iload_n 0, 1) := by decide +kernel
theorem dX5_takeTurn_6 : decode cX5_takeTurn 6 = .ok (.bipush 8, 2) := by decide +kernel
theorem dX5_takeTurn_8 : decode cX5_takeTurn 8 = .ok (.irem, 1) := by decide +kernel
theorem dX5_takeTurn_9 : decode cX5_takeTurn 9 = .ok (.tableswitch 147 0 7 #[47, 147, 147, 147, 147, 64, 85, 99], 47) := by decide +kernel
theorem dX5_takeTurn_56 : decode cX5_takeTurn 56 = .ok (.aload_n 1, 1) := by decide +kernel
theorem dX5_takeTurn_57 : decode cX5_takeTurn 57 = .ok (.iconst 1, 1) := by decide +kernel
theorem dX5_takeTurn_58 : decode cX5_takeTurn 58 = .ok (.iconst 2, 1) := by decide +kernel
theorem dX5_takeTurn_59 : decode cX5_takeTurn 59 = .ok (.iload_n 2, 1) := by decide +kernel
theorem dX5_takeTurn_60 : decode cX5_takeTurn 60 = .ok (.bipush 39, 2) := by decide +kernel
theorem dX5_takeTurn_62 : decode cX5_takeTurn 62 = .ok (.irem, 1) := by decide +kernel
theorem dX5_takeTurn_63 : decode cX5_takeTurn 63 = .ok (.iadd, 1) := by decide +kernel
theorem dX5_takeTurn_64 : decode cX5_takeTurn 64 = .ok (.iconst 0, 1) := by decide +kernel
theorem dX5_takeTurn_65 : decode cX5_takeTurn 65 = .ok (.iconst 0, 1) := by decide +kernel
theorem dX5_takeTurn_66 : decode cX5_takeTurn 66 = .ok (.invokevirtual 326, 3) := by decide +kernel
theorem dX5_takeTurn_69 : decode cX5_takeTurn 69 = .ok (.pop, 1) := by decide +kernel
theorem dX5_takeTurn_70 : decode cX5_takeTurn 70 = .ok (.goto 116, 3) := by decide +kernel
theorem dX5_takeTurn_73 : decode cX5_takeTurn 73 = .ok (.aload_n 1, 1) := by decide +kernel
theorem dX5_takeTurn_74 : decode cX5_takeTurn 74 = .ok (.iconst 3, 1) := by decide +kernel
theorem dX5_takeTurn_75 : decode cX5_takeTurn 75 = .ok (.iload_n 2, 1) := by decide +kernel
theorem dX5_takeTurn_76 : decode cX5_takeTurn 76 = .ok (.iconst 4, 1) := by decide +kernel
theorem dX5_takeTurn_77 : decode cX5_takeTurn 77 = .ok (.irem, 1) := by decide +kernel
theorem dX5_takeTurn_78 : decode cX5_takeTurn 78 = .ok (.iconst 2, 1) := by decide +kernel
theorem dX5_takeTurn_79 : decode cX5_takeTurn 79 = .ok (.iload_n 2, 1) := by decide +kernel
theorem dX5_takeTurn_80 : decode cX5_takeTurn 80 = .ok (.iconst 4, 1) := by decide +kernel
theorem dX5_takeTurn_81 : decode cX5_takeTurn 81 = .ok (.idiv, 1) := by decide +kernel
theorem dX5_takeTurn_82 : decode cX5_takeTurn 82 = .ok (.bipush 39, 2) := by decide +kernel
theorem dX5_takeTurn_84 : decode cX5_takeTurn 84 = .ok (.irem, 1) := by decide +kernel
theorem dX5_takeTurn_85 : decode cX5_takeTurn 85 = .ok (.iadd, 1) := by decide +kernel
theorem dX5_takeTurn_86 : decode cX5_takeTurn 86 = .ok (.iconst 0, 1) := by decide +kernel
theorem dX5_takeTurn_87 : decode cX5_takeTurn 87 = .ok (.invokevirtual 326, 3) := by decide +kernel
theorem dX5_takeTurn_90 : decode cX5_takeTurn 90 = .ok (.pop, 1) := by decide +kernel
theorem dX5_takeTurn_91 : decode cX5_takeTurn 91 = .ok (.goto 95, 3) := by decide +kernel
theorem dX5_takeTurn_94 : decode cX5_takeTurn 94 = .ok (.aload_n 1, 1) := by decide +kernel
theorem dX5_takeTurn_95 : decode cX5_takeTurn 95 = .ok (.iconst 4, 1) := by decide +kernel
theorem dX5_takeTurn_96 : decode cX5_takeTurn 96 = .ok (.iload_n 2, 1) := by decide +kernel
theorem dX5_takeTurn_97 : decode cX5_takeTurn 97 = .ok (.iconst 4, 1) := by decide +kernel
theorem dX5_takeTurn_98 : decode cX5_takeTurn 98 = .ok (.irem, 1) := by decide +kernel
theorem dX5_takeTurn_99 : decode cX5_takeTurn 99 = .ok (.iconst 0, 1) := by decide +kernel
theorem dX5_takeTurn_100 : decode cX5_takeTurn 100 = .ok (.iconst 0, 1) := by decide +kernel
theorem dX5_takeTurn_101 : decode cX5_takeTurn 101 = .ok (.invokevirtual 326, 3) := by decide +kernel
theorem dX5_takeTurn_104 : decode cX5_takeTurn 104 = .ok (.pop, 1) := by decide +kernel
theorem dX5_takeTurn_105 : decode cX5_takeTurn 105 = .ok (.goto 81, 3) := by decide +kernel
theorem dX5_takeTurn_108 : decode cX5_takeTurn 108 = .ok (.iload_n 2, 1) := by decide +kernel
theorem dX5_takeTurn_109 : decode cX5_takeTurn 109 = .ok (.bipush 8, 2) := by decide +kernel
theorem dX5_takeTurn_111 : decode cX5_takeTurn 111 = .ok (.idiv, 1) := by decide +kernel
theorem dX5_takeTurn_112 : decode cX5_takeTurn 112 = .ok (.iconst 2, 1) := by decide +kernel
theorem dX5_takeTurn_113 : decode cX5_takeTurn 113 = .ok (.irem, 1) := by decide +kernel
theorem dX5_takeTurn_114 : decode cX5_takeTurn 114 = .ok (.ifCond .ne 20, 3) := by decide +kernel
theorem dX5_takeTurn_117 : decode cX5_takeTurn 117 = .ok (.aload_n 1, 1) := by decide +kernel
theorem dX5_takeTurn_118 : decode cX5_takeTurn 118 = .ok (.iconst 5, 1) := by decide +kernel
theorem dX5_takeTurn_119 : decode cX5_takeTurn 119 = .ok (.iconst 0, 1) := by decide +kernel
theorem dX5_takeTurn_120 : decode cX5_takeTurn 120 = .ok (.iconst 1, 1) := by decide +kernel
theorem dX5_takeTurn_121 : decode cX5_takeTurn 121 = .ok (.iload_n 2, 1) := by decide +kernel
theorem dX5_takeTurn_122 : decode cX5_takeTurn 122 = .ok (.bipush 6, 2) := by decide +kernel
theorem dX5_takeTurn_124 : decode cX5_takeTurn 124 = .ok (.irem, 1) := by decide +kernel
theorem dX5_takeTurn_125 : decode cX5_takeTurn 125 = .ok (.iadd, 1) := by decide +kernel
theorem dX5_takeTurn_126 : decode cX5_takeTurn 126 = .ok (.iconst 0, 1) := by decide +kernel
theorem dX5_takeTurn_127 : decode cX5_takeTurn 127 = .ok (.invokevirtual 326, 3) := by decide +kernel
theorem dX5_takeTurn_130 : decode cX5_takeTurn 130 = .ok (.pop, 1) := by decide +kernel
theorem dX5_takeTurn_131 : decode cX5_takeTurn 131 = .ok (.goto 55, 3) := by decide +kernel
theorem dX5_takeTurn_134 : decode cX5_takeTurn 134 = .ok (.aload_n 1, 1) := by decide +kernel
theorem dX5_takeTurn_135 : decode cX5_takeTurn 135 = .ok (.iconst 5, 1) := by decide +kernel
theorem dX5_takeTurn_136 : decode cX5_takeTurn 136 = .ok (.iconst 1, 1) := by decide +kernel
theorem dX5_takeTurn_137 : decode cX5_takeTurn 137 = .ok (.bipush 10, 2) := by decide +kernel
theorem dX5_takeTurn_139 : decode cX5_takeTurn 139 = .ok (.iload_n 2, 1) := by decide +kernel
theorem dX5_takeTurn_140 : decode cX5_takeTurn 140 = .ok (.bipush 16, 2) := by decide +kernel
theorem dX5_takeTurn_142 : decode cX5_takeTurn 142 = .ok (.idiv, 1) := by decide +kernel
theorem dX5_takeTurn_143 : decode cX5_takeTurn 143 = .ok (.sipush 141, 3) := by decide +kernel
theorem dX5_takeTurn_146 : decode cX5_takeTurn 146 = .ok (.irem, 1) := by decide +kernel
theorem dX5_takeTurn_147 : decode cX5_takeTurn 147 = .ok (.iadd, 1) := by decide +kernel
theorem dX5_takeTurn_148 : decode cX5_takeTurn 148 = .ok (.iconst 0, 1) := by decide +kernel
theorem dX5_takeTurn_149 : decode cX5_takeTurn 149 = .ok (.invokevirtual 326, 3) := by decide +kernel
theorem dX5_takeTurn_152 : decode cX5_takeTurn 152 = .ok (.pop, 1) := by decide +kernel
theorem dX5_takeTurn_153 : decode cX5_takeTurn 153 = .ok (.goto 33, 3) := by decide +kernel
theorem dX5_takeTurn_156 : decode cX5_takeTurn 156 = .ok (.aload_n 1, 1) := by decide +kernel
theorem dX5_takeTurn_157 : decode cX5_takeTurn 157 = .ok (.iconst 2, 1) := by decide +kernel
theorem dX5_takeTurn_158 : decode cX5_takeTurn 158 = .ok (.iload_n 2, 1) := by decide +kernel
theorem dX5_takeTurn_159 : decode cX5_takeTurn 159 = .ok (.iconst 4, 1) := by decide +kernel
theorem dX5_takeTurn_160 : decode cX5_takeTurn 160 = .ok (.irem, 1) := by decide +kernel
theorem dX5_takeTurn_161 : decode cX5_takeTurn 161 = .ok (.iload_n 2, 1) := by decide +kernel
theorem dX5_takeTurn_162 : decode cX5_takeTurn 162 = .ok (.iconst 4, 1) := by decide +kernel
theorem dX5_takeTurn_163 : decode cX5_takeTurn 163 = .ok (.idiv, 1) := by decide +kernel
theorem dX5_takeTurn_164 : decode cX5_takeTurn 164 = .ok (.bipush 41, 2) := by decide +kernel
theorem dX5_takeTurn_166 : decode cX5_takeTurn 166 = .ok (.irem, 1) := by decide +kernel
theorem dX5_takeTurn_167 : decode cX5_takeTurn 167 = .ok (.iload_n 2, 1) := by decide +kernel
theorem dX5_takeTurn_168 : decode cX5_takeTurn 168 = .ok (.sipush 256, 3) := by decide +kernel
theorem dX5_takeTurn_171 : decode cX5_takeTurn 171 = .ok (.idiv, 1) := by decide +kernel
theorem dX5_takeTurn_172 : decode cX5_takeTurn 172 = .ok (.iconst 4, 1) := by decide +kernel
theorem dX5_takeTurn_173 : decode cX5_takeTurn 173 = .ok (.irem, 1) := by decide +kernel
theorem dX5_takeTurn_174 : decode cX5_takeTurn 174 = .ok (.ifCond .eq 7, 3) := by decide +kernel
theorem dX5_takeTurn_177 : decode cX5_takeTurn 177 = .ok (.iconst 1, 1) := by decide +kernel
theorem dX5_takeTurn_178 : decode cX5_takeTurn 178 = .ok (.goto 4, 3) := by decide +kernel
theorem dX5_takeTurn_181 : decode cX5_takeTurn 181 = .ok (.iconst 0, 1) := by decide +kernel
theorem dX5_takeTurn_182 : decode cX5_takeTurn 182 = .ok (.invokevirtual 326, 3) := by decide +kernel
theorem dX5_takeTurn_185 : decode cX5_takeTurn 185 = .ok (.pop, 1) := by decide +kernel
theorem dX5_takeTurn_186 : decode cX5_takeTurn 186 = .ok (.return_, 1) := by decide +kernel
theorem dX5_save_0 : decode cX5_save 0 = .ok (.iload_n 1, 1) := by decide +kernel
theorem dX5_save_1 : decode cX5_save 1 = .ok (.invokestatic 338, 3) := by decide +kernel
theorem dX5_save_4 : decode cX5_save 4 = .ok (.iload_n 1, 1) := by decide +kernel
theorem dX5_save_5 : decode cX5_save 5 = .ok (.ifCond .ne 22, 3) := by decide +kernel
theorem dX5_save_8 : decode cX5_save 8 = .ok (.aload_n 0, 1) := by decide +kernel
theorem dX5_save_9 : decode cX5_save 9 = .ok (.getfield 19, 3) := by decide +kernel
theorem dX5_save_12 : decode cX5_save 12 = .ok (.aload_n 0, 1) := by decide +kernel
theorem dX5_save_13 : decode cX5_save 13 = .ok (.getfield 10, 3) := by decide +kernel
theorem dX5_save_16 : decode cX5_save 16 = .ok (.invokevirtual 305, 3) := by decide +kernel
theorem dX5_save_19 : decode cX5_save 19 = .ok (.aload_n 0, 1) := by decide +kernel
theorem dX5_save_20 : decode cX5_save 20 = .ok (.iconst 1, 1) := by decide +kernel
theorem dX5_save_21 : decode cX5_save 21 = .ok (.putfield 87, 3) := by decide +kernel
theorem dX5_save_24 : decode cX5_save 24 = .ok (.goto 19, 3) := by decide +kernel
theorem dX5_save_27 : decode cX5_save 27 = .ok (.aload_n 0, 1) := by decide +kernel
theorem dX5_save_28 : decode cX5_save 28 = .ok (.getfield 22, 3) := by decide +kernel
theorem dX5_save_31 : decode cX5_save 31 = .ok (.aload_n 0, 1) := by decide +kernel
theorem dX5_save_32 : decode cX5_save 32 = .ok (.getfield 10, 3) := by decide +kernel
theorem dX5_save_35 : decode cX5_save 35 = .ok (.invokevirtual 305, 3) := by decide +kernel
theorem dX5_save_38 : decode cX5_save 38 = .ok (.aload_n 0, 1) := by decide +kernel
theorem dX5_save_39 : decode cX5_save 39 = .ok (.iconst 1, 1) := by decide +kernel
theorem dX5_save_40 : decode cX5_save 40 = .ok (.putfield 91, 3) := by decide +kernel
theorem dX5_save_43 : decode cX5_save 43 = .ok (.aload_n 0, 1) := by decide +kernel
theorem dX5_save_44 : decode cX5_save 44 = .ok (.getfield 10, 3) := by decide +kernel
theorem dX5_save_47 : decode cX5_save 47 = .ok (.invokevirtual 98, 3) := by decide +kernel
theorem dX5_save_50 : decode cX5_save 50 = .ok (.ireturn, 1) := by decide +kernel
theorem dX5_restore_0 : decode cX5_restore 0 = .ok (.iload_n 1, 1) := by decide +kernel
theorem dX5_restore_1 : decode cX5_restore 1 = .ok (.invokestatic 338, 3) := by decide +kernel
theorem dX5_restore_4 : decode cX5_restore 4 = .ok (.iload_n 1, 1) := by decide +kernel
theorem dX5_restore_5 : decode cX5_restore 5 = .ok (.ifCond .ne 13, 3) := by decide +kernel
theorem dX5_restore_8 : decode cX5_restore 8 = .ok (.aload_n 0, 1) := by decide +kernel
theorem dX5_restore_9 : decode cX5_restore 9 = .ok (.getfield 87, 3) := by decide +kernel
theorem dX5_restore_12 : decode cX5_restore 12 = .ok (.ifCond .eq 13, 3) := by decide +kernel
theorem dX5_restore_15 : decode cX5_restore 15 = .ok (.goto 21, 3) := by decide +kernel
theorem dX5_restore_18 : decode cX5_restore 18 = .ok (.aload_n 0, 1) := by decide +kernel
theorem dX5_restore_19 : decode cX5_restore 19 = .ok (.getfield 91, 3) := by decide +kernel
theorem dX5_restore_22 : decode cX5_restore 22 = .ok (.ifCond .ne 14, 3) := by decide +kernel
theorem dX5_restore_25 : decode cX5_restore 25 = .ok (.new 64, 3) := by decide +kernel
theorem dX5_restore_28 : decode cX5_restore 28 = .ok (.dup, 1) := by decide +kernel
theorem dX5_restore_29 : decode cX5_restore 29 = .ok (.ldc_w 341, 3) := by decide +kernel
theorem dX5_restore_32 : decode cX5_restore 32 = .ok (.invokespecial 68, 3) := by decide +kernel
theorem dX5_restore_35 : decode cX5_restore 35 = .ok (.athrow, 1) := by decide +kernel
theorem dX5_restore_36 : decode cX5_restore 36 = .ok (.aload_n 0, 1) := by decide +kernel
theorem dX5_restore_37 : decode cX5_restore 37 = .ok (.getfield 10, 3) := by decide +kernel
theorem dX5_restore_40 : decode cX5_restore 40 = .ok (.iload_n 1, 1) := by decide +kernel
theorem dX5_restore_41 : decode cX5_restore 41 = .ok (.ifCond .ne 10, 3) := by decide +kernel
theorem dX5_restore_44 : decode cX5_restore 44 = .ok (.aload_n 0, 1) := by decide +kernel
theorem dX5_restore_45 : decode cX5_restore 45 = .ok (.getfield 19, 3) := by decide +kernel
theorem dX5_restore_48 : decode cX5_restore 48 = .ok (.goto 7, 3) := by decide +kernel
theorem dX5_restore_51 : decode cX5_restore 51 = .ok (.aload_n 0, 1) := by decide +kernel
theorem dX5_restore_52 : decode cX5_restore 52 = .ok (.getfield 22, 3) := by decide +kernel
theorem dX5_restore_55 : decode cX5_restore 55 = .ok (.invokevirtual 305, 3) := by decide +kernel
theorem dX5_restore_58 : decode cX5_restore 58 = .ok (.aload_n 0, 1) := by decide +kernel
theorem dX5_restore_59 : decode cX5_restore 59 = .ok (.getfield 28, 3) := by decide +kernel
theorem dX5_restore_62 : decode cX5_restore 62 = .ok (.invokevirtual 84, 3) := by decide +kernel
theorem dX5_restore_65 : decode cX5_restore 65 = .ok (.aload_n 0, 1) := by decide +kernel
theorem dX5_restore_66 : decode cX5_restore 66 = .ok (.getfield 10, 3) := by decide +kernel
theorem dX5_restore_69 : decode cX5_restore 69 = .ok (.invokevirtual 98, 3) := by decide +kernel
theorem dX5_restore_72 : decode cX5_restore 72 = .ok (.ireturn, 1) := by decide +kernel
theorem dX5_checkSlot_0 : decode cX5_checkSlot 0 = .ok (.iload_n 0, 1) := by decide +kernel
theorem dX5_checkSlot_1 : decode cX5_checkSlot 1 = .ok (.ifCond .eq 19, 3) := by decide +kernel
theorem dX5_checkSlot_4 : decode cX5_checkSlot 4 = .ok (.iload_n 0, 1) := by decide +kernel
theorem dX5_checkSlot_5 : decode cX5_checkSlot 5 = .ok (.iconst 1, 1) := by decide +kernel
theorem dX5_checkSlot_6 : decode cX5_checkSlot 6 = .ok (.if_icmp .eq 14, 3) := by decide +kernel
theorem dX5_checkSlot_9 : decode cX5_checkSlot 9 = .ok (.new 165, 3) := by decide +kernel
theorem dX5_checkSlot_12 : decode cX5_checkSlot 12 = .ok (.dup, 1) := by decide +kernel
theorem dX5_checkSlot_13 : decode cX5_checkSlot 13 = .ok (.ldc_w 343, 3) := by decide +kernel
theorem dX5_checkSlot_16 : decode cX5_checkSlot 16 = .ok (.invokespecial 169, 3) := by decide +kernel
theorem dX5_checkSlot_19 : decode cX5_checkSlot 19 = .ok (.athrow, 1) := by decide +kernel
theorem dX5_checkSlot_20 : decode cX5_checkSlot 20 = .ok (.return_, 1) := by decide +kernel
theorem dX5_hasBit_0 : decode cX5_hasBit 0 = .ok (.iload_n 2, 1) := by decide +kernel
theorem dX5_hasBit_1 : decode cX5_hasBit 1 = .ok (.ifCond .lt 23, 3) := by decide +kernel
theorem dX5_hasBit_4 : decode cX5_hasBit 4 = .ok (.iload_n 2, 1) := by decide +kernel
theorem dX5_hasBit_5 : decode cX5_hasBit 5 = .ok (.bipush 64, 2) := by decide +kernel
theorem dX5_hasBit_7 : decode cX5_hasBit 7 = .ok (.if_icmp .ge 17, 3) := by decide +kernel
theorem dX5_hasBit_10 : decode cX5_hasBit 10 = .ok (.lload_n 0, 1) := by decide +kernel
theorem dX5_hasBit_11 : decode cX5_hasBit 11 = .ok (.iload_n 2, 1) := by decide +kernel
theorem dX5_hasBit_12 : decode cX5_hasBit 12 = .ok (.lushr, 1) := by decide +kernel
theorem dX5_hasBit_13 : decode cX5_hasBit 13 = .ok (.lconst 1, 1) := by decide +kernel
theorem dX5_hasBit_14 : decode cX5_hasBit 14 = .ok (.land, 1) := by decide +kernel
theorem dX5_hasBit_15 : decode cX5_hasBit 15 = .ok (.lconst 0, 1) := by decide +kernel
theorem dX5_hasBit_16 : decode cX5_hasBit 16 = .ok (.lcmp, 1) := by decide +kernel
theorem dX5_hasBit_17 : decode cX5_hasBit 17 = .ok (.ifCond .eq 7, 3) := by decide +kernel
theorem dX5_hasBit_20 : decode cX5_hasBit 20 = .ok (.iconst 1, 1) := by decide +kernel
theorem dX5_hasBit_21 : decode cX5_hasBit 21 = .ok (.goto 4, 3) := by decide +kernel
theorem dX5_hasBit_24 : decode cX5_hasBit 24 = .ok (.iconst 0, 1) := by decide +kernel
theorem dX5_hasBit_25 : decode cX5_hasBit 25 = .ok (.ireturn, 1) := by decide +kernel
theorem dX5_lowest_0 : decode cX5_lowest 0 = .ok (.iconst 0, 1) := by decide +kernel
theorem dX5_lowest_1 : decode cX5_lowest 1 = .ok (.istore_n 2, 1) := by decide +kernel
theorem dX5_lowest_2 : decode cX5_lowest 2 = .ok (.iload_n 2, 1) := by decide +kernel
theorem dX5_lowest_3 : decode cX5_lowest 3 = .ok (.bipush 64, 2) := by decide +kernel
theorem dX5_lowest_5 : decode cX5_lowest 5 = .ok (.if_icmp .ge 19, 3) := by decide +kernel
theorem dX5_lowest_8 : decode cX5_lowest 8 = .ok (.lload_n 0, 1) := by decide +kernel
theorem dX5_lowest_9 : decode cX5_lowest 9 = .ok (.iload_n 2, 1) := by decide +kernel
theorem dX5_lowest_10 : decode cX5_lowest 10 = .ok (.invokestatic 345, 3) := by decide +kernel
theorem dX5_lowest_13 : decode cX5_lowest 13 = .ok (.ifCond .eq 5, 3) := by decide +kernel
theorem dX5_lowest_16 : decode cX5_lowest 16 = .ok (.iload_n 2, 1) := by decide +kernel
theorem dX5_lowest_17 : decode cX5_lowest 17 = .ok (.ireturn, 1) := by decide +kernel
theorem dX5_lowest_18 : decode cX5_lowest 18 = .ok (.iinc 2 1, 3) := by decide +kernel
theorem dX5_lowest_21 : decode cX5_lowest 21 = .ok (.goto (-19), 3) := by decide +kernel
theorem dX5_lowest_24 : decode cX5_lowest 24 = .ok (.iconst (-1), 1) := by decide +kernel
theorem dX5_lowest_25 : decode cX5_lowest 25 = .ok (.ireturn, 1) := by decide +kernel
theorem dX5_reversed_0 : decode cX5_reversed 0 = .ok (.lconst 0, 1) := by decide +kernel
theorem dX5_reversed_1 : decode cX5_reversed 1 = .ok (.lstore_n 3, 1) := by decide +kernel
theorem dX5_reversed_2 : decode cX5_reversed 2 = .ok (.iconst 0, 1) := by decide +kernel
theorem dX5_reversed_3 : decode cX5_reversed 3 = .ok (.istore 5, 2) := by decide +kernel
theorem dX5_reversed_5 : decode cX5_reversed 5 = .ok (.iload 5, 2) := by decide +kernel
theorem dX5_reversed_7 : decode cX5_reversed 7 = .ok (.iload_n 2, 1) := by decide +kernel
theorem dX5_reversed_8 : decode cX5_reversed 8 = .ok (.if_icmp .gt 34, 3) := by decide +kernel
theorem dX5_reversed_11 : decode cX5_reversed 11 = .ok (.iload 5, 2) := by decide +kernel
theorem dX5_reversed_13 : decode cX5_reversed 13 = .ok (.bipush 40, 2) := by decide +kernel
theorem dX5_reversed_15 : decode cX5_reversed 15 = .ok (.if_icmp .gt 27, 3) := by decide +kernel
theorem dX5_reversed_18 : decode cX5_reversed 18 = .ok (.lload_n 0, 1) := by decide +kernel
theorem dX5_reversed_19 : decode cX5_reversed 19 = .ok (.iload 5, 2) := by decide +kernel
theorem dX5_reversed_21 : decode cX5_reversed 21 = .ok (.invokestatic 345, 3) := by decide +kernel
theorem dX5_reversed_24 : decode cX5_reversed 24 = .ok (.ifCond .eq 12, 3) := by decide +kernel
theorem dX5_reversed_27 : decode cX5_reversed 27 = .ok (.lload_n 3, 1) := by decide +kernel
theorem dX5_reversed_28 : decode cX5_reversed 28 = .ok (.lconst 1, 1) := by decide +kernel
theorem dX5_reversed_29 : decode cX5_reversed 29 = .ok (.iload_n 2, 1) := by decide +kernel
theorem dX5_reversed_30 : decode cX5_reversed 30 = .ok (.iload 5, 2) := by decide +kernel
theorem dX5_reversed_32 : decode cX5_reversed 32 = .ok (.isub, 1) := by decide +kernel
theorem dX5_reversed_33 : decode cX5_reversed 33 = .ok (.lshl, 1) := by decide +kernel
theorem dX5_reversed_34 : decode cX5_reversed 34 = .ok (.lor, 1) := by decide +kernel
theorem dX5_reversed_35 : decode cX5_reversed 35 = .ok (.lstore_n 3, 1) := by decide +kernel
theorem dX5_reversed_36 : decode cX5_reversed 36 = .ok (.iinc 5 1, 3) := by decide +kernel
theorem dX5_reversed_39 : decode cX5_reversed 39 = .ok (.goto (-34), 3) := by decide +kernel
theorem dX5_reversed_42 : decode cX5_reversed 42 = .ok (.lload_n 3, 1) := by decide +kernel
theorem dX5_reversed_43 : decode cX5_reversed 43 = .ok (.lreturn, 1) := by decide +kernel
theorem dX5_pairsApart_0 : decode cX5_pairsApart 0 = .ok (.lload_n 0, 1) := by decide +kernel
theorem dX5_pairsApart_1 : decode cX5_pairsApart 1 = .ok (.lload_n 0, 1) := by decide +kernel
theorem dX5_pairsApart_2 : decode cX5_pairsApart 2 = .ok (.iload_n 2, 1) := by decide +kernel
theorem dX5_pairsApart_3 : decode cX5_pairsApart 3 = .ok (.lushr, 1) := by decide +kernel
theorem dX5_pairsApart_4 : decode cX5_pairsApart 4 = .ok (.land, 1) := by decide +kernel
theorem dX5_pairsApart_5 : decode cX5_pairsApart 5 = .ok (.invokestatic 111, 3) := by decide +kernel
theorem dX5_pairsApart_8 : decode cX5_pairsApart 8 = .ok (.ireturn, 1) := by decide +kernel
theorem dX5_spreadOf_0 : decode cX5_spreadOf 0 = .ok (.lconst 0, 1) := by decide +kernel
theorem dX5_spreadOf_1 : decode cX5_spreadOf 1 = .ok (.lstore_n 2, 1) := by decide +kernel
theorem dX5_spreadOf_2 : decode cX5_spreadOf 2 = .ok (.iconst 1, 1) := by decide +kernel
theorem dX5_spreadOf_3 : decode cX5_spreadOf 3 = .ok (.istore 4, 2) := by decide +kernel
theorem dX5_spreadOf_5 : decode cX5_spreadOf 5 = .ok (.iload 4, 2) := by decide +kernel
theorem dX5_spreadOf_7 : decode cX5_spreadOf 7 = .ok (.bipush 40, 2) := by decide +kernel
theorem dX5_spreadOf_9 : decode cX5_spreadOf 9 = .ok (.if_icmp .gt 27, 3) := by decide +kernel
theorem dX5_spreadOf_12 : decode cX5_spreadOf 12 = .ok (.lload_n 0, 1) := by decide +kernel
theorem dX5_spreadOf_13 : decode cX5_spreadOf 13 = .ok (.lload_n 0, 1) := by decide +kernel
theorem dX5_spreadOf_14 : decode cX5_spreadOf 14 = .ok (.iload 4, 2) := by decide +kernel
theorem dX5_spreadOf_16 : decode cX5_spreadOf 16 = .ok (.lushr, 1) := by decide +kernel
theorem dX5_spreadOf_17 : decode cX5_spreadOf 17 = .ok (.land, 1) := by decide +kernel
theorem dX5_spreadOf_18 : decode cX5_spreadOf 18 = .ok (.lconst 0, 1) := by decide +kernel
theorem dX5_spreadOf_19 : decode cX5_spreadOf 19 = .ok (.lcmp, 1) := by decide +kernel
theorem dX5_spreadOf_20 : decode cX5_spreadOf 20 = .ok (.ifCond .eq 10, 3) := by decide +kernel
theorem dX5_spreadOf_23 : decode cX5_spreadOf 23 = .ok (.lload_n 2, 1) := by decide +kernel
theorem dX5_spreadOf_24 : decode cX5_spreadOf 24 = .ok (.lconst 1, 1) := by decide +kernel
theorem dX5_spreadOf_25 : decode cX5_spreadOf 25 = .ok (.iload 4, 2) := by decide +kernel
theorem dX5_spreadOf_27 : decode cX5_spreadOf 27 = .ok (.lshl, 1) := by decide +kernel
theorem dX5_spreadOf_28 : decode cX5_spreadOf 28 = .ok (.lor, 1) := by decide +kernel
theorem dX5_spreadOf_29 : decode cX5_spreadOf 29 = .ok (.lstore_n 2, 1) := by decide +kernel
theorem dX5_spreadOf_30 : decode cX5_spreadOf 30 = .ok (.iinc 4 1, 3) := by decide +kernel
theorem dX5_spreadOf_33 : decode cX5_spreadOf 33 = .ok (.goto (-28), 3) := by decide +kernel
theorem dX5_spreadOf_36 : decode cX5_spreadOf 36 = .ok (.lload_n 2, 1) := by decide +kernel
theorem dX5_spreadOf_37 : decode cX5_spreadOf 37 = .ok (.lreturn, 1) := by decide +kernel
theorem dX5_commonest_0 : decode cX5_commonest 0 = .ok (.iconst 0, 1) := by decide +kernel
theorem dX5_commonest_1 : decode cX5_commonest 1 = .ok (.istore_n 2, 1) := by decide +kernel
theorem dX5_commonest_2 : decode cX5_commonest 2 = .ok (.iconst 0, 1) := by decide +kernel
theorem dX5_commonest_3 : decode cX5_commonest 3 = .ok (.istore_n 3, 1) := by decide +kernel
theorem dX5_commonest_4 : decode cX5_commonest 4 = .ok (.iconst 1, 1) := by decide +kernel
theorem dX5_commonest_5 : decode cX5_commonest 5 = .ok (.istore 4, 2) := by decide +kernel
theorem dX5_commonest_7 : decode cX5_commonest 7 = .ok (.iload 4, 2) := by decide +kernel
theorem dX5_commonest_9 : decode cX5_commonest 9 = .ok (.bipush 40, 2) := by decide +kernel
theorem dX5_commonest_11 : decode cX5_commonest 11 = .ok (.if_icmp .gt 29, 3) := by decide +kernel
theorem dX5_commonest_14 : decode cX5_commonest 14 = .ok (.lload_n 0, 1) := by decide +kernel
theorem dX5_commonest_15 : decode cX5_commonest 15 = .ok (.iload 4, 2) := by decide +kernel
theorem dX5_commonest_17 : decode cX5_commonest 17 = .ok (.invokestatic 349, 3) := by decide +kernel
theorem dX5_commonest_20 : decode cX5_commonest 20 = .ok (.istore 5, 2) := by decide +kernel
theorem dX5_commonest_22 : decode cX5_commonest 22 = .ok (.iload 5, 2) := by decide +kernel
theorem dX5_commonest_24 : decode cX5_commonest 24 = .ok (.iload_n 3, 1) := by decide +kernel
theorem dX5_commonest_25 : decode cX5_commonest 25 = .ok (.if_icmp .le 9, 3) := by decide +kernel
theorem dX5_commonest_28 : decode cX5_commonest 28 = .ok (.iload 5, 2) := by decide +kernel
theorem dX5_commonest_30 : decode cX5_commonest 30 = .ok (.istore_n 3, 1) := by decide +kernel
theorem dX5_commonest_31 : decode cX5_commonest 31 = .ok (.iload 4, 2) := by decide +kernel
theorem dX5_commonest_33 : decode cX5_commonest 33 = .ok (.istore_n 2, 1) := by decide +kernel
theorem dX5_commonest_34 : decode cX5_commonest 34 = .ok (.iinc 4 1, 3) := by decide +kernel
theorem dX5_commonest_37 : decode cX5_commonest 37 = .ok (.goto (-30), 3) := by decide +kernel
theorem dX5_commonest_40 : decode cX5_commonest 40 = .ok (.iload_n 2, 1) := by decide +kernel
theorem dX5_commonest_41 : decode cX5_commonest 41 = .ok (.ireturn, 1) := by decide +kernel
theorem dX5_leastMissing_0 : decode cX5_leastMissing 0 = .ok (.iconst 1, 1) := by decide +kernel
theorem dX5_leastMissing_1 : decode cX5_leastMissing 1 = .ok (.istore_n 2, 1) := by decide +kernel
theorem dX5_leastMissing_2 : decode cX5_leastMissing 2 = .ok (.iload_n 2, 1) := by decide +kernel
theorem dX5_leastMissing_3 : decode cX5_leastMissing 3 = .ok (.bipush 40, 2) := by decide +kernel
theorem dX5_leastMissing_5 : decode cX5_leastMissing 5 = .ok (.if_icmp .gt 17, 3) := by decide +kernel
theorem dX5_leastMissing_8 : decode cX5_leastMissing 8 = .ok (.lload_n 0, 1) := by decide +kernel
theorem dX5_leastMissing_9 : decode cX5_leastMissing 9 = .ok (.iload_n 2, 1) := by decide +kernel
theorem dX5_leastMissing_10 : decode cX5_leastMissing 10 = .ok (.invokestatic 345, 3) := by decide +kernel
theorem dX5_leastMissing_13 : decode cX5_leastMissing 13 = .ok (.ifCond .eq 9, 3) := by decide +kernel
theorem dX5_leastMissing_16 : decode cX5_leastMissing 16 = .ok (.iinc 2 1, 3) := by decide +kernel
theorem dX5_leastMissing_19 : decode cX5_leastMissing 19 = .ok (.goto (-17), 3) := by decide +kernel
theorem dX5_leastMissing_22 : decode cX5_leastMissing 22 = .ok (.iload_n 2, 1) := by decide +kernel
theorem dX5_leastMissing_23 : decode cX5_leastMissing 23 = .ok (.ireturn, 1) := by decide +kernel
theorem dX5_commonDivisor_0 : decode cX5_commonDivisor 0 = .ok (.lload_n 0, 1) := by decide +kernel
theorem dX5_commonDivisor_1 : decode cX5_commonDivisor 1 = .ok (.lconst 0, 1) := by decide +kernel
theorem dX5_commonDivisor_2 : decode cX5_commonDivisor 2 = .ok (.lcmp, 1) := by decide +kernel
theorem dX5_commonDivisor_3 : decode cX5_commonDivisor 3 = .ok (.ifCond .ne 5, 3) := by decide +kernel
theorem dX5_commonDivisor_6 : decode cX5_commonDivisor 6 = .ok (.iconst 0, 1) := by decide +kernel
theorem dX5_commonDivisor_7 : decode cX5_commonDivisor 7 = .ok (.ireturn, 1) := by decide +kernel
theorem dX5_commonDivisor_8 : decode cX5_commonDivisor 8 = .ok (.bipush 40, 2) := by decide +kernel
theorem dX5_commonDivisor_10 : decode cX5_commonDivisor 10 = .ok (.istore_n 2, 1) := by decide +kernel
theorem dX5_commonDivisor_11 : decode cX5_commonDivisor 11 = .ok (.iload_n 2, 1) := by decide +kernel
theorem dX5_commonDivisor_12 : decode cX5_commonDivisor 12 = .ok (.iconst 1, 1) := by decide +kernel
theorem dX5_commonDivisor_13 : decode cX5_commonDivisor 13 = .ok (.if_icmp .le 19, 3) := by decide +kernel
theorem dX5_commonDivisor_16 : decode cX5_commonDivisor 16 = .ok (.iload_n 2, 1) := by decide +kernel
theorem dX5_commonDivisor_17 : decode cX5_commonDivisor 17 = .ok (.lload_n 0, 1) := by decide +kernel
theorem dX5_commonDivisor_18 : decode cX5_commonDivisor 18 = .ok (.invokestatic 353, 3) := by decide +kernel
theorem dX5_commonDivisor_21 : decode cX5_commonDivisor 21 = .ok (.ifCond .eq 5, 3) := by decide +kernel
theorem dX5_commonDivisor_24 : decode cX5_commonDivisor 24 = .ok (.iload_n 2, 1) := by decide +kernel
theorem dX5_commonDivisor_25 : decode cX5_commonDivisor 25 = .ok (.ireturn, 1) := by decide +kernel
theorem dX5_commonDivisor_26 : decode cX5_commonDivisor 26 = .ok (.iinc 2 (-1), 3) := by decide +kernel
theorem dX5_commonDivisor_29 : decode cX5_commonDivisor 29 = .ok (.goto (-18), 3) := by decide +kernel
theorem dX5_commonDivisor_32 : decode cX5_commonDivisor 32 = .ok (.iconst 1, 1) := by decide +kernel
theorem dX5_commonDivisor_33 : decode cX5_commonDivisor 33 = .ok (.ireturn, 1) := by decide +kernel
theorem dX5_dividesAll_0 : decode cX5_dividesAll 0 = .ok (.iconst 1, 1) := by decide +kernel
theorem dX5_dividesAll_1 : decode cX5_dividesAll 1 = .ok (.istore_n 3, 1) := by decide +kernel
theorem dX5_dividesAll_2 : decode cX5_dividesAll 2 = .ok (.iload_n 3, 1) := by decide +kernel
theorem dX5_dividesAll_3 : decode cX5_dividesAll 3 = .ok (.bipush 40, 2) := by decide +kernel
theorem dX5_dividesAll_5 : decode cX5_dividesAll 5 = .ok (.if_icmp .gt 29, 3) := by decide +kernel
theorem dX5_dividesAll_8 : decode cX5_dividesAll 8 = .ok (.lload_n 1, 1) := by decide +kernel
theorem dX5_dividesAll_9 : decode cX5_dividesAll 9 = .ok (.iload_n 3, 1) := by decide +kernel
theorem dX5_dividesAll_10 : decode cX5_dividesAll 10 = .ok (.invokestatic 345, 3) := by decide +kernel
theorem dX5_dividesAll_13 : decode cX5_dividesAll 13 = .ok (.ifCond .eq 15, 3) := by decide +kernel
theorem dX5_dividesAll_16 : decode cX5_dividesAll 16 = .ok (.iload_n 0, 1) := by decide +kernel
theorem dX5_dividesAll_17 : decode cX5_dividesAll 17 = .ok (.ifCond .le 11, 3) := by decide +kernel
theorem dX5_dividesAll_20 : decode cX5_dividesAll 20 = .ok (.iload_n 3, 1) := by decide +kernel
theorem dX5_dividesAll_21 : decode cX5_dividesAll 21 = .ok (.iload_n 0, 1) := by decide +kernel
theorem dX5_dividesAll_22 : decode cX5_dividesAll 22 = .ok (.irem, 1) := by decide +kernel
theorem dX5_dividesAll_23 : decode cX5_dividesAll 23 = .ok (.ifCond .eq 5, 3) := by decide +kernel
theorem dX5_dividesAll_26 : decode cX5_dividesAll 26 = .ok (.iconst 0, 1) := by decide +kernel
theorem dX5_dividesAll_27 : decode cX5_dividesAll 27 = .ok (.ireturn, 1) := by decide +kernel
theorem dX5_dividesAll_28 : decode cX5_dividesAll 28 = .ok (.iinc 3 1, 3) := by decide +kernel
theorem dX5_dividesAll_31 : decode cX5_dividesAll 31 = .ok (.goto (-29), 3) := by decide +kernel
theorem dX5_dividesAll_34 : decode cX5_dividesAll 34 = .ok (.iconst 1, 1) := by decide +kernel
theorem dX5_dividesAll_35 : decode cX5_dividesAll 35 = .ok (.ireturn, 1) := by decide +kernel
theorem dX6_init_0 : decode cX6_init 0 = .ok (.aload_n 0, 1) := by decide +kernel
theorem dX6_init_1 : decode cX6_init 1 = .ok (.invokespecial 1, 3) := by decide +kernel
theorem dX6_init_4 : decode cX6_init 4 = .ok (.aload_n 0, 1) := by decide +kernel
theorem dX6_init_5 : decode cX6_init 5 = .ok (.bipush 120, 2) := by decide +kernel
theorem dX6_init_7 : decode cX6_init 7 = .ok (.newarray .int, 2) := by decide +kernel
theorem dX6_init_9 : decode cX6_init 9 = .ok (.putfield 7, 3) := by decide +kernel
theorem dX6_init_12 : decode cX6_init 12 = .ok (.aload_n 0, 1) := by decide +kernel
theorem dX6_init_13 : decode cX6_init 13 = .ok (.sipush 171, 3) := by decide +kernel
theorem dX6_init_16 : decode cX6_init 16 = .ok (.newarray .int, 2) := by decide +kernel
theorem dX6_init_18 : decode cX6_init 18 = .ok (.putfield 13, 3) := by decide +kernel
theorem dX6_init_21 : decode cX6_init 21 = .ok (.aload_n 0, 1) := by decide +kernel
theorem dX6_init_22 : decode cX6_init 22 = .ok (.sipush 171, 3) := by decide +kernel
theorem dX6_init_25 : decode cX6_init 25 = .ok (.newarray .int, 2) := by decide +kernel
theorem dX6_init_27 : decode cX6_init 27 = .ok (.putfield 16, 3) := by decide +kernel
theorem dX6_init_30 : decode cX6_init 30 = .ok (.aload_n 0, 1) := by decide +kernel
theorem dX6_init_31 : decode cX6_init 31 = .ok (.sipush 2394, 3) := by decide +kernel
theorem dX6_init_34 : decode cX6_init 34 = .ok (.newarray .int, 2) := by decide +kernel
theorem dX6_init_36 : decode cX6_init 36 = .ok (.putfield 19, 3) := by decide +kernel
theorem dX6_init_39 : decode cX6_init 39 = .ok (.aload_n 0, 1) := by decide +kernel
theorem dX6_init_40 : decode cX6_init 40 = .ok (.sipush 342, 3) := by decide +kernel
theorem dX6_init_43 : decode cX6_init 43 = .ok (.newarray .int, 2) := by decide +kernel
theorem dX6_init_45 : decode cX6_init 45 = .ok (.putfield 22, 3) := by decide +kernel
theorem dX6_init_48 : decode cX6_init 48 = .ok (.aload_n 0, 1) := by decide +kernel
theorem dX6_init_49 : decode cX6_init 49 = .ok (.iconst 2, 1) := by decide +kernel
theorem dX6_init_50 : decode cX6_init 50 = .ok (.newarray .boolean, 2) := by decide +kernel
theorem dX6_init_52 : decode cX6_init 52 = .ok (.putfield 25, 3) := by decide +kernel
theorem dX6_init_55 : decode cX6_init 55 = .ok (.aload_n 0, 1) := by decide +kernel
theorem dX6_init_56 : decode cX6_init 56 = .ok (.bipush 41, 2) := by decide +kernel
theorem dX6_init_58 : decode cX6_init 58 = .ok (.newarray .int, 2) := by decide +kernel
theorem dX6_init_60 : decode cX6_init 60 = .ok (.putfield 29, 3) := by decide +kernel
theorem dX6_init_63 : decode cX6_init 63 = .ok (.aload_n 0, 1) := by decide +kernel
theorem dX6_init_64 : decode cX6_init 64 = .ok (.sipush 201, 3) := by decide +kernel
theorem dX6_init_67 : decode cX6_init 67 = .ok (.newarray .int, 2) := by decide +kernel
theorem dX6_init_69 : decode cX6_init 69 = .ok (.putfield 32, 3) := by decide +kernel
theorem dX6_init_72 : decode cX6_init 72 = .ok (.aload_n 0, 1) := by decide +kernel
theorem dX6_init_73 : decode cX6_init 73 = .ok (.sipush 201, 3) := by decide +kernel
theorem dX6_init_76 : decode cX6_init 76 = .ok (.newarray .int, 2) := by decide +kernel
theorem dX6_init_78 : decode cX6_init 78 = .ok (.putfield 35, 3) := by decide +kernel
theorem dX6_init_81 : decode cX6_init 81 = .ok (.aload_n 0, 1) := by decide +kernel
theorem dX6_init_82 : decode cX6_init 82 = .ok (.getfield 13, 3) := by decide +kernel
theorem dX6_init_85 : decode cX6_init 85 = .ok (.invokestatic 38, 3) := by decide +kernel
theorem dX6_init_88 : decode cX6_init 88 = .ok (.return_, 1) := by decide +kernel
theorem dX6_thrown_0 : decode cX6_thrown 0 = .ok (.aload_n 0, 1) := by decide +kernel
theorem dX6_thrown_1 : decode cX6_thrown 1 = .ok (.getfield 42, 3) := by decide +kernel
theorem dX6_thrown_4 : decode cX6_thrown 4 = .ok (.ireturn, 1) := by decide +kernel
theorem dX6_refused_0 : decode cX6_refused 0 = .ok (.aload_n 0, 1) := by decide +kernel
theorem dX6_refused_1 : decode cX6_refused 1 = .ok (.iload_n 1, 1) := by decide +kernel
theorem dX6_refused_2 : decode cX6_refused 2 = .ok (.putfield 42, 3) := by decide +kernel
theorem dX6_refused_5 : decode cX6_refused 5 = .ok (.iload_n 1, 1) := by decide +kernel
theorem dX6_refused_6 : decode cX6_refused 6 = .ok (.ifCond .le 7, 3) := by decide +kernel
theorem dX6_refused_9 : decode cX6_refused 9 = .ok (.iconst 1, 1) := by decide +kernel
theorem dX6_refused_10 : decode cX6_refused 10 = .ok (.goto 4, 3) := by decide +kernel
theorem dX6_refused_13 : decode cX6_refused 13 = .ok (.iconst 0, 1) := by decide +kernel
theorem dX6_refused_14 : decode cX6_refused 14 = .ok (.ireturn, 1) := by decide +kernel
theorem dX6_in_0 : decode cX6_in 0 = .ok (.lload_n 0, 1) := by decide +kernel
theorem dX6_in_1 : decode cX6_in 1 = .ok (.lload_n 2, 1) := by decide +kernel
theorem dX6_in_2 : decode cX6_in 2 = .ok (.lcmp, 1) := by decide +kernel
theorem dX6_in_3 : decode cX6_in 3 = .ok (.ifCond .lt 14, 3) := by decide +kernel
theorem dX6_in_6 : decode cX6_in 6 = .ok (.lload_n 0, 1) := by decide +kernel
theorem dX6_in_7 : decode cX6_in 7 = .ok (.lload 4, 2) := by decide +kernel
theorem dX6_in_9 : decode cX6_in 9 = .ok (.lcmp, 1) := by decide +kernel
theorem dX6_in_10 : decode cX6_in 10 = .ok (.ifCond .gt 7, 3) := by decide +kernel
theorem dX6_in_13 : decode cX6_in 13 = .ok (.iconst 1, 1) := by decide +kernel
theorem dX6_in_14 : decode cX6_in 14 = .ok (.goto 4, 3) := by decide +kernel
theorem dX6_in_17 : decode cX6_in 17 = .ok (.iconst 0, 1) := by decide +kernel
theorem dX6_in_18 : decode cX6_in 18 = .ok (.ireturn, 1) := by decide +kernel
theorem dX6_copyState_0 : decode cX6_copyState 0 = .ok (.iconst 0, 1) := by decide +kernel
theorem dX6_copyState_1 : decode cX6_copyState 1 = .ok (.istore 4, 2) := by decide +kernel
theorem dX6_copyState_3 : decode cX6_copyState 3 = .ok (.iload 4, 2) := by decide +kernel
theorem dX6_copyState_5 : decode cX6_copyState 5 = .ok (.sipush 171, 3) := by decide +kernel
theorem dX6_copyState_8 : decode cX6_copyState 8 = .ok (.if_icmp .ge 21, 3) := by decide +kernel
theorem dX6_copyState_11 : decode cX6_copyState 11 = .ok (.aload_n 2, 1) := by decide +kernel
theorem dX6_copyState_12 : decode cX6_copyState 12 = .ok (.iload_n 3, 1) := by decide +kernel
theorem dX6_copyState_13 : decode cX6_copyState 13 = .ok (.iload 4, 2) := by decide +kernel
theorem dX6_copyState_15 : decode cX6_copyState 15 = .ok (.iadd, 1) := by decide +kernel
theorem dX6_copyState_16 : decode cX6_copyState 16 = .ok (.aload_n 0, 1) := by decide +kernel
theorem dX6_copyState_17 : decode cX6_copyState 17 = .ok (.iload_n 1, 1) := by decide +kernel
theorem dX6_copyState_18 : decode cX6_copyState 18 = .ok (.iload 4, 2) := by decide +kernel
theorem dX6_copyState_20 : decode cX6_copyState 20 = .ok (.iadd, 1) := by decide +kernel
theorem dX6_copyState_21 : decode cX6_copyState 21 = .ok (.iaload, 1) := by decide +kernel
theorem dX6_copyState_22 : decode cX6_copyState 22 = .ok (.iastore, 1) := by decide +kernel
theorem dX6_copyState_23 : decode cX6_copyState 23 = .ok (.iinc 4 1, 3) := by decide +kernel
theorem dX6_copyState_26 : decode cX6_copyState 26 = .ok (.goto (-23), 3) := by decide +kernel
theorem dX6_copyState_29 : decode cX6_copyState 29 = .ok (.return_, 1) := by decide +kernel
theorem dX6_clear_0 : decode cX6_clear 0 = .ok (.iconst 0, 1) := by decide +kernel
theorem dX6_clear_1 : decode cX6_clear 1 = .ok (.istore_n 1, 1) := by decide +kernel
theorem dX6_clear_2 : decode cX6_clear 2 = .ok (.iload_n 1, 1) := by decide +kernel
theorem dX6_clear_3 : decode cX6_clear 3 = .ok (.sipush 171, 3) := by decide +kernel
theorem dX6_clear_6 : decode cX6_clear 6 = .ok (.if_icmp .ge 13, 3) := by decide +kernel
theorem dX6_clear_9 : decode cX6_clear 9 = .ok (.aload_n 0, 1) := by decide +kernel
theorem dX6_clear_10 : decode cX6_clear 10 = .ok (.iload_n 1, 1) := by decide +kernel
theorem dX6_clear_11 : decode cX6_clear 11 = .ok (.iconst 0, 1) := by decide +kernel
theorem dX6_clear_12 : decode cX6_clear 12 = .ok (.iastore, 1) := by decide +kernel
theorem dX6_clear_13 : decode cX6_clear 13 = .ok (.iinc 1 1, 3) := by decide +kernel
theorem dX6_clear_16 : decode cX6_clear 16 = .ok (.goto (-14), 3) := by decide +kernel
theorem dX6_clear_19 : decode cX6_clear 19 = .ok (.aload_n 0, 1) := by decide +kernel
theorem dX6_clear_20 : decode cX6_clear 20 = .ok (.iconst 1, 1) := by decide +kernel
theorem dX6_clear_21 : decode cX6_clear 21 = .ok (.iconst 2, 1) := by decide +kernel
theorem dX6_clear_22 : decode cX6_clear 22 = .ok (.iastore, 1) := by decide +kernel
theorem dX6_clear_23 : decode cX6_clear 23 = .ok (.aload_n 0, 1) := by decide +kernel
theorem dX6_clear_24 : decode cX6_clear 24 = .ok (.iconst 2, 1) := by decide +kernel
theorem dX6_clear_25 : decode cX6_clear 25 = .ok (.bipush 40, 2) := by decide +kernel
theorem dX6_clear_27 : decode cX6_clear 27 = .ok (.iastore, 1) := by decide +kernel
theorem dX6_clear_28 : decode cX6_clear 28 = .ok (.return_, 1) := by decide +kernel
theorem dX6_length_0 : decode cX6_length 0 = .ok (.aload_n 0, 1) := by decide +kernel
theorem dX6_length_1 : decode cX6_length 1 = .ok (.iconst 3, 1) := by decide +kernel
theorem dX6_length_2 : decode cX6_length 2 = .ok (.bipush 42, 2) := by decide +kernel
theorem dX6_length_4 : decode cX6_length 4 = .ok (.iload_n 1, 1) := by decide +kernel
theorem dX6_length_5 : decode cX6_length 5 = .ok (.imul, 1) := by decide +kernel
theorem dX6_length_6 : decode cX6_length 6 = .ok (.iadd, 1) := by decide +kernel
theorem dX6_length_7 : decode cX6_length 7 = .ok (.iaload, 1) := by decide +kernel
theorem dX6_length_8 : decode cX6_length 8 = .ok (.ireturn, 1) := by decide +kernel
theorem dX6_at_0 : decode cX6_at 0 = .ok (.iconst 3, 1) := by decide +kernel
theorem dX6_at_1 : decode cX6_at 1 = .ok (.bipush 42, 2) := by decide +kernel
theorem dX6_at_3 : decode cX6_at 3 = .ok (.iload_n 0, 1) := by decide +kernel
theorem dX6_at_4 : decode cX6_at 4 = .ok (.imul, 1) := by decide +kernel
theorem dX6_at_5 : decode cX6_at 5 = .ok (.iadd, 1) := by decide +kernel
theorem dX6_at_6 : decode cX6_at 6 = .ok (.iconst 1, 1) := by decide +kernel
theorem dX6_at_7 : decode cX6_at 7 = .ok (.iadd, 1) := by decide +kernel
theorem dX6_at_8 : decode cX6_at 8 = .ok (.iload_n 1, 1) := by decide +kernel
theorem dX6_at_9 : decode cX6_at 9 = .ok (.iadd, 1) := by decide +kernel
theorem dX6_at_10 : decode cX6_at 10 = .ok (.ireturn, 1) := by decide +kernel
theorem dX6_isRuler_0 : decode cX6_isRuler 0 = .ok (.iload_n 1, 1) := by decide +kernel
theorem dX6_isRuler_1 : decode cX6_isRuler 1 = .ok (.i2l, 1) := by decide +kernel
theorem dX6_isRuler_2 : decode cX6_isRuler 2 = .ok (.lconst 0, 1) := by decide +kernel
theorem dX6_isRuler_3 : decode cX6_isRuler 3 = .ok (.aload_n 0, 1) := by decide +kernel
theorem dX6_isRuler_4 : decode cX6_isRuler 4 = .ok (.iconst 0, 1) := by decide +kernel
theorem dX6_isRuler_5 : decode cX6_isRuler 5 = .ok (.iaload, 1) := by decide +kernel
theorem dX6_isRuler_6 : decode cX6_isRuler 6 = .ok (.iconst 1, 1) := by decide +kernel
theorem dX6_isRuler_7 : decode cX6_isRuler 7 = .ok (.isub, 1) := by decide +kernel
theorem dX6_isRuler_8 : decode cX6_isRuler 8 = .ok (.i2l, 1) := by decide +kernel
theorem dX6_isRuler_9 : decode cX6_isRuler 9 = .ok (.invokestatic 46, 3) := by decide +kernel
theorem dX6_isRuler_12 : decode cX6_isRuler 12 = .ok (.ireturn, 1) := by decide +kernel
theorem dX6_isPlace_0 : decode cX6_isPlace 0 = .ok (.aload_n 0, 1) := by decide +kernel
theorem dX6_isPlace_1 : decode cX6_isPlace 1 = .ok (.iload_n 1, 1) := by decide +kernel
theorem dX6_isPlace_2 : decode cX6_isPlace 2 = .ok (.invokestatic 50, 3) := by decide +kernel
theorem dX6_isPlace_5 : decode cX6_isPlace 5 = .ok (.ifCond .eq 22, 3) := by decide +kernel
theorem dX6_isPlace_8 : decode cX6_isPlace 8 = .ok (.iload_n 2, 1) := by decide +kernel
theorem dX6_isPlace_9 : decode cX6_isPlace 9 = .ok (.i2l, 1) := by decide +kernel
theorem dX6_isPlace_10 : decode cX6_isPlace 10 = .ok (.lconst 0, 1) := by decide +kernel
theorem dX6_isPlace_11 : decode cX6_isPlace 11 = .ok (.aload_n 0, 1) := by decide +kernel
theorem dX6_isPlace_12 : decode cX6_isPlace 12 = .ok (.iload_n 1, 1) := by decide +kernel
theorem dX6_isPlace_13 : decode cX6_isPlace 13 = .ok (.invokestatic 54, 3) := by decide +kernel
theorem dX6_isPlace_16 : decode cX6_isPlace 16 = .ok (.i2l, 1) := by decide +kernel
theorem dX6_isPlace_17 : decode cX6_isPlace 17 = .ok (.invokestatic 46, 3) := by decide +kernel
theorem dX6_isPlace_20 : decode cX6_isPlace 20 = .ok (.ifCond .eq 7, 3) := by decide +kernel
theorem dX6_isPlace_23 : decode cX6_isPlace 23 = .ok (.iconst 1, 1) := by decide +kernel
theorem dX6_isPlace_24 : decode cX6_isPlace 24 = .ok (.goto 4, 3) := by decide +kernel
theorem dX6_isPlace_27 : decode cX6_isPlace 27 = .ok (.iconst 0, 1) := by decide +kernel
theorem dX6_isPlace_28 : decode cX6_isPlace 28 = .ok (.ireturn, 1) := by decide +kernel
theorem dX6_isEnd_0 : decode cX6_isEnd 0 = .ok (.iload_n 2, 1) := by decide +kernel
theorem dX6_isEnd_1 : decode cX6_isEnd 1 = .ok (.ifCond .eq 12, 3) := by decide +kernel
theorem dX6_isEnd_4 : decode cX6_isEnd 4 = .ok (.iload_n 2, 1) := by decide +kernel
theorem dX6_isEnd_5 : decode cX6_isEnd 5 = .ok (.aload_n 0, 1) := by decide +kernel
theorem dX6_isEnd_6 : decode cX6_isEnd 6 = .ok (.iload_n 1, 1) := by decide +kernel
theorem dX6_isEnd_7 : decode cX6_isEnd 7 = .ok (.invokestatic 54, 3) := by decide +kernel
theorem dX6_isEnd_10 : decode cX6_isEnd 10 = .ok (.if_icmp .ne 7, 3) := by decide +kernel
theorem dX6_isEnd_13 : decode cX6_isEnd 13 = .ok (.iconst 1, 1) := by decide +kernel
theorem dX6_isEnd_14 : decode cX6_isEnd 14 = .ok (.goto 4, 3) := by decide +kernel
theorem dX6_isEnd_17 : decode cX6_isEnd 17 = .ok (.iconst 0, 1) := by decide +kernel
theorem dX6_isEnd_18 : decode cX6_isEnd 18 = .ok (.ireturn, 1) := by decide +kernel
theorem dX6_isSetting_0 : decode cX6_isSetting 0 = .ok (.iload_n 0, 1) := by decide +kernel
theorem dX6_isSetting_1 : decode cX6_isSetting 1 = .ok (.ifCond .ne 15, 3) := by decide +kernel
theorem dX6_isSetting_4 : decode cX6_isSetting 4 = .ok (.iload_n 1, 1) := by decide +kernel
theorem dX6_isSetting_5 : decode cX6_isSetting 5 = .ok (.i2l, 1) := by decide +kernel
theorem dX6_isSetting_6 : decode cX6_isSetting 6 = .ok (.lconst 1, 1) := by decide +kernel
theorem dX6_isSetting_7 : decode cX6_isSetting 7 = .ok (.ldc2_w 58, 3) := by decide +kernel
theorem dX6_isSetting_10 : decode cX6_isSetting 10 = .ok (.invokestatic 46, 3) := by decide +kernel
theorem dX6_isSetting_13 : decode cX6_isSetting 13 = .ok (.ifCond .ne 22, 3) := by decide +kernel
theorem dX6_isSetting_16 : decode cX6_isSetting 16 = .ok (.iload_n 0, 1) := by decide +kernel
theorem dX6_isSetting_17 : decode cX6_isSetting 17 = .ok (.iconst 1, 1) := by decide +kernel
theorem dX6_isSetting_18 : decode cX6_isSetting 18 = .ok (.if_icmp .ne 21, 3) := by decide +kernel
theorem dX6_isSetting_21 : decode cX6_isSetting 21 = .ok (.iload_n 1, 1) := by decide +kernel
theorem dX6_isSetting_22 : decode cX6_isSetting 22 = .ok (.i2l, 1) := by decide +kernel
theorem dX6_isSetting_23 : decode cX6_isSetting 23 = .ok (.ldc2_w 60, 3) := by decide +kernel
theorem dX6_isSetting_26 : decode cX6_isSetting 26 = .ok (.ldc2_w 62, 3) := by decide +kernel
theorem dX6_isSetting_29 : decode cX6_isSetting 29 = .ok (.invokestatic 46, 3) := by decide +kernel
theorem dX6_isSetting_32 : decode cX6_isSetting 32 = .ok (.ifCond .eq 7, 3) := by decide +kernel
theorem dX6_isSetting_35 : decode cX6_isSetting 35 = .ok (.iconst 1, 1) := by decide +kernel
theorem dX6_isSetting_36 : decode cX6_isSetting 36 = .ok (.goto 4, 3) := by decide +kernel
theorem dX6_isSetting_39 : decode cX6_isSetting 39 = .ok (.iconst 0, 1) := by decide +kernel
theorem dX6_isSetting_40 : decode cX6_isSetting 40 = .ok (.ireturn, 1) := by decide +kernel
theorem dX6_marks_0 : decode cX6_marks 0 = .ok (.iconst 0, 1) := by decide +kernel
theorem dX6_marks_1 : decode cX6_marks 1 = .ok (.istore_n 2, 1) := by decide +kernel
theorem dX6_marks_2 : decode cX6_marks 2 = .ok (.iconst 0, 1) := by decide +kernel
theorem dX6_marks_3 : decode cX6_marks 3 = .ok (.istore_n 3, 1) := by decide +kernel
theorem dX6_marks_4 : decode cX6_marks 4 = .ok (.iload_n 3, 1) := by decide +kernel
theorem dX6_marks_5 : decode cX6_marks 5 = .ok (.aload_n 0, 1) := by decide +kernel
theorem dX6_marks_6 : decode cX6_marks 6 = .ok (.iload_n 1, 1) := by decide +kernel
theorem dX6_marks_7 : decode cX6_marks 7 = .ok (.invokestatic 54, 3) := by decide +kernel
theorem dX6_marks_10 : decode cX6_marks 10 = .ok (.if_icmp .gt 19, 3) := by decide +kernel
theorem dX6_marks_13 : decode cX6_marks 13 = .ok (.iload_n 2, 1) := by decide +kernel
theorem dX6_marks_14 : decode cX6_marks 14 = .ok (.aload_n 0, 1) := by decide +kernel
theorem dX6_marks_15 : decode cX6_marks 15 = .ok (.iload_n 1, 1) := by decide +kernel
theorem dX6_marks_16 : decode cX6_marks 16 = .ok (.iload_n 3, 1) := by decide +kernel
theorem dX6_marks_17 : decode cX6_marks 17 = .ok (.invokestatic 64, 3) := by decide +kernel
theorem dX6_marks_20 : decode cX6_marks 20 = .ok (.iaload, 1) := by decide +kernel
theorem dX6_marks_21 : decode cX6_marks 21 = .ok (.iadd, 1) := by decide +kernel
theorem dX6_marks_22 : decode cX6_marks 22 = .ok (.istore_n 2, 1) := by decide +kernel
theorem dX6_marks_23 : decode cX6_marks 23 = .ok (.iinc 3 1, 3) := by decide +kernel
theorem dX6_marks_26 : decode cX6_marks 26 = .ok (.goto (-22), 3) := by decide +kernel
theorem dX6_marks_29 : decode cX6_marks 29 = .ok (.iload_n 2, 1) := by decide +kernel
theorem dX6_marks_30 : decode cX6_marks 30 = .ok (.ireturn, 1) := by decide +kernel
theorem dX6_allMarks_0 : decode cX6_allMarks 0 = .ok (.iconst 0, 1) := by decide +kernel
theorem dX6_allMarks_1 : decode cX6_allMarks 1 = .ok (.istore_n 1, 1) := by decide +kernel
theorem dX6_allMarks_2 : decode cX6_allMarks 2 = .ok (.iconst 0, 1) := by decide +kernel
theorem dX6_allMarks_3 : decode cX6_allMarks 3 = .ok (.istore_n 2, 1) := by decide +kernel
theorem dX6_allMarks_4 : decode cX6_allMarks 4 = .ok (.iload_n 2, 1) := by decide +kernel
theorem dX6_allMarks_5 : decode cX6_allMarks 5 = .ok (.aload_n 0, 1) := by decide +kernel
theorem dX6_allMarks_6 : decode cX6_allMarks 6 = .ok (.iconst 0, 1) := by decide +kernel
theorem dX6_allMarks_7 : decode cX6_allMarks 7 = .ok (.iaload, 1) := by decide +kernel
theorem dX6_allMarks_8 : decode cX6_allMarks 8 = .ok (.if_icmp .ge 17, 3) := by decide +kernel
theorem dX6_allMarks_11 : decode cX6_allMarks 11 = .ok (.iload_n 1, 1) := by decide +kernel
theorem dX6_allMarks_12 : decode cX6_allMarks 12 = .ok (.aload_n 0, 1) := by decide +kernel
theorem dX6_allMarks_13 : decode cX6_allMarks 13 = .ok (.iload_n 2, 1) := by decide +kernel
theorem dX6_allMarks_14 : decode cX6_allMarks 14 = .ok (.invokestatic 68, 3) := by decide +kernel
theorem dX6_allMarks_17 : decode cX6_allMarks 17 = .ok (.iadd, 1) := by decide +kernel
theorem dX6_allMarks_18 : decode cX6_allMarks 18 = .ok (.istore_n 1, 1) := by decide +kernel
theorem dX6_allMarks_19 : decode cX6_allMarks 19 = .ok (.iinc 2 1, 3) := by decide +kernel
theorem dX6_allMarks_22 : decode cX6_allMarks 22 = .ok (.goto (-18), 3) := by decide +kernel
theorem dX6_allMarks_25 : decode cX6_allMarks 25 = .ok (.iload_n 1, 1) := by decide +kernel
theorem dX6_allMarks_26 : decode cX6_allMarks 26 = .ok (.ireturn, 1) := by decide +kernel
theorem dX6_noSpans_0 : decode cX6_noSpans 0 = .ok (.iconst 0, 1) := by decide +kernel
theorem dX6_noSpans_1 : decode cX6_noSpans 1 = .ok (.istore_n 1, 1) := by decide +kernel
theorem dX6_noSpans_2 : decode cX6_noSpans 2 = .ok (.iload_n 1, 1) := by decide +kernel
theorem dX6_noSpans_3 : decode cX6_noSpans 3 = .ok (.bipush 40, 2) := by decide +kernel
theorem dX6_noSpans_5 : decode cX6_noSpans 5 = .ok (.if_icmp .gt 16, 3) := by decide +kernel
theorem dX6_noSpans_8 : decode cX6_noSpans 8 = .ok (.aload_n 0, 1) := by decide +kernel
theorem dX6_noSpans_9 : decode cX6_noSpans 9 = .ok (.getfield 29, 3) := by decide +kernel
theorem dX6_noSpans_12 : decode cX6_noSpans 12 = .ok (.iload_n 1, 1) := by decide +kernel
theorem dX6_noSpans_13 : decode cX6_noSpans 13 = .ok (.iconst 0, 1) := by decide +kernel
theorem dX6_noSpans_14 : decode cX6_noSpans 14 = .ok (.iastore, 1) := by decide +kernel
theorem dX6_noSpans_15 : decode cX6_noSpans 15 = .ok (.iinc 1 1, 3) := by decide +kernel
theorem dX6_noSpans_18 : decode cX6_noSpans 18 = .ok (.goto (-16), 3) := by decide +kernel
theorem dX6_noSpans_21 : decode cX6_noSpans 21 = .ok (.return_, 1) := by decide +kernel
theorem dX6_addSpans_0 : decode cX6_addSpans 0 = .ok (.iconst 0, 1) := by decide +kernel
theorem dX6_addSpans_1 : decode cX6_addSpans 1 = .ok (.istore_n 3, 1) := by decide +kernel
theorem dX6_addSpans_2 : decode cX6_addSpans 2 = .ok (.iload_n 3, 1) := by decide +kernel
theorem dX6_addSpans_3 : decode cX6_addSpans 3 = .ok (.aload_n 1, 1) := by decide +kernel
theorem dX6_addSpans_4 : decode cX6_addSpans 4 = .ok (.iload_n 2, 1) := by decide +kernel
theorem dX6_addSpans_5 : decode cX6_addSpans 5 = .ok (.invokestatic 54, 3) := by decide +kernel
theorem dX6_addSpans_8 : decode cX6_addSpans 8 = .ok (.if_icmp .gt 58, 3) := by decide +kernel
theorem dX6_addSpans_11 : decode cX6_addSpans 11 = .ok (.iload_n 3, 1) := by decide +kernel
theorem dX6_addSpans_12 : decode cX6_addSpans 12 = .ok (.iconst 1, 1) := by decide +kernel
theorem dX6_addSpans_13 : decode cX6_addSpans 13 = .ok (.iadd, 1) := by decide +kernel
theorem dX6_addSpans_14 : decode cX6_addSpans 14 = .ok (.istore 4, 2) := by decide +kernel
theorem dX6_addSpans_16 : decode cX6_addSpans 16 = .ok (.iload 4, 2) := by decide +kernel
theorem dX6_addSpans_18 : decode cX6_addSpans 18 = .ok (.aload_n 1, 1) := by decide +kernel
theorem dX6_addSpans_19 : decode cX6_addSpans 19 = .ok (.iload_n 2, 1) := by decide +kernel
theorem dX6_addSpans_20 : decode cX6_addSpans 20 = .ok (.invokestatic 54, 3) := by decide +kernel
theorem dX6_addSpans_23 : decode cX6_addSpans 23 = .ok (.if_icmp .gt 37, 3) := by decide +kernel
theorem dX6_addSpans_26 : decode cX6_addSpans 26 = .ok (.aload_n 0, 1) := by decide +kernel
theorem dX6_addSpans_27 : decode cX6_addSpans 27 = .ok (.getfield 29, 3) := by decide +kernel
theorem dX6_addSpans_30 : decode cX6_addSpans 30 = .ok (.iload 4, 2) := by decide +kernel
theorem dX6_addSpans_32 : decode cX6_addSpans 32 = .ok (.iload_n 3, 1) := by decide +kernel
theorem dX6_addSpans_33 : decode cX6_addSpans 33 = .ok (.isub, 1) := by decide +kernel
theorem dX6_addSpans_34 : decode cX6_addSpans 34 = .ok (.dup2, 1) := by decide +kernel
theorem dX6_addSpans_35 : decode cX6_addSpans 35 = .ok (.iaload, 1) := by decide +kernel
theorem dX6_addSpans_36 : decode cX6_addSpans 36 = .ok (.aload_n 1, 1) := by decide +kernel
theorem dX6_addSpans_37 : decode cX6_addSpans 37 = .ok (.iload_n 2, 1) := by decide +kernel
theorem dX6_addSpans_38 : decode cX6_addSpans 38 = .ok (.iload_n 3, 1) := by decide +kernel
theorem dX6_addSpans_39 : decode cX6_addSpans 39 = .ok (.invokestatic 64, 3) := by decide +kernel
theorem dX6_addSpans_42 : decode cX6_addSpans 42 = .ok (.iaload, 1) := by decide +kernel
theorem dX6_addSpans_43 : decode cX6_addSpans 43 = .ok (.aload_n 1, 1) := by decide +kernel
theorem dX6_addSpans_44 : decode cX6_addSpans 44 = .ok (.iload_n 2, 1) := by decide +kernel
theorem dX6_addSpans_45 : decode cX6_addSpans 45 = .ok (.iload 4, 2) := by decide +kernel
theorem dX6_addSpans_47 : decode cX6_addSpans 47 = .ok (.invokestatic 64, 3) := by decide +kernel
theorem dX6_addSpans_50 : decode cX6_addSpans 50 = .ok (.iaload, 1) := by decide +kernel
theorem dX6_addSpans_51 : decode cX6_addSpans 51 = .ok (.imul, 1) := by decide +kernel
theorem dX6_addSpans_52 : decode cX6_addSpans 52 = .ok (.iadd, 1) := by decide +kernel
theorem dX6_addSpans_53 : decode cX6_addSpans 53 = .ok (.iastore, 1) := by decide +kernel
theorem dX6_addSpans_54 : decode cX6_addSpans 54 = .ok (.iinc 4 1, 3) := by decide +kernel
theorem dX6_addSpans_57 : decode cX6_addSpans 57 = .ok (.goto (-41), 3) := by decide +kernel
theorem dX6_addSpans_60 : decode cX6_addSpans 60 = .ok (.iinc 3 1, 3) := by decide +kernel
theorem dX6_addSpans_63 : decode cX6_addSpans 63 = .ok (.goto (-61), 3) := by decide +kernel
theorem dX6_addSpans_66 : decode cX6_addSpans 66 = .ok (.return_, 1) := by decide +kernel
theorem dX6_findSpans_0 : decode cX6_findSpans 0 = .ok (.aload_n 0, 1) := by decide +kernel
theorem dX6_findSpans_1 : decode cX6_findSpans 1 = .ok (.invokevirtual 71, 3) := by decide +kernel
theorem dX6_findSpans_4 : decode cX6_findSpans 4 = .ok (.iconst 0, 1) := by decide +kernel
theorem dX6_findSpans_5 : decode cX6_findSpans 5 = .ok (.istore_n 2, 1) := by decide +kernel
theorem dX6_findSpans_6 : decode cX6_findSpans 6 = .ok (.iload_n 2, 1) := by decide +kernel
theorem dX6_findSpans_7 : decode cX6_findSpans 7 = .ok (.aload_n 1, 1) := by decide +kernel
theorem dX6_findSpans_8 : decode cX6_findSpans 8 = .ok (.iconst 0, 1) := by decide +kernel
theorem dX6_findSpans_9 : decode cX6_findSpans 9 = .ok (.iaload, 1) := by decide +kernel
theorem dX6_findSpans_10 : decode cX6_findSpans 10 = .ok (.if_icmp .ge 15, 3) := by decide +kernel
theorem dX6_findSpans_13 : decode cX6_findSpans 13 = .ok (.aload_n 0, 1) := by decide +kernel
theorem dX6_findSpans_14 : decode cX6_findSpans 14 = .ok (.aload_n 1, 1) := by decide +kernel
theorem dX6_findSpans_15 : decode cX6_findSpans 15 = .ok (.iload_n 2, 1) := by decide +kernel
theorem dX6_findSpans_16 : decode cX6_findSpans 16 = .ok (.invokevirtual 74, 3) := by decide +kernel
theorem dX6_findSpans_19 : decode cX6_findSpans 19 = .ok (.iinc 2 1, 3) := by decide +kernel
theorem dX6_findSpans_22 : decode cX6_findSpans 22 = .ok (.goto (-16), 3) := by decide +kernel
theorem dX6_findSpans_25 : decode cX6_findSpans 25 = .ok (.return_, 1) := by decide +kernel
theorem dX6_unlike_0 : decode cX6_unlike 0 = .ok (.iconst 0, 1) := by decide +kernel
theorem dX6_unlike_1 : decode cX6_unlike 1 = .ok (.istore_n 1, 1) := by decide +kernel
theorem dX6_unlike_2 : decode cX6_unlike 2 = .ok (.iconst 1, 1) := by decide +kernel
theorem dX6_unlike_3 : decode cX6_unlike 3 = .ok (.istore_n 2, 1) := by decide +kernel
theorem dX6_unlike_4 : decode cX6_unlike 4 = .ok (.iload_n 2, 1) := by decide +kernel
theorem dX6_unlike_5 : decode cX6_unlike 5 = .ok (.bipush 40, 2) := by decide +kernel
theorem dX6_unlike_7 : decode cX6_unlike 7 = .ok (.if_icmp .gt 26, 3) := by decide +kernel
theorem dX6_unlike_10 : decode cX6_unlike 10 = .ok (.iload_n 1, 1) := by decide +kernel
theorem dX6_unlike_11 : decode cX6_unlike 11 = .ok (.aload_n 0, 1) := by decide +kernel
theorem dX6_unlike_12 : decode cX6_unlike 12 = .ok (.getfield 29, 3) := by decide +kernel
theorem dX6_unlike_15 : decode cX6_unlike 15 = .ok (.iload_n 2, 1) := by decide +kernel
theorem dX6_unlike_16 : decode cX6_unlike 16 = .ok (.iaload, 1) := by decide +kernel
theorem dX6_unlike_17 : decode cX6_unlike 17 = .ok (.ifCond .le 7, 3) := by decide +kernel
theorem dX6_unlike_20 : decode cX6_unlike 20 = .ok (.iconst 1, 1) := by decide +kernel
theorem dX6_unlike_21 : decode cX6_unlike 21 = .ok (.goto 4, 3) := by decide +kernel
theorem dX6_unlike_24 : decode cX6_unlike 24 = .ok (.iconst 0, 1) := by decide +kernel
theorem dX6_unlike_25 : decode cX6_unlike 25 = .ok (.iadd, 1) := by decide +kernel
theorem dX6_unlike_26 : decode cX6_unlike 26 = .ok (.istore_n 1, 1) := by decide +kernel
theorem dX6_unlike_27 : decode cX6_unlike 27 = .ok (.iinc 2 1, 3) := by decide +kernel
theorem dX6_unlike_30 : decode cX6_unlike 30 = .ok (.goto (-26), 3) := by decide +kernel
theorem dX6_unlike_33 : decode cX6_unlike 33 = .ok (.iload_n 1, 1) := by decide +kernel
theorem dX6_unlike_34 : decode cX6_unlike 34 = .ok (.ireturn, 1) := by decide +kernel
theorem dX6_divisor_0 : decode cX6_divisor 0 = .ok (.iconst 0, 1) := by decide +kernel
theorem dX6_divisor_1 : decode cX6_divisor 1 = .ok (.istore_n 1, 1) := by decide +kernel
theorem dX6_divisor_2 : decode cX6_divisor 2 = .ok (.iconst 1, 1) := by decide +kernel
theorem dX6_divisor_3 : decode cX6_divisor 3 = .ok (.istore_n 2, 1) := by decide +kernel
theorem dX6_divisor_4 : decode cX6_divisor 4 = .ok (.iload_n 2, 1) := by decide +kernel
theorem dX6_divisor_5 : decode cX6_divisor 5 = .ok (.bipush 40, 2) := by decide +kernel
theorem dX6_divisor_7 : decode cX6_divisor 7 = .ok (.if_icmp .gt 41, 3) := by decide +kernel
theorem dX6_divisor_10 : decode cX6_divisor 10 = .ok (.aload_n 0, 1) := by decide +kernel
theorem dX6_divisor_11 : decode cX6_divisor 11 = .ok (.getfield 29, 3) := by decide +kernel
theorem dX6_divisor_14 : decode cX6_divisor 14 = .ok (.iload_n 2, 1) := by decide +kernel
theorem dX6_divisor_15 : decode cX6_divisor 15 = .ok (.iaload, 1) := by decide +kernel
theorem dX6_divisor_16 : decode cX6_divisor 16 = .ok (.ifCond .le 7, 3) := by decide +kernel
theorem dX6_divisor_19 : decode cX6_divisor 19 = .ok (.iload_n 2, 1) := by decide +kernel
theorem dX6_divisor_20 : decode cX6_divisor 20 = .ok (.goto 4, 3) := by decide +kernel
theorem dX6_divisor_23 : decode cX6_divisor 23 = .ok (.iconst 0, 1) := by decide +kernel
theorem dX6_divisor_24 : decode cX6_divisor 24 = .ok (.istore_n 3, 1) := by decide +kernel
theorem dX6_divisor_25 : decode cX6_divisor 25 = .ok (.iload_n 3, 1) := by decide +kernel
theorem dX6_divisor_26 : decode cX6_divisor 26 = .ok (.ifCond .eq 16, 3) := by decide +kernel
theorem dX6_divisor_29 : decode cX6_divisor 29 = .ok (.iload_n 1, 1) := by decide +kernel
theorem dX6_divisor_30 : decode cX6_divisor 30 = .ok (.iload_n 3, 1) := by decide +kernel
theorem dX6_divisor_31 : decode cX6_divisor 31 = .ok (.irem, 1) := by decide +kernel
theorem dX6_divisor_32 : decode cX6_divisor 32 = .ok (.istore 4, 2) := by decide +kernel
theorem dX6_divisor_34 : decode cX6_divisor 34 = .ok (.iload_n 3, 1) := by decide +kernel
theorem dX6_divisor_35 : decode cX6_divisor 35 = .ok (.istore_n 1, 1) := by decide +kernel
theorem dX6_divisor_36 : decode cX6_divisor 36 = .ok (.iload 4, 2) := by decide +kernel
theorem dX6_divisor_38 : decode cX6_divisor 38 = .ok (.istore_n 3, 1) := by decide +kernel
theorem dX6_divisor_39 : decode cX6_divisor 39 = .ok (.goto (-14), 3) := by decide +kernel
theorem dX6_divisor_42 : decode cX6_divisor 42 = .ok (.iinc 2 1, 3) := by decide +kernel
theorem dX6_divisor_45 : decode cX6_divisor 45 = .ok (.goto (-41), 3) := by decide +kernel
theorem dX6_divisor_48 : decode cX6_divisor 48 = .ok (.iload_n 1, 1) := by decide +kernel
theorem dX6_divisor_49 : decode cX6_divisor 49 = .ok (.ireturn, 1) := by decide +kernel
theorem dX6_lowOf_0 : decode cX6_lowOf 0 = .ok (.iload_n 2, 1) := by decide +kernel
theorem dX6_lowOf_1 : decode cX6_lowOf 1 = .ok (.istore_n 3, 1) := by decide +kernel
theorem dX6_lowOf_2 : decode cX6_lowOf 2 = .ok (.iconst 0, 1) := by decide +kernel
theorem dX6_lowOf_3 : decode cX6_lowOf 3 = .ok (.istore 4, 2) := by decide +kernel
theorem dX6_lowOf_5 : decode cX6_lowOf 5 = .ok (.iload 4, 2) := by decide +kernel
theorem dX6_lowOf_7 : decode cX6_lowOf 7 = .ok (.aload_n 0, 1) := by decide +kernel
theorem dX6_lowOf_8 : decode cX6_lowOf 8 = .ok (.iload_n 1, 1) := by decide +kernel
theorem dX6_lowOf_9 : decode cX6_lowOf 9 = .ok (.invokestatic 54, 3) := by decide +kernel
theorem dX6_lowOf_12 : decode cX6_lowOf 12 = .ok (.if_icmp .gt 70, 3) := by decide +kernel
theorem dX6_lowOf_15 : decode cX6_lowOf 15 = .ok (.iconst 0, 1) := by decide +kernel
theorem dX6_lowOf_16 : decode cX6_lowOf 16 = .ok (.istore 5, 2) := by decide +kernel
theorem dX6_lowOf_18 : decode cX6_lowOf 18 = .ok (.iload 4, 2) := by decide +kernel
theorem dX6_lowOf_20 : decode cX6_lowOf 20 = .ok (.iconst 1, 1) := by decide +kernel
theorem dX6_lowOf_21 : decode cX6_lowOf 21 = .ok (.iadd, 1) := by decide +kernel
theorem dX6_lowOf_22 : decode cX6_lowOf 22 = .ok (.istore 6, 2) := by decide +kernel
theorem dX6_lowOf_24 : decode cX6_lowOf 24 = .ok (.iload 6, 2) := by decide +kernel
theorem dX6_lowOf_26 : decode cX6_lowOf 26 = .ok (.aload_n 0, 1) := by decide +kernel
theorem dX6_lowOf_27 : decode cX6_lowOf 27 = .ok (.iload_n 1, 1) := by decide +kernel
theorem dX6_lowOf_28 : decode cX6_lowOf 28 = .ok (.invokestatic 54, 3) := by decide +kernel
theorem dX6_lowOf_31 : decode cX6_lowOf 31 = .ok (.if_icmp .gt 31, 3) := by decide +kernel
theorem dX6_lowOf_34 : decode cX6_lowOf 34 = .ok (.iload 5, 2) := by decide +kernel
theorem dX6_lowOf_36 : decode cX6_lowOf 36 = .ok (.aload_n 0, 1) := by decide +kernel
theorem dX6_lowOf_37 : decode cX6_lowOf 37 = .ok (.iload_n 1, 1) := by decide +kernel
theorem dX6_lowOf_38 : decode cX6_lowOf 38 = .ok (.iload 4, 2) := by decide +kernel
theorem dX6_lowOf_40 : decode cX6_lowOf 40 = .ok (.invokestatic 64, 3) := by decide +kernel
theorem dX6_lowOf_43 : decode cX6_lowOf 43 = .ok (.iaload, 1) := by decide +kernel
theorem dX6_lowOf_44 : decode cX6_lowOf 44 = .ok (.aload_n 0, 1) := by decide +kernel
theorem dX6_lowOf_45 : decode cX6_lowOf 45 = .ok (.iload_n 1, 1) := by decide +kernel
theorem dX6_lowOf_46 : decode cX6_lowOf 46 = .ok (.iload 6, 2) := by decide +kernel
theorem dX6_lowOf_48 : decode cX6_lowOf 48 = .ok (.invokestatic 64, 3) := by decide +kernel
theorem dX6_lowOf_51 : decode cX6_lowOf 51 = .ok (.iaload, 1) := by decide +kernel
theorem dX6_lowOf_52 : decode cX6_lowOf 52 = .ok (.imul, 1) := by decide +kernel
theorem dX6_lowOf_53 : decode cX6_lowOf 53 = .ok (.iadd, 1) := by decide +kernel
theorem dX6_lowOf_54 : decode cX6_lowOf 54 = .ok (.istore 5, 2) := by decide +kernel
theorem dX6_lowOf_56 : decode cX6_lowOf 56 = .ok (.iinc 6 1, 3) := by decide +kernel
theorem dX6_lowOf_59 : decode cX6_lowOf 59 = .ok (.goto (-35), 3) := by decide +kernel
theorem dX6_lowOf_62 : decode cX6_lowOf 62 = .ok (.iload_n 3, 1) := by decide +kernel
theorem dX6_lowOf_63 : decode cX6_lowOf 63 = .ok (.iload 5, 2) := by decide +kernel
theorem dX6_lowOf_65 : decode cX6_lowOf 65 = .ok (.if_icmp .ge 6, 3) := by decide +kernel
theorem dX6_lowOf_68 : decode cX6_lowOf 68 = .ok (.iload 4, 2) := by decide +kernel
theorem dX6_lowOf_70 : decode cX6_lowOf 70 = .ok (.ireturn, 1) := by decide +kernel
theorem dX6_lowOf_71 : decode cX6_lowOf 71 = .ok (.iload_n 3, 1) := by decide +kernel
theorem dX6_lowOf_72 : decode cX6_lowOf 72 = .ok (.iload 5, 2) := by decide +kernel
theorem dX6_lowOf_74 : decode cX6_lowOf 74 = .ok (.isub, 1) := by decide +kernel
theorem dX6_lowOf_75 : decode cX6_lowOf 75 = .ok (.istore_n 3, 1) := by decide +kernel
theorem dX6_lowOf_76 : decode cX6_lowOf 76 = .ok (.iinc 4 1, 3) := by decide +kernel
theorem dX6_lowOf_79 : decode cX6_lowOf 79 = .ok (.goto (-74), 3) := by decide +kernel
theorem dX6_lowOf_82 : decode cX6_lowOf 82 = .ok (.iconst (-1), 1) := by decide +kernel
theorem dX6_lowOf_83 : decode cX6_lowOf 83 = .ok (.ireturn, 1) := by decide +kernel
theorem dX6_highOf_0 : decode cX6_highOf 0 = .ok (.iload_n 2, 1) := by decide +kernel
theorem dX6_highOf_1 : decode cX6_highOf 1 = .ok (.istore_n 3, 1) := by decide +kernel
theorem dX6_highOf_2 : decode cX6_highOf 2 = .ok (.iconst 0, 1) := by decide +kernel
theorem dX6_highOf_3 : decode cX6_highOf 3 = .ok (.istore 4, 2) := by decide +kernel
theorem dX6_highOf_5 : decode cX6_highOf 5 = .ok (.iload 4, 2) := by decide +kernel
theorem dX6_highOf_7 : decode cX6_highOf 7 = .ok (.aload_n 0, 1) := by decide +kernel
theorem dX6_highOf_8 : decode cX6_highOf 8 = .ok (.iload_n 1, 1) := by decide +kernel
theorem dX6_highOf_9 : decode cX6_highOf 9 = .ok (.invokestatic 54, 3) := by decide +kernel
theorem dX6_highOf_12 : decode cX6_highOf 12 = .ok (.if_icmp .gt 62, 3) := by decide +kernel
theorem dX6_highOf_15 : decode cX6_highOf 15 = .ok (.iload 4, 2) := by decide +kernel
theorem dX6_highOf_17 : decode cX6_highOf 17 = .ok (.iconst 1, 1) := by decide +kernel
theorem dX6_highOf_18 : decode cX6_highOf 18 = .ok (.iadd, 1) := by decide +kernel
theorem dX6_highOf_19 : decode cX6_highOf 19 = .ok (.istore 5, 2) := by decide +kernel
theorem dX6_highOf_21 : decode cX6_highOf 21 = .ok (.iload 5, 2) := by decide +kernel
theorem dX6_highOf_23 : decode cX6_highOf 23 = .ok (.aload_n 0, 1) := by decide +kernel
theorem dX6_highOf_24 : decode cX6_highOf 24 = .ok (.iload_n 1, 1) := by decide +kernel
theorem dX6_highOf_25 : decode cX6_highOf 25 = .ok (.invokestatic 54, 3) := by decide +kernel
theorem dX6_highOf_28 : decode cX6_highOf 28 = .ok (.if_icmp .gt 40, 3) := by decide +kernel
theorem dX6_highOf_31 : decode cX6_highOf 31 = .ok (.aload_n 0, 1) := by decide +kernel
theorem dX6_highOf_32 : decode cX6_highOf 32 = .ok (.iload_n 1, 1) := by decide +kernel
theorem dX6_highOf_33 : decode cX6_highOf 33 = .ok (.iload 4, 2) := by decide +kernel
theorem dX6_highOf_35 : decode cX6_highOf 35 = .ok (.invokestatic 64, 3) := by decide +kernel
theorem dX6_highOf_38 : decode cX6_highOf 38 = .ok (.iaload, 1) := by decide +kernel
theorem dX6_highOf_39 : decode cX6_highOf 39 = .ok (.aload_n 0, 1) := by decide +kernel
theorem dX6_highOf_40 : decode cX6_highOf 40 = .ok (.iload_n 1, 1) := by decide +kernel
theorem dX6_highOf_41 : decode cX6_highOf 41 = .ok (.iload 5, 2) := by decide +kernel
theorem dX6_highOf_43 : decode cX6_highOf 43 = .ok (.invokestatic 64, 3) := by decide +kernel
theorem dX6_highOf_46 : decode cX6_highOf 46 = .ok (.iaload, 1) := by decide +kernel
theorem dX6_highOf_47 : decode cX6_highOf 47 = .ok (.imul, 1) := by decide +kernel
theorem dX6_highOf_48 : decode cX6_highOf 48 = .ok (.iconst 1, 1) := by decide +kernel
theorem dX6_highOf_49 : decode cX6_highOf 49 = .ok (.if_icmp .ne 13, 3) := by decide +kernel
theorem dX6_highOf_52 : decode cX6_highOf 52 = .ok (.iload_n 3, 1) := by decide +kernel
theorem dX6_highOf_53 : decode cX6_highOf 53 = .ok (.ifCond .ne 6, 3) := by decide +kernel
theorem dX6_highOf_56 : decode cX6_highOf 56 = .ok (.iload 5, 2) := by decide +kernel
theorem dX6_highOf_58 : decode cX6_highOf 58 = .ok (.ireturn, 1) := by decide +kernel
theorem dX6_highOf_59 : decode cX6_highOf 59 = .ok (.iinc 3 (-1), 3) := by decide +kernel
theorem dX6_highOf_62 : decode cX6_highOf 62 = .ok (.iinc 5 1, 3) := by decide +kernel
theorem dX6_highOf_65 : decode cX6_highOf 65 = .ok (.goto (-44), 3) := by decide +kernel
theorem dX6_highOf_68 : decode cX6_highOf 68 = .ok (.iinc 4 1, 3) := by decide +kernel
theorem dX6_highOf_71 : decode cX6_highOf 71 = .ok (.goto (-66), 3) := by decide +kernel
theorem dX6_highOf_74 : decode cX6_highOf 74 = .ok (.iconst (-1), 1) := by decide +kernel
theorem dX6_highOf_75 : decode cX6_highOf 75 = .ok (.ireturn, 1) := by decide +kernel
theorem dX6_spansOf_0 : decode cX6_spansOf 0 = .ok (.aload_n 0, 1) := by decide +kernel
theorem dX6_spansOf_1 : decode cX6_spansOf 1 = .ok (.iload_n 1, 1) := by decide +kernel
theorem dX6_spansOf_2 : decode cX6_spansOf 2 = .ok (.invokestatic 68, 3) := by decide +kernel
theorem dX6_spansOf_5 : decode cX6_spansOf 5 = .ok (.istore_n 2, 1) := by decide +kernel
theorem dX6_spansOf_6 : decode cX6_spansOf 6 = .ok (.iload_n 2, 1) := by decide +kernel
theorem dX6_spansOf_7 : decode cX6_spansOf 7 = .ok (.iload_n 2, 1) := by decide +kernel
theorem dX6_spansOf_8 : decode cX6_spansOf 8 = .ok (.iconst 1, 1) := by decide +kernel
theorem dX6_spansOf_9 : decode cX6_spansOf 9 = .ok (.isub, 1) := by decide +kernel
theorem dX6_spansOf_10 : decode cX6_spansOf 10 = .ok (.imul, 1) := by decide +kernel
theorem dX6_spansOf_11 : decode cX6_spansOf 11 = .ok (.iconst 2, 1) := by decide +kernel
theorem dX6_spansOf_12 : decode cX6_spansOf 12 = .ok (.idiv, 1) := by decide +kernel
theorem dX6_spansOf_13 : decode cX6_spansOf 13 = .ok (.ireturn, 1) := by decide +kernel
theorem dX6_findFar_0 : decode cX6_findFar 0 = .ok (.iconst 0, 1) := by decide +kernel
theorem dX6_findFar_1 : decode cX6_findFar 1 = .ok (.istore_n 2, 1) := by decide +kernel
theorem dX6_findFar_2 : decode cX6_findFar 2 = .ok (.iload_n 2, 1) := by decide +kernel
theorem dX6_findFar_3 : decode cX6_findFar 3 = .ok (.sipush 200, 3) := by decide +kernel
theorem dX6_findFar_6 : decode cX6_findFar 6 = .ok (.if_icmp .gt 16, 3) := by decide +kernel
theorem dX6_findFar_9 : decode cX6_findFar 9 = .ok (.aload_n 0, 1) := by decide +kernel
theorem dX6_findFar_10 : decode cX6_findFar 10 = .ok (.getfield 32, 3) := by decide +kernel
theorem dX6_findFar_13 : decode cX6_findFar 13 = .ok (.iload_n 2, 1) := by decide +kernel
theorem dX6_findFar_14 : decode cX6_findFar 14 = .ok (.iconst (-1), 1) := by decide +kernel
theorem dX6_findFar_15 : decode cX6_findFar 15 = .ok (.iastore, 1) := by decide +kernel
theorem dX6_findFar_16 : decode cX6_findFar 16 = .ok (.iinc 2 1, 3) := by decide +kernel
theorem dX6_findFar_19 : decode cX6_findFar 19 = .ok (.goto (-17), 3) := by decide +kernel
theorem dX6_findFar_22 : decode cX6_findFar 22 = .ok (.aload_n 0, 1) := by decide +kernel
theorem dX6_findFar_23 : decode cX6_findFar 23 = .ok (.getfield 32, 3) := by decide +kernel
theorem dX6_findFar_26 : decode cX6_findFar 26 = .ok (.iload_n 1, 1) := by decide +kernel
theorem dX6_findFar_27 : decode cX6_findFar 27 = .ok (.iconst 0, 1) := by decide +kernel
theorem dX6_findFar_28 : decode cX6_findFar 28 = .ok (.iastore, 1) := by decide +kernel
theorem dX6_findFar_29 : decode cX6_findFar 29 = .ok (.aload_n 0, 1) := by decide +kernel
theorem dX6_findFar_30 : decode cX6_findFar 30 = .ok (.getfield 35, 3) := by decide +kernel
theorem dX6_findFar_33 : decode cX6_findFar 33 = .ok (.iconst 0, 1) := by decide +kernel
theorem dX6_findFar_34 : decode cX6_findFar 34 = .ok (.iload_n 1, 1) := by decide +kernel
theorem dX6_findFar_35 : decode cX6_findFar 35 = .ok (.iastore, 1) := by decide +kernel
theorem dX6_findFar_36 : decode cX6_findFar 36 = .ok (.iconst 1, 1) := by decide +kernel
theorem dX6_findFar_37 : decode cX6_findFar 37 = .ok (.istore_n 2, 1) := by decide +kernel
theorem dX6_findFar_38 : decode cX6_findFar 38 = .ok (.iconst 0, 1) := by decide +kernel
theorem dX6_findFar_39 : decode cX6_findFar 39 = .ok (.istore_n 3, 1) := by decide +kernel
theorem dX6_findFar_40 : decode cX6_findFar 40 = .ok (.iload_n 3, 1) := by decide +kernel
theorem dX6_findFar_41 : decode cX6_findFar 41 = .ok (.iload_n 2, 1) := by decide +kernel
theorem dX6_findFar_42 : decode cX6_findFar 42 = .ok (.if_icmp .ge 125, 3) := by decide +kernel
theorem dX6_findFar_45 : decode cX6_findFar 45 = .ok (.bipush (-40), 2) := by decide +kernel
theorem dX6_findFar_47 : decode cX6_findFar 47 = .ok (.istore 4, 2) := by decide +kernel
theorem dX6_findFar_49 : decode cX6_findFar 49 = .ok (.iload 4, 2) := by decide +kernel
theorem dX6_findFar_51 : decode cX6_findFar 51 = .ok (.bipush 40, 2) := by decide +kernel
theorem dX6_findFar_53 : decode cX6_findFar 53 = .ok (.if_icmp .gt 108, 3) := by decide +kernel
theorem dX6_findFar_56 : decode cX6_findFar 56 = .ok (.aload_n 0, 1) := by decide +kernel
theorem dX6_findFar_57 : decode cX6_findFar 57 = .ok (.getfield 35, 3) := by decide +kernel
theorem dX6_findFar_60 : decode cX6_findFar 60 = .ok (.iload_n 3, 1) := by decide +kernel
theorem dX6_findFar_61 : decode cX6_findFar 61 = .ok (.iaload, 1) := by decide +kernel
theorem dX6_findFar_62 : decode cX6_findFar 62 = .ok (.iload 4, 2) := by decide +kernel
theorem dX6_findFar_64 : decode cX6_findFar 64 = .ok (.iadd, 1) := by decide +kernel
theorem dX6_findFar_65 : decode cX6_findFar 65 = .ok (.istore 5, 2) := by decide +kernel
theorem dX6_findFar_67 : decode cX6_findFar 67 = .ok (.iload 5, 2) := by decide +kernel
theorem dX6_findFar_69 : decode cX6_findFar 69 = .ok (.i2l, 1) := by decide +kernel
theorem dX6_findFar_70 : decode cX6_findFar 70 = .ok (.lconst 0, 1) := by decide +kernel
theorem dX6_findFar_71 : decode cX6_findFar 71 = .ok (.ldc2_w 78, 3) := by decide +kernel
theorem dX6_findFar_74 : decode cX6_findFar 74 = .ok (.invokestatic 46, 3) := by decide +kernel
theorem dX6_findFar_77 : decode cX6_findFar 77 = .ok (.ifCond .eq 39, 3) := by decide +kernel
theorem dX6_findFar_80 : decode cX6_findFar 80 = .ok (.aload_n 0, 1) := by decide +kernel
theorem dX6_findFar_81 : decode cX6_findFar 81 = .ok (.getfield 29, 3) := by decide +kernel
theorem dX6_findFar_84 : decode cX6_findFar 84 = .ok (.iload 4, 2) := by decide +kernel
theorem dX6_findFar_86 : decode cX6_findFar 86 = .ok (.ifCond .ge 9, 3) := by decide +kernel
theorem dX6_findFar_89 : decode cX6_findFar 89 = .ok (.iload 4, 2) := by decide +kernel
theorem dX6_findFar_91 : decode cX6_findFar 91 = .ok (.ineg, 1) := by decide +kernel
theorem dX6_findFar_92 : decode cX6_findFar 92 = .ok (.goto 5, 3) := by decide +kernel
theorem dX6_findFar_95 : decode cX6_findFar 95 = .ok (.iload 4, 2) := by decide +kernel
theorem dX6_findFar_97 : decode cX6_findFar 97 = .ok (.iaload, 1) := by decide +kernel
theorem dX6_findFar_98 : decode cX6_findFar 98 = .ok (.ifCond .le 18, 3) := by decide +kernel
theorem dX6_findFar_101 : decode cX6_findFar 101 = .ok (.aload_n 0, 1) := by decide +kernel
theorem dX6_findFar_102 : decode cX6_findFar 102 = .ok (.getfield 32, 3) := by decide +kernel
theorem dX6_findFar_105 : decode cX6_findFar 105 = .ok (.iload 5, 2) := by decide +kernel
theorem dX6_findFar_107 : decode cX6_findFar 107 = .ok (.iaload, 1) := by decide +kernel
theorem dX6_findFar_108 : decode cX6_findFar 108 = .ok (.iconst (-1), 1) := by decide +kernel
theorem dX6_findFar_109 : decode cX6_findFar 109 = .ok (.if_icmp .ne 7, 3) := by decide +kernel
theorem dX6_findFar_112 : decode cX6_findFar 112 = .ok (.iconst 1, 1) := by decide +kernel
theorem dX6_findFar_113 : decode cX6_findFar 113 = .ok (.goto 4, 3) := by decide +kernel
theorem dX6_findFar_116 : decode cX6_findFar 116 = .ok (.iconst 0, 1) := by decide +kernel
theorem dX6_findFar_117 : decode cX6_findFar 117 = .ok (.istore 6, 2) := by decide +kernel
theorem dX6_findFar_119 : decode cX6_findFar 119 = .ok (.iload 6, 2) := by decide +kernel
theorem dX6_findFar_121 : decode cX6_findFar 121 = .ok (.ifCond .eq 34, 3) := by decide +kernel
theorem dX6_findFar_124 : decode cX6_findFar 124 = .ok (.aload_n 0, 1) := by decide +kernel
theorem dX6_findFar_125 : decode cX6_findFar 125 = .ok (.getfield 32, 3) := by decide +kernel
theorem dX6_findFar_128 : decode cX6_findFar 128 = .ok (.iload 5, 2) := by decide +kernel
theorem dX6_findFar_130 : decode cX6_findFar 130 = .ok (.aload_n 0, 1) := by decide +kernel
theorem dX6_findFar_131 : decode cX6_findFar 131 = .ok (.getfield 32, 3) := by decide +kernel
theorem dX6_findFar_134 : decode cX6_findFar 134 = .ok (.aload_n 0, 1) := by decide +kernel
theorem dX6_findFar_135 : decode cX6_findFar 135 = .ok (.getfield 35, 3) := by decide +kernel
theorem dX6_findFar_138 : decode cX6_findFar 138 = .ok (.iload_n 3, 1) := by decide +kernel
theorem dX6_findFar_139 : decode cX6_findFar 139 = .ok (.iaload, 1) := by decide +kernel
theorem dX6_findFar_140 : decode cX6_findFar 140 = .ok (.iaload, 1) := by decide +kernel
theorem dX6_findFar_141 : decode cX6_findFar 141 = .ok (.iconst 1, 1) := by decide +kernel
theorem dX6_findFar_142 : decode cX6_findFar 142 = .ok (.iadd, 1) := by decide +kernel
theorem dX6_findFar_143 : decode cX6_findFar 143 = .ok (.iastore, 1) := by decide +kernel
theorem dX6_findFar_144 : decode cX6_findFar 144 = .ok (.aload_n 0, 1) := by decide +kernel
theorem dX6_findFar_145 : decode cX6_findFar 145 = .ok (.getfield 35, 3) := by decide +kernel
theorem dX6_findFar_148 : decode cX6_findFar 148 = .ok (.iload_n 2, 1) := by decide +kernel
theorem dX6_findFar_149 : decode cX6_findFar 149 = .ok (.iload 5, 2) := by decide +kernel
theorem dX6_findFar_151 : decode cX6_findFar 151 = .ok (.iastore, 1) := by decide +kernel
theorem dX6_findFar_152 : decode cX6_findFar 152 = .ok (.iinc 2 1, 3) := by decide +kernel
theorem dX6_findFar_155 : decode cX6_findFar 155 = .ok (.iinc 4 1, 3) := by decide +kernel
theorem dX6_findFar_158 : decode cX6_findFar 158 = .ok (.goto (-109), 3) := by decide +kernel
theorem dX6_findFar_161 : decode cX6_findFar 161 = .ok (.iinc 3 1, 3) := by decide +kernel
theorem dX6_findFar_164 : decode cX6_findFar 164 = .ok (.goto (-124), 3) := by decide +kernel
theorem dX6_findFar_167 : decode cX6_findFar 167 = .ok (.return_, 1) := by decide +kernel
theorem dX6_isLaid_0 : decode cX6_isLaid 0 = .ok (.iload_n 0, 1) := by decide +kernel
theorem dX6_isLaid_1 : decode cX6_isLaid 1 = .ok (.i2l, 1) := by decide +kernel
theorem dX6_isLaid_2 : decode cX6_isLaid 2 = .ok (.lconst 0, 1) := by decide +kernel
theorem dX6_isLaid_3 : decode cX6_isLaid 3 = .ok (.iload_n 1, 1) := by decide +kernel
theorem dX6_isLaid_4 : decode cX6_isLaid 4 = .ok (.i2l, 1) := by decide +kernel
theorem dX6_isLaid_5 : decode cX6_isLaid 5 = .ok (.invokestatic 46, 3) := by decide +kernel
theorem dX6_isLaid_8 : decode cX6_isLaid 8 = .ok (.ireturn, 1) := by decide +kernel
theorem dX6_laid_0 : decode cX6_laid 0 = .ok (.aload_n 0, 1) := by decide +kernel
theorem dX6_laid_1 : decode cX6_laid 1 = .ok (.aload_n 1, 1) := by decide +kernel
theorem dX6_laid_2 : decode cX6_laid 2 = .ok (.invokevirtual 80, 3) := by decide +kernel
theorem dX6_laid_5 : decode cX6_laid 5 = .ok (.aload_n 0, 1) := by decide +kernel
theorem dX6_laid_6 : decode cX6_laid 6 = .ok (.iconst 0, 1) := by decide +kernel
theorem dX6_laid_7 : decode cX6_laid 7 = .ok (.invokevirtual 83, 3) := by decide +kernel
theorem dX6_laid_10 : decode cX6_laid 10 = .ok (.iconst 0, 1) := by decide +kernel
theorem dX6_laid_11 : decode cX6_laid 11 = .ok (.istore_n 2, 1) := by decide +kernel
theorem dX6_laid_12 : decode cX6_laid 12 = .ok (.iconst 1, 1) := by decide +kernel
theorem dX6_laid_13 : decode cX6_laid 13 = .ok (.istore_n 3, 1) := by decide +kernel
theorem dX6_laid_14 : decode cX6_laid 14 = .ok (.iload_n 3, 1) := by decide +kernel
theorem dX6_laid_15 : decode cX6_laid 15 = .ok (.aload_n 1, 1) := by decide +kernel
theorem dX6_laid_16 : decode cX6_laid 16 = .ok (.iconst 2, 1) := by decide +kernel
theorem dX6_laid_17 : decode cX6_laid 17 = .ok (.iaload, 1) := by decide +kernel
theorem dX6_laid_18 : decode cX6_laid 18 = .ok (.if_icmp .gt 32, 3) := by decide +kernel
theorem dX6_laid_21 : decode cX6_laid 21 = .ok (.iload_n 2, 1) := by decide +kernel
theorem dX6_laid_22 : decode cX6_laid 22 = .ok (.aload_n 0, 1) := by decide +kernel
theorem dX6_laid_23 : decode cX6_laid 23 = .ok (.getfield 32, 3) := by decide +kernel
theorem dX6_laid_26 : decode cX6_laid 26 = .ok (.iload_n 3, 1) := by decide +kernel
theorem dX6_laid_27 : decode cX6_laid 27 = .ok (.iaload, 1) := by decide +kernel
theorem dX6_laid_28 : decode cX6_laid 28 = .ok (.aload_n 1, 1) := by decide +kernel
theorem dX6_laid_29 : decode cX6_laid 29 = .ok (.iconst 1, 1) := by decide +kernel
theorem dX6_laid_30 : decode cX6_laid 30 = .ok (.iaload, 1) := by decide +kernel
theorem dX6_laid_31 : decode cX6_laid 31 = .ok (.invokestatic 87, 3) := by decide +kernel
theorem dX6_laid_34 : decode cX6_laid 34 = .ok (.ifCond .eq 7, 3) := by decide +kernel
theorem dX6_laid_37 : decode cX6_laid 37 = .ok (.iconst 1, 1) := by decide +kernel
theorem dX6_laid_38 : decode cX6_laid 38 = .ok (.goto 4, 3) := by decide +kernel
theorem dX6_laid_41 : decode cX6_laid 41 = .ok (.iconst 0, 1) := by decide +kernel
theorem dX6_laid_42 : decode cX6_laid 42 = .ok (.iadd, 1) := by decide +kernel
theorem dX6_laid_43 : decode cX6_laid 43 = .ok (.istore_n 2, 1) := by decide +kernel
theorem dX6_laid_44 : decode cX6_laid 44 = .ok (.iinc 3 1, 3) := by decide +kernel
theorem dX6_laid_47 : decode cX6_laid 47 = .ok (.goto (-33), 3) := by decide +kernel
theorem dX6_laid_50 : decode cX6_laid 50 = .ok (.iload_n 2, 1) := by decide +kernel
theorem dX6_laid_51 : decode cX6_laid 51 = .ok (.ireturn, 1) := by decide +kernel
theorem dX6_begins_0 : decode cX6_begins 0 = .ok (.aload_n 1, 1) := by decide +kernel
theorem dX6_begins_1 : decode cX6_begins 1 = .ok (.iload_n 2, 1) := by decide +kernel
theorem dX6_begins_2 : decode cX6_begins 2 = .ok (.iaload, 1) := by decide +kernel
theorem dX6_begins_3 : decode cX6_begins 3 = .ok (.aload_n 0, 1) := by decide +kernel
theorem dX6_begins_4 : decode cX6_begins 4 = .ok (.iconst 1, 1) := by decide +kernel
theorem dX6_begins_5 : decode cX6_begins 5 = .ok (.iaload, 1) := by decide +kernel
theorem dX6_begins_6 : decode cX6_begins 6 = .ok (.invokestatic 87, 3) := by decide +kernel
theorem dX6_begins_9 : decode cX6_begins 9 = .ok (.ifCond .ne 26, 3) := by decide +kernel
theorem dX6_begins_12 : decode cX6_begins 12 = .ok (.iload_n 2, 1) := by decide +kernel
theorem dX6_begins_13 : decode cX6_begins 13 = .ok (.iconst 1, 1) := by decide +kernel
theorem dX6_begins_14 : decode cX6_begins 14 = .ok (.if_icmp .eq 17, 3) := by decide +kernel
theorem dX6_begins_17 : decode cX6_begins 17 = .ok (.aload_n 1, 1) := by decide +kernel
theorem dX6_begins_18 : decode cX6_begins 18 = .ok (.iload_n 2, 1) := by decide +kernel
theorem dX6_begins_19 : decode cX6_begins 19 = .ok (.iconst 1, 1) := by decide +kernel
theorem dX6_begins_20 : decode cX6_begins 20 = .ok (.isub, 1) := by decide +kernel
theorem dX6_begins_21 : decode cX6_begins 21 = .ok (.iaload, 1) := by decide +kernel
theorem dX6_begins_22 : decode cX6_begins 22 = .ok (.aload_n 0, 1) := by decide +kernel
theorem dX6_begins_23 : decode cX6_begins 23 = .ok (.iconst 1, 1) := by decide +kernel
theorem dX6_begins_24 : decode cX6_begins 24 = .ok (.iaload, 1) := by decide +kernel
theorem dX6_begins_25 : decode cX6_begins 25 = .ok (.invokestatic 87, 3) := by decide +kernel
theorem dX6_begins_28 : decode cX6_begins 28 = .ok (.ifCond .eq 7, 3) := by decide +kernel
theorem dX6_begins_31 : decode cX6_begins 31 = .ok (.iconst 1, 1) := by decide +kernel
theorem dX6_begins_32 : decode cX6_begins 32 = .ok (.goto 4, 3) := by decide +kernel
theorem dX6_begins_35 : decode cX6_begins 35 = .ok (.iconst 0, 1) := by decide +kernel
theorem dX6_begins_36 : decode cX6_begins 36 = .ok (.ireturn, 1) := by decide +kernel
theorem dX6_gaps_0 : decode cX6_gaps 0 = .ok (.aload_n 0, 1) := by decide +kernel
theorem dX6_gaps_1 : decode cX6_gaps 1 = .ok (.aload_n 1, 1) := by decide +kernel
theorem dX6_gaps_2 : decode cX6_gaps 2 = .ok (.invokevirtual 91, 3) := by decide +kernel
theorem dX6_gaps_5 : decode cX6_gaps 5 = .ok (.pop, 1) := by decide +kernel
theorem dX6_gaps_6 : decode cX6_gaps 6 = .ok (.iconst 0, 1) := by decide +kernel
theorem dX6_gaps_7 : decode cX6_gaps 7 = .ok (.istore_n 2, 1) := by decide +kernel
theorem dX6_gaps_8 : decode cX6_gaps 8 = .ok (.iconst 1, 1) := by decide +kernel
theorem dX6_gaps_9 : decode cX6_gaps 9 = .ok (.istore_n 3, 1) := by decide +kernel
theorem dX6_gaps_10 : decode cX6_gaps 10 = .ok (.iload_n 3, 1) := by decide +kernel
theorem dX6_gaps_11 : decode cX6_gaps 11 = .ok (.aload_n 1, 1) := by decide +kernel
theorem dX6_gaps_12 : decode cX6_gaps 12 = .ok (.iconst 2, 1) := by decide +kernel
theorem dX6_gaps_13 : decode cX6_gaps 13 = .ok (.iaload, 1) := by decide +kernel
theorem dX6_gaps_14 : decode cX6_gaps 14 = .ok (.if_icmp .gt 29, 3) := by decide +kernel
theorem dX6_gaps_17 : decode cX6_gaps 17 = .ok (.iload_n 2, 1) := by decide +kernel
theorem dX6_gaps_18 : decode cX6_gaps 18 = .ok (.aload_n 1, 1) := by decide +kernel
theorem dX6_gaps_19 : decode cX6_gaps 19 = .ok (.aload_n 0, 1) := by decide +kernel
theorem dX6_gaps_20 : decode cX6_gaps 20 = .ok (.getfield 32, 3) := by decide +kernel
theorem dX6_gaps_23 : decode cX6_gaps 23 = .ok (.iload_n 3, 1) := by decide +kernel
theorem dX6_gaps_24 : decode cX6_gaps 24 = .ok (.invokestatic 95, 3) := by decide +kernel
theorem dX6_gaps_27 : decode cX6_gaps 27 = .ok (.ifCond .eq 7, 3) := by decide +kernel
theorem dX6_gaps_30 : decode cX6_gaps 30 = .ok (.iconst 1, 1) := by decide +kernel
theorem dX6_gaps_31 : decode cX6_gaps 31 = .ok (.goto 4, 3) := by decide +kernel
theorem dX6_gaps_34 : decode cX6_gaps 34 = .ok (.iconst 0, 1) := by decide +kernel
theorem dX6_gaps_35 : decode cX6_gaps 35 = .ok (.iadd, 1) := by decide +kernel
theorem dX6_gaps_36 : decode cX6_gaps 36 = .ok (.istore_n 2, 1) := by decide +kernel
theorem dX6_gaps_37 : decode cX6_gaps 37 = .ok (.iinc 3 1, 3) := by decide +kernel
theorem dX6_gaps_40 : decode cX6_gaps 40 = .ok (.goto (-30), 3) := by decide +kernel
theorem dX6_gaps_43 : decode cX6_gaps 43 = .ok (.iload_n 2, 1) := by decide +kernel
theorem dX6_gaps_44 : decode cX6_gaps 44 = .ok (.ireturn, 1) := by decide +kernel
theorem dX6_rulerOn_0 : decode cX6_rulerOn 0 = .ok (.aload_n 0, 1) := by decide +kernel
theorem dX6_rulerOn_1 : decode cX6_rulerOn 1 = .ok (.iconst 0, 1) := by decide +kernel
theorem dX6_rulerOn_2 : decode cX6_rulerOn 2 = .ok (.iaload, 1) := by decide +kernel
theorem dX6_rulerOn_3 : decode cX6_rulerOn 3 = .ok (.istore_n 2, 1) := by decide +kernel
theorem dX6_rulerOn_4 : decode cX6_rulerOn 4 = .ok (.aload_n 0, 1) := by decide +kernel
theorem dX6_rulerOn_5 : decode cX6_rulerOn 5 = .ok (.iconst 3, 1) := by decide +kernel
theorem dX6_rulerOn_6 : decode cX6_rulerOn 6 = .ok (.bipush 42, 2) := by decide +kernel
theorem dX6_rulerOn_8 : decode cX6_rulerOn 8 = .ok (.iload_n 2, 1) := by decide +kernel
theorem dX6_rulerOn_9 : decode cX6_rulerOn 9 = .ok (.imul, 1) := by decide +kernel
theorem dX6_rulerOn_10 : decode cX6_rulerOn 10 = .ok (.iadd, 1) := by decide +kernel
theorem dX6_rulerOn_11 : decode cX6_rulerOn 11 = .ok (.iload_n 1, 1) := by decide +kernel
theorem dX6_rulerOn_12 : decode cX6_rulerOn 12 = .ok (.iastore, 1) := by decide +kernel
theorem dX6_rulerOn_13 : decode cX6_rulerOn 13 = .ok (.iconst 0, 1) := by decide +kernel
theorem dX6_rulerOn_14 : decode cX6_rulerOn 14 = .ok (.istore_n 3, 1) := by decide +kernel
theorem dX6_rulerOn_15 : decode cX6_rulerOn 15 = .ok (.iload_n 3, 1) := by decide +kernel
