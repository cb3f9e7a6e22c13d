theorem dX12_crusts_43 : decode cX12_crusts 43 = .ok (.getfield 13, 3) := by decide +kernel
theorem dX12_crusts_46 : decode cX12_crusts 46 = .ok (.bipush 6, 2) := by decide +kernel
theorem dX12_crusts_48 : decode cX12_crusts 48 = .ok (.iconst 0, 1) := by decide +kernel
theorem dX12_crusts_49 : decode cX12_crusts 49 = .ok (.iastore, 1) := by decide +kernel
theorem dX12_crusts_50 : decode cX12_crusts 50 = .ok (.aload_n 0, 1) := by decide +kernel
theorem dX12_crusts_51 : decode cX12_crusts 51 = .ok (.getfield 13, 3) := by decide +kernel
theorem dX12_crusts_54 : decode cX12_crusts 54 = .ok (.bipush 7, 2) := by decide +kernel
theorem dX12_crusts_56 : decode cX12_crusts 56 = .ok (.sipush 9999, 3) := by decide +kernel
theorem dX12_crusts_59 : decode cX12_crusts 59 = .ok (.aload_n 0, 1) := by decide +kernel
theorem dX12_crusts_60 : decode cX12_crusts 60 = .ok (.getfield 13, 3) := by decide +kernel
theorem dX12_crusts_63 : decode cX12_crusts 63 = .ok (.bipush 7, 2) := by decide +kernel
theorem dX12_crusts_65 : decode cX12_crusts 65 = .ok (.iaload, 1) := by decide +kernel
theorem dX12_crusts_66 : decode cX12_crusts 66 = .ok (.iconst 1, 1) := by decide +kernel
theorem dX12_crusts_67 : decode cX12_crusts 67 = .ok (.iadd, 1) := by decide +kernel
theorem dX12_crusts_68 : decode cX12_crusts 68 = .ok (.invokestatic 259, 3) := by decide +kernel
theorem dX12_crusts_71 : decode cX12_crusts 71 = .ok (.iastore, 1) := by decide +kernel
theorem dX12_crusts_72 : decode cX12_crusts 72 = .ok (.return_, 1) := by decide +kernel
theorem dX12_oneEvening_0 : decode cX12_oneEvening 0 = .ok (.iconst 1, 1) := by decide +kernel
theorem dX12_oneEvening_1 : decode cX12_oneEvening 1 = .ok (.aload_n 0, 1) := by decide +kernel
theorem dX12_oneEvening_2 : decode cX12_oneEvening 2 = .ok (.iconst 4, 1) := by decide +kernel
theorem dX12_oneEvening_3 : decode cX12_oneEvening 3 = .ok (.invokevirtual 299, 3) := by decide +kernel
theorem dX12_oneEvening_6 : decode cX12_oneEvening 6 = .ok (.iadd, 1) := by decide +kernel
theorem dX12_oneEvening_7 : decode cX12_oneEvening 7 = .ok (.istore_n 1, 1) := by decide +kernel
theorem dX12_oneEvening_8 : decode cX12_oneEvening 8 = .ok (.iconst 0, 1) := by decide +kernel
theorem dX12_oneEvening_9 : decode cX12_oneEvening 9 = .ok (.istore_n 2, 1) := by decide +kernel
theorem dX12_oneEvening_10 : decode cX12_oneEvening 10 = .ok (.iconst 0, 1) := by decide +kernel
theorem dX12_oneEvening_11 : decode cX12_oneEvening 11 = .ok (.istore_n 3, 1) := by decide +kernel
theorem dX12_oneEvening_12 : decode cX12_oneEvening 12 = .ok (.iload_n 3, 1) := by decide +kernel
theorem dX12_oneEvening_13 : decode cX12_oneEvening 13 = .ok (.iload_n 1, 1) := by decide +kernel
theorem dX12_oneEvening_14 : decode cX12_oneEvening 14 = .ok (.if_icmp .ge 40, 3) := by decide +kernel
theorem dX12_oneEvening_17 : decode cX12_oneEvening 17 = .ok (.aload_n 0, 1) := by decide +kernel
theorem dX12_oneEvening_18 : decode cX12_oneEvening 18 = .ok (.invokevirtual 62, 3) := by decide +kernel
theorem dX12_oneEvening_21 : decode cX12_oneEvening 21 = .ok (.ifCond .le 33, 3) := by decide +kernel
theorem dX12_oneEvening_24 : decode cX12_oneEvening 24 = .ok (.iload_n 2, 1) := by decide +kernel
theorem dX12_oneEvening_25 : decode cX12_oneEvening 25 = .ok (.aload_n 0, 1) := by decide +kernel
theorem dX12_oneEvening_26 : decode cX12_oneEvening 26 = .ok (.aload_n 0, 1) := by decide +kernel
theorem dX12_oneEvening_27 : decode cX12_oneEvening 27 = .ok (.aload_n 0, 1) := by decide +kernel
theorem dX12_oneEvening_28 : decode cX12_oneEvening 28 = .ok (.invokevirtual 62, 3) := by decide +kernel
theorem dX12_oneEvening_31 : decode cX12_oneEvening 31 = .ok (.invokevirtual 299, 3) := by decide +kernel
theorem dX12_oneEvening_34 : decode cX12_oneEvening 34 = .ok (.invokevirtual 302, 3) := by decide +kernel
theorem dX12_oneEvening_37 : decode cX12_oneEvening 37 = .ok (.iconst (-1), 1) := by decide +kernel
theorem dX12_oneEvening_38 : decode cX12_oneEvening 38 = .ok (.if_icmp .ne 7, 3) := by decide +kernel
theorem dX12_oneEvening_41 : decode cX12_oneEvening 41 = .ok (.iconst 0, 1) := by decide +kernel
theorem dX12_oneEvening_42 : decode cX12_oneEvening 42 = .ok (.goto 4, 3) := by decide +kernel
theorem dX12_oneEvening_45 : decode cX12_oneEvening 45 = .ok (.iconst 1, 1) := by decide +kernel
theorem dX12_oneEvening_46 : decode cX12_oneEvening 46 = .ok (.iadd, 1) := by decide +kernel
theorem dX12_oneEvening_47 : decode cX12_oneEvening 47 = .ok (.istore_n 2, 1) := by decide +kernel
theorem dX12_oneEvening_48 : decode cX12_oneEvening 48 = .ok (.iinc 3 1, 3) := by decide +kernel
theorem dX12_oneEvening_51 : decode cX12_oneEvening 51 = .ok (.goto (-39), 3) := by decide +kernel
theorem dX12_oneEvening_54 : decode cX12_oneEvening 54 = .ok (.aload_n 0, 1) := by decide +kernel
theorem dX12_oneEvening_55 : decode cX12_oneEvening 55 = .ok (.invokevirtual 305, 3) := by decide +kernel
theorem dX12_oneEvening_58 : decode cX12_oneEvening 58 = .ok (.iload_n 2, 1) := by decide +kernel
theorem dX12_oneEvening_59 : decode cX12_oneEvening 59 = .ok (.ireturn, 1) := by decide +kernel
theorem dX12_goesOn_0 : decode cX12_goesOn 0 = .ok (.iconst 0, 1) := by decide +kernel
theorem dX12_goesOn_1 : decode cX12_goesOn 1 = .ok (.istore_n 2, 1) := by decide +kernel
theorem dX12_goesOn_2 : decode cX12_goesOn 2 = .ok (.iconst 0, 1) := by decide +kernel
theorem dX12_goesOn_3 : decode cX12_goesOn 3 = .ok (.istore_n 3, 1) := by decide +kernel
theorem dX12_goesOn_4 : decode cX12_goesOn 4 = .ok (.iload_n 3, 1) := by decide +kernel
theorem dX12_goesOn_5 : decode cX12_goesOn 5 = .ok (.iload_n 1, 1) := by decide +kernel
theorem dX12_goesOn_6 : decode cX12_goesOn 6 = .ok (.if_icmp .ge 16, 3) := by decide +kernel
theorem dX12_goesOn_9 : decode cX12_goesOn 9 = .ok (.iload_n 2, 1) := by decide +kernel
theorem dX12_goesOn_10 : decode cX12_goesOn 10 = .ok (.aload_n 0, 1) := by decide +kernel
theorem dX12_goesOn_11 : decode cX12_goesOn 11 = .ok (.invokevirtual 308, 3) := by decide +kernel
theorem dX12_goesOn_14 : decode cX12_goesOn 14 = .ok (.iadd, 1) := by decide +kernel
theorem dX12_goesOn_15 : decode cX12_goesOn 15 = .ok (.istore_n 2, 1) := by decide +kernel
theorem dX12_goesOn_16 : decode cX12_goesOn 16 = .ok (.iinc 3 1, 3) := by decide +kernel
theorem dX12_goesOn_19 : decode cX12_goesOn 19 = .ok (.goto (-15), 3) := by decide +kernel
theorem dX12_goesOn_22 : decode cX12_goesOn 22 = .ok (.iload_n 2, 1) := by decide +kernel
theorem dX12_goesOn_23 : decode cX12_goesOn 23 = .ok (.ireturn, 1) := by decide +kernel
theorem dX12_spoon_0 : decode cX12_spoon 0 = .ok (.aload_n 0, 1) := by decide +kernel
theorem dX12_spoon_1 : decode cX12_spoon 1 = .ok (.iconst 0, 1) := by decide +kernel
theorem dX12_spoon_2 : decode cX12_spoon 2 = .ok (.putfield 3, 3) := by decide +kernel
theorem dX12_spoon_5 : decode cX12_spoon 5 = .ok (.aload_n 0, 1) := by decide +kernel
theorem dX12_spoon_6 : decode cX12_spoon 6 = .ok (.aload_n 0, 1) := by decide +kernel
theorem dX12_spoon_7 : decode cX12_spoon 7 = .ok (.iload_n 1, 1) := by decide +kernel
theorem dX12_spoon_8 : decode cX12_spoon 8 = .ok (.invokevirtual 278, 3) := by decide +kernel
theorem dX12_spoon_11 : decode cX12_spoon 11 = .ok (.iconst 1, 1) := by decide +kernel
theorem dX12_spoon_12 : decode cX12_spoon 12 = .ok (.invokevirtual 243, 3) := by decide +kernel
theorem dX12_spoon_15 : decode cX12_spoon 15 = .ok (.ifCond .ne 15, 3) := by decide +kernel
theorem dX12_spoon_18 : decode cX12_spoon 18 = .ok (.aload_n 0, 1) := by decide +kernel
theorem dX12_spoon_19 : decode cX12_spoon 19 = .ok (.aload_n 0, 1) := by decide +kernel
theorem dX12_spoon_20 : decode cX12_spoon 20 = .ok (.invokevirtual 290, 3) := by decide +kernel
theorem dX12_spoon_23 : decode cX12_spoon 23 = .ok (.iconst 2, 1) := by decide +kernel
theorem dX12_spoon_24 : decode cX12_spoon 24 = .ok (.invokevirtual 243, 3) := by decide +kernel
theorem dX12_spoon_27 : decode cX12_spoon 27 = .ok (.ifCond .eq 5, 3) := by decide +kernel
theorem dX12_spoon_30 : decode cX12_spoon 30 = .ok (.iconst 0, 1) := by decide +kernel
theorem dX12_spoon_31 : decode cX12_spoon 31 = .ok (.ireturn, 1) := by decide +kernel
theorem dX12_spoon_32 : decode cX12_spoon 32 = .ok (.aload_n 0, 1) := by decide +kernel
theorem dX12_spoon_33 : decode cX12_spoon 33 = .ok (.invokevirtual 311, 3) := by decide +kernel
theorem dX12_spoon_36 : decode cX12_spoon 36 = .ok (.aload_n 0, 1) := by decide +kernel
theorem dX12_spoon_37 : decode cX12_spoon 37 = .ok (.iload_n 1, 1) := by decide +kernel
theorem dX12_spoon_38 : decode cX12_spoon 38 = .ok (.invokevirtual 302, 3) := by decide +kernel
theorem dX12_spoon_41 : decode cX12_spoon 41 = .ok (.pop, 1) := by decide +kernel
theorem dX12_spoon_42 : decode cX12_spoon 42 = .ok (.aload_n 0, 1) := by decide +kernel
theorem dX12_spoon_43 : decode cX12_spoon 43 = .ok (.getfield 13, 3) := by decide +kernel
theorem dX12_spoon_46 : decode cX12_spoon 46 = .ok (.iconst 4, 1) := by decide +kernel
theorem dX12_spoon_47 : decode cX12_spoon 47 = .ok (.iaload, 1) := by decide +kernel
theorem dX12_spoon_48 : decode cX12_spoon 48 = .ok (.ireturn, 1) := by decide +kernel
theorem dX12_crust_0 : decode cX12_crust 0 = .ok (.aload_n 0, 1) := by decide +kernel
theorem dX12_crust_1 : decode cX12_crust 1 = .ok (.iconst 0, 1) := by decide +kernel
theorem dX12_crust_2 : decode cX12_crust 2 = .ok (.putfield 3, 3) := by decide +kernel
theorem dX12_crust_5 : decode cX12_crust 5 = .ok (.aload_n 0, 1) := by decide +kernel
theorem dX12_crust_6 : decode cX12_crust 6 = .ok (.invokevirtual 311, 3) := by decide +kernel
theorem dX12_crust_9 : decode cX12_crust 9 = .ok (.aload_n 0, 1) := by decide +kernel
theorem dX12_crust_10 : decode cX12_crust 10 = .ok (.invokevirtual 305, 3) := by decide +kernel
theorem dX12_crust_13 : decode cX12_crust 13 = .ok (.aload_n 0, 1) := by decide +kernel
theorem dX12_crust_14 : decode cX12_crust 14 = .ok (.getfield 13, 3) := by decide +kernel
theorem dX12_crust_17 : decode cX12_crust 17 = .ok (.iconst 3, 1) := by decide +kernel
theorem dX12_crust_18 : decode cX12_crust 18 = .ok (.iaload, 1) := by decide +kernel
theorem dX12_crust_19 : decode cX12_crust 19 = .ok (.ireturn, 1) := by decide +kernel
theorem dX12_had_0 : decode cX12_had 0 = .ok (.aload_n 0, 1) := by decide +kernel
theorem dX12_had_1 : decode cX12_had 1 = .ok (.iconst 0, 1) := by decide +kernel
theorem dX12_had_2 : decode cX12_had 2 = .ok (.putfield 3, 3) := by decide +kernel
theorem dX12_had_5 : decode cX12_had 5 = .ok (.aload_n 0, 1) := by decide +kernel
theorem dX12_had_6 : decode cX12_had 6 = .ok (.aload_n 0, 1) := by decide +kernel
theorem dX12_had_7 : decode cX12_had 7 = .ok (.iload_n 1, 1) := by decide +kernel
theorem dX12_had_8 : decode cX12_had 8 = .ok (.invokevirtual 278, 3) := by decide +kernel
theorem dX12_had_11 : decode cX12_had 11 = .ok (.ifCond .ne 10, 3) := by decide +kernel
theorem dX12_had_14 : decode cX12_had 14 = .ok (.iload_n 3, 1) := by decide +kernel
theorem dX12_had_15 : decode cX12_had 15 = .ok (.invokestatic 314, 3) := by decide +kernel
theorem dX12_had_18 : decode cX12_had 18 = .ok (.ifCond .eq 7, 3) := by decide +kernel
theorem dX12_had_21 : decode cX12_had 21 = .ok (.iconst 1, 1) := by decide +kernel
theorem dX12_had_22 : decode cX12_had 22 = .ok (.goto 4, 3) := by decide +kernel
theorem dX12_had_25 : decode cX12_had 25 = .ok (.iconst 0, 1) := by decide +kernel
theorem dX12_had_26 : decode cX12_had 26 = .ok (.iconst 1, 1) := by decide +kernel
theorem dX12_had_27 : decode cX12_had 27 = .ok (.invokevirtual 243, 3) := by decide +kernel
theorem dX12_had_30 : decode cX12_had 30 = .ok (.ifCond .ne 38, 3) := by decide +kernel
theorem dX12_had_33 : decode cX12_had 33 = .ok (.aload_n 0, 1) := by decide +kernel
theorem dX12_had_34 : decode cX12_had 34 = .ok (.iload_n 2, 1) := by decide +kernel
theorem dX12_had_35 : decode cX12_had 35 = .ok (.iconst 0, 1) := by decide +kernel
theorem dX12_had_36 : decode cX12_had 36 = .ok (.sipush 9999, 3) := by decide +kernel
theorem dX12_had_39 : decode cX12_had 39 = .ok (.invokestatic 73, 3) := by decide +kernel
theorem dX12_had_42 : decode cX12_had 42 = .ok (.ifCond .eq 14, 3) := by decide +kernel
theorem dX12_had_45 : decode cX12_had 45 = .ok (.iload 4, 2) := by decide +kernel
theorem dX12_had_47 : decode cX12_had 47 = .ok (.iconst (-1), 1) := by decide +kernel
theorem dX12_had_48 : decode cX12_had 48 = .ok (.bipush 7, 2) := by decide +kernel
theorem dX12_had_50 : decode cX12_had 50 = .ok (.invokestatic 73, 3) := by decide +kernel
theorem dX12_had_53 : decode cX12_had 53 = .ok (.ifCond .ne 7, 3) := by decide +kernel
theorem dX12_had_56 : decode cX12_had 56 = .ok (.iconst 1, 1) := by decide +kernel
theorem dX12_had_57 : decode cX12_had 57 = .ok (.goto 4, 3) := by decide +kernel
theorem dX12_had_60 : decode cX12_had 60 = .ok (.iconst 0, 1) := by decide +kernel
theorem dX12_had_61 : decode cX12_had 61 = .ok (.iconst 2, 1) := by decide +kernel
theorem dX12_had_62 : decode cX12_had 62 = .ok (.invokevirtual 243, 3) := by decide +kernel
theorem dX12_had_65 : decode cX12_had 65 = .ok (.ifCond .eq 5, 3) := by decide +kernel
theorem dX12_had_68 : decode cX12_had 68 = .ok (.iconst 0, 1) := by decide +kernel
theorem dX12_had_69 : decode cX12_had 69 = .ok (.ireturn, 1) := by decide +kernel
theorem dX12_had_70 : decode cX12_had 70 = .ok (.aload_n 0, 1) := by decide +kernel
theorem dX12_had_71 : decode cX12_had 71 = .ok (.invokevirtual 311, 3) := by decide +kernel
theorem dX12_had_74 : decode cX12_had 74 = .ok (.aload_n 0, 1) := by decide +kernel
theorem dX12_had_75 : decode cX12_had 75 = .ok (.iload_n 1, 1) := by decide +kernel
theorem dX12_had_76 : decode cX12_had 76 = .ok (.iconst 5, 1) := by decide +kernel
theorem dX12_had_77 : decode cX12_had 77 = .ok (.invokevirtual 70, 3) := by decide +kernel
theorem dX12_had_80 : decode cX12_had 80 = .ok (.istore 5, 2) := by decide +kernel
theorem dX12_had_82 : decode cX12_had 82 = .ok (.aload_n 0, 1) := by decide +kernel
theorem dX12_had_83 : decode cX12_had 83 = .ok (.getfield 13, 3) := by decide +kernel
theorem dX12_had_86 : decode cX12_had 86 = .ok (.iload_n 1, 1) := by decide +kernel
theorem dX12_had_87 : decode cX12_had 87 = .ok (.iconst 5, 1) := by decide +kernel
theorem dX12_had_88 : decode cX12_had 88 = .ok (.invokestatic 66, 3) := by decide +kernel
theorem dX12_had_91 : decode cX12_had 91 = .ok (.iload_n 2, 1) := by decide +kernel
theorem dX12_had_92 : decode cX12_had 92 = .ok (.iastore, 1) := by decide +kernel
theorem dX12_had_93 : decode cX12_had 93 = .ok (.aload_n 0, 1) := by decide +kernel
theorem dX12_had_94 : decode cX12_had 94 = .ok (.getfield 13, 3) := by decide +kernel
theorem dX12_had_97 : decode cX12_had 97 = .ok (.iload_n 1, 1) := by decide +kernel
theorem dX12_had_98 : decode cX12_had 98 = .ok (.bipush 6, 2) := by decide +kernel
theorem dX12_had_100 : decode cX12_had 100 = .ok (.invokestatic 66, 3) := by decide +kernel
theorem dX12_had_103 : decode cX12_had 103 = .ok (.iload_n 3, 1) := by decide +kernel
theorem dX12_had_104 : decode cX12_had 104 = .ok (.iastore, 1) := by decide +kernel
theorem dX12_had_105 : decode cX12_had 105 = .ok (.aload_n 0, 1) := by decide +kernel
theorem dX12_had_106 : decode cX12_had 106 = .ok (.getfield 13, 3) := by decide +kernel
theorem dX12_had_109 : decode cX12_had 109 = .ok (.iload_n 1, 1) := by decide +kernel
theorem dX12_had_110 : decode cX12_had 110 = .ok (.bipush 7, 2) := by decide +kernel
theorem dX12_had_112 : decode cX12_had 112 = .ok (.invokestatic 66, 3) := by decide +kernel
theorem dX12_had_115 : decode cX12_had 115 = .ok (.iload 4, 2) := by decide +kernel
theorem dX12_had_117 : decode cX12_had 117 = .ok (.iastore, 1) := by decide +kernel
theorem dX12_had_118 : decode cX12_had 118 = .ok (.iload 5, 2) := by decide +kernel
theorem dX12_had_120 : decode cX12_had 120 = .ok (.ireturn, 1) := by decide +kernel
theorem dX12_forget_0 : decode cX12_forget 0 = .ok (.aload_n 0, 1) := by decide +kernel
theorem dX12_forget_1 : decode cX12_forget 1 = .ok (.iconst 0, 1) := by decide +kernel
theorem dX12_forget_2 : decode cX12_forget 2 = .ok (.putfield 3, 3) := by decide +kernel
theorem dX12_forget_5 : decode cX12_forget 5 = .ok (.aload_n 0, 1) := by decide +kernel
theorem dX12_forget_6 : decode cX12_forget 6 = .ok (.aload_n 0, 1) := by decide +kernel
theorem dX12_forget_7 : decode cX12_forget 7 = .ok (.iload_n 1, 1) := by decide +kernel
theorem dX12_forget_8 : decode cX12_forget 8 = .ok (.invokevirtual 278, 3) := by decide +kernel
theorem dX12_forget_11 : decode cX12_forget 11 = .ok (.iconst 1, 1) := by decide +kernel
theorem dX12_forget_12 : decode cX12_forget 12 = .ok (.invokevirtual 243, 3) := by decide +kernel
theorem dX12_forget_15 : decode cX12_forget 15 = .ok (.ifCond .ne 16, 3) := by decide +kernel
theorem dX12_forget_18 : decode cX12_forget 18 = .ok (.aload_n 0, 1) := by decide +kernel
theorem dX12_forget_19 : decode cX12_forget 19 = .ok (.aload_n 0, 1) := by decide +kernel
theorem dX12_forget_20 : decode cX12_forget 20 = .ok (.iload_n 1, 1) := by decide +kernel
theorem dX12_forget_21 : decode cX12_forget 21 = .ok (.invokevirtual 252, 3) := by decide +kernel
theorem dX12_forget_24 : decode cX12_forget 24 = .ok (.iconst 2, 1) := by decide +kernel
theorem dX12_forget_25 : decode cX12_forget 25 = .ok (.invokevirtual 243, 3) := by decide +kernel
theorem dX12_forget_28 : decode cX12_forget 28 = .ok (.ifCond .eq 5, 3) := by decide +kernel
theorem dX12_forget_31 : decode cX12_forget 31 = .ok (.iconst 0, 1) := by decide +kernel
theorem dX12_forget_32 : decode cX12_forget 32 = .ok (.ireturn, 1) := by decide +kernel
theorem dX12_forget_33 : decode cX12_forget 33 = .ok (.aload_n 0, 1) := by decide +kernel
theorem dX12_forget_34 : decode cX12_forget 34 = .ok (.invokevirtual 311, 3) := by decide +kernel
theorem dX12_forget_37 : decode cX12_forget 37 = .ok (.aload_n 0, 1) := by decide +kernel
theorem dX12_forget_38 : decode cX12_forget 38 = .ok (.iload_n 1, 1) := by decide +kernel
theorem dX12_forget_39 : decode cX12_forget 39 = .ok (.iconst 5, 1) := by decide +kernel
theorem dX12_forget_40 : decode cX12_forget 40 = .ok (.invokevirtual 70, 3) := by decide +kernel
theorem dX12_forget_43 : decode cX12_forget 43 = .ok (.istore_n 2, 1) := by decide +kernel
theorem dX12_forget_44 : decode cX12_forget 44 = .ok (.iconst 5, 1) := by decide +kernel
theorem dX12_forget_45 : decode cX12_forget 45 = .ok (.istore_n 3, 1) := by decide +kernel
theorem dX12_forget_46 : decode cX12_forget 46 = .ok (.iload_n 3, 1) := by decide +kernel
theorem dX12_forget_47 : decode cX12_forget 47 = .ok (.bipush 8, 2) := by decide +kernel
theorem dX12_forget_49 : decode cX12_forget 49 = .ok (.if_icmp .ge 20, 3) := by decide +kernel
theorem dX12_forget_52 : decode cX12_forget 52 = .ok (.aload_n 0, 1) := by decide +kernel
theorem dX12_forget_53 : decode cX12_forget 53 = .ok (.getfield 13, 3) := by decide +kernel
theorem dX12_forget_56 : decode cX12_forget 56 = .ok (.iload_n 1, 1) := by decide +kernel
theorem dX12_forget_57 : decode cX12_forget 57 = .ok (.iload_n 3, 1) := by decide +kernel
theorem dX12_forget_58 : decode cX12_forget 58 = .ok (.invokestatic 66, 3) := by decide +kernel
theorem dX12_forget_61 : decode cX12_forget 61 = .ok (.iconst (-1), 1) := by decide +kernel
theorem dX12_forget_62 : decode cX12_forget 62 = .ok (.iastore, 1) := by decide +kernel
theorem dX12_forget_63 : decode cX12_forget 63 = .ok (.iinc 3 1, 3) := by decide +kernel
theorem dX12_forget_66 : decode cX12_forget 66 = .ok (.goto (-20), 3) := by decide +kernel
theorem dX12_forget_69 : decode cX12_forget 69 = .ok (.iload_n 2, 1) := by decide +kernel
theorem dX12_forget_70 : decode cX12_forget 70 = .ok (.ireturn, 1) := by decide +kernel
theorem dX12_reach_0 : decode cX12_reach 0 = .ok (.aload_n 0, 1) := by decide +kernel
theorem dX12_reach_1 : decode cX12_reach 1 = .ok (.iconst 0, 1) := by decide +kernel
theorem dX12_reach_2 : decode cX12_reach 2 = .ok (.putfield 3, 3) := by decide +kernel
theorem dX12_reach_5 : decode cX12_reach 5 = .ok (.aload_n 0, 1) := by decide +kernel
theorem dX12_reach_6 : decode cX12_reach 6 = .ok (.iload_n 1, 1) := by decide +kernel
theorem dX12_reach_7 : decode cX12_reach 7 = .ok (.iconst 0, 1) := by decide +kernel
theorem dX12_reach_8 : decode cX12_reach 8 = .ok (.bipush 45, 2) := by decide +kernel
theorem dX12_reach_10 : decode cX12_reach 10 = .ok (.invokestatic 73, 3) := by decide +kernel
theorem dX12_reach_13 : decode cX12_reach 13 = .ok (.ifCond .ne 7, 3) := by decide +kernel
theorem dX12_reach_16 : decode cX12_reach 16 = .ok (.iconst 1, 1) := by decide +kernel
theorem dX12_reach_17 : decode cX12_reach 17 = .ok (.goto 4, 3) := by decide +kernel
theorem dX12_reach_20 : decode cX12_reach 20 = .ok (.iconst 0, 1) := by decide +kernel
theorem dX12_reach_21 : decode cX12_reach 21 = .ok (.iconst 1, 1) := by decide +kernel
theorem dX12_reach_22 : decode cX12_reach 22 = .ok (.invokevirtual 243, 3) := by decide +kernel
theorem dX12_reach_25 : decode cX12_reach 25 = .ok (.ifCond .eq 5, 3) := by decide +kernel
theorem dX12_reach_28 : decode cX12_reach 28 = .ok (.iconst 0, 1) := by decide +kernel
theorem dX12_reach_29 : decode cX12_reach 29 = .ok (.ireturn, 1) := by decide +kernel
theorem dX12_reach_30 : decode cX12_reach 30 = .ok (.aload_n 0, 1) := by decide +kernel
theorem dX12_reach_31 : decode cX12_reach 31 = .ok (.invokevirtual 311, 3) := by decide +kernel
theorem dX12_reach_34 : decode cX12_reach 34 = .ok (.aload_n 0, 1) := by decide +kernel
theorem dX12_reach_35 : decode cX12_reach 35 = .ok (.getfield 13, 3) := by decide +kernel
theorem dX12_reach_38 : decode cX12_reach 38 = .ok (.bipush 8, 2) := by decide +kernel
theorem dX12_reach_40 : decode cX12_reach 40 = .ok (.iaload, 1) := by decide +kernel
theorem dX12_reach_41 : decode cX12_reach 41 = .ok (.istore_n 2, 1) := by decide +kernel
theorem dX12_reach_42 : decode cX12_reach 42 = .ok (.aload_n 0, 1) := by decide +kernel
theorem dX12_reach_43 : decode cX12_reach 43 = .ok (.getfield 13, 3) := by decide +kernel
theorem dX12_reach_46 : decode cX12_reach 46 = .ok (.bipush 8, 2) := by decide +kernel
theorem dX12_reach_48 : decode cX12_reach 48 = .ok (.iload_n 1, 1) := by decide +kernel
theorem dX12_reach_49 : decode cX12_reach 49 = .ok (.iastore, 1) := by decide +kernel
theorem dX12_reach_50 : decode cX12_reach 50 = .ok (.iload_n 2, 1) := by decide +kernel
theorem dX12_reach_51 : decode cX12_reach 51 = .ok (.ireturn, 1) := by decide +kernel
theorem dX12_house_0 : decode cX12_house 0 = .ok (.aload_n 0, 1) := by decide +kernel
theorem dX12_house_1 : decode cX12_house 1 = .ok (.iconst 0, 1) := by decide +kernel
theorem dX12_house_2 : decode cX12_house 2 = .ok (.putfield 3, 3) := by decide +kernel
theorem dX12_house_5 : decode cX12_house 5 = .ok (.aload_n 0, 1) := by decide +kernel
theorem dX12_house_6 : decode cX12_house 6 = .ok (.iload_n 1, 1) := by decide +kernel
theorem dX12_house_7 : decode cX12_house 7 = .ok (.invokestatic 314, 3) := by decide +kernel
theorem dX12_house_10 : decode cX12_house 10 = .ok (.iconst 1, 1) := by decide +kernel
theorem dX12_house_11 : decode cX12_house 11 = .ok (.invokevirtual 243, 3) := by decide +kernel
theorem dX12_house_14 : decode cX12_house 14 = .ok (.ifCond .eq 5, 3) := by decide +kernel
theorem dX12_house_17 : decode cX12_house 17 = .ok (.iconst 0, 1) := by decide +kernel
theorem dX12_house_18 : decode cX12_house 18 = .ok (.ireturn, 1) := by decide +kernel
theorem dX12_house_19 : decode cX12_house 19 = .ok (.aload_n 0, 1) := by decide +kernel
theorem dX12_house_20 : decode cX12_house 20 = .ok (.invokevirtual 311, 3) := by decide +kernel
theorem dX12_house_23 : decode cX12_house 23 = .ok (.aload_n 0, 1) := by decide +kernel
theorem dX12_house_24 : decode cX12_house 24 = .ok (.getfield 13, 3) := by decide +kernel
theorem dX12_house_27 : decode cX12_house 27 = .ok (.bipush 12, 2) := by decide +kernel
theorem dX12_house_29 : decode cX12_house 29 = .ok (.iaload, 1) := by decide +kernel
theorem dX12_house_30 : decode cX12_house 30 = .ok (.istore_n 2, 1) := by decide +kernel
theorem dX12_house_31 : decode cX12_house 31 = .ok (.aload_n 0, 1) := by decide +kernel
theorem dX12_house_32 : decode cX12_house 32 = .ok (.getfield 13, 3) := by decide +kernel
theorem dX12_house_35 : decode cX12_house 35 = .ok (.bipush 12, 2) := by decide +kernel
theorem dX12_house_37 : decode cX12_house 37 = .ok (.iload_n 1, 1) := by decide +kernel
theorem dX12_house_38 : decode cX12_house 38 = .ok (.iastore, 1) := by decide +kernel
theorem dX12_house_39 : decode cX12_house 39 = .ok (.iload_n 2, 1) := by decide +kernel
theorem dX12_house_40 : decode cX12_house 40 = .ok (.ireturn, 1) := by decide +kernel
theorem dX12_look_0 : decode cX12_look 0 = .ok (.aload_n 0, 1) := by decide +kernel
theorem dX12_look_1 : decode cX12_look 1 = .ok (.iconst 0, 1) := by decide +kernel
theorem dX12_look_2 : decode cX12_look 2 = .ok (.putfield 3, 3) := by decide +kernel
theorem dX12_look_5 : decode cX12_look 5 = .ok (.aload_n 0, 1) := by decide +kernel
theorem dX12_look_6 : decode cX12_look 6 = .ok (.invokevirtual 311, 3) := by decide +kernel
theorem dX12_look_9 : decode cX12_look 9 = .ok (.aload_n 0, 1) := by decide +kernel
theorem dX12_look_10 : decode cX12_look 10 = .ok (.getfield 13, 3) := by decide +kernel
theorem dX12_look_13 : decode cX12_look 13 = .ok (.iconst 4, 1) := by decide +kernel
theorem dX12_look_14 : decode cX12_look 14 = .ok (.iaload, 1) := by decide +kernel
theorem dX12_look_15 : decode cX12_look 15 = .ok (.bipush 10, 2) := by decide +kernel
theorem dX12_look_17 : decode cX12_look 17 = .ok (.idiv, 1) := by decide +kernel
theorem dX12_look_18 : decode cX12_look 18 = .ok (.aload_n 0, 1) := by decide +kernel
theorem dX12_look_19 : decode cX12_look 19 = .ok (.bipush 100, 2) := by decide +kernel
theorem dX12_look_21 : decode cX12_look 21 = .ok (.invokevirtual 299, 3) := by decide +kernel
theorem dX12_look_24 : decode cX12_look 24 = .ok (.aload_n 0, 1) := by decide +kernel
theorem dX12_look_25 : decode cX12_look 25 = .ok (.getfield 13, 3) := by decide +kernel
theorem dX12_look_28 : decode cX12_look 28 = .ok (.bipush 11, 2) := by decide +kernel
theorem dX12_look_30 : decode cX12_look 30 = .ok (.iaload, 1) := by decide +kernel
theorem dX12_look_31 : decode cX12_look 31 = .ok (.if_icmp .ge 7, 3) := by decide +kernel
theorem dX12_look_34 : decode cX12_look 34 = .ok (.iconst 1, 1) := by decide +kernel
theorem dX12_look_35 : decode cX12_look 35 = .ok (.goto 4, 3) := by decide +kernel
theorem dX12_look_38 : decode cX12_look 38 = .ok (.iconst 0, 1) := by decide +kernel
theorem dX12_look_39 : decode cX12_look 39 = .ok (.iadd, 1) := by decide +kernel
theorem dX12_look_40 : decode cX12_look 40 = .ok (.ireturn, 1) := by decide +kernel
theorem dX12_evenings_0 : decode cX12_evenings 0 = .ok (.aload_n 0, 1) := by decide +kernel
theorem dX12_evenings_1 : decode cX12_evenings 1 = .ok (.iconst 0, 1) := by decide +kernel
theorem dX12_evenings_2 : decode cX12_evenings 2 = .ok (.putfield 3, 3) := by decide +kernel
theorem dX12_evenings_5 : decode cX12_evenings 5 = .ok (.aload_n 0, 1) := by decide +kernel
theorem dX12_evenings_6 : decode cX12_evenings 6 = .ok (.iload_n 1, 1) := by decide +kernel
theorem dX12_evenings_7 : decode cX12_evenings 7 = .ok (.iconst 1, 1) := by decide +kernel
theorem dX12_evenings_8 : decode cX12_evenings 8 = .ok (.bipush 60, 2) := by decide +kernel
theorem dX12_evenings_10 : decode cX12_evenings 10 = .ok (.invokestatic 73, 3) := by decide +kernel
theorem dX12_evenings_13 : decode cX12_evenings 13 = .ok (.ifCond .ne 7, 3) := by decide +kernel
theorem dX12_evenings_16 : decode cX12_evenings 16 = .ok (.iconst 1, 1) := by decide +kernel
theorem dX12_evenings_17 : decode cX12_evenings 17 = .ok (.goto 4, 3) := by decide +kernel
theorem dX12_evenings_20 : decode cX12_evenings 20 = .ok (.iconst 0, 1) := by decide +kernel
theorem dX12_evenings_21 : decode cX12_evenings 21 = .ok (.iconst 1, 1) := by decide +kernel
theorem dX12_evenings_22 : decode cX12_evenings 22 = .ok (.invokevirtual 243, 3) := by decide +kernel
theorem dX12_evenings_25 : decode cX12_evenings 25 = .ok (.ifCond .eq 5, 3) := by decide +kernel
theorem dX12_evenings_28 : decode cX12_evenings 28 = .ok (.iconst 0, 1) := by decide +kernel
theorem dX12_evenings_29 : decode cX12_evenings 29 = .ok (.ireturn, 1) := by decide +kernel
theorem dX12_evenings_30 : decode cX12_evenings 30 = .ok (.aload_n 0, 1) := by decide +kernel
theorem dX12_evenings_31 : decode cX12_evenings 31 = .ok (.invokevirtual 311, 3) := by decide +kernel
theorem dX12_evenings_34 : decode cX12_evenings 34 = .ok (.aload_n 0, 1) := by decide +kernel
theorem dX12_evenings_35 : decode cX12_evenings 35 = .ok (.iload_n 1, 1) := by decide +kernel
theorem dX12_evenings_36 : decode cX12_evenings 36 = .ok (.invokevirtual 317, 3) := by decide +kernel
theorem dX12_evenings_39 : decode cX12_evenings 39 = .ok (.ireturn, 1) := by decide +kernel
theorem dX12_keepsAll_0 : decode cX12_keepsAll 0 = .ok (.iconst 0, 1) := by decide +kernel
theorem dX12_keepsAll_1 : decode cX12_keepsAll 1 = .ok (.istore_n 1, 1) := by decide +kernel
theorem dX12_keepsAll_2 : decode cX12_keepsAll 2 = .ok (.iload_n 1, 1) := by decide +kernel
theorem dX12_keepsAll_3 : decode cX12_keepsAll 3 = .ok (.sipush 353, 3) := by decide +kernel
theorem dX12_keepsAll_6 : decode cX12_keepsAll 6 = .ok (.if_icmp .ge 21, 3) := by decide +kernel
theorem dX12_keepsAll_9 : decode cX12_keepsAll 9 = .ok (.aload_n 0, 1) := by decide +kernel
theorem dX12_keepsAll_10 : decode cX12_keepsAll 10 = .ok (.getfield 23, 3) := by decide +kernel
theorem dX12_keepsAll_13 : decode cX12_keepsAll 13 = .ok (.iload_n 1, 1) := by decide +kernel
theorem dX12_keepsAll_14 : decode cX12_keepsAll 14 = .ok (.aload_n 0, 1) := by decide +kernel
theorem dX12_keepsAll_15 : decode cX12_keepsAll 15 = .ok (.getfield 13, 3) := by decide +kernel
theorem dX12_keepsAll_18 : decode cX12_keepsAll 18 = .ok (.iload_n 1, 1) := by decide +kernel
theorem dX12_keepsAll_19 : decode cX12_keepsAll 19 = .ok (.iaload, 1) := by decide +kernel
theorem dX12_keepsAll_20 : decode cX12_keepsAll 20 = .ok (.iastore, 1) := by decide +kernel
theorem dX12_keepsAll_21 : decode cX12_keepsAll 21 = .ok (.iinc 1 1, 3) := by decide +kernel
theorem dX12_keepsAll_24 : decode cX12_keepsAll 24 = .ok (.goto (-22), 3) := by decide +kernel
theorem dX12_keepsAll_27 : decode cX12_keepsAll 27 = .ok (.return_, 1) := by decide +kernel
theorem dX12_bringsBack_0 : decode cX12_bringsBack 0 = .ok (.iconst 0, 1) := by decide +kernel
theorem dX12_bringsBack_1 : decode cX12_bringsBack 1 = .ok (.istore_n 1, 1) := by decide +kernel
theorem dX12_bringsBack_2 : decode cX12_bringsBack 2 = .ok (.iload_n 1, 1) := by decide +kernel
theorem dX12_bringsBack_3 : decode cX12_bringsBack 3 = .ok (.sipush 353, 3) := by decide +kernel
theorem dX12_bringsBack_6 : decode cX12_bringsBack 6 = .ok (.if_icmp .ge 21, 3) := by decide +kernel
theorem dX12_bringsBack_9 : decode cX12_bringsBack 9 = .ok (.aload_n 0, 1) := by decide +kernel
theorem dX12_bringsBack_10 : decode cX12_bringsBack 10 = .ok (.getfield 13, 3) := by decide +kernel
theorem dX12_bringsBack_13 : decode cX12_bringsBack 13 = .ok (.iload_n 1, 1) := by decide +kernel
theorem dX12_bringsBack_14 : decode cX12_bringsBack 14 = .ok (.aload_n 0, 1) := by decide +kernel
theorem dX12_bringsBack_15 : decode cX12_bringsBack 15 = .ok (.getfield 23, 3) := by decide +kernel
theorem dX12_bringsBack_18 : decode cX12_bringsBack 18 = .ok (.iload_n 1, 1) := by decide +kernel
theorem dX12_bringsBack_19 : decode cX12_bringsBack 19 = .ok (.iaload, 1) := by decide +kernel
theorem dX12_bringsBack_20 : decode cX12_bringsBack 20 = .ok (.iastore, 1) := by decide +kernel
theorem dX12_bringsBack_21 : decode cX12_bringsBack 21 = .ok (.iinc 1 1, 3) := by decide +kernel
theorem dX12_bringsBack_24 : decode cX12_bringsBack 24 = .ok (.goto (-22), 3) := by decide +kernel
theorem dX12_bringsBack_27 : decode cX12_bringsBack 27 = .ok (.return_, 1) := by decide +kernel
theorem dX12_isMenu_0 : decode cX12_isMenu 0 = .ok (.aload_n 0, 1) := by decide +kernel
theorem dX12_isMenu_1 : decode cX12_isMenu 1 = .ok (.getfield 84, 3) := by decide +kernel
theorem dX12_isMenu_4 : decode cX12_isMenu 4 = .ok (.bipush 40, 2) := by decide +kernel
theorem dX12_isMenu_6 : decode cX12_isMenu 6 = .ok (.if_icmp .gt 7, 3) := by decide +kernel
theorem dX12_isMenu_9 : decode cX12_isMenu 9 = .ok (.iconst 1, 1) := by decide +kernel
theorem dX12_isMenu_10 : decode cX12_isMenu 10 = .ok (.goto 4, 3) := by decide +kernel
theorem dX12_isMenu_13 : decode cX12_isMenu 13 = .ok (.iconst 0, 1) := by decide +kernel
theorem dX12_isMenu_14 : decode cX12_isMenu 14 = .ok (.istore_n 1, 1) := by decide +kernel
theorem dX12_isMenu_15 : decode cX12_isMenu 15 = .ok (.iconst 0, 1) := by decide +kernel
theorem dX12_isMenu_16 : decode cX12_isMenu 16 = .ok (.istore_n 2, 1) := by decide +kernel
theorem dX12_isMenu_17 : decode cX12_isMenu 17 = .ok (.iload_n 2, 1) := by decide +kernel
theorem dX12_isMenu_18 : decode cX12_isMenu 18 = .ok (.aload_n 0, 1) := by decide +kernel
theorem dX12_isMenu_19 : decode cX12_isMenu 19 = .ok (.getfield 84, 3) := by decide +kernel
theorem dX12_isMenu_22 : decode cX12_isMenu 22 = .ok (.if_icmp .ge 32, 3) := by decide +kernel
theorem dX12_isMenu_25 : decode cX12_isMenu 25 = .ok (.iload_n 1, 1) := by decide +kernel
theorem dX12_isMenu_26 : decode cX12_isMenu 26 = .ok (.ifCond .eq 28, 3) := by decide +kernel
theorem dX12_isMenu_29 : decode cX12_isMenu 29 = .ok (.aload_n 0, 1) := by decide +kernel
theorem dX12_isMenu_30 : decode cX12_isMenu 30 = .ok (.aload_n 0, 1) := by decide +kernel
theorem dX12_isMenu_31 : decode cX12_isMenu 31 = .ok (.getfield 29, 3) := by decide +kernel
theorem dX12_isMenu_34 : decode cX12_isMenu 34 = .ok (.iload_n 2, 1) := by decide +kernel
theorem dX12_isMenu_35 : decode cX12_isMenu 35 = .ok (.baload, 1) := by decide +kernel
theorem dX12_isMenu_36 : decode cX12_isMenu 36 = .ok (.invokevirtual 278, 3) := by decide +kernel
theorem dX12_isMenu_39 : decode cX12_isMenu 39 = .ok (.ifCond .ne 7, 3) := by decide +kernel
theorem dX12_isMenu_42 : decode cX12_isMenu 42 = .ok (.iconst 1, 1) := by decide +kernel
theorem dX12_isMenu_43 : decode cX12_isMenu 43 = .ok (.goto 4, 3) := by decide +kernel
theorem dX12_isMenu_46 : decode cX12_isMenu 46 = .ok (.iconst 0, 1) := by decide +kernel
theorem dX12_isMenu_47 : decode cX12_isMenu 47 = .ok (.istore_n 1, 1) := by decide +kernel
theorem dX12_isMenu_48 : decode cX12_isMenu 48 = .ok (.iinc 2 1, 3) := by decide +kernel
theorem dX12_isMenu_51 : decode cX12_isMenu 51 = .ok (.goto (-34), 3) := by decide +kernel
theorem dX12_isMenu_54 : decode cX12_isMenu 54 = .ok (.iload_n 1, 1) := by decide +kernel
theorem dX12_isMenu_55 : decode cX12_isMenu 55 = .ok (.ireturn, 1) := by decide +kernel
theorem dX12_menu_0 : decode cX12_menu 0 = .ok (.aload_n 0, 1) := by decide +kernel
theorem dX12_menu_1 : decode cX12_menu 1 = .ok (.invokevirtual 232, 3) := by decide +kernel
theorem dX12_menu_4 : decode cX12_menu 4 = .ok (.aload_n 0, 1) := by decide +kernel
theorem dX12_menu_5 : decode cX12_menu 5 = .ok (.aload_n 0, 1) := by decide +kernel
theorem dX12_menu_6 : decode cX12_menu 6 = .ok (.invokevirtual 320, 3) := by decide +kernel
theorem dX12_menu_9 : decode cX12_menu 9 = .ok (.ifCond .ne 7, 3) := by decide +kernel
theorem dX12_menu_12 : decode cX12_menu 12 = .ok (.iconst 1, 1) := by decide +kernel
theorem dX12_menu_13 : decode cX12_menu 13 = .ok (.goto 4, 3) := by decide +kernel
theorem dX12_menu_16 : decode cX12_menu 16 = .ok (.iconst 0, 1) := by decide +kernel
theorem dX12_menu_17 : decode cX12_menu 17 = .ok (.iconst 1, 1) := by decide +kernel
theorem dX12_menu_18 : decode cX12_menu 18 = .ok (.invokevirtual 243, 3) := by decide +kernel
theorem dX12_menu_21 : decode cX12_menu 21 = .ok (.ifCond .ne 25, 3) := by decide +kernel
theorem dX12_menu_24 : decode cX12_menu 24 = .ok (.aload_n 0, 1) := by decide +kernel
theorem dX12_menu_25 : decode cX12_menu 25 = .ok (.iload_n 1, 1) := by decide +kernel
theorem dX12_menu_26 : decode cX12_menu 26 = .ok (.iconst 0, 1) := by decide +kernel
theorem dX12_menu_27 : decode cX12_menu 27 = .ok (.iconst 3, 1) := by decide +kernel
theorem dX12_menu_28 : decode cX12_menu 28 = .ok (.invokestatic 73, 3) := by decide +kernel
theorem dX12_menu_31 : decode cX12_menu 31 = .ok (.ifCond .ne 7, 3) := by decide +kernel
theorem dX12_menu_34 : decode cX12_menu 34 = .ok (.iconst 1, 1) := by decide +kernel
theorem dX12_menu_35 : decode cX12_menu 35 = .ok (.goto 4, 3) := by decide +kernel
theorem dX12_menu_38 : decode cX12_menu 38 = .ok (.iconst 0, 1) := by decide +kernel
theorem dX12_menu_39 : decode cX12_menu 39 = .ok (.iconst 2, 1) := by decide +kernel
theorem dX12_menu_40 : decode cX12_menu 40 = .ok (.invokevirtual 243, 3) := by decide +kernel
theorem dX12_menu_43 : decode cX12_menu 43 = .ok (.ifCond .eq 5, 3) := by decide +kernel
theorem dX12_menu_46 : decode cX12_menu 46 = .ok (.iconst 0, 1) := by decide +kernel
theorem dX12_menu_47 : decode cX12_menu 47 = .ok (.ireturn, 1) := by decide +kernel
theorem dX12_menu_48 : decode cX12_menu 48 = .ok (.iconst 0, 1) := by decide +kernel
theorem dX12_menu_49 : decode cX12_menu 49 = .ok (.istore_n 2, 1) := by decide +kernel
theorem dX12_menu_50 : decode cX12_menu 50 = .ok (.iconst 0, 1) := by decide +kernel
theorem dX12_menu_51 : decode cX12_menu 51 = .ok (.istore_n 3, 1) := by decide +kernel
theorem dX12_menu_52 : decode cX12_menu 52 = .ok (.aload_n 0, 1) := by decide +kernel
theorem dX12_menu_53 : decode cX12_menu 53 = .ok (.invokevirtual 323, 3) := by decide +kernel
theorem dX12_menu_56 : decode cX12_menu 56 = .ok (.iconst 0, 1) := by decide +kernel
theorem dX12_menu_57 : decode cX12_menu 57 = .ok (.istore 4, 2) := by decide +kernel
theorem dX12_menu_59 : decode cX12_menu 59 = .ok (.iload 4, 2) := by decide +kernel
theorem dX12_menu_61 : decode cX12_menu 61 = .ok (.aload_n 0, 1) := by decide +kernel
theorem dX12_menu_62 : decode cX12_menu 62 = .ok (.getfield 84, 3) := by decide +kernel
theorem dX12_menu_65 : decode cX12_menu 65 = .ok (.if_icmp .ge 51, 3) := by decide +kernel
theorem dX12_menu_68 : decode cX12_menu 68 = .ok (.aload_n 0, 1) := by decide +kernel
theorem dX12_menu_69 : decode cX12_menu 69 = .ok (.aload_n 0, 1) := by decide +kernel
theorem dX12_menu_70 : decode cX12_menu 70 = .ok (.getfield 29, 3) := by decide +kernel
theorem dX12_menu_73 : decode cX12_menu 73 = .ok (.iload 4, 2) := by decide +kernel
theorem dX12_menu_75 : decode cX12_menu 75 = .ok (.baload, 1) := by decide +kernel
theorem dX12_menu_76 : decode cX12_menu 76 = .ok (.invokevirtual 302, 3) := by decide +kernel
theorem dX12_menu_79 : decode cX12_menu 79 = .ok (.istore 5, 2) := by decide +kernel
theorem dX12_menu_81 : decode cX12_menu 81 = .ok (.iload_n 2, 1) := by decide +kernel
theorem dX12_menu_82 : decode cX12_menu 82 = .ok (.iload 5, 2) := by decide +kernel
theorem dX12_menu_84 : decode cX12_menu 84 = .ok (.iconst (-1), 1) := by decide +kernel
theorem dX12_menu_85 : decode cX12_menu 85 = .ok (.if_icmp .ne 7, 3) := by decide +kernel
theorem dX12_menu_88 : decode cX12_menu 88 = .ok (.iconst 0, 1) := by decide +kernel
theorem dX12_menu_89 : decode cX12_menu 89 = .ok (.goto 4, 3) := by decide +kernel
theorem dX12_menu_92 : decode cX12_menu 92 = .ok (.iconst 1, 1) := by decide +kernel
theorem dX12_menu_93 : decode cX12_menu 93 = .ok (.iadd, 1) := by decide +kernel
theorem dX12_menu_94 : decode cX12_menu 94 = .ok (.istore_n 2, 1) := by decide +kernel
theorem dX12_menu_95 : decode cX12_menu 95 = .ok (.iload_n 3, 1) := by decide +kernel
theorem dX12_menu_96 : decode cX12_menu 96 = .ok (.iload 5, 2) := by decide +kernel
theorem dX12_menu_98 : decode cX12_menu 98 = .ok (.iconst (-1), 1) := by decide +kernel
theorem dX12_menu_99 : decode cX12_menu 99 = .ok (.if_icmp .ne 7, 3) := by decide +kernel
theorem dX12_menu_102 : decode cX12_menu 102 = .ok (.iconst 0, 1) := by decide +kernel
theorem dX12_menu_103 : decode cX12_menu 103 = .ok (.goto 5, 3) := by decide +kernel
theorem dX12_menu_106 : decode cX12_menu 106 = .ok (.iload 5, 2) := by decide +kernel
theorem dX12_menu_108 : decode cX12_menu 108 = .ok (.iadd, 1) := by decide +kernel
theorem dX12_menu_109 : decode cX12_menu 109 = .ok (.istore_n 3, 1) := by decide +kernel
theorem dX12_menu_110 : decode cX12_menu 110 = .ok (.iinc 4 1, 3) := by decide +kernel
theorem dX12_menu_113 : decode cX12_menu 113 = .ok (.goto (-54), 3) := by decide +kernel
theorem dX12_menu_116 : decode cX12_menu 116 = .ok (.iload_n 1, 1) := by decide +kernel
theorem dX12_menu_117 : decode cX12_menu 117 = .ok (.ifCond .ne 12, 3) := by decide +kernel
theorem dX12_menu_120 : decode cX12_menu 120 = .ok (.aload_n 0, 1) := by decide +kernel
theorem dX12_menu_121 : decode cX12_menu 121 = .ok (.getfield 13, 3) := by decide +kernel
theorem dX12_menu_124 : decode cX12_menu 124 = .ok (.iconst 4, 1) := by decide +kernel
theorem dX12_menu_125 : decode cX12_menu 125 = .ok (.iaload, 1) := by decide +kernel
theorem dX12_menu_126 : decode cX12_menu 126 = .ok (.goto 27, 3) := by decide +kernel
theorem dX12_menu_129 : decode cX12_menu 129 = .ok (.iload_n 1, 1) := by decide +kernel
theorem dX12_menu_130 : decode cX12_menu 130 = .ok (.iconst 1, 1) := by decide +kernel
theorem dX12_menu_131 : decode cX12_menu 131 = .ok (.if_icmp .ne 12, 3) := by decide +kernel
theorem dX12_menu_134 : decode cX12_menu 134 = .ok (.aload_n 0, 1) := by decide +kernel
theorem dX12_menu_135 : decode cX12_menu 135 = .ok (.getfield 13, 3) := by decide +kernel
theorem dX12_menu_138 : decode cX12_menu 138 = .ok (.iconst 5, 1) := by decide +kernel
theorem dX12_menu_139 : decode cX12_menu 139 = .ok (.iaload, 1) := by decide +kernel
theorem dX12_menu_140 : decode cX12_menu 140 = .ok (.goto 13, 3) := by decide +kernel
theorem dX12_menu_143 : decode cX12_menu 143 = .ok (.iload_n 1, 1) := by decide +kernel
theorem dX12_menu_144 : decode cX12_menu 144 = .ok (.iconst 2, 1) := by decide +kernel
theorem dX12_menu_145 : decode cX12_menu 145 = .ok (.if_icmp .ne 7, 3) := by decide +kernel
theorem dX12_menu_148 : decode cX12_menu 148 = .ok (.iload_n 2, 1) := by decide +kernel
theorem dX12_menu_149 : decode cX12_menu 149 = .ok (.goto 4, 3) := by decide +kernel
theorem dX12_menu_152 : decode cX12_menu 152 = .ok (.iload_n 3, 1) := by decide +kernel
theorem dX12_menu_153 : decode cX12_menu 153 = .ok (.istore 4, 2) := by decide +kernel
theorem dX12_menu_155 : decode cX12_menu 155 = .ok (.aload_n 0, 1) := by decide +kernel
theorem dX12_menu_156 : decode cX12_menu 156 = .ok (.invokevirtual 326, 3) := by decide +kernel
theorem dX12_menu_159 : decode cX12_menu 159 = .ok (.iload 4, 2) := by decide +kernel
theorem dX12_menu_161 : decode cX12_menu 161 = .ok (.ireturn, 1) := by decide +kernel
theorem dX12_breaks_0 : decode cX12_breaks 0 = .ok (.aload_n 0, 1) := by decide +kernel
theorem dX12_breaks_1 : decode cX12_breaks 1 = .ok (.iconst 0, 1) := by decide +kernel
theorem dX12_breaks_2 : decode cX12_breaks 2 = .ok (.putfield 3, 3) := by decide +kernel
theorem dX12_breaks_5 : decode cX12_breaks 5 = .ok (.aload_n 0, 1) := by decide +kernel
theorem dX12_breaks_6 : decode cX12_breaks 6 = .ok (.aload_n 0, 1) := by decide +kernel
theorem dX12_breaks_7 : decode cX12_breaks 7 = .ok (.iload_n 1, 1) := by decide +kernel
theorem dX12_breaks_8 : decode cX12_breaks 8 = .ok (.invokevirtual 278, 3) := by decide +kernel
theorem dX12_breaks_11 : decode cX12_breaks 11 = .ok (.iconst 1, 1) := by decide +kernel
theorem dX12_breaks_12 : decode cX12_breaks 12 = .ok (.invokevirtual 243, 3) := by decide +kernel
theorem dX12_breaks_15 : decode cX12_breaks 15 = .ok (.ifCond .eq 5, 3) := by decide +kernel
theorem dX12_breaks_18 : decode cX12_breaks 18 = .ok (.iconst 0, 1) := by decide +kernel
theorem dX12_breaks_19 : decode cX12_breaks 19 = .ok (.ireturn, 1) := by decide +kernel
theorem dX12_breaks_20 : decode cX12_breaks 20 = .ok (.iconst 0, 1) := by decide +kernel
theorem dX12_breaks_21 : decode cX12_breaks 21 = .ok (.istore_n 2, 1) := by decide +kernel
theorem dX12_breaks_22 : decode cX12_breaks 22 = .ok (.aload_n 0, 1) := by decide +kernel
theorem dX12_breaks_23 : decode cX12_breaks 23 = .ok (.invokevirtual 323, 3) := by decide +kernel
theorem dX12_breaks_26 : decode cX12_breaks 26 = .ok (.iload_n 2, 1) := by decide +kernel
theorem dX12_breaks_27 : decode cX12_breaks 27 = .ok (.bipush 100, 2) := by decide +kernel
theorem dX12_breaks_29 : decode cX12_breaks 29 = .ok (.if_icmp .ge 22, 3) := by decide +kernel
theorem dX12_breaks_32 : decode cX12_breaks 32 = .ok (.aload_n 0, 1) := by decide +kernel
theorem dX12_breaks_33 : decode cX12_breaks 33 = .ok (.invokevirtual 290, 3) := by decide +kernel
theorem dX12_breaks_36 : decode cX12_breaks 36 = .ok (.ifCond .ne 15, 3) := by decide +kernel
theorem dX12_breaks_39 : decode cX12_breaks 39 = .ok (.aload_n 0, 1) := by decide +kernel
theorem dX12_breaks_40 : decode cX12_breaks 40 = .ok (.iload_n 1, 1) := by decide +kernel
theorem dX12_breaks_41 : decode cX12_breaks 41 = .ok (.invokevirtual 302, 3) := by decide +kernel
theorem dX12_breaks_44 : decode cX12_breaks 44 = .ok (.pop, 1) := by decide +kernel
theorem dX12_breaks_45 : decode cX12_breaks 45 = .ok (.iinc 2 1, 3) := by decide +kernel
theorem dX12_breaks_48 : decode cX12_breaks 48 = .ok (.goto (-22), 3) := by decide +kernel
theorem dX12_breaks_51 : decode cX12_breaks 51 = .ok (.aload_n 0, 1) := by decide +kernel
theorem dX12_breaks_52 : decode cX12_breaks 52 = .ok (.invokevirtual 290, 3) := by decide +kernel
theorem dX12_breaks_55 : decode cX12_breaks 55 = .ok (.istore_n 3, 1) := by decide +kernel
theorem dX12_breaks_56 : decode cX12_breaks 56 = .ok (.aload_n 0, 1) := by decide +kernel
theorem dX12_breaks_57 : decode cX12_breaks 57 = .ok (.invokevirtual 326, 3) := by decide +kernel
theorem dX12_breaks_60 : decode cX12_breaks 60 = .ok (.iload_n 3, 1) := by decide +kernel
theorem dX12_breaks_61 : decode cX12_breaks 61 = .ok (.ifCond .eq 7, 3) := by decide +kernel
theorem dX12_breaks_64 : decode cX12_breaks 64 = .ok (.iload_n 2, 1) := by decide +kernel
theorem dX12_breaks_65 : decode cX12_breaks 65 = .ok (.goto 4, 3) := by decide +kernel
theorem dX12_breaks_68 : decode cX12_breaks 68 = .ok (.iconst (-1), 1) := by decide +kernel
theorem dX12_breaks_69 : decode cX12_breaks 69 = .ok (.ireturn, 1) := by decide +kernel
theorem dX12_ordersOf_0 : decode cX12_ordersOf 0 = .ok (.iconst 1, 1) := by decide +kernel
theorem dX12_ordersOf_1 : decode cX12_ordersOf 1 = .ok (.istore_n 1, 1) := by decide +kernel
theorem dX12_ordersOf_2 : decode cX12_ordersOf 2 = .ok (.iconst 2, 1) := by decide +kernel
theorem dX12_ordersOf_3 : decode cX12_ordersOf 3 = .ok (.istore_n 2, 1) := by decide +kernel
theorem dX12_ordersOf_4 : decode cX12_ordersOf 4 = .ok (.iload_n 2, 1) := by decide +kernel
theorem dX12_ordersOf_5 : decode cX12_ordersOf 5 = .ok (.iload_n 0, 1) := by decide +kernel
theorem dX12_ordersOf_6 : decode cX12_ordersOf 6 = .ok (.if_icmp .gt 13, 3) := by decide +kernel
theorem dX12_ordersOf_9 : decode cX12_ordersOf 9 = .ok (.iload_n 1, 1) := by decide +kernel
theorem dX12_ordersOf_10 : decode cX12_ordersOf 10 = .ok (.iload_n 2, 1) := by decide +kernel
theorem dX12_ordersOf_11 : decode cX12_ordersOf 11 = .ok (.imul, 1) := by decide +kernel
theorem dX12_ordersOf_12 : decode cX12_ordersOf 12 = .ok (.istore_n 1, 1) := by decide +kernel
theorem dX12_ordersOf_13 : decode cX12_ordersOf 13 = .ok (.iinc 2 1, 3) := by decide +kernel
theorem dX12_ordersOf_16 : decode cX12_ordersOf 16 = .ok (.goto (-12), 3) := by decide +kernel
theorem dX12_ordersOf_19 : decode cX12_ordersOf 19 = .ok (.iload_n 1, 1) := by decide +kernel
theorem dX12_ordersOf_20 : decode cX12_ordersOf 20 = .ok (.ireturn, 1) := by decide +kernel
theorem dX12_laysRow_0 : decode cX12_laysRow 0 = .ok (.iload_n 1, 1) := by decide +kernel
theorem dX12_laysRow_1 : decode cX12_laysRow 1 = .ok (.istore_n 3, 1) := by decide +kernel
theorem dX12_laysRow_2 : decode cX12_laysRow 2 = .ok (.iload_n 1, 1) := by decide +kernel
theorem dX12_laysRow_3 : decode cX12_laysRow 3 = .ok (.invokestatic 329, 3) := by decide +kernel
theorem dX12_laysRow_6 : decode cX12_laysRow 6 = .ok (.istore 4, 2) := by decide +kernel
theorem dX12_laysRow_8 : decode cX12_laysRow 8 = .ok (.iload_n 2, 1) := by decide +kernel
theorem dX12_laysRow_9 : decode cX12_laysRow 9 = .ok (.istore 5, 2) := by decide +kernel
theorem dX12_laysRow_11 : decode cX12_laysRow 11 = .ok (.iconst 0, 1) := by decide +kernel
theorem dX12_laysRow_12 : decode cX12_laysRow 12 = .ok (.istore 6, 2) := by decide +kernel
theorem dX12_laysRow_14 : decode cX12_laysRow 14 = .ok (.iload 6, 2) := by decide +kernel
theorem dX12_laysRow_16 : decode cX12_laysRow 16 = .ok (.iload 4, 2) := by decide +kernel
theorem dX12_laysRow_18 : decode cX12_laysRow 18 = .ok (.if_icmp .ge 95, 3) := by decide +kernel
theorem dX12_laysRow_21 : decode cX12_laysRow 21 = .ok (.iload 4, 2) := by decide +kernel
theorem dX12_laysRow_23 : decode cX12_laysRow 23 = .ok (.iconst 1, 1) := by decide +kernel
theorem dX12_laysRow_24 : decode cX12_laysRow 24 = .ok (.isub, 1) := by decide +kernel
theorem dX12_laysRow_25 : decode cX12_laysRow 25 = .ok (.iload 6, 2) := by decide +kernel
theorem dX12_laysRow_27 : decode cX12_laysRow 27 = .ok (.isub, 1) := by decide +kernel
theorem dX12_laysRow_28 : decode cX12_laysRow 28 = .ok (.invokestatic 334, 3) := by decide +kernel
theorem dX12_laysRow_31 : decode cX12_laysRow 31 = .ok (.istore 7, 2) := by decide +kernel
theorem dX12_laysRow_33 : decode cX12_laysRow 33 = .ok (.iload 5, 2) := by decide +kernel
theorem dX12_laysRow_35 : decode cX12_laysRow 35 = .ok (.iload 7, 2) := by decide +kernel
theorem dX12_laysRow_37 : decode cX12_laysRow 37 = .ok (.idiv, 1) := by decide +kernel
theorem dX12_laysRow_38 : decode cX12_laysRow 38 = .ok (.istore 8, 2) := by decide +kernel
theorem dX12_laysRow_40 : decode cX12_laysRow 40 = .ok (.iconst 0, 1) := by decide +kernel
theorem dX12_laysRow_41 : decode cX12_laysRow 41 = .ok (.istore 9, 2) := by decide +kernel
theorem dX12_laysRow_43 : decode cX12_laysRow 43 = .ok (.iload_n 3, 1) := by decide +kernel
theorem dX12_laysRow_44 : decode cX12_laysRow 44 = .ok (.iload 9, 2) := by decide +kernel
theorem dX12_laysRow_46 : decode cX12_laysRow 46 = .ok (.invokestatic 337, 3) := by decide +kernel
theorem dX12_laysRow_49 : decode cX12_laysRow 49 = .ok (.ifCond .eq 8, 3) := by decide +kernel
theorem dX12_laysRow_52 : decode cX12_laysRow 52 = .ok (.iload 8, 2) := by decide +kernel
theorem dX12_laysRow_54 : decode cX12_laysRow 54 = .ok (.ifCond .le 28, 3) := by decide +kernel
theorem dX12_laysRow_57 : decode cX12_laysRow 57 = .ok (.iload 8, 2) := by decide +kernel
theorem dX12_laysRow_59 : decode cX12_laysRow 59 = .ok (.iload_n 3, 1) := by decide +kernel
theorem dX12_laysRow_60 : decode cX12_laysRow 60 = .ok (.iload 9, 2) := by decide +kernel
theorem dX12_laysRow_62 : decode cX12_laysRow 62 = .ok (.invokestatic 337, 3) := by decide +kernel
theorem dX12_laysRow_65 : decode cX12_laysRow 65 = .ok (.ifCond .eq 7, 3) := by decide +kernel
theorem dX12_laysRow_68 : decode cX12_laysRow 68 = .ok (.iconst 1, 1) := by decide +kernel
theorem dX12_laysRow_69 : decode cX12_laysRow 69 = .ok (.goto 4, 3) := by decide +kernel
theorem dX12_laysRow_72 : decode cX12_laysRow 72 = .ok (.iconst 0, 1) := by decide +kernel
theorem dX12_laysRow_73 : decode cX12_laysRow 73 = .ok (.isub, 1) := by decide +kernel
theorem dX12_laysRow_74 : decode cX12_laysRow 74 = .ok (.istore 8, 2) := by decide +kernel
theorem dX12_laysRow_76 : decode cX12_laysRow 76 = .ok (.iinc 9 1, 3) := by decide +kernel
theorem dX12_laysRow_79 : decode cX12_laysRow 79 = .ok (.goto (-36), 3) := by decide +kernel
theorem dX12_laysRow_82 : decode cX12_laysRow 82 = .ok (.aload_n 0, 1) := by decide +kernel
theorem dX12_laysRow_83 : decode cX12_laysRow 83 = .ok (.getfield 42, 3) := by decide +kernel
theorem dX12_laysRow_86 : decode cX12_laysRow 86 = .ok (.iload 6, 2) := by decide +kernel
theorem dX12_laysRow_88 : decode cX12_laysRow 88 = .ok (.iload 9, 2) := by decide +kernel
theorem dX12_laysRow_90 : decode cX12_laysRow 90 = .ok (.iastore, 1) := by decide +kernel
theorem dX12_laysRow_91 : decode cX12_laysRow 91 = .ok (.iload_n 3, 1) := by decide +kernel
theorem dX12_laysRow_92 : decode cX12_laysRow 92 = .ok (.iconst 1, 1) := by decide +kernel
theorem dX12_laysRow_93 : decode cX12_laysRow 93 = .ok (.iload 9, 2) := by decide +kernel
theorem dX12_laysRow_95 : decode cX12_laysRow 95 = .ok (.ishl, 1) := by decide +kernel
theorem dX12_laysRow_96 : decode cX12_laysRow 96 = .ok (.iconst (-1), 1) := by decide +kernel
theorem dX12_laysRow_97 : decode cX12_laysRow 97 = .ok (.ixor, 1) := by decide +kernel
theorem dX12_laysRow_98 : decode cX12_laysRow 98 = .ok (.iand, 1) := by decide +kernel
theorem dX12_laysRow_99 : decode cX12_laysRow 99 = .ok (.istore_n 3, 1) := by decide +kernel
theorem dX12_laysRow_100 : decode cX12_laysRow 100 = .ok (.iload 5, 2) := by decide +kernel
theorem dX12_laysRow_102 : decode cX12_laysRow 102 = .ok (.iload 7, 2) := by decide +kernel
theorem dX12_laysRow_104 : decode cX12_laysRow 104 = .ok (.irem, 1) := by decide +kernel
theorem dX12_laysRow_105 : decode cX12_laysRow 105 = .ok (.istore 5, 2) := by decide +kernel
theorem dX12_laysRow_107 : decode cX12_laysRow 107 = .ok (.iinc 6 1, 3) := by decide +kernel
theorem dX12_laysRow_110 : decode cX12_laysRow 110 = .ok (.goto (-96), 3) := by decide +kernel
theorem dX12_laysRow_113 : decode cX12_laysRow 113 = .ok (.return_, 1) := by decide +kernel
theorem dX12_saddest_0 : decode cX12_saddest 0 = .ok (.aload_n 0, 1) := by decide +kernel
theorem dX12_saddest_1 : decode cX12_saddest 1 = .ok (.invokevirtual 323, 3) := by decide +kernel
theorem dX12_saddest_4 : decode cX12_saddest 4 = .ok (.aload_n 0, 1) := by decide +kernel
theorem dX12_saddest_5 : decode cX12_saddest 5 = .ok (.getfield 13, 3) := by decide +kernel
theorem dX12_saddest_8 : decode cX12_saddest 8 = .ok (.iconst 5, 1) := by decide +kernel
theorem dX12_saddest_9 : decode cX12_saddest 9 = .ok (.iaload, 1) := by decide +kernel
theorem dX12_saddest_10 : decode cX12_saddest 10 = .ok (.istore_n 2, 1) := by decide +kernel
theorem dX12_saddest_11 : decode cX12_saddest 11 = .ok (.iconst 0, 1) := by decide +kernel
theorem dX12_saddest_12 : decode cX12_saddest 12 = .ok (.istore_n 3, 1) := by decide +kernel
theorem dX12_saddest_13 : decode cX12_saddest 13 = .ok (.iload_n 3, 1) := by decide +kernel
theorem dX12_saddest_14 : decode cX12_saddest 14 = .ok (.iload_n 1, 1) := by decide +kernel
theorem dX12_saddest_15 : decode cX12_saddest 15 = .ok (.if_icmp .ge 31, 3) := by decide +kernel
theorem dX12_saddest_18 : decode cX12_saddest 18 = .ok (.aload_n 0, 1) := by decide +kernel
theorem dX12_saddest_19 : decode cX12_saddest 19 = .ok (.aload_n 0, 1) := by decide +kernel
theorem dX12_saddest_20 : decode cX12_saddest 20 = .ok (.getfield 42, 3) := by decide +kernel
theorem dX12_saddest_23 : decode cX12_saddest 23 = .ok (.iload_n 3, 1) := by decide +kernel
theorem dX12_saddest_24 : decode cX12_saddest 24 = .ok (.iaload, 1) := by decide +kernel
theorem dX12_saddest_25 : decode cX12_saddest 25 = .ok (.invokevirtual 302, 3) := by decide +kernel
theorem dX12_saddest_28 : decode cX12_saddest 28 = .ok (.pop, 1) := by decide +kernel
theorem dX12_saddest_29 : decode cX12_saddest 29 = .ok (.iload_n 2, 1) := by decide +kernel
theorem dX12_saddest_30 : decode cX12_saddest 30 = .ok (.aload_n 0, 1) := by decide +kernel
theorem dX12_saddest_31 : decode cX12_saddest 31 = .ok (.getfield 13, 3) := by decide +kernel
theorem dX12_saddest_34 : decode cX12_saddest 34 = .ok (.iconst 5, 1) := by decide +kernel
theorem dX12_saddest_35 : decode cX12_saddest 35 = .ok (.iaload, 1) := by decide +kernel
theorem dX12_saddest_36 : decode cX12_saddest 36 = .ok (.invokestatic 293, 3) := by decide +kernel
theorem dX12_saddest_39 : decode cX12_saddest 39 = .ok (.istore_n 2, 1) := by decide +kernel
theorem dX12_saddest_40 : decode cX12_saddest 40 = .ok (.iinc 3 1, 3) := by decide +kernel
theorem dX12_saddest_43 : decode cX12_saddest 43 = .ok (.goto (-30), 3) := by decide +kernel
theorem dX12_saddest_46 : decode cX12_saddest 46 = .ok (.aload_n 0, 1) := by decide +kernel
theorem dX12_saddest_47 : decode cX12_saddest 47 = .ok (.invokevirtual 326, 3) := by decide +kernel
theorem dX12_saddest_50 : decode cX12_saddest 50 = .ok (.iload_n 2, 1) := by decide +kernel
theorem dX12_saddest_51 : decode cX12_saddest 51 = .ok (.ireturn, 1) := by decide +kernel
theorem dX12_order_0 : decode cX12_order 0 = .ok (.aload_n 0, 1) := by decide +kernel
theorem dX12_order_1 : decode cX12_order 1 = .ok (.iconst 0, 1) := by decide +kernel
theorem dX12_order_2 : decode cX12_order 2 = .ok (.putfield 3, 3) := by decide +kernel
theorem dX12_order_5 : decode cX12_order 5 = .ok (.iload_n 1, 1) := by decide +kernel
theorem dX12_order_6 : decode cX12_order 6 = .ok (.aload_n 0, 1) := by decide +kernel
theorem dX12_order_7 : decode cX12_order 7 = .ok (.invokevirtual 340, 3) := by decide +kernel
theorem dX12_order_10 : decode cX12_order 10 = .ok (.iand, 1) := by decide +kernel
theorem dX12_order_11 : decode cX12_order 11 = .ok (.istore_n 3, 1) := by decide +kernel
theorem dX12_order_12 : decode cX12_order 12 = .ok (.iload_n 3, 1) := by decide +kernel
theorem dX12_order_13 : decode cX12_order 13 = .ok (.invokestatic 329, 3) := by decide +kernel
theorem dX12_order_16 : decode cX12_order 16 = .ok (.istore 4, 2) := by decide +kernel
theorem dX12_order_18 : decode cX12_order 18 = .ok (.aload_n 0, 1) := by decide +kernel
theorem dX12_order_19 : decode cX12_order 19 = .ok (.iload 4, 2) := by decide +kernel
theorem dX12_order_21 : decode cX12_order 21 = .ok (.bipush 6, 2) := by decide +kernel
theorem dX12_order_23 : decode cX12_order 23 = .ok (.if_icmp .le 7, 3) := by decide +kernel
theorem dX12_order_26 : decode cX12_order 26 = .ok (.iconst 1, 1) := by decide +kernel
theorem dX12_order_27 : decode cX12_order 27 = .ok (.goto 4, 3) := by decide +kernel
theorem dX12_order_30 : decode cX12_order 30 = .ok (.iconst 0, 1) := by decide +kernel
theorem dX12_order_31 : decode cX12_order 31 = .ok (.iconst 1, 1) := by decide +kernel
theorem dX12_order_32 : decode cX12_order 32 = .ok (.invokevirtual 243, 3) := by decide +kernel
theorem dX12_order_35 : decode cX12_order 35 = .ok (.ifCond .eq 5, 3) := by decide +kernel
theorem dX12_order_38 : decode cX12_order 38 = .ok (.iconst 0, 1) := by decide +kernel
theorem dX12_order_39 : decode cX12_order 39 = .ok (.ireturn, 1) := by decide +kernel
theorem dX12_order_40 : decode cX12_order 40 = .ok (.ldc 255, 2) := by decide +kernel
theorem dX12_order_42 : decode cX12_order 42 = .ok (.istore 5, 2) := by decide +kernel
theorem dX12_order_44 : decode cX12_order 44 = .ok (.iconst 0, 1) := by decide +kernel
theorem dX12_order_45 : decode cX12_order 45 = .ok (.istore 6, 2) := by decide +kernel
theorem dX12_order_47 : decode cX12_order 47 = .ok (.iload 6, 2) := by decide +kernel
theorem dX12_order_49 : decode cX12_order 49 = .ok (.iload 4, 2) := by decide +kernel
theorem dX12_order_51 : decode cX12_order 51 = .ok (.invokestatic 334, 3) := by decide +kernel
theorem dX12_order_54 : decode cX12_order 54 = .ok (.if_icmp .ge 70, 3) := by decide +kernel
theorem dX12_order_57 : decode cX12_order 57 = .ok (.aload_n 0, 1) := by decide +kernel
theorem dX12_order_58 : decode cX12_order 58 = .ok (.iload_n 3, 1) := by decide +kernel
theorem dX12_order_59 : decode cX12_order 59 = .ok (.iload 6, 2) := by decide +kernel
theorem dX12_order_61 : decode cX12_order 61 = .ok (.invokevirtual 343, 3) := by decide +kernel
theorem dX12_order_64 : decode cX12_order 64 = .ok (.aload_n 0, 1) := by decide +kernel
theorem dX12_order_65 : decode cX12_order 65 = .ok (.iload 4, 2) := by decide +kernel
theorem dX12_order_67 : decode cX12_order 67 = .ok (.invokevirtual 346, 3) := by decide +kernel
theorem dX12_order_70 : decode cX12_order 70 = .ok (.istore 7, 2) := by decide +kernel
theorem dX12_order_72 : decode cX12_order 72 = .ok (.iconst 0, 1) := by decide +kernel
theorem dX12_order_73 : decode cX12_order 73 = .ok (.istore 8, 2) := by decide +kernel
theorem dX12_order_75 : decode cX12_order 75 = .ok (.iload 8, 2) := by decide +kernel
theorem dX12_order_77 : decode cX12_order 77 = .ok (.iload 4, 2) := by decide +kernel
theorem dX12_order_79 : decode cX12_order 79 = .ok (.if_icmp .ge 30, 3) := by decide +kernel
theorem dX12_order_82 : decode cX12_order 82 = .ok (.iload 7, 2) := by decide +kernel
theorem dX12_order_84 : decode cX12_order 84 = .ok (.iload 5, 2) := by decide +kernel
theorem dX12_order_86 : decode cX12_order 86 = .ok (.if_icmp .ge 23, 3) := by decide +kernel
theorem dX12_order_89 : decode cX12_order 89 = .ok (.aload_n 0, 1) := by decide +kernel
theorem dX12_order_90 : decode cX12_order 90 = .ok (.getfield 45, 3) := by decide +kernel
theorem dX12_order_93 : decode cX12_order 93 = .ok (.iload 8, 2) := by decide +kernel
theorem dX12_order_95 : decode cX12_order 95 = .ok (.aload_n 0, 1) := by decide +kernel
theorem dX12_order_96 : decode cX12_order 96 = .ok (.getfield 42, 3) := by decide +kernel
theorem dX12_order_99 : decode cX12_order 99 = .ok (.iload 8, 2) := by decide +kernel
theorem dX12_order_101 : decode cX12_order 101 = .ok (.iaload, 1) := by decide +kernel
theorem dX12_order_102 : decode cX12_order 102 = .ok (.iastore, 1) := by decide +kernel
theorem dX12_order_103 : decode cX12_order 103 = .ok (.iinc 8 1, 3) := by decide +kernel
theorem dX12_order_106 : decode cX12_order 106 = .ok (.goto (-31), 3) := by decide +kernel
theorem dX12_order_109 : decode cX12_order 109 = .ok (.iload 5, 2) := by decide +kernel
theorem dX12_order_111 : decode cX12_order 111 = .ok (.iload 7, 2) := by decide +kernel
theorem dX12_order_113 : decode cX12_order 113 = .ok (.invokestatic 259, 3) := by decide +kernel
theorem dX12_order_116 : decode cX12_order 116 = .ok (.istore 5, 2) := by decide +kernel
theorem dX12_order_118 : decode cX12_order 118 = .ok (.iinc 6 1, 3) := by decide +kernel
theorem dX12_order_121 : decode cX12_order 121 = .ok (.goto (-74), 3) := by decide +kernel
theorem dX12_order_124 : decode cX12_order 124 = .ok (.iload_n 2, 1) := by decide +kernel
theorem dX12_order_125 : decode cX12_order 125 = .ok (.iconst (-1), 1) := by decide +kernel
theorem dX12_order_126 : decode cX12_order 126 = .ok (.if_icmp .ne 8, 3) := by decide +kernel
theorem dX12_order_129 : decode cX12_order 129 = .ok (.iload 5, 2) := by decide +kernel
theorem dX12_order_131 : decode cX12_order 131 = .ok (.goto 25, 3) := by decide +kernel
theorem dX12_order_134 : decode cX12_order 134 = .ok (.iload_n 2, 1) := by decide +kernel
theorem dX12_order_135 : decode cX12_order 135 = .ok (.iconst 0, 1) := by decide +kernel
theorem dX12_order_136 : decode cX12_order 136 = .ok (.iload 4, 2) := by decide +kernel
theorem dX12_order_138 : decode cX12_order 138 = .ok (.iconst 1, 1) := by decide +kernel
theorem dX12_order_139 : decode cX12_order 139 = .ok (.isub, 1) := by decide +kernel
theorem dX12_order_140 : decode cX12_order 140 = .ok (.invokestatic 73, 3) := by decide +kernel
theorem dX12_order_143 : decode cX12_order 143 = .ok (.ifCond .eq 12, 3) := by decide +kernel
theorem dX12_order_146 : decode cX12_order 146 = .ok (.aload_n 0, 1) := by decide +kernel
theorem dX12_order_147 : decode cX12_order 147 = .ok (.getfield 45, 3) := by decide +kernel
theorem dX12_order_150 : decode cX12_order 150 = .ok (.iload_n 2, 1) := by decide +kernel
theorem dX12_order_151 : decode cX12_order 151 = .ok (.iaload, 1) := by decide +kernel
theorem dX12_order_152 : decode cX12_order 152 = .ok (.goto 4, 3) := by decide +kernel
theorem dX12_order_155 : decode cX12_order 155 = .ok (.iconst (-1), 1) := by decide +kernel
theorem dX12_order_156 : decode cX12_order 156 = .ok (.ireturn, 1) := by decide +kernel
theorem dX12_ageOf_0 : decode cX12_ageOf 0 = .ok (.aload_n 0, 1) := by decide +kernel
theorem dX12_ageOf_1 : decode cX12_ageOf 1 = .ok (.iload_n 1, 1) := by decide +kernel
theorem dX12_ageOf_2 : decode cX12_ageOf 2 = .ok (.iconst 5, 1) := by decide +kernel
theorem dX12_ageOf_3 : decode cX12_ageOf 3 = .ok (.invokevirtual 70, 3) := by decide +kernel
theorem dX12_ageOf_6 : decode cX12_ageOf 6 = .ok (.bipush 100, 2) := by decide +kernel
theorem dX12_ageOf_8 : decode cX12_ageOf 8 = .ok (.idiv, 1) := by decide +kernel
theorem dX12_ageOf_9 : decode cX12_ageOf 9 = .ok (.ireturn, 1) := by decide +kernel
theorem dX12_agesOf_0 : decode cX12_agesOf 0 = .ok (.iconst 0, 1) := by decide +kernel
theorem dX12_agesOf_1 : decode cX12_agesOf 1 = .ok (.istore_n 2, 1) := by decide +kernel
theorem dX12_agesOf_2 : decode cX12_agesOf 2 = .ok (.iconst 0, 1) := by decide +kernel
theorem dX12_agesOf_3 : decode cX12_agesOf 3 = .ok (.istore_n 3, 1) := by decide +kernel
theorem dX12_agesOf_4 : decode cX12_agesOf 4 = .ok (.iload_n 3, 1) := by decide +kernel
theorem dX12_agesOf_5 : decode cX12_agesOf 5 = .ok (.aload_n 0, 1) := by decide +kernel
theorem dX12_agesOf_6 : decode cX12_agesOf 6 = .ok (.invokevirtual 62, 3) := by decide +kernel
theorem dX12_agesOf_9 : decode cX12_agesOf 9 = .ok (.if_icmp .ge 54, 3) := by decide +kernel
theorem dX12_agesOf_12 : decode cX12_agesOf 12 = .ok (.iload_n 1, 1) := by decide +kernel
theorem dX12_agesOf_13 : decode cX12_agesOf 13 = .ok (.iload_n 3, 1) := by decide +kernel
theorem dX12_agesOf_14 : decode cX12_agesOf 14 = .ok (.invokestatic 337, 3) := by decide +kernel
theorem dX12_agesOf_17 : decode cX12_agesOf 17 = .ok (.ifCond .ne 6, 3) := by decide +kernel
theorem dX12_agesOf_20 : decode cX12_agesOf 20 = .ok (.goto 37, 3) := by decide +kernel
theorem dX12_agesOf_23 : decode cX12_agesOf 23 = .ok (.aload_n 0, 1) := by decide +kernel
theorem dX12_agesOf_24 : decode cX12_agesOf 24 = .ok (.iload_n 3, 1) := by decide +kernel
theorem dX12_agesOf_25 : decode cX12_agesOf 25 = .ok (.invokevirtual 252, 3) := by decide +kernel
theorem dX12_agesOf_28 : decode cX12_agesOf 28 = .ok (.ifCond .eq 5, 3) := by decide +kernel
theorem dX12_agesOf_31 : decode cX12_agesOf 31 = .ok (.iconst (-1), 1) := by decide +kernel
theorem dX12_agesOf_32 : decode cX12_agesOf 32 = .ok (.ireturn, 1) := by decide +kernel
theorem dX12_agesOf_33 : decode cX12_agesOf 33 = .ok (.iload_n 2, 1) := by decide +kernel
theorem dX12_agesOf_34 : decode cX12_agesOf 34 = .ok (.aload_n 0, 1) := by decide +kernel
theorem dX12_agesOf_35 : decode cX12_agesOf 35 = .ok (.iload_n 3, 1) := by decide +kernel
theorem dX12_agesOf_36 : decode cX12_agesOf 36 = .ok (.invokevirtual 349, 3) := by decide +kernel
theorem dX12_agesOf_39 : decode cX12_agesOf 39 = .ok (.bipush 10, 2) := by decide +kernel
theorem dX12_agesOf_41 : decode cX12_agesOf 41 = .ok (.if_icmp .ge 13, 3) := by decide +kernel
theorem dX12_agesOf_44 : decode cX12_agesOf 44 = .ok (.iconst 1, 1) := by decide +kernel
theorem dX12_agesOf_45 : decode cX12_agesOf 45 = .ok (.aload_n 0, 1) := by decide +kernel
theorem dX12_agesOf_46 : decode cX12_agesOf 46 = .ok (.iload_n 3, 1) := by decide +kernel
theorem dX12_agesOf_47 : decode cX12_agesOf 47 = .ok (.invokevirtual 349, 3) := by decide +kernel
theorem dX12_agesOf_50 : decode cX12_agesOf 50 = .ok (.ishl, 1) := by decide +kernel
theorem dX12_agesOf_51 : decode cX12_agesOf 51 = .ok (.goto 4, 3) := by decide +kernel
theorem dX12_agesOf_54 : decode cX12_agesOf 54 = .ok (.iconst 0, 1) := by decide +kernel
theorem dX12_agesOf_55 : decode cX12_agesOf 55 = .ok (.ior, 1) := by decide +kernel
theorem dX12_agesOf_56 : decode cX12_agesOf 56 = .ok (.istore_n 2, 1) := by decide +kernel
theorem dX12_agesOf_57 : decode cX12_agesOf 57 = .ok (.iinc 3 1, 3) := by decide +kernel
theorem dX12_agesOf_60 : decode cX12_agesOf 60 = .ok (.goto (-56), 3) := by decide +kernel
theorem dX12_agesOf_63 : decode cX12_agesOf 63 = .ok (.iload_n 2, 1) := by decide +kernel
theorem dX12_agesOf_64 : decode cX12_agesOf 64 = .ok (.ireturn, 1) := by decide +kernel
theorem dX12_noAges_0 : decode cX12_noAges 0 = .ok (.iload_n 0, 1) := by decide +kernel
theorem dX12_noAges_1 : decode cX12_noAges 1 = .ok (.iconst 0, 1) := by decide +kernel
theorem dX12_noAges_2 : decode cX12_noAges 2 = .ok (.sipush 1023, 3) := by decide +kernel
theorem dX12_noAges_5 : decode cX12_noAges 5 = .ok (.invokestatic 73, 3) := by decide +kernel
theorem dX12_noAges_8 : decode cX12_noAges 8 = .ok (.ifCond .ne 7, 3) := by decide +kernel
theorem dX12_noAges_11 : decode cX12_noAges 11 = .ok (.iconst 1, 1) := by decide +kernel
theorem dX12_noAges_12 : decode cX12_noAges 12 = .ok (.goto 4, 3) := by decide +kernel
theorem dX12_noAges_15 : decode cX12_noAges 15 = .ok (.iconst 0, 1) := by decide +kernel
theorem dX12_noAges_16 : decode cX12_noAges 16 = .ok (.ireturn, 1) := by decide +kernel
theorem dX12_fewest_0 : decode cX12_fewest 0 = .ok (.aload_n 0, 1) := by decide +kernel
theorem dX12_fewest_1 : decode cX12_fewest 1 = .ok (.iconst 0, 1) := by decide +kernel
theorem dX12_fewest_2 : decode cX12_fewest 2 = .ok (.putfield 3, 3) := by decide +kernel
theorem dX12_fewest_5 : decode cX12_fewest 5 = .ok (.aload_n 0, 1) := by decide +kernel
theorem dX12_fewest_6 : decode cX12_fewest 6 = .ok (.iload_n 1, 1) := by decide +kernel
theorem dX12_fewest_7 : decode cX12_fewest 7 = .ok (.invokestatic 352, 3) := by decide +kernel
theorem dX12_fewest_10 : decode cX12_fewest 10 = .ok (.ifCond .ne 10, 3) := by decide +kernel
theorem dX12_fewest_13 : decode cX12_fewest 13 = .ok (.iload_n 2, 1) := by decide +kernel
theorem dX12_fewest_14 : decode cX12_fewest 14 = .ok (.invokestatic 352, 3) := by decide +kernel
theorem dX12_fewest_17 : decode cX12_fewest 17 = .ok (.ifCond .eq 7, 3) := by decide +kernel
theorem dX12_fewest_20 : decode cX12_fewest 20 = .ok (.iconst 1, 1) := by decide +kernel
theorem dX12_fewest_21 : decode cX12_fewest 21 = .ok (.goto 4, 3) := by decide +kernel
theorem dX12_fewest_24 : decode cX12_fewest 24 = .ok (.iconst 0, 1) := by decide +kernel
theorem dX12_fewest_25 : decode cX12_fewest 25 = .ok (.iconst 1, 1) := by decide +kernel
theorem dX12_fewest_26 : decode cX12_fewest 26 = .ok (.invokevirtual 243, 3) := by decide +kernel
theorem dX12_fewest_29 : decode cX12_fewest 29 = .ok (.ifCond .eq 5, 3) := by decide +kernel
theorem dX12_fewest_32 : decode cX12_fewest 32 = .ok (.iconst 0, 1) := by decide +kernel
theorem dX12_fewest_33 : decode cX12_fewest 33 = .ok (.ireturn, 1) := by decide +kernel
theorem dX12_fewest_34 : decode cX12_fewest 34 = .ok (.iconst (-1), 1) := by decide +kernel
theorem dX12_fewest_35 : decode cX12_fewest 35 = .ok (.istore_n 3, 1) := by decide +kernel
theorem dX12_fewest_36 : decode cX12_fewest 36 = .ok (.ldc 255, 2) := by decide +kernel
theorem dX12_fewest_38 : decode cX12_fewest 38 = .ok (.istore 4, 2) := by decide +kernel
theorem dX12_fewest_40 : decode cX12_fewest 40 = .ok (.iconst 0, 1) := by decide +kernel
theorem dX12_fewest_41 : decode cX12_fewest 41 = .ok (.istore 5, 2) := by decide +kernel
theorem dX12_fewest_43 : decode cX12_fewest 43 = .ok (.iload 5, 2) := by decide +kernel
theorem dX12_fewest_45 : decode cX12_fewest 45 = .ok (.aload_n 0, 1) := by decide +kernel
theorem dX12_fewest_46 : decode cX12_fewest 46 = .ok (.invokevirtual 340, 3) := by decide +kernel
theorem dX12_fewest_49 : decode cX12_fewest 49 = .ok (.if_icmp .gt 65, 3) := by decide +kernel
theorem dX12_fewest_52 : decode cX12_fewest 52 = .ok (.iload 5, 2) := by decide +kernel
theorem dX12_fewest_54 : decode cX12_fewest 54 = .ok (.invokestatic 329, 3) := by decide +kernel
theorem dX12_fewest_57 : decode cX12_fewest 57 = .ok (.iload 4, 2) := by decide +kernel
theorem dX12_fewest_59 : decode cX12_fewest 59 = .ok (.if_icmp .lt 6, 3) := by decide +kernel
theorem dX12_fewest_62 : decode cX12_fewest 62 = .ok (.goto 46, 3) := by decide +kernel
theorem dX12_fewest_65 : decode cX12_fewest 65 = .ok (.aload_n 0, 1) := by decide +kernel
theorem dX12_fewest_66 : decode cX12_fewest 66 = .ok (.iload 5, 2) := by decide +kernel
theorem dX12_fewest_68 : decode cX12_fewest 68 = .ok (.invokevirtual 355, 3) := by decide +kernel
theorem dX12_fewest_71 : decode cX12_fewest 71 = .ok (.istore 6, 2) := by decide +kernel
theorem dX12_fewest_73 : decode cX12_fewest 73 = .ok (.iload 6, 2) := by decide +kernel
theorem dX12_fewest_75 : decode cX12_fewest 75 = .ok (.iconst (-1), 1) := by decide +kernel
theorem dX12_fewest_76 : decode cX12_fewest 76 = .ok (.if_icmp .eq 32, 3) := by decide +kernel
theorem dX12_fewest_79 : decode cX12_fewest 79 = .ok (.iload_n 1, 1) := by decide +kernel
theorem dX12_fewest_80 : decode cX12_fewest 80 = .ok (.iload 6, 2) := by decide +kernel
theorem dX12_fewest_82 : decode cX12_fewest 82 = .ok (.iconst (-1), 1) := by decide +kernel
theorem dX12_fewest_83 : decode cX12_fewest 83 = .ok (.ixor, 1) := by decide +kernel
theorem dX12_fewest_84 : decode cX12_fewest 84 = .ok (.iand, 1) := by decide +kernel
theorem dX12_fewest_85 : decode cX12_fewest 85 = .ok (.ifCond .ne 23, 3) := by decide +kernel
theorem dX12_fewest_88 : decode cX12_fewest 88 = .ok (.iload 6, 2) := by decide +kernel
theorem dX12_fewest_90 : decode cX12_fewest 90 = .ok (.iload_n 2, 1) := by decide +kernel
theorem dX12_fewest_91 : decode cX12_fewest 91 = .ok (.iand, 1) := by decide +kernel
theorem dX12_fewest_92 : decode cX12_fewest 92 = .ok (.ifCond .eq 6, 3) := by decide +kernel
theorem dX12_fewest_95 : decode cX12_fewest 95 = .ok (.goto 13, 3) := by decide +kernel
theorem dX12_fewest_98 : decode cX12_fewest 98 = .ok (.iload 5, 2) := by decide +kernel
theorem dX12_fewest_100 : decode cX12_fewest 100 = .ok (.istore_n 3, 1) := by decide +kernel
theorem dX12_fewest_101 : decode cX12_fewest 101 = .ok (.iload 5, 2) := by decide +kernel
theorem dX12_fewest_103 : decode cX12_fewest 103 = .ok (.invokestatic 329, 3) := by decide +kernel
theorem dX12_fewest_106 : decode cX12_fewest 106 = .ok (.istore 4, 2) := by decide +kernel
theorem dX12_fewest_108 : decode cX12_fewest 108 = .ok (.iinc 5 1, 3) := by decide +kernel
theorem dX12_fewest_111 : decode cX12_fewest 111 = .ok (.goto (-68), 3) := by decide +kernel
theorem dX12_fewest_114 : decode cX12_fewest 114 = .ok (.iload_n 3, 1) := by decide +kernel
theorem dX12_fewest_115 : decode cX12_fewest 115 = .ok (.ireturn, 1) := by decide +kernel
theorem dX12_wasHad_0 : decode cX12_wasHad 0 = .ok (.aload_n 0, 1) := by decide +kernel
theorem dX12_wasHad_1 : decode cX12_wasHad 1 = .ok (.iload_n 1, 1) := by decide +kernel
theorem dX12_wasHad_2 : decode cX12_wasHad 2 = .ok (.invokevirtual 252, 3) := by decide +kernel
theorem dX12_wasHad_5 : decode cX12_wasHad 5 = .ok (.ifCond .ne 39, 3) := by decide +kernel
theorem dX12_wasHad_8 : decode cX12_wasHad 8 = .ok (.aload_n 0, 1) := by decide +kernel
theorem dX12_wasHad_9 : decode cX12_wasHad 9 = .ok (.iload_n 1, 1) := by decide +kernel
theorem dX12_wasHad_10 : decode cX12_wasHad 10 = .ok (.invokevirtual 349, 3) := by decide +kernel
theorem dX12_wasHad_13 : decode cX12_wasHad 13 = .ok (.iload_n 2, 1) := by decide +kernel
theorem dX12_wasHad_14 : decode cX12_wasHad 14 = .ok (.if_icmp .ne 30, 3) := by decide +kernel
theorem dX12_wasHad_17 : decode cX12_wasHad 17 = .ok (.aload_n 0, 1) := by decide +kernel
theorem dX12_wasHad_18 : decode cX12_wasHad 18 = .ok (.iload_n 1, 1) := by decide +kernel
theorem dX12_wasHad_19 : decode cX12_wasHad 19 = .ok (.bipush 6, 2) := by decide +kernel
theorem dX12_wasHad_21 : decode cX12_wasHad 21 = .ok (.invokevirtual 70, 3) := by decide +kernel
theorem dX12_wasHad_24 : decode cX12_wasHad 24 = .ok (.iload_n 3, 1) := by decide +kernel
theorem dX12_wasHad_25 : decode cX12_wasHad 25 = .ok (.if_icmp .ne 19, 3) := by decide +kernel
theorem dX12_wasHad_28 : decode cX12_wasHad 28 = .ok (.aload_n 0, 1) := by decide +kernel
theorem dX12_wasHad_29 : decode cX12_wasHad 29 = .ok (.iload_n 1, 1) := by decide +kernel
theorem dX12_wasHad_30 : decode cX12_wasHad 30 = .ok (.bipush 7, 2) := by decide +kernel
theorem dX12_wasHad_32 : decode cX12_wasHad 32 = .ok (.invokevirtual 70, 3) := by decide +kernel
theorem dX12_wasHad_35 : decode cX12_wasHad 35 = .ok (.iload 4, 2) := by decide +kernel
theorem dX12_wasHad_37 : decode cX12_wasHad 37 = .ok (.if_icmp .ne 7, 3) := by decide +kernel
theorem dX12_wasHad_40 : decode cX12_wasHad 40 = .ok (.iconst 1, 1) := by decide +kernel
theorem dX12_wasHad_41 : decode cX12_wasHad 41 = .ok (.goto 4, 3) := by decide +kernel
theorem dX12_wasHad_44 : decode cX12_wasHad 44 = .ok (.iconst 0, 1) := by decide +kernel
theorem dX12_wasHad_45 : decode cX12_wasHad 45 = .ok (.ireturn, 1) := by decide +kernel
theorem dX12_he_0 : decode cX12_he 0 = .ok (.aload_n 0, 1) := by decide +kernel
theorem dX12_he_1 : decode cX12_he 1 = .ok (.invokevirtual 232, 3) := by decide +kernel
theorem dX12_he_4 : decode cX12_he 4 = .ok (.aload_n 0, 1) := by decide +kernel
theorem dX12_he_5 : decode cX12_he 5 = .ok (.getfield 84, 3) := by decide +kernel
theorem dX12_he_8 : decode cX12_he 8 = .ok (.iconst 2, 1) := by decide +kernel
theorem dX12_he_9 : decode cX12_he 9 = .ok (.irem, 1) := by decide +kernel
theorem dX12_he_10 : decode cX12_he 10 = .ok (.ifCond .ne 16, 3) := by decide +kernel
theorem dX12_he_13 : decode cX12_he 13 = .ok (.aload_n 0, 1) := by decide +kernel
theorem dX12_he_14 : decode cX12_he 14 = .ok (.getfield 84, 3) := by decide +kernel
theorem dX12_he_17 : decode cX12_he 17 = .ok (.bipush 40, 2) := by decide +kernel
theorem dX12_he_19 : decode cX12_he 19 = .ok (.if_icmp .gt 7, 3) := by decide +kernel
theorem dX12_he_22 : decode cX12_he 22 = .ok (.iconst 1, 1) := by decide +kernel
theorem dX12_he_23 : decode cX12_he 23 = .ok (.goto 4, 3) := by decide +kernel
theorem dX12_he_26 : decode cX12_he 26 = .ok (.iconst 0, 1) := by decide +kernel
theorem dX12_he_27 : decode cX12_he 27 = .ok (.istore_n 1, 1) := by decide +kernel
theorem dX12_he_28 : decode cX12_he 28 = .ok (.iconst 0, 1) := by decide +kernel
theorem dX12_he_29 : decode cX12_he 29 = .ok (.istore_n 2, 1) := by decide +kernel
theorem dX12_he_30 : decode cX12_he 30 = .ok (.iload_n 2, 1) := by decide +kernel
theorem dX12_he_31 : decode cX12_he 31 = .ok (.aload_n 0, 1) := by decide +kernel
theorem dX12_he_32 : decode cX12_he 32 = .ok (.getfield 84, 3) := by decide +kernel
theorem dX12_he_35 : decode cX12_he 35 = .ok (.if_icmp .ge 48, 3) := by decide +kernel
theorem dX12_he_38 : decode cX12_he 38 = .ok (.iload_n 1, 1) := by decide +kernel
theorem dX12_he_39 : decode cX12_he 39 = .ok (.ifCond .eq 44, 3) := by decide +kernel
theorem dX12_he_42 : decode cX12_he 42 = .ok (.aload_n 0, 1) := by decide +kernel
theorem dX12_he_43 : decode cX12_he 43 = .ok (.getfield 29, 3) := by decide +kernel
theorem dX12_he_46 : decode cX12_he 46 = .ok (.iload_n 2, 1) := by decide +kernel
theorem dX12_he_47 : decode cX12_he 47 = .ok (.baload, 1) := by decide +kernel
theorem dX12_he_48 : decode cX12_he 48 = .ok (.iconst 0, 1) := by decide +kernel
theorem dX12_he_49 : decode cX12_he 49 = .ok (.bipush 99, 2) := by decide +kernel
theorem dX12_he_51 : decode cX12_he 51 = .ok (.invokestatic 73, 3) := by decide +kernel
theorem dX12_he_54 : decode cX12_he 54 = .ok (.ifCond .eq 21, 3) := by decide +kernel
theorem dX12_he_57 : decode cX12_he 57 = .ok (.aload_n 0, 1) := by decide +kernel
theorem dX12_he_58 : decode cX12_he 58 = .ok (.getfield 29, 3) := by decide +kernel
theorem dX12_he_61 : decode cX12_he 61 = .ok (.iload_n 2, 1) := by decide +kernel
theorem dX12_he_62 : decode cX12_he 62 = .ok (.iconst 1, 1) := by decide +kernel
theorem dX12_he_63 : decode cX12_he 63 = .ok (.iadd, 1) := by decide +kernel
theorem dX12_he_64 : decode cX12_he 64 = .ok (.baload, 1) := by decide +kernel
theorem dX12_he_65 : decode cX12_he 65 = .ok (.invokestatic 314, 3) := by decide +kernel
theorem dX12_he_68 : decode cX12_he 68 = .ok (.ifCond .ne 7, 3) := by decide +kernel
theorem dX12_he_71 : decode cX12_he 71 = .ok (.iconst 1, 1) := by decide +kernel
theorem dX12_he_72 : decode cX12_he 72 = .ok (.goto 4, 3) := by decide +kernel
theorem dX12_he_75 : decode cX12_he 75 = .ok (.iconst 0, 1) := by decide +kernel
theorem dX12_he_76 : decode cX12_he 76 = .ok (.istore_n 1, 1) := by decide +kernel
theorem dX12_he_77 : decode cX12_he 77 = .ok (.iinc 2 2, 3) := by decide +kernel
theorem dX12_he_80 : decode cX12_he 80 = .ok (.goto (-50), 3) := by decide +kernel
theorem dX12_he_83 : decode cX12_he 83 = .ok (.aload_n 0, 1) := by decide +kernel
theorem dX12_he_84 : decode cX12_he 84 = .ok (.iload_n 1, 1) := by decide +kernel
theorem dX12_he_85 : decode cX12_he 85 = .ok (.ifCond .ne 7, 3) := by decide +kernel
theorem dX12_he_88 : decode cX12_he 88 = .ok (.iconst 1, 1) := by decide +kernel
theorem dX12_he_89 : decode cX12_he 89 = .ok (.goto 4, 3) := by decide +kernel
theorem dX12_he_92 : decode cX12_he 92 = .ok (.iconst 0, 1) := by decide +kernel
theorem dX12_he_93 : decode cX12_he 93 = .ok (.iconst 1, 1) := by decide +kernel
theorem dX12_he_94 : decode cX12_he 94 = .ok (.invokevirtual 243, 3) := by decide +kernel
theorem dX12_he_97 : decode cX12_he 97 = .ok (.ifCond .eq 5, 3) := by decide +kernel
theorem dX12_he_100 : decode cX12_he 100 = .ok (.iconst 0, 1) := by decide +kernel
theorem dX12_he_101 : decode cX12_he 101 = .ok (.ireturn, 1) := by decide +kernel
theorem dX12_he_102 : decode cX12_he 102 = .ok (.iconst 0, 1) := by decide +kernel
theorem dX12_he_103 : decode cX12_he 103 = .ok (.istore_n 2, 1) := by decide +kernel
theorem dX12_he_104 : decode cX12_he 104 = .ok (.iconst 0, 1) := by decide +kernel
theorem dX12_he_105 : decode cX12_he 105 = .ok (.istore_n 3, 1) := by decide +kernel
theorem dX12_he_106 : decode cX12_he 106 = .ok (.iload_n 3, 1) := by decide +kernel
theorem dX12_he_107 : decode cX12_he 107 = .ok (.bipush 8, 2) := by decide +kernel
theorem dX12_he_109 : decode cX12_he 109 = .ok (.if_icmp .ge 121, 3) := by decide +kernel
theorem dX12_he_112 : decode cX12_he 112 = .ok (.iconst 1, 1) := by decide +kernel
theorem dX12_he_113 : decode cX12_he 113 = .ok (.istore 4, 2) := by decide +kernel
theorem dX12_he_115 : decode cX12_he 115 = .ok (.iconst 0, 1) := by decide +kernel
theorem dX12_he_116 : decode cX12_he 116 = .ok (.istore 5, 2) := by decide +kernel
theorem dX12_he_118 : decode cX12_he 118 = .ok (.iload 5, 2) := by decide +kernel
theorem dX12_he_120 : decode cX12_he 120 = .ok (.aload_n 0, 1) := by decide +kernel
theorem dX12_he_121 : decode cX12_he 121 = .ok (.getfield 84, 3) := by decide +kernel
theorem dX12_he_124 : decode cX12_he 124 = .ok (.if_icmp .ge 85, 3) := by decide +kernel
theorem dX12_he_127 : decode cX12_he 127 = .ok (.iconst 0, 1) := by decide +kernel
theorem dX12_he_128 : decode cX12_he 128 = .ok (.istore 6, 2) := by decide +kernel
theorem dX12_he_130 : decode cX12_he 130 = .ok (.iconst 0, 1) := by decide +kernel
theorem dX12_he_131 : decode cX12_he 131 = .ok (.istore 7, 2) := by decide +kernel
theorem dX12_he_133 : decode cX12_he 133 = .ok (.iload 7, 2) := by decide +kernel
theorem dX12_he_135 : decode cX12_he 135 = .ok (.aload_n 0, 1) := by decide +kernel
theorem dX12_he_136 : decode cX12_he 136 = .ok (.invokevirtual 62, 3) := by decide +kernel
theorem dX12_he_139 : decode cX12_he 139 = .ok (.if_icmp .ge 47, 3) := by decide +kernel
theorem dX12_he_142 : decode cX12_he 142 = .ok (.iload 6, 2) := by decide +kernel
theorem dX12_he_144 : decode cX12_he 144 = .ok (.ifCond .ne 29, 3) := by decide +kernel
theorem dX12_he_147 : decode cX12_he 147 = .ok (.aload_n 0, 1) := by decide +kernel
theorem dX12_he_148 : decode cX12_he 148 = .ok (.iload 7, 2) := by decide +kernel
theorem dX12_he_150 : decode cX12_he 150 = .ok (.aload_n 0, 1) := by decide +kernel
theorem dX12_he_151 : decode cX12_he 151 = .ok (.getfield 29, 3) := by decide +kernel
theorem dX12_he_154 : decode cX12_he 154 = .ok (.iload 5, 2) := by decide +kernel
theorem dX12_he_156 : decode cX12_he 156 = .ok (.baload, 1) := by decide +kernel
theorem dX12_he_157 : decode cX12_he 157 = .ok (.aload_n 0, 1) := by decide +kernel
theorem dX12_he_158 : decode cX12_he 158 = .ok (.getfield 29, 3) := by decide +kernel
theorem dX12_he_161 : decode cX12_he 161 = .ok (.iload 5, 2) := by decide +kernel
theorem dX12_he_163 : decode cX12_he 163 = .ok (.iconst 1, 1) := by decide +kernel
theorem dX12_he_164 : decode cX12_he 164 = .ok (.iadd, 1) := by decide +kernel
theorem dX12_he_165 : decode cX12_he 165 = .ok (.baload, 1) := by decide +kernel
theorem dX12_he_166 : decode cX12_he 166 = .ok (.iload_n 3, 1) := by decide +kernel
theorem dX12_he_167 : decode cX12_he 167 = .ok (.invokevirtual 358, 3) := by decide +kernel
theorem dX12_he_170 : decode cX12_he 170 = .ok (.ifCond .eq 7, 3) := by decide +kernel
theorem dX12_he_173 : decode cX12_he 173 = .ok (.iconst 1, 1) := by decide +kernel
theorem dX12_he_174 : decode cX12_he 174 = .ok (.goto 4, 3) := by decide +kernel
theorem dX12_he_177 : decode cX12_he 177 = .ok (.iconst 0, 1) := by decide +kernel
theorem dX12_he_178 : decode cX12_he 178 = .ok (.istore 6, 2) := by decide +kernel
theorem dX12_he_180 : decode cX12_he 180 = .ok (.iinc 7 1, 3) := by decide +kernel
theorem dX12_he_183 : decode cX12_he 183 = .ok (.goto (-50), 3) := by decide +kernel
theorem dX12_he_186 : decode cX12_he 186 = .ok (.iload 4, 2) := by decide +kernel
theorem dX12_he_188 : decode cX12_he 188 = .ok (.ifCond .eq 12, 3) := by decide +kernel
theorem dX12_he_191 : decode cX12_he 191 = .ok (.iload 6, 2) := by decide +kernel
theorem dX12_he_193 : decode cX12_he 193 = .ok (.ifCond .eq 7, 3) := by decide +kernel
theorem dX12_he_196 : decode cX12_he 196 = .ok (.iconst 1, 1) := by decide +kernel
theorem dX12_he_197 : decode cX12_he 197 = .ok (.goto 4, 3) := by decide +kernel
theorem dX12_he_200 : decode cX12_he 200 = .ok (.iconst 0, 1) := by decide +kernel
theorem dX12_he_201 : decode cX12_he 201 = .ok (.istore 4, 2) := by decide +kernel
theorem dX12_he_203 : decode cX12_he 203 = .ok (.iinc 5 2, 3) := by decide +kernel
theorem dX12_he_206 : decode cX12_he 206 = .ok (.goto (-88), 3) := by decide +kernel
theorem dX12_he_209 : decode cX12_he 209 = .ok (.iload_n 2, 1) := by decide +kernel
theorem dX12_he_210 : decode cX12_he 210 = .ok (.iload 4, 2) := by decide +kernel
theorem dX12_he_212 : decode cX12_he 212 = .ok (.ifCond .eq 9, 3) := by decide +kernel
theorem dX12_he_215 : decode cX12_he 215 = .ok (.iconst 1, 1) := by decide +kernel
theorem dX12_he_216 : decode cX12_he 216 = .ok (.iload_n 3, 1) := by decide +kernel
theorem dX12_he_217 : decode cX12_he 217 = .ok (.ishl, 1) := by decide +kernel
theorem dX12_he_218 : decode cX12_he 218 = .ok (.goto 4, 3) := by decide +kernel
theorem dX12_he_221 : decode cX12_he 221 = .ok (.iconst 0, 1) := by decide +kernel
theorem dX12_he_222 : decode cX12_he 222 = .ok (.ior, 1) := by decide +kernel
theorem dX12_he_223 : decode cX12_he 223 = .ok (.istore_n 2, 1) := by decide +kernel
theorem dX12_he_224 : decode cX12_he 224 = .ok (.iinc 3 1, 3) := by decide +kernel
theorem dX12_he_227 : decode cX12_he 227 = .ok (.goto (-121), 3) := by decide +kernel
theorem dX12_he_230 : decode cX12_he 230 = .ok (.iload_n 2, 1) := by decide +kernel
theorem dX12_he_231 : decode cX12_he 231 = .ok (.ireturn, 1) := by decide +kernel
theorem dX12_fits_0 : decode cX12_fits 0 = .ok (.aload_n 0, 1) := by decide +kernel
theorem dX12_fits_1 : decode cX12_fits 1 = .ok (.iload_n 1, 1) := by decide +kernel
theorem dX12_fits_2 : decode cX12_fits 2 = .ok (.invokevirtual 252, 3) := by decide +kernel
theorem dX12_fits_5 : decode cX12_fits 5 = .ok (.ifCond .ne 7, 3) := by decide +kernel
theorem dX12_fits_8 : decode cX12_fits 8 = .ok (.iconst 1, 1) := by decide +kernel
theorem dX12_fits_9 : decode cX12_fits 9 = .ok (.goto 4, 3) := by decide +kernel
theorem dX12_fits_12 : decode cX12_fits 12 = .ok (.iconst 0, 1) := by decide +kernel
theorem dX12_fits_13 : decode cX12_fits 13 = .ok (.istore_n 2, 1) := by decide +kernel
theorem dX12_fits_14 : decode cX12_fits 14 = .ok (.iconst 0, 1) := by decide +kernel
theorem dX12_fits_15 : decode cX12_fits 15 = .ok (.istore_n 3, 1) := by decide +kernel
theorem dX12_fits_16 : decode cX12_fits 16 = .ok (.iload_n 3, 1) := by decide +kernel
theorem dX12_fits_17 : decode cX12_fits 17 = .ok (.aload_n 0, 1) := by decide +kernel
theorem dX12_fits_18 : decode cX12_fits 18 = .ok (.getfield 84, 3) := by decide +kernel
theorem dX12_fits_21 : decode cX12_fits 21 = .ok (.if_icmp .ge 39, 3) := by decide +kernel
theorem dX12_fits_24 : decode cX12_fits 24 = .ok (.iload_n 2, 1) := by decide +kernel
theorem dX12_fits_25 : decode cX12_fits 25 = .ok (.ifCond .eq 35, 3) := by decide +kernel
theorem dX12_fits_28 : decode cX12_fits 28 = .ok (.aload_n 0, 1) := by decide +kernel
theorem dX12_fits_29 : decode cX12_fits 29 = .ok (.getfield 29, 3) := by decide +kernel
theorem dX12_fits_32 : decode cX12_fits 32 = .ok (.iload_n 3, 1) := by decide +kernel
theorem dX12_fits_33 : decode cX12_fits 33 = .ok (.baload, 1) := by decide +kernel
theorem dX12_fits_34 : decode cX12_fits 34 = .ok (.sipush 255, 3) := by decide +kernel
theorem dX12_fits_37 : decode cX12_fits 37 = .ok (.iand, 1) := by decide +kernel
theorem dX12_fits_38 : decode cX12_fits 38 = .ok (.aload_n 0, 1) := by decide +kernel
theorem dX12_fits_39 : decode cX12_fits 39 = .ok (.iload_n 1, 1) := by decide +kernel
theorem dX12_fits_40 : decode cX12_fits 40 = .ok (.iconst 5, 1) := by decide +kernel
theorem dX12_fits_41 : decode cX12_fits 41 = .ok (.invokevirtual 70, 3) := by decide +kernel
theorem dX12_fits_44 : decode cX12_fits 44 = .ok (.bipush 10, 2) := by decide +kernel
theorem dX12_fits_46 : decode cX12_fits 46 = .ok (.idiv, 1) := by decide +kernel
theorem dX12_fits_47 : decode cX12_fits 47 = .ok (.isub, 1) := by decide +kernel
theorem dX12_fits_48 : decode cX12_fits 48 = .ok (.iconst 0, 1) := by decide +kernel
theorem dX12_fits_49 : decode cX12_fits 49 = .ok (.iconst 1, 1) := by decide +kernel
theorem dX12_fits_50 : decode cX12_fits 50 = .ok (.invokestatic 73, 3) := by decide +kernel
theorem dX12_fits_53 : decode cX12_fits 53 = .ok (.istore_n 2, 1) := by decide +kernel
theorem dX12_fits_54 : decode cX12_fits 54 = .ok (.iinc 3 1, 3) := by decide +kernel
theorem dX12_fits_57 : decode cX12_fits 57 = .ok (.goto (-41), 3) := by decide +kernel
theorem dX12_fits_60 : decode cX12_fits 60 = .ok (.iload_n 2, 1) := by decide +kernel
theorem dX12_fits_61 : decode cX12_fits 61 = .ok (.ireturn, 1) := by decide +kernel
theorem dX12_allThatFit_0 : decode cX12_allThatFit 0 = .ok (.iconst 0, 1) := by decide +kernel
theorem dX12_allThatFit_1 : decode cX12_allThatFit 1 = .ok (.istore_n 1, 1) := by decide +kernel
theorem dX12_allThatFit_2 : decode cX12_allThatFit 2 = .ok (.iconst 0, 1) := by decide +kernel
theorem dX12_allThatFit_3 : decode cX12_allThatFit 3 = .ok (.istore_n 2, 1) := by decide +kernel
theorem dX12_allThatFit_4 : decode cX12_allThatFit 4 = .ok (.iload_n 2, 1) := by decide +kernel
theorem dX12_allThatFit_5 : decode cX12_allThatFit 5 = .ok (.aload_n 0, 1) := by decide +kernel
theorem dX12_allThatFit_6 : decode cX12_allThatFit 6 = .ok (.invokevirtual 62, 3) := by decide +kernel
theorem dX12_allThatFit_9 : decode cX12_allThatFit 9 = .ok (.if_icmp .ge 27, 3) := by decide +kernel
theorem dX12_allThatFit_12 : decode cX12_allThatFit 12 = .ok (.iload_n 1, 1) := by decide +kernel
theorem dX12_allThatFit_13 : decode cX12_allThatFit 13 = .ok (.aload_n 0, 1) := by decide +kernel
theorem dX12_allThatFit_14 : decode cX12_allThatFit 14 = .ok (.iload_n 2, 1) := by decide +kernel
theorem dX12_allThatFit_15 : decode cX12_allThatFit 15 = .ok (.invokevirtual 362, 3) := by decide +kernel
theorem dX12_allThatFit_18 : decode cX12_allThatFit 18 = .ok (.ifCond .eq 9, 3) := by decide +kernel
theorem dX12_allThatFit_21 : decode cX12_allThatFit 21 = .ok (.iconst 1, 1) := by decide +kernel
theorem dX12_allThatFit_22 : decode cX12_allThatFit 22 = .ok (.iload_n 2, 1) := by decide +kernel
theorem dX12_allThatFit_23 : decode cX12_allThatFit 23 = .ok (.ishl, 1) := by decide +kernel
theorem dX12_allThatFit_24 : decode cX12_allThatFit 24 = .ok (.goto 4, 3) := by decide +kernel
theorem dX12_allThatFit_27 : decode cX12_allThatFit 27 = .ok (.iconst 0, 1) := by decide +kernel
theorem dX12_allThatFit_28 : decode cX12_allThatFit 28 = .ok (.ior, 1) := by decide +kernel
theorem dX12_allThatFit_29 : decode cX12_allThatFit 29 = .ok (.istore_n 1, 1) := by decide +kernel
theorem dX12_allThatFit_30 : decode cX12_allThatFit 30 = .ok (.iinc 2 1, 3) := by decide +kernel
theorem dX12_allThatFit_33 : decode cX12_allThatFit 33 = .ok (.goto (-29), 3) := by decide +kernel
theorem dX12_allThatFit_36 : decode cX12_allThatFit 36 = .ok (.iload_n 1, 1) := by decide +kernel
theorem dX12_allThatFit_37 : decode cX12_allThatFit 37 = .ok (.ireturn, 1) := by decide +kernel
theorem dX12_unknown_0 : decode cX12_unknown 0 = .ok (.aload_n 0, 1) := by decide +kernel
theorem dX12_unknown_1 : decode cX12_unknown 1 = .ok (.invokevirtual 232, 3) := by decide +kernel
theorem dX12_unknown_4 : decode cX12_unknown 4 = .ok (.aload_n 0, 1) := by decide +kernel
theorem dX12_unknown_5 : decode cX12_unknown 5 = .ok (.aload_n 0, 1) := by decide +kernel
theorem dX12_unknown_6 : decode cX12_unknown 6 = .ok (.getfield 84, 3) := by decide +kernel
theorem dX12_unknown_9 : decode cX12_unknown 9 = .ok (.bipush 20, 2) := by decide +kernel
theorem dX12_unknown_11 : decode cX12_unknown 11 = .ok (.if_icmp .le 7, 3) := by decide +kernel
theorem dX12_unknown_14 : decode cX12_unknown 14 = .ok (.iconst 1, 1) := by decide +kernel
theorem dX12_unknown_15 : decode cX12_unknown 15 = .ok (.goto 4, 3) := by decide +kernel
theorem dX12_unknown_18 : decode cX12_unknown 18 = .ok (.iconst 0, 1) := by decide +kernel
theorem dX12_unknown_19 : decode cX12_unknown 19 = .ok (.iconst 1, 1) := by decide +kernel
theorem dX12_unknown_20 : decode cX12_unknown 20 = .ok (.invokevirtual 243, 3) := by decide +kernel
theorem dX12_unknown_23 : decode cX12_unknown 23 = .ok (.ifCond .eq 7, 3) := by decide +kernel
theorem dX12_unknown_26 : decode cX12_unknown 26 = .ok (.iconst 0, 1) := by decide +kernel
theorem dX12_unknown_27 : decode cX12_unknown 27 = .ok (.goto 7, 3) := by decide +kernel
theorem dX12_unknown_30 : decode cX12_unknown 30 = .ok (.aload_n 0, 1) := by decide +kernel
theorem dX12_unknown_31 : decode cX12_unknown 31 = .ok (.invokevirtual 365, 3) := by decide +kernel
theorem dX12_unknown_34 : decode cX12_unknown 34 = .ok (.ireturn, 1) := by decide +kernel
theorem dX12_serve_0 : decode cX12_serve 0 = .ok (.aload_n 0, 1) := by decide +kernel
theorem dX12_serve_1 : decode cX12_serve 1 = .ok (.invokevirtual 232, 3) := by decide +kernel
theorem dX12_serve_4 : decode cX12_serve 4 = .ok (.aload_n 0, 1) := by decide +kernel
theorem dX12_serve_5 : decode cX12_serve 5 = .ok (.aload_n 0, 1) := by decide +kernel
theorem dX12_serve_6 : decode cX12_serve 6 = .ok (.getfield 84, 3) := by decide +kernel
theorem dX12_serve_9 : decode cX12_serve 9 = .ok (.bipush 20, 2) := by decide +kernel
theorem dX12_serve_11 : decode cX12_serve 11 = .ok (.if_icmp .le 7, 3) := by decide +kernel
theorem dX12_serve_14 : decode cX12_serve 14 = .ok (.iconst 1, 1) := by decide +kernel
theorem dX12_serve_15 : decode cX12_serve 15 = .ok (.goto 4, 3) := by decide +kernel
theorem dX12_serve_18 : decode cX12_serve 18 = .ok (.iconst 0, 1) := by decide +kernel
theorem dX12_serve_19 : decode cX12_serve 19 = .ok (.iconst 1, 1) := by decide +kernel
theorem dX12_serve_20 : decode cX12_serve 20 = .ok (.invokevirtual 243, 3) := by decide +kernel
theorem dX12_serve_23 : decode cX12_serve 23 = .ok (.ifCond .eq 5, 3) := by decide +kernel
theorem dX12_serve_26 : decode cX12_serve 26 = .ok (.iconst 0, 1) := by decide +kernel
theorem dX12_serve_27 : decode cX12_serve 27 = .ok (.ireturn, 1) := by decide +kernel
theorem dX12_serve_28 : decode cX12_serve 28 = .ok (.aload_n 0, 1) := by decide +kernel
theorem dX12_serve_29 : decode cX12_serve 29 = .ok (.invokevirtual 365, 3) := by decide +kernel
theorem dX12_serve_32 : decode cX12_serve 32 = .ok (.istore_n 1, 1) := by decide +kernel
theorem dX12_serve_33 : decode cX12_serve 33 = .ok (.iload_n 1, 1) := by decide +kernel
theorem dX12_serve_34 : decode cX12_serve 34 = .ok (.invokestatic 329, 3) := by decide +kernel
theorem dX12_serve_37 : decode cX12_serve 37 = .ok (.istore_n 2, 1) := by decide +kernel
theorem dX12_serve_38 : decode cX12_serve 38 = .ok (.iconst (-1), 1) := by decide +kernel
theorem dX12_serve_39 : decode cX12_serve 39 = .ok (.istore_n 3, 1) := by decide +kernel
theorem dX12_serve_40 : decode cX12_serve 40 = .ok (.ldc 255, 2) := by decide +kernel
theorem dX12_serve_42 : decode cX12_serve 42 = .ok (.istore 4, 2) := by decide +kernel
theorem dX12_serve_44 : decode cX12_serve 44 = .ok (.iconst 0, 1) := by decide +kernel
theorem dX12_serve_45 : decode cX12_serve 45 = .ok (.istore 5, 2) := by decide +kernel
theorem dX12_serve_47 : decode cX12_serve 47 = .ok (.iload 5, 2) := by decide +kernel
theorem dX12_serve_49 : decode cX12_serve 49 = .ok (.aload_n 0, 1) := by decide +kernel
theorem dX12_serve_50 : decode cX12_serve 50 = .ok (.invokevirtual 62, 3) := by decide +kernel
theorem dX12_serve_53 : decode cX12_serve 53 = .ok (.if_icmp .ge 117, 3) := by decide +kernel
theorem dX12_serve_56 : decode cX12_serve 56 = .ok (.iload_n 2, 1) := by decide +kernel
theorem dX12_serve_57 : decode cX12_serve 57 = .ok (.iconst 1, 1) := by decide +kernel
theorem dX12_serve_58 : decode cX12_serve 58 = .ok (.if_icmp .le 112, 3) := by decide +kernel
theorem dX12_serve_61 : decode cX12_serve 61 = .ok (.aload_n 0, 1) := by decide +kernel
theorem dX12_serve_62 : decode cX12_serve 62 = .ok (.iload 5, 2) := by decide +kernel
theorem dX12_serve_64 : decode cX12_serve 64 = .ok (.invokevirtual 252, 3) := by decide +kernel
theorem dX12_serve_67 : decode cX12_serve 67 = .ok (.ifCond .eq 6, 3) := by decide +kernel
theorem dX12_serve_70 : decode cX12_serve 70 = .ok (.goto 94, 3) := by decide +kernel
theorem dX12_serve_73 : decode cX12_serve 73 = .ok (.iconst 0, 1) := by decide +kernel
theorem dX12_serve_74 : decode cX12_serve 74 = .ok (.istore 6, 2) := by decide +kernel
theorem dX12_serve_76 : decode cX12_serve 76 = .ok (.iconst 0, 1) := by decide +kernel
theorem dX12_serve_77 : decode cX12_serve 77 = .ok (.istore 7, 2) := by decide +kernel
theorem dX12_serve_79 : decode cX12_serve 79 = .ok (.iload 7, 2) := by decide +kernel
theorem dX12_serve_81 : decode cX12_serve 81 = .ok (.aload_n 0, 1) := by decide +kernel
theorem dX12_serve_82 : decode cX12_serve 82 = .ok (.invokevirtual 62, 3) := by decide +kernel
theorem dX12_serve_85 : decode cX12_serve 85 = .ok (.if_icmp .ge 45, 3) := by decide +kernel
theorem dX12_serve_88 : decode cX12_serve 88 = .ok (.iload 6, 2) := by decide +kernel
theorem dX12_serve_90 : decode cX12_serve 90 = .ok (.iload_n 1, 1) := by decide +kernel
theorem dX12_serve_91 : decode cX12_serve 91 = .ok (.iload 7, 2) := by decide +kernel
theorem dX12_serve_93 : decode cX12_serve 93 = .ok (.invokestatic 337, 3) := by decide +kernel
theorem dX12_serve_96 : decode cX12_serve 96 = .ok (.ifCond .eq 24, 3) := by decide +kernel
theorem dX12_serve_99 : decode cX12_serve 99 = .ok (.aload_n 0, 1) := by decide +kernel
theorem dX12_serve_100 : decode cX12_serve 100 = .ok (.iload 7, 2) := by decide +kernel
theorem dX12_serve_102 : decode cX12_serve 102 = .ok (.iconst 5, 1) := by decide +kernel
theorem dX12_serve_103 : decode cX12_serve 103 = .ok (.invokevirtual 70, 3) := by decide +kernel
theorem dX12_serve_106 : decode cX12_serve 106 = .ok (.aload_n 0, 1) := by decide +kernel
theorem dX12_serve_107 : decode cX12_serve 107 = .ok (.iload 5, 2) := by decide +kernel
theorem dX12_serve_109 : decode cX12_serve 109 = .ok (.iconst 5, 1) := by decide +kernel
theorem dX12_serve_110 : decode cX12_serve 110 = .ok (.invokevirtual 70, 3) := by decide +kernel
theorem dX12_serve_113 : decode cX12_serve 113 = .ok (.if_icmp .gt 7, 3) := by decide +kernel
theorem dX12_serve_116 : decode cX12_serve 116 = .ok (.iconst 1, 1) := by decide +kernel
theorem dX12_serve_117 : decode cX12_serve 117 = .ok (.goto 4, 3) := by decide +kernel
theorem dX12_serve_120 : decode cX12_serve 120 = .ok (.iconst 0, 1) := by decide +kernel
theorem dX12_serve_121 : decode cX12_serve 121 = .ok (.iadd, 1) := by decide +kernel
theorem dX12_serve_122 : decode cX12_serve 122 = .ok (.istore 6, 2) := by decide +kernel
theorem dX12_serve_124 : decode cX12_serve 124 = .ok (.iinc 7 1, 3) := by decide +kernel
theorem dX12_serve_127 : decode cX12_serve 127 = .ok (.goto (-48), 3) := by decide +kernel
theorem dX12_serve_130 : decode cX12_serve 130 = .ok (.iload 6, 2) := by decide +kernel
theorem dX12_serve_132 : decode cX12_serve 132 = .ok (.iload_n 2, 1) := by decide +kernel
theorem dX12_serve_133 : decode cX12_serve 133 = .ok (.iload 6, 2) := by decide +kernel
theorem dX12_serve_135 : decode cX12_serve 135 = .ok (.isub, 1) := by decide +kernel
theorem dX12_serve_136 : decode cX12_serve 136 = .ok (.invokestatic 293, 3) := by decide +kernel
theorem dX12_serve_139 : decode cX12_serve 139 = .ok (.istore 7, 2) := by decide +kernel
theorem dX12_serve_141 : decode cX12_serve 141 = .ok (.iload 7, 2) := by decide +kernel
theorem dX12_serve_143 : decode cX12_serve 143 = .ok (.iload 4, 2) := by decide +kernel
theorem dX12_serve_145 : decode cX12_serve 145 = .ok (.if_icmp .ge 8, 3) := by decide +kernel
theorem dX12_serve_148 : decode cX12_serve 148 = .ok (.iload 5, 2) := by decide +kernel
theorem dX12_serve_150 : decode cX12_serve 150 = .ok (.goto 4, 3) := by decide +kernel
theorem dX12_serve_153 : decode cX12_serve 153 = .ok (.iload_n 3, 1) := by decide +kernel
theorem dX12_serve_154 : decode cX12_serve 154 = .ok (.istore_n 3, 1) := by decide +kernel
theorem dX12_serve_155 : decode cX12_serve 155 = .ok (.iload 4, 2) := by decide +kernel
theorem dX12_serve_157 : decode cX12_serve 157 = .ok (.iload 7, 2) := by decide +kernel
theorem dX12_serve_159 : decode cX12_serve 159 = .ok (.invokestatic 259, 3) := by decide +kernel
theorem dX12_serve_162 : decode cX12_serve 162 = .ok (.istore 4, 2) := by decide +kernel
theorem dX12_serve_164 : decode cX12_serve 164 = .ok (.iinc 5 1, 3) := by decide +kernel
theorem dX12_serve_167 : decode cX12_serve 167 = .ok (.goto (-120), 3) := by decide +kernel
theorem dX12_serve_170 : decode cX12_serve 170 = .ok (.iload_n 3, 1) := by decide +kernel
theorem dX12_serve_171 : decode cX12_serve 171 = .ok (.ireturn, 1) := by decide +kernel
theorem dX12_jarFrom_0 : decode cX12_jarFrom 0 = .ok (.iconst 0, 1) := by decide +kernel
theorem dX12_jarFrom_1 : decode cX12_jarFrom 1 = .ok (.istore_n 3, 1) := by decide +kernel
theorem dX12_jarFrom_2 : decode cX12_jarFrom 2 = .ok (.iconst 0, 1) := by decide +kernel
theorem dX12_jarFrom_3 : decode cX12_jarFrom 3 = .ok (.istore 4, 2) := by decide +kernel
theorem dX12_jarFrom_5 : decode cX12_jarFrom 5 = .ok (.iload 4, 2) := by decide +kernel
theorem dX12_jarFrom_7 : decode cX12_jarFrom 7 = .ok (.iconst 5, 1) := by decide +kernel
theorem dX12_jarFrom_8 : decode cX12_jarFrom 8 = .ok (.if_icmp .ge 34, 3) := by decide +kernel
theorem dX12_jarFrom_11 : decode cX12_jarFrom 11 = .ok (.iload_n 3, 1) := by decide +kernel
theorem dX12_jarFrom_12 : decode cX12_jarFrom 12 = .ok (.aload_n 0, 1) := by decide +kernel
theorem dX12_jarFrom_13 : decode cX12_jarFrom 13 = .ok (.getfield 29, 3) := by decide +kernel
theorem dX12_jarFrom_16 : decode cX12_jarFrom 16 = .ok (.iconst 5, 1) := by decide +kernel
theorem dX12_jarFrom_17 : decode cX12_jarFrom 17 = .ok (.iload_n 1, 1) := by decide +kernel
theorem dX12_jarFrom_18 : decode cX12_jarFrom 18 = .ok (.imul, 1) := by decide +kernel
theorem dX12_jarFrom_19 : decode cX12_jarFrom 19 = .ok (.iload 4, 2) := by decide +kernel
theorem dX12_jarFrom_21 : decode cX12_jarFrom 21 = .ok (.iadd, 1) := by decide +kernel
theorem dX12_jarFrom_22 : decode cX12_jarFrom 22 = .ok (.baload, 1) := by decide +kernel
theorem dX12_jarFrom_23 : decode cX12_jarFrom 23 = .ok (.aload_n 0, 1) := by decide +kernel
theorem dX12_jarFrom_24 : decode cX12_jarFrom 24 = .ok (.iload_n 2, 1) := by decide +kernel
theorem dX12_jarFrom_25 : decode cX12_jarFrom 25 = .ok (.iload 4, 2) := by decide +kernel
theorem dX12_jarFrom_27 : decode cX12_jarFrom 27 = .ok (.invokevirtual 70, 3) := by decide +kernel
theorem dX12_jarFrom_30 : decode cX12_jarFrom 30 = .ok (.isub, 1) := by decide +kernel
theorem dX12_jarFrom_31 : decode cX12_jarFrom 31 = .ok (.invokestatic 246, 3) := by decide +kernel
theorem dX12_jarFrom_34 : decode cX12_jarFrom 34 = .ok (.iadd, 1) := by decide +kernel
theorem dX12_jarFrom_35 : decode cX12_jarFrom 35 = .ok (.istore_n 3, 1) := by decide +kernel
theorem dX12_jarFrom_36 : decode cX12_jarFrom 36 = .ok (.iinc 4 1, 3) := by decide +kernel
theorem dX12_jarFrom_39 : decode cX12_jarFrom 39 = .ok (.goto (-34), 3) := by decide +kernel
theorem dX12_jarFrom_42 : decode cX12_jarFrom 42 = .ok (.iload_n 3, 1) := by decide +kernel
theorem dX12_jarFrom_43 : decode cX12_jarFrom 43 = .ok (.ireturn, 1) := by decide +kernel
theorem dX12_areJars_0 : decode cX12_areJars 0 = .ok (.aload_n 0, 1) := by decide +kernel
theorem dX12_areJars_1 : decode cX12_areJars 1 = .ok (.getfield 84, 3) := by decide +kernel
theorem dX12_areJars_4 : decode cX12_areJars 4 = .ok (.iconst 5, 1) := by decide +kernel
theorem dX12_areJars_5 : decode cX12_areJars 5 = .ok (.irem, 1) := by decide +kernel
theorem dX12_areJars_6 : decode cX12_areJars 6 = .ok (.ifCond .ne 16, 3) := by decide +kernel
theorem dX12_areJars_9 : decode cX12_areJars 9 = .ok (.aload_n 0, 1) := by decide +kernel
theorem dX12_areJars_10 : decode cX12_areJars 10 = .ok (.getfield 84, 3) := by decide +kernel
theorem dX12_areJars_13 : decode cX12_areJars 13 = .ok (.bipush 25, 2) := by decide +kernel
theorem dX12_areJars_15 : decode cX12_areJars 15 = .ok (.if_icmp .gt 7, 3) := by decide +kernel
theorem dX12_areJars_18 : decode cX12_areJars 18 = .ok (.iconst 1, 1) := by decide +kernel
theorem dX12_areJars_19 : decode cX12_areJars 19 = .ok (.goto 4, 3) := by decide +kernel
theorem dX12_areJars_22 : decode cX12_areJars 22 = .ok (.iconst 0, 1) := by decide +kernel
theorem dX12_areJars_23 : decode cX12_areJars 23 = .ok (.istore_n 1, 1) := by decide +kernel
theorem dX12_areJars_24 : decode cX12_areJars 24 = .ok (.iconst 0, 1) := by decide +kernel
theorem dX12_areJars_25 : decode cX12_areJars 25 = .ok (.istore_n 2, 1) := by decide +kernel
theorem dX12_areJars_26 : decode cX12_areJars 26 = .ok (.iload_n 2, 1) := by decide +kernel
theorem dX12_areJars_27 : decode cX12_areJars 27 = .ok (.aload_n 0, 1) := by decide +kernel
theorem dX12_areJars_28 : decode cX12_areJars 28 = .ok (.getfield 84, 3) := by decide +kernel
theorem dX12_areJars_31 : decode cX12_areJars 31 = .ok (.if_icmp .ge 26, 3) := by decide +kernel
theorem dX12_areJars_34 : decode cX12_areJars 34 = .ok (.iload_n 1, 1) := by decide +kernel
theorem dX12_areJars_35 : decode cX12_areJars 35 = .ok (.ifCond .eq 22, 3) := by decide +kernel
theorem dX12_areJars_38 : decode cX12_areJars 38 = .ok (.aload_n 0, 1) := by decide +kernel
theorem dX12_areJars_39 : decode cX12_areJars 39 = .ok (.getfield 29, 3) := by decide +kernel
theorem dX12_areJars_42 : decode cX12_areJars 42 = .ok (.iload_n 2, 1) := by decide +kernel
theorem dX12_areJars_43 : decode cX12_areJars 43 = .ok (.baload, 1) := by decide +kernel
theorem dX12_areJars_44 : decode cX12_areJars 44 = .ok (.iconst 0, 1) := by decide +kernel
theorem dX12_areJars_45 : decode cX12_areJars 45 = .ok (.bipush 9, 2) := by decide +kernel
theorem dX12_areJars_47 : decode cX12_areJars 47 = .ok (.invokestatic 73, 3) := by decide +kernel
theorem dX12_areJars_50 : decode cX12_areJars 50 = .ok (.istore_n 1, 1) := by decide +kernel
theorem dX12_areJars_51 : decode cX12_areJars 51 = .ok (.iinc 2 1, 3) := by decide +kernel
theorem dX12_areJars_54 : decode cX12_areJars 54 = .ok (.goto (-28), 3) := by decide +kernel
theorem dX12_areJars_57 : decode cX12_areJars 57 = .ok (.iload_n 1, 1) := by decide +kernel
theorem dX12_areJars_58 : decode cX12_areJars 58 = .ok (.ireturn, 1) := by decide +kernel
theorem dX12_farBy_0 : decode cX12_farBy 0 = .ok (.iload_n 2, 1) := by decide +kernel
theorem dX12_farBy_1 : decode cX12_farBy 1 = .ok (.iload_n 3, 1) := by decide +kernel
theorem dX12_farBy_2 : decode cX12_farBy 2 = .ok (.invokestatic 337, 3) := by decide +kernel
theorem dX12_farBy_5 : decode cX12_farBy 5 = .ok (.ifCond .eq 8, 3) := by decide +kernel
theorem dX12_farBy_8 : decode cX12_farBy 8 = .ok (.ldc 255, 2) := by decide +kernel
theorem dX12_farBy_10 : decode cX12_farBy 10 = .ok (.goto 20, 3) := by decide +kernel
theorem dX12_farBy_13 : decode cX12_farBy 13 = .ok (.aload_n 0, 1) := by decide +kernel
theorem dX12_farBy_14 : decode cX12_farBy 14 = .ok (.iload_n 1, 1) := by decide +kernel
theorem dX12_farBy_15 : decode cX12_farBy 15 = .ok (.iload_n 3, 1) := by decide +kernel
theorem dX12_farBy_16 : decode cX12_farBy 16 = .ok (.invokevirtual 368, 3) := by decide +kernel
theorem dX12_farBy_19 : decode cX12_farBy 19 = .ok (.aload_n 0, 1) := by decide +kernel
theorem dX12_farBy_20 : decode cX12_farBy 20 = .ok (.getfield 48, 3) := by decide +kernel
theorem dX12_farBy_23 : decode cX12_farBy 23 = .ok (.iload_n 2, 1) := by decide +kernel
theorem dX12_farBy_24 : decode cX12_farBy 24 = .ok (.iconst 1, 1) := by decide +kernel
theorem dX12_farBy_25 : decode cX12_farBy 25 = .ok (.iload_n 3, 1) := by decide +kernel
theorem dX12_farBy_26 : decode cX12_farBy 26 = .ok (.ishl, 1) := by decide +kernel
theorem dX12_farBy_27 : decode cX12_farBy 27 = .ok (.ior, 1) := by decide +kernel
theorem dX12_farBy_28 : decode cX12_farBy 28 = .ok (.iaload, 1) := by decide +kernel
theorem dX12_farBy_29 : decode cX12_farBy 29 = .ok (.iadd, 1) := by decide +kernel
theorem dX12_farBy_30 : decode cX12_farBy 30 = .ok (.ireturn, 1) := by decide +kernel
theorem dX12_laysLeast_0 : decode cX12_laysLeast 0 = .ok (.aload_n 0, 1) := by decide +kernel
theorem dX12_laysLeast_1 : decode cX12_laysLeast 1 = .ok (.invokevirtual 340, 3) := by decide +kernel
theorem dX12_laysLeast_4 : decode cX12_laysLeast 4 = .ok (.istore_n 2, 1) := by decide +kernel
theorem dX12_laysLeast_5 : decode cX12_laysLeast 5 = .ok (.iload_n 2, 1) := by decide +kernel
theorem dX12_laysLeast_6 : decode cX12_laysLeast 6 = .ok (.ifCond .lt 77, 3) := by decide +kernel
theorem dX12_laysLeast_9 : decode cX12_laysLeast 9 = .ok (.iload_n 2, 1) := by decide +kernel
theorem dX12_laysLeast_10 : decode cX12_laysLeast 10 = .ok (.invokestatic 329, 3) := by decide +kernel
theorem dX12_laysLeast_13 : decode cX12_laysLeast 13 = .ok (.istore_n 3, 1) := by decide +kernel
theorem dX12_laysLeast_14 : decode cX12_laysLeast 14 = .ok (.aload_n 0, 1) := by decide +kernel
theorem dX12_laysLeast_15 : decode cX12_laysLeast 15 = .ok (.getfield 48, 3) := by decide +kernel
theorem dX12_laysLeast_18 : decode cX12_laysLeast 18 = .ok (.iload_n 2, 1) := by decide +kernel
theorem dX12_laysLeast_19 : decode cX12_laysLeast 19 = .ok (.iload_n 3, 1) := by decide +kernel
theorem dX12_laysLeast_20 : decode cX12_laysLeast 20 = .ok (.iload_n 1, 1) := by decide +kernel
theorem dX12_laysLeast_21 : decode cX12_laysLeast 21 = .ok (.if_icmp .lt 7, 3) := by decide +kernel
theorem dX12_laysLeast_24 : decode cX12_laysLeast 24 = .ok (.iconst 0, 1) := by decide +kernel
theorem dX12_laysLeast_25 : decode cX12_laysLeast 25 = .ok (.goto 5, 3) := by decide +kernel
theorem dX12_laysLeast_28 : decode cX12_laysLeast 28 = .ok (.ldc 255, 2) := by decide +kernel
theorem dX12_laysLeast_30 : decode cX12_laysLeast 30 = .ok (.iastore, 1) := by decide +kernel
theorem dX12_laysLeast_31 : decode cX12_laysLeast 31 = .ok (.iconst 0, 1) := by decide +kernel
theorem dX12_laysLeast_32 : decode cX12_laysLeast 32 = .ok (.istore 4, 2) := by decide +kernel
theorem dX12_laysLeast_34 : decode cX12_laysLeast 34 = .ok (.iload 4, 2) := by decide +kernel
theorem dX12_laysLeast_36 : decode cX12_laysLeast 36 = .ok (.aload_n 0, 1) := by decide +kernel
theorem dX12_laysLeast_37 : decode cX12_laysLeast 37 = .ok (.invokevirtual 62, 3) := by decide +kernel
theorem dX12_laysLeast_40 : decode cX12_laysLeast 40 = .ok (.if_icmp .ge 37, 3) := by decide +kernel
theorem dX12_laysLeast_43 : decode cX12_laysLeast 43 = .ok (.iload_n 3, 1) := by decide +kernel
theorem dX12_laysLeast_44 : decode cX12_laysLeast 44 = .ok (.iload_n 1, 1) := by decide +kernel
theorem dX12_laysLeast_45 : decode cX12_laysLeast 45 = .ok (.if_icmp .ge 32, 3) := by decide +kernel
theorem dX12_laysLeast_48 : decode cX12_laysLeast 48 = .ok (.aload_n 0, 1) := by decide +kernel
theorem dX12_laysLeast_49 : decode cX12_laysLeast 49 = .ok (.getfield 48, 3) := by decide +kernel
theorem dX12_laysLeast_52 : decode cX12_laysLeast 52 = .ok (.iload_n 2, 1) := by decide +kernel
theorem dX12_laysLeast_53 : decode cX12_laysLeast 53 = .ok (.aload_n 0, 1) := by decide +kernel
theorem dX12_laysLeast_54 : decode cX12_laysLeast 54 = .ok (.getfield 48, 3) := by decide +kernel
theorem dX12_laysLeast_57 : decode cX12_laysLeast 57 = .ok (.iload_n 2, 1) := by decide +kernel
theorem dX12_laysLeast_58 : decode cX12_laysLeast 58 = .ok (.iaload, 1) := by decide +kernel
theorem dX12_laysLeast_59 : decode cX12_laysLeast 59 = .ok (.aload_n 0, 1) := by decide +kernel
theorem dX12_laysLeast_60 : decode cX12_laysLeast 60 = .ok (.iload_n 3, 1) := by decide +kernel
theorem dX12_laysLeast_61 : decode cX12_laysLeast 61 = .ok (.iload_n 2, 1) := by decide +kernel
theorem dX12_laysLeast_62 : decode cX12_laysLeast 62 = .ok (.iload 4, 2) := by decide +kernel
theorem dX12_laysLeast_64 : decode cX12_laysLeast 64 = .ok (.invokevirtual 371, 3) := by decide +kernel
theorem dX12_laysLeast_67 : decode cX12_laysLeast 67 = .ok (.invokestatic 259, 3) := by decide +kernel
theorem dX12_laysLeast_70 : decode cX12_laysLeast 70 = .ok (.iastore, 1) := by decide +kernel
theorem dX12_laysLeast_71 : decode cX12_laysLeast 71 = .ok (.iinc 4 1, 3) := by decide +kernel
theorem dX12_laysLeast_74 : decode cX12_laysLeast 74 = .ok (.goto (-40), 3) := by decide +kernel
theorem dX12_laysLeast_77 : decode cX12_laysLeast 77 = .ok (.iinc 2 (-1), 3) := by decide +kernel
theorem dX12_laysLeast_80 : decode cX12_laysLeast 80 = .ok (.goto (-75), 3) := by decide +kernel
theorem dX12_laysLeast_83 : decode cX12_laysLeast 83 = .ok (.return_, 1) := by decide +kernel
theorem dX12_jars_0 : decode cX12_jars 0 = .ok (.aload_n 0, 1) := by decide +kernel
theorem dX12_jars_1 : decode cX12_jars 1 = .ok (.invokevirtual 232, 3) := by decide +kernel
theorem dX12_jars_4 : decode cX12_jars 4 = .ok (.aload_n 0, 1) := by decide +kernel
theorem dX12_jars_5 : decode cX12_jars 5 = .ok (.aload_n 0, 1) := by decide +kernel
theorem dX12_jars_6 : decode cX12_jars 6 = .ok (.invokevirtual 375, 3) := by decide +kernel
theorem dX12_jars_9 : decode cX12_jars 9 = .ok (.ifCond .ne 7, 3) := by decide +kernel
theorem dX12_jars_12 : decode cX12_jars 12 = .ok (.iconst 1, 1) := by decide +kernel
theorem dX12_jars_13 : decode cX12_jars 13 = .ok (.goto 4, 3) := by decide +kernel
theorem dX12_jars_16 : decode cX12_jars 16 = .ok (.iconst 0, 1) := by decide +kernel
theorem dX12_jars_17 : decode cX12_jars 17 = .ok (.iconst 1, 1) := by decide +kernel
theorem dX12_jars_18 : decode cX12_jars 18 = .ok (.invokevirtual 243, 3) := by decide +kernel
theorem dX12_jars_21 : decode cX12_jars 21 = .ok (.ifCond .eq 5, 3) := by decide +kernel
theorem dX12_jars_24 : decode cX12_jars 24 = .ok (.iconst 0, 1) := by decide +kernel
theorem dX12_jars_25 : decode cX12_jars 25 = .ok (.ireturn, 1) := by decide +kernel
theorem dX12_jars_26 : decode cX12_jars 26 = .ok (.aload_n 0, 1) := by decide +kernel
theorem dX12_jars_27 : decode cX12_jars 27 = .ok (.getfield 84, 3) := by decide +kernel
theorem dX12_jars_30 : decode cX12_jars 30 = .ok (.iconst 5, 1) := by decide +kernel
theorem dX12_jars_31 : decode cX12_jars 31 = .ok (.idiv, 1) := by decide +kernel
theorem dX12_jars_32 : decode cX12_jars 32 = .ok (.istore_n 2, 1) := by decide +kernel
theorem dX12_jars_33 : decode cX12_jars 33 = .ok (.iload_n 2, 1) := by decide +kernel
theorem dX12_jars_34 : decode cX12_jars 34 = .ok (.aload_n 0, 1) := by decide +kernel
theorem dX12_jars_35 : decode cX12_jars 35 = .ok (.invokevirtual 62, 3) := by decide +kernel
theorem dX12_jars_38 : decode cX12_jars 38 = .ok (.if_icmp .le 5, 3) := by decide +kernel
theorem dX12_jars_41 : decode cX12_jars 41 = .ok (.iconst (-1), 1) := by decide +kernel
theorem dX12_jars_42 : decode cX12_jars 42 = .ok (.ireturn, 1) := by decide +kernel
theorem dX12_jars_43 : decode cX12_jars 43 = .ok (.aload_n 0, 1) := by decide +kernel
theorem dX12_jars_44 : decode cX12_jars 44 = .ok (.iload_n 2, 1) := by decide +kernel
theorem dX12_jars_45 : decode cX12_jars 45 = .ok (.invokevirtual 378, 3) := by decide +kernel
theorem dX12_jars_48 : decode cX12_jars 48 = .ok (.iload_n 1, 1) := by decide +kernel
theorem dX12_jars_49 : decode cX12_jars 49 = .ok (.iconst (-1), 1) := by decide +kernel
theorem dX12_jars_50 : decode cX12_jars 50 = .ok (.if_icmp .ne 10, 3) := by decide +kernel
theorem dX12_jars_53 : decode cX12_jars 53 = .ok (.aload_n 0, 1) := by decide +kernel
theorem dX12_jars_54 : decode cX12_jars 54 = .ok (.getfield 48, 3) := by decide +kernel
theorem dX12_jars_57 : decode cX12_jars 57 = .ok (.iconst 0, 1) := by decide +kernel
theorem dX12_jars_58 : decode cX12_jars 58 = .ok (.iaload, 1) := by decide +kernel
theorem dX12_jars_59 : decode cX12_jars 59 = .ok (.ireturn, 1) := by decide +kernel
theorem dX12_jars_60 : decode cX12_jars 60 = .ok (.iload_n 1, 1) := by decide +kernel
theorem dX12_jars_61 : decode cX12_jars 61 = .ok (.iconst 0, 1) := by decide +kernel
theorem dX12_jars_62 : decode cX12_jars 62 = .ok (.iload_n 2, 1) := by decide +kernel
theorem dX12_jars_63 : decode cX12_jars 63 = .ok (.iconst 1, 1) := by decide +kernel
theorem dX12_jars_64 : decode cX12_jars 64 = .ok (.isub, 1) := by decide +kernel
theorem dX12_jars_65 : decode cX12_jars 65 = .ok (.invokestatic 73, 3) := by decide +kernel
theorem dX12_jars_68 : decode cX12_jars 68 = .ok (.ifCond .ne 5, 3) := by decide +kernel
theorem dX12_jars_71 : decode cX12_jars 71 = .ok (.iconst (-1), 1) := by decide +kernel
theorem dX12_jars_72 : decode cX12_jars 72 = .ok (.ireturn, 1) := by decide +kernel
theorem dX12_jars_73 : decode cX12_jars 73 = .ok (.iconst 0, 1) := by decide +kernel
theorem dX12_jars_74 : decode cX12_jars 74 = .ok (.istore_n 3, 1) := by decide +kernel
theorem dX12_jars_75 : decode cX12_jars 75 = .ok (.iconst 0, 1) := by decide +kernel
theorem dX12_jars_76 : decode cX12_jars 76 = .ok (.istore 4, 2) := by decide +kernel
theorem dX12_jars_78 : decode cX12_jars 78 = .ok (.iconst 0, 1) := by decide +kernel
theorem dX12_jars_79 : decode cX12_jars 79 = .ok (.istore 5, 2) := by decide +kernel
theorem dX12_jars_81 : decode cX12_jars 81 = .ok (.iload 5, 2) := by decide +kernel
theorem dX12_jars_83 : decode cX12_jars 83 = .ok (.iload_n 1, 1) := by decide +kernel
theorem dX12_jars_84 : decode cX12_jars 84 = .ok (.if_icmp .gt 43, 3) := by decide +kernel
theorem dX12_jars_87 : decode cX12_jars 87 = .ok (.iconst 0, 1) := by decide +kernel
theorem dX12_jars_88 : decode cX12_jars 88 = .ok (.istore 4, 2) := by decide +kernel
theorem dX12_jars_90 : decode cX12_jars 90 = .ok (.aload_n 0, 1) := by decide +kernel
theorem dX12_jars_91 : decode cX12_jars 91 = .ok (.iload 5, 2) := by decide +kernel
theorem dX12_jars_93 : decode cX12_jars 93 = .ok (.iload_n 3, 1) := by decide +kernel
theorem dX12_jars_94 : decode cX12_jars 94 = .ok (.iload 4, 2) := by decide +kernel
theorem dX12_jars_96 : decode cX12_jars 96 = .ok (.invokevirtual 371, 3) := by decide +kernel
theorem dX12_jars_99 : decode cX12_jars 99 = .ok (.aload_n 0, 1) := by decide +kernel
theorem dX12_jars_100 : decode cX12_jars 100 = .ok (.getfield 48, 3) := by decide +kernel
theorem dX12_jars_103 : decode cX12_jars 103 = .ok (.iload_n 3, 1) := by decide +kernel
theorem dX12_jars_104 : decode cX12_jars 104 = .ok (.iaload, 1) := by decide +kernel
theorem dX12_jars_105 : decode cX12_jars 105 = .ok (.if_icmp .eq 9, 3) := by decide +kernel
theorem dX12_jars_108 : decode cX12_jars 108 = .ok (.iinc 4 1, 3) := by decide +kernel
theorem dX12_jars_111 : decode cX12_jars 111 = .ok (.goto (-21), 3) := by decide +kernel
theorem dX12_jars_114 : decode cX12_jars 114 = .ok (.iload_n 3, 1) := by decide +kernel
theorem dX12_jars_115 : decode cX12_jars 115 = .ok (.iconst 1, 1) := by decide +kernel
theorem dX12_jars_116 : decode cX12_jars 116 = .ok (.iload 4, 2) := by decide +kernel
theorem dX12_jars_118 : decode cX12_jars 118 = .ok (.ishl, 1) := by decide +kernel
theorem dX12_jars_119 : decode cX12_jars 119 = .ok (.ior, 1) := by decide +kernel
theorem dX12_jars_120 : decode cX12_jars 120 = .ok (.istore_n 3, 1) := by decide +kernel
theorem dX12_jars_121 : decode cX12_jars 121 = .ok (.iinc 5 1, 3) := by decide +kernel
theorem dX12_jars_124 : decode cX12_jars 124 = .ok (.goto (-43), 3) := by decide +kernel
theorem dX12_jars_127 : decode cX12_jars 127 = .ok (.iload 4, 2) := by decide +kernel
theorem dX12_jars_129 : decode cX12_jars 129 = .ok (.ireturn, 1) := by decide +kernel
theorem dX12_kitchen_0 : decode cX12_kitchen 0 = .ok (.aload_n 0, 1) := by decide +kernel
theorem dX12_kitchen_1 : decode cX12_kitchen 1 = .ok (.iconst 0, 1) := by decide +kernel
theorem dX12_kitchen_2 : decode cX12_kitchen 2 = .ok (.putfield 3, 3) := by decide +kernel
theorem dX12_kitchen_5 : decode cX12_kitchen 5 = .ok (.aload_n 0, 1) := by decide +kernel
theorem dX12_kitchen_6 : decode cX12_kitchen 6 = .ok (.iload_n 1, 1) := by decide +kernel
theorem dX12_kitchen_7 : decode cX12_kitchen 7 = .ok (.invokestatic 314, 3) := by decide +kernel
theorem dX12_kitchen_10 : decode cX12_kitchen 10 = .ok (.iconst 1, 1) := by decide +kernel
theorem dX12_kitchen_11 : decode cX12_kitchen 11 = .ok (.invokevirtual 243, 3) := by decide +kernel
theorem dX12_kitchen_14 : decode cX12_kitchen 14 = .ok (.ifCond .eq 5, 3) := by decide +kernel
theorem dX12_kitchen_17 : decode cX12_kitchen 17 = .ok (.iconst 0, 1) := by decide +kernel
theorem dX12_kitchen_18 : decode cX12_kitchen 18 = .ok (.ireturn, 1) := by decide +kernel
theorem dX12_kitchen_19 : decode cX12_kitchen 19 = .ok (.aload_n 0, 1) := by decide +kernel
theorem dX12_kitchen_20 : decode cX12_kitchen 20 = .ok (.bipush 6, 2) := by decide +kernel
theorem dX12_kitchen_22 : decode cX12_kitchen 22 = .ok (.iload_n 1, 1) := by decide +kernel
theorem dX12_kitchen_23 : decode cX12_kitchen 23 = .ok (.invokevirtual 382, 3) := by decide +kernel
theorem dX12_kitchen_26 : decode cX12_kitchen 26 = .ok (.ireturn, 1) := by decide +kernel
theorem dX12_hadAt_0 : decode cX12_hadAt 0 = .ok (.iconst 0, 1) := by decide +kernel
theorem dX12_hadAt_1 : decode cX12_hadAt 1 = .ok (.istore_n 3, 1) := by decide +kernel
theorem dX12_hadAt_2 : decode cX12_hadAt 2 = .ok (.iconst 0, 1) := by decide +kernel
theorem dX12_hadAt_3 : decode cX12_hadAt 3 = .ok (.istore 4, 2) := by decide +kernel
theorem dX12_hadAt_5 : decode cX12_hadAt 5 = .ok (.iload 4, 2) := by decide +kernel
theorem dX12_hadAt_7 : decode cX12_hadAt 7 = .ok (.aload_n 0, 1) := by decide +kernel
theorem dX12_hadAt_8 : decode cX12_hadAt 8 = .ok (.invokevirtual 62, 3) := by decide +kernel
theorem dX12_hadAt_11 : decode cX12_hadAt 11 = .ok (.if_icmp .ge 40, 3) := by decide +kernel
theorem dX12_hadAt_14 : decode cX12_hadAt 14 = .ok (.iload_n 3, 1) := by decide +kernel
theorem dX12_hadAt_15 : decode cX12_hadAt 15 = .ok (.aload_n 0, 1) := by decide +kernel
theorem dX12_hadAt_16 : decode cX12_hadAt 16 = .ok (.iload 4, 2) := by decide +kernel
theorem dX12_hadAt_18 : decode cX12_hadAt 18 = .ok (.invokevirtual 252, 3) := by decide +kernel
theorem dX12_hadAt_21 : decode cX12_hadAt 21 = .ok (.ifCond .ne 21, 3) := by decide +kernel
theorem dX12_hadAt_24 : decode cX12_hadAt 24 = .ok (.aload_n 0, 1) := by decide +kernel
theorem dX12_hadAt_25 : decode cX12_hadAt 25 = .ok (.iload 4, 2) := by decide +kernel
theorem dX12_hadAt_27 : decode cX12_hadAt 27 = .ok (.iload_n 1, 1) := by decide +kernel
theorem dX12_hadAt_28 : decode cX12_hadAt 28 = .ok (.invokevirtual 70, 3) := by decide +kernel
theorem dX12_hadAt_31 : decode cX12_hadAt 31 = .ok (.iload_n 2, 1) := by decide +kernel
theorem dX12_hadAt_32 : decode cX12_hadAt 32 = .ok (.if_icmp .ne 10, 3) := by decide +kernel
theorem dX12_hadAt_35 : decode cX12_hadAt 35 = .ok (.iconst 1, 1) := by decide +kernel
theorem dX12_hadAt_36 : decode cX12_hadAt 36 = .ok (.iload 4, 2) := by decide +kernel
theorem dX12_hadAt_38 : decode cX12_hadAt 38 = .ok (.ishl, 1) := by decide +kernel
theorem dX12_hadAt_39 : decode cX12_hadAt 39 = .ok (.goto 4, 3) := by decide +kernel
theorem dX12_hadAt_42 : decode cX12_hadAt 42 = .ok (.iconst 0, 1) := by decide +kernel
theorem dX12_hadAt_43 : decode cX12_hadAt 43 = .ok (.ior, 1) := by decide +kernel
theorem dX12_hadAt_44 : decode cX12_hadAt 44 = .ok (.istore_n 3, 1) := by decide +kernel
theorem dX12_hadAt_45 : decode cX12_hadAt 45 = .ok (.iinc 4 1, 3) := by decide +kernel
theorem dX12_hadAt_48 : decode cX12_hadAt 48 = .ok (.goto (-43), 3) := by decide +kernel
theorem dX12_hadAt_51 : decode cX12_hadAt 51 = .ok (.iload_n 3, 1) := by decide +kernel
theorem dX12_hadAt_52 : decode cX12_hadAt 52 = .ok (.ireturn, 1) := by decide +kernel
theorem dX12_dated_0 : decode cX12_dated 0 = .ok (.aload_n 0, 1) := by decide +kernel
theorem dX12_dated_1 : decode cX12_dated 1 = .ok (.iconst 0, 1) := by decide +kernel
theorem dX12_dated_2 : decode cX12_dated 2 = .ok (.putfield 3, 3) := by decide +kernel
theorem dX12_dated_5 : decode cX12_dated 5 = .ok (.iload_n 1, 1) := by decide +kernel
theorem dX12_dated_6 : decode cX12_dated 6 = .ok (.aload_n 0, 1) := by decide +kernel
theorem dX12_dated_7 : decode cX12_dated 7 = .ok (.invokevirtual 340, 3) := by decide +kernel
theorem dX12_dated_10 : decode cX12_dated 10 = .ok (.iand, 1) := by decide +kernel
theorem dX12_dated_11 : decode cX12_dated 11 = .ok (.istore_n 2, 1) := by decide +kernel
theorem dX12_dated_12 : decode cX12_dated 12 = .ok (.iload_n 2, 1) := by decide +kernel
theorem dX12_dated_13 : decode cX12_dated 13 = .ok (.ifCond .eq 12, 3) := by decide +kernel
theorem dX12_dated_16 : decode cX12_dated 16 = .ok (.iload_n 2, 1) := by decide +kernel
theorem dX12_dated_17 : decode cX12_dated 17 = .ok (.aload_n 0, 1) := by decide +kernel
theorem dX12_dated_18 : decode cX12_dated 18 = .ok (.invokevirtual 287, 3) := by decide +kernel
theorem dX12_dated_21 : decode cX12_dated 21 = .ok (.iand, 1) := by decide +kernel
theorem dX12_dated_22 : decode cX12_dated 22 = .ok (.ifCond .eq 5, 3) := by decide +kernel
theorem dX12_dated_25 : decode cX12_dated 25 = .ok (.iconst (-1), 1) := by decide +kernel
theorem dX12_dated_26 : decode cX12_dated 26 = .ok (.ireturn, 1) := by decide +kernel
theorem dX12_dated_27 : decode cX12_dated 27 = .ok (.iconst (-1), 1) := by decide +kernel
theorem dX12_dated_28 : decode cX12_dated 28 = .ok (.istore_n 3, 1) := by decide +kernel
theorem dX12_dated_29 : decode cX12_dated 29 = .ok (.iconst 0, 1) := by decide +kernel
theorem dX12_dated_30 : decode cX12_dated 30 = .ok (.istore 4, 2) := by decide +kernel
theorem dX12_dated_32 : decode cX12_dated 32 = .ok (.iload 4, 2) := by decide +kernel
theorem dX12_dated_34 : decode cX12_dated 34 = .ok (.aload_n 0, 1) := by decide +kernel
theorem dX12_dated_35 : decode cX12_dated 35 = .ok (.invokevirtual 62, 3) := by decide +kernel
theorem dX12_dated_38 : decode cX12_dated 38 = .ok (.if_icmp .ge 34, 3) := by decide +kernel
theorem dX12_dated_41 : decode cX12_dated 41 = .ok (.iload_n 2, 1) := by decide +kernel
theorem dX12_dated_42 : decode cX12_dated 42 = .ok (.iload 4, 2) := by decide +kernel
theorem dX12_dated_44 : decode cX12_dated 44 = .ok (.invokestatic 337, 3) := by decide +kernel
theorem dX12_dated_47 : decode cX12_dated 47 = .ok (.ifCond .eq 17, 3) := by decide +kernel
theorem dX12_dated_50 : decode cX12_dated 50 = .ok (.iload_n 3, 1) := by decide +kernel
theorem dX12_dated_51 : decode cX12_dated 51 = .ok (.aload_n 0, 1) := by decide +kernel
theorem dX12_dated_52 : decode cX12_dated 52 = .ok (.iload 4, 2) := by decide +kernel
theorem dX12_dated_54 : decode cX12_dated 54 = .ok (.iconst 5, 1) := by decide +kernel
theorem dX12_dated_55 : decode cX12_dated 55 = .ok (.invokevirtual 70, 3) := by decide +kernel
theorem dX12_dated_58 : decode cX12_dated 58 = .ok (.invokestatic 293, 3) := by decide +kernel
theorem dX12_dated_61 : decode cX12_dated 61 = .ok (.goto 4, 3) := by decide +kernel
theorem dX12_dated_64 : decode cX12_dated 64 = .ok (.iload_n 3, 1) := by decide +kernel
theorem dX12_dated_65 : decode cX12_dated 65 = .ok (.istore_n 3, 1) := by decide +kernel
theorem dX12_dated_66 : decode cX12_dated 66 = .ok (.iinc 4 1, 3) := by decide +kernel
theorem dX12_dated_69 : decode cX12_dated 69 = .ok (.goto (-37), 3) := by decide +kernel
theorem dX12_dated_72 : decode cX12_dated 72 = .ok (.iload_n 3, 1) := by decide +kernel
theorem dX12_dated_73 : decode cX12_dated 73 = .ok (.ireturn, 1) := by decide +kernel
theorem dX12_nextFrom_0 : decode cX12_nextFrom 0 = .ok (.iconst (-1), 1) := by decide +kernel
theorem dX12_nextFrom_1 : decode cX12_nextFrom 1 = .ok (.istore_n 2, 1) := by decide +kernel
theorem dX12_nextFrom_2 : decode cX12_nextFrom 2 = .ok (.iconst 0, 1) := by decide +kernel
theorem dX12_nextFrom_3 : decode cX12_nextFrom 3 = .ok (.istore_n 3, 1) := by decide +kernel
theorem dX12_nextFrom_4 : decode cX12_nextFrom 4 = .ok (.iload_n 3, 1) := by decide +kernel
theorem dX12_nextFrom_5 : decode cX12_nextFrom 5 = .ok (.aload_n 0, 1) := by decide +kernel
theorem dX12_nextFrom_6 : decode cX12_nextFrom 6 = .ok (.invokevirtual 62, 3) := by decide +kernel
theorem dX12_nextFrom_9 : decode cX12_nextFrom 9 = .ok (.if_icmp .ge 45, 3) := by decide +kernel
theorem dX12_nextFrom_12 : decode cX12_nextFrom 12 = .ok (.aload_n 0, 1) := by decide +kernel
theorem dX12_nextFrom_13 : decode cX12_nextFrom 13 = .ok (.iload_n 3, 1) := by decide +kernel
theorem dX12_nextFrom_14 : decode cX12_nextFrom 14 = .ok (.iconst 5, 1) := by decide +kernel
theorem dX12_nextFrom_15 : decode cX12_nextFrom 15 = .ok (.invokevirtual 70, 3) := by decide +kernel
theorem dX12_nextFrom_18 : decode cX12_nextFrom 18 = .ok (.iconst 0, 1) := by decide +kernel
theorem dX12_nextFrom_19 : decode cX12_nextFrom 19 = .ok (.iload_n 1, 1) := by decide +kernel
theorem dX12_nextFrom_20 : decode cX12_nextFrom 20 = .ok (.invokestatic 293, 3) := by decide +kernel
theorem dX12_nextFrom_23 : decode cX12_nextFrom 23 = .ok (.if_icmp .lt 25, 3) := by decide +kernel
theorem dX12_nextFrom_26 : decode cX12_nextFrom 26 = .ok (.iload_n 2, 1) := by decide +kernel
theorem dX12_nextFrom_27 : decode cX12_nextFrom 27 = .ok (.iconst (-1), 1) := by decide +kernel
theorem dX12_nextFrom_28 : decode cX12_nextFrom 28 = .ok (.if_icmp .eq 18, 3) := by decide +kernel
theorem dX12_nextFrom_31 : decode cX12_nextFrom 31 = .ok (.aload_n 0, 1) := by decide +kernel
theorem dX12_nextFrom_32 : decode cX12_nextFrom 32 = .ok (.iload_n 3, 1) := by decide +kernel
theorem dX12_nextFrom_33 : decode cX12_nextFrom 33 = .ok (.iconst 5, 1) := by decide +kernel
theorem dX12_nextFrom_34 : decode cX12_nextFrom 34 = .ok (.invokevirtual 70, 3) := by decide +kernel
theorem dX12_nextFrom_37 : decode cX12_nextFrom 37 = .ok (.aload_n 0, 1) := by decide +kernel
theorem dX12_nextFrom_38 : decode cX12_nextFrom 38 = .ok (.iload_n 2, 1) := by decide +kernel
theorem dX12_nextFrom_39 : decode cX12_nextFrom 39 = .ok (.iconst 5, 1) := by decide +kernel
theorem dX12_nextFrom_40 : decode cX12_nextFrom 40 = .ok (.invokevirtual 70, 3) := by decide +kernel
theorem dX12_nextFrom_43 : decode cX12_nextFrom 43 = .ok (.if_icmp .ge 5, 3) := by decide +kernel
theorem dX12_nextFrom_46 : decode cX12_nextFrom 46 = .ok (.iload_n 3, 1) := by decide +kernel
theorem dX12_nextFrom_47 : decode cX12_nextFrom 47 = .ok (.istore_n 2, 1) := by decide +kernel
theorem dX12_nextFrom_48 : decode cX12_nextFrom 48 = .ok (.iinc 3 1, 3) := by decide +kernel
theorem dX12_nextFrom_51 : decode cX12_nextFrom 51 = .ok (.goto (-47), 3) := by decide +kernel
theorem dX12_nextFrom_54 : decode cX12_nextFrom 54 = .ok (.iload_n 2, 1) := by decide +kernel
theorem dX12_nextFrom_55 : decode cX12_nextFrom 55 = .ok (.ireturn, 1) := by decide +kernel
theorem dX12_gap_0 : decode cX12_gap 0 = .ok (.aload_n 0, 1) := by decide +kernel
theorem dX12_gap_1 : decode cX12_gap 1 = .ok (.iconst 0, 1) := by decide +kernel
theorem dX12_gap_2 : decode cX12_gap 2 = .ok (.putfield 3, 3) := by decide +kernel
theorem dX12_gap_5 : decode cX12_gap 5 = .ok (.iconst 0, 1) := by decide +kernel
theorem dX12_gap_6 : decode cX12_gap 6 = .ok (.istore_n 1, 1) := by decide +kernel
theorem dX12_gap_7 : decode cX12_gap 7 = .ok (.aload_n 0, 1) := by decide +kernel
theorem dX12_gap_8 : decode cX12_gap 8 = .ok (.iconst 0, 1) := by decide +kernel
theorem dX12_gap_9 : decode cX12_gap 9 = .ok (.invokevirtual 385, 3) := by decide +kernel
theorem dX12_gap_12 : decode cX12_gap 12 = .ok (.istore_n 2, 1) := by decide +kernel
theorem dX12_gap_13 : decode cX12_gap 13 = .ok (.iload_n 2, 1) := by decide +kernel
theorem dX12_gap_14 : decode cX12_gap 14 = .ok (.iconst (-1), 1) := by decide +kernel
theorem dX12_gap_15 : decode cX12_gap 15 = .ok (.if_icmp .eq 48, 3) := by decide +kernel
theorem dX12_gap_18 : decode cX12_gap 18 = .ok (.aload_n 0, 1) := by decide +kernel
theorem dX12_gap_19 : decode cX12_gap 19 = .ok (.aload_n 0, 1) := by decide +kernel
theorem dX12_gap_20 : decode cX12_gap 20 = .ok (.iload_n 2, 1) := by decide +kernel
theorem dX12_gap_21 : decode cX12_gap 21 = .ok (.iconst 5, 1) := by decide +kernel
theorem dX12_gap_22 : decode cX12_gap 22 = .ok (.invokevirtual 70, 3) := by decide +kernel
theorem dX12_gap_25 : decode cX12_gap 25 = .ok (.iconst 1, 1) := by decide +kernel
theorem dX12_gap_26 : decode cX12_gap 26 = .ok (.iadd, 1) := by decide +kernel
theorem dX12_gap_27 : decode cX12_gap 27 = .ok (.invokevirtual 385, 3) := by decide +kernel
theorem dX12_gap_30 : decode cX12_gap 30 = .ok (.istore_n 3, 1) := by decide +kernel
theorem dX12_gap_31 : decode cX12_gap 31 = .ok (.iload_n 3, 1) := by decide +kernel
theorem dX12_gap_32 : decode cX12_gap 32 = .ok (.iconst (-1), 1) := by decide +kernel
theorem dX12_gap_33 : decode cX12_gap 33 = .ok (.if_icmp .ne 7, 3) := by decide +kernel
theorem dX12_gap_36 : decode cX12_gap 36 = .ok (.iload_n 1, 1) := by decide +kernel
theorem dX12_gap_37 : decode cX12_gap 37 = .ok (.goto 20, 3) := by decide +kernel
theorem dX12_gap_40 : decode cX12_gap 40 = .ok (.iload_n 1, 1) := by decide +kernel
theorem dX12_gap_41 : decode cX12_gap 41 = .ok (.aload_n 0, 1) := by decide +kernel
theorem dX12_gap_42 : decode cX12_gap 42 = .ok (.iload_n 3, 1) := by decide +kernel
theorem dX12_gap_43 : decode cX12_gap 43 = .ok (.iconst 5, 1) := by decide +kernel
theorem dX12_gap_44 : decode cX12_gap 44 = .ok (.invokevirtual 70, 3) := by decide +kernel
theorem dX12_gap_47 : decode cX12_gap 47 = .ok (.aload_n 0, 1) := by decide +kernel
theorem dX12_gap_48 : decode cX12_gap 48 = .ok (.iload_n 2, 1) := by decide +kernel
theorem dX12_gap_49 : decode cX12_gap 49 = .ok (.iconst 5, 1) := by decide +kernel
theorem dX12_gap_50 : decode cX12_gap 50 = .ok (.invokevirtual 70, 3) := by decide +kernel
theorem dX12_gap_53 : decode cX12_gap 53 = .ok (.isub, 1) := by decide +kernel
theorem dX12_gap_54 : decode cX12_gap 54 = .ok (.invokestatic 293, 3) := by decide +kernel
theorem dX12_gap_57 : decode cX12_gap 57 = .ok (.istore_n 1, 1) := by decide +kernel
theorem dX12_gap_58 : decode cX12_gap 58 = .ok (.iload_n 3, 1) := by decide +kernel
theorem dX12_gap_59 : decode cX12_gap 59 = .ok (.istore_n 2, 1) := by decide +kernel
theorem dX12_gap_60 : decode cX12_gap 60 = .ok (.goto (-47), 3) := by decide +kernel
theorem dX12_gap_63 : decode cX12_gap 63 = .ok (.iload_n 1, 1) := by decide +kernel
theorem dX12_gap_64 : decode cX12_gap 64 = .ok (.ireturn, 1) := by decide +kernel
theorem dX12_oldest_0 : decode cX12_oldest 0 = .ok (.aload_n 0, 1) := by decide +kernel
theorem dX12_oldest_1 : decode cX12_oldest 1 = .ok (.iconst 0, 1) := by decide +kernel
theorem dX12_oldest_2 : decode cX12_oldest 2 = .ok (.putfield 3, 3) := by decide +kernel
theorem dX12_oldest_5 : decode cX12_oldest 5 = .ok (.aload_n 0, 1) := by decide +kernel
theorem dX12_oldest_6 : decode cX12_oldest 6 = .ok (.iconst 0, 1) := by decide +kernel
theorem dX12_oldest_7 : decode cX12_oldest 7 = .ok (.invokevirtual 385, 3) := by decide +kernel
theorem dX12_oldest_10 : decode cX12_oldest 10 = .ok (.ireturn, 1) := by decide +kernel
theorem dX12_next_0 : decode cX12_next 0 = .ok (.aload_n 0, 1) := by decide +kernel
theorem dX12_next_1 : decode cX12_next 1 = .ok (.iconst 0, 1) := by decide +kernel
theorem dX12_next_2 : decode cX12_next 2 = .ok (.putfield 3, 3) := by decide +kernel
theorem dX12_next_5 : decode cX12_next 5 = .ok (.aload_n 0, 1) := by decide +kernel
theorem dX12_next_6 : decode cX12_next 6 = .ok (.aload_n 0, 1) := by decide +kernel
theorem dX12_next_7 : decode cX12_next 7 = .ok (.getfield 13, 3) := by decide +kernel
theorem dX12_next_10 : decode cX12_next 10 = .ok (.iconst 4, 1) := by decide +kernel
theorem dX12_next_11 : decode cX12_next 11 = .ok (.iaload, 1) := by decide +kernel
theorem dX12_next_12 : decode cX12_next 12 = .ok (.iconst 1, 1) := by decide +kernel
theorem dX12_next_13 : decode cX12_next 13 = .ok (.iadd, 1) := by decide +kernel
theorem dX12_next_14 : decode cX12_next 14 = .ok (.invokevirtual 385, 3) := by decide +kernel
theorem dX12_next_17 : decode cX12_next 17 = .ok (.ireturn, 1) := by decide +kernel
theorem dX12_lover_0 : decode cX12_lover 0 = .ok (.aload_n 0, 1) := by decide +kernel
theorem dX12_lover_1 : decode cX12_lover 1 = .ok (.iconst 0, 1) := by decide +kernel
theorem dX12_lover_2 : decode cX12_lover 2 = .ok (.putfield 3, 3) := by decide +kernel
theorem dX12_lover_5 : decode cX12_lover 5 = .ok (.iconst (-1), 1) := by decide +kernel
theorem dX12_lover_6 : decode cX12_lover 6 = .ok (.istore_n 1, 1) := by decide +kernel
theorem dX12_lover_7 : decode cX12_lover 7 = .ok (.iconst 0, 1) := by decide +kernel
theorem dX12_lover_8 : decode cX12_lover 8 = .ok (.istore_n 2, 1) := by decide +kernel
theorem dX12_lover_9 : decode cX12_lover 9 = .ok (.iconst 0, 1) := by decide +kernel
theorem dX12_lover_10 : decode cX12_lover 10 = .ok (.istore_n 3, 1) := by decide +kernel
theorem dX12_lover_11 : decode cX12_lover 11 = .ok (.iload_n 3, 1) := by decide +kernel
theorem dX12_lover_12 : decode cX12_lover 12 = .ok (.bipush 8, 2) := by decide +kernel
theorem dX12_lover_14 : decode cX12_lover 14 = .ok (.if_icmp .ge 40, 3) := by decide +kernel
theorem dX12_lover_17 : decode cX12_lover 17 = .ok (.aload_n 0, 1) := by decide +kernel
theorem dX12_lover_18 : decode cX12_lover 18 = .ok (.bipush 7, 2) := by decide +kernel
theorem dX12_lover_20 : decode cX12_lover 20 = .ok (.iload_n 3, 1) := by decide +kernel
theorem dX12_lover_21 : decode cX12_lover 21 = .ok (.invokevirtual 382, 3) := by decide +kernel
theorem dX12_lover_24 : decode cX12_lover 24 = .ok (.invokestatic 329, 3) := by decide +kernel
theorem dX12_lover_27 : decode cX12_lover 27 = .ok (.istore 4, 2) := by decide +kernel
theorem dX12_lover_29 : decode cX12_lover 29 = .ok (.iload 4, 2) := by decide +kernel
theorem dX12_lover_31 : decode cX12_lover 31 = .ok (.iload_n 2, 1) := by decide +kernel
theorem dX12_lover_32 : decode cX12_lover 32 = .ok (.if_icmp .le 7, 3) := by decide +kernel
theorem dX12_lover_35 : decode cX12_lover 35 = .ok (.iload_n 3, 1) := by decide +kernel
theorem dX12_lover_36 : decode cX12_lover 36 = .ok (.goto 4, 3) := by decide +kernel
theorem dX12_lover_39 : decode cX12_lover 39 = .ok (.iload_n 1, 1) := by decide +kernel
theorem dX12_lover_40 : decode cX12_lover 40 = .ok (.istore_n 1, 1) := by decide +kernel
theorem dX12_lover_41 : decode cX12_lover 41 = .ok (.iload_n 2, 1) := by decide +kernel
theorem dX12_lover_42 : decode cX12_lover 42 = .ok (.iload 4, 2) := by decide +kernel
theorem dX12_lover_44 : decode cX12_lover 44 = .ok (.invokestatic 293, 3) := by decide +kernel
theorem dX12_lover_47 : decode cX12_lover 47 = .ok (.istore_n 2, 1) := by decide +kernel
theorem dX12_lover_48 : decode cX12_lover 48 = .ok (.iinc 3 1, 3) := by decide +kernel
theorem dX12_lover_51 : decode cX12_lover 51 = .ok (.goto (-40), 3) := by decide +kernel
theorem dX12_lover_54 : decode cX12_lover 54 = .ok (.iload_n 1, 1) := by decide +kernel
theorem dX12_lover_55 : decode cX12_lover 55 = .ok (.ireturn, 1) := by decide +kernel
theorem dX12_sad_0 : decode cX12_sad 0 = .ok (.aload_n 0, 1) := by decide +kernel
theorem dX12_sad_1 : decode cX12_sad 1 = .ok (.iconst 0, 1) := by decide +kernel
theorem dX12_sad_2 : decode cX12_sad 2 = .ok (.putfield 3, 3) := by decide +kernel
theorem dX12_sad_5 : decode cX12_sad 5 = .ok (.iconst (-1), 1) := by decide +kernel
theorem dX12_sad_6 : decode cX12_sad 6 = .ok (.istore_n 1, 1) := by decide +kernel
theorem dX12_sad_7 : decode cX12_sad 7 = .ok (.ldc_w 388, 3) := by decide +kernel
theorem dX12_sad_10 : decode cX12_sad 10 = .ok (.istore_n 2, 1) := by decide +kernel
theorem dX12_sad_11 : decode cX12_sad 11 = .ok (.iconst 0, 1) := by decide +kernel
theorem dX12_sad_12 : decode cX12_sad 12 = .ok (.istore_n 3, 1) := by decide +kernel
theorem dX12_sad_13 : decode cX12_sad 13 = .ok (.iload_n 3, 1) := by decide +kernel
theorem dX12_sad_14 : decode cX12_sad 14 = .ok (.aload_n 0, 1) := by decide +kernel
theorem dX12_sad_15 : decode cX12_sad 15 = .ok (.invokevirtual 62, 3) := by decide +kernel
theorem dX12_sad_18 : decode cX12_sad 18 = .ok (.if_icmp .ge 35, 3) := by decide +kernel
theorem dX12_sad_21 : decode cX12_sad 21 = .ok (.aload_n 0, 1) := by decide +kernel
theorem dX12_sad_22 : decode cX12_sad 22 = .ok (.iload_n 3, 1) := by decide +kernel
theorem dX12_sad_23 : decode cX12_sad 23 = .ok (.invokevirtual 281, 3) := by decide +kernel
theorem dX12_sad_26 : decode cX12_sad 26 = .ok (.istore 4, 2) := by decide +kernel
theorem dX12_sad_28 : decode cX12_sad 28 = .ok (.iload 4, 2) := by decide +kernel
theorem dX12_sad_30 : decode cX12_sad 30 = .ok (.iload_n 2, 1) := by decide +kernel
theorem dX12_sad_31 : decode cX12_sad 31 = .ok (.if_icmp .le 7, 3) := by decide +kernel
theorem dX12_sad_34 : decode cX12_sad 34 = .ok (.iload_n 3, 1) := by decide +kernel
theorem dX12_sad_35 : decode cX12_sad 35 = .ok (.goto 4, 3) := by decide +kernel
theorem dX12_sad_38 : decode cX12_sad 38 = .ok (.iload_n 1, 1) := by decide +kernel
theorem dX12_sad_39 : decode cX12_sad 39 = .ok (.istore_n 1, 1) := by decide +kernel
theorem dX12_sad_40 : decode cX12_sad 40 = .ok (.iload_n 2, 1) := by decide +kernel
theorem dX12_sad_41 : decode cX12_sad 41 = .ok (.iload 4, 2) := by decide +kernel
theorem dX12_sad_43 : decode cX12_sad 43 = .ok (.invokestatic 293, 3) := by decide +kernel
theorem dX12_sad_46 : decode cX12_sad 46 = .ok (.istore_n 2, 1) := by decide +kernel
theorem dX12_sad_47 : decode cX12_sad 47 = .ok (.iinc 3 1, 3) := by decide +kernel
theorem dX12_sad_50 : decode cX12_sad 50 = .ok (.goto (-37), 3) := by decide +kernel
theorem dX12_sad_53 : decode cX12_sad 53 = .ok (.iload_n 1, 1) := by decide +kernel
theorem dX12_sad_54 : decode cX12_sad 54 = .ok (.ireturn, 1) := by decide +kernel
theorem dX12_hostHas_0 : decode cX12_hostHas 0 = .ok (.iload_n 1, 1) := by decide +kernel
theorem dX12_hostHas_1 : decode cX12_hostHas 1 = .ok (.iload_n 2, 1) := by decide +kernel
theorem dX12_hostHas_2 : decode cX12_hostHas 2 = .ok (.if_icmp .ne 11, 3) := by decide +kernel
theorem dX12_hostHas_5 : decode cX12_hostHas 5 = .ok (.aload_n 0, 1) := by decide +kernel
theorem dX12_hostHas_6 : decode cX12_hostHas 6 = .ok (.iload_n 1, 1) := by decide +kernel
theorem dX12_hostHas_7 : decode cX12_hostHas 7 = .ok (.invokevirtual 284, 3) := by decide +kernel
theorem dX12_hostHas_10 : decode cX12_hostHas 10 = .ok (.iconst 2, 1) := by decide +kernel
theorem dX12_hostHas_11 : decode cX12_hostHas 11 = .ok (.idiv, 1) := by decide +kernel
theorem dX12_hostHas_12 : decode cX12_hostHas 12 = .ok (.ireturn, 1) := by decide +kernel
theorem dX12_hostHas_13 : decode cX12_hostHas 13 = .ok (.aload_n 0, 1) := by decide +kernel
theorem dX12_hostHas_14 : decode cX12_hostHas 14 = .ok (.iload_n 1, 1) := by decide +kernel
theorem dX12_hostHas_15 : decode cX12_hostHas 15 = .ok (.invokevirtual 284, 3) := by decide +kernel
theorem dX12_hostHas_18 : decode cX12_hostHas 18 = .ok (.aload_n 0, 1) := by decide +kernel
theorem dX12_hostHas_19 : decode cX12_hostHas 19 = .ok (.iload_n 1, 1) := by decide +kernel
theorem dX12_hostHas_20 : decode cX12_hostHas 20 = .ok (.iload_n 2, 1) := by decide +kernel
theorem dX12_hostHas_21 : decode cX12_hostHas 21 = .ok (.invokevirtual 256, 3) := by decide +kernel
theorem dX12_hostHas_24 : decode cX12_hostHas 24 = .ok (.aload_n 0, 1) := by decide +kernel
theorem dX12_hostHas_25 : decode cX12_hostHas 25 = .ok (.getfield 13, 3) := by decide +kernel
theorem dX12_hostHas_28 : decode cX12_hostHas 28 = .ok (.bipush 8, 2) := by decide +kernel
theorem dX12_hostHas_30 : decode cX12_hostHas 30 = .ok (.iaload, 1) := by decide +kernel
theorem dX12_hostHas_31 : decode cX12_hostHas 31 = .ok (.if_icmp .gt 7, 3) := by decide +kernel
theorem dX12_hostHas_34 : decode cX12_hostHas 34 = .ok (.iconst 2, 1) := by decide +kernel
theorem dX12_hostHas_35 : decode cX12_hostHas 35 = .ok (.goto 4, 3) := by decide +kernel
theorem dX12_hostHas_38 : decode cX12_hostHas 38 = .ok (.iconst 0, 1) := by decide +kernel
theorem dX12_hostHas_39 : decode cX12_hostHas 39 = .ok (.isub, 1) := by decide +kernel
theorem dX12_hostHas_40 : decode cX12_hostHas 40 = .ok (.ireturn, 1) := by decide +kernel
theorem dX12_hosts_0 : decode cX12_hosts 0 = .ok (.aload_n 0, 1) := by decide +kernel
theorem dX12_hosts_1 : decode cX12_hosts 1 = .ok (.iconst 0, 1) := by decide +kernel
theorem dX12_hosts_2 : decode cX12_hosts 2 = .ok (.putfield 3, 3) := by decide +kernel
theorem dX12_hosts_5 : decode cX12_hosts 5 = .ok (.aload_n 0, 1) := by decide +kernel
theorem dX12_hosts_6 : decode cX12_hosts 6 = .ok (.aload_n 0, 1) := by decide +kernel
theorem dX12_hosts_7 : decode cX12_hosts 7 = .ok (.iload_n 1, 1) := by decide +kernel
theorem dX12_hosts_8 : decode cX12_hosts 8 = .ok (.invokevirtual 278, 3) := by decide +kernel
theorem dX12_hosts_11 : decode cX12_hosts 11 = .ok (.ifCond .ne 11, 3) := by decide +kernel
theorem dX12_hosts_14 : decode cX12_hosts 14 = .ok (.aload_n 0, 1) := by decide +kernel
theorem dX12_hosts_15 : decode cX12_hosts 15 = .ok (.iload_n 2, 1) := by decide +kernel
theorem dX12_hosts_16 : decode cX12_hosts 16 = .ok (.invokevirtual 278, 3) := by decide +kernel
theorem dX12_hosts_19 : decode cX12_hosts 19 = .ok (.ifCond .eq 7, 3) := by decide +kernel
theorem dX12_hosts_22 : decode cX12_hosts 22 = .ok (.iconst 1, 1) := by decide +kernel
theorem dX12_hosts_23 : decode cX12_hosts 23 = .ok (.goto 4, 3) := by decide +kernel
theorem dX12_hosts_26 : decode cX12_hosts 26 = .ok (.iconst 0, 1) := by decide +kernel
theorem dX12_hosts_27 : decode cX12_hosts 27 = .ok (.iconst 1, 1) := by decide +kernel
theorem dX12_hosts_28 : decode cX12_hosts 28 = .ok (.invokevirtual 243, 3) := by decide +kernel
theorem dX12_hosts_31 : decode cX12_hosts 31 = .ok (.ifCond .ne 21, 3) := by decide +kernel
theorem dX12_hosts_34 : decode cX12_hosts 34 = .ok (.aload_n 0, 1) := by decide +kernel
theorem dX12_hosts_35 : decode cX12_hosts 35 = .ok (.iload_n 1, 1) := by decide +kernel
theorem dX12_hosts_36 : decode cX12_hosts 36 = .ok (.iload_n 2, 1) := by decide +kernel
theorem dX12_hosts_37 : decode cX12_hosts 37 = .ok (.if_icmp .ne 7, 3) := by decide +kernel
theorem dX12_hosts_40 : decode cX12_hosts 40 = .ok (.iconst 1, 1) := by decide +kernel
theorem dX12_hosts_41 : decode cX12_hosts 41 = .ok (.goto 4, 3) := by decide +kernel
theorem dX12_hosts_44 : decode cX12_hosts 44 = .ok (.iconst 0, 1) := by decide +kernel
theorem dX12_hosts_45 : decode cX12_hosts 45 = .ok (.iconst 2, 1) := by decide +kernel
theorem dX12_hosts_46 : decode cX12_hosts 46 = .ok (.invokevirtual 243, 3) := by decide +kernel
theorem dX12_hosts_49 : decode cX12_hosts 49 = .ok (.ifCond .eq 5, 3) := by decide +kernel
theorem dX12_hosts_52 : decode cX12_hosts 52 = .ok (.iconst 0, 1) := by decide +kernel
theorem dX12_hosts_53 : decode cX12_hosts 53 = .ok (.ireturn, 1) := by decide +kernel
theorem dX12_hosts_54 : decode cX12_hosts 54 = .ok (.iconst 0, 1) := by decide +kernel
theorem dX12_hosts_55 : decode cX12_hosts 55 = .ok (.istore_n 3, 1) := by decide +kernel
theorem dX12_hosts_56 : decode cX12_hosts 56 = .ok (.iconst 0, 1) := by decide +kernel
theorem dX12_hosts_57 : decode cX12_hosts 57 = .ok (.istore 4, 2) := by decide +kernel
theorem dX12_hosts_59 : decode cX12_hosts 59 = .ok (.iload 4, 2) := by decide +kernel
theorem dX12_hosts_61 : decode cX12_hosts 61 = .ok (.iconst 4, 1) := by decide +kernel
theorem dX12_hosts_62 : decode cX12_hosts 62 = .ok (.if_icmp .ge 106, 3) := by decide +kernel
theorem dX12_hosts_65 : decode cX12_hosts 65 = .ok (.iload 4, 2) := by decide +kernel
theorem dX12_hosts_67 : decode cX12_hosts 67 = .ok (.iconst 2, 1) := by decide +kernel
theorem dX12_hosts_68 : decode cX12_hosts 68 = .ok (.idiv, 1) := by decide +kernel
theorem dX12_hosts_69 : decode cX12_hosts 69 = .ok (.ifCond .ne 7, 3) := by decide +kernel
theorem dX12_hosts_72 : decode cX12_hosts 72 = .ok (.iload_n 1, 1) := by decide +kernel
theorem dX12_hosts_73 : decode cX12_hosts 73 = .ok (.goto 4, 3) := by decide +kernel
theorem dX12_hosts_76 : decode cX12_hosts 76 = .ok (.iload_n 2, 1) := by decide +kernel
theorem dX12_hosts_77 : decode cX12_hosts 77 = .ok (.istore 5, 2) := by decide +kernel
theorem dX12_hosts_79 : decode cX12_hosts 79 = .ok (.iload 4, 2) := by decide +kernel
theorem dX12_hosts_81 : decode cX12_hosts 81 = .ok (.iconst 2, 1) := by decide +kernel
theorem dX12_hosts_82 : decode cX12_hosts 82 = .ok (.irem, 1) := by decide +kernel
theorem dX12_hosts_83 : decode cX12_hosts 83 = .ok (.ifCond .ne 7, 3) := by decide +kernel
theorem dX12_hosts_86 : decode cX12_hosts 86 = .ok (.iload_n 1, 1) := by decide +kernel
theorem dX12_hosts_87 : decode cX12_hosts 87 = .ok (.goto 4, 3) := by decide +kernel
theorem dX12_hosts_90 : decode cX12_hosts 90 = .ok (.iload_n 2, 1) := by decide +kernel
theorem dX12_hosts_91 : decode cX12_hosts 91 = .ok (.istore 6, 2) := by decide +kernel
theorem dX12_hosts_93 : decode cX12_hosts 93 = .ok (.aload_n 0, 1) := by decide +kernel
theorem dX12_hosts_94 : decode cX12_hosts 94 = .ok (.iload 5, 2) := by decide +kernel
theorem dX12_hosts_96 : decode cX12_hosts 96 = .ok (.iload 6, 2) := by decide +kernel
theorem dX12_hosts_98 : decode cX12_hosts 98 = .ok (.invokevirtual 389, 3) := by decide +kernel
theorem dX12_hosts_101 : decode cX12_hosts 101 = .ok (.aload_n 0, 1) := by decide +kernel
theorem dX12_hosts_102 : decode cX12_hosts 102 = .ok (.iload_n 1, 1) := by decide +kernel
theorem dX12_hosts_103 : decode cX12_hosts 103 = .ok (.iload_n 2, 1) := by decide +kernel
theorem dX12_hosts_104 : decode cX12_hosts 104 = .ok (.iadd, 1) := by decide +kernel
theorem dX12_hosts_105 : decode cX12_hosts 105 = .ok (.iload 5, 2) := by decide +kernel
theorem dX12_hosts_107 : decode cX12_hosts 107 = .ok (.isub, 1) := by decide +kernel
theorem dX12_hosts_108 : decode cX12_hosts 108 = .ok (.iload 6, 2) := by decide +kernel
theorem dX12_hosts_110 : decode cX12_hosts 110 = .ok (.invokevirtual 389, 3) := by decide +kernel
theorem dX12_hosts_113 : decode cX12_hosts 113 = .ok (.if_icmp .lt 30, 3) := by decide +kernel
theorem dX12_hosts_116 : decode cX12_hosts 116 = .ok (.aload_n 0, 1) := by decide +kernel
theorem dX12_hosts_117 : decode cX12_hosts 117 = .ok (.iload 6, 2) := by decide +kernel
theorem dX12_hosts_119 : decode cX12_hosts 119 = .ok (.iload 5, 2) := by decide +kernel
theorem dX12_hosts_121 : decode cX12_hosts 121 = .ok (.invokevirtual 389, 3) := by decide +kernel
theorem dX12_hosts_124 : decode cX12_hosts 124 = .ok (.aload_n 0, 1) := by decide +kernel
theorem dX12_hosts_125 : decode cX12_hosts 125 = .ok (.iload_n 1, 1) := by decide +kernel
theorem dX12_hosts_126 : decode cX12_hosts 126 = .ok (.iload_n 2, 1) := by decide +kernel
theorem dX12_hosts_127 : decode cX12_hosts 127 = .ok (.iadd, 1) := by decide +kernel
theorem dX12_hosts_128 : decode cX12_hosts 128 = .ok (.iload 6, 2) := by decide +kernel
theorem dX12_hosts_130 : decode cX12_hosts 130 = .ok (.isub, 1) := by decide +kernel
theorem dX12_hosts_131 : decode cX12_hosts 131 = .ok (.iload 5, 2) := by decide +kernel
theorem dX12_hosts_133 : decode cX12_hosts 133 = .ok (.invokevirtual 389, 3) := by decide +kernel
theorem dX12_hosts_136 : decode cX12_hosts 136 = .ok (.if_icmp .lt 7, 3) := by decide +kernel
theorem dX12_hosts_139 : decode cX12_hosts 139 = .ok (.iconst 1, 1) := by decide +kernel
theorem dX12_hosts_140 : decode cX12_hosts 140 = .ok (.goto 4, 3) := by decide +kernel
theorem dX12_hosts_143 : decode cX12_hosts 143 = .ok (.iconst 0, 1) := by decide +kernel
theorem dX12_hosts_144 : decode cX12_hosts 144 = .ok (.istore 7, 2) := by decide +kernel
theorem dX12_hosts_146 : decode cX12_hosts 146 = .ok (.iload_n 3, 1) := by decide +kernel
theorem dX12_hosts_147 : decode cX12_hosts 147 = .ok (.iload 7, 2) := by decide +kernel
theorem dX12_hosts_149 : decode cX12_hosts 149 = .ok (.ifCond .eq 10, 3) := by decide +kernel
theorem dX12_hosts_152 : decode cX12_hosts 152 = .ok (.iconst 1, 1) := by decide +kernel
theorem dX12_hosts_153 : decode cX12_hosts 153 = .ok (.iload 4, 2) := by decide +kernel
theorem dX12_hosts_155 : decode cX12_hosts 155 = .ok (.ishl, 1) := by decide +kernel
theorem dX12_hosts_156 : decode cX12_hosts 156 = .ok (.goto 4, 3) := by decide +kernel
theorem dX12_hosts_159 : decode cX12_hosts 159 = .ok (.iconst 0, 1) := by decide +kernel
theorem dX12_hosts_160 : decode cX12_hosts 160 = .ok (.ior, 1) := by decide +kernel
theorem dX12_hosts_161 : decode cX12_hosts 161 = .ok (.istore_n 3, 1) := by decide +kernel
theorem dX12_hosts_162 : decode cX12_hosts 162 = .ok (.iinc 4 1, 3) := by decide +kernel
theorem dX12_hosts_165 : decode cX12_hosts 165 = .ok (.goto (-106), 3) := by decide +kernel
theorem dX12_hosts_168 : decode cX12_hosts 168 = .ok (.iload_n 3, 1) := by decide +kernel
theorem dX12_hosts_169 : decode cX12_hosts 169 = .ok (.ireturn, 1) := by decide +kernel
theorem dX12_twins_0 : decode cX12_twins 0 = .ok (.aload_n 0, 1) := by decide +kernel
theorem dX12_twins_1 : decode cX12_twins 1 = .ok (.iconst 0, 1) := by decide +kernel
theorem dX12_twins_2 : decode cX12_twins 2 = .ok (.putfield 3, 3) := by decide +kernel
theorem dX12_twins_5 : decode cX12_twins 5 = .ok (.iconst 0, 1) := by decide +kernel
theorem dX12_twins_6 : decode cX12_twins 6 = .ok (.istore_n 1, 1) := by decide +kernel
theorem dX12_twins_7 : decode cX12_twins 7 = .ok (.iconst 0, 1) := by decide +kernel
theorem dX12_twins_8 : decode cX12_twins 8 = .ok (.istore_n 2, 1) := by decide +kernel
theorem dX12_twins_9 : decode cX12_twins 9 = .ok (.iload_n 2, 1) := by decide +kernel
theorem dX12_twins_10 : decode cX12_twins 10 = .ok (.aload_n 0, 1) := by decide +kernel
theorem dX12_twins_11 : decode cX12_twins 11 = .ok (.invokevirtual 62, 3) := by decide +kernel
theorem dX12_twins_14 : decode cX12_twins 14 = .ok (.if_icmp .ge 39, 3) := by decide +kernel
theorem dX12_twins_17 : decode cX12_twins 17 = .ok (.iconst 0, 1) := by decide +kernel
theorem dX12_twins_18 : decode cX12_twins 18 = .ok (.istore_n 3, 1) := by decide +kernel
theorem dX12_twins_19 : decode cX12_twins 19 = .ok (.iload_n 3, 1) := by decide +kernel
theorem dX12_twins_20 : decode cX12_twins 20 = .ok (.iload_n 2, 1) := by decide +kernel
theorem dX12_twins_21 : decode cX12_twins 21 = .ok (.if_icmp .ge 26, 3) := by decide +kernel
theorem dX12_twins_24 : decode cX12_twins 24 = .ok (.iload_n 1, 1) := by decide +kernel
theorem dX12_twins_25 : decode cX12_twins 25 = .ok (.aload_n 0, 1) := by decide +kernel
theorem dX12_twins_26 : decode cX12_twins 26 = .ok (.iload_n 2, 1) := by decide +kernel
theorem dX12_twins_27 : decode cX12_twins 27 = .ok (.iload_n 3, 1) := by decide +kernel
theorem dX12_twins_28 : decode cX12_twins 28 = .ok (.invokevirtual 256, 3) := by decide +kernel
theorem dX12_twins_31 : decode cX12_twins 31 = .ok (.ifCond .ne 7, 3) := by decide +kernel
theorem dX12_twins_34 : decode cX12_twins 34 = .ok (.iconst 1, 1) := by decide +kernel
theorem dX12_twins_35 : decode cX12_twins 35 = .ok (.goto 4, 3) := by decide +kernel
theorem dX12_twins_38 : decode cX12_twins 38 = .ok (.iconst 0, 1) := by decide +kernel
theorem dX12_twins_39 : decode cX12_twins 39 = .ok (.iadd, 1) := by decide +kernel
theorem dX12_twins_40 : decode cX12_twins 40 = .ok (.istore_n 1, 1) := by decide +kernel
theorem dX12_twins_41 : decode cX12_twins 41 = .ok (.iinc 3 1, 3) := by decide +kernel
theorem dX12_twins_44 : decode cX12_twins 44 = .ok (.goto (-25), 3) := by decide +kernel
theorem dX12_twins_47 : decode cX12_twins 47 = .ok (.iinc 2 1, 3) := by decide +kernel
theorem dX12_twins_50 : decode cX12_twins 50 = .ok (.goto (-41), 3) := by decide +kernel
theorem dX12_twins_53 : decode cX12_twins 53 = .ok (.iload_n 1, 1) := by decide +kernel
theorem dX12_twins_54 : decode cX12_twins 54 = .ok (.ireturn, 1) := by decide +kernel
theorem dX12_warlike_0 : decode cX12_warlike 0 = .ok (.aload_n 0, 1) := by decide +kernel
theorem dX12_warlike_1 : decode cX12_warlike 1 = .ok (.iconst 0, 1) := by decide +kernel
theorem dX12_warlike_2 : decode cX12_warlike 2 = .ok (.putfield 3, 3) := by decide +kernel
theorem dX12_warlike_5 : decode cX12_warlike 5 = .ok (.iconst 0, 1) := by decide +kernel
theorem dX12_warlike_6 : decode cX12_warlike 6 = .ok (.istore_n 1, 1) := by decide +kernel
theorem dX12_warlike_7 : decode cX12_warlike 7 = .ok (.iconst 0, 1) := by decide +kernel
theorem dX12_warlike_8 : decode cX12_warlike 8 = .ok (.istore_n 2, 1) := by decide +kernel
theorem dX12_warlike_9 : decode cX12_warlike 9 = .ok (.iload_n 2, 1) := by decide +kernel
theorem dX12_warlike_10 : decode cX12_warlike 10 = .ok (.aload_n 0, 1) := by decide +kernel
theorem dX12_warlike_11 : decode cX12_warlike 11 = .ok (.invokevirtual 62, 3) := by decide +kernel
theorem dX12_warlike_14 : decode cX12_warlike 14 = .ok (.if_icmp .ge 27, 3) := by decide +kernel
theorem dX12_warlike_17 : decode cX12_warlike 17 = .ok (.iload_n 1, 1) := by decide +kernel
theorem dX12_warlike_18 : decode cX12_warlike 18 = .ok (.aload_n 0, 1) := by decide +kernel
theorem dX12_warlike_19 : decode cX12_warlike 19 = .ok (.iload_n 2, 1) := by decide +kernel
theorem dX12_warlike_20 : decode cX12_warlike 20 = .ok (.invokevirtual 262, 3) := by decide +kernel
theorem dX12_warlike_23 : decode cX12_warlike 23 = .ok (.ifCond .eq 9, 3) := by decide +kernel
theorem dX12_warlike_26 : decode cX12_warlike 26 = .ok (.iconst 1, 1) := by decide +kernel
theorem dX12_warlike_27 : decode cX12_warlike 27 = .ok (.iload_n 2, 1) := by decide +kernel
theorem dX12_warlike_28 : decode cX12_warlike 28 = .ok (.ishl, 1) := by decide +kernel
theorem dX12_warlike_29 : decode cX12_warlike 29 = .ok (.goto 4, 3) := by decide +kernel
theorem dX12_warlike_32 : decode cX12_warlike 32 = .ok (.iconst 0, 1) := by decide +kernel
theorem dX12_warlike_33 : decode cX12_warlike 33 = .ok (.ior, 1) := by decide +kernel
theorem dX12_warlike_34 : decode cX12_warlike 34 = .ok (.istore_n 1, 1) := by decide +kernel
theorem dX12_warlike_35 : decode cX12_warlike 35 = .ok (.iinc 2 1, 3) := by decide +kernel
theorem dX12_warlike_38 : decode cX12_warlike 38 = .ok (.goto (-29), 3) := by decide +kernel
theorem dX12_warlike_41 : decode cX12_warlike 41 = .ok (.iload_n 1, 1) := by decide +kernel
theorem dX12_warlike_42 : decode cX12_warlike 42 = .ok (.ireturn, 1) := by decide +kernel
theorem dX12_company_0 : decode cX12_company 0 = .ok (.aload_n 0, 1) := by decide +kernel
theorem dX12_company_1 : decode cX12_company 1 = .ok (.iconst 0, 1) := by decide +kernel
theorem dX12_company_2 : decode cX12_company 2 = .ok (.putfield 3, 3) := by decide +kernel
theorem dX12_company_5 : decode cX12_company 5 = .ok (.aload_n 0, 1) := by decide +kernel
theorem dX12_company_6 : decode cX12_company 6 = .ok (.iload_n 1, 1) := by decide +kernel
theorem dX12_company_7 : decode cX12_company 7 = .ok (.iconst 0, 1) := by decide +kernel
theorem dX12_company_8 : decode cX12_company 8 = .ok (.bipush 7, 2) := by decide +kernel
theorem dX12_company_10 : decode cX12_company 10 = .ok (.invokestatic 73, 3) := by decide +kernel
theorem dX12_company_13 : decode cX12_company 13 = .ok (.ifCond .ne 7, 3) := by decide +kernel
theorem dX12_company_16 : decode cX12_company 16 = .ok (.iconst 1, 1) := by decide +kernel
theorem dX12_company_17 : decode cX12_company 17 = .ok (.goto 4, 3) := by decide +kernel
theorem dX12_company_20 : decode cX12_company 20 = .ok (.iconst 0, 1) := by decide +kernel
theorem dX12_company_21 : decode cX12_company 21 = .ok (.iconst 1, 1) := by decide +kernel
theorem dX12_company_22 : decode cX12_company 22 = .ok (.invokevirtual 243, 3) := by decide +kernel
theorem dX12_company_25 : decode cX12_company 25 = .ok (.ifCond .eq 7, 3) := by decide +kernel
theorem dX12_company_28 : decode cX12_company 28 = .ok (.iconst 0, 1) := by decide +kernel
theorem dX12_company_29 : decode cX12_company 29 = .ok (.goto 10, 3) := by decide +kernel
theorem dX12_company_32 : decode cX12_company 32 = .ok (.aload_n 0, 1) := by decide +kernel
theorem dX12_company_33 : decode cX12_company 33 = .ok (.bipush 7, 2) := by decide +kernel
theorem dX12_company_35 : decode cX12_company 35 = .ok (.iload_n 1, 1) := by decide +kernel
theorem dX12_company_36 : decode cX12_company 36 = .ok (.invokevirtual 382, 3) := by decide +kernel
theorem dX12_company_39 : decode cX12_company 39 = .ok (.ireturn, 1) := by decide +kernel
theorem dX12_odds_0 : decode cX12_odds 0 = .ok (.aload_n 0, 1) := by decide +kernel
theorem dX12_odds_1 : decode cX12_odds 1 = .ok (.iconst 0, 1) := by decide +kernel
theorem dX12_odds_2 : decode cX12_odds 2 = .ok (.putfield 3, 3) := by decide +kernel
theorem dX12_odds_5 : decode cX12_odds 5 = .ok (.aload_n 0, 1) := by decide +kernel
theorem dX12_odds_6 : decode cX12_odds 6 = .ok (.iload_n 1, 1) := by decide +kernel
theorem dX12_odds_7 : decode cX12_odds 7 = .ok (.iconst 0, 1) := by decide +kernel
theorem dX12_odds_8 : decode cX12_odds 8 = .ok (.bipush 6, 2) := by decide +kernel
theorem dX12_odds_10 : decode cX12_odds 10 = .ok (.invokestatic 73, 3) := by decide +kernel
theorem dX12_odds_13 : decode cX12_odds 13 = .ok (.ifCond .eq 13, 3) := by decide +kernel
theorem dX12_odds_16 : decode cX12_odds 16 = .ok (.iload_n 2, 1) := by decide +kernel
theorem dX12_odds_17 : decode cX12_odds 17 = .ok (.iconst 0, 1) := by decide +kernel
theorem dX12_odds_18 : decode cX12_odds 18 = .ok (.bipush 6, 2) := by decide +kernel
theorem dX12_odds_20 : decode cX12_odds 20 = .ok (.invokestatic 73, 3) := by decide +kernel
theorem dX12_odds_23 : decode cX12_odds 23 = .ok (.ifCond .ne 7, 3) := by decide +kernel
theorem dX12_odds_26 : decode cX12_odds 26 = .ok (.iconst 1, 1) := by decide +kernel
theorem dX12_odds_27 : decode cX12_odds 27 = .ok (.goto 4, 3) := by decide +kernel
theorem dX12_odds_30 : decode cX12_odds 30 = .ok (.iconst 0, 1) := by decide +kernel
theorem dX12_odds_31 : decode cX12_odds 31 = .ok (.iconst 1, 1) := by decide +kernel
theorem dX12_odds_32 : decode cX12_odds 32 = .ok (.invokevirtual 243, 3) := by decide +kernel
theorem dX12_odds_35 : decode cX12_odds 35 = .ok (.ifCond .eq 5, 3) := by decide +kernel
theorem dX12_odds_38 : decode cX12_odds 38 = .ok (.iconst 0, 1) := by decide +kernel
theorem dX12_odds_39 : decode cX12_odds 39 = .ok (.ireturn, 1) := by decide +kernel
theorem dX12_odds_40 : decode cX12_odds 40 = .ok (.iconst 0, 1) := by decide +kernel
theorem dX12_odds_41 : decode cX12_odds 41 = .ok (.istore_n 3, 1) := by decide +kernel
theorem dX12_odds_42 : decode cX12_odds 42 = .ok (.iload_n 3, 1) := by decide +kernel
theorem dX12_odds_43 : decode cX12_odds 43 = .ok (.bipush 6, 2) := by decide +kernel
theorem dX12_odds_45 : decode cX12_odds 45 = .ok (.if_icmp .gt 24, 3) := by decide +kernel
theorem dX12_odds_48 : decode cX12_odds 48 = .ok (.aload_n 0, 1) := by decide +kernel
theorem dX12_odds_49 : decode cX12_odds 49 = .ok (.getfield 51, 3) := by decide +kernel
theorem dX12_odds_52 : decode cX12_odds 52 = .ok (.iload_n 3, 1) := by decide +kernel
theorem dX12_odds_53 : decode cX12_odds 53 = .ok (.iload_n 3, 1) := by decide +kernel
theorem dX12_odds_54 : decode cX12_odds 54 = .ok (.ifCond .ne 7, 3) := by decide +kernel
theorem dX12_odds_57 : decode cX12_odds 57 = .ok (.lconst 1, 1) := by decide +kernel
theorem dX12_odds_58 : decode cX12_odds 58 = .ok (.goto 4, 3) := by decide +kernel
theorem dX12_odds_61 : decode cX12_odds 61 = .ok (.lconst 0, 1) := by decide +kernel
theorem dX12_odds_62 : decode cX12_odds 62 = .ok (.lastore, 1) := by decide +kernel
theorem dX12_odds_63 : decode cX12_odds 63 = .ok (.iinc 3 1, 3) := by decide +kernel
theorem dX12_odds_66 : decode cX12_odds 66 = .ok (.goto (-24), 3) := by decide +kernel
theorem dX12_odds_69 : decode cX12_odds 69 = .ok (.lconst 1, 1) := by decide +kernel
theorem dX12_odds_70 : decode cX12_odds 70 = .ok (.lstore_n 3, 1) := by decide +kernel
theorem dX12_odds_71 : decode cX12_odds 71 = .ok (.iconst 0, 1) := by decide +kernel
theorem dX12_odds_72 : decode cX12_odds 72 = .ok (.istore 5, 2) := by decide +kernel
theorem dX12_odds_74 : decode cX12_odds 74 = .ok (.iload 5, 2) := by decide +kernel
theorem dX12_odds_76 : decode cX12_odds 76 = .ok (.iload_n 1, 1) := by decide +kernel
theorem dX12_odds_77 : decode cX12_odds 77 = .ok (.if_icmp .ge 84, 3) := by decide +kernel
theorem dX12_odds_80 : decode cX12_odds 80 = .ok (.bipush 6, 2) := by decide +kernel
theorem dX12_odds_82 : decode cX12_odds 82 = .ok (.istore 6, 2) := by decide +kernel
theorem dX12_odds_84 : decode cX12_odds 84 = .ok (.iload 6, 2) := by decide +kernel
theorem dX12_odds_86 : decode cX12_odds 86 = .ok (.ifCond .lt 63, 3) := by decide +kernel
theorem dX12_odds_89 : decode cX12_odds 89 = .ok (.aload_n 0, 1) := by decide +kernel
theorem dX12_odds_90 : decode cX12_odds 90 = .ok (.getfield 51, 3) := by decide +kernel
theorem dX12_odds_93 : decode cX12_odds 93 = .ok (.iload 6, 2) := by decide +kernel
theorem dX12_odds_95 : decode cX12_odds 95 = .ok (.aload_n 0, 1) := by decide +kernel
theorem dX12_odds_96 : decode cX12_odds 96 = .ok (.getfield 51, 3) := by decide +kernel
theorem dX12_odds_99 : decode cX12_odds 99 = .ok (.iload 6, 2) := by decide +kernel
theorem dX12_odds_101 : decode cX12_odds 101 = .ok (.laload, 1) := by decide +kernel
theorem dX12_odds_102 : decode cX12_odds 102 = .ok (.bipush 100, 2) := by decide +kernel
theorem dX12_odds_104 : decode cX12_odds 104 = .ok (.aload_n 0, 1) := by decide +kernel
theorem dX12_odds_105 : decode cX12_odds 105 = .ok (.getfield 13, 3) := by decide +kernel
theorem dX12_odds_108 : decode cX12_odds 108 = .ok (.bipush 11, 2) := by decide +kernel
theorem dX12_odds_110 : decode cX12_odds 110 = .ok (.iaload, 1) := by decide +kernel
theorem dX12_odds_111 : decode cX12_odds 111 = .ok (.isub, 1) := by decide +kernel
theorem dX12_odds_112 : decode cX12_odds 112 = .ok (.i2l, 1) := by decide +kernel
theorem dX12_odds_113 : decode cX12_odds 113 = .ok (.lmul, 1) := by decide +kernel
theorem dX12_odds_114 : decode cX12_odds 114 = .ok (.iload 6, 2) := by decide +kernel
theorem dX12_odds_116 : decode cX12_odds 116 = .ok (.ifCond .ne 7, 3) := by decide +kernel
theorem dX12_odds_119 : decode cX12_odds 119 = .ok (.lconst 0, 1) := by decide +kernel
theorem dX12_odds_120 : decode cX12_odds 120 = .ok (.goto 21, 3) := by decide +kernel
theorem dX12_odds_123 : decode cX12_odds 123 = .ok (.aload_n 0, 1) := by decide +kernel
theorem dX12_odds_124 : decode cX12_odds 124 = .ok (.getfield 51, 3) := by decide +kernel
theorem dX12_odds_127 : decode cX12_odds 127 = .ok (.iload 6, 2) := by decide +kernel
theorem dX12_odds_129 : decode cX12_odds 129 = .ok (.iconst 1, 1) := by decide +kernel
theorem dX12_odds_130 : decode cX12_odds 130 = .ok (.isub, 1) := by decide +kernel
theorem dX12_odds_131 : decode cX12_odds 131 = .ok (.laload, 1) := by decide +kernel
theorem dX12_odds_132 : decode cX12_odds 132 = .ok (.aload_n 0, 1) := by decide +kernel
theorem dX12_odds_133 : decode cX12_odds 133 = .ok (.getfield 13, 3) := by decide +kernel
theorem dX12_odds_136 : decode cX12_odds 136 = .ok (.bipush 11, 2) := by decide +kernel
theorem dX12_odds_138 : decode cX12_odds 138 = .ok (.iaload, 1) := by decide +kernel
theorem dX12_odds_139 : decode cX12_odds 139 = .ok (.i2l, 1) := by decide +kernel
theorem dX12_odds_140 : decode cX12_odds 140 = .ok (.lmul, 1) := by decide +kernel
theorem dX12_odds_141 : decode cX12_odds 141 = .ok (.ladd, 1) := by decide +kernel
theorem dX12_odds_142 : decode cX12_odds 142 = .ok (.lastore, 1) := by decide +kernel
theorem dX12_odds_143 : decode cX12_odds 143 = .ok (.iinc 6 (-1), 3) := by decide +kernel
theorem dX12_odds_146 : decode cX12_odds 146 = .ok (.goto (-62), 3) := by decide +kernel
theorem dX12_odds_149 : decode cX12_odds 149 = .ok (.lload_n 3, 1) := by decide +kernel
theorem dX12_odds_150 : decode cX12_odds 150 = .ok (.ldc2_w 392, 3) := by decide +kernel
theorem dX12_odds_153 : decode cX12_odds 153 = .ok (.lmul, 1) := by decide +kernel
theorem dX12_odds_154 : decode cX12_odds 154 = .ok (.lstore_n 3, 1) := by decide +kernel
theorem dX12_odds_155 : decode cX12_odds 155 = .ok (.iinc 5 1, 3) := by decide +kernel
theorem dX12_odds_158 : decode cX12_odds 158 = .ok (.goto (-84), 3) := by decide +kernel
theorem dX12_odds_161 : decode cX12_odds 161 = .ok (.lconst 0, 1) := by decide +kernel
theorem dX12_odds_162 : decode cX12_odds 162 = .ok (.lstore 5, 2) := by decide +kernel
theorem dX12_odds_164 : decode cX12_odds 164 = .ok (.iload_n 2, 1) := by decide +kernel
theorem dX12_odds_165 : decode cX12_odds 165 = .ok (.istore 7, 2) := by decide +kernel
theorem dX12_odds_167 : decode cX12_odds 167 = .ok (.iload 7, 2) := by decide +kernel
theorem dX12_odds_169 : decode cX12_odds 169 = .ok (.bipush 6, 2) := by decide +kernel
theorem dX12_odds_171 : decode cX12_odds 171 = .ok (.if_icmp .gt 21, 3) := by decide +kernel
theorem dX12_odds_174 : decode cX12_odds 174 = .ok (.lload 5, 2) := by decide +kernel
theorem dX12_odds_176 : decode cX12_odds 176 = .ok (.aload_n 0, 1) := by decide +kernel
theorem dX12_odds_177 : decode cX12_odds 177 = .ok (.getfield 51, 3) := by decide +kernel
theorem dX12_odds_180 : decode cX12_odds 180 = .ok (.iload 7, 2) := by decide +kernel
theorem dX12_odds_182 : decode cX12_odds 182 = .ok (.laload, 1) := by decide +kernel
theorem dX12_odds_183 : decode cX12_odds 183 = .ok (.ladd, 1) := by decide +kernel
theorem dX12_odds_184 : decode cX12_odds 184 = .ok (.lstore 5, 2) := by decide +kernel
theorem dX12_odds_186 : decode cX12_odds 186 = .ok (.iinc 7 1, 3) := by decide +kernel
theorem dX12_odds_189 : decode cX12_odds 189 = .ok (.goto (-22), 3) := by decide +kernel
theorem dX12_odds_192 : decode cX12_odds 192 = .ok (.ldc2_w 394, 3) := by decide +kernel
theorem dX12_odds_195 : decode cX12_odds 195 = .ok (.lload 5, 2) := by decide +kernel
theorem dX12_odds_197 : decode cX12_odds 197 = .ok (.lmul, 1) := by decide +kernel
theorem dX12_odds_198 : decode cX12_odds 198 = .ok (.lload_n 3, 1) := by decide +kernel
theorem dX12_odds_199 : decode cX12_odds 199 = .ok (.ldiv, 1) := by decide +kernel
theorem dX12_odds_200 : decode cX12_odds 200 = .ok (.l2i, 1) := by decide +kernel
theorem dX12_odds_201 : decode cX12_odds 201 = .ok (.ireturn, 1) := by decide +kernel
theorem dX12_share_0 : decode cX12_share 0 = .ok (.aload_n 0, 1) := by decide +kernel
theorem dX12_share_1 : decode cX12_share 1 = .ok (.iconst 0, 1) := by decide +kernel
theorem dX12_share_2 : decode cX12_share 2 = .ok (.putfield 3, 3) := by decide +kernel
theorem dX12_share_5 : decode cX12_share 5 = .ok (.aload_n 0, 1) := by decide +kernel
theorem dX12_share_6 : decode cX12_share 6 = .ok (.iload_n 1, 1) := by decide +kernel
theorem dX12_share_7 : decode cX12_share 7 = .ok (.invokestatic 314, 3) := by decide +kernel
theorem dX12_share_10 : decode cX12_share 10 = .ok (.iconst 1, 1) := by decide +kernel
theorem dX12_share_11 : decode cX12_share 11 = .ok (.invokevirtual 243, 3) := by decide +kernel
theorem dX12_share_14 : decode cX12_share 14 = .ok (.ifCond .eq 5, 3) := by decide +kernel
theorem dX12_share_17 : decode cX12_share 17 = .ok (.iconst 0, 1) := by decide +kernel
theorem dX12_share_18 : decode cX12_share 18 = .ok (.ireturn, 1) := by decide +kernel
theorem dX12_share_19 : decode cX12_share 19 = .ok (.aload_n 0, 1) := by decide +kernel
theorem dX12_share_20 : decode cX12_share 20 = .ok (.invokevirtual 62, 3) := by decide +kernel
theorem dX12_share_23 : decode cX12_share 23 = .ok (.aload_n 0, 1) := by decide +kernel
theorem dX12_share_24 : decode cX12_share 24 = .ok (.invokevirtual 287, 3) := by decide +kernel
theorem dX12_share_27 : decode cX12_share 27 = .ok (.invokestatic 329, 3) := by decide +kernel
theorem dX12_share_30 : decode cX12_share 30 = .ok (.isub, 1) := by decide +kernel
theorem dX12_share_31 : decode cX12_share 31 = .ok (.istore_n 2, 1) := by decide +kernel
theorem dX12_share_32 : decode cX12_share 32 = .ok (.iload_n 2, 1) := by decide +kernel
theorem dX12_share_33 : decode cX12_share 33 = .ok (.ifCond .ne 7, 3) := by decide +kernel
theorem dX12_share_36 : decode cX12_share 36 = .ok (.iconst 0, 1) := by decide +kernel
theorem dX12_share_37 : decode cX12_share 37 = .ok (.goto 18, 3) := by decide +kernel
theorem dX12_share_40 : decode cX12_share 40 = .ok (.bipush 100, 2) := by decide +kernel
theorem dX12_share_42 : decode cX12_share 42 = .ok (.aload_n 0, 1) := by decide +kernel
theorem dX12_share_43 : decode cX12_share 43 = .ok (.bipush 6, 2) := by decide +kernel
theorem dX12_share_45 : decode cX12_share 45 = .ok (.iload_n 1, 1) := by decide +kernel
theorem dX12_share_46 : decode cX12_share 46 = .ok (.invokevirtual 382, 3) := by decide +kernel
theorem dX12_share_49 : decode cX12_share 49 = .ok (.invokestatic 329, 3) := by decide +kernel
theorem dX12_share_52 : decode cX12_share 52 = .ok (.imul, 1) := by decide +kernel
theorem dX12_share_53 : decode cX12_share 53 = .ok (.iload_n 2, 1) := by decide +kernel
theorem dX12_share_54 : decode cX12_share 54 = .ok (.idiv, 1) := by decide +kernel
theorem dX12_share_55 : decode cX12_share 55 = .ok (.ireturn, 1) := by decide +kernel
theorem dX12_trial_0 : decode cX12_trial 0 = .ok (.aload_n 0, 1) := by decide +kernel
theorem dX12_trial_1 : decode cX12_trial 1 = .ok (.iconst 0, 1) := by decide +kernel
theorem dX12_trial_2 : decode cX12_trial 2 = .ok (.putfield 3, 3) := by decide +kernel
theorem dX12_trial_5 : decode cX12_trial 5 = .ok (.aload_n 0, 1) := by decide +kernel
theorem dX12_trial_6 : decode cX12_trial 6 = .ok (.iload_n 1, 1) := by decide +kernel
theorem dX12_trial_7 : decode cX12_trial 7 = .ok (.iconst 0, 1) := by decide +kernel
theorem dX12_trial_8 : decode cX12_trial 8 = .ok (.bipush 60, 2) := by decide +kernel
theorem dX12_trial_10 : decode cX12_trial 10 = .ok (.invokestatic 73, 3) := by decide +kernel
theorem dX12_trial_13 : decode cX12_trial 13 = .ok (.ifCond .ne 7, 3) := by decide +kernel
theorem dX12_trial_16 : decode cX12_trial 16 = .ok (.iconst 1, 1) := by decide +kernel
theorem dX12_trial_17 : decode cX12_trial 17 = .ok (.goto 4, 3) := by decide +kernel
theorem dX12_trial_20 : decode cX12_trial 20 = .ok (.iconst 0, 1) := by decide +kernel
theorem dX12_trial_21 : decode cX12_trial 21 = .ok (.iconst 1, 1) := by decide +kernel
theorem dX12_trial_22 : decode cX12_trial 22 = .ok (.invokevirtual 243, 3) := by decide +kernel
theorem dX12_trial_25 : decode cX12_trial 25 = .ok (.ifCond .eq 5, 3) := by decide +kernel
theorem dX12_trial_28 : decode cX12_trial 28 = .ok (.iconst 0, 1) := by decide +kernel
theorem dX12_trial_29 : decode cX12_trial 29 = .ok (.ireturn, 1) := by decide +kernel
theorem dX12_trial_30 : decode cX12_trial 30 = .ok (.aload_n 0, 1) := by decide +kernel
theorem dX12_trial_31 : decode cX12_trial 31 = .ok (.invokevirtual 323, 3) := by decide +kernel
theorem dX12_trial_34 : decode cX12_trial 34 = .ok (.aload_n 0, 1) := by decide +kernel
theorem dX12_trial_35 : decode cX12_trial 35 = .ok (.iload_n 1, 1) := by decide +kernel
theorem dX12_trial_36 : decode cX12_trial 36 = .ok (.invokevirtual 317, 3) := by decide +kernel
theorem dX12_trial_39 : decode cX12_trial 39 = .ok (.pop, 1) := by decide +kernel
theorem dX12_trial_40 : decode cX12_trial 40 = .ok (.iload_n 2, 1) := by decide +kernel
theorem dX12_trial_41 : decode cX12_trial 41 = .ok (.ifCond .eq 13, 3) := by decide +kernel
theorem dX12_trial_44 : decode cX12_trial 44 = .ok (.aload_n 0, 1) := by decide +kernel
theorem dX12_trial_45 : decode cX12_trial 45 = .ok (.getfield 13, 3) := by decide +kernel
theorem dX12_trial_48 : decode cX12_trial 48 = .ok (.bipush 14, 2) := by decide +kernel
theorem dX12_trial_50 : decode cX12_trial 50 = .ok (.iaload, 1) := by decide +kernel
theorem dX12_trial_51 : decode cX12_trial 51 = .ok (.goto 9, 3) := by decide +kernel
theorem dX12_trial_54 : decode cX12_trial 54 = .ok (.aload_n 0, 1) := by decide +kernel
theorem dX12_trial_55 : decode cX12_trial 55 = .ok (.getfield 13, 3) := by decide +kernel
theorem dX12_trial_58 : decode cX12_trial 58 = .ok (.iconst 5, 1) := by decide +kernel
theorem dX12_trial_59 : decode cX12_trial 59 = .ok (.iaload, 1) := by decide +kernel
theorem dX12_trial_60 : decode cX12_trial 60 = .ok (.istore_n 3, 1) := by decide +kernel
theorem dX12_trial_61 : decode cX12_trial 61 = .ok (.aload_n 0, 1) := by decide +kernel
theorem dX12_trial_62 : decode cX12_trial 62 = .ok (.invokevirtual 326, 3) := by decide +kernel
theorem dX12_trial_65 : decode cX12_trial 65 = .ok (.iload_n 3, 1) := by decide +kernel
theorem dX12_trial_66 : decode cX12_trial 66 = .ok (.ireturn, 1) := by decide +kernel
theorem dX12_span_0 : decode cX12_span 0 = .ok (.aload_n 0, 1) := by decide +kernel
theorem dX12_span_1 : decode cX12_span 1 = .ok (.iconst 0, 1) := by decide +kernel
theorem dX12_span_2 : decode cX12_span 2 = .ok (.putfield 3, 3) := by decide +kernel
theorem dX12_span_5 : decode cX12_span 5 = .ok (.aload_n 0, 1) := by decide +kernel
theorem dX12_span_6 : decode cX12_span 6 = .ok (.iload_n 1, 1) := by decide +kernel
theorem dX12_span_7 : decode cX12_span 7 = .ok (.iconst 0, 1) := by decide +kernel
theorem dX12_span_8 : decode cX12_span 8 = .ok (.bipush 60, 2) := by decide +kernel
theorem dX12_span_10 : decode cX12_span 10 = .ok (.invokestatic 73, 3) := by decide +kernel
theorem dX12_span_13 : decode cX12_span 13 = .ok (.ifCond .ne 7, 3) := by decide +kernel
theorem dX12_span_16 : decode cX12_span 16 = .ok (.iconst 1, 1) := by decide +kernel
theorem dX12_span_17 : decode cX12_span 17 = .ok (.goto 4, 3) := by decide +kernel
theorem dX12_span_20 : decode cX12_span 20 = .ok (.iconst 0, 1) := by decide +kernel
theorem dX12_span_21 : decode cX12_span 21 = .ok (.iconst 1, 1) := by decide +kernel
theorem dX12_span_22 : decode cX12_span 22 = .ok (.invokevirtual 243, 3) := by decide +kernel
theorem dX12_span_25 : decode cX12_span 25 = .ok (.ifCond .eq 5, 3) := by decide +kernel
theorem dX12_span_28 : decode cX12_span 28 = .ok (.iconst 0, 1) := by decide +kernel
theorem dX12_span_29 : decode cX12_span 29 = .ok (.ireturn, 1) := by decide +kernel
theorem dX12_span_30 : decode cX12_span 30 = .ok (.aload_n 0, 1) := by decide +kernel
theorem dX12_span_31 : decode cX12_span 31 = .ok (.invokevirtual 323, 3) := by decide +kernel
theorem dX12_span_34 : decode cX12_span 34 = .ok (.iconst (-1), 1) := by decide +kernel
theorem dX12_span_35 : decode cX12_span 35 = .ok (.istore_n 3, 1) := by decide +kernel
theorem dX12_span_36 : decode cX12_span 36 = .ok (.iconst 1, 1) := by decide +kernel
theorem dX12_span_37 : decode cX12_span 37 = .ok (.istore 4, 2) := by decide +kernel
theorem dX12_span_39 : decode cX12_span 39 = .ok (.iload 4, 2) := by decide +kernel
theorem dX12_span_41 : decode cX12_span 41 = .ok (.bipush 6, 2) := by decide +kernel
theorem dX12_span_43 : decode cX12_span 43 = .ok (.if_icmp .gt 66, 3) := by decide +kernel
theorem dX12_span_46 : decode cX12_span 46 = .ok (.aload_n 0, 1) := by decide +kernel
theorem dX12_span_47 : decode cX12_span 47 = .ok (.getfield 13, 3) := by decide +kernel
theorem dX12_span_50 : decode cX12_span 50 = .ok (.bipush 16, 2) := by decide +kernel
theorem dX12_span_52 : decode cX12_span 52 = .ok (.iload 4, 2) := by decide +kernel
theorem dX12_span_54 : decode cX12_span 54 = .ok (.iastore, 1) := by decide +kernel
theorem dX12_span_55 : decode cX12_span 55 = .ok (.aload_n 0, 1) := by decide +kernel
theorem dX12_span_56 : decode cX12_span 56 = .ok (.iload_n 1, 1) := by decide +kernel
theorem dX12_span_57 : decode cX12_span 57 = .ok (.invokevirtual 317, 3) := by decide +kernel
theorem dX12_span_60 : decode cX12_span 60 = .ok (.pop, 1) := by decide +kernel
theorem dX12_span_61 : decode cX12_span 61 = .ok (.aload_n 0, 1) := by decide +kernel
theorem dX12_span_62 : decode cX12_span 62 = .ok (.getfield 13, 3) := by decide +kernel
theorem dX12_span_65 : decode cX12_span 65 = .ok (.bipush 14, 2) := by decide +kernel
theorem dX12_span_67 : decode cX12_span 67 = .ok (.iaload, 1) := by decide +kernel
theorem dX12_span_68 : decode cX12_span 68 = .ok (.istore 5, 2) := by decide +kernel
theorem dX12_span_70 : decode cX12_span 70 = .ok (.aload_n 0, 1) := by decide +kernel
theorem dX12_span_71 : decode cX12_span 71 = .ok (.invokevirtual 326, 3) := by decide +kernel
theorem dX12_span_74 : decode cX12_span 74 = .ok (.iload_n 3, 1) := by decide +kernel
theorem dX12_span_75 : decode cX12_span 75 = .ok (.ifCond .ge 8, 3) := by decide +kernel
theorem dX12_span_78 : decode cX12_span 78 = .ok (.iload 5, 2) := by decide +kernel
theorem dX12_span_80 : decode cX12_span 80 = .ok (.goto 22, 3) := by decide +kernel
theorem dX12_span_83 : decode cX12_span 83 = .ok (.iload_n 2, 1) := by decide +kernel
theorem dX12_span_84 : decode cX12_span 84 = .ok (.ifCond .eq 12, 3) := by decide +kernel
theorem dX12_span_87 : decode cX12_span 87 = .ok (.iload_n 3, 1) := by decide +kernel
theorem dX12_span_88 : decode cX12_span 88 = .ok (.iload 5, 2) := by decide +kernel
theorem dX12_span_90 : decode cX12_span 90 = .ok (.invokestatic 293, 3) := by decide +kernel
theorem dX12_span_93 : decode cX12_span 93 = .ok (.goto 9, 3) := by decide +kernel
theorem dX12_span_96 : decode cX12_span 96 = .ok (.iload_n 3, 1) := by decide +kernel
theorem dX12_span_97 : decode cX12_span 97 = .ok (.iload 5, 2) := by decide +kernel
theorem dX12_span_99 : decode cX12_span 99 = .ok (.invokestatic 259, 3) := by decide +kernel
theorem dX12_span_102 : decode cX12_span 102 = .ok (.istore_n 3, 1) := by decide +kernel
theorem dX12_span_103 : decode cX12_span 103 = .ok (.iinc 4 1, 3) := by decide +kernel
theorem dX12_span_106 : decode cX12_span 106 = .ok (.goto (-67), 3) := by decide +kernel
theorem dX12_span_109 : decode cX12_span 109 = .ok (.iload_n 3, 1) := by decide +kernel
theorem dX12_span_110 : decode cX12_span 110 = .ok (.ireturn, 1) := by decide +kernel
theorem dX12_ofLog_0 : decode cX12_ofLog 0 = .ok (.aload_n 0, 1) := by decide +kernel
theorem dX12_ofLog_1 : decode cX12_ofLog 1 = .ok (.getfield 13, 3) := by decide +kernel
theorem dX12_ofLog_4 : decode cX12_ofLog 4 = .ok (.bipush 113, 2) := by decide +kernel
theorem dX12_ofLog_6 : decode cX12_ofLog 6 = .ok (.iconst 4, 1) := by decide +kernel
theorem dX12_ofLog_7 : decode cX12_ofLog 7 = .ok (.iload_n 1, 1) := by decide +kernel
theorem dX12_ofLog_8 : decode cX12_ofLog 8 = .ok (.imul, 1) := by decide +kernel
theorem dX12_ofLog_9 : decode cX12_ofLog 9 = .ok (.iadd, 1) := by decide +kernel
theorem dX12_ofLog_10 : decode cX12_ofLog 10 = .ok (.iload_n 2, 1) := by decide +kernel
theorem dX12_ofLog_11 : decode cX12_ofLog 11 = .ok (.iadd, 1) := by decide +kernel
theorem dX12_ofLog_12 : decode cX12_ofLog 12 = .ok (.iaload, 1) := by decide +kernel
theorem dX12_ofLog_13 : decode cX12_ofLog 13 = .ok (.ireturn, 1) := by decide +kernel
theorem dX12_led_0 : decode cX12_led 0 = .ok (.aload_n 0, 1) := by decide +kernel
theorem dX12_led_1 : decode cX12_led 1 = .ok (.iconst 0, 1) := by decide +kernel
theorem dX12_led_2 : decode cX12_led 2 = .ok (.putfield 3, 3) := by decide +kernel
theorem dX12_led_5 : decode cX12_led 5 = .ok (.aload_n 0, 1) := by decide +kernel
theorem dX12_led_6 : decode cX12_led 6 = .ok (.aload_n 0, 1) := by decide +kernel
theorem dX12_led_7 : decode cX12_led 7 = .ok (.iload_n 1, 1) := by decide +kernel
theorem dX12_led_8 : decode cX12_led 8 = .ok (.invokevirtual 278, 3) := by decide +kernel
theorem dX12_led_11 : decode cX12_led 11 = .ok (.iconst 1, 1) := by decide +kernel
theorem dX12_led_12 : decode cX12_led 12 = .ok (.invokevirtual 243, 3) := by decide +kernel
theorem dX12_led_15 : decode cX12_led 15 = .ok (.ifCond .eq 5, 3) := by decide +kernel
theorem dX12_led_18 : decode cX12_led 18 = .ok (.iconst 0, 1) := by decide +kernel
theorem dX12_led_19 : decode cX12_led 19 = .ok (.ireturn, 1) := by decide +kernel
theorem dX12_led_20 : decode cX12_led 20 = .ok (.iconst 0, 1) := by decide +kernel
theorem dX12_led_21 : decode cX12_led 21 = .ok (.istore_n 3, 1) := by decide +kernel
theorem dX12_led_22 : decode cX12_led 22 = .ok (.iconst (-1), 1) := by decide +kernel
theorem dX12_led_23 : decode cX12_led 23 = .ok (.istore 4, 2) := by decide +kernel
theorem dX12_led_25 : decode cX12_led 25 = .ok (.aload_n 0, 1) := by decide +kernel
theorem dX12_led_26 : decode cX12_led 26 = .ok (.getfield 13, 3) := by decide +kernel
theorem dX12_led_29 : decode cX12_led 29 = .ok (.bipush 15, 2) := by decide +kernel
theorem dX12_led_31 : decode cX12_led 31 = .ok (.iaload, 1) := by decide +kernel
theorem dX12_led_32 : decode cX12_led 32 = .ok (.iconst 1, 1) := by decide +kernel
theorem dX12_led_33 : decode cX12_led 33 = .ok (.isub, 1) := by decide +kernel
theorem dX12_led_34 : decode cX12_led 34 = .ok (.istore 5, 2) := by decide +kernel
theorem dX12_led_36 : decode cX12_led 36 = .ok (.iload 5, 2) := by decide +kernel
theorem dX12_led_38 : decode cX12_led 38 = .ok (.ifCond .lt 35, 3) := by decide +kernel
theorem dX12_led_41 : decode cX12_led 41 = .ok (.aload_n 0, 1) := by decide +kernel
theorem dX12_led_42 : decode cX12_led 42 = .ok (.iload 5, 2) := by decide +kernel
theorem dX12_led_44 : decode cX12_led 44 = .ok (.iconst 1, 1) := by decide +kernel
theorem dX12_led_45 : decode cX12_led 45 = .ok (.invokevirtual 396, 3) := by decide +kernel
theorem dX12_led_48 : decode cX12_led 48 = .ok (.iload_n 1, 1) := by decide +kernel
theorem dX12_led_49 : decode cX12_led 49 = .ok (.if_icmp .eq 6, 3) := by decide +kernel
theorem dX12_led_52 : decode cX12_led 52 = .ok (.goto 15, 3) := by decide +kernel
theorem dX12_led_55 : decode cX12_led 55 = .ok (.iinc 3 1, 3) := by decide +kernel
theorem dX12_led_58 : decode cX12_led 58 = .ok (.aload_n 0, 1) := by decide +kernel
theorem dX12_led_59 : decode cX12_led 59 = .ok (.iload 5, 2) := by decide +kernel
theorem dX12_led_61 : decode cX12_led 61 = .ok (.iconst 0, 1) := by decide +kernel
theorem dX12_led_62 : decode cX12_led 62 = .ok (.invokevirtual 396, 3) := by decide +kernel
theorem dX12_led_65 : decode cX12_led 65 = .ok (.istore 4, 2) := by decide +kernel
theorem dX12_led_67 : decode cX12_led 67 = .ok (.iinc 5 (-1), 3) := by decide +kernel
theorem dX12_led_70 : decode cX12_led 70 = .ok (.goto (-34), 3) := by decide +kernel
theorem dX12_led_73 : decode cX12_led 73 = .ok (.iload_n 2, 1) := by decide +kernel
theorem dX12_led_74 : decode cX12_led 74 = .ok (.ifCond .eq 8, 3) := by decide +kernel
theorem dX12_led_77 : decode cX12_led 77 = .ok (.iload 4, 2) := by decide +kernel
theorem dX12_led_79 : decode cX12_led 79 = .ok (.goto 4, 3) := by decide +kernel
theorem dX12_led_82 : decode cX12_led 82 = .ok (.iload_n 3, 1) := by decide +kernel
theorem dX12_led_83 : decode cX12_led 83 = .ok (.ireturn, 1) := by decide +kernel
theorem dX12_log_0 : decode cX12_log 0 = .ok (.aload_n 0, 1) := by decide +kernel
theorem dX12_log_1 : decode cX12_log 1 = .ok (.iconst 0, 1) := by decide +kernel
theorem dX12_log_2 : decode cX12_log 2 = .ok (.putfield 3, 3) := by decide +kernel
theorem dX12_log_5 : decode cX12_log 5 = .ok (.aload_n 0, 1) := by decide +kernel
theorem dX12_log_6 : decode cX12_log 6 = .ok (.iload_n 2, 1) := by decide +kernel
theorem dX12_log_7 : decode cX12_log 7 = .ok (.iconst 0, 1) := by decide +kernel
theorem dX12_log_8 : decode cX12_log 8 = .ok (.iconst 3, 1) := by decide +kernel
theorem dX12_log_9 : decode cX12_log 9 = .ok (.invokestatic 73, 3) := by decide +kernel
theorem dX12_log_12 : decode cX12_log 12 = .ok (.ifCond .ne 7, 3) := by decide +kernel
theorem dX12_log_15 : decode cX12_log 15 = .ok (.iconst 1, 1) := by decide +kernel
theorem dX12_log_16 : decode cX12_log 16 = .ok (.goto 4, 3) := by decide +kernel
theorem dX12_log_19 : decode cX12_log 19 = .ok (.iconst 0, 1) := by decide +kernel
theorem dX12_log_20 : decode cX12_log 20 = .ok (.iconst 1, 1) := by decide +kernel
theorem dX12_log_21 : decode cX12_log 21 = .ok (.invokevirtual 243, 3) := by decide +kernel
theorem dX12_log_24 : decode cX12_log 24 = .ok (.ifCond .eq 5, 3) := by decide +kernel
theorem dX12_log_27 : decode cX12_log 27 = .ok (.iconst 0, 1) := by decide +kernel
theorem dX12_log_28 : decode cX12_log 28 = .ok (.ireturn, 1) := by decide +kernel
theorem dX12_log_29 : decode cX12_log 29 = .ok (.iload_n 1, 1) := by decide +kernel
theorem dX12_log_30 : decode cX12_log 30 = .ok (.iconst 0, 1) := by decide +kernel
theorem dX12_log_31 : decode cX12_log 31 = .ok (.aload_n 0, 1) := by decide +kernel
theorem dX12_log_32 : decode cX12_log 32 = .ok (.getfield 13, 3) := by decide +kernel
theorem dX12_log_35 : decode cX12_log 35 = .ok (.bipush 15, 2) := by decide +kernel
theorem dX12_log_37 : decode cX12_log 37 = .ok (.iaload, 1) := by decide +kernel
theorem dX12_log_38 : decode cX12_log 38 = .ok (.iconst 1, 1) := by decide +kernel
theorem dX12_log_39 : decode cX12_log 39 = .ok (.isub, 1) := by decide +kernel
theorem dX12_log_40 : decode cX12_log 40 = .ok (.invokestatic 73, 3) := by decide +kernel
theorem dX12_log_43 : decode cX12_log 43 = .ok (.ifCond .eq 12, 3) := by decide +kernel
theorem dX12_log_46 : decode cX12_log 46 = .ok (.aload_n 0, 1) := by decide +kernel
theorem dX12_log_47 : decode cX12_log 47 = .ok (.iload_n 1, 1) := by decide +kernel
theorem dX12_log_48 : decode cX12_log 48 = .ok (.iload_n 2, 1) := by decide +kernel
theorem dX12_log_49 : decode cX12_log 49 = .ok (.invokevirtual 396, 3) := by decide +kernel
theorem dX12_log_52 : decode cX12_log 52 = .ok (.goto 5, 3) := by decide +kernel
theorem dX12_log_55 : decode cX12_log 55 = .ok (.bipush (-2), 2) := by decide +kernel
theorem dX12_log_57 : decode cX12_log 57 = .ok (.ireturn, 1) := by decide +kernel
theorem dX12_seed_0 : decode cX12_seed 0 = .ok (.aload_n 0, 1) := by decide +kernel
theorem dX12_seed_1 : decode cX12_seed 1 = .ok (.iconst 0, 1) := by decide +kernel
theorem dX12_seed_2 : decode cX12_seed 2 = .ok (.putfield 3, 3) := by decide +kernel
theorem dX12_seed_5 : decode cX12_seed 5 = .ok (.aload_n 0, 1) := by decide +kernel
theorem dX12_seed_6 : decode cX12_seed 6 = .ok (.getfield 13, 3) := by decide +kernel
theorem dX12_seed_9 : decode cX12_seed 9 = .ok (.bipush 16, 2) := by decide +kernel
theorem dX12_seed_11 : decode cX12_seed 11 = .ok (.iaload, 1) := by decide +kernel
theorem dX12_seed_12 : decode cX12_seed 12 = .ok (.istore_n 2, 1) := by decide +kernel
theorem dX12_seed_13 : decode cX12_seed 13 = .ok (.aload_n 0, 1) := by decide +kernel
theorem dX12_seed_14 : decode cX12_seed 14 = .ok (.getfield 13, 3) := by decide +kernel
theorem dX12_seed_17 : decode cX12_seed 17 = .ok (.bipush 16, 2) := by decide +kernel
theorem dX12_seed_19 : decode cX12_seed 19 = .ok (.iload_n 1, 1) := by decide +kernel
theorem dX12_seed_20 : decode cX12_seed 20 = .ok (.iastore, 1) := by decide +kernel
theorem dX12_seed_21 : decode cX12_seed 21 = .ok (.iload_n 2, 1) := by decide +kernel
theorem dX12_seed_22 : decode cX12_seed 22 = .ok (.ireturn, 1) := by decide +kernel
theorem dX12_count_0 : decode cX12_count 0 = .ok (.aload_n 0, 1) := by decide +kernel
theorem dX12_count_1 : decode cX12_count 1 = .ok (.iconst 0, 1) := by decide +kernel
theorem dX12_count_2 : decode cX12_count 2 = .ok (.putfield 3, 3) := by decide +kernel
theorem dX12_count_5 : decode cX12_count 5 = .ok (.iload_n 1, 1) := by decide +kernel
theorem dX12_count_6 : decode cX12_count 6 = .ok (.lookupswitch 70 #[(2, 34), (15, 57), (16, 65)], 34) := by decide +kernel
theorem dX12_count_40 : decode cX12_count 40 = .ok (.aload_n 0, 1) := by decide +kernel
theorem dX12_count_41 : decode cX12_count 41 = .ok (.getfield 13, 3) := by decide +kernel
theorem dX12_count_44 : decode cX12_count 44 = .ok (.iconst 2, 1) := by decide +kernel
theorem dX12_count_45 : decode cX12_count 45 = .ok (.iaload, 1) := by decide +kernel
theorem dX12_count_46 : decode cX12_count 46 = .ok (.iconst 1, 1) := by decide +kernel
theorem dX12_count_47 : decode cX12_count 47 = .ok (.if_icmp .ne 14, 3) := by decide +kernel
theorem dX12_count_50 : decode cX12_count 50 = .ok (.aload_n 0, 1) := by decide +kernel
theorem dX12_count_51 : decode cX12_count 51 = .ok (.getfield 13, 3) := by decide +kernel
theorem dX12_count_54 : decode cX12_count 54 = .ok (.sipush 353, 3) := by decide +kernel
theorem dX12_count_57 : decode cX12_count 57 = .ok (.iaload, 1) := by decide +kernel
theorem dX12_count_58 : decode cX12_count 58 = .ok (.goto 4, 3) := by decide +kernel
theorem dX12_count_61 : decode cX12_count 61 = .ok (.iconst (-1), 1) := by decide +kernel
theorem dX12_count_62 : decode cX12_count 62 = .ok (.ireturn, 1) := by decide +kernel
theorem dX12_count_63 : decode cX12_count 63 = .ok (.aload_n 0, 1) := by decide +kernel
theorem dX12_count_64 : decode cX12_count 64 = .ok (.getfield 13, 3) := by decide +kernel
theorem dX12_count_67 : decode cX12_count 67 = .ok (.bipush 15, 2) := by decide +kernel
theorem dX12_count_69 : decode cX12_count 69 = .ok (.iaload, 1) := by decide +kernel
theorem dX12_count_70 : decode cX12_count 70 = .ok (.ireturn, 1) := by decide +kernel
theorem dX12_count_71 : decode cX12_count 71 = .ok (.aload_n 0, 1) := by decide +kernel
theorem dX12_count_72 : decode cX12_count 72 = .ok (.getfield 59, 3) := by decide +kernel
theorem dX12_count_75 : decode cX12_count 75 = .ok (.ireturn, 1) := by decide +kernel
theorem dX12_count_76 : decode cX12_count 76 = .ok (.iload_n 1, 1) := by decide +kernel
theorem dX12_count_77 : decode cX12_count 77 = .ok (.iconst 0, 1) := by decide +kernel
theorem dX12_count_78 : decode cX12_count 78 = .ok (.bipush 14, 2) := by decide +kernel
theorem dX12_count_80 : decode cX12_count 80 = .ok (.invokestatic 73, 3) := by decide +kernel
theorem dX12_count_83 : decode cX12_count 83 = .ok (.ifCond .eq 12, 3) := by decide +kernel
theorem dX12_count_86 : decode cX12_count 86 = .ok (.aload_n 0, 1) := by decide +kernel
theorem dX12_count_87 : decode cX12_count 87 = .ok (.getfield 13, 3) := by decide +kernel
theorem dX12_count_90 : decode cX12_count 90 = .ok (.iload_n 1, 1) := by decide +kernel
theorem dX12_count_91 : decode cX12_count 91 = .ok (.iaload, 1) := by decide +kernel
theorem dX12_count_92 : decode cX12_count 92 = .ok (.goto 4, 3) := by decide +kernel
theorem dX12_count_95 : decode cX12_count 95 = .ok (.iconst (-1), 1) := by decide +kernel
theorem dX12_count_96 : decode cX12_count 96 = .ok (.ireturn, 1) := by decide +kernel
