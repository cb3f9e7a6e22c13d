theorem dX11_init_0 : decode cX11_init 0 = .ok (.aload_n 0, 1) := by decide +kernel
theorem dX11_init_1 : decode cX11_init 1 = .ok (.invokespecial 1, 3) := by decide +kernel
theorem dX11_init_4 : decode cX11_init 4 = .ok (.aload_n 0, 1) := by decide +kernel
theorem dX11_init_5 : decode cX11_init 5 = .ok (.sipush 400, 3) := by decide +kernel
theorem dX11_init_8 : decode cX11_init 8 = .ok (.newarray .int, 2) := by decide +kernel
theorem dX11_init_10 : decode cX11_init 10 = .ok (.putfield 9, 3) := by decide +kernel
theorem dX11_init_13 : decode cX11_init 13 = .ok (.aload_n 0, 1) := by decide +kernel
theorem dX11_init_14 : decode cX11_init 14 = .ok (.iconst 0, 1) := by decide +kernel
theorem dX11_init_15 : decode cX11_init 15 = .ok (.putfield 13, 3) := by decide +kernel
theorem dX11_init_18 : decode cX11_init 18 = .ok (.aload_n 0, 1) := by decide +kernel
theorem dX11_init_19 : decode cX11_init 19 = .ok (.iconst (-1), 1) := by decide +kernel
theorem dX11_init_20 : decode cX11_init 20 = .ok (.putfield 17, 3) := by decide +kernel
theorem dX11_init_23 : decode cX11_init 23 = .ok (.aload_n 0, 1) := by decide +kernel
theorem dX11_init_24 : decode cX11_init 24 = .ok (.new 20, 3) := by decide +kernel
theorem dX11_init_27 : decode cX11_init 27 = .ok (.dup, 1) := by decide +kernel
theorem dX11_init_28 : decode cX11_init 28 = .ok (.invokespecial 22, 3) := by decide +kernel
theorem dX11_init_31 : decode cX11_init 31 = .ok (.putfield 23, 3) := by decide +kernel
theorem dX11_init_34 : decode cX11_init 34 = .ok (.aload_n 0, 1) := by decide +kernel
theorem dX11_init_35 : decode cX11_init 35 = .ok (.new 27, 3) := by decide +kernel
theorem dX11_init_38 : decode cX11_init 38 = .ok (.dup, 1) := by decide +kernel
theorem dX11_init_39 : decode cX11_init 39 = .ok (.invokespecial 29, 3) := by decide +kernel
theorem dX11_init_42 : decode cX11_init 42 = .ok (.putfield 30, 3) := by decide +kernel
theorem dX11_init_45 : decode cX11_init 45 = .ok (.aload_n 0, 1) := by decide +kernel
theorem dX11_init_46 : decode cX11_init 46 = .ok (.new 34, 3) := by decide +kernel
theorem dX11_init_49 : decode cX11_init 49 = .ok (.dup, 1) := by decide +kernel
theorem dX11_init_50 : decode cX11_init 50 = .ok (.invokespecial 36, 3) := by decide +kernel
theorem dX11_init_53 : decode cX11_init 53 = .ok (.putfield 37, 3) := by decide +kernel
theorem dX11_init_56 : decode cX11_init 56 = .ok (.aload_n 0, 1) := by decide +kernel
theorem dX11_init_57 : decode cX11_init 57 = .ok (.new 41, 3) := by decide +kernel
theorem dX11_init_60 : decode cX11_init 60 = .ok (.dup, 1) := by decide +kernel
theorem dX11_init_61 : decode cX11_init 61 = .ok (.invokespecial 43, 3) := by decide +kernel
theorem dX11_init_64 : decode cX11_init 64 = .ok (.putfield 44, 3) := by decide +kernel
theorem dX11_init_67 : decode cX11_init 67 = .ok (.aload_n 0, 1) := by decide +kernel
theorem dX11_init_68 : decode cX11_init 68 = .ok (.new 20, 3) := by decide +kernel
theorem dX11_init_71 : decode cX11_init 71 = .ok (.dup, 1) := by decide +kernel
theorem dX11_init_72 : decode cX11_init 72 = .ok (.invokespecial 22, 3) := by decide +kernel
theorem dX11_init_75 : decode cX11_init 75 = .ok (.putfield 48, 3) := by decide +kernel
theorem dX11_init_78 : decode cX11_init 78 = .ok (.aload_n 0, 1) := by decide +kernel
theorem dX11_init_79 : decode cX11_init 79 = .ok (.new 27, 3) := by decide +kernel
theorem dX11_init_82 : decode cX11_init 82 = .ok (.dup, 1) := by decide +kernel
theorem dX11_init_83 : decode cX11_init 83 = .ok (.invokespecial 29, 3) := by decide +kernel
theorem dX11_init_86 : decode cX11_init 86 = .ok (.putfield 51, 3) := by decide +kernel
theorem dX11_init_89 : decode cX11_init 89 = .ok (.aload_n 0, 1) := by decide +kernel
theorem dX11_init_90 : decode cX11_init 90 = .ok (.new 34, 3) := by decide +kernel
theorem dX11_init_93 : decode cX11_init 93 = .ok (.dup, 1) := by decide +kernel
theorem dX11_init_94 : decode cX11_init 94 = .ok (.invokespecial 36, 3) := by decide +kernel
theorem dX11_init_97 : decode cX11_init 97 = .ok (.putfield 54, 3) := by decide +kernel
theorem dX11_init_100 : decode cX11_init 100 = .ok (.aload_n 0, 1) := by decide +kernel
theorem dX11_init_101 : decode cX11_init 101 = .ok (.iconst 0, 1) := by decide +kernel
theorem dX11_init_102 : decode cX11_init 102 = .ok (.putfield 57, 3) := by decide +kernel
theorem dX11_init_105 : decode cX11_init 105 = .ok (.aload_n 0, 1) := by decide +kernel
theorem dX11_init_106 : decode cX11_init 106 = .ok (.new 20, 3) := by decide +kernel
theorem dX11_init_109 : decode cX11_init 109 = .ok (.dup, 1) := by decide +kernel
theorem dX11_init_110 : decode cX11_init 110 = .ok (.invokespecial 22, 3) := by decide +kernel
theorem dX11_init_113 : decode cX11_init 113 = .ok (.putfield 61, 3) := by decide +kernel
theorem dX11_init_116 : decode cX11_init 116 = .ok (.aload_n 0, 1) := by decide +kernel
theorem dX11_init_117 : decode cX11_init 117 = .ok (.new 64, 3) := by decide +kernel
theorem dX11_init_120 : decode cX11_init 120 = .ok (.dup, 1) := by decide +kernel
theorem dX11_init_121 : decode cX11_init 121 = .ok (.invokespecial 66, 3) := by decide +kernel
theorem dX11_init_124 : decode cX11_init 124 = .ok (.putfield 67, 3) := by decide +kernel
theorem dX11_init_127 : decode cX11_init 127 = .ok (.aload_n 0, 1) := by decide +kernel
theorem dX11_init_128 : decode cX11_init 128 = .ok (.new 71, 3) := by decide +kernel
theorem dX11_init_131 : decode cX11_init 131 = .ok (.dup, 1) := by decide +kernel
theorem dX11_init_132 : decode cX11_init 132 = .ok (.invokespecial 73, 3) := by decide +kernel
theorem dX11_init_135 : decode cX11_init 135 = .ok (.putfield 74, 3) := by decide +kernel
theorem dX11_init_138 : decode cX11_init 138 = .ok (.aload_n 0, 1) := by decide +kernel
theorem dX11_init_139 : decode cX11_init 139 = .ok (.new 78, 3) := by decide +kernel
theorem dX11_init_142 : decode cX11_init 142 = .ok (.dup, 1) := by decide +kernel
theorem dX11_init_143 : decode cX11_init 143 = .ok (.invokespecial 80, 3) := by decide +kernel
theorem dX11_init_146 : decode cX11_init 146 = .ok (.putfield 81, 3) := by decide +kernel
theorem dX11_init_149 : decode cX11_init 149 = .ok (.aload_n 0, 1) := by decide +kernel
theorem dX11_init_150 : decode cX11_init 150 = .ok (.new 85, 3) := by decide +kernel
theorem dX11_init_153 : decode cX11_init 153 = .ok (.dup, 1) := by decide +kernel
theorem dX11_init_154 : decode cX11_init 154 = .ok (.invokespecial 87, 3) := by decide +kernel
theorem dX11_init_157 : decode cX11_init 157 = .ok (.putfield 88, 3) := by decide +kernel
theorem dX11_init_160 : decode cX11_init 160 = .ok (.aload_n 0, 1) := by decide +kernel
theorem dX11_init_161 : decode cX11_init 161 = .ok (.new 92, 3) := by decide +kernel
theorem dX11_init_164 : decode cX11_init 164 = .ok (.dup, 1) := by decide +kernel
theorem dX11_init_165 : decode cX11_init 165 = .ok (.invokespecial 94, 3) := by decide +kernel
theorem dX11_init_168 : decode cX11_init 168 = .ok (.putfield 95, 3) := by decide +kernel
theorem dX11_init_171 : decode cX11_init 171 = .ok (.return_, 1) := by decide +kernel
theorem dX11_feed_0 : decode cX11_feed 0 = .ok (.aload_n 0, 1) := by decide +kernel
theorem dX11_feed_1 : decode cX11_feed 1 = .ok (.getfield 13, 3) := by decide +kernel
theorem dX11_feed_4 : decode cX11_feed 4 = .ok (.sipush 380, 3) := by decide +kernel
theorem dX11_feed_7 : decode cX11_feed 7 = .ok (.if_icmp .le 5, 3) := by decide +kernel
theorem dX11_feed_10 : decode cX11_feed 10 = .ok (.iconst (-1), 1) := by decide +kernel
theorem dX11_feed_11 : decode cX11_feed 11 = .ok (.ireturn, 1) := by decide +kernel
theorem dX11_feed_12 : decode cX11_feed 12 = .ok (.aload_n 0, 1) := by decide +kernel
theorem dX11_feed_13 : decode cX11_feed 13 = .ok (.iload_n 1, 1) := by decide +kernel
theorem dX11_feed_14 : decode cX11_feed 14 = .ok (.invokevirtual 99, 3) := by decide +kernel
theorem dX11_feed_17 : decode cX11_feed 17 = .ok (.aload_n 0, 1) := by decide +kernel
theorem dX11_feed_18 : decode cX11_feed 18 = .ok (.iload_n 2, 1) := by decide +kernel
theorem dX11_feed_19 : decode cX11_feed 19 = .ok (.invokevirtual 99, 3) := by decide +kernel
theorem dX11_feed_22 : decode cX11_feed 22 = .ok (.aload_n 0, 1) := by decide +kernel
theorem dX11_feed_23 : decode cX11_feed 23 = .ok (.iload_n 3, 1) := by decide +kernel
theorem dX11_feed_24 : decode cX11_feed 24 = .ok (.invokevirtual 99, 3) := by decide +kernel
theorem dX11_feed_27 : decode cX11_feed 27 = .ok (.aload_n 0, 1) := by decide +kernel
theorem dX11_feed_28 : decode cX11_feed 28 = .ok (.iload 4, 2) := by decide +kernel
theorem dX11_feed_30 : decode cX11_feed 30 = .ok (.invokevirtual 99, 3) := by decide +kernel
theorem dX11_feed_33 : decode cX11_feed 33 = .ok (.aload_n 0, 1) := by decide +kernel
theorem dX11_feed_34 : decode cX11_feed 34 = .ok (.iload 5, 2) := by decide +kernel
theorem dX11_feed_36 : decode cX11_feed 36 = .ok (.invokevirtual 99, 3) := by decide +kernel
theorem dX11_feed_39 : decode cX11_feed 39 = .ok (.aload_n 0, 1) := by decide +kernel
theorem dX11_feed_40 : decode cX11_feed 40 = .ok (.getfield 13, 3) := by decide +kernel
theorem dX11_feed_43 : decode cX11_feed 43 = .ok (.ireturn, 1) := by decide +kernel
theorem dX11_putBytes_0 : decode cX11_putBytes 0 = .ok (.bipush 24, 2) := by decide +kernel
theorem dX11_putBytes_2 : decode cX11_putBytes 2 = .ok (.istore_n 2, 1) := by decide +kernel
theorem dX11_putBytes_3 : decode cX11_putBytes 3 = .ok (.iload_n 2, 1) := by decide +kernel
theorem dX11_putBytes_4 : decode cX11_putBytes 4 = .ok (.ifCond .lt 45, 3) := by decide +kernel
theorem dX11_putBytes_7 : decode cX11_putBytes 7 = .ok (.aload_n 0, 1) := by decide +kernel
theorem dX11_putBytes_8 : decode cX11_putBytes 8 = .ok (.getfield 13, 3) := by decide +kernel
theorem dX11_putBytes_11 : decode cX11_putBytes 11 = .ok (.sipush 400, 3) := by decide +kernel
theorem dX11_putBytes_14 : decode cX11_putBytes 14 = .ok (.if_icmp .ge 29, 3) := by decide +kernel
theorem dX11_putBytes_17 : decode cX11_putBytes 17 = .ok (.aload_n 0, 1) := by decide +kernel
theorem dX11_putBytes_18 : decode cX11_putBytes 18 = .ok (.getfield 9, 3) := by decide +kernel
theorem dX11_putBytes_21 : decode cX11_putBytes 21 = .ok (.aload_n 0, 1) := by decide +kernel
theorem dX11_putBytes_22 : decode cX11_putBytes 22 = .ok (.getfield 13, 3) := by decide +kernel
theorem dX11_putBytes_25 : decode cX11_putBytes 25 = .ok (.iload_n 1, 1) := by decide +kernel
theorem dX11_putBytes_26 : decode cX11_putBytes 26 = .ok (.iload_n 2, 1) := by decide +kernel
theorem dX11_putBytes_27 : decode cX11_putBytes 27 = .ok (.iushr, 1) := by decide +kernel
theorem dX11_putBytes_28 : decode cX11_putBytes 28 = .ok (.sipush 255, 3) := by decide +kernel
theorem dX11_putBytes_31 : decode cX11_putBytes 31 = .ok (.iand, 1) := by decide +kernel
theorem dX11_putBytes_32 : decode cX11_putBytes 32 = .ok (.iastore, 1) := by decide +kernel
theorem dX11_putBytes_33 : decode cX11_putBytes 33 = .ok (.aload_n 0, 1) := by decide +kernel
theorem dX11_putBytes_34 : decode cX11_putBytes 34 = .ok (.dup, 1) := by decide +kernel
theorem dX11_putBytes_35 : decode cX11_putBytes 35 = .ok (.getfield 13, 3) := by decide +kernel
theorem dX11_putBytes_38 : decode cX11_putBytes 38 = .ok (.iconst 1, 1) := by decide +kernel
theorem dX11_putBytes_39 : decode cX11_putBytes 39 = .ok (.iadd, 1) := by decide +kernel
theorem dX11_putBytes_40 : decode cX11_putBytes 40 = .ok (.putfield 13, 3) := by decide +kernel
theorem dX11_putBytes_43 : decode cX11_putBytes 43 = .ok (.iinc 2 (-8), 3) := by decide +kernel
theorem dX11_putBytes_46 : decode cX11_putBytes 46 = .ok (.goto (-43), 3) := by decide +kernel
theorem dX11_putBytes_49 : decode cX11_putBytes 49 = .ok (.return_, 1) := by decide +kernel
theorem dX11_end_0 : decode cX11_end 0 = .ok (.iload_n 1, 1) := by decide +kernel
theorem dX11_end_1 : decode cX11_end 1 = .ok (.ifCond .lt 11, 3) := by decide +kernel
theorem dX11_end_4 : decode cX11_end 4 = .ok (.iload_n 1, 1) := by decide +kernel
theorem dX11_end_5 : decode cX11_end 5 = .ok (.aload_n 0, 1) := by decide +kernel
theorem dX11_end_6 : decode cX11_end 6 = .ok (.getfield 13, 3) := by decide +kernel
theorem dX11_end_9 : decode cX11_end 9 = .ok (.if_icmp .le 5, 3) := by decide +kernel
theorem dX11_end_12 : decode cX11_end 12 = .ok (.iconst 0, 1) := by decide +kernel
theorem dX11_end_13 : decode cX11_end 13 = .ok (.ireturn, 1) := by decide +kernel
theorem dX11_end_14 : decode cX11_end 14 = .ok (.aload_n 0, 1) := by decide +kernel
theorem dX11_end_15 : decode cX11_end 15 = .ok (.iload_n 1, 1) := by decide +kernel
theorem dX11_end_16 : decode cX11_end 16 = .ok (.putfield 13, 3) := by decide +kernel
theorem dX11_end_19 : decode cX11_end 19 = .ok (.iconst 1, 1) := by decide +kernel
theorem dX11_end_20 : decode cX11_end 20 = .ok (.ireturn, 1) := by decide +kernel
theorem dX11_takeTape_0 : decode cX11_takeTape 0 = .ok (.aload_n 0, 1) := by decide +kernel
theorem dX11_takeTape_1 : decode cX11_takeTape 1 = .ok (.getfield 13, 3) := by decide +kernel
theorem dX11_takeTape_4 : decode cX11_takeTape 4 = .ok (.istore_n 1, 1) := by decide +kernel
theorem dX11_takeTape_5 : decode cX11_takeTape 5 = .ok (.aload_n 0, 1) := by decide +kernel
theorem dX11_takeTape_6 : decode cX11_takeTape 6 = .ok (.iconst 0, 1) := by decide +kernel
theorem dX11_takeTape_7 : decode cX11_takeTape 7 = .ok (.putfield 13, 3) := by decide +kernel
theorem dX11_takeTape_10 : decode cX11_takeTape 10 = .ok (.iload_n 1, 1) := by decide +kernel
theorem dX11_takeTape_11 : decode cX11_takeTape 11 = .ok (.ireturn, 1) := by decide +kernel
theorem dX11_toldAtMost_0 : decode cX11_toldAtMost 0 = .ok (.iconst 0, 1) := by decide +kernel
theorem dX11_toldAtMost_1 : decode cX11_toldAtMost 1 = .ok (.istore_n 3, 1) := by decide +kernel
theorem dX11_toldAtMost_2 : decode cX11_toldAtMost 2 = .ok (.iload_n 3, 1) := by decide +kernel
theorem dX11_toldAtMost_3 : decode cX11_toldAtMost 3 = .ok (.iload_n 1, 1) := by decide +kernel
theorem dX11_toldAtMost_4 : decode cX11_toldAtMost 4 = .ok (.if_icmp .ge 28, 3) := by decide +kernel
theorem dX11_toldAtMost_7 : decode cX11_toldAtMost 7 = .ok (.iload_n 3, 1) := by decide +kernel
theorem dX11_toldAtMost_8 : decode cX11_toldAtMost 8 = .ok (.sipush 400, 3) := by decide +kernel
theorem dX11_toldAtMost_11 : decode cX11_toldAtMost 11 = .ok (.if_icmp .ge 21, 3) := by decide +kernel
theorem dX11_toldAtMost_14 : decode cX11_toldAtMost 14 = .ok (.aload_n 0, 1) := by decide +kernel
theorem dX11_toldAtMost_15 : decode cX11_toldAtMost 15 = .ok (.getfield 9, 3) := by decide +kernel
theorem dX11_toldAtMost_18 : decode cX11_toldAtMost 18 = .ok (.iload_n 3, 1) := by decide +kernel
theorem dX11_toldAtMost_19 : decode cX11_toldAtMost 19 = .ok (.iaload, 1) := by decide +kernel
theorem dX11_toldAtMost_20 : decode cX11_toldAtMost 20 = .ok (.iload_n 2, 1) := by decide +kernel
theorem dX11_toldAtMost_21 : decode cX11_toldAtMost 21 = .ok (.if_icmp .le 5, 3) := by decide +kernel
theorem dX11_toldAtMost_24 : decode cX11_toldAtMost 24 = .ok (.iconst 0, 1) := by decide +kernel
theorem dX11_toldAtMost_25 : decode cX11_toldAtMost 25 = .ok (.ireturn, 1) := by decide +kernel
theorem dX11_toldAtMost_26 : decode cX11_toldAtMost 26 = .ok (.iinc 3 1, 3) := by decide +kernel
theorem dX11_toldAtMost_29 : decode cX11_toldAtMost 29 = .ok (.goto (-27), 3) := by decide +kernel
theorem dX11_toldAtMost_32 : decode cX11_toldAtMost 32 = .ok (.iconst 1, 1) := by decide +kernel
theorem dX11_toldAtMost_33 : decode cX11_toldAtMost 33 = .ok (.ireturn, 1) := by decide +kernel
theorem dX11_life_0 : decode cX11_life 0 = .ok (.aload_n 0, 1) := by decide +kernel
theorem dX11_life_1 : decode cX11_life 1 = .ok (.getfield 74, 3) := by decide +kernel
theorem dX11_life_4 : decode cX11_life 4 = .ok (.getfield 103, 3) := by decide +kernel
theorem dX11_life_7 : decode cX11_life 7 = .ok (.aload_n 0, 1) := by decide +kernel
theorem dX11_life_8 : decode cX11_life 8 = .ok (.getfield 23, 3) := by decide +kernel
theorem dX11_life_11 : decode cX11_life 11 = .ok (.invokevirtual 106, 3) := by decide +kernel
theorem dX11_life_14 : decode cX11_life 14 = .ok (.aload_n 0, 1) := by decide +kernel
theorem dX11_life_15 : decode cX11_life 15 = .ok (.aload_n 0, 1) := by decide +kernel
theorem dX11_life_16 : decode cX11_life 16 = .ok (.getfield 74, 3) := by decide +kernel
theorem dX11_life_19 : decode cX11_life 19 = .ok (.aload_n 0, 1) := by decide +kernel
theorem dX11_life_20 : decode cX11_life 20 = .ok (.getfield 9, 3) := by decide +kernel
theorem dX11_life_23 : decode cX11_life 23 = .ok (.aload_n 0, 1) := by decide +kernel
theorem dX11_life_24 : decode cX11_life 24 = .ok (.invokevirtual 110, 3) := by decide +kernel
theorem dX11_life_27 : decode cX11_life 27 = .ok (.bipush 14, 2) := by decide +kernel
theorem dX11_life_29 : decode cX11_life 29 = .ok (.invokevirtual 114, 3) := by decide +kernel
theorem dX11_life_32 : decode cX11_life 32 = .ok (.putfield 17, 3) := by decide +kernel
theorem dX11_life_35 : decode cX11_life 35 = .ok (.aload_n 0, 1) := by decide +kernel
theorem dX11_life_36 : decode cX11_life 36 = .ok (.getfield 17, 3) := by decide +kernel
theorem dX11_life_39 : decode cX11_life 39 = .ok (.iconst (-1), 1) := by decide +kernel
theorem dX11_life_40 : decode cX11_life 40 = .ok (.if_icmp .eq 13, 3) := by decide +kernel
theorem dX11_life_43 : decode cX11_life 43 = .ok (.new 118, 3) := by decide +kernel
theorem dX11_life_46 : decode cX11_life 46 = .ok (.dup, 1) := by decide +kernel
theorem dX11_life_47 : decode cX11_life 47 = .ok (.ldc 120, 2) := by decide +kernel
theorem dX11_life_49 : decode cX11_life 49 = .ok (.invokespecial 122, 3) := by decide +kernel
theorem dX11_life_52 : decode cX11_life 52 = .ok (.athrow, 1) := by decide +kernel
theorem dX11_life_53 : decode cX11_life 53 = .ok (.aload_n 0, 1) := by decide +kernel
theorem dX11_life_54 : decode cX11_life 54 = .ok (.getfield 23, 3) := by decide +kernel
theorem dX11_life_57 : decode cX11_life 57 = .ok (.getfield 125, 3) := by decide +kernel
theorem dX11_life_60 : decode cX11_life 60 = .ok (.bipush 12, 2) := by decide +kernel
theorem dX11_life_62 : decode cX11_life 62 = .ok (.if_icmp .lt 13, 3) := by decide +kernel
theorem dX11_life_65 : decode cX11_life 65 = .ok (.new 128, 3) := by decide +kernel
theorem dX11_life_68 : decode cX11_life 68 = .ok (.dup, 1) := by decide +kernel
theorem dX11_life_69 : decode cX11_life 69 = .ok (.ldc 130, 2) := by decide +kernel
theorem dX11_life_71 : decode cX11_life 71 = .ok (.invokespecial 132, 3) := by decide +kernel
theorem dX11_life_74 : decode cX11_life 74 = .ok (.athrow, 1) := by decide +kernel
theorem dX11_life_75 : decode cX11_life 75 = .ok (.aload_n 0, 1) := by decide +kernel
theorem dX11_life_76 : decode cX11_life 76 = .ok (.getfield 23, 3) := by decide +kernel
theorem dX11_life_79 : decode cX11_life 79 = .ok (.aload_n 0, 1) := by decide +kernel
theorem dX11_life_80 : decode cX11_life 80 = .ok (.getfield 74, 3) := by decide +kernel
theorem dX11_life_83 : decode cX11_life 83 = .ok (.getfield 103, 3) := by decide +kernel
theorem dX11_life_86 : decode cX11_life 86 = .ok (.invokevirtual 106, 3) := by decide +kernel
theorem dX11_life_89 : decode cX11_life 89 = .ok (.aload_n 0, 1) := by decide +kernel
theorem dX11_life_90 : decode cX11_life 90 = .ok (.getfield 23, 3) := by decide +kernel
theorem dX11_life_93 : decode cX11_life 93 = .ok (.dup, 1) := by decide +kernel
theorem dX11_life_94 : decode cX11_life 94 = .ok (.getfield 125, 3) := by decide +kernel
theorem dX11_life_97 : decode cX11_life 97 = .ok (.iconst 1, 1) := by decide +kernel
theorem dX11_life_98 : decode cX11_life 98 = .ok (.iadd, 1) := by decide +kernel
theorem dX11_life_99 : decode cX11_life 99 = .ok (.putfield 125, 3) := by decide +kernel
theorem dX11_life_102 : decode cX11_life 102 = .ok (.aload_n 0, 1) := by decide +kernel
theorem dX11_life_103 : decode cX11_life 103 = .ok (.getfield 44, 3) := by decide +kernel
theorem dX11_life_106 : decode cX11_life 106 = .ok (.invokevirtual 133, 3) := by decide +kernel
theorem dX11_life_109 : decode cX11_life 109 = .ok (.aload_n 0, 1) := by decide +kernel
theorem dX11_life_110 : decode cX11_life 110 = .ok (.getfield 23, 3) := by decide +kernel
theorem dX11_life_113 : decode cX11_life 113 = .ok (.getfield 125, 3) := by decide +kernel
theorem dX11_life_116 : decode cX11_life 116 = .ok (.ireturn, 1) := by decide +kernel
theorem dX11_law_0 : decode cX11_law 0 = .ok (.aload_n 0, 1) := by decide +kernel
theorem dX11_law_1 : decode cX11_law 1 = .ok (.getfield 81, 3) := by decide +kernel
theorem dX11_law_4 : decode cX11_law 4 = .ok (.getfield 136, 3) := by decide +kernel
theorem dX11_law_7 : decode cX11_law 7 = .ok (.invokevirtual 138, 3) := by decide +kernel
theorem dX11_law_10 : decode cX11_law 10 = .ok (.aload_n 0, 1) := by decide +kernel
theorem dX11_law_11 : decode cX11_law 11 = .ok (.aload_n 0, 1) := by decide +kernel
theorem dX11_law_12 : decode cX11_law 12 = .ok (.getfield 81, 3) := by decide +kernel
theorem dX11_law_15 : decode cX11_law 15 = .ok (.aload_n 0, 1) := by decide +kernel
theorem dX11_law_16 : decode cX11_law 16 = .ok (.getfield 9, 3) := by decide +kernel
theorem dX11_law_19 : decode cX11_law 19 = .ok (.aload_n 0, 1) := by decide +kernel
theorem dX11_law_20 : decode cX11_law 20 = .ok (.invokevirtual 110, 3) := by decide +kernel
theorem dX11_law_23 : decode cX11_law 23 = .ok (.bipush 12, 2) := by decide +kernel
theorem dX11_law_25 : decode cX11_law 25 = .ok (.invokevirtual 139, 3) := by decide +kernel
theorem dX11_law_28 : decode cX11_law 28 = .ok (.putfield 17, 3) := by decide +kernel
theorem dX11_law_31 : decode cX11_law 31 = .ok (.aload_n 0, 1) := by decide +kernel
theorem dX11_law_32 : decode cX11_law 32 = .ok (.getfield 17, 3) := by decide +kernel
theorem dX11_law_35 : decode cX11_law 35 = .ok (.iconst (-1), 1) := by decide +kernel
theorem dX11_law_36 : decode cX11_law 36 = .ok (.if_icmp .eq 13, 3) := by decide +kernel
theorem dX11_law_39 : decode cX11_law 39 = .ok (.new 118, 3) := by decide +kernel
theorem dX11_law_42 : decode cX11_law 42 = .ok (.dup, 1) := by decide +kernel
theorem dX11_law_43 : decode cX11_law 43 = .ok (.ldc 140, 2) := by decide +kernel
theorem dX11_law_45 : decode cX11_law 45 = .ok (.invokespecial 122, 3) := by decide +kernel
theorem dX11_law_48 : decode cX11_law 48 = .ok (.athrow, 1) := by decide +kernel
theorem dX11_law_49 : decode cX11_law 49 = .ok (.aload_n 0, 1) := by decide +kernel
theorem dX11_law_50 : decode cX11_law 50 = .ok (.getfield 30, 3) := by decide +kernel
theorem dX11_law_53 : decode cX11_law 53 = .ok (.aload_n 0, 1) := by decide +kernel
theorem dX11_law_54 : decode cX11_law 54 = .ok (.getfield 81, 3) := by decide +kernel
theorem dX11_law_57 : decode cX11_law 57 = .ok (.getfield 136, 3) := by decide +kernel
theorem dX11_law_60 : decode cX11_law 60 = .ok (.invokevirtual 142, 3) := by decide +kernel
theorem dX11_law_63 : decode cX11_law 63 = .ok (.aload_n 0, 1) := by decide +kernel
theorem dX11_law_64 : decode cX11_law 64 = .ok (.getfield 44, 3) := by decide +kernel
theorem dX11_law_67 : decode cX11_law 67 = .ok (.invokevirtual 133, 3) := by decide +kernel
theorem dX11_law_70 : decode cX11_law 70 = .ok (.aload_n 0, 1) := by decide +kernel
theorem dX11_law_71 : decode cX11_law 71 = .ok (.getfield 30, 3) := by decide +kernel
theorem dX11_law_74 : decode cX11_law 74 = .ok (.getfield 145, 3) := by decide +kernel
theorem dX11_law_77 : decode cX11_law 77 = .ok (.ireturn, 1) := by decide +kernel
theorem dX11_fault_0 : decode cX11_fault 0 = .ok (.aload_n 0, 1) := by decide +kernel
theorem dX11_fault_1 : decode cX11_fault 1 = .ok (.getfield 17, 3) := by decide +kernel
theorem dX11_fault_4 : decode cX11_fault 4 = .ok (.ireturn, 1) := by decide +kernel
theorem dX11_dish_0 : decode cX11_dish 0 = .ok (.aload_n 0, 1) := by decide +kernel
theorem dX11_dish_1 : decode cX11_dish 1 = .ok (.getfield 23, 3) := by decide +kernel
theorem dX11_dish_4 : decode cX11_dish 4 = .ok (.getfield 148, 3) := by decide +kernel
theorem dX11_dish_7 : decode cX11_dish 7 = .ok (.iload_n 1, 1) := by decide +kernel
theorem dX11_dish_8 : decode cX11_dish 8 = .ok (.invokevirtual 152, 3) := by decide +kernel
theorem dX11_dish_11 : decode cX11_dish 11 = .ok (.ifCond .ne 13, 3) := by decide +kernel
theorem dX11_dish_14 : decode cX11_dish 14 = .ok (.new 158, 3) := by decide +kernel
theorem dX11_dish_17 : decode cX11_dish 17 = .ok (.dup, 1) := by decide +kernel
theorem dX11_dish_18 : decode cX11_dish 18 = .ok (.ldc 160, 2) := by decide +kernel
theorem dX11_dish_20 : decode cX11_dish 20 = .ok (.invokespecial 162, 3) := by decide +kernel
theorem dX11_dish_23 : decode cX11_dish 23 = .ok (.athrow, 1) := by decide +kernel
theorem dX11_dish_24 : decode cX11_dish 24 = .ok (.iload_n 2, 1) := by decide +kernel
theorem dX11_dish_25 : decode cX11_dish 25 = .ok (.ifCond .lt 9, 3) := by decide +kernel
theorem dX11_dish_28 : decode cX11_dish 28 = .ok (.iload_n 2, 1) := by decide +kernel
theorem dX11_dish_29 : decode cX11_dish 29 = .ok (.bipush 10, 2) := by decide +kernel
theorem dX11_dish_31 : decode cX11_dish 31 = .ok (.if_icmp .le 13, 3) := by decide +kernel
theorem dX11_dish_34 : decode cX11_dish 34 = .ok (.new 163, 3) := by decide +kernel
theorem dX11_dish_37 : decode cX11_dish 37 = .ok (.dup, 1) := by decide +kernel
theorem dX11_dish_38 : decode cX11_dish 38 = .ok (.ldc 165, 2) := by decide +kernel
theorem dX11_dish_40 : decode cX11_dish 40 = .ok (.invokespecial 167, 3) := by decide +kernel
theorem dX11_dish_43 : decode cX11_dish 43 = .ok (.athrow, 1) := by decide +kernel
theorem dX11_dish_44 : decode cX11_dish 44 = .ok (.iload_n 2, 1) := by decide +kernel
theorem dX11_dish_45 : decode cX11_dish 45 = .ok (.iconst 5, 1) := by decide +kernel
theorem dX11_dish_46 : decode cX11_dish 46 = .ok (.if_icmp .ge 20, 3) := by decide +kernel
theorem dX11_dish_49 : decode cX11_dish 49 = .ok (.aload_n 0, 1) := by decide +kernel
theorem dX11_dish_50 : decode cX11_dish 50 = .ok (.getfield 23, 3) := by decide +kernel
theorem dX11_dish_53 : decode cX11_dish 53 = .ok (.getfield 148, 3) := by decide +kernel
theorem dX11_dish_56 : decode cX11_dish 56 = .ok (.getfield 168, 3) := by decide +kernel
theorem dX11_dish_59 : decode cX11_dish 59 = .ok (.iload_n 1, 1) := by decide +kernel
theorem dX11_dish_60 : decode cX11_dish 60 = .ok (.iconst 5, 1) := by decide +kernel
theorem dX11_dish_61 : decode cX11_dish 61 = .ok (.imul, 1) := by decide +kernel
theorem dX11_dish_62 : decode cX11_dish 62 = .ok (.iload_n 2, 1) := by decide +kernel
theorem dX11_dish_63 : decode cX11_dish 63 = .ok (.iadd, 1) := by decide +kernel
theorem dX11_dish_64 : decode cX11_dish 64 = .ok (.iaload, 1) := by decide +kernel
theorem dX11_dish_65 : decode cX11_dish 65 = .ok (.ireturn, 1) := by decide +kernel
theorem dX11_dish_66 : decode cX11_dish 66 = .ok (.iload_n 2, 1) := by decide +kernel
theorem dX11_dish_67 : decode cX11_dish 67 = .ok (.tableswitch 97 5 9 #[33, 46, 59, 72, 91], 33) := by decide +kernel
theorem dX11_dish_100 : decode cX11_dish 100 = .ok (.aload_n 0, 1) := by decide +kernel
theorem dX11_dish_101 : decode cX11_dish 101 = .ok (.getfield 23, 3) := by decide +kernel
theorem dX11_dish_104 : decode cX11_dish 104 = .ok (.getfield 148, 3) := by decide +kernel
theorem dX11_dish_107 : decode cX11_dish 107 = .ok (.getfield 171, 3) := by decide +kernel
theorem dX11_dish_110 : decode cX11_dish 110 = .ok (.iload_n 1, 1) := by decide +kernel
theorem dX11_dish_111 : decode cX11_dish 111 = .ok (.iaload, 1) := by decide +kernel
theorem dX11_dish_112 : decode cX11_dish 112 = .ok (.ireturn, 1) := by decide +kernel
theorem dX11_dish_113 : decode cX11_dish 113 = .ok (.aload_n 0, 1) := by decide +kernel
theorem dX11_dish_114 : decode cX11_dish 114 = .ok (.getfield 23, 3) := by decide +kernel
theorem dX11_dish_117 : decode cX11_dish 117 = .ok (.getfield 148, 3) := by decide +kernel
theorem dX11_dish_120 : decode cX11_dish 120 = .ok (.getfield 174, 3) := by decide +kernel
theorem dX11_dish_123 : decode cX11_dish 123 = .ok (.iload_n 1, 1) := by decide +kernel
theorem dX11_dish_124 : decode cX11_dish 124 = .ok (.iaload, 1) := by decide +kernel
theorem dX11_dish_125 : decode cX11_dish 125 = .ok (.ireturn, 1) := by decide +kernel
theorem dX11_dish_126 : decode cX11_dish 126 = .ok (.aload_n 0, 1) := by decide +kernel
theorem dX11_dish_127 : decode cX11_dish 127 = .ok (.getfield 23, 3) := by decide +kernel
theorem dX11_dish_130 : decode cX11_dish 130 = .ok (.getfield 148, 3) := by decide +kernel
theorem dX11_dish_133 : decode cX11_dish 133 = .ok (.getfield 177, 3) := by decide +kernel
theorem dX11_dish_136 : decode cX11_dish 136 = .ok (.iload_n 1, 1) := by decide +kernel
theorem dX11_dish_137 : decode cX11_dish 137 = .ok (.iaload, 1) := by decide +kernel
theorem dX11_dish_138 : decode cX11_dish 138 = .ok (.ireturn, 1) := by decide +kernel
theorem dX11_dish_139 : decode cX11_dish 139 = .ok (.aload_n 0, 1) := by decide +kernel
theorem dX11_dish_140 : decode cX11_dish 140 = .ok (.getfield 23, 3) := by decide +kernel
theorem dX11_dish_143 : decode cX11_dish 143 = .ok (.getfield 148, 3) := by decide +kernel
theorem dX11_dish_146 : decode cX11_dish 146 = .ok (.iload_n 1, 1) := by decide +kernel
theorem dX11_dish_147 : decode cX11_dish 147 = .ok (.aload_n 0, 1) := by decide +kernel
theorem dX11_dish_148 : decode cX11_dish 148 = .ok (.getfield 23, 3) := by decide +kernel
theorem dX11_dish_151 : decode cX11_dish 151 = .ok (.getfield 180, 3) := by decide +kernel
theorem dX11_dish_154 : decode cX11_dish 154 = .ok (.invokevirtual 183, 3) := by decide +kernel
theorem dX11_dish_157 : decode cX11_dish 157 = .ok (.ireturn, 1) := by decide +kernel
theorem dX11_dish_158 : decode cX11_dish 158 = .ok (.aload_n 0, 1) := by decide +kernel
theorem dX11_dish_159 : decode cX11_dish 159 = .ok (.iload_n 1, 1) := by decide +kernel
theorem dX11_dish_160 : decode cX11_dish 160 = .ok (.invokevirtual 187, 3) := by decide +kernel
theorem dX11_dish_163 : decode cX11_dish 163 = .ok (.ireturn, 1) := by decide +kernel
theorem dX11_dish_164 : decode cX11_dish 164 = .ok (.aload_n 0, 1) := by decide +kernel
theorem dX11_dish_165 : decode cX11_dish 165 = .ok (.iload_n 1, 1) := by decide +kernel
theorem dX11_dish_166 : decode cX11_dish 166 = .ok (.invokevirtual 191, 3) := by decide +kernel
theorem dX11_dish_169 : decode cX11_dish 169 = .ok (.ireturn, 1) := by decide +kernel
theorem dX11_turnsNow_0 : decode cX11_turnsNow 0 = .ok (.aload_n 0, 1) := by decide +kernel
theorem dX11_turnsNow_1 : decode cX11_turnsNow 1 = .ok (.getfield 67, 3) := by decide +kernel
theorem dX11_turnsNow_4 : decode cX11_turnsNow 4 = .ok (.aload_n 0, 1) := by decide +kernel
theorem dX11_turnsNow_5 : decode cX11_turnsNow 5 = .ok (.getfield 23, 3) := by decide +kernel
theorem dX11_turnsNow_8 : decode cX11_turnsNow 8 = .ok (.iload_n 1, 1) := by decide +kernel
theorem dX11_turnsNow_9 : decode cX11_turnsNow 9 = .ok (.invokevirtual 194, 3) := by decide +kernel
theorem dX11_turnsNow_12 : decode cX11_turnsNow 12 = .ok (.aload_n 0, 1) := by decide +kernel
theorem dX11_turnsNow_13 : decode cX11_turnsNow 13 = .ok (.getfield 30, 3) := by decide +kernel
theorem dX11_turnsNow_16 : decode cX11_turnsNow 16 = .ok (.aload_n 0, 1) := by decide +kernel
theorem dX11_turnsNow_17 : decode cX11_turnsNow 17 = .ok (.getfield 67, 3) := by decide +kernel
theorem dX11_turnsNow_20 : decode cX11_turnsNow 20 = .ok (.invokevirtual 198, 3) := by decide +kernel
theorem dX11_turnsNow_23 : decode cX11_turnsNow 23 = .ok (.aload_n 0, 1) := by decide +kernel
theorem dX11_turnsNow_24 : decode cX11_turnsNow 24 = .ok (.getfield 67, 3) := by decide +kernel
theorem dX11_turnsNow_27 : decode cX11_turnsNow 27 = .ok (.getfield 202, 3) := by decide +kernel
theorem dX11_turnsNow_30 : decode cX11_turnsNow 30 = .ok (.ireturn, 1) := by decide +kernel
theorem dX11_paysNow_0 : decode cX11_paysNow 0 = .ok (.aload_n 0, 1) := by decide +kernel
theorem dX11_paysNow_1 : decode cX11_paysNow 1 = .ok (.getfield 67, 3) := by decide +kernel
theorem dX11_paysNow_4 : decode cX11_paysNow 4 = .ok (.aload_n 0, 1) := by decide +kernel
theorem dX11_paysNow_5 : decode cX11_paysNow 5 = .ok (.getfield 23, 3) := by decide +kernel
theorem dX11_paysNow_8 : decode cX11_paysNow 8 = .ok (.iload_n 1, 1) := by decide +kernel
theorem dX11_paysNow_9 : decode cX11_paysNow 9 = .ok (.invokevirtual 194, 3) := by decide +kernel
theorem dX11_paysNow_12 : decode cX11_paysNow 12 = .ok (.aload_n 0, 1) := by decide +kernel
theorem dX11_paysNow_13 : decode cX11_paysNow 13 = .ok (.getfield 30, 3) := by decide +kernel
theorem dX11_paysNow_16 : decode cX11_paysNow 16 = .ok (.aload_n 0, 1) := by decide +kernel
theorem dX11_paysNow_17 : decode cX11_paysNow 17 = .ok (.getfield 67, 3) := by decide +kernel
theorem dX11_paysNow_20 : decode cX11_paysNow 20 = .ok (.invokevirtual 198, 3) := by decide +kernel
theorem dX11_paysNow_23 : decode cX11_paysNow 23 = .ok (.aload_n 0, 1) := by decide +kernel
theorem dX11_paysNow_24 : decode cX11_paysNow 24 = .ok (.getfield 67, 3) := by decide +kernel
theorem dX11_paysNow_27 : decode cX11_paysNow 27 = .ok (.getfield 205, 3) := by decide +kernel
theorem dX11_paysNow_30 : decode cX11_paysNow 30 = .ok (.ireturn, 1) := by decide +kernel
theorem dX11_far_0 : decode cX11_far 0 = .ok (.aload_n 0, 1) := by decide +kernel
theorem dX11_far_1 : decode cX11_far 1 = .ok (.getfield 23, 3) := by decide +kernel
theorem dX11_far_4 : decode cX11_far 4 = .ok (.getfield 148, 3) := by decide +kernel
theorem dX11_far_7 : decode cX11_far 7 = .ok (.iload_n 1, 1) := by decide +kernel
theorem dX11_far_8 : decode cX11_far 8 = .ok (.invokevirtual 152, 3) := by decide +kernel
theorem dX11_far_11 : decode cX11_far 11 = .ok (.ifCond .eq 17, 3) := by decide +kernel
theorem dX11_far_14 : decode cX11_far 14 = .ok (.aload_n 0, 1) := by decide +kernel
theorem dX11_far_15 : decode cX11_far 15 = .ok (.getfield 23, 3) := by decide +kernel
theorem dX11_far_18 : decode cX11_far 18 = .ok (.getfield 148, 3) := by decide +kernel
theorem dX11_far_21 : decode cX11_far 21 = .ok (.iload_n 2, 1) := by decide +kernel
theorem dX11_far_22 : decode cX11_far 22 = .ok (.invokevirtual 152, 3) := by decide +kernel
theorem dX11_far_25 : decode cX11_far 25 = .ok (.ifCond .ne 13, 3) := by decide +kernel
theorem dX11_far_28 : decode cX11_far 28 = .ok (.new 158, 3) := by decide +kernel
theorem dX11_far_31 : decode cX11_far 31 = .ok (.dup, 1) := by decide +kernel
theorem dX11_far_32 : decode cX11_far 32 = .ok (.ldc 160, 2) := by decide +kernel
theorem dX11_far_34 : decode cX11_far 34 = .ok (.invokespecial 162, 3) := by decide +kernel
theorem dX11_far_37 : decode cX11_far 37 = .ok (.athrow, 1) := by decide +kernel
theorem dX11_far_38 : decode cX11_far 38 = .ok (.aload_n 0, 1) := by decide +kernel
theorem dX11_far_39 : decode cX11_far 39 = .ok (.getfield 23, 3) := by decide +kernel
theorem dX11_far_42 : decode cX11_far 42 = .ok (.getfield 148, 3) := by decide +kernel
theorem dX11_far_45 : decode cX11_far 45 = .ok (.iload_n 1, 1) := by decide +kernel
theorem dX11_far_46 : decode cX11_far 46 = .ok (.iload_n 2, 1) := by decide +kernel
theorem dX11_far_47 : decode cX11_far 47 = .ok (.invokevirtual 208, 3) := by decide +kernel
theorem dX11_far_50 : decode cX11_far 50 = .ok (.ireturn, 1) := by decide +kernel
theorem dX11_near_0 : decode cX11_near 0 = .ok (.aload_n 0, 1) := by decide +kernel
theorem dX11_near_1 : decode cX11_near 1 = .ok (.getfield 23, 3) := by decide +kernel
theorem dX11_near_4 : decode cX11_near 4 = .ok (.getfield 148, 3) := by decide +kernel
theorem dX11_near_7 : decode cX11_near 7 = .ok (.iload_n 1, 1) := by decide +kernel
theorem dX11_near_8 : decode cX11_near 8 = .ok (.invokevirtual 152, 3) := by decide +kernel
theorem dX11_near_11 : decode cX11_near 11 = .ok (.ifCond .ne 13, 3) := by decide +kernel
theorem dX11_near_14 : decode cX11_near 14 = .ok (.new 158, 3) := by decide +kernel
theorem dX11_near_17 : decode cX11_near 17 = .ok (.dup, 1) := by decide +kernel
theorem dX11_near_18 : decode cX11_near 18 = .ok (.ldc 160, 2) := by decide +kernel
theorem dX11_near_20 : decode cX11_near 20 = .ok (.invokespecial 162, 3) := by decide +kernel
theorem dX11_near_23 : decode cX11_near 23 = .ok (.athrow, 1) := by decide +kernel
theorem dX11_near_24 : decode cX11_near 24 = .ok (.iconst 0, 1) := by decide +kernel
theorem dX11_near_25 : decode cX11_near 25 = .ok (.istore_n 2, 1) := by decide +kernel
theorem dX11_near_26 : decode cX11_near 26 = .ok (.iconst 0, 1) := by decide +kernel
theorem dX11_near_27 : decode cX11_near 27 = .ok (.istore_n 3, 1) := by decide +kernel
theorem dX11_near_28 : decode cX11_near 28 = .ok (.iload_n 3, 1) := by decide +kernel
theorem dX11_near_29 : decode cX11_near 29 = .ok (.aload_n 0, 1) := by decide +kernel
theorem dX11_near_30 : decode cX11_near 30 = .ok (.getfield 23, 3) := by decide +kernel
theorem dX11_near_33 : decode cX11_near 33 = .ok (.getfield 148, 3) := by decide +kernel
theorem dX11_near_36 : decode cX11_near 36 = .ok (.getfield 211, 3) := by decide +kernel
theorem dX11_near_39 : decode cX11_near 39 = .ok (.if_icmp .ge 42, 3) := by decide +kernel
theorem dX11_near_42 : decode cX11_near 42 = .ok (.iload_n 3, 1) := by decide +kernel
theorem dX11_near_43 : decode cX11_near 43 = .ok (.iload_n 1, 1) := by decide +kernel
theorem dX11_near_44 : decode cX11_near 44 = .ok (.if_icmp .eq 31, 3) := by decide +kernel
theorem dX11_near_47 : decode cX11_near 47 = .ok (.aload_n 0, 1) := by decide +kernel
theorem dX11_near_48 : decode cX11_near 48 = .ok (.getfield 23, 3) := by decide +kernel
theorem dX11_near_51 : decode cX11_near 51 = .ok (.getfield 148, 3) := by decide +kernel
theorem dX11_near_54 : decode cX11_near 54 = .ok (.iload_n 1, 1) := by decide +kernel
theorem dX11_near_55 : decode cX11_near 55 = .ok (.iload_n 3, 1) := by decide +kernel
theorem dX11_near_56 : decode cX11_near 56 = .ok (.invokevirtual 208, 3) := by decide +kernel
theorem dX11_near_59 : decode cX11_near 59 = .ok (.aload_n 0, 1) := by decide +kernel
theorem dX11_near_60 : decode cX11_near 60 = .ok (.getfield 23, 3) := by decide +kernel
theorem dX11_near_63 : decode cX11_near 63 = .ok (.getfield 180, 3) := by decide +kernel
theorem dX11_near_66 : decode cX11_near 66 = .ok (.if_icmp .gt 9, 3) := by decide +kernel
theorem dX11_near_69 : decode cX11_near 69 = .ok (.iload_n 2, 1) := by decide +kernel
theorem dX11_near_70 : decode cX11_near 70 = .ok (.iconst 1, 1) := by decide +kernel
theorem dX11_near_71 : decode cX11_near 71 = .ok (.iload_n 3, 1) := by decide +kernel
theorem dX11_near_72 : decode cX11_near 72 = .ok (.ishl, 1) := by decide +kernel
theorem dX11_near_73 : decode cX11_near 73 = .ok (.ior, 1) := by decide +kernel
theorem dX11_near_74 : decode cX11_near 74 = .ok (.istore_n 2, 1) := by decide +kernel
theorem dX11_near_75 : decode cX11_near 75 = .ok (.iinc 3 1, 3) := by decide +kernel
theorem dX11_near_78 : decode cX11_near 78 = .ok (.goto (-50), 3) := by decide +kernel
theorem dX11_near_81 : decode cX11_near 81 = .ok (.iload_n 2, 1) := by decide +kernel
theorem dX11_near_82 : decode cX11_near 82 = .ok (.ireturn, 1) := by decide +kernel
theorem dX11_left_0 : decode cX11_left 0 = .ok (.aload_n 0, 1) := by decide +kernel
theorem dX11_left_1 : decode cX11_left 1 = .ok (.getfield 23, 3) := by decide +kernel
theorem dX11_left_4 : decode cX11_left 4 = .ok (.getfield 148, 3) := by decide +kernel
theorem dX11_left_7 : decode cX11_left 7 = .ok (.invokevirtual 214, 3) := by decide +kernel
theorem dX11_left_10 : decode cX11_left 10 = .ok (.aload_n 0, 1) := by decide +kernel
theorem dX11_left_11 : decode cX11_left 11 = .ok (.getfield 23, 3) := by decide +kernel
theorem dX11_left_14 : decode cX11_left 14 = .ok (.getfield 148, 3) := by decide +kernel
theorem dX11_left_17 : decode cX11_left 17 = .ok (.invokevirtual 217, 3) := by decide +kernel
theorem dX11_left_20 : decode cX11_left 20 = .ok (.iconst (-1), 1) := by decide +kernel
theorem dX11_left_21 : decode cX11_left 21 = .ok (.ixor, 1) := by decide +kernel
theorem dX11_left_22 : decode cX11_left 22 = .ok (.iand, 1) := by decide +kernel
theorem dX11_left_23 : decode cX11_left 23 = .ok (.ireturn, 1) := by decide +kernel
theorem dX11_spoon_0 : decode cX11_spoon 0 = .ok (.aload_n 0, 1) := by decide +kernel
theorem dX11_spoon_1 : decode cX11_spoon 1 = .ok (.getfield 23, 3) := by decide +kernel
theorem dX11_spoon_4 : decode cX11_spoon 4 = .ok (.getfield 148, 3) := by decide +kernel
theorem dX11_spoon_7 : decode cX11_spoon 7 = .ok (.iload_n 1, 1) := by decide +kernel
theorem dX11_spoon_8 : decode cX11_spoon 8 = .ok (.invokevirtual 152, 3) := by decide +kernel
theorem dX11_spoon_11 : decode cX11_spoon 11 = .ok (.ifCond .ne 13, 3) := by decide +kernel
theorem dX11_spoon_14 : decode cX11_spoon 14 = .ok (.new 158, 3) := by decide +kernel
theorem dX11_spoon_17 : decode cX11_spoon 17 = .ok (.dup, 1) := by decide +kernel
theorem dX11_spoon_18 : decode cX11_spoon 18 = .ok (.ldc 160, 2) := by decide +kernel
theorem dX11_spoon_20 : decode cX11_spoon 20 = .ok (.invokespecial 162, 3) := by decide +kernel
theorem dX11_spoon_23 : decode cX11_spoon 23 = .ok (.athrow, 1) := by decide +kernel
theorem dX11_spoon_24 : decode cX11_spoon 24 = .ok (.aload_n 0, 1) := by decide +kernel
theorem dX11_spoon_25 : decode cX11_spoon 25 = .ok (.getfield 23, 3) := by decide +kernel
theorem dX11_spoon_28 : decode cX11_spoon 28 = .ok (.getfield 220, 3) := by decide +kernel
theorem dX11_spoon_31 : decode cX11_spoon 31 = .ok (.bipush 99, 2) := by decide +kernel
theorem dX11_spoon_33 : decode cX11_spoon 33 = .ok (.if_icmp .lt 13, 3) := by decide +kernel
theorem dX11_spoon_36 : decode cX11_spoon 36 = .ok (.new 223, 3) := by decide +kernel
theorem dX11_spoon_39 : decode cX11_spoon 39 = .ok (.dup, 1) := by decide +kernel
theorem dX11_spoon_40 : decode cX11_spoon 40 = .ok (.ldc 225, 2) := by decide +kernel
theorem dX11_spoon_42 : decode cX11_spoon 42 = .ok (.invokespecial 227, 3) := by decide +kernel
theorem dX11_spoon_45 : decode cX11_spoon 45 = .ok (.athrow, 1) := by decide +kernel
theorem dX11_spoon_46 : decode cX11_spoon 46 = .ok (.aload_n 0, 1) := by decide +kernel
theorem dX11_spoon_47 : decode cX11_spoon 47 = .ok (.getfield 44, 3) := by decide +kernel
theorem dX11_spoon_50 : decode cX11_spoon 50 = .ok (.aload_n 0, 1) := by decide +kernel
theorem dX11_spoon_51 : decode cX11_spoon 51 = .ok (.getfield 23, 3) := by decide +kernel
theorem dX11_spoon_54 : decode cX11_spoon 54 = .ok (.aload_n 0, 1) := by decide +kernel
theorem dX11_spoon_55 : decode cX11_spoon 55 = .ok (.getfield 37, 3) := by decide +kernel
theorem dX11_spoon_58 : decode cX11_spoon 58 = .ok (.invokevirtual 228, 3) := by decide +kernel
theorem dX11_spoon_61 : decode cX11_spoon 61 = .ok (.aload_n 0, 1) := by decide +kernel
theorem dX11_spoon_62 : decode cX11_spoon 62 = .ok (.getfield 23, 3) := by decide +kernel
theorem dX11_spoon_65 : decode cX11_spoon 65 = .ok (.iload_n 1, 1) := by decide +kernel
theorem dX11_spoon_66 : decode cX11_spoon 66 = .ok (.aload_n 0, 1) := by decide +kernel
theorem dX11_spoon_67 : decode cX11_spoon 67 = .ok (.getfield 30, 3) := by decide +kernel
theorem dX11_spoon_70 : decode cX11_spoon 70 = .ok (.aload_n 0, 1) := by decide +kernel
theorem dX11_spoon_71 : decode cX11_spoon 71 = .ok (.getfield 67, 3) := by decide +kernel
theorem dX11_spoon_74 : decode cX11_spoon 74 = .ok (.invokevirtual 232, 3) := by decide +kernel
theorem dX11_spoon_77 : decode cX11_spoon 77 = .ok (.aload_n 0, 1) := by decide +kernel
theorem dX11_spoon_78 : decode cX11_spoon 78 = .ok (.getfield 37, 3) := by decide +kernel
theorem dX11_spoon_81 : decode cX11_spoon 81 = .ok (.aload_n 0, 1) := by decide +kernel
theorem dX11_spoon_82 : decode cX11_spoon 82 = .ok (.getfield 23, 3) := by decide +kernel
theorem dX11_spoon_85 : decode cX11_spoon 85 = .ok (.getfield 236, 3) := by decide +kernel
theorem dX11_spoon_88 : decode cX11_spoon 88 = .ok (.iload_n 1, 1) := by decide +kernel
theorem dX11_spoon_89 : decode cX11_spoon 89 = .ok (.aload_n 0, 1) := by decide +kernel
theorem dX11_spoon_90 : decode cX11_spoon 90 = .ok (.getfield 67, 3) := by decide +kernel
theorem dX11_spoon_93 : decode cX11_spoon 93 = .ok (.getfield 239, 3) := by decide +kernel
theorem dX11_spoon_96 : decode cX11_spoon 96 = .ok (.aload_n 0, 1) := by decide +kernel
theorem dX11_spoon_97 : decode cX11_spoon 97 = .ok (.getfield 23, 3) := by decide +kernel
theorem dX11_spoon_100 : decode cX11_spoon 100 = .ok (.getfield 242, 3) := by decide +kernel
theorem dX11_spoon_103 : decode cX11_spoon 103 = .ok (.invokevirtual 245, 3) := by decide +kernel
theorem dX11_spoon_106 : decode cX11_spoon 106 = .ok (.aload_n 0, 1) := by decide +kernel
theorem dX11_spoon_107 : decode cX11_spoon 107 = .ok (.getfield 23, 3) := by decide +kernel
theorem dX11_spoon_110 : decode cX11_spoon 110 = .ok (.getfield 242, 3) := by decide +kernel
theorem dX11_spoon_113 : decode cX11_spoon 113 = .ok (.ireturn, 1) := by decide +kernel
theorem dX11_crust_0 : decode cX11_crust 0 = .ok (.aload_n 0, 1) := by decide +kernel
theorem dX11_crust_1 : decode cX11_crust 1 = .ok (.getfield 44, 3) := by decide +kernel
theorem dX11_crust_4 : decode cX11_crust 4 = .ok (.aload_n 0, 1) := by decide +kernel
theorem dX11_crust_5 : decode cX11_crust 5 = .ok (.getfield 23, 3) := by decide +kernel
theorem dX11_crust_8 : decode cX11_crust 8 = .ok (.aload_n 0, 1) := by decide +kernel
theorem dX11_crust_9 : decode cX11_crust 9 = .ok (.getfield 37, 3) := by decide +kernel
theorem dX11_crust_12 : decode cX11_crust 12 = .ok (.invokevirtual 228, 3) := by decide +kernel
theorem dX11_crust_15 : decode cX11_crust 15 = .ok (.aload_n 0, 1) := by decide +kernel
theorem dX11_crust_16 : decode cX11_crust 16 = .ok (.getfield 23, 3) := by decide +kernel
theorem dX11_crust_19 : decode cX11_crust 19 = .ok (.invokevirtual 249, 3) := by decide +kernel
theorem dX11_crust_22 : decode cX11_crust 22 = .ok (.aload_n 0, 1) := by decide +kernel
theorem dX11_crust_23 : decode cX11_crust 23 = .ok (.getfield 23, 3) := by decide +kernel
theorem dX11_crust_26 : decode cX11_crust 26 = .ok (.getfield 252, 3) := by decide +kernel
theorem dX11_crust_29 : decode cX11_crust 29 = .ok (.ireturn, 1) := by decide +kernel
theorem dX11_had_0 : decode cX11_had 0 = .ok (.aload_n 0, 1) := by decide +kernel
theorem dX11_had_1 : decode cX11_had 1 = .ok (.getfield 23, 3) := by decide +kernel
theorem dX11_had_4 : decode cX11_had 4 = .ok (.getfield 148, 3) := by decide +kernel
theorem dX11_had_7 : decode cX11_had 7 = .ok (.iload_n 1, 1) := by decide +kernel
theorem dX11_had_8 : decode cX11_had 8 = .ok (.invokevirtual 152, 3) := by decide +kernel
theorem dX11_had_11 : decode cX11_had 11 = .ok (.ifCond .eq 10, 3) := by decide +kernel
theorem dX11_had_14 : decode cX11_had 14 = .ok (.iload_n 3, 1) := by decide +kernel
theorem dX11_had_15 : decode cX11_had 15 = .ok (.invokestatic 255, 3) := by decide +kernel
theorem dX11_had_18 : decode cX11_had 18 = .ok (.ifCond .ne 14, 3) := by decide +kernel
theorem dX11_had_21 : decode cX11_had 21 = .ok (.new 158, 3) := by decide +kernel
theorem dX11_had_24 : decode cX11_had 24 = .ok (.dup, 1) := by decide +kernel
theorem dX11_had_25 : decode cX11_had 25 = .ok (.ldc_w 258, 3) := by decide +kernel
theorem dX11_had_28 : decode cX11_had 28 = .ok (.invokespecial 162, 3) := by decide +kernel
theorem dX11_had_31 : decode cX11_had 31 = .ok (.athrow, 1) := by decide +kernel
theorem dX11_had_32 : decode cX11_had 32 = .ok (.iload_n 2, 1) := by decide +kernel
theorem dX11_had_33 : decode cX11_had 33 = .ok (.ifCond .lt 23, 3) := by decide +kernel
theorem dX11_had_36 : decode cX11_had 36 = .ok (.iload_n 2, 1) := by decide +kernel
theorem dX11_had_37 : decode cX11_had 37 = .ok (.sipush 9999, 3) := by decide +kernel
theorem dX11_had_40 : decode cX11_had 40 = .ok (.if_icmp .gt 16, 3) := by decide +kernel
theorem dX11_had_43 : decode cX11_had 43 = .ok (.iload 4, 2) := by decide +kernel
theorem dX11_had_45 : decode cX11_had 45 = .ok (.iconst (-1), 1) := by decide +kernel
theorem dX11_had_46 : decode cX11_had 46 = .ok (.if_icmp .lt 10, 3) := by decide +kernel
theorem dX11_had_49 : decode cX11_had 49 = .ok (.iload 4, 2) := by decide +kernel
theorem dX11_had_51 : decode cX11_had 51 = .ok (.bipush 7, 2) := by decide +kernel
theorem dX11_had_53 : decode cX11_had 53 = .ok (.if_icmp .le 14, 3) := by decide +kernel
theorem dX11_had_56 : decode cX11_had 56 = .ok (.new 118, 3) := by decide +kernel
theorem dX11_had_59 : decode cX11_had 59 = .ok (.dup, 1) := by decide +kernel
theorem dX11_had_60 : decode cX11_had 60 = .ok (.ldc_w 260, 3) := by decide +kernel
theorem dX11_had_63 : decode cX11_had 63 = .ok (.invokespecial 122, 3) := by decide +kernel
theorem dX11_had_66 : decode cX11_had 66 = .ok (.athrow, 1) := by decide +kernel
theorem dX11_had_67 : decode cX11_had 67 = .ok (.aload_n 0, 1) := by decide +kernel
theorem dX11_had_68 : decode cX11_had 68 = .ok (.getfield 44, 3) := by decide +kernel
theorem dX11_had_71 : decode cX11_had 71 = .ok (.aload_n 0, 1) := by decide +kernel
theorem dX11_had_72 : decode cX11_had 72 = .ok (.getfield 23, 3) := by decide +kernel
theorem dX11_had_75 : decode cX11_had 75 = .ok (.aload_n 0, 1) := by decide +kernel
theorem dX11_had_76 : decode cX11_had 76 = .ok (.getfield 37, 3) := by decide +kernel
theorem dX11_had_79 : decode cX11_had 79 = .ok (.invokevirtual 228, 3) := by decide +kernel
theorem dX11_had_82 : decode cX11_had 82 = .ok (.aload_n 0, 1) := by decide +kernel
theorem dX11_had_83 : decode cX11_had 83 = .ok (.getfield 23, 3) := by decide +kernel
theorem dX11_had_86 : decode cX11_had 86 = .ok (.getfield 148, 3) := by decide +kernel
theorem dX11_had_89 : decode cX11_had 89 = .ok (.getfield 171, 3) := by decide +kernel
theorem dX11_had_92 : decode cX11_had 92 = .ok (.iload_n 1, 1) := by decide +kernel
theorem dX11_had_93 : decode cX11_had 93 = .ok (.iaload, 1) := by decide +kernel
theorem dX11_had_94 : decode cX11_had 94 = .ok (.istore 5, 2) := by decide +kernel
theorem dX11_had_96 : decode cX11_had 96 = .ok (.aload_n 0, 1) := by decide +kernel
theorem dX11_had_97 : decode cX11_had 97 = .ok (.getfield 23, 3) := by decide +kernel
theorem dX11_had_100 : decode cX11_had 100 = .ok (.getfield 148, 3) := by decide +kernel
theorem dX11_had_103 : decode cX11_had 103 = .ok (.iload_n 1, 1) := by decide +kernel
theorem dX11_had_104 : decode cX11_had 104 = .ok (.iload_n 2, 1) := by decide +kernel
theorem dX11_had_105 : decode cX11_had 105 = .ok (.iload_n 3, 1) := by decide +kernel
theorem dX11_had_106 : decode cX11_had 106 = .ok (.iload 4, 2) := by decide +kernel
theorem dX11_had_108 : decode cX11_had 108 = .ok (.invokevirtual 262, 3) := by decide +kernel
theorem dX11_had_111 : decode cX11_had 111 = .ok (.iload 5, 2) := by decide +kernel
theorem dX11_had_113 : decode cX11_had 113 = .ok (.ireturn, 1) := by decide +kernel
theorem dX11_forget_0 : decode cX11_forget 0 = .ok (.aload_n 0, 1) := by decide +kernel
theorem dX11_forget_1 : decode cX11_forget 1 = .ok (.getfield 23, 3) := by decide +kernel
theorem dX11_forget_4 : decode cX11_forget 4 = .ok (.getfield 148, 3) := by decide +kernel
theorem dX11_forget_7 : decode cX11_forget 7 = .ok (.iload_n 1, 1) := by decide +kernel
theorem dX11_forget_8 : decode cX11_forget 8 = .ok (.invokevirtual 152, 3) := by decide +kernel
theorem dX11_forget_11 : decode cX11_forget 11 = .ok (.ifCond .ne 13, 3) := by decide +kernel
theorem dX11_forget_14 : decode cX11_forget 14 = .ok (.new 158, 3) := by decide +kernel
theorem dX11_forget_17 : decode cX11_forget 17 = .ok (.dup, 1) := by decide +kernel
theorem dX11_forget_18 : decode cX11_forget 18 = .ok (.ldc 160, 2) := by decide +kernel
theorem dX11_forget_20 : decode cX11_forget 20 = .ok (.invokespecial 162, 3) := by decide +kernel
theorem dX11_forget_23 : decode cX11_forget 23 = .ok (.athrow, 1) := by decide +kernel
theorem dX11_forget_24 : decode cX11_forget 24 = .ok (.aload_n 0, 1) := by decide +kernel
theorem dX11_forget_25 : decode cX11_forget 25 = .ok (.getfield 23, 3) := by decide +kernel
theorem dX11_forget_28 : decode cX11_forget 28 = .ok (.getfield 148, 3) := by decide +kernel
theorem dX11_forget_31 : decode cX11_forget 31 = .ok (.iload_n 1, 1) := by decide +kernel
theorem dX11_forget_32 : decode cX11_forget 32 = .ok (.invokevirtual 265, 3) := by decide +kernel
theorem dX11_forget_35 : decode cX11_forget 35 = .ok (.ifCond .ne 14, 3) := by decide +kernel
theorem dX11_forget_38 : decode cX11_forget 38 = .ok (.new 223, 3) := by decide +kernel
theorem dX11_forget_41 : decode cX11_forget 41 = .ok (.dup, 1) := by decide +kernel
theorem dX11_forget_42 : decode cX11_forget 42 = .ok (.ldc_w 268, 3) := by decide +kernel
theorem dX11_forget_45 : decode cX11_forget 45 = .ok (.invokespecial 227, 3) := by decide +kernel
theorem dX11_forget_48 : decode cX11_forget 48 = .ok (.athrow, 1) := by decide +kernel
theorem dX11_forget_49 : decode cX11_forget 49 = .ok (.aload_n 0, 1) := by decide +kernel
theorem dX11_forget_50 : decode cX11_forget 50 = .ok (.getfield 44, 3) := by decide +kernel
theorem dX11_forget_53 : decode cX11_forget 53 = .ok (.aload_n 0, 1) := by decide +kernel
theorem dX11_forget_54 : decode cX11_forget 54 = .ok (.getfield 23, 3) := by decide +kernel
theorem dX11_forget_57 : decode cX11_forget 57 = .ok (.aload_n 0, 1) := by decide +kernel
theorem dX11_forget_58 : decode cX11_forget 58 = .ok (.getfield 37, 3) := by decide +kernel
theorem dX11_forget_61 : decode cX11_forget 61 = .ok (.invokevirtual 228, 3) := by decide +kernel
theorem dX11_forget_64 : decode cX11_forget 64 = .ok (.aload_n 0, 1) := by decide +kernel
theorem dX11_forget_65 : decode cX11_forget 65 = .ok (.getfield 23, 3) := by decide +kernel
theorem dX11_forget_68 : decode cX11_forget 68 = .ok (.getfield 148, 3) := by decide +kernel
theorem dX11_forget_71 : decode cX11_forget 71 = .ok (.getfield 171, 3) := by decide +kernel
theorem dX11_forget_74 : decode cX11_forget 74 = .ok (.iload_n 1, 1) := by decide +kernel
theorem dX11_forget_75 : decode cX11_forget 75 = .ok (.iaload, 1) := by decide +kernel
theorem dX11_forget_76 : decode cX11_forget 76 = .ok (.istore_n 2, 1) := by decide +kernel
theorem dX11_forget_77 : decode cX11_forget 77 = .ok (.aload_n 0, 1) := by decide +kernel
theorem dX11_forget_78 : decode cX11_forget 78 = .ok (.getfield 23, 3) := by decide +kernel
theorem dX11_forget_81 : decode cX11_forget 81 = .ok (.getfield 148, 3) := by decide +kernel
theorem dX11_forget_84 : decode cX11_forget 84 = .ok (.iload_n 1, 1) := by decide +kernel
theorem dX11_forget_85 : decode cX11_forget 85 = .ok (.iconst (-1), 1) := by decide +kernel
theorem dX11_forget_86 : decode cX11_forget 86 = .ok (.iconst (-1), 1) := by decide +kernel
theorem dX11_forget_87 : decode cX11_forget 87 = .ok (.iconst (-1), 1) := by decide +kernel
theorem dX11_forget_88 : decode cX11_forget 88 = .ok (.invokevirtual 262, 3) := by decide +kernel
theorem dX11_forget_91 : decode cX11_forget 91 = .ok (.iload_n 2, 1) := by decide +kernel
theorem dX11_forget_92 : decode cX11_forget 92 = .ok (.ireturn, 1) := by decide +kernel
theorem dX11_reach_0 : decode cX11_reach 0 = .ok (.iload_n 1, 1) := by decide +kernel
theorem dX11_reach_1 : decode cX11_reach 1 = .ok (.ifCond .lt 9, 3) := by decide +kernel
theorem dX11_reach_4 : decode cX11_reach 4 = .ok (.iload_n 1, 1) := by decide +kernel
theorem dX11_reach_5 : decode cX11_reach 5 = .ok (.bipush 45, 2) := by decide +kernel
theorem dX11_reach_7 : decode cX11_reach 7 = .ok (.if_icmp .le 14, 3) := by decide +kernel
theorem dX11_reach_10 : decode cX11_reach 10 = .ok (.new 118, 3) := by decide +kernel
theorem dX11_reach_13 : decode cX11_reach 13 = .ok (.dup, 1) := by decide +kernel
theorem dX11_reach_14 : decode cX11_reach 14 = .ok (.ldc_w 270, 3) := by decide +kernel
theorem dX11_reach_17 : decode cX11_reach 17 = .ok (.invokespecial 122, 3) := by decide +kernel
theorem dX11_reach_20 : decode cX11_reach 20 = .ok (.athrow, 1) := by decide +kernel
theorem dX11_reach_21 : decode cX11_reach 21 = .ok (.aload_n 0, 1) := by decide +kernel
theorem dX11_reach_22 : decode cX11_reach 22 = .ok (.getfield 44, 3) := by decide +kernel
theorem dX11_reach_25 : decode cX11_reach 25 = .ok (.aload_n 0, 1) := by decide +kernel
theorem dX11_reach_26 : decode cX11_reach 26 = .ok (.getfield 23, 3) := by decide +kernel
theorem dX11_reach_29 : decode cX11_reach 29 = .ok (.aload_n 0, 1) := by decide +kernel
theorem dX11_reach_30 : decode cX11_reach 30 = .ok (.getfield 37, 3) := by decide +kernel
theorem dX11_reach_33 : decode cX11_reach 33 = .ok (.invokevirtual 228, 3) := by decide +kernel
theorem dX11_reach_36 : decode cX11_reach 36 = .ok (.aload_n 0, 1) := by decide +kernel
theorem dX11_reach_37 : decode cX11_reach 37 = .ok (.getfield 23, 3) := by decide +kernel
theorem dX11_reach_40 : decode cX11_reach 40 = .ok (.getfield 180, 3) := by decide +kernel
theorem dX11_reach_43 : decode cX11_reach 43 = .ok (.istore_n 2, 1) := by decide +kernel
theorem dX11_reach_44 : decode cX11_reach 44 = .ok (.aload_n 0, 1) := by decide +kernel
theorem dX11_reach_45 : decode cX11_reach 45 = .ok (.getfield 23, 3) := by decide +kernel
theorem dX11_reach_48 : decode cX11_reach 48 = .ok (.iload_n 1, 1) := by decide +kernel
theorem dX11_reach_49 : decode cX11_reach 49 = .ok (.putfield 180, 3) := by decide +kernel
theorem dX11_reach_52 : decode cX11_reach 52 = .ok (.iload_n 2, 1) := by decide +kernel
theorem dX11_reach_53 : decode cX11_reach 53 = .ok (.ireturn, 1) := by decide +kernel
theorem dX11_house_0 : decode cX11_house 0 = .ok (.iload_n 1, 1) := by decide +kernel
theorem dX11_house_1 : decode cX11_house 1 = .ok (.invokestatic 255, 3) := by decide +kernel
theorem dX11_house_4 : decode cX11_house 4 = .ok (.ifCond .ne 14, 3) := by decide +kernel
theorem dX11_house_7 : decode cX11_house 7 = .ok (.new 158, 3) := by decide +kernel
theorem dX11_house_10 : decode cX11_house 10 = .ok (.dup, 1) := by decide +kernel
theorem dX11_house_11 : decode cX11_house 11 = .ok (.ldc_w 272, 3) := by decide +kernel
theorem dX11_house_14 : decode cX11_house 14 = .ok (.invokespecial 162, 3) := by decide +kernel
theorem dX11_house_17 : decode cX11_house 17 = .ok (.athrow, 1) := by decide +kernel
theorem dX11_house_18 : decode cX11_house 18 = .ok (.aload_n 0, 1) := by decide +kernel
theorem dX11_house_19 : decode cX11_house 19 = .ok (.getfield 44, 3) := by decide +kernel
theorem dX11_house_22 : decode cX11_house 22 = .ok (.aload_n 0, 1) := by decide +kernel
theorem dX11_house_23 : decode cX11_house 23 = .ok (.getfield 23, 3) := by decide +kernel
theorem dX11_house_26 : decode cX11_house 26 = .ok (.aload_n 0, 1) := by decide +kernel
theorem dX11_house_27 : decode cX11_house 27 = .ok (.getfield 37, 3) := by decide +kernel
theorem dX11_house_30 : decode cX11_house 30 = .ok (.invokevirtual 228, 3) := by decide +kernel
theorem dX11_house_33 : decode cX11_house 33 = .ok (.aload_n 0, 1) := by decide +kernel
theorem dX11_house_34 : decode cX11_house 34 = .ok (.getfield 23, 3) := by decide +kernel
theorem dX11_house_37 : decode cX11_house 37 = .ok (.getfield 274, 3) := by decide +kernel
theorem dX11_house_40 : decode cX11_house 40 = .ok (.istore_n 2, 1) := by decide +kernel
theorem dX11_house_41 : decode cX11_house 41 = .ok (.aload_n 0, 1) := by decide +kernel
theorem dX11_house_42 : decode cX11_house 42 = .ok (.getfield 23, 3) := by decide +kernel
theorem dX11_house_45 : decode cX11_house 45 = .ok (.iload_n 1, 1) := by decide +kernel
theorem dX11_house_46 : decode cX11_house 46 = .ok (.putfield 274, 3) := by decide +kernel
theorem dX11_house_49 : decode cX11_house 49 = .ok (.iload_n 2, 1) := by decide +kernel
theorem dX11_house_50 : decode cX11_house 50 = .ok (.ireturn, 1) := by decide +kernel
theorem dX11_isPlace_0 : decode cX11_isPlace 0 = .ok (.iload_n 0, 1) := by decide +kernel
theorem dX11_isPlace_1 : decode cX11_isPlace 1 = .ok (.ifCond .lt 13, 3) := by decide +kernel
theorem dX11_isPlace_4 : decode cX11_isPlace 4 = .ok (.iload_n 0, 1) := by decide +kernel
theorem dX11_isPlace_5 : decode cX11_isPlace 5 = .ok (.bipush 7, 2) := by decide +kernel
theorem dX11_isPlace_7 : decode cX11_isPlace 7 = .ok (.if_icmp .gt 7, 3) := by decide +kernel
theorem dX11_isPlace_10 : decode cX11_isPlace 10 = .ok (.iconst 1, 1) := by decide +kernel
theorem dX11_isPlace_11 : decode cX11_isPlace 11 = .ok (.goto 4, 3) := by decide +kernel
theorem dX11_isPlace_14 : decode cX11_isPlace 14 = .ok (.iconst 0, 1) := by decide +kernel
theorem dX11_isPlace_15 : decode cX11_isPlace 15 = .ok (.ireturn, 1) := by decide +kernel
theorem dX11_look_0 : decode cX11_look 0 = .ok (.aload_n 0, 1) := by decide +kernel
theorem dX11_look_1 : decode cX11_look 1 = .ok (.getfield 44, 3) := by decide +kernel
theorem dX11_look_4 : decode cX11_look 4 = .ok (.aload_n 0, 1) := by decide +kernel
theorem dX11_look_5 : decode cX11_look 5 = .ok (.getfield 23, 3) := by decide +kernel
theorem dX11_look_8 : decode cX11_look 8 = .ok (.aload_n 0, 1) := by decide +kernel
theorem dX11_look_9 : decode cX11_look 9 = .ok (.getfield 37, 3) := by decide +kernel
theorem dX11_look_12 : decode cX11_look 12 = .ok (.invokevirtual 228, 3) := by decide +kernel
theorem dX11_look_15 : decode cX11_look 15 = .ok (.aload_n 0, 1) := by decide +kernel
theorem dX11_look_16 : decode cX11_look 16 = .ok (.getfield 23, 3) := by decide +kernel
theorem dX11_look_19 : decode cX11_look 19 = .ok (.invokevirtual 277, 3) := by decide +kernel
theorem dX11_look_22 : decode cX11_look 22 = .ok (.bipush 100, 2) := by decide +kernel
theorem dX11_look_24 : decode cX11_look 24 = .ok (.irem, 1) := by decide +kernel
theorem dX11_look_25 : decode cX11_look 25 = .ok (.aload_n 0, 1) := by decide +kernel
theorem dX11_look_26 : decode cX11_look 26 = .ok (.getfield 23, 3) := by decide +kernel
theorem dX11_look_29 : decode cX11_look 29 = .ok (.getfield 280, 3) := by decide +kernel
theorem dX11_look_32 : decode cX11_look 32 = .ok (.if_icmp .ge 7, 3) := by decide +kernel
theorem dX11_look_35 : decode cX11_look 35 = .ok (.iconst 1, 1) := by decide +kernel
theorem dX11_look_36 : decode cX11_look 36 = .ok (.goto 4, 3) := by decide +kernel
theorem dX11_look_39 : decode cX11_look 39 = .ok (.iconst 0, 1) := by decide +kernel
theorem dX11_look_40 : decode cX11_look 40 = .ok (.istore_n 1, 1) := by decide +kernel
theorem dX11_look_41 : decode cX11_look 41 = .ok (.aload_n 0, 1) := by decide +kernel
theorem dX11_look_42 : decode cX11_look 42 = .ok (.getfield 23, 3) := by decide +kernel
theorem dX11_look_45 : decode cX11_look 45 = .ok (.getfield 242, 3) := by decide +kernel
theorem dX11_look_48 : decode cX11_look 48 = .ok (.bipush 10, 2) := by decide +kernel
theorem dX11_look_50 : decode cX11_look 50 = .ok (.idiv, 1) := by decide +kernel
theorem dX11_look_51 : decode cX11_look 51 = .ok (.iload_n 1, 1) := by decide +kernel
theorem dX11_look_52 : decode cX11_look 52 = .ok (.iadd, 1) := by decide +kernel
theorem dX11_look_53 : decode cX11_look 53 = .ok (.ireturn, 1) := by decide +kernel
theorem dX11_evenings_0 : decode cX11_evenings 0 = .ok (.iload_n 1, 1) := by decide +kernel
theorem dX11_evenings_1 : decode cX11_evenings 1 = .ok (.iconst 1, 1) := by decide +kernel
theorem dX11_evenings_2 : decode cX11_evenings 2 = .ok (.if_icmp .lt 9, 3) := by decide +kernel
theorem dX11_evenings_5 : decode cX11_evenings 5 = .ok (.iload_n 1, 1) := by decide +kernel
theorem dX11_evenings_6 : decode cX11_evenings 6 = .ok (.bipush 60, 2) := by decide +kernel
theorem dX11_evenings_8 : decode cX11_evenings 8 = .ok (.if_icmp .le 14, 3) := by decide +kernel
theorem dX11_evenings_11 : decode cX11_evenings 11 = .ok (.new 118, 3) := by decide +kernel
theorem dX11_evenings_14 : decode cX11_evenings 14 = .ok (.dup, 1) := by decide +kernel
theorem dX11_evenings_15 : decode cX11_evenings 15 = .ok (.ldc_w 283, 3) := by decide +kernel
theorem dX11_evenings_18 : decode cX11_evenings 18 = .ok (.invokespecial 122, 3) := by decide +kernel
theorem dX11_evenings_21 : decode cX11_evenings 21 = .ok (.athrow, 1) := by decide +kernel
theorem dX11_evenings_22 : decode cX11_evenings 22 = .ok (.aload_n 0, 1) := by decide +kernel
theorem dX11_evenings_23 : decode cX11_evenings 23 = .ok (.getfield 44, 3) := by decide +kernel
theorem dX11_evenings_26 : decode cX11_evenings 26 = .ok (.aload_n 0, 1) := by decide +kernel
theorem dX11_evenings_27 : decode cX11_evenings 27 = .ok (.getfield 23, 3) := by decide +kernel
theorem dX11_evenings_30 : decode cX11_evenings 30 = .ok (.aload_n 0, 1) := by decide +kernel
theorem dX11_evenings_31 : decode cX11_evenings 31 = .ok (.getfield 37, 3) := by decide +kernel
theorem dX11_evenings_34 : decode cX11_evenings 34 = .ok (.invokevirtual 228, 3) := by decide +kernel
theorem dX11_evenings_37 : decode cX11_evenings 37 = .ok (.iconst 0, 1) := by decide +kernel
theorem dX11_evenings_38 : decode cX11_evenings 38 = .ok (.istore_n 2, 1) := by decide +kernel
theorem dX11_evenings_39 : decode cX11_evenings 39 = .ok (.iconst 0, 1) := by decide +kernel
theorem dX11_evenings_40 : decode cX11_evenings 40 = .ok (.istore_n 3, 1) := by decide +kernel
theorem dX11_evenings_41 : decode cX11_evenings 41 = .ok (.iload_n 3, 1) := by decide +kernel
theorem dX11_evenings_42 : decode cX11_evenings 42 = .ok (.iload_n 1, 1) := by decide +kernel
theorem dX11_evenings_43 : decode cX11_evenings 43 = .ok (.if_icmp .ge 21, 3) := by decide +kernel
theorem dX11_evenings_46 : decode cX11_evenings 46 = .ok (.iload_n 2, 1) := by decide +kernel
theorem dX11_evenings_47 : decode cX11_evenings 47 = .ok (.aload_n 0, 1) := by decide +kernel
theorem dX11_evenings_48 : decode cX11_evenings 48 = .ok (.aload_n 0, 1) := by decide +kernel
theorem dX11_evenings_49 : decode cX11_evenings 49 = .ok (.getfield 23, 3) := by decide +kernel
theorem dX11_evenings_52 : decode cX11_evenings 52 = .ok (.iconst 1, 1) := by decide +kernel
theorem dX11_evenings_53 : decode cX11_evenings 53 = .ok (.invokevirtual 285, 3) := by decide +kernel
theorem dX11_evenings_56 : decode cX11_evenings 56 = .ok (.iadd, 1) := by decide +kernel
theorem dX11_evenings_57 : decode cX11_evenings 57 = .ok (.istore_n 2, 1) := by decide +kernel
theorem dX11_evenings_58 : decode cX11_evenings 58 = .ok (.iinc 3 1, 3) := by decide +kernel
theorem dX11_evenings_61 : decode cX11_evenings 61 = .ok (.goto (-20), 3) := by decide +kernel
theorem dX11_evenings_64 : decode cX11_evenings 64 = .ok (.iload_n 2, 1) := by decide +kernel
theorem dX11_evenings_65 : decode cX11_evenings 65 = .ok (.ireturn, 1) := by decide +kernel
theorem dX11_passEvening_0 : decode cX11_passEvening 0 = .ok (.iconst 0, 1) := by decide +kernel
theorem dX11_passEvening_1 : decode cX11_passEvening 1 = .ok (.istore_n 3, 1) := by decide +kernel
theorem dX11_passEvening_2 : decode cX11_passEvening 2 = .ok (.aload_n 1, 1) := by decide +kernel
theorem dX11_passEvening_3 : decode cX11_passEvening 3 = .ok (.invokevirtual 289, 3) := by decide +kernel
theorem dX11_passEvening_6 : decode cX11_passEvening 6 = .ok (.istore 4, 2) := by decide +kernel
theorem dX11_passEvening_8 : decode cX11_passEvening 8 = .ok (.iconst 0, 1) := by decide +kernel
theorem dX11_passEvening_9 : decode cX11_passEvening 9 = .ok (.istore 5, 2) := by decide +kernel
theorem dX11_passEvening_11 : decode cX11_passEvening 11 = .ok (.iload 5, 2) := by decide +kernel
theorem dX11_passEvening_13 : decode cX11_passEvening 13 = .ok (.iload 4, 2) := by decide +kernel
theorem dX11_passEvening_15 : decode cX11_passEvening 15 = .ok (.if_icmp .ge 69, 3) := by decide +kernel
theorem dX11_passEvening_18 : decode cX11_passEvening 18 = .ok (.aload_n 1, 1) := by decide +kernel
theorem dX11_passEvening_19 : decode cX11_passEvening 19 = .ok (.invokevirtual 292, 3) := by decide +kernel
theorem dX11_passEvening_22 : decode cX11_passEvening 22 = .ok (.istore 6, 2) := by decide +kernel
theorem dX11_passEvening_24 : decode cX11_passEvening 24 = .ok (.aload_n 1, 1) := by decide +kernel
theorem dX11_passEvening_25 : decode cX11_passEvening 25 = .ok (.iload 6, 2) := by decide +kernel
theorem dX11_passEvening_27 : decode cX11_passEvening 27 = .ok (.invokevirtual 295, 3) := by decide +kernel
theorem dX11_passEvening_30 : decode cX11_passEvening 30 = .ok (.ifCond .eq 48, 3) := by decide +kernel
theorem dX11_passEvening_33 : decode cX11_passEvening 33 = .ok (.aload_n 1, 1) := by decide +kernel
theorem dX11_passEvening_34 : decode cX11_passEvening 34 = .ok (.iload 6, 2) := by decide +kernel
theorem dX11_passEvening_36 : decode cX11_passEvening 36 = .ok (.aload_n 0, 1) := by decide +kernel
theorem dX11_passEvening_37 : decode cX11_passEvening 37 = .ok (.getfield 30, 3) := by decide +kernel
theorem dX11_passEvening_40 : decode cX11_passEvening 40 = .ok (.aload_n 0, 1) := by decide +kernel
theorem dX11_passEvening_41 : decode cX11_passEvening 41 = .ok (.getfield 67, 3) := by decide +kernel
theorem dX11_passEvening_44 : decode cX11_passEvening 44 = .ok (.invokevirtual 232, 3) := by decide +kernel
theorem dX11_passEvening_47 : decode cX11_passEvening 47 = .ok (.iinc 3 1, 3) := by decide +kernel
theorem dX11_passEvening_50 : decode cX11_passEvening 50 = .ok (.iload_n 2, 1) := by decide +kernel
theorem dX11_passEvening_51 : decode cX11_passEvening 51 = .ok (.ifCond .eq 27, 3) := by decide +kernel
theorem dX11_passEvening_54 : decode cX11_passEvening 54 = .ok (.aload_n 0, 1) := by decide +kernel
theorem dX11_passEvening_55 : decode cX11_passEvening 55 = .ok (.getfield 37, 3) := by decide +kernel
theorem dX11_passEvening_58 : decode cX11_passEvening 58 = .ok (.aload_n 1, 1) := by decide +kernel
theorem dX11_passEvening_59 : decode cX11_passEvening 59 = .ok (.getfield 236, 3) := by decide +kernel
theorem dX11_passEvening_62 : decode cX11_passEvening 62 = .ok (.iload 6, 2) := by decide +kernel
theorem dX11_passEvening_64 : decode cX11_passEvening 64 = .ok (.aload_n 0, 1) := by decide +kernel
theorem dX11_passEvening_65 : decode cX11_passEvening 65 = .ok (.getfield 67, 3) := by decide +kernel
theorem dX11_passEvening_68 : decode cX11_passEvening 68 = .ok (.getfield 239, 3) := by decide +kernel
theorem dX11_passEvening_71 : decode cX11_passEvening 71 = .ok (.aload_n 1, 1) := by decide +kernel
theorem dX11_passEvening_72 : decode cX11_passEvening 72 = .ok (.getfield 242, 3) := by decide +kernel
theorem dX11_passEvening_75 : decode cX11_passEvening 75 = .ok (.invokevirtual 245, 3) := by decide +kernel
theorem dX11_passEvening_78 : decode cX11_passEvening 78 = .ok (.iinc 5 1, 3) := by decide +kernel
theorem dX11_passEvening_81 : decode cX11_passEvening 81 = .ok (.goto (-70), 3) := by decide +kernel
theorem dX11_passEvening_84 : decode cX11_passEvening 84 = .ok (.aload_n 1, 1) := by decide +kernel
theorem dX11_passEvening_85 : decode cX11_passEvening 85 = .ok (.invokevirtual 249, 3) := by decide +kernel
theorem dX11_passEvening_88 : decode cX11_passEvening 88 = .ok (.iload_n 3, 1) := by decide +kernel
theorem dX11_passEvening_89 : decode cX11_passEvening 89 = .ok (.ireturn, 1) := by decide +kernel
theorem dX11_menu_0 : decode cX11_menu 0 = .ok (.aload_n 0, 1) := by decide +kernel
theorem dX11_menu_1 : decode cX11_menu 1 = .ok (.invokevirtual 110, 3) := by decide +kernel
theorem dX11_menu_4 : decode cX11_menu 4 = .ok (.istore_n 2, 1) := by decide +kernel
theorem dX11_menu_5 : decode cX11_menu 5 = .ok (.iload_n 2, 1) := by decide +kernel
theorem dX11_menu_6 : decode cX11_menu 6 = .ok (.bipush 40, 2) := by decide +kernel
theorem dX11_menu_8 : decode cX11_menu 8 = .ok (.if_icmp .gt 23, 3) := by decide +kernel
theorem dX11_menu_11 : decode cX11_menu 11 = .ok (.aload_n 0, 1) := by decide +kernel
theorem dX11_menu_12 : decode cX11_menu 12 = .ok (.iload_n 2, 1) := by decide +kernel
theorem dX11_menu_13 : decode cX11_menu 13 = .ok (.aload_n 0, 1) := by decide +kernel
theorem dX11_menu_14 : decode cX11_menu 14 = .ok (.getfield 23, 3) := by decide +kernel
theorem dX11_menu_17 : decode cX11_menu 17 = .ok (.getfield 148, 3) := by decide +kernel
theorem dX11_menu_20 : decode cX11_menu 20 = .ok (.getfield 211, 3) := by decide +kernel
theorem dX11_menu_23 : decode cX11_menu 23 = .ok (.iconst 1, 1) := by decide +kernel
theorem dX11_menu_24 : decode cX11_menu 24 = .ok (.isub, 1) := by decide +kernel
theorem dX11_menu_25 : decode cX11_menu 25 = .ok (.invokevirtual 298, 3) := by decide +kernel
theorem dX11_menu_28 : decode cX11_menu 28 = .ok (.ifCond .ne 14, 3) := by decide +kernel
theorem dX11_menu_31 : decode cX11_menu 31 = .ok (.new 118, 3) := by decide +kernel
theorem dX11_menu_34 : decode cX11_menu 34 = .ok (.dup, 1) := by decide +kernel
theorem dX11_menu_35 : decode cX11_menu 35 = .ok (.ldc_w 302, 3) := by decide +kernel
theorem dX11_menu_38 : decode cX11_menu 38 = .ok (.invokespecial 122, 3) := by decide +kernel
theorem dX11_menu_41 : decode cX11_menu 41 = .ok (.athrow, 1) := by decide +kernel
theorem dX11_menu_42 : decode cX11_menu 42 = .ok (.iload_n 1, 1) := by decide +kernel
theorem dX11_menu_43 : decode cX11_menu 43 = .ok (.ifCond .lt 8, 3) := by decide +kernel
theorem dX11_menu_46 : decode cX11_menu 46 = .ok (.iload_n 1, 1) := by decide +kernel
theorem dX11_menu_47 : decode cX11_menu 47 = .ok (.iconst 3, 1) := by decide +kernel
theorem dX11_menu_48 : decode cX11_menu 48 = .ok (.if_icmp .le 14, 3) := by decide +kernel
theorem dX11_menu_51 : decode cX11_menu 51 = .ok (.new 163, 3) := by decide +kernel
theorem dX11_menu_54 : decode cX11_menu 54 = .ok (.dup, 1) := by decide +kernel
theorem dX11_menu_55 : decode cX11_menu 55 = .ok (.ldc_w 304, 3) := by decide +kernel
theorem dX11_menu_58 : decode cX11_menu 58 = .ok (.invokespecial 167, 3) := by decide +kernel
theorem dX11_menu_61 : decode cX11_menu 61 = .ok (.athrow, 1) := by decide +kernel
theorem dX11_menu_62 : decode cX11_menu 62 = .ok (.aload_n 0, 1) := by decide +kernel
theorem dX11_menu_63 : decode cX11_menu 63 = .ok (.getfield 61, 3) := by decide +kernel
theorem dX11_menu_66 : decode cX11_menu 66 = .ok (.aload_n 0, 1) := by decide +kernel
theorem dX11_menu_67 : decode cX11_menu 67 = .ok (.getfield 23, 3) := by decide +kernel
theorem dX11_menu_70 : decode cX11_menu 70 = .ok (.invokevirtual 106, 3) := by decide +kernel
theorem dX11_menu_73 : decode cX11_menu 73 = .ok (.iconst 0, 1) := by decide +kernel
theorem dX11_menu_74 : decode cX11_menu 74 = .ok (.istore_n 3, 1) := by decide +kernel
theorem dX11_menu_75 : decode cX11_menu 75 = .ok (.iconst 0, 1) := by decide +kernel
theorem dX11_menu_76 : decode cX11_menu 76 = .ok (.istore 4, 2) := by decide +kernel
theorem dX11_menu_78 : decode cX11_menu 78 = .ok (.iconst 0, 1) := by decide +kernel
theorem dX11_menu_79 : decode cX11_menu 79 = .ok (.istore 5, 2) := by decide +kernel
theorem dX11_menu_81 : decode cX11_menu 81 = .ok (.iload 5, 2) := by decide +kernel
theorem dX11_menu_83 : decode cX11_menu 83 = .ok (.iload_n 2, 1) := by decide +kernel
theorem dX11_menu_84 : decode cX11_menu 84 = .ok (.if_icmp .ge 71, 3) := by decide +kernel
theorem dX11_menu_87 : decode cX11_menu 87 = .ok (.iload 5, 2) := by decide +kernel
theorem dX11_menu_89 : decode cX11_menu 89 = .ok (.sipush 400, 3) := by decide +kernel
theorem dX11_menu_92 : decode cX11_menu 92 = .ok (.if_icmp .ge 63, 3) := by decide +kernel
theorem dX11_menu_95 : decode cX11_menu 95 = .ok (.aload_n 0, 1) := by decide +kernel
theorem dX11_menu_96 : decode cX11_menu 96 = .ok (.getfield 61, 3) := by decide +kernel
theorem dX11_menu_99 : decode cX11_menu 99 = .ok (.aload_n 0, 1) := by decide +kernel
theorem dX11_menu_100 : decode cX11_menu 100 = .ok (.getfield 9, 3) := by decide +kernel
theorem dX11_menu_103 : decode cX11_menu 103 = .ok (.iload 5, 2) := by decide +kernel
theorem dX11_menu_105 : decode cX11_menu 105 = .ok (.iaload, 1) := by decide +kernel
theorem dX11_menu_106 : decode cX11_menu 106 = .ok (.invokevirtual 295, 3) := by decide +kernel
theorem dX11_menu_109 : decode cX11_menu 109 = .ok (.ifCond .eq 40, 3) := by decide +kernel
theorem dX11_menu_112 : decode cX11_menu 112 = .ok (.aload_n 0, 1) := by decide +kernel
theorem dX11_menu_113 : decode cX11_menu 113 = .ok (.getfield 61, 3) := by decide +kernel
theorem dX11_menu_116 : decode cX11_menu 116 = .ok (.aload_n 0, 1) := by decide +kernel
theorem dX11_menu_117 : decode cX11_menu 117 = .ok (.getfield 9, 3) := by decide +kernel
theorem dX11_menu_120 : decode cX11_menu 120 = .ok (.iload 5, 2) := by decide +kernel
theorem dX11_menu_122 : decode cX11_menu 122 = .ok (.iaload, 1) := by decide +kernel
theorem dX11_menu_123 : decode cX11_menu 123 = .ok (.aload_n 0, 1) := by decide +kernel
theorem dX11_menu_124 : decode cX11_menu 124 = .ok (.getfield 30, 3) := by decide +kernel
theorem dX11_menu_127 : decode cX11_menu 127 = .ok (.aload_n 0, 1) := by decide +kernel
theorem dX11_menu_128 : decode cX11_menu 128 = .ok (.getfield 67, 3) := by decide +kernel
theorem dX11_menu_131 : decode cX11_menu 131 = .ok (.invokevirtual 232, 3) := by decide +kernel
theorem dX11_menu_134 : decode cX11_menu 134 = .ok (.iload 4, 2) := by decide +kernel
theorem dX11_menu_136 : decode cX11_menu 136 = .ok (.aload_n 0, 1) := by decide +kernel
theorem dX11_menu_137 : decode cX11_menu 137 = .ok (.getfield 67, 3) := by decide +kernel
theorem dX11_menu_140 : decode cX11_menu 140 = .ok (.getfield 205, 3) := by decide +kernel
theorem dX11_menu_143 : decode cX11_menu 143 = .ok (.iadd, 1) := by decide +kernel
theorem dX11_menu_144 : decode cX11_menu 144 = .ok (.istore 4, 2) := by decide +kernel
theorem dX11_menu_146 : decode cX11_menu 146 = .ok (.iinc 3 1, 3) := by decide +kernel
theorem dX11_menu_149 : decode cX11_menu 149 = .ok (.iinc 5 1, 3) := by decide +kernel
theorem dX11_menu_152 : decode cX11_menu 152 = .ok (.goto (-71), 3) := by decide +kernel
theorem dX11_menu_155 : decode cX11_menu 155 = .ok (.iload_n 1, 1) := by decide +kernel
theorem dX11_menu_156 : decode cX11_menu 156 = .ok (.tableswitch 46 0 2 #[28, 36, 44], 28) := by decide +kernel
theorem dX11_menu_184 : decode cX11_menu 184 = .ok (.aload_n 0, 1) := by decide +kernel
theorem dX11_menu_185 : decode cX11_menu 185 = .ok (.getfield 61, 3) := by decide +kernel
theorem dX11_menu_188 : decode cX11_menu 188 = .ok (.getfield 242, 3) := by decide +kernel
theorem dX11_menu_191 : decode cX11_menu 191 = .ok (.ireturn, 1) := by decide +kernel
theorem dX11_menu_192 : decode cX11_menu 192 = .ok (.aload_n 0, 1) := by decide +kernel
theorem dX11_menu_193 : decode cX11_menu 193 = .ok (.getfield 61, 3) := by decide +kernel
theorem dX11_menu_196 : decode cX11_menu 196 = .ok (.getfield 220, 3) := by decide +kernel
theorem dX11_menu_199 : decode cX11_menu 199 = .ok (.ireturn, 1) := by decide +kernel
theorem dX11_menu_200 : decode cX11_menu 200 = .ok (.iload_n 3, 1) := by decide +kernel
theorem dX11_menu_201 : decode cX11_menu 201 = .ok (.ireturn, 1) := by decide +kernel
theorem dX11_menu_202 : decode cX11_menu 202 = .ok (.iload 4, 2) := by decide +kernel
theorem dX11_menu_204 : decode cX11_menu 204 = .ok (.ireturn, 1) := by decide +kernel
theorem dX11_fewest_0 : decode cX11_fewest 0 = .ok (.iload_n 1, 1) := by decide +kernel
theorem dX11_fewest_1 : decode cX11_fewest 1 = .ok (.ifCond .lt 21, 3) := by decide +kernel
theorem dX11_fewest_4 : decode cX11_fewest 4 = .ok (.iload_n 1, 1) := by decide +kernel
theorem dX11_fewest_5 : decode cX11_fewest 5 = .ok (.sipush 1023, 3) := by decide +kernel
theorem dX11_fewest_8 : decode cX11_fewest 8 = .ok (.if_icmp .gt 14, 3) := by decide +kernel
theorem dX11_fewest_11 : decode cX11_fewest 11 = .ok (.iload_n 2, 1) := by decide +kernel
theorem dX11_fewest_12 : decode cX11_fewest 12 = .ok (.ifCond .lt 10, 3) := by decide +kernel
theorem dX11_fewest_15 : decode cX11_fewest 15 = .ok (.iload_n 2, 1) := by decide +kernel
theorem dX11_fewest_16 : decode cX11_fewest 16 = .ok (.sipush 1023, 3) := by decide +kernel
theorem dX11_fewest_19 : decode cX11_fewest 19 = .ok (.if_icmp .le 14, 3) := by decide +kernel
theorem dX11_fewest_22 : decode cX11_fewest 22 = .ok (.new 118, 3) := by decide +kernel
theorem dX11_fewest_25 : decode cX11_fewest 25 = .ok (.dup, 1) := by decide +kernel
theorem dX11_fewest_26 : decode cX11_fewest 26 = .ok (.ldc_w 306, 3) := by decide +kernel
theorem dX11_fewest_29 : decode cX11_fewest 29 = .ok (.invokespecial 122, 3) := by decide +kernel
theorem dX11_fewest_32 : decode cX11_fewest 32 = .ok (.athrow, 1) := by decide +kernel
theorem dX11_fewest_33 : decode cX11_fewest 33 = .ok (.iload_n 1, 1) := by decide +kernel
theorem dX11_fewest_34 : decode cX11_fewest 34 = .ok (.iload_n 2, 1) := by decide +kernel
theorem dX11_fewest_35 : decode cX11_fewest 35 = .ok (.iand, 1) := by decide +kernel
theorem dX11_fewest_36 : decode cX11_fewest 36 = .ok (.ifCond .eq 5, 3) := by decide +kernel
theorem dX11_fewest_39 : decode cX11_fewest 39 = .ok (.iconst (-1), 1) := by decide +kernel
theorem dX11_fewest_40 : decode cX11_fewest 40 = .ok (.ireturn, 1) := by decide +kernel
theorem dX11_fewest_41 : decode cX11_fewest 41 = .ok (.iconst 0, 1) := by decide +kernel
theorem dX11_fewest_42 : decode cX11_fewest 42 = .ok (.istore_n 3, 1) := by decide +kernel
theorem dX11_fewest_43 : decode cX11_fewest 43 = .ok (.iconst 0, 1) := by decide +kernel
theorem dX11_fewest_44 : decode cX11_fewest 44 = .ok (.istore 4, 2) := by decide +kernel
theorem dX11_fewest_46 : decode cX11_fewest 46 = .ok (.iload 4, 2) := by decide +kernel
theorem dX11_fewest_48 : decode cX11_fewest 48 = .ok (.bipush 10, 2) := by decide +kernel
theorem dX11_fewest_50 : decode cX11_fewest 50 = .ok (.if_icmp .ge 47, 3) := by decide +kernel
theorem dX11_fewest_53 : decode cX11_fewest 53 = .ok (.iload_n 1, 1) := by decide +kernel
theorem dX11_fewest_54 : decode cX11_fewest 54 = .ok (.iload 4, 2) := by decide +kernel
theorem dX11_fewest_56 : decode cX11_fewest 56 = .ok (.ishr, 1) := by decide +kernel
theorem dX11_fewest_57 : decode cX11_fewest 57 = .ok (.iconst 1, 1) := by decide +kernel
theorem dX11_fewest_58 : decode cX11_fewest 58 = .ok (.iand, 1) := by decide +kernel
theorem dX11_fewest_59 : decode cX11_fewest 59 = .ok (.ifCond .eq 32, 3) := by decide +kernel
theorem dX11_fewest_62 : decode cX11_fewest 62 = .ok (.aload_n 0, 1) := by decide +kernel
theorem dX11_fewest_63 : decode cX11_fewest 63 = .ok (.getfield 23, 3) := by decide +kernel
theorem dX11_fewest_66 : decode cX11_fewest 66 = .ok (.getfield 148, 3) := by decide +kernel
theorem dX11_fewest_69 : decode cX11_fewest 69 = .ok (.iload 4, 2) := by decide +kernel
theorem dX11_fewest_71 : decode cX11_fewest 71 = .ok (.invokevirtual 308, 3) := by decide +kernel
theorem dX11_fewest_74 : decode cX11_fewest 74 = .ok (.istore 5, 2) := by decide +kernel
theorem dX11_fewest_76 : decode cX11_fewest 76 = .ok (.iload 5, 2) := by decide +kernel
theorem dX11_fewest_78 : decode cX11_fewest 78 = .ok (.iconst (-1), 1) := by decide +kernel
theorem dX11_fewest_79 : decode cX11_fewest 79 = .ok (.if_icmp .ne 5, 3) := by decide +kernel
theorem dX11_fewest_82 : decode cX11_fewest 82 = .ok (.iconst (-1), 1) := by decide +kernel
theorem dX11_fewest_83 : decode cX11_fewest 83 = .ok (.ireturn, 1) := by decide +kernel
theorem dX11_fewest_84 : decode cX11_fewest 84 = .ok (.iload_n 3, 1) := by decide +kernel
theorem dX11_fewest_85 : decode cX11_fewest 85 = .ok (.iconst 1, 1) := by decide +kernel
theorem dX11_fewest_86 : decode cX11_fewest 86 = .ok (.iload 5, 2) := by decide +kernel
theorem dX11_fewest_88 : decode cX11_fewest 88 = .ok (.ishl, 1) := by decide +kernel
theorem dX11_fewest_89 : decode cX11_fewest 89 = .ok (.ior, 1) := by decide +kernel
theorem dX11_fewest_90 : decode cX11_fewest 90 = .ok (.istore_n 3, 1) := by decide +kernel
theorem dX11_fewest_91 : decode cX11_fewest 91 = .ok (.iinc 4 1, 3) := by decide +kernel
theorem dX11_fewest_94 : decode cX11_fewest 94 = .ok (.goto (-48), 3) := by decide +kernel
theorem dX11_fewest_97 : decode cX11_fewest 97 = .ok (.iload_n 3, 1) := by decide +kernel
theorem dX11_fewest_98 : decode cX11_fewest 98 = .ok (.ireturn, 1) := by decide +kernel
theorem dX11_order_0 : decode cX11_order 0 = .ok (.iload_n 1, 1) := by decide +kernel
theorem dX11_order_1 : decode cX11_order 1 = .ok (.aload_n 0, 1) := by decide +kernel
theorem dX11_order_2 : decode cX11_order 2 = .ok (.getfield 23, 3) := by decide +kernel
theorem dX11_order_5 : decode cX11_order 5 = .ok (.getfield 148, 3) := by decide +kernel
theorem dX11_order_8 : decode cX11_order 8 = .ok (.invokevirtual 214, 3) := by decide +kernel
theorem dX11_order_11 : decode cX11_order 11 = .ok (.iand, 1) := by decide +kernel
theorem dX11_order_12 : decode cX11_order 12 = .ok (.istore_n 3, 1) := by decide +kernel
theorem dX11_order_13 : decode cX11_order 13 = .ok (.iload_n 3, 1) := by decide +kernel
theorem dX11_order_14 : decode cX11_order 14 = .ok (.invokestatic 311, 3) := by decide +kernel
theorem dX11_order_17 : decode cX11_order 17 = .ok (.bipush 6, 2) := by decide +kernel
theorem dX11_order_19 : decode cX11_order 19 = .ok (.if_icmp .le 14, 3) := by decide +kernel
theorem dX11_order_22 : decode cX11_order 22 = .ok (.new 118, 3) := by decide +kernel
theorem dX11_order_25 : decode cX11_order 25 = .ok (.dup, 1) := by decide +kernel
theorem dX11_order_26 : decode cX11_order 26 = .ok (.ldc_w 316, 3) := by decide +kernel
theorem dX11_order_29 : decode cX11_order 29 = .ok (.invokespecial 122, 3) := by decide +kernel
theorem dX11_order_32 : decode cX11_order 32 = .ok (.athrow, 1) := by decide +kernel
theorem dX11_order_33 : decode cX11_order 33 = .ok (.aload_n 0, 1) := by decide +kernel
theorem dX11_order_34 : decode cX11_order 34 = .ok (.getfield 88, 3) := by decide +kernel
theorem dX11_order_37 : decode cX11_order 37 = .ok (.aload_n 0, 1) := by decide +kernel
theorem dX11_order_38 : decode cX11_order 38 = .ok (.getfield 23, 3) := by decide +kernel
theorem dX11_order_41 : decode cX11_order 41 = .ok (.iload_n 3, 1) := by decide +kernel
theorem dX11_order_42 : decode cX11_order 42 = .ok (.aload_n 0, 1) := by decide +kernel
theorem dX11_order_43 : decode cX11_order 43 = .ok (.getfield 30, 3) := by decide +kernel
theorem dX11_order_46 : decode cX11_order 46 = .ok (.aload_n 0, 1) := by decide +kernel
theorem dX11_order_47 : decode cX11_order 47 = .ok (.getfield 67, 3) := by decide +kernel
theorem dX11_order_50 : decode cX11_order 50 = .ok (.invokevirtual 318, 3) := by decide +kernel
theorem dX11_order_53 : decode cX11_order 53 = .ok (.iload_n 2, 1) := by decide +kernel
theorem dX11_order_54 : decode cX11_order 54 = .ok (.iconst (-1), 1) := by decide +kernel
theorem dX11_order_55 : decode cX11_order 55 = .ok (.if_icmp .ne 13, 3) := by decide +kernel
theorem dX11_order_58 : decode cX11_order 58 = .ok (.aload_n 0, 1) := by decide +kernel
theorem dX11_order_59 : decode cX11_order 59 = .ok (.getfield 88, 3) := by decide +kernel
theorem dX11_order_62 : decode cX11_order 62 = .ok (.getfield 322, 3) := by decide +kernel
theorem dX11_order_65 : decode cX11_order 65 = .ok (.goto 11, 3) := by decide +kernel
theorem dX11_order_68 : decode cX11_order 68 = .ok (.aload_n 0, 1) := by decide +kernel
theorem dX11_order_69 : decode cX11_order 69 = .ok (.getfield 88, 3) := by decide +kernel
theorem dX11_order_72 : decode cX11_order 72 = .ok (.iload_n 2, 1) := by decide +kernel
theorem dX11_order_73 : decode cX11_order 73 = .ok (.invokevirtual 325, 3) := by decide +kernel
theorem dX11_order_76 : decode cX11_order 76 = .ok (.ireturn, 1) := by decide +kernel
theorem dX11_he_0 : decode cX11_he 0 = .ok (.aload_n 0, 1) := by decide +kernel
theorem dX11_he_1 : decode cX11_he 1 = .ok (.invokevirtual 110, 3) := by decide +kernel
theorem dX11_he_4 : decode cX11_he 4 = .ok (.istore_n 1, 1) := by decide +kernel
theorem dX11_he_5 : decode cX11_he 5 = .ok (.iload_n 1, 1) := by decide +kernel
theorem dX11_he_6 : decode cX11_he 6 = .ok (.bipush 40, 2) := by decide +kernel
theorem dX11_he_8 : decode cX11_he 8 = .ok (.if_icmp .gt 17, 3) := by decide +kernel
theorem dX11_he_11 : decode cX11_he 11 = .ok (.iload_n 1, 1) := by decide +kernel
theorem dX11_he_12 : decode cX11_he 12 = .ok (.iconst 2, 1) := by decide +kernel
theorem dX11_he_13 : decode cX11_he 13 = .ok (.irem, 1) := by decide +kernel
theorem dX11_he_14 : decode cX11_he 14 = .ok (.ifCond .ne 11, 3) := by decide +kernel
theorem dX11_he_17 : decode cX11_he 17 = .ok (.aload_n 0, 1) := by decide +kernel
theorem dX11_he_18 : decode cX11_he 18 = .ok (.iload_n 1, 1) := by decide +kernel
theorem dX11_he_19 : decode cX11_he 19 = .ok (.invokevirtual 328, 3) := by decide +kernel
theorem dX11_he_22 : decode cX11_he 22 = .ok (.ifCond .ne 14, 3) := by decide +kernel
theorem dX11_he_25 : decode cX11_he 25 = .ok (.new 118, 3) := by decide +kernel
theorem dX11_he_28 : decode cX11_he 28 = .ok (.dup, 1) := by decide +kernel
theorem dX11_he_29 : decode cX11_he 29 = .ok (.ldc_w 331, 3) := by decide +kernel
theorem dX11_he_32 : decode cX11_he 32 = .ok (.invokespecial 122, 3) := by decide +kernel
theorem dX11_he_35 : decode cX11_he 35 = .ok (.athrow, 1) := by decide +kernel
theorem dX11_he_36 : decode cX11_he 36 = .ok (.sipush 255, 3) := by decide +kernel
theorem dX11_he_39 : decode cX11_he 39 = .ok (.istore_n 2, 1) := by decide +kernel
theorem dX11_he_40 : decode cX11_he 40 = .ok (.iconst 0, 1) := by decide +kernel
theorem dX11_he_41 : decode cX11_he 41 = .ok (.istore_n 3, 1) := by decide +kernel
theorem dX11_he_42 : decode cX11_he 42 = .ok (.iload_n 3, 1) := by decide +kernel
theorem dX11_he_43 : decode cX11_he 43 = .ok (.iload_n 1, 1) := by decide +kernel
theorem dX11_he_44 : decode cX11_he 44 = .ok (.if_icmp .ge 45, 3) := by decide +kernel
theorem dX11_he_47 : decode cX11_he 47 = .ok (.iload_n 3, 1) := by decide +kernel
theorem dX11_he_48 : decode cX11_he 48 = .ok (.iconst 1, 1) := by decide +kernel
theorem dX11_he_49 : decode cX11_he 49 = .ok (.iadd, 1) := by decide +kernel
theorem dX11_he_50 : decode cX11_he 50 = .ok (.sipush 400, 3) := by decide +kernel
theorem dX11_he_53 : decode cX11_he 53 = .ok (.if_icmp .ge 36, 3) := by decide +kernel
theorem dX11_he_56 : decode cX11_he 56 = .ok (.iload_n 2, 1) := by decide +kernel
theorem dX11_he_57 : decode cX11_he 57 = .ok (.aload_n 0, 1) := by decide +kernel
theorem dX11_he_58 : decode cX11_he 58 = .ok (.getfield 23, 3) := by decide +kernel
theorem dX11_he_61 : decode cX11_he 61 = .ok (.getfield 148, 3) := by decide +kernel
theorem dX11_he_64 : decode cX11_he 64 = .ok (.aload_n 0, 1) := by decide +kernel
theorem dX11_he_65 : decode cX11_he 65 = .ok (.getfield 9, 3) := by decide +kernel
theorem dX11_he_68 : decode cX11_he 68 = .ok (.iload_n 3, 1) := by decide +kernel
theorem dX11_he_69 : decode cX11_he 69 = .ok (.iaload, 1) := by decide +kernel
theorem dX11_he_70 : decode cX11_he 70 = .ok (.aload_n 0, 1) := by decide +kernel
theorem dX11_he_71 : decode cX11_he 71 = .ok (.getfield 9, 3) := by decide +kernel
theorem dX11_he_74 : decode cX11_he 74 = .ok (.iload_n 3, 1) := by decide +kernel
theorem dX11_he_75 : decode cX11_he 75 = .ok (.iconst 1, 1) := by decide +kernel
theorem dX11_he_76 : decode cX11_he 76 = .ok (.iadd, 1) := by decide +kernel
theorem dX11_he_77 : decode cX11_he 77 = .ok (.iaload, 1) := by decide +kernel
theorem dX11_he_78 : decode cX11_he 78 = .ok (.invokevirtual 333, 3) := by decide +kernel
theorem dX11_he_81 : decode cX11_he 81 = .ok (.iand, 1) := by decide +kernel
theorem dX11_he_82 : decode cX11_he 82 = .ok (.istore_n 2, 1) := by decide +kernel
theorem dX11_he_83 : decode cX11_he 83 = .ok (.iinc 3 2, 3) := by decide +kernel
theorem dX11_he_86 : decode cX11_he 86 = .ok (.goto (-44), 3) := by decide +kernel
theorem dX11_he_89 : decode cX11_he 89 = .ok (.iload_n 2, 1) := by decide +kernel
theorem dX11_he_90 : decode cX11_he 90 = .ok (.ireturn, 1) := by decide +kernel
theorem dX11_arePairs_0 : decode cX11_arePairs 0 = .ok (.iconst 0, 1) := by decide +kernel
theorem dX11_arePairs_1 : decode cX11_arePairs 1 = .ok (.istore_n 2, 1) := by decide +kernel
theorem dX11_arePairs_2 : decode cX11_arePairs 2 = .ok (.iload_n 2, 1) := by decide +kernel
theorem dX11_arePairs_3 : decode cX11_arePairs 3 = .ok (.iload_n 1, 1) := by decide +kernel
theorem dX11_arePairs_4 : decode cX11_arePairs 4 = .ok (.if_icmp .ge 45, 3) := by decide +kernel
theorem dX11_arePairs_7 : decode cX11_arePairs 7 = .ok (.iload_n 2, 1) := by decide +kernel
theorem dX11_arePairs_8 : decode cX11_arePairs 8 = .ok (.iconst 1, 1) := by decide +kernel
theorem dX11_arePairs_9 : decode cX11_arePairs 9 = .ok (.iadd, 1) := by decide +kernel
theorem dX11_arePairs_10 : decode cX11_arePairs 10 = .ok (.sipush 400, 3) := by decide +kernel
theorem dX11_arePairs_13 : decode cX11_arePairs 13 = .ok (.if_icmp .ge 36, 3) := by decide +kernel
theorem dX11_arePairs_16 : decode cX11_arePairs 16 = .ok (.aload_n 0, 1) := by decide +kernel
theorem dX11_arePairs_17 : decode cX11_arePairs 17 = .ok (.getfield 9, 3) := by decide +kernel
theorem dX11_arePairs_20 : decode cX11_arePairs 20 = .ok (.iload_n 2, 1) := by decide +kernel
theorem dX11_arePairs_21 : decode cX11_arePairs 21 = .ok (.iaload, 1) := by decide +kernel
theorem dX11_arePairs_22 : decode cX11_arePairs 22 = .ok (.bipush 99, 2) := by decide +kernel
theorem dX11_arePairs_24 : decode cX11_arePairs 24 = .ok (.if_icmp .gt 17, 3) := by decide +kernel
theorem dX11_arePairs_27 : decode cX11_arePairs 27 = .ok (.aload_n 0, 1) := by decide +kernel
theorem dX11_arePairs_28 : decode cX11_arePairs 28 = .ok (.getfield 9, 3) := by decide +kernel
theorem dX11_arePairs_31 : decode cX11_arePairs 31 = .ok (.iload_n 2, 1) := by decide +kernel
theorem dX11_arePairs_32 : decode cX11_arePairs 32 = .ok (.iconst 1, 1) := by decide +kernel
theorem dX11_arePairs_33 : decode cX11_arePairs 33 = .ok (.iadd, 1) := by decide +kernel
theorem dX11_arePairs_34 : decode cX11_arePairs 34 = .ok (.iaload, 1) := by decide +kernel
theorem dX11_arePairs_35 : decode cX11_arePairs 35 = .ok (.invokestatic 255, 3) := by decide +kernel
theorem dX11_arePairs_38 : decode cX11_arePairs 38 = .ok (.ifCond .ne 5, 3) := by decide +kernel
theorem dX11_arePairs_41 : decode cX11_arePairs 41 = .ok (.iconst 0, 1) := by decide +kernel
theorem dX11_arePairs_42 : decode cX11_arePairs 42 = .ok (.ireturn, 1) := by decide +kernel
theorem dX11_arePairs_43 : decode cX11_arePairs 43 = .ok (.iinc 2 2, 3) := by decide +kernel
theorem dX11_arePairs_46 : decode cX11_arePairs 46 = .ok (.goto (-44), 3) := by decide +kernel
theorem dX11_arePairs_49 : decode cX11_arePairs 49 = .ok (.iconst 1, 1) := by decide +kernel
theorem dX11_arePairs_50 : decode cX11_arePairs 50 = .ok (.ireturn, 1) := by decide +kernel
theorem dX11_unknown_0 : decode cX11_unknown 0 = .ok (.aload_n 0, 1) := by decide +kernel
theorem dX11_unknown_1 : decode cX11_unknown 1 = .ok (.invokevirtual 110, 3) := by decide +kernel
theorem dX11_unknown_4 : decode cX11_unknown 4 = .ok (.istore_n 1, 1) := by decide +kernel
theorem dX11_unknown_5 : decode cX11_unknown 5 = .ok (.iload_n 1, 1) := by decide +kernel
theorem dX11_unknown_6 : decode cX11_unknown 6 = .ok (.bipush 20, 2) := by decide +kernel
theorem dX11_unknown_8 : decode cX11_unknown 8 = .ok (.if_icmp .le 14, 3) := by decide +kernel
theorem dX11_unknown_11 : decode cX11_unknown 11 = .ok (.new 118, 3) := by decide +kernel
theorem dX11_unknown_14 : decode cX11_unknown 14 = .ok (.dup, 1) := by decide +kernel
theorem dX11_unknown_15 : decode cX11_unknown 15 = .ok (.ldc_w 336, 3) := by decide +kernel
theorem dX11_unknown_18 : decode cX11_unknown 18 = .ok (.invokespecial 122, 3) := by decide +kernel
theorem dX11_unknown_21 : decode cX11_unknown 21 = .ok (.athrow, 1) := by decide +kernel
theorem dX11_unknown_22 : decode cX11_unknown 22 = .ok (.aload_n 0, 1) := by decide +kernel
theorem dX11_unknown_23 : decode cX11_unknown 23 = .ok (.iload_n 1, 1) := by decide +kernel
theorem dX11_unknown_24 : decode cX11_unknown 24 = .ok (.invokevirtual 338, 3) := by decide +kernel
theorem dX11_unknown_27 : decode cX11_unknown 27 = .ok (.ireturn, 1) := by decide +kernel
theorem dX11_fitting_0 : decode cX11_fitting 0 = .ok (.aload_n 0, 1) := by decide +kernel
theorem dX11_fitting_1 : decode cX11_fitting 1 = .ok (.getfield 23, 3) := by decide +kernel
theorem dX11_fitting_4 : decode cX11_fitting 4 = .ok (.getfield 148, 3) := by decide +kernel
theorem dX11_fitting_7 : decode cX11_fitting 7 = .ok (.invokevirtual 217, 3) := by decide +kernel
theorem dX11_fitting_10 : decode cX11_fitting 10 = .ok (.istore_n 2, 1) := by decide +kernel
theorem dX11_fitting_11 : decode cX11_fitting 11 = .ok (.iconst 0, 1) := by decide +kernel
theorem dX11_fitting_12 : decode cX11_fitting 12 = .ok (.istore_n 3, 1) := by decide +kernel
theorem dX11_fitting_13 : decode cX11_fitting 13 = .ok (.iload_n 3, 1) := by decide +kernel
theorem dX11_fitting_14 : decode cX11_fitting 14 = .ok (.iload_n 1, 1) := by decide +kernel
theorem dX11_fitting_15 : decode cX11_fitting 15 = .ok (.if_icmp .ge 54, 3) := by decide +kernel
theorem dX11_fitting_18 : decode cX11_fitting 18 = .ok (.iload_n 3, 1) := by decide +kernel
theorem dX11_fitting_19 : decode cX11_fitting 19 = .ok (.sipush 400, 3) := by decide +kernel
theorem dX11_fitting_22 : decode cX11_fitting 22 = .ok (.if_icmp .ge 47, 3) := by decide +kernel
theorem dX11_fitting_25 : decode cX11_fitting 25 = .ok (.iload_n 2, 1) := by decide +kernel
theorem dX11_fitting_26 : decode cX11_fitting 26 = .ok (.aload_n 0, 1) := by decide +kernel
theorem dX11_fitting_27 : decode cX11_fitting 27 = .ok (.getfield 23, 3) := by decide +kernel
theorem dX11_fitting_30 : decode cX11_fitting 30 = .ok (.getfield 148, 3) := by decide +kernel
theorem dX11_fitting_33 : decode cX11_fitting 33 = .ok (.aload_n 0, 1) := by decide +kernel
theorem dX11_fitting_34 : decode cX11_fitting 34 = .ok (.getfield 9, 3) := by decide +kernel
theorem dX11_fitting_37 : decode cX11_fitting 37 = .ok (.iload_n 3, 1) := by decide +kernel
theorem dX11_fitting_38 : decode cX11_fitting 38 = .ok (.iaload, 1) := by decide +kernel
theorem dX11_fitting_39 : decode cX11_fitting 39 = .ok (.invokevirtual 341, 3) := by decide +kernel
theorem dX11_fitting_42 : decode cX11_fitting 42 = .ok (.aload_n 0, 1) := by decide +kernel
theorem dX11_fitting_43 : decode cX11_fitting 43 = .ok (.getfield 23, 3) := by decide +kernel
theorem dX11_fitting_46 : decode cX11_fitting 46 = .ok (.getfield 148, 3) := by decide +kernel
theorem dX11_fitting_49 : decode cX11_fitting 49 = .ok (.aload_n 0, 1) := by decide +kernel
theorem dX11_fitting_50 : decode cX11_fitting 50 = .ok (.getfield 9, 3) := by decide +kernel
theorem dX11_fitting_53 : decode cX11_fitting 53 = .ok (.iload_n 3, 1) := by decide +kernel
theorem dX11_fitting_54 : decode cX11_fitting 54 = .ok (.iaload, 1) := by decide +kernel
theorem dX11_fitting_55 : decode cX11_fitting 55 = .ok (.iconst 1, 1) := by decide +kernel
theorem dX11_fitting_56 : decode cX11_fitting 56 = .ok (.isub, 1) := by decide +kernel
theorem dX11_fitting_57 : decode cX11_fitting 57 = .ok (.invokevirtual 341, 3) := by decide +kernel
theorem dX11_fitting_60 : decode cX11_fitting 60 = .ok (.ior, 1) := by decide +kernel
theorem dX11_fitting_61 : decode cX11_fitting 61 = .ok (.iand, 1) := by decide +kernel
theorem dX11_fitting_62 : decode cX11_fitting 62 = .ok (.istore_n 2, 1) := by decide +kernel
theorem dX11_fitting_63 : decode cX11_fitting 63 = .ok (.iinc 3 1, 3) := by decide +kernel
theorem dX11_fitting_66 : decode cX11_fitting 66 = .ok (.goto (-53), 3) := by decide +kernel
theorem dX11_fitting_69 : decode cX11_fitting 69 = .ok (.iload_n 2, 1) := by decide +kernel
theorem dX11_fitting_70 : decode cX11_fitting 70 = .ok (.ireturn, 1) := by decide +kernel
theorem dX11_serve_0 : decode cX11_serve 0 = .ok (.aload_n 0, 1) := by decide +kernel
theorem dX11_serve_1 : decode cX11_serve 1 = .ok (.invokevirtual 110, 3) := by decide +kernel
theorem dX11_serve_4 : decode cX11_serve 4 = .ok (.istore_n 1, 1) := by decide +kernel
theorem dX11_serve_5 : decode cX11_serve 5 = .ok (.iload_n 1, 1) := by decide +kernel
theorem dX11_serve_6 : decode cX11_serve 6 = .ok (.bipush 20, 2) := by decide +kernel
theorem dX11_serve_8 : decode cX11_serve 8 = .ok (.if_icmp .le 14, 3) := by decide +kernel
theorem dX11_serve_11 : decode cX11_serve 11 = .ok (.new 118, 3) := by decide +kernel
theorem dX11_serve_14 : decode cX11_serve 14 = .ok (.dup, 1) := by decide +kernel
theorem dX11_serve_15 : decode cX11_serve 15 = .ok (.ldc_w 336, 3) := by decide +kernel
theorem dX11_serve_18 : decode cX11_serve 18 = .ok (.invokespecial 122, 3) := by decide +kernel
theorem dX11_serve_21 : decode cX11_serve 21 = .ok (.athrow, 1) := by decide +kernel
theorem dX11_serve_22 : decode cX11_serve 22 = .ok (.aload_n 0, 1) := by decide +kernel
theorem dX11_serve_23 : decode cX11_serve 23 = .ok (.iload_n 1, 1) := by decide +kernel
theorem dX11_serve_24 : decode cX11_serve 24 = .ok (.invokevirtual 338, 3) := by decide +kernel
theorem dX11_serve_27 : decode cX11_serve 27 = .ok (.istore_n 2, 1) := by decide +kernel
theorem dX11_serve_28 : decode cX11_serve 28 = .ok (.iload_n 2, 1) := by decide +kernel
theorem dX11_serve_29 : decode cX11_serve 29 = .ok (.invokestatic 311, 3) := by decide +kernel
theorem dX11_serve_32 : decode cX11_serve 32 = .ok (.iconst 2, 1) := by decide +kernel
theorem dX11_serve_33 : decode cX11_serve 33 = .ok (.if_icmp .ge 5, 3) := by decide +kernel
theorem dX11_serve_36 : decode cX11_serve 36 = .ok (.iconst (-1), 1) := by decide +kernel
theorem dX11_serve_37 : decode cX11_serve 37 = .ok (.ireturn, 1) := by decide +kernel
theorem dX11_serve_38 : decode cX11_serve 38 = .ok (.iconst (-1), 1) := by decide +kernel
theorem dX11_serve_39 : decode cX11_serve 39 = .ok (.istore_n 3, 1) := by decide +kernel
theorem dX11_serve_40 : decode cX11_serve 40 = .ok (.bipush 13, 2) := by decide +kernel
theorem dX11_serve_42 : decode cX11_serve 42 = .ok (.istore 4, 2) := by decide +kernel
theorem dX11_serve_44 : decode cX11_serve 44 = .ok (.iconst 0, 1) := by decide +kernel
theorem dX11_serve_45 : decode cX11_serve 45 = .ok (.istore 5, 2) := by decide +kernel
theorem dX11_serve_47 : decode cX11_serve 47 = .ok (.iload 5, 2) := by decide +kernel
theorem dX11_serve_49 : decode cX11_serve 49 = .ok (.aload_n 0, 1) := by decide +kernel
theorem dX11_serve_50 : decode cX11_serve 50 = .ok (.getfield 23, 3) := by decide +kernel
theorem dX11_serve_53 : decode cX11_serve 53 = .ok (.getfield 148, 3) := by decide +kernel
theorem dX11_serve_56 : decode cX11_serve 56 = .ok (.getfield 211, 3) := by decide +kernel
theorem dX11_serve_59 : decode cX11_serve 59 = .ok (.if_icmp .ge 47, 3) := by decide +kernel
theorem dX11_serve_62 : decode cX11_serve 62 = .ok (.aload_n 0, 1) := by decide +kernel
theorem dX11_serve_63 : decode cX11_serve 63 = .ok (.iload 5, 2) := by decide +kernel
theorem dX11_serve_65 : decode cX11_serve 65 = .ok (.iload_n 2, 1) := by decide +kernel
theorem dX11_serve_66 : decode cX11_serve 66 = .ok (.invokevirtual 344, 3) := by decide +kernel
theorem dX11_serve_69 : decode cX11_serve 69 = .ok (.istore 6, 2) := by decide +kernel
theorem dX11_serve_71 : decode cX11_serve 71 = .ok (.aload_n 0, 1) := by decide +kernel
theorem dX11_serve_72 : decode cX11_serve 72 = .ok (.getfield 23, 3) := by decide +kernel
theorem dX11_serve_75 : decode cX11_serve 75 = .ok (.getfield 148, 3) := by decide +kernel
theorem dX11_serve_78 : decode cX11_serve 78 = .ok (.iload 5, 2) := by decide +kernel
theorem dX11_serve_80 : decode cX11_serve 80 = .ok (.invokevirtual 265, 3) := by decide +kernel
theorem dX11_serve_83 : decode cX11_serve 83 = .ok (.ifCond .eq 17, 3) := by decide +kernel
theorem dX11_serve_86 : decode cX11_serve 86 = .ok (.iload 6, 2) := by decide +kernel
theorem dX11_serve_88 : decode cX11_serve 88 = .ok (.iload 4, 2) := by decide +kernel
theorem dX11_serve_90 : decode cX11_serve 90 = .ok (.if_icmp .ge 10, 3) := by decide +kernel
theorem dX11_serve_93 : decode cX11_serve 93 = .ok (.iload 6, 2) := by decide +kernel
theorem dX11_serve_95 : decode cX11_serve 95 = .ok (.istore 4, 2) := by decide +kernel
theorem dX11_serve_97 : decode cX11_serve 97 = .ok (.iload 5, 2) := by decide +kernel
theorem dX11_serve_99 : decode cX11_serve 99 = .ok (.istore_n 3, 1) := by decide +kernel
theorem dX11_serve_100 : decode cX11_serve 100 = .ok (.iinc 5 1, 3) := by decide +kernel
theorem dX11_serve_103 : decode cX11_serve 103 = .ok (.goto (-56), 3) := by decide +kernel
theorem dX11_serve_106 : decode cX11_serve 106 = .ok (.iload_n 3, 1) := by decide +kernel
theorem dX11_serve_107 : decode cX11_serve 107 = .ok (.ireturn, 1) := by decide +kernel
theorem dX11_greaterPart_0 : decode cX11_greaterPart 0 = .ok (.iload_n 2, 1) := by decide +kernel
theorem dX11_greaterPart_1 : decode cX11_greaterPart 1 = .ok (.aload_n 0, 1) := by decide +kernel
theorem dX11_greaterPart_2 : decode cX11_greaterPart 2 = .ok (.getfield 23, 3) := by decide +kernel
theorem dX11_greaterPart_5 : decode cX11_greaterPart 5 = .ok (.getfield 148, 3) := by decide +kernel
theorem dX11_greaterPart_8 : decode cX11_greaterPart 8 = .ok (.iconst 0, 1) := by decide +kernel
theorem dX11_greaterPart_9 : decode cX11_greaterPart 9 = .ok (.aload_n 0, 1) := by decide +kernel
theorem dX11_greaterPart_10 : decode cX11_greaterPart 10 = .ok (.getfield 23, 3) := by decide +kernel
theorem dX11_greaterPart_13 : decode cX11_greaterPart 13 = .ok (.getfield 148, 3) := by decide +kernel
theorem dX11_greaterPart_16 : decode cX11_greaterPart 16 = .ok (.getfield 171, 3) := by decide +kernel
theorem dX11_greaterPart_19 : decode cX11_greaterPart 19 = .ok (.iload_n 1, 1) := by decide +kernel
theorem dX11_greaterPart_20 : decode cX11_greaterPart 20 = .ok (.iaload, 1) := by decide +kernel
theorem dX11_greaterPart_21 : decode cX11_greaterPart 21 = .ok (.invokevirtual 347, 3) := by decide +kernel
theorem dX11_greaterPart_24 : decode cX11_greaterPart 24 = .ok (.iand, 1) := by decide +kernel
theorem dX11_greaterPart_25 : decode cX11_greaterPart 25 = .ok (.invokestatic 311, 3) := by decide +kernel
theorem dX11_greaterPart_28 : decode cX11_greaterPart 28 = .ok (.istore_n 3, 1) := by decide +kernel
theorem dX11_greaterPart_29 : decode cX11_greaterPart 29 = .ok (.iload_n 3, 1) := by decide +kernel
theorem dX11_greaterPart_30 : decode cX11_greaterPart 30 = .ok (.iload_n 2, 1) := by decide +kernel
theorem dX11_greaterPart_31 : decode cX11_greaterPart 31 = .ok (.invokestatic 311, 3) := by decide +kernel
theorem dX11_greaterPart_34 : decode cX11_greaterPart 34 = .ok (.iload_n 3, 1) := by decide +kernel
theorem dX11_greaterPart_35 : decode cX11_greaterPart 35 = .ok (.isub, 1) := by decide +kernel
theorem dX11_greaterPart_36 : decode cX11_greaterPart 36 = .ok (.invokestatic 350, 3) := by decide +kernel
theorem dX11_greaterPart_39 : decode cX11_greaterPart 39 = .ok (.ireturn, 1) := by decide +kernel
theorem dX11_jars_0 : decode cX11_jars 0 = .ok (.aload_n 0, 1) := by decide +kernel
theorem dX11_jars_1 : decode cX11_jars 1 = .ok (.invokevirtual 110, 3) := by decide +kernel
theorem dX11_jars_4 : decode cX11_jars 4 = .ok (.istore_n 2, 1) := by decide +kernel
theorem dX11_jars_5 : decode cX11_jars 5 = .ok (.iload_n 2, 1) := by decide +kernel
theorem dX11_jars_6 : decode cX11_jars 6 = .ok (.bipush 25, 2) := by decide +kernel
theorem dX11_jars_8 : decode cX11_jars 8 = .ok (.if_icmp .gt 19, 3) := by decide +kernel
theorem dX11_jars_11 : decode cX11_jars 11 = .ok (.iload_n 2, 1) := by decide +kernel
theorem dX11_jars_12 : decode cX11_jars 12 = .ok (.iconst 5, 1) := by decide +kernel
theorem dX11_jars_13 : decode cX11_jars 13 = .ok (.irem, 1) := by decide +kernel
theorem dX11_jars_14 : decode cX11_jars 14 = .ok (.ifCond .ne 13, 3) := by decide +kernel
theorem dX11_jars_17 : decode cX11_jars 17 = .ok (.aload_n 0, 1) := by decide +kernel
theorem dX11_jars_18 : decode cX11_jars 18 = .ok (.iload_n 2, 1) := by decide +kernel
theorem dX11_jars_19 : decode cX11_jars 19 = .ok (.bipush 9, 2) := by decide +kernel
theorem dX11_jars_21 : decode cX11_jars 21 = .ok (.invokevirtual 298, 3) := by decide +kernel
theorem dX11_jars_24 : decode cX11_jars 24 = .ok (.ifCond .ne 14, 3) := by decide +kernel
theorem dX11_jars_27 : decode cX11_jars 27 = .ok (.new 118, 3) := by decide +kernel
theorem dX11_jars_30 : decode cX11_jars 30 = .ok (.dup, 1) := by decide +kernel
theorem dX11_jars_31 : decode cX11_jars 31 = .ok (.ldc_w 355, 3) := by decide +kernel
theorem dX11_jars_34 : decode cX11_jars 34 = .ok (.invokespecial 122, 3) := by decide +kernel
theorem dX11_jars_37 : decode cX11_jars 37 = .ok (.athrow, 1) := by decide +kernel
theorem dX11_jars_38 : decode cX11_jars 38 = .ok (.aload_n 0, 1) := by decide +kernel
theorem dX11_jars_39 : decode cX11_jars 39 = .ok (.getfield 95, 3) := by decide +kernel
theorem dX11_jars_42 : decode cX11_jars 42 = .ok (.aload_n 0, 1) := by decide +kernel
theorem dX11_jars_43 : decode cX11_jars 43 = .ok (.getfield 9, 3) := by decide +kernel
theorem dX11_jars_46 : decode cX11_jars 46 = .ok (.iload_n 2, 1) := by decide +kernel
theorem dX11_jars_47 : decode cX11_jars 47 = .ok (.iconst 5, 1) := by decide +kernel
theorem dX11_jars_48 : decode cX11_jars 48 = .ok (.idiv, 1) := by decide +kernel
theorem dX11_jars_49 : decode cX11_jars 49 = .ok (.aload_n 0, 1) := by decide +kernel
theorem dX11_jars_50 : decode cX11_jars 50 = .ok (.getfield 23, 3) := by decide +kernel
theorem dX11_jars_53 : decode cX11_jars 53 = .ok (.getfield 148, 3) := by decide +kernel
theorem dX11_jars_56 : decode cX11_jars 56 = .ok (.invokevirtual 357, 3) := by decide +kernel
theorem dX11_jars_59 : decode cX11_jars 59 = .ok (.iload_n 1, 1) := by decide +kernel
theorem dX11_jars_60 : decode cX11_jars 60 = .ok (.iconst (-1), 1) := by decide +kernel
theorem dX11_jars_61 : decode cX11_jars 61 = .ok (.if_icmp .ne 13, 3) := by decide +kernel
theorem dX11_jars_64 : decode cX11_jars 64 = .ok (.aload_n 0, 1) := by decide +kernel
theorem dX11_jars_65 : decode cX11_jars 65 = .ok (.getfield 95, 3) := by decide +kernel
theorem dX11_jars_68 : decode cX11_jars 68 = .ok (.getfield 360, 3) := by decide +kernel
theorem dX11_jars_71 : decode cX11_jars 71 = .ok (.goto 11, 3) := by decide +kernel
theorem dX11_jars_74 : decode cX11_jars 74 = .ok (.aload_n 0, 1) := by decide +kernel
theorem dX11_jars_75 : decode cX11_jars 75 = .ok (.getfield 95, 3) := by decide +kernel
theorem dX11_jars_78 : decode cX11_jars 78 = .ok (.iload_n 1, 1) := by decide +kernel
theorem dX11_jars_79 : decode cX11_jars 79 = .ok (.invokevirtual 361, 3) := by decide +kernel
theorem dX11_jars_82 : decode cX11_jars 82 = .ok (.ireturn, 1) := by decide +kernel
theorem dX11_kitchen_0 : decode cX11_kitchen 0 = .ok (.iload_n 1, 1) := by decide +kernel
theorem dX11_kitchen_1 : decode cX11_kitchen 1 = .ok (.invokestatic 255, 3) := by decide +kernel
theorem dX11_kitchen_4 : decode cX11_kitchen 4 = .ok (.ifCond .ne 14, 3) := by decide +kernel
theorem dX11_kitchen_7 : decode cX11_kitchen 7 = .ok (.new 158, 3) := by decide +kernel
theorem dX11_kitchen_10 : decode cX11_kitchen 10 = .ok (.dup, 1) := by decide +kernel
theorem dX11_kitchen_11 : decode cX11_kitchen 11 = .ok (.ldc_w 272, 3) := by decide +kernel
theorem dX11_kitchen_14 : decode cX11_kitchen 14 = .ok (.invokespecial 162, 3) := by decide +kernel
theorem dX11_kitchen_17 : decode cX11_kitchen 17 = .ok (.athrow, 1) := by decide +kernel
theorem dX11_kitchen_18 : decode cX11_kitchen 18 = .ok (.aload_n 0, 1) := by decide +kernel
theorem dX11_kitchen_19 : decode cX11_kitchen 19 = .ok (.getfield 23, 3) := by decide +kernel
theorem dX11_kitchen_22 : decode cX11_kitchen 22 = .ok (.getfield 148, 3) := by decide +kernel
theorem dX11_kitchen_25 : decode cX11_kitchen 25 = .ok (.iload_n 1, 1) := by decide +kernel
theorem dX11_kitchen_26 : decode cX11_kitchen 26 = .ok (.invokevirtual 362, 3) := by decide +kernel
theorem dX11_kitchen_29 : decode cX11_kitchen 29 = .ok (.ireturn, 1) := by decide +kernel
theorem dX11_dated_0 : decode cX11_dated 0 = .ok (.iload_n 1, 1) := by decide +kernel
theorem dX11_dated_1 : decode cX11_dated 1 = .ok (.aload_n 0, 1) := by decide +kernel
theorem dX11_dated_2 : decode cX11_dated 2 = .ok (.getfield 23, 3) := by decide +kernel
theorem dX11_dated_5 : decode cX11_dated 5 = .ok (.getfield 148, 3) := by decide +kernel
theorem dX11_dated_8 : decode cX11_dated 8 = .ok (.invokevirtual 214, 3) := by decide +kernel
theorem dX11_dated_11 : decode cX11_dated 11 = .ok (.iand, 1) := by decide +kernel
theorem dX11_dated_12 : decode cX11_dated 12 = .ok (.istore_n 2, 1) := by decide +kernel
theorem dX11_dated_13 : decode cX11_dated 13 = .ok (.iconst (-1), 1) := by decide +kernel
theorem dX11_dated_14 : decode cX11_dated 14 = .ok (.istore_n 3, 1) := by decide +kernel
theorem dX11_dated_15 : decode cX11_dated 15 = .ok (.iconst 0, 1) := by decide +kernel
theorem dX11_dated_16 : decode cX11_dated 16 = .ok (.istore 4, 2) := by decide +kernel
theorem dX11_dated_18 : decode cX11_dated 18 = .ok (.iload 4, 2) := by decide +kernel
theorem dX11_dated_20 : decode cX11_dated 20 = .ok (.aload_n 0, 1) := by decide +kernel
theorem dX11_dated_21 : decode cX11_dated 21 = .ok (.getfield 23, 3) := by decide +kernel
theorem dX11_dated_24 : decode cX11_dated 24 = .ok (.getfield 148, 3) := by decide +kernel
theorem dX11_dated_27 : decode cX11_dated 27 = .ok (.getfield 211, 3) := by decide +kernel
theorem dX11_dated_30 : decode cX11_dated 30 = .ok (.if_icmp .ge 53, 3) := by decide +kernel
theorem dX11_dated_33 : decode cX11_dated 33 = .ok (.iload_n 2, 1) := by decide +kernel
theorem dX11_dated_34 : decode cX11_dated 34 = .ok (.iload 4, 2) := by decide +kernel
theorem dX11_dated_36 : decode cX11_dated 36 = .ok (.ishr, 1) := by decide +kernel
theorem dX11_dated_37 : decode cX11_dated 37 = .ok (.iconst 1, 1) := by decide +kernel
theorem dX11_dated_38 : decode cX11_dated 38 = .ok (.iand, 1) := by decide +kernel
theorem dX11_dated_39 : decode cX11_dated 39 = .ok (.ifCond .eq 38, 3) := by decide +kernel
theorem dX11_dated_42 : decode cX11_dated 42 = .ok (.aload_n 0, 1) := by decide +kernel
theorem dX11_dated_43 : decode cX11_dated 43 = .ok (.getfield 23, 3) := by decide +kernel
theorem dX11_dated_46 : decode cX11_dated 46 = .ok (.getfield 148, 3) := by decide +kernel
theorem dX11_dated_49 : decode cX11_dated 49 = .ok (.iload 4, 2) := by decide +kernel
theorem dX11_dated_51 : decode cX11_dated 51 = .ok (.invokevirtual 265, 3) := by decide +kernel
theorem dX11_dated_54 : decode cX11_dated 54 = .ok (.ifCond .ne 5, 3) := by decide +kernel
theorem dX11_dated_57 : decode cX11_dated 57 = .ok (.iconst (-1), 1) := by decide +kernel
theorem dX11_dated_58 : decode cX11_dated 58 = .ok (.ireturn, 1) := by decide +kernel
theorem dX11_dated_59 : decode cX11_dated 59 = .ok (.iload_n 3, 1) := by decide +kernel
theorem dX11_dated_60 : decode cX11_dated 60 = .ok (.aload_n 0, 1) := by decide +kernel
theorem dX11_dated_61 : decode cX11_dated 61 = .ok (.getfield 23, 3) := by decide +kernel
theorem dX11_dated_64 : decode cX11_dated 64 = .ok (.getfield 148, 3) := by decide +kernel
theorem dX11_dated_67 : decode cX11_dated 67 = .ok (.getfield 171, 3) := by decide +kernel
theorem dX11_dated_70 : decode cX11_dated 70 = .ok (.iload 4, 2) := by decide +kernel
theorem dX11_dated_72 : decode cX11_dated 72 = .ok (.iaload, 1) := by decide +kernel
theorem dX11_dated_73 : decode cX11_dated 73 = .ok (.invokestatic 350, 3) := by decide +kernel
theorem dX11_dated_76 : decode cX11_dated 76 = .ok (.istore_n 3, 1) := by decide +kernel
theorem dX11_dated_77 : decode cX11_dated 77 = .ok (.iinc 4 1, 3) := by decide +kernel
theorem dX11_dated_80 : decode cX11_dated 80 = .ok (.goto (-62), 3) := by decide +kernel
theorem dX11_dated_83 : decode cX11_dated 83 = .ok (.iload_n 3, 1) := by decide +kernel
theorem dX11_dated_84 : decode cX11_dated 84 = .ok (.ireturn, 1) := by decide +kernel
theorem dX11_gap_0 : decode cX11_gap 0 = .ok (.iconst 0, 1) := by decide +kernel
theorem dX11_gap_1 : decode cX11_gap 1 = .ok (.istore_n 1, 1) := by decide +kernel
theorem dX11_gap_2 : decode cX11_gap 2 = .ok (.iconst 0, 1) := by decide +kernel
theorem dX11_gap_3 : decode cX11_gap 3 = .ok (.istore_n 2, 1) := by decide +kernel
theorem dX11_gap_4 : decode cX11_gap 4 = .ok (.iload_n 2, 1) := by decide +kernel
theorem dX11_gap_5 : decode cX11_gap 5 = .ok (.aload_n 0, 1) := by decide +kernel
theorem dX11_gap_6 : decode cX11_gap 6 = .ok (.getfield 23, 3) := by decide +kernel
theorem dX11_gap_9 : decode cX11_gap 9 = .ok (.getfield 148, 3) := by decide +kernel
theorem dX11_gap_12 : decode cX11_gap 12 = .ok (.getfield 211, 3) := by decide +kernel
theorem dX11_gap_15 : decode cX11_gap 15 = .ok (.if_icmp .ge 81, 3) := by decide +kernel
theorem dX11_gap_18 : decode cX11_gap 18 = .ok (.aload_n 0, 1) := by decide +kernel
theorem dX11_gap_19 : decode cX11_gap 19 = .ok (.getfield 23, 3) := by decide +kernel
theorem dX11_gap_22 : decode cX11_gap 22 = .ok (.getfield 148, 3) := by decide +kernel
theorem dX11_gap_25 : decode cX11_gap 25 = .ok (.iload_n 2, 1) := by decide +kernel
theorem dX11_gap_26 : decode cX11_gap 26 = .ok (.invokevirtual 265, 3) := by decide +kernel
theorem dX11_gap_29 : decode cX11_gap 29 = .ok (.ifCond .eq 61, 3) := by decide +kernel
theorem dX11_gap_32 : decode cX11_gap 32 = .ok (.aload_n 0, 1) := by decide +kernel
theorem dX11_gap_33 : decode cX11_gap 33 = .ok (.getfield 23, 3) := by decide +kernel
theorem dX11_gap_36 : decode cX11_gap 36 = .ok (.getfield 148, 3) := by decide +kernel
theorem dX11_gap_39 : decode cX11_gap 39 = .ok (.aload_n 0, 1) := by decide +kernel
theorem dX11_gap_40 : decode cX11_gap 40 = .ok (.getfield 23, 3) := by decide +kernel
theorem dX11_gap_43 : decode cX11_gap 43 = .ok (.getfield 148, 3) := by decide +kernel
theorem dX11_gap_46 : decode cX11_gap 46 = .ok (.getfield 171, 3) := by decide +kernel
theorem dX11_gap_49 : decode cX11_gap 49 = .ok (.iload_n 2, 1) := by decide +kernel
theorem dX11_gap_50 : decode cX11_gap 50 = .ok (.iaload, 1) := by decide +kernel
theorem dX11_gap_51 : decode cX11_gap 51 = .ok (.invokevirtual 365, 3) := by decide +kernel
theorem dX11_gap_54 : decode cX11_gap 54 = .ok (.istore_n 3, 1) := by decide +kernel
theorem dX11_gap_55 : decode cX11_gap 55 = .ok (.iload_n 3, 1) := by decide +kernel
theorem dX11_gap_56 : decode cX11_gap 56 = .ok (.iconst (-1), 1) := by decide +kernel
theorem dX11_gap_57 : decode cX11_gap 57 = .ok (.if_icmp .eq 33, 3) := by decide +kernel
theorem dX11_gap_60 : decode cX11_gap 60 = .ok (.iload_n 1, 1) := by decide +kernel
theorem dX11_gap_61 : decode cX11_gap 61 = .ok (.aload_n 0, 1) := by decide +kernel
theorem dX11_gap_62 : decode cX11_gap 62 = .ok (.getfield 23, 3) := by decide +kernel
theorem dX11_gap_65 : decode cX11_gap 65 = .ok (.getfield 148, 3) := by decide +kernel
theorem dX11_gap_68 : decode cX11_gap 68 = .ok (.getfield 171, 3) := by decide +kernel
theorem dX11_gap_71 : decode cX11_gap 71 = .ok (.iload_n 3, 1) := by decide +kernel
theorem dX11_gap_72 : decode cX11_gap 72 = .ok (.iaload, 1) := by decide +kernel
theorem dX11_gap_73 : decode cX11_gap 73 = .ok (.aload_n 0, 1) := by decide +kernel
theorem dX11_gap_74 : decode cX11_gap 74 = .ok (.getfield 23, 3) := by decide +kernel
theorem dX11_gap_77 : decode cX11_gap 77 = .ok (.getfield 148, 3) := by decide +kernel
theorem dX11_gap_80 : decode cX11_gap 80 = .ok (.getfield 171, 3) := by decide +kernel
theorem dX11_gap_83 : decode cX11_gap 83 = .ok (.iload_n 2, 1) := by decide +kernel
theorem dX11_gap_84 : decode cX11_gap 84 = .ok (.iaload, 1) := by decide +kernel
theorem dX11_gap_85 : decode cX11_gap 85 = .ok (.isub, 1) := by decide +kernel
theorem dX11_gap_86 : decode cX11_gap 86 = .ok (.invokestatic 350, 3) := by decide +kernel
theorem dX11_gap_89 : decode cX11_gap 89 = .ok (.istore_n 1, 1) := by decide +kernel
theorem dX11_gap_90 : decode cX11_gap 90 = .ok (.iinc 2 1, 3) := by decide +kernel
theorem dX11_gap_93 : decode cX11_gap 93 = .ok (.goto (-89), 3) := by decide +kernel
theorem dX11_gap_96 : decode cX11_gap 96 = .ok (.iload_n 1, 1) := by decide +kernel
theorem dX11_gap_97 : decode cX11_gap 97 = .ok (.ireturn, 1) := by decide +kernel
theorem dX11_lover_0 : decode cX11_lover 0 = .ok (.iconst (-1), 1) := by decide +kernel
theorem dX11_lover_1 : decode cX11_lover 1 = .ok (.istore_n 1, 1) := by decide +kernel
theorem dX11_lover_2 : decode cX11_lover 2 = .ok (.iconst 0, 1) := by decide +kernel
theorem dX11_lover_3 : decode cX11_lover 3 = .ok (.istore_n 2, 1) := by decide +kernel
theorem dX11_lover_4 : decode cX11_lover 4 = .ok (.iconst 0, 1) := by decide +kernel
theorem dX11_lover_5 : decode cX11_lover 5 = .ok (.istore_n 3, 1) := by decide +kernel
theorem dX11_lover_6 : decode cX11_lover 6 = .ok (.iload_n 3, 1) := by decide +kernel
theorem dX11_lover_7 : decode cX11_lover 7 = .ok (.bipush 7, 2) := by decide +kernel
theorem dX11_lover_9 : decode cX11_lover 9 = .ok (.if_icmp .gt 36, 3) := by decide +kernel
theorem dX11_lover_12 : decode cX11_lover 12 = .ok (.aload_n 0, 1) := by decide +kernel
theorem dX11_lover_13 : decode cX11_lover 13 = .ok (.getfield 23, 3) := by decide +kernel
theorem dX11_lover_16 : decode cX11_lover 16 = .ok (.getfield 148, 3) := by decide +kernel
theorem dX11_lover_19 : decode cX11_lover 19 = .ok (.iload_n 3, 1) := by decide +kernel
theorem dX11_lover_20 : decode cX11_lover 20 = .ok (.invokevirtual 368, 3) := by decide +kernel
theorem dX11_lover_23 : decode cX11_lover 23 = .ok (.invokestatic 311, 3) := by decide +kernel
theorem dX11_lover_26 : decode cX11_lover 26 = .ok (.istore 4, 2) := by decide +kernel
theorem dX11_lover_28 : decode cX11_lover 28 = .ok (.iload 4, 2) := by decide +kernel
theorem dX11_lover_30 : decode cX11_lover 30 = .ok (.iload_n 2, 1) := by decide +kernel
theorem dX11_lover_31 : decode cX11_lover 31 = .ok (.if_icmp .le 8, 3) := by decide +kernel
theorem dX11_lover_34 : decode cX11_lover 34 = .ok (.iload 4, 2) := by decide +kernel
theorem dX11_lover_36 : decode cX11_lover 36 = .ok (.istore_n 2, 1) := by decide +kernel
theorem dX11_lover_37 : decode cX11_lover 37 = .ok (.iload_n 3, 1) := by decide +kernel
theorem dX11_lover_38 : decode cX11_lover 38 = .ok (.istore_n 1, 1) := by decide +kernel
theorem dX11_lover_39 : decode cX11_lover 39 = .ok (.iinc 3 1, 3) := by decide +kernel
theorem dX11_lover_42 : decode cX11_lover 42 = .ok (.goto (-36), 3) := by decide +kernel
theorem dX11_lover_45 : decode cX11_lover 45 = .ok (.iload_n 1, 1) := by decide +kernel
theorem dX11_lover_46 : decode cX11_lover 46 = .ok (.ireturn, 1) := by decide +kernel
theorem dX11_oldest_0 : decode cX11_oldest 0 = .ok (.aload_n 0, 1) := by decide +kernel
theorem dX11_oldest_1 : decode cX11_oldest 1 = .ok (.getfield 23, 3) := by decide +kernel
theorem dX11_oldest_4 : decode cX11_oldest 4 = .ok (.getfield 148, 3) := by decide +kernel
theorem dX11_oldest_7 : decode cX11_oldest 7 = .ok (.iconst (-1), 1) := by decide +kernel
theorem dX11_oldest_8 : decode cX11_oldest 8 = .ok (.invokevirtual 365, 3) := by decide +kernel
theorem dX11_oldest_11 : decode cX11_oldest 11 = .ok (.ireturn, 1) := by decide +kernel
theorem dX11_sad_0 : decode cX11_sad 0 = .ok (.iconst (-1), 1) := by decide +kernel
theorem dX11_sad_1 : decode cX11_sad 1 = .ok (.istore_n 1, 1) := by decide +kernel
theorem dX11_sad_2 : decode cX11_sad 2 = .ok (.iconst 0, 1) := by decide +kernel
theorem dX11_sad_3 : decode cX11_sad 3 = .ok (.istore_n 2, 1) := by decide +kernel
theorem dX11_sad_4 : decode cX11_sad 4 = .ok (.iconst 0, 1) := by decide +kernel
theorem dX11_sad_5 : decode cX11_sad 5 = .ok (.istore_n 3, 1) := by decide +kernel
theorem dX11_sad_6 : decode cX11_sad 6 = .ok (.iload_n 3, 1) := by decide +kernel
theorem dX11_sad_7 : decode cX11_sad 7 = .ok (.aload_n 0, 1) := by decide +kernel
theorem dX11_sad_8 : decode cX11_sad 8 = .ok (.getfield 23, 3) := by decide +kernel
theorem dX11_sad_11 : decode cX11_sad 11 = .ok (.getfield 148, 3) := by decide +kernel
theorem dX11_sad_14 : decode cX11_sad 14 = .ok (.getfield 211, 3) := by decide +kernel
theorem dX11_sad_17 : decode cX11_sad 17 = .ok (.if_icmp .ge 32, 3) := by decide +kernel
theorem dX11_sad_20 : decode cX11_sad 20 = .ok (.aload_n 0, 1) := by decide +kernel
theorem dX11_sad_21 : decode cX11_sad 21 = .ok (.iload_n 3, 1) := by decide +kernel
theorem dX11_sad_22 : decode cX11_sad 22 = .ok (.invokevirtual 187, 3) := by decide +kernel
theorem dX11_sad_25 : decode cX11_sad 25 = .ok (.istore 4, 2) := by decide +kernel
theorem dX11_sad_27 : decode cX11_sad 27 = .ok (.iload_n 1, 1) := by decide +kernel
theorem dX11_sad_28 : decode cX11_sad 28 = .ok (.iconst (-1), 1) := by decide +kernel
theorem dX11_sad_29 : decode cX11_sad 29 = .ok (.if_icmp .eq 9, 3) := by decide +kernel
theorem dX11_sad_32 : decode cX11_sad 32 = .ok (.iload 4, 2) := by decide +kernel
theorem dX11_sad_34 : decode cX11_sad 34 = .ok (.iload_n 2, 1) := by decide +kernel
theorem dX11_sad_35 : decode cX11_sad 35 = .ok (.if_icmp .le 8, 3) := by decide +kernel
theorem dX11_sad_38 : decode cX11_sad 38 = .ok (.iload 4, 2) := by decide +kernel
theorem dX11_sad_40 : decode cX11_sad 40 = .ok (.istore_n 2, 1) := by decide +kernel
theorem dX11_sad_41 : decode cX11_sad 41 = .ok (.iload_n 3, 1) := by decide +kernel
theorem dX11_sad_42 : decode cX11_sad 42 = .ok (.istore_n 1, 1) := by decide +kernel
theorem dX11_sad_43 : decode cX11_sad 43 = .ok (.iinc 3 1, 3) := by decide +kernel
theorem dX11_sad_46 : decode cX11_sad 46 = .ok (.goto (-40), 3) := by decide +kernel
theorem dX11_sad_49 : decode cX11_sad 49 = .ok (.iload_n 1, 1) := by decide +kernel
theorem dX11_sad_50 : decode cX11_sad 50 = .ok (.ireturn, 1) := by decide +kernel
theorem dX11_hosts_0 : decode cX11_hosts 0 = .ok (.aload_n 0, 1) := by decide +kernel
theorem dX11_hosts_1 : decode cX11_hosts 1 = .ok (.getfield 23, 3) := by decide +kernel
theorem dX11_hosts_4 : decode cX11_hosts 4 = .ok (.getfield 148, 3) := by decide +kernel
theorem dX11_hosts_7 : decode cX11_hosts 7 = .ok (.iload_n 1, 1) := by decide +kernel
theorem dX11_hosts_8 : decode cX11_hosts 8 = .ok (.invokevirtual 152, 3) := by decide +kernel
theorem dX11_hosts_11 : decode cX11_hosts 11 = .ok (.ifCond .eq 17, 3) := by decide +kernel
theorem dX11_hosts_14 : decode cX11_hosts 14 = .ok (.aload_n 0, 1) := by decide +kernel
theorem dX11_hosts_15 : decode cX11_hosts 15 = .ok (.getfield 23, 3) := by decide +kernel
theorem dX11_hosts_18 : decode cX11_hosts 18 = .ok (.getfield 148, 3) := by decide +kernel
theorem dX11_hosts_21 : decode cX11_hosts 21 = .ok (.iload_n 2, 1) := by decide +kernel
theorem dX11_hosts_22 : decode cX11_hosts 22 = .ok (.invokevirtual 152, 3) := by decide +kernel
theorem dX11_hosts_25 : decode cX11_hosts 25 = .ok (.ifCond .ne 13, 3) := by decide +kernel
theorem dX11_hosts_28 : decode cX11_hosts 28 = .ok (.new 158, 3) := by decide +kernel
theorem dX11_hosts_31 : decode cX11_hosts 31 = .ok (.dup, 1) := by decide +kernel
theorem dX11_hosts_32 : decode cX11_hosts 32 = .ok (.ldc 160, 2) := by decide +kernel
theorem dX11_hosts_34 : decode cX11_hosts 34 = .ok (.invokespecial 162, 3) := by decide +kernel
theorem dX11_hosts_37 : decode cX11_hosts 37 = .ok (.athrow, 1) := by decide +kernel
theorem dX11_hosts_38 : decode cX11_hosts 38 = .ok (.iload_n 1, 1) := by decide +kernel
theorem dX11_hosts_39 : decode cX11_hosts 39 = .ok (.iload_n 2, 1) := by decide +kernel
theorem dX11_hosts_40 : decode cX11_hosts 40 = .ok (.if_icmp .ne 14, 3) := by decide +kernel
theorem dX11_hosts_43 : decode cX11_hosts 43 = .ok (.new 118, 3) := by decide +kernel
theorem dX11_hosts_46 : decode cX11_hosts 46 = .ok (.dup, 1) := by decide +kernel
theorem dX11_hosts_47 : decode cX11_hosts 47 = .ok (.ldc_w 371, 3) := by decide +kernel
theorem dX11_hosts_50 : decode cX11_hosts 50 = .ok (.invokespecial 122, 3) := by decide +kernel
theorem dX11_hosts_53 : decode cX11_hosts 53 = .ok (.athrow, 1) := by decide +kernel
theorem dX11_hosts_54 : decode cX11_hosts 54 = .ok (.aload_n 0, 1) := by decide +kernel
theorem dX11_hosts_55 : decode cX11_hosts 55 = .ok (.getfield 23, 3) := by decide +kernel
theorem dX11_hosts_58 : decode cX11_hosts 58 = .ok (.getfield 148, 3) := by decide +kernel
theorem dX11_hosts_61 : decode cX11_hosts 61 = .ok (.iload_n 1, 1) := by decide +kernel
theorem dX11_hosts_62 : decode cX11_hosts 62 = .ok (.iload_n 2, 1) := by decide +kernel
theorem dX11_hosts_63 : decode cX11_hosts 63 = .ok (.invokevirtual 208, 3) := by decide +kernel
theorem dX11_hosts_66 : decode cX11_hosts 66 = .ok (.aload_n 0, 1) := by decide +kernel
theorem dX11_hosts_67 : decode cX11_hosts 67 = .ok (.getfield 23, 3) := by decide +kernel
theorem dX11_hosts_70 : decode cX11_hosts 70 = .ok (.getfield 180, 3) := by decide +kernel
theorem dX11_hosts_73 : decode cX11_hosts 73 = .ok (.if_icmp .gt 7, 3) := by decide +kernel
theorem dX11_hosts_76 : decode cX11_hosts 76 = .ok (.iconst 2, 1) := by decide +kernel
theorem dX11_hosts_77 : decode cX11_hosts 77 = .ok (.goto 4, 3) := by decide +kernel
theorem dX11_hosts_80 : decode cX11_hosts 80 = .ok (.iconst 0, 1) := by decide +kernel
theorem dX11_hosts_81 : decode cX11_hosts 81 = .ok (.istore_n 3, 1) := by decide +kernel
theorem dX11_hosts_82 : decode cX11_hosts 82 = .ok (.aload_n 0, 1) := by decide +kernel
theorem dX11_hosts_83 : decode cX11_hosts 83 = .ok (.iload_n 1, 1) := by decide +kernel
theorem dX11_hosts_84 : decode cX11_hosts 84 = .ok (.invokevirtual 191, 3) := by decide +kernel
theorem dX11_hosts_87 : decode cX11_hosts 87 = .ok (.istore 4, 2) := by decide +kernel
theorem dX11_hosts_89 : decode cX11_hosts 89 = .ok (.aload_n 0, 1) := by decide +kernel
theorem dX11_hosts_90 : decode cX11_hosts 90 = .ok (.iload_n 2, 1) := by decide +kernel
theorem dX11_hosts_91 : decode cX11_hosts 91 = .ok (.invokevirtual 191, 3) := by decide +kernel
theorem dX11_hosts_94 : decode cX11_hosts 94 = .ok (.istore 5, 2) := by decide +kernel
theorem dX11_hosts_96 : decode cX11_hosts 96 = .ok (.iload 4, 2) := by decide +kernel
theorem dX11_hosts_98 : decode cX11_hosts 98 = .ok (.iconst 2, 1) := by decide +kernel
theorem dX11_hosts_99 : decode cX11_hosts 99 = .ok (.idiv, 1) := by decide +kernel
theorem dX11_hosts_100 : decode cX11_hosts 100 = .ok (.iload 5, 2) := by decide +kernel
theorem dX11_hosts_102 : decode cX11_hosts 102 = .ok (.iload_n 3, 1) := by decide +kernel
theorem dX11_hosts_103 : decode cX11_hosts 103 = .ok (.isub, 1) := by decide +kernel
theorem dX11_hosts_104 : decode cX11_hosts 104 = .ok (.if_icmp .lt 7, 3) := by decide +kernel
theorem dX11_hosts_107 : decode cX11_hosts 107 = .ok (.iconst 1, 1) := by decide +kernel
theorem dX11_hosts_108 : decode cX11_hosts 108 = .ok (.goto 4, 3) := by decide +kernel
theorem dX11_hosts_111 : decode cX11_hosts 111 = .ok (.iconst 0, 1) := by decide +kernel
theorem dX11_hosts_112 : decode cX11_hosts 112 = .ok (.istore 6, 2) := by decide +kernel
theorem dX11_hosts_114 : decode cX11_hosts 114 = .ok (.iload 5, 2) := by decide +kernel
theorem dX11_hosts_116 : decode cX11_hosts 116 = .ok (.iconst 2, 1) := by decide +kernel
theorem dX11_hosts_117 : decode cX11_hosts 117 = .ok (.idiv, 1) := by decide +kernel
theorem dX11_hosts_118 : decode cX11_hosts 118 = .ok (.iload 4, 2) := by decide +kernel
theorem dX11_hosts_120 : decode cX11_hosts 120 = .ok (.iload_n 3, 1) := by decide +kernel
theorem dX11_hosts_121 : decode cX11_hosts 121 = .ok (.isub, 1) := by decide +kernel
theorem dX11_hosts_122 : decode cX11_hosts 122 = .ok (.if_icmp .lt 7, 3) := by decide +kernel
theorem dX11_hosts_125 : decode cX11_hosts 125 = .ok (.iconst 1, 1) := by decide +kernel
theorem dX11_hosts_126 : decode cX11_hosts 126 = .ok (.goto 4, 3) := by decide +kernel
theorem dX11_hosts_129 : decode cX11_hosts 129 = .ok (.iconst 0, 1) := by decide +kernel
theorem dX11_hosts_130 : decode cX11_hosts 130 = .ok (.istore 7, 2) := by decide +kernel
theorem dX11_hosts_132 : decode cX11_hosts 132 = .ok (.iload 4, 2) := by decide +kernel
theorem dX11_hosts_134 : decode cX11_hosts 134 = .ok (.iload_n 3, 1) := by decide +kernel
theorem dX11_hosts_135 : decode cX11_hosts 135 = .ok (.isub, 1) := by decide +kernel
theorem dX11_hosts_136 : decode cX11_hosts 136 = .ok (.iload 5, 2) := by decide +kernel
theorem dX11_hosts_138 : decode cX11_hosts 138 = .ok (.iconst 2, 1) := by decide +kernel
theorem dX11_hosts_139 : decode cX11_hosts 139 = .ok (.idiv, 1) := by decide +kernel
theorem dX11_hosts_140 : decode cX11_hosts 140 = .ok (.if_icmp .lt 18, 3) := by decide +kernel
theorem dX11_hosts_143 : decode cX11_hosts 143 = .ok (.iload 5, 2) := by decide +kernel
theorem dX11_hosts_145 : decode cX11_hosts 145 = .ok (.iload_n 3, 1) := by decide +kernel
theorem dX11_hosts_146 : decode cX11_hosts 146 = .ok (.isub, 1) := by decide +kernel
theorem dX11_hosts_147 : decode cX11_hosts 147 = .ok (.iload 4, 2) := by decide +kernel
theorem dX11_hosts_149 : decode cX11_hosts 149 = .ok (.iconst 2, 1) := by decide +kernel
theorem dX11_hosts_150 : decode cX11_hosts 150 = .ok (.idiv, 1) := by decide +kernel
theorem dX11_hosts_151 : decode cX11_hosts 151 = .ok (.if_icmp .lt 7, 3) := by decide +kernel
theorem dX11_hosts_154 : decode cX11_hosts 154 = .ok (.iconst 1, 1) := by decide +kernel
theorem dX11_hosts_155 : decode cX11_hosts 155 = .ok (.goto 4, 3) := by decide +kernel
theorem dX11_hosts_158 : decode cX11_hosts 158 = .ok (.iconst 0, 1) := by decide +kernel
theorem dX11_hosts_159 : decode cX11_hosts 159 = .ok (.istore 8, 2) := by decide +kernel
theorem dX11_hosts_161 : decode cX11_hosts 161 = .ok (.iload 6, 2) := by decide +kernel
theorem dX11_hosts_163 : decode cX11_hosts 163 = .ok (.ifCond .eq 7, 3) := by decide +kernel
theorem dX11_hosts_166 : decode cX11_hosts 166 = .ok (.iconst 1, 1) := by decide +kernel
theorem dX11_hosts_167 : decode cX11_hosts 167 = .ok (.goto 4, 3) := by decide +kernel
theorem dX11_hosts_170 : decode cX11_hosts 170 = .ok (.iconst 0, 1) := by decide +kernel
theorem dX11_hosts_171 : decode cX11_hosts 171 = .ok (.iload 8, 2) := by decide +kernel
theorem dX11_hosts_173 : decode cX11_hosts 173 = .ok (.ifCond .eq 8, 3) := by decide +kernel
theorem dX11_hosts_176 : decode cX11_hosts 176 = .ok (.bipush 6, 2) := by decide +kernel
theorem dX11_hosts_178 : decode cX11_hosts 178 = .ok (.goto 4, 3) := by decide +kernel
theorem dX11_hosts_181 : decode cX11_hosts 181 = .ok (.iconst 0, 1) := by decide +kernel
theorem dX11_hosts_182 : decode cX11_hosts 182 = .ok (.ior, 1) := by decide +kernel
theorem dX11_hosts_183 : decode cX11_hosts 183 = .ok (.iload 7, 2) := by decide +kernel
theorem dX11_hosts_185 : decode cX11_hosts 185 = .ok (.ifCond .eq 8, 3) := by decide +kernel
theorem dX11_hosts_188 : decode cX11_hosts 188 = .ok (.bipush 8, 2) := by decide +kernel
theorem dX11_hosts_190 : decode cX11_hosts 190 = .ok (.goto 4, 3) := by decide +kernel
theorem dX11_hosts_193 : decode cX11_hosts 193 = .ok (.iconst 0, 1) := by decide +kernel
theorem dX11_hosts_194 : decode cX11_hosts 194 = .ok (.ior, 1) := by decide +kernel
theorem dX11_hosts_195 : decode cX11_hosts 195 = .ok (.ireturn, 1) := by decide +kernel
theorem dX11_breaks_0 : decode cX11_breaks 0 = .ok (.aload_n 0, 1) := by decide +kernel
theorem dX11_breaks_1 : decode cX11_breaks 1 = .ok (.getfield 23, 3) := by decide +kernel
theorem dX11_breaks_4 : decode cX11_breaks 4 = .ok (.getfield 148, 3) := by decide +kernel
theorem dX11_breaks_7 : decode cX11_breaks 7 = .ok (.iload_n 1, 1) := by decide +kernel
theorem dX11_breaks_8 : decode cX11_breaks 8 = .ok (.invokevirtual 152, 3) := by decide +kernel
theorem dX11_breaks_11 : decode cX11_breaks 11 = .ok (.ifCond .ne 13, 3) := by decide +kernel
theorem dX11_breaks_14 : decode cX11_breaks 14 = .ok (.new 158, 3) := by decide +kernel
theorem dX11_breaks_17 : decode cX11_breaks 17 = .ok (.dup, 1) := by decide +kernel
theorem dX11_breaks_18 : decode cX11_breaks 18 = .ok (.ldc 160, 2) := by decide +kernel
theorem dX11_breaks_20 : decode cX11_breaks 20 = .ok (.invokespecial 162, 3) := by decide +kernel
theorem dX11_breaks_23 : decode cX11_breaks 23 = .ok (.athrow, 1) := by decide +kernel
theorem dX11_breaks_24 : decode cX11_breaks 24 = .ok (.aload_n 0, 1) := by decide +kernel
theorem dX11_breaks_25 : decode cX11_breaks 25 = .ok (.getfield 61, 3) := by decide +kernel
theorem dX11_breaks_28 : decode cX11_breaks 28 = .ok (.aload_n 0, 1) := by decide +kernel
theorem dX11_breaks_29 : decode cX11_breaks 29 = .ok (.getfield 23, 3) := by decide +kernel
theorem dX11_breaks_32 : decode cX11_breaks 32 = .ok (.invokevirtual 106, 3) := by decide +kernel
theorem dX11_breaks_35 : decode cX11_breaks 35 = .ok (.iconst 0, 1) := by decide +kernel
theorem dX11_breaks_36 : decode cX11_breaks 36 = .ok (.istore_n 2, 1) := by decide +kernel
theorem dX11_breaks_37 : decode cX11_breaks 37 = .ok (.iload_n 2, 1) := by decide +kernel
theorem dX11_breaks_38 : decode cX11_breaks 38 = .ok (.bipush 100, 2) := by decide +kernel
theorem dX11_breaks_40 : decode cX11_breaks 40 = .ok (.if_icmp .ge 38, 3) := by decide +kernel
theorem dX11_breaks_43 : decode cX11_breaks 43 = .ok (.aload_n 0, 1) := by decide +kernel
theorem dX11_breaks_44 : decode cX11_breaks 44 = .ok (.getfield 61, 3) := by decide +kernel
theorem dX11_breaks_47 : decode cX11_breaks 47 = .ok (.iload_n 1, 1) := by decide +kernel
theorem dX11_breaks_48 : decode cX11_breaks 48 = .ok (.invokevirtual 295, 3) := by decide +kernel
theorem dX11_breaks_51 : decode cX11_breaks 51 = .ok (.ifCond .ne 5, 3) := by decide +kernel
theorem dX11_breaks_54 : decode cX11_breaks 54 = .ok (.iload_n 2, 1) := by decide +kernel
theorem dX11_breaks_55 : decode cX11_breaks 55 = .ok (.ireturn, 1) := by decide +kernel
theorem dX11_breaks_56 : decode cX11_breaks 56 = .ok (.aload_n 0, 1) := by decide +kernel
theorem dX11_breaks_57 : decode cX11_breaks 57 = .ok (.getfield 61, 3) := by decide +kernel
theorem dX11_breaks_60 : decode cX11_breaks 60 = .ok (.iload_n 1, 1) := by decide +kernel
theorem dX11_breaks_61 : decode cX11_breaks 61 = .ok (.aload_n 0, 1) := by decide +kernel
theorem dX11_breaks_62 : decode cX11_breaks 62 = .ok (.getfield 30, 3) := by decide +kernel
theorem dX11_breaks_65 : decode cX11_breaks 65 = .ok (.aload_n 0, 1) := by decide +kernel
theorem dX11_breaks_66 : decode cX11_breaks 66 = .ok (.getfield 67, 3) := by decide +kernel
theorem dX11_breaks_69 : decode cX11_breaks 69 = .ok (.invokevirtual 232, 3) := by decide +kernel
theorem dX11_breaks_72 : decode cX11_breaks 72 = .ok (.iinc 2 1, 3) := by decide +kernel
theorem dX11_breaks_75 : decode cX11_breaks 75 = .ok (.goto (-38), 3) := by decide +kernel
theorem dX11_breaks_78 : decode cX11_breaks 78 = .ok (.aload_n 0, 1) := by decide +kernel
theorem dX11_breaks_79 : decode cX11_breaks 79 = .ok (.getfield 61, 3) := by decide +kernel
theorem dX11_breaks_82 : decode cX11_breaks 82 = .ok (.iload_n 1, 1) := by decide +kernel
theorem dX11_breaks_83 : decode cX11_breaks 83 = .ok (.invokevirtual 295, 3) := by decide +kernel
theorem dX11_breaks_86 : decode cX11_breaks 86 = .ok (.ifCond .eq 7, 3) := by decide +kernel
theorem dX11_breaks_89 : decode cX11_breaks 89 = .ok (.iconst (-1), 1) := by decide +kernel
theorem dX11_breaks_90 : decode cX11_breaks 90 = .ok (.goto 5, 3) := by decide +kernel
theorem dX11_breaks_93 : decode cX11_breaks 93 = .ok (.bipush 100, 2) := by decide +kernel
theorem dX11_breaks_95 : decode cX11_breaks 95 = .ok (.ireturn, 1) := by decide +kernel
theorem dX11_twins_0 : decode cX11_twins 0 = .ok (.iconst 0, 1) := by decide +kernel
theorem dX11_twins_1 : decode cX11_twins 1 = .ok (.istore_n 1, 1) := by decide +kernel
theorem dX11_twins_2 : decode cX11_twins 2 = .ok (.iconst 0, 1) := by decide +kernel
theorem dX11_twins_3 : decode cX11_twins 3 = .ok (.istore_n 2, 1) := by decide +kernel
theorem dX11_twins_4 : decode cX11_twins 4 = .ok (.iload_n 2, 1) := by decide +kernel
theorem dX11_twins_5 : decode cX11_twins 5 = .ok (.aload_n 0, 1) := by decide +kernel
theorem dX11_twins_6 : decode cX11_twins 6 = .ok (.getfield 23, 3) := by decide +kernel
theorem dX11_twins_9 : decode cX11_twins 9 = .ok (.getfield 148, 3) := by decide +kernel
theorem dX11_twins_12 : decode cX11_twins 12 = .ok (.getfield 211, 3) := by decide +kernel
theorem dX11_twins_15 : decode cX11_twins 15 = .ok (.if_icmp .ge 51, 3) := by decide +kernel
theorem dX11_twins_18 : decode cX11_twins 18 = .ok (.iload_n 2, 1) := by decide +kernel
theorem dX11_twins_19 : decode cX11_twins 19 = .ok (.iconst 1, 1) := by decide +kernel
theorem dX11_twins_20 : decode cX11_twins 20 = .ok (.iadd, 1) := by decide +kernel
theorem dX11_twins_21 : decode cX11_twins 21 = .ok (.istore_n 3, 1) := by decide +kernel
theorem dX11_twins_22 : decode cX11_twins 22 = .ok (.iload_n 3, 1) := by decide +kernel
theorem dX11_twins_23 : decode cX11_twins 23 = .ok (.aload_n 0, 1) := by decide +kernel
theorem dX11_twins_24 : decode cX11_twins 24 = .ok (.getfield 23, 3) := by decide +kernel
theorem dX11_twins_27 : decode cX11_twins 27 = .ok (.getfield 148, 3) := by decide +kernel
theorem dX11_twins_30 : decode cX11_twins 30 = .ok (.getfield 211, 3) := by decide +kernel
theorem dX11_twins_33 : decode cX11_twins 33 = .ok (.if_icmp .ge 27, 3) := by decide +kernel
theorem dX11_twins_36 : decode cX11_twins 36 = .ok (.aload_n 0, 1) := by decide +kernel
theorem dX11_twins_37 : decode cX11_twins 37 = .ok (.getfield 23, 3) := by decide +kernel
theorem dX11_twins_40 : decode cX11_twins 40 = .ok (.getfield 148, 3) := by decide +kernel
theorem dX11_twins_43 : decode cX11_twins 43 = .ok (.iload_n 2, 1) := by decide +kernel
theorem dX11_twins_44 : decode cX11_twins 44 = .ok (.iload_n 3, 1) := by decide +kernel
theorem dX11_twins_45 : decode cX11_twins 45 = .ok (.invokevirtual 208, 3) := by decide +kernel
theorem dX11_twins_48 : decode cX11_twins 48 = .ok (.ifCond .ne 6, 3) := by decide +kernel
theorem dX11_twins_51 : decode cX11_twins 51 = .ok (.iinc 1 1, 3) := by decide +kernel
theorem dX11_twins_54 : decode cX11_twins 54 = .ok (.iinc 3 1, 3) := by decide +kernel
theorem dX11_twins_57 : decode cX11_twins 57 = .ok (.goto (-35), 3) := by decide +kernel
theorem dX11_twins_60 : decode cX11_twins 60 = .ok (.iinc 2 1, 3) := by decide +kernel
theorem dX11_twins_63 : decode cX11_twins 63 = .ok (.goto (-59), 3) := by decide +kernel
theorem dX11_twins_66 : decode cX11_twins 66 = .ok (.iload_n 1, 1) := by decide +kernel
theorem dX11_twins_67 : decode cX11_twins 67 = .ok (.ireturn, 1) := by decide +kernel
theorem dX11_next_0 : decode cX11_next 0 = .ok (.aload_n 0, 1) := by decide +kernel
theorem dX11_next_1 : decode cX11_next 1 = .ok (.getfield 23, 3) := by decide +kernel
theorem dX11_next_4 : decode cX11_next 4 = .ok (.getfield 148, 3) := by decide +kernel
theorem dX11_next_7 : decode cX11_next 7 = .ok (.aload_n 0, 1) := by decide +kernel
theorem dX11_next_8 : decode cX11_next 8 = .ok (.getfield 23, 3) := by decide +kernel
theorem dX11_next_11 : decode cX11_next 11 = .ok (.getfield 242, 3) := by decide +kernel
theorem dX11_next_14 : decode cX11_next 14 = .ok (.invokevirtual 365, 3) := by decide +kernel
theorem dX11_next_17 : decode cX11_next 17 = .ok (.ireturn, 1) := by decide +kernel
theorem dX11_warlike_0 : decode cX11_warlike 0 = .ok (.aload_n 0, 1) := by decide +kernel
theorem dX11_warlike_1 : decode cX11_warlike 1 = .ok (.getfield 23, 3) := by decide +kernel
theorem dX11_warlike_4 : decode cX11_warlike 4 = .ok (.getfield 148, 3) := by decide +kernel
theorem dX11_warlike_7 : decode cX11_warlike 7 = .ok (.aload_n 0, 1) := by decide +kernel
theorem dX11_warlike_8 : decode cX11_warlike 8 = .ok (.getfield 23, 3) := by decide +kernel
theorem dX11_warlike_11 : decode cX11_warlike 11 = .ok (.getfield 373, 3) := by decide +kernel
theorem dX11_warlike_14 : decode cX11_warlike 14 = .ok (.aload_n 0, 1) := by decide +kernel
theorem dX11_warlike_15 : decode cX11_warlike 15 = .ok (.getfield 23, 3) := by decide +kernel
theorem dX11_warlike_18 : decode cX11_warlike 18 = .ok (.getfield 376, 3) := by decide +kernel
theorem dX11_warlike_21 : decode cX11_warlike 21 = .ok (.invokevirtual 347, 3) := by decide +kernel
theorem dX11_warlike_24 : decode cX11_warlike 24 = .ok (.ireturn, 1) := by decide +kernel
theorem dX11_company_0 : decode cX11_company 0 = .ok (.iload_n 1, 1) := by decide +kernel
theorem dX11_company_1 : decode cX11_company 1 = .ok (.ifCond .lt 9, 3) := by decide +kernel
theorem dX11_company_4 : decode cX11_company 4 = .ok (.iload_n 1, 1) := by decide +kernel
theorem dX11_company_5 : decode cX11_company 5 = .ok (.bipush 7, 2) := by decide +kernel
theorem dX11_company_7 : decode cX11_company 7 = .ok (.if_icmp .le 14, 3) := by decide +kernel
theorem dX11_company_10 : decode cX11_company 10 = .ok (.new 118, 3) := by decide +kernel
theorem dX11_company_13 : decode cX11_company 13 = .ok (.dup, 1) := by decide +kernel
theorem dX11_company_14 : decode cX11_company 14 = .ok (.ldc_w 379, 3) := by decide +kernel
theorem dX11_company_17 : decode cX11_company 17 = .ok (.invokespecial 122, 3) := by decide +kernel
theorem dX11_company_20 : decode cX11_company 20 = .ok (.athrow, 1) := by decide +kernel
theorem dX11_company_21 : decode cX11_company 21 = .ok (.aload_n 0, 1) := by decide +kernel
theorem dX11_company_22 : decode cX11_company 22 = .ok (.getfield 23, 3) := by decide +kernel
theorem dX11_company_25 : decode cX11_company 25 = .ok (.getfield 148, 3) := by decide +kernel
theorem dX11_company_28 : decode cX11_company 28 = .ok (.iload_n 1, 1) := by decide +kernel
theorem dX11_company_29 : decode cX11_company 29 = .ok (.invokevirtual 368, 3) := by decide +kernel
theorem dX11_company_32 : decode cX11_company 32 = .ok (.ireturn, 1) := by decide +kernel
theorem dX11_odds_0 : decode cX11_odds 0 = .ok (.iload_n 1, 1) := by decide +kernel
theorem dX11_odds_1 : decode cX11_odds 1 = .ok (.ifCond .lt 19, 3) := by decide +kernel
theorem dX11_odds_4 : decode cX11_odds 4 = .ok (.iload_n 1, 1) := by decide +kernel
theorem dX11_odds_5 : decode cX11_odds 5 = .ok (.bipush 6, 2) := by decide +kernel
theorem dX11_odds_7 : decode cX11_odds 7 = .ok (.if_icmp .gt 13, 3) := by decide +kernel
theorem dX11_odds_10 : decode cX11_odds 10 = .ok (.iload_n 2, 1) := by decide +kernel
theorem dX11_odds_11 : decode cX11_odds 11 = .ok (.ifCond .lt 9, 3) := by decide +kernel
theorem dX11_odds_14 : decode cX11_odds 14 = .ok (.iload_n 2, 1) := by decide +kernel
theorem dX11_odds_15 : decode cX11_odds 15 = .ok (.bipush 6, 2) := by decide +kernel
theorem dX11_odds_17 : decode cX11_odds 17 = .ok (.if_icmp .le 14, 3) := by decide +kernel
theorem dX11_odds_20 : decode cX11_odds 20 = .ok (.new 118, 3) := by decide +kernel
theorem dX11_odds_23 : decode cX11_odds 23 = .ok (.dup, 1) := by decide +kernel
theorem dX11_odds_24 : decode cX11_odds 24 = .ok (.ldc_w 381, 3) := by decide +kernel
theorem dX11_odds_27 : decode cX11_odds 27 = .ok (.invokespecial 122, 3) := by decide +kernel
theorem dX11_odds_30 : decode cX11_odds 30 = .ok (.athrow, 1) := by decide +kernel
theorem dX11_odds_31 : decode cX11_odds 31 = .ok (.iload_n 1, 1) := by decide +kernel
theorem dX11_odds_32 : decode cX11_odds 32 = .ok (.iload_n 2, 1) := by decide +kernel
theorem dX11_odds_33 : decode cX11_odds 33 = .ok (.aload_n 0, 1) := by decide +kernel
theorem dX11_odds_34 : decode cX11_odds 34 = .ok (.getfield 23, 3) := by decide +kernel
theorem dX11_odds_37 : decode cX11_odds 37 = .ok (.getfield 280, 3) := by decide +kernel
theorem dX11_odds_40 : decode cX11_odds 40 = .ok (.invokestatic 383, 3) := by decide +kernel
theorem dX11_odds_43 : decode cX11_odds 43 = .ok (.lstore_n 3, 1) := by decide +kernel
theorem dX11_odds_44 : decode cX11_odds 44 = .ok (.iload_n 1, 1) := by decide +kernel
theorem dX11_odds_45 : decode cX11_odds 45 = .ok (.istore 5, 2) := by decide +kernel
theorem dX11_odds_47 : decode cX11_odds 47 = .ok (.iload 5, 2) := by decide +kernel
theorem dX11_odds_49 : decode cX11_odds 49 = .ok (.iconst 2, 1) := by decide +kernel
theorem dX11_odds_50 : decode cX11_odds 50 = .ok (.if_icmp .ge 15, 3) := by decide +kernel
theorem dX11_odds_53 : decode cX11_odds 53 = .ok (.lload_n 3, 1) := by decide +kernel
theorem dX11_odds_54 : decode cX11_odds 54 = .ok (.ldc2_w 387, 3) := by decide +kernel
theorem dX11_odds_57 : decode cX11_odds 57 = .ok (.lmul, 1) := by decide +kernel
theorem dX11_odds_58 : decode cX11_odds 58 = .ok (.lstore_n 3, 1) := by decide +kernel
theorem dX11_odds_59 : decode cX11_odds 59 = .ok (.iinc 5 1, 3) := by decide +kernel
theorem dX11_odds_62 : decode cX11_odds 62 = .ok (.goto (-15), 3) := by decide +kernel
theorem dX11_odds_65 : decode cX11_odds 65 = .ok (.iload_n 1, 1) := by decide +kernel
theorem dX11_odds_66 : decode cX11_odds 66 = .ok (.istore 5, 2) := by decide +kernel
theorem dX11_odds_68 : decode cX11_odds 68 = .ok (.iload 5, 2) := by decide +kernel
theorem dX11_odds_70 : decode cX11_odds 70 = .ok (.iconst 2, 1) := by decide +kernel
theorem dX11_odds_71 : decode cX11_odds 71 = .ok (.if_icmp .le 15, 3) := by decide +kernel
theorem dX11_odds_74 : decode cX11_odds 74 = .ok (.lload_n 3, 1) := by decide +kernel
theorem dX11_odds_75 : decode cX11_odds 75 = .ok (.ldc2_w 387, 3) := by decide +kernel
theorem dX11_odds_78 : decode cX11_odds 78 = .ok (.ldiv, 1) := by decide +kernel
theorem dX11_odds_79 : decode cX11_odds 79 = .ok (.lstore_n 3, 1) := by decide +kernel
theorem dX11_odds_80 : decode cX11_odds 80 = .ok (.iinc 5 (-1), 3) := by decide +kernel
theorem dX11_odds_83 : decode cX11_odds 83 = .ok (.goto (-15), 3) := by decide +kernel
theorem dX11_odds_86 : decode cX11_odds 86 = .ok (.lload_n 3, 1) := by decide +kernel
theorem dX11_odds_87 : decode cX11_odds 87 = .ok (.l2i, 1) := by decide +kernel
theorem dX11_odds_88 : decode cX11_odds 88 = .ok (.ireturn, 1) := by decide +kernel
theorem dX11_slipParts_0 : decode cX11_slipParts 0 = .ok (.iload_n 0, 1) := by decide +kernel
theorem dX11_slipParts_1 : decode cX11_slipParts 1 = .ok (.ifCond .gt 13, 3) := by decide +kernel
theorem dX11_slipParts_4 : decode cX11_slipParts 4 = .ok (.iload_n 1, 1) := by decide +kernel
theorem dX11_slipParts_5 : decode cX11_slipParts 5 = .ok (.ifCond .gt 7, 3) := by decide +kernel
theorem dX11_slipParts_8 : decode cX11_slipParts 8 = .ok (.lconst 1, 1) := by decide +kernel
theorem dX11_slipParts_9 : decode cX11_slipParts 9 = .ok (.goto 4, 3) := by decide +kernel
theorem dX11_slipParts_12 : decode cX11_slipParts 12 = .ok (.lconst 0, 1) := by decide +kernel
theorem dX11_slipParts_13 : decode cX11_slipParts 13 = .ok (.lreturn, 1) := by decide +kernel
theorem dX11_slipParts_14 : decode cX11_slipParts 14 = .ok (.iload_n 2, 1) := by decide +kernel
theorem dX11_slipParts_15 : decode cX11_slipParts 15 = .ok (.i2l, 1) := by decide +kernel
theorem dX11_slipParts_16 : decode cX11_slipParts 16 = .ok (.iload_n 0, 1) := by decide +kernel
theorem dX11_slipParts_17 : decode cX11_slipParts 17 = .ok (.iconst 1, 1) := by decide +kernel
theorem dX11_slipParts_18 : decode cX11_slipParts 18 = .ok (.isub, 1) := by decide +kernel
theorem dX11_slipParts_19 : decode cX11_slipParts 19 = .ok (.iload_n 1, 1) := by decide +kernel
theorem dX11_slipParts_20 : decode cX11_slipParts 20 = .ok (.iconst 1, 1) := by decide +kernel
theorem dX11_slipParts_21 : decode cX11_slipParts 21 = .ok (.isub, 1) := by decide +kernel
theorem dX11_slipParts_22 : decode cX11_slipParts 22 = .ok (.iload_n 2, 1) := by decide +kernel
theorem dX11_slipParts_23 : decode cX11_slipParts 23 = .ok (.invokestatic 383, 3) := by decide +kernel
theorem dX11_slipParts_26 : decode cX11_slipParts 26 = .ok (.lmul, 1) := by decide +kernel
theorem dX11_slipParts_27 : decode cX11_slipParts 27 = .ok (.bipush 100, 2) := by decide +kernel
theorem dX11_slipParts_29 : decode cX11_slipParts 29 = .ok (.iload_n 2, 1) := by decide +kernel
theorem dX11_slipParts_30 : decode cX11_slipParts 30 = .ok (.isub, 1) := by decide +kernel
theorem dX11_slipParts_31 : decode cX11_slipParts 31 = .ok (.i2l, 1) := by decide +kernel
theorem dX11_slipParts_32 : decode cX11_slipParts 32 = .ok (.iload_n 0, 1) := by decide +kernel
theorem dX11_slipParts_33 : decode cX11_slipParts 33 = .ok (.iconst 1, 1) := by decide +kernel
theorem dX11_slipParts_34 : decode cX11_slipParts 34 = .ok (.isub, 1) := by decide +kernel
theorem dX11_slipParts_35 : decode cX11_slipParts 35 = .ok (.iload_n 1, 1) := by decide +kernel
theorem dX11_slipParts_36 : decode cX11_slipParts 36 = .ok (.iload_n 2, 1) := by decide +kernel
theorem dX11_slipParts_37 : decode cX11_slipParts 37 = .ok (.invokestatic 383, 3) := by decide +kernel
theorem dX11_slipParts_40 : decode cX11_slipParts 40 = .ok (.lmul, 1) := by decide +kernel
theorem dX11_slipParts_41 : decode cX11_slipParts 41 = .ok (.ladd, 1) := by decide +kernel
theorem dX11_slipParts_42 : decode cX11_slipParts 42 = .ok (.lreturn, 1) := by decide +kernel
theorem dX11_share_0 : decode cX11_share 0 = .ok (.iload_n 1, 1) := by decide +kernel
theorem dX11_share_1 : decode cX11_share 1 = .ok (.invokestatic 255, 3) := by decide +kernel
theorem dX11_share_4 : decode cX11_share 4 = .ok (.ifCond .ne 14, 3) := by decide +kernel
theorem dX11_share_7 : decode cX11_share 7 = .ok (.new 158, 3) := by decide +kernel
theorem dX11_share_10 : decode cX11_share 10 = .ok (.dup, 1) := by decide +kernel
theorem dX11_share_11 : decode cX11_share 11 = .ok (.ldc_w 272, 3) := by decide +kernel
theorem dX11_share_14 : decode cX11_share 14 = .ok (.invokespecial 162, 3) := by decide +kernel
theorem dX11_share_17 : decode cX11_share 17 = .ok (.athrow, 1) := by decide +kernel
theorem dX11_share_18 : decode cX11_share 18 = .ok (.aload_n 0, 1) := by decide +kernel
theorem dX11_share_19 : decode cX11_share 19 = .ok (.getfield 23, 3) := by decide +kernel
theorem dX11_share_22 : decode cX11_share 22 = .ok (.getfield 148, 3) := by decide +kernel
theorem dX11_share_25 : decode cX11_share 25 = .ok (.invokevirtual 217, 3) := by decide +kernel
theorem dX11_share_28 : decode cX11_share 28 = .ok (.invokestatic 311, 3) := by decide +kernel
theorem dX11_share_31 : decode cX11_share 31 = .ok (.istore_n 2, 1) := by decide +kernel
theorem dX11_share_32 : decode cX11_share 32 = .ok (.iload_n 2, 1) := by decide +kernel
theorem dX11_share_33 : decode cX11_share 33 = .ok (.ifCond .le 25, 3) := by decide +kernel
theorem dX11_share_36 : decode cX11_share 36 = .ok (.aload_n 0, 1) := by decide +kernel
theorem dX11_share_37 : decode cX11_share 37 = .ok (.getfield 23, 3) := by decide +kernel
theorem dX11_share_40 : decode cX11_share 40 = .ok (.getfield 148, 3) := by decide +kernel
theorem dX11_share_43 : decode cX11_share 43 = .ok (.iload_n 1, 1) := by decide +kernel
theorem dX11_share_44 : decode cX11_share 44 = .ok (.invokevirtual 362, 3) := by decide +kernel
theorem dX11_share_47 : decode cX11_share 47 = .ok (.invokestatic 311, 3) := by decide +kernel
theorem dX11_share_50 : decode cX11_share 50 = .ok (.bipush 100, 2) := by decide +kernel
theorem dX11_share_52 : decode cX11_share 52 = .ok (.imul, 1) := by decide +kernel
theorem dX11_share_53 : decode cX11_share 53 = .ok (.iload_n 2, 1) := by decide +kernel
theorem dX11_share_54 : decode cX11_share 54 = .ok (.idiv, 1) := by decide +kernel
theorem dX11_share_55 : decode cX11_share 55 = .ok (.goto 4, 3) := by decide +kernel
theorem dX11_share_58 : decode cX11_share 58 = .ok (.iconst 0, 1) := by decide +kernel
theorem dX11_share_59 : decode cX11_share 59 = .ok (.ireturn, 1) := by decide +kernel
theorem dX11_trial_0 : decode cX11_trial 0 = .ok (.iload_n 1, 1) := by decide +kernel
theorem dX11_trial_1 : decode cX11_trial 1 = .ok (.ifCond .lt 9, 3) := by decide +kernel
theorem dX11_trial_4 : decode cX11_trial 4 = .ok (.iload_n 1, 1) := by decide +kernel
theorem dX11_trial_5 : decode cX11_trial 5 = .ok (.bipush 60, 2) := by decide +kernel
theorem dX11_trial_7 : decode cX11_trial 7 = .ok (.if_icmp .le 14, 3) := by decide +kernel
theorem dX11_trial_10 : decode cX11_trial 10 = .ok (.new 118, 3) := by decide +kernel
theorem dX11_trial_13 : decode cX11_trial 13 = .ok (.dup, 1) := by decide +kernel
theorem dX11_trial_14 : decode cX11_trial 14 = .ok (.ldc_w 283, 3) := by decide +kernel
theorem dX11_trial_17 : decode cX11_trial 17 = .ok (.invokespecial 122, 3) := by decide +kernel
theorem dX11_trial_20 : decode cX11_trial 20 = .ok (.athrow, 1) := by decide +kernel
theorem dX11_trial_21 : decode cX11_trial 21 = .ok (.aload_n 0, 1) := by decide +kernel
theorem dX11_trial_22 : decode cX11_trial 22 = .ok (.iload_n 1, 1) := by decide +kernel
theorem dX11_trial_23 : decode cX11_trial 23 = .ok (.aload_n 0, 1) := by decide +kernel
theorem dX11_trial_24 : decode cX11_trial 24 = .ok (.getfield 23, 3) := by decide +kernel
theorem dX11_trial_27 : decode cX11_trial 27 = .ok (.getfield 389, 3) := by decide +kernel
theorem dX11_trial_30 : decode cX11_trial 30 = .ok (.invokevirtual 392, 3) := by decide +kernel
theorem dX11_trial_33 : decode cX11_trial 33 = .ok (.iload_n 2, 1) := by decide +kernel
theorem dX11_trial_34 : decode cX11_trial 34 = .ok (.ifCond .eq 13, 3) := by decide +kernel
theorem dX11_trial_37 : decode cX11_trial 37 = .ok (.aload_n 0, 1) := by decide +kernel
theorem dX11_trial_38 : decode cX11_trial 38 = .ok (.getfield 61, 3) := by decide +kernel
theorem dX11_trial_41 : decode cX11_trial 41 = .ok (.getfield 396, 3) := by decide +kernel
theorem dX11_trial_44 : decode cX11_trial 44 = .ok (.goto 10, 3) := by decide +kernel
theorem dX11_trial_47 : decode cX11_trial 47 = .ok (.aload_n 0, 1) := by decide +kernel
theorem dX11_trial_48 : decode cX11_trial 48 = .ok (.getfield 61, 3) := by decide +kernel
theorem dX11_trial_51 : decode cX11_trial 51 = .ok (.getfield 220, 3) := by decide +kernel
theorem dX11_trial_54 : decode cX11_trial 54 = .ok (.ireturn, 1) := by decide +kernel
theorem dX11_tryEvenings_0 : decode cX11_tryEvenings 0 = .ok (.aload_n 0, 1) := by decide +kernel
theorem dX11_tryEvenings_1 : decode cX11_tryEvenings 1 = .ok (.getfield 61, 3) := by decide +kernel
theorem dX11_tryEvenings_4 : decode cX11_tryEvenings 4 = .ok (.aload_n 0, 1) := by decide +kernel
theorem dX11_tryEvenings_5 : decode cX11_tryEvenings 5 = .ok (.getfield 23, 3) := by decide +kernel
theorem dX11_tryEvenings_8 : decode cX11_tryEvenings 8 = .ok (.invokevirtual 106, 3) := by decide +kernel
theorem dX11_tryEvenings_11 : decode cX11_tryEvenings 11 = .ok (.aload_n 0, 1) := by decide +kernel
theorem dX11_tryEvenings_12 : decode cX11_tryEvenings 12 = .ok (.getfield 61, 3) := by decide +kernel
theorem dX11_tryEvenings_15 : decode cX11_tryEvenings 15 = .ok (.iload_n 2, 1) := by decide +kernel
theorem dX11_tryEvenings_16 : decode cX11_tryEvenings 16 = .ok (.putfield 389, 3) := by decide +kernel
theorem dX11_tryEvenings_19 : decode cX11_tryEvenings 19 = .ok (.iconst 0, 1) := by decide +kernel
theorem dX11_tryEvenings_20 : decode cX11_tryEvenings 20 = .ok (.istore_n 3, 1) := by decide +kernel
theorem dX11_tryEvenings_21 : decode cX11_tryEvenings 21 = .ok (.iload_n 3, 1) := by decide +kernel
theorem dX11_tryEvenings_22 : decode cX11_tryEvenings 22 = .ok (.iload_n 1, 1) := by decide +kernel
theorem dX11_tryEvenings_23 : decode cX11_tryEvenings 23 = .ok (.if_icmp .ge 19, 3) := by decide +kernel
theorem dX11_tryEvenings_26 : decode cX11_tryEvenings 26 = .ok (.aload_n 0, 1) := by decide +kernel
theorem dX11_tryEvenings_27 : decode cX11_tryEvenings 27 = .ok (.aload_n 0, 1) := by decide +kernel
theorem dX11_tryEvenings_28 : decode cX11_tryEvenings 28 = .ok (.getfield 61, 3) := by decide +kernel
theorem dX11_tryEvenings_31 : decode cX11_tryEvenings 31 = .ok (.iconst 0, 1) := by decide +kernel
theorem dX11_tryEvenings_32 : decode cX11_tryEvenings 32 = .ok (.invokevirtual 285, 3) := by decide +kernel
theorem dX11_tryEvenings_35 : decode cX11_tryEvenings 35 = .ok (.pop, 1) := by decide +kernel
theorem dX11_tryEvenings_36 : decode cX11_tryEvenings 36 = .ok (.iinc 3 1, 3) := by decide +kernel
theorem dX11_tryEvenings_39 : decode cX11_tryEvenings 39 = .ok (.goto (-18), 3) := by decide +kernel
theorem dX11_tryEvenings_42 : decode cX11_tryEvenings 42 = .ok (.return_, 1) := by decide +kernel
theorem dX11_span_0 : decode cX11_span 0 = .ok (.iload_n 1, 1) := by decide +kernel
theorem dX11_span_1 : decode cX11_span 1 = .ok (.ifCond .lt 9, 3) := by decide +kernel
theorem dX11_span_4 : decode cX11_span 4 = .ok (.iload_n 1, 1) := by decide +kernel
theorem dX11_span_5 : decode cX11_span 5 = .ok (.bipush 60, 2) := by decide +kernel
theorem dX11_span_7 : decode cX11_span 7 = .ok (.if_icmp .le 14, 3) := by decide +kernel
theorem dX11_span_10 : decode cX11_span 10 = .ok (.new 118, 3) := by decide +kernel
theorem dX11_span_13 : decode cX11_span 13 = .ok (.dup, 1) := by decide +kernel
theorem dX11_span_14 : decode cX11_span 14 = .ok (.ldc_w 283, 3) := by decide +kernel
theorem dX11_span_17 : decode cX11_span 17 = .ok (.invokespecial 122, 3) := by decide +kernel
theorem dX11_span_20 : decode cX11_span 20 = .ok (.athrow, 1) := by decide +kernel
theorem dX11_span_21 : decode cX11_span 21 = .ok (.sipush 9999, 3) := by decide +kernel
theorem dX11_span_24 : decode cX11_span 24 = .ok (.istore_n 3, 1) := by decide +kernel
theorem dX11_span_25 : decode cX11_span 25 = .ok (.iconst 0, 1) := by decide +kernel
theorem dX11_span_26 : decode cX11_span 26 = .ok (.istore 4, 2) := by decide +kernel
theorem dX11_span_28 : decode cX11_span 28 = .ok (.iconst 1, 1) := by decide +kernel
theorem dX11_span_29 : decode cX11_span 29 = .ok (.istore 5, 2) := by decide +kernel
theorem dX11_span_31 : decode cX11_span 31 = .ok (.iload 5, 2) := by decide +kernel
theorem dX11_span_33 : decode cX11_span 33 = .ok (.bipush 6, 2) := by decide +kernel
theorem dX11_span_35 : decode cX11_span 35 = .ok (.if_icmp .gt 42, 3) := by decide +kernel
theorem dX11_span_38 : decode cX11_span 38 = .ok (.aload_n 0, 1) := by decide +kernel
theorem dX11_span_39 : decode cX11_span 39 = .ok (.iload_n 1, 1) := by decide +kernel
theorem dX11_span_40 : decode cX11_span 40 = .ok (.iload 5, 2) := by decide +kernel
theorem dX11_span_42 : decode cX11_span 42 = .ok (.invokevirtual 392, 3) := by decide +kernel
theorem dX11_span_45 : decode cX11_span 45 = .ok (.iload_n 3, 1) := by decide +kernel
theorem dX11_span_46 : decode cX11_span 46 = .ok (.aload_n 0, 1) := by decide +kernel
theorem dX11_span_47 : decode cX11_span 47 = .ok (.getfield 61, 3) := by decide +kernel
theorem dX11_span_50 : decode cX11_span 50 = .ok (.getfield 396, 3) := by decide +kernel
theorem dX11_span_53 : decode cX11_span 53 = .ok (.invokestatic 399, 3) := by decide +kernel
theorem dX11_span_56 : decode cX11_span 56 = .ok (.istore_n 3, 1) := by decide +kernel
theorem dX11_span_57 : decode cX11_span 57 = .ok (.iload 4, 2) := by decide +kernel
theorem dX11_span_59 : decode cX11_span 59 = .ok (.aload_n 0, 1) := by decide +kernel
theorem dX11_span_60 : decode cX11_span 60 = .ok (.getfield 61, 3) := by decide +kernel
theorem dX11_span_63 : decode cX11_span 63 = .ok (.getfield 396, 3) := by decide +kernel
theorem dX11_span_66 : decode cX11_span 66 = .ok (.invokestatic 350, 3) := by decide +kernel
theorem dX11_span_69 : decode cX11_span 69 = .ok (.istore 4, 2) := by decide +kernel
theorem dX11_span_71 : decode cX11_span 71 = .ok (.iinc 5 1, 3) := by decide +kernel
theorem dX11_span_74 : decode cX11_span 74 = .ok (.goto (-43), 3) := by decide +kernel
theorem dX11_span_77 : decode cX11_span 77 = .ok (.iload_n 2, 1) := by decide +kernel
theorem dX11_span_78 : decode cX11_span 78 = .ok (.ifCond .eq 8, 3) := by decide +kernel
theorem dX11_span_81 : decode cX11_span 81 = .ok (.iload 4, 2) := by decide +kernel
theorem dX11_span_83 : decode cX11_span 83 = .ok (.goto 4, 3) := by decide +kernel
theorem dX11_span_86 : decode cX11_span 86 = .ok (.iload_n 3, 1) := by decide +kernel
theorem dX11_span_87 : decode cX11_span 87 = .ok (.ireturn, 1) := by decide +kernel
theorem dX11_led_0 : decode cX11_led 0 = .ok (.aload_n 0, 1) := by decide +kernel
theorem dX11_led_1 : decode cX11_led 1 = .ok (.getfield 23, 3) := by decide +kernel
theorem dX11_led_4 : decode cX11_led 4 = .ok (.getfield 148, 3) := by decide +kernel
theorem dX11_led_7 : decode cX11_led 7 = .ok (.iload_n 1, 1) := by decide +kernel
theorem dX11_led_8 : decode cX11_led 8 = .ok (.invokevirtual 152, 3) := by decide +kernel
theorem dX11_led_11 : decode cX11_led 11 = .ok (.ifCond .ne 13, 3) := by decide +kernel
theorem dX11_led_14 : decode cX11_led 14 = .ok (.new 158, 3) := by decide +kernel
theorem dX11_led_17 : decode cX11_led 17 = .ok (.dup, 1) := by decide +kernel
theorem dX11_led_18 : decode cX11_led 18 = .ok (.ldc 160, 2) := by decide +kernel
theorem dX11_led_20 : decode cX11_led 20 = .ok (.invokespecial 162, 3) := by decide +kernel
theorem dX11_led_23 : decode cX11_led 23 = .ok (.athrow, 1) := by decide +kernel
theorem dX11_led_24 : decode cX11_led 24 = .ok (.iload_n 2, 1) := by decide +kernel
theorem dX11_led_25 : decode cX11_led 25 = .ok (.ifCond .eq 14, 3) := by decide +kernel
theorem dX11_led_28 : decode cX11_led 28 = .ok (.aload_n 0, 1) := by decide +kernel
theorem dX11_led_29 : decode cX11_led 29 = .ok (.getfield 37, 3) := by decide +kernel
theorem dX11_led_32 : decode cX11_led 32 = .ok (.iload_n 1, 1) := by decide +kernel
theorem dX11_led_33 : decode cX11_led 33 = .ok (.invokevirtual 402, 3) := by decide +kernel
theorem dX11_led_36 : decode cX11_led 36 = .ok (.goto 11, 3) := by decide +kernel
theorem dX11_led_39 : decode cX11_led 39 = .ok (.aload_n 0, 1) := by decide +kernel
theorem dX11_led_40 : decode cX11_led 40 = .ok (.getfield 37, 3) := by decide +kernel
theorem dX11_led_43 : decode cX11_led 43 = .ok (.iload_n 1, 1) := by decide +kernel
theorem dX11_led_44 : decode cX11_led 44 = .ok (.invokevirtual 405, 3) := by decide +kernel
theorem dX11_led_47 : decode cX11_led 47 = .ok (.ireturn, 1) := by decide +kernel
theorem dX11_log_0 : decode cX11_log 0 = .ok (.iload_n 2, 1) := by decide +kernel
theorem dX11_log_1 : decode cX11_log 1 = .ok (.ifCond .lt 8, 3) := by decide +kernel
theorem dX11_log_4 : decode cX11_log 4 = .ok (.iload_n 2, 1) := by decide +kernel
theorem dX11_log_5 : decode cX11_log 5 = .ok (.iconst 3, 1) := by decide +kernel
theorem dX11_log_6 : decode cX11_log 6 = .ok (.if_icmp .le 14, 3) := by decide +kernel
theorem dX11_log_9 : decode cX11_log 9 = .ok (.new 163, 3) := by decide +kernel
theorem dX11_log_12 : decode cX11_log 12 = .ok (.dup, 1) := by decide +kernel
theorem dX11_log_13 : decode cX11_log 13 = .ok (.ldc_w 408, 3) := by decide +kernel
theorem dX11_log_16 : decode cX11_log 16 = .ok (.invokespecial 167, 3) := by decide +kernel
theorem dX11_log_19 : decode cX11_log 19 = .ok (.athrow, 1) := by decide +kernel
theorem dX11_log_20 : decode cX11_log 20 = .ok (.aload_n 0, 1) := by decide +kernel
theorem dX11_log_21 : decode cX11_log 21 = .ok (.getfield 37, 3) := by decide +kernel
theorem dX11_log_24 : decode cX11_log 24 = .ok (.iload_n 1, 1) := by decide +kernel
theorem dX11_log_25 : decode cX11_log 25 = .ok (.iload_n 2, 1) := by decide +kernel
theorem dX11_log_26 : decode cX11_log 26 = .ok (.invokevirtual 410, 3) := by decide +kernel
theorem dX11_log_29 : decode cX11_log 29 = .ok (.ireturn, 1) := by decide +kernel
theorem dX11_seed_0 : decode cX11_seed 0 = .ok (.aload_n 0, 1) := by decide +kernel
theorem dX11_seed_1 : decode cX11_seed 1 = .ok (.getfield 23, 3) := by decide +kernel
theorem dX11_seed_4 : decode cX11_seed 4 = .ok (.getfield 389, 3) := by decide +kernel
theorem dX11_seed_7 : decode cX11_seed 7 = .ok (.istore_n 2, 1) := by decide +kernel
theorem dX11_seed_8 : decode cX11_seed 8 = .ok (.aload_n 0, 1) := by decide +kernel
theorem dX11_seed_9 : decode cX11_seed 9 = .ok (.getfield 23, 3) := by decide +kernel
theorem dX11_seed_12 : decode cX11_seed 12 = .ok (.iload_n 1, 1) := by decide +kernel
theorem dX11_seed_13 : decode cX11_seed 13 = .ok (.putfield 389, 3) := by decide +kernel
theorem dX11_seed_16 : decode cX11_seed 16 = .ok (.iload_n 2, 1) := by decide +kernel
theorem dX11_seed_17 : decode cX11_seed 17 = .ok (.ireturn, 1) := by decide +kernel
theorem dX11_undo_0 : decode cX11_undo 0 = .ok (.aload_n 0, 1) := by decide +kernel
theorem dX11_undo_1 : decode cX11_undo 1 = .ok (.getfield 44, 3) := by decide +kernel
theorem dX11_undo_4 : decode cX11_undo 4 = .ok (.aload_n 0, 1) := by decide +kernel
theorem dX11_undo_5 : decode cX11_undo 5 = .ok (.getfield 23, 3) := by decide +kernel
theorem dX11_undo_8 : decode cX11_undo 8 = .ok (.aload_n 0, 1) := by decide +kernel
theorem dX11_undo_9 : decode cX11_undo 9 = .ok (.getfield 37, 3) := by decide +kernel
theorem dX11_undo_12 : decode cX11_undo 12 = .ok (.invokevirtual 413, 3) := by decide +kernel
theorem dX11_undo_15 : decode cX11_undo 15 = .ok (.ireturn, 1) := by decide +kernel
theorem dX11_image_0 : decode cX11_image 0 = .ok (.aload_n 0, 1) := by decide +kernel
theorem dX11_image_1 : decode cX11_image 1 = .ok (.getfield 48, 3) := by decide +kernel
theorem dX11_image_4 : decode cX11_image 4 = .ok (.aload_n 0, 1) := by decide +kernel
theorem dX11_image_5 : decode cX11_image 5 = .ok (.getfield 23, 3) := by decide +kernel
theorem dX11_image_8 : decode cX11_image 8 = .ok (.invokevirtual 106, 3) := by decide +kernel
theorem dX11_image_11 : decode cX11_image 11 = .ok (.aload_n 0, 1) := by decide +kernel
theorem dX11_image_12 : decode cX11_image 12 = .ok (.getfield 51, 3) := by decide +kernel
theorem dX11_image_15 : decode cX11_image 15 = .ok (.aload_n 0, 1) := by decide +kernel
theorem dX11_image_16 : decode cX11_image 16 = .ok (.getfield 30, 3) := by decide +kernel
theorem dX11_image_19 : decode cX11_image 19 = .ok (.invokevirtual 142, 3) := by decide +kernel
theorem dX11_image_22 : decode cX11_image 22 = .ok (.aload_n 0, 1) := by decide +kernel
theorem dX11_image_23 : decode cX11_image 23 = .ok (.getfield 54, 3) := by decide +kernel
theorem dX11_image_26 : decode cX11_image 26 = .ok (.aload_n 0, 1) := by decide +kernel
theorem dX11_image_27 : decode cX11_image 27 = .ok (.getfield 37, 3) := by decide +kernel
theorem dX11_image_30 : decode cX11_image 30 = .ok (.invokevirtual 417, 3) := by decide +kernel
theorem dX11_image_33 : decode cX11_image 33 = .ok (.aload_n 0, 1) := by decide +kernel
theorem dX11_image_34 : decode cX11_image 34 = .ok (.iconst 1, 1) := by decide +kernel
theorem dX11_image_35 : decode cX11_image 35 = .ok (.putfield 57, 3) := by decide +kernel
theorem dX11_image_38 : decode cX11_image 38 = .ok (.return_, 1) := by decide +kernel
theorem dX11_back_0 : decode cX11_back 0 = .ok (.aload_n 0, 1) := by decide +kernel
theorem dX11_back_1 : decode cX11_back 1 = .ok (.getfield 57, 3) := by decide +kernel
theorem dX11_back_4 : decode cX11_back 4 = .ok (.ifCond .ne 5, 3) := by decide +kernel
theorem dX11_back_7 : decode cX11_back 7 = .ok (.iconst 0, 1) := by decide +kernel
theorem dX11_back_8 : decode cX11_back 8 = .ok (.ireturn, 1) := by decide +kernel
theorem dX11_back_9 : decode cX11_back 9 = .ok (.aload_n 0, 1) := by decide +kernel
theorem dX11_back_10 : decode cX11_back 10 = .ok (.getfield 23, 3) := by decide +kernel
theorem dX11_back_13 : decode cX11_back 13 = .ok (.aload_n 0, 1) := by decide +kernel
theorem dX11_back_14 : decode cX11_back 14 = .ok (.getfield 48, 3) := by decide +kernel
theorem dX11_back_17 : decode cX11_back 17 = .ok (.invokevirtual 106, 3) := by decide +kernel
theorem dX11_back_20 : decode cX11_back 20 = .ok (.aload_n 0, 1) := by decide +kernel
theorem dX11_back_21 : decode cX11_back 21 = .ok (.getfield 30, 3) := by decide +kernel
theorem dX11_back_24 : decode cX11_back 24 = .ok (.aload_n 0, 1) := by decide +kernel
theorem dX11_back_25 : decode cX11_back 25 = .ok (.getfield 51, 3) := by decide +kernel
theorem dX11_back_28 : decode cX11_back 28 = .ok (.invokevirtual 142, 3) := by decide +kernel
theorem dX11_back_31 : decode cX11_back 31 = .ok (.aload_n 0, 1) := by decide +kernel
theorem dX11_back_32 : decode cX11_back 32 = .ok (.getfield 37, 3) := by decide +kernel
theorem dX11_back_35 : decode cX11_back 35 = .ok (.aload_n 0, 1) := by decide +kernel
theorem dX11_back_36 : decode cX11_back 36 = .ok (.getfield 54, 3) := by decide +kernel
theorem dX11_back_39 : decode cX11_back 39 = .ok (.invokevirtual 417, 3) := by decide +kernel
theorem dX11_back_42 : decode cX11_back 42 = .ok (.aload_n 0, 1) := by decide +kernel
theorem dX11_back_43 : decode cX11_back 43 = .ok (.getfield 44, 3) := by decide +kernel
theorem dX11_back_46 : decode cX11_back 46 = .ok (.invokevirtual 133, 3) := by decide +kernel
theorem dX11_back_49 : decode cX11_back 49 = .ok (.iconst 1, 1) := by decide +kernel
theorem dX11_back_50 : decode cX11_back 50 = .ok (.ireturn, 1) := by decide +kernel
theorem dX11_count_0 : decode cX11_count 0 = .ok (.iload_n 1, 1) := by decide +kernel
theorem dX11_count_1 : decode cX11_count 1 = .ok (.tableswitch 222 0 16 #[83, 94, 102, 110, 118, 126, 134, 142, 150, 158, 166, 174, 182, 190, 198, 206, 214], 83) := by decide +kernel
theorem dX11_count_84 : decode cX11_count 84 = .ok (.aload_n 0, 1) := by decide +kernel
theorem dX11_count_85 : decode cX11_count 85 = .ok (.getfield 23, 3) := by decide +kernel
theorem dX11_count_88 : decode cX11_count 88 = .ok (.getfield 148, 3) := by decide +kernel
theorem dX11_count_91 : decode cX11_count 91 = .ok (.getfield 211, 3) := by decide +kernel
theorem dX11_count_94 : decode cX11_count 94 = .ok (.ireturn, 1) := by decide +kernel
theorem dX11_count_95 : decode cX11_count 95 = .ok (.aload_n 0, 1) := by decide +kernel
theorem dX11_count_96 : decode cX11_count 96 = .ok (.getfield 23, 3) := by decide +kernel
theorem dX11_count_99 : decode cX11_count 99 = .ok (.getfield 125, 3) := by decide +kernel
theorem dX11_count_102 : decode cX11_count 102 = .ok (.ireturn, 1) := by decide +kernel
theorem dX11_count_103 : decode cX11_count 103 = .ok (.aload_n 0, 1) := by decide +kernel
theorem dX11_count_104 : decode cX11_count 104 = .ok (.getfield 30, 3) := by decide +kernel
theorem dX11_count_107 : decode cX11_count 107 = .ok (.getfield 145, 3) := by decide +kernel
theorem dX11_count_110 : decode cX11_count 110 = .ok (.ireturn, 1) := by decide +kernel
theorem dX11_count_111 : decode cX11_count 111 = .ok (.aload_n 0, 1) := by decide +kernel
theorem dX11_count_112 : decode cX11_count 112 = .ok (.getfield 23, 3) := by decide +kernel
theorem dX11_count_115 : decode cX11_count 115 = .ok (.getfield 252, 3) := by decide +kernel
theorem dX11_count_118 : decode cX11_count 118 = .ok (.ireturn, 1) := by decide +kernel
theorem dX11_count_119 : decode cX11_count 119 = .ok (.aload_n 0, 1) := by decide +kernel
theorem dX11_count_120 : decode cX11_count 120 = .ok (.getfield 23, 3) := by decide +kernel
theorem dX11_count_123 : decode cX11_count 123 = .ok (.getfield 242, 3) := by decide +kernel
theorem dX11_count_126 : decode cX11_count 126 = .ok (.ireturn, 1) := by decide +kernel
theorem dX11_count_127 : decode cX11_count 127 = .ok (.aload_n 0, 1) := by decide +kernel
theorem dX11_count_128 : decode cX11_count 128 = .ok (.getfield 23, 3) := by decide +kernel
theorem dX11_count_131 : decode cX11_count 131 = .ok (.getfield 220, 3) := by decide +kernel
theorem dX11_count_134 : decode cX11_count 134 = .ok (.ireturn, 1) := by decide +kernel
theorem dX11_count_135 : decode cX11_count 135 = .ok (.aload_n 0, 1) := by decide +kernel
theorem dX11_count_136 : decode cX11_count 136 = .ok (.getfield 23, 3) := by decide +kernel
theorem dX11_count_139 : decode cX11_count 139 = .ok (.getfield 420, 3) := by decide +kernel
theorem dX11_count_142 : decode cX11_count 142 = .ok (.ireturn, 1) := by decide +kernel
theorem dX11_count_143 : decode cX11_count 143 = .ok (.aload_n 0, 1) := by decide +kernel
theorem dX11_count_144 : decode cX11_count 144 = .ok (.getfield 23, 3) := by decide +kernel
theorem dX11_count_147 : decode cX11_count 147 = .ok (.getfield 236, 3) := by decide +kernel
theorem dX11_count_150 : decode cX11_count 150 = .ok (.ireturn, 1) := by decide +kernel
theorem dX11_count_151 : decode cX11_count 151 = .ok (.aload_n 0, 1) := by decide +kernel
theorem dX11_count_152 : decode cX11_count 152 = .ok (.getfield 23, 3) := by decide +kernel
theorem dX11_count_155 : decode cX11_count 155 = .ok (.getfield 180, 3) := by decide +kernel
theorem dX11_count_158 : decode cX11_count 158 = .ok (.ireturn, 1) := by decide +kernel
theorem dX11_count_159 : decode cX11_count 159 = .ok (.aload_n 0, 1) := by decide +kernel
theorem dX11_count_160 : decode cX11_count 160 = .ok (.getfield 23, 3) := by decide +kernel
theorem dX11_count_163 : decode cX11_count 163 = .ok (.getfield 373, 3) := by decide +kernel
theorem dX11_count_166 : decode cX11_count 166 = .ok (.ireturn, 1) := by decide +kernel
theorem dX11_count_167 : decode cX11_count 167 = .ok (.aload_n 0, 1) := by decide +kernel
theorem dX11_count_168 : decode cX11_count 168 = .ok (.getfield 23, 3) := by decide +kernel
theorem dX11_count_171 : decode cX11_count 171 = .ok (.getfield 376, 3) := by decide +kernel
theorem dX11_count_174 : decode cX11_count 174 = .ok (.ireturn, 1) := by decide +kernel
theorem dX11_count_175 : decode cX11_count 175 = .ok (.aload_n 0, 1) := by decide +kernel
theorem dX11_count_176 : decode cX11_count 176 = .ok (.getfield 23, 3) := by decide +kernel
theorem dX11_count_179 : decode cX11_count 179 = .ok (.getfield 280, 3) := by decide +kernel
theorem dX11_count_182 : decode cX11_count 182 = .ok (.ireturn, 1) := by decide +kernel
theorem dX11_count_183 : decode cX11_count 183 = .ok (.aload_n 0, 1) := by decide +kernel
theorem dX11_count_184 : decode cX11_count 184 = .ok (.getfield 23, 3) := by decide +kernel
theorem dX11_count_187 : decode cX11_count 187 = .ok (.getfield 274, 3) := by decide +kernel
theorem dX11_count_190 : decode cX11_count 190 = .ok (.ireturn, 1) := by decide +kernel
theorem dX11_count_191 : decode cX11_count 191 = .ok (.aload_n 0, 1) := by decide +kernel
theorem dX11_count_192 : decode cX11_count 192 = .ok (.getfield 23, 3) := by decide +kernel
theorem dX11_count_195 : decode cX11_count 195 = .ok (.getfield 423, 3) := by decide +kernel
theorem dX11_count_198 : decode cX11_count 198 = .ok (.ireturn, 1) := by decide +kernel
theorem dX11_count_199 : decode cX11_count 199 = .ok (.aload_n 0, 1) := by decide +kernel
theorem dX11_count_200 : decode cX11_count 200 = .ok (.getfield 23, 3) := by decide +kernel
theorem dX11_count_203 : decode cX11_count 203 = .ok (.getfield 396, 3) := by decide +kernel
theorem dX11_count_206 : decode cX11_count 206 = .ok (.ireturn, 1) := by decide +kernel
theorem dX11_count_207 : decode cX11_count 207 = .ok (.aload_n 0, 1) := by decide +kernel
theorem dX11_count_208 : decode cX11_count 208 = .ok (.getfield 37, 3) := by decide +kernel
theorem dX11_count_211 : decode cX11_count 211 = .ok (.getfield 426, 3) := by decide +kernel
theorem dX11_count_214 : decode cX11_count 214 = .ok (.ireturn, 1) := by decide +kernel
theorem dX11_count_215 : decode cX11_count 215 = .ok (.aload_n 0, 1) := by decide +kernel
theorem dX11_count_216 : decode cX11_count 216 = .ok (.getfield 44, 3) := by decide +kernel
theorem dX11_count_219 : decode cX11_count 219 = .ok (.getfield 429, 3) := by decide +kernel
theorem dX11_count_222 : decode cX11_count 222 = .ok (.ireturn, 1) := by decide +kernel
theorem dX11_count_223 : decode cX11_count 223 = .ok (.iconst (-1), 1) := by decide +kernel
theorem dX11_count_224 : decode cX11_count 224 = .ok (.ireturn, 1) := by decide +kernel
