theorem dX12_thrown_0 : decode cX12_thrown 0 = .ok (.aload_n 0, 1) := by decide +kernel
theorem dX12_thrown_1 : decode cX12_thrown 1 = .ok (.getfield 3, 3) := by decide +kernel
theorem dX12_thrown_4 : decode cX12_thrown 4 = .ok (.ireturn, 1) := by decide +kernel
theorem dX12_throwsIf_0 : decode cX12_throwsIf 0 = .ok (.iload_n 1, 1) := by decide +kernel
theorem dX12_throwsIf_1 : decode cX12_throwsIf 1 = .ok (.ifCond .eq 8, 3) := by decide +kernel
theorem dX12_throwsIf_4 : decode cX12_throwsIf 4 = .ok (.aload_n 0, 1) := by decide +kernel
theorem dX12_throwsIf_5 : decode cX12_throwsIf 5 = .ok (.iload_n 2, 1) := by decide +kernel
theorem dX12_throwsIf_6 : decode cX12_throwsIf 6 = .ok (.putfield 3, 3) := by decide +kernel
theorem dX12_throwsIf_9 : decode cX12_throwsIf 9 = .ok (.iload_n 1, 1) := by decide +kernel
theorem dX12_throwsIf_10 : decode cX12_throwsIf 10 = .ok (.ireturn, 1) := by decide +kernel
theorem dX12_in_0 : decode cX12_in 0 = .ok (.iload_n 0, 1) := by decide +kernel
theorem dX12_in_1 : decode cX12_in 1 = .ok (.iload_n 1, 1) := by decide +kernel
theorem dX12_in_2 : decode cX12_in 2 = .ok (.if_icmp .lt 12, 3) := by decide +kernel
theorem dX12_in_5 : decode cX12_in 5 = .ok (.iload_n 0, 1) := by decide +kernel
theorem dX12_in_6 : decode cX12_in 6 = .ok (.iload_n 2, 1) := by decide +kernel
theorem dX12_in_7 : decode cX12_in 7 = .ok (.if_icmp .gt 7, 3) := by decide +kernel
theorem dX12_in_10 : decode cX12_in 10 = .ok (.iconst 1, 1) := by decide +kernel
theorem dX12_in_11 : decode cX12_in 11 = .ok (.goto 4, 3) := by decide +kernel
theorem dX12_in_14 : decode cX12_in 14 = .ok (.iconst 0, 1) := by decide +kernel
theorem dX12_in_15 : decode cX12_in 15 = .ok (.ireturn, 1) := by decide +kernel
theorem dX12_has_0 : decode cX12_has 0 = .ok (.iload_n 0, 1) := by decide +kernel
theorem dX12_has_1 : decode cX12_has 1 = .ok (.iload_n 1, 1) := by decide +kernel
theorem dX12_has_2 : decode cX12_has 2 = .ok (.ishr, 1) := by decide +kernel
theorem dX12_has_3 : decode cX12_has 3 = .ok (.iconst 1, 1) := by decide +kernel
theorem dX12_has_4 : decode cX12_has 4 = .ok (.iand, 1) := by decide +kernel
theorem dX12_has_5 : decode cX12_has 5 = .ok (.iconst 1, 1) := by decide +kernel
theorem dX12_has_6 : decode cX12_has 6 = .ok (.if_icmp .ne 7, 3) := by decide +kernel
theorem dX12_has_9 : decode cX12_has 9 = .ok (.iconst 1, 1) := by decide +kernel
theorem dX12_has_10 : decode cX12_has 10 = .ok (.goto 4, 3) := by decide +kernel
theorem dX12_has_13 : decode cX12_has 13 = .ok (.iconst 0, 1) := by decide +kernel
theorem dX12_has_14 : decode cX12_has 14 = .ok (.ireturn, 1) := by decide +kernel
theorem dX12_init_0 : decode cX12_init 0 = .ok (.aload_n 0, 1) := by decide +kernel
theorem dX12_init_1 : decode cX12_init 1 = .ok (.invokespecial 7, 3) := by decide +kernel
theorem dX12_init_4 : decode cX12_init 4 = .ok (.aload_n 0, 1) := by decide +kernel
theorem dX12_init_5 : decode cX12_init 5 = .ok (.sipush 2051, 3) := by decide +kernel
theorem dX12_init_8 : decode cX12_init 8 = .ok (.newarray .int, 2) := by decide +kernel
theorem dX12_init_10 : decode cX12_init 10 = .ok (.putfield 13, 3) := by decide +kernel
theorem dX12_init_13 : decode cX12_init 13 = .ok (.aload_n 0, 1) := by decide +kernel
theorem dX12_init_14 : decode cX12_init 14 = .ok (.sipush 1202, 3) := by decide +kernel
theorem dX12_init_17 : decode cX12_init 17 = .ok (.newarray .int, 2) := by decide +kernel
theorem dX12_init_19 : decode cX12_init 19 = .ok (.putfield 17, 3) := by decide +kernel
theorem dX12_init_22 : decode cX12_init 22 = .ok (.aload_n 0, 1) := by decide +kernel
theorem dX12_init_23 : decode cX12_init 23 = .ok (.sipush 1202, 3) := by decide +kernel
theorem dX12_init_26 : decode cX12_init 26 = .ok (.newarray .int, 2) := by decide +kernel
theorem dX12_init_28 : decode cX12_init 28 = .ok (.putfield 20, 3) := by decide +kernel
theorem dX12_init_31 : decode cX12_init 31 = .ok (.aload_n 0, 1) := by decide +kernel
theorem dX12_init_32 : decode cX12_init 32 = .ok (.sipush 353, 3) := by decide +kernel
theorem dX12_init_35 : decode cX12_init 35 = .ok (.newarray .int, 2) := by decide +kernel
theorem dX12_init_37 : decode cX12_init 37 = .ok (.putfield 23, 3) := by decide +kernel
theorem dX12_init_40 : decode cX12_init 40 = .ok (.aload_n 0, 1) := by decide +kernel
theorem dX12_init_41 : decode cX12_init 41 = .ok (.sipush 4236, 3) := by decide +kernel
theorem dX12_init_44 : decode cX12_init 44 = .ok (.newarray .int, 2) := by decide +kernel
theorem dX12_init_46 : decode cX12_init 46 = .ok (.putfield 26, 3) := by decide +kernel
theorem dX12_init_49 : decode cX12_init 49 = .ok (.aload_n 0, 1) := by decide +kernel
theorem dX12_init_50 : decode cX12_init 50 = .ok (.sipush 400, 3) := by decide +kernel
theorem dX12_init_53 : decode cX12_init 53 = .ok (.newarray .byte, 2) := by decide +kernel
theorem dX12_init_55 : decode cX12_init 55 = .ok (.putfield 29, 3) := by decide +kernel
theorem dX12_init_58 : decode cX12_init 58 = .ok (.aload_n 0, 1) := by decide +kernel
theorem dX12_init_59 : decode cX12_init 59 = .ok (.iconst (-1), 1) := by decide +kernel
theorem dX12_init_60 : decode cX12_init 60 = .ok (.putfield 33, 3) := by decide +kernel
theorem dX12_init_63 : decode cX12_init 63 = .ok (.aload_n 0, 1) := by decide +kernel
theorem dX12_init_64 : decode cX12_init 64 = .ok (.iconst 5, 1) := by decide +kernel
theorem dX12_init_65 : decode cX12_init 65 = .ok (.newarray .int, 2) := by decide +kernel
theorem dX12_init_67 : decode cX12_init 67 = .ok (.putfield 36, 3) := by decide +kernel
theorem dX12_init_70 : decode cX12_init 70 = .ok (.aload_n 0, 1) := by decide +kernel
theorem dX12_init_71 : decode cX12_init 71 = .ok (.sipush 400, 3) := by decide +kernel
theorem dX12_init_74 : decode cX12_init 74 = .ok (.newarray .int, 2) := by decide +kernel
theorem dX12_init_76 : decode cX12_init 76 = .ok (.putfield 39, 3) := by decide +kernel
theorem dX12_init_79 : decode cX12_init 79 = .ok (.aload_n 0, 1) := by decide +kernel
theorem dX12_init_80 : decode cX12_init 80 = .ok (.bipush 6, 2) := by decide +kernel
theorem dX12_init_82 : decode cX12_init 82 = .ok (.newarray .int, 2) := by decide +kernel
theorem dX12_init_84 : decode cX12_init 84 = .ok (.putfield 42, 3) := by decide +kernel
theorem dX12_init_87 : decode cX12_init 87 = .ok (.aload_n 0, 1) := by decide +kernel
theorem dX12_init_88 : decode cX12_init 88 = .ok (.bipush 6, 2) := by decide +kernel
theorem dX12_init_90 : decode cX12_init 90 = .ok (.newarray .int, 2) := by decide +kernel
theorem dX12_init_92 : decode cX12_init 92 = .ok (.putfield 45, 3) := by decide +kernel
theorem dX12_init_95 : decode cX12_init 95 = .ok (.aload_n 0, 1) := by decide +kernel
theorem dX12_init_96 : decode cX12_init 96 = .ok (.sipush 4096, 3) := by decide +kernel
theorem dX12_init_99 : decode cX12_init 99 = .ok (.newarray .int, 2) := by decide +kernel
theorem dX12_init_101 : decode cX12_init 101 = .ok (.putfield 48, 3) := by decide +kernel
theorem dX12_init_104 : decode cX12_init 104 = .ok (.aload_n 0, 1) := by decide +kernel
theorem dX12_init_105 : decode cX12_init 105 = .ok (.bipush 7, 2) := by decide +kernel
theorem dX12_init_107 : decode cX12_init 107 = .ok (.newarray .long, 2) := by decide +kernel
theorem dX12_init_109 : decode cX12_init 109 = .ok (.putfield 51, 3) := by decide +kernel
theorem dX12_init_112 : decode cX12_init 112 = .ok (.aload_n 0, 1) := by decide +kernel
theorem dX12_init_113 : decode cX12_init 113 = .ok (.getfield 13, 3) := by decide +kernel
theorem dX12_init_116 : decode cX12_init 116 = .ok (.iconst 3, 1) := by decide +kernel
theorem dX12_init_117 : decode cX12_init 117 = .ok (.sipush 500, 3) := by decide +kernel
theorem dX12_init_120 : decode cX12_init 120 = .ok (.iastore, 1) := by decide +kernel
theorem dX12_init_121 : decode cX12_init 121 = .ok (.aload_n 0, 1) := by decide +kernel
theorem dX12_init_122 : decode cX12_init 122 = .ok (.getfield 13, 3) := by decide +kernel
theorem dX12_init_125 : decode cX12_init 125 = .ok (.iconst 4, 1) := by decide +kernel
theorem dX12_init_126 : decode cX12_init 126 = .ok (.sipush 500, 3) := by decide +kernel
theorem dX12_init_129 : decode cX12_init 129 = .ok (.iastore, 1) := by decide +kernel
theorem dX12_init_130 : decode cX12_init 130 = .ok (.aload_n 0, 1) := by decide +kernel
theorem dX12_init_131 : decode cX12_init 131 = .ok (.getfield 13, 3) := by decide +kernel
theorem dX12_init_134 : decode cX12_init 134 = .ok (.bipush 8, 2) := by decide +kernel
theorem dX12_init_136 : decode cX12_init 136 = .ok (.iconst 5, 1) := by decide +kernel
theorem dX12_init_137 : decode cX12_init 137 = .ok (.iastore, 1) := by decide +kernel
theorem dX12_init_138 : decode cX12_init 138 = .ok (.aload_n 0, 1) := by decide +kernel
theorem dX12_init_139 : decode cX12_init 139 = .ok (.getfield 13, 3) := by decide +kernel
theorem dX12_init_142 : decode cX12_init 142 = .ok (.bipush 13, 2) := by decide +kernel
theorem dX12_init_144 : decode cX12_init 144 = .ok (.iconst 1, 1) := by decide +kernel
theorem dX12_init_145 : decode cX12_init 145 = .ok (.iastore, 1) := by decide +kernel
theorem dX12_init_146 : decode cX12_init 146 = .ok (.aload_n 0, 1) := by decide +kernel
theorem dX12_init_147 : decode cX12_init 147 = .ok (.getfield 13, 3) := by decide +kernel
theorem dX12_init_150 : decode cX12_init 150 = .ok (.bipush 16, 2) := by decide +kernel
theorem dX12_init_152 : decode cX12_init 152 = .ok (.iconst 1, 1) := by decide +kernel
theorem dX12_init_153 : decode cX12_init 153 = .ok (.iastore, 1) := by decide +kernel
theorem dX12_init_154 : decode cX12_init 154 = .ok (.return_, 1) := by decide +kernel
theorem dX12_image_0 : decode cX12_image 0 = .ok (.aload_n 0, 1) := by decide +kernel
theorem dX12_image_1 : decode cX12_image 1 = .ok (.iconst 0, 1) := by decide +kernel
theorem dX12_image_2 : decode cX12_image 2 = .ok (.putfield 3, 3) := by decide +kernel
theorem dX12_image_5 : decode cX12_image 5 = .ok (.iconst 0, 1) := by decide +kernel
theorem dX12_image_6 : decode cX12_image 6 = .ok (.istore_n 1, 1) := by decide +kernel
theorem dX12_image_7 : decode cX12_image 7 = .ok (.iload_n 1, 1) := by decide +kernel
theorem dX12_image_8 : decode cX12_image 8 = .ok (.sipush 1202, 3) := by decide +kernel
theorem dX12_image_11 : decode cX12_image 11 = .ok (.if_icmp .ge 21, 3) := by decide +kernel
theorem dX12_image_14 : decode cX12_image 14 = .ok (.aload_n 0, 1) := by decide +kernel
theorem dX12_image_15 : decode cX12_image 15 = .ok (.getfield 17, 3) := by decide +kernel
theorem dX12_image_18 : decode cX12_image 18 = .ok (.iload_n 1, 1) := by decide +kernel
theorem dX12_image_19 : decode cX12_image 19 = .ok (.aload_n 0, 1) := by decide +kernel
theorem dX12_image_20 : decode cX12_image 20 = .ok (.getfield 13, 3) := by decide +kernel
theorem dX12_image_23 : decode cX12_image 23 = .ok (.iload_n 1, 1) := by decide +kernel
theorem dX12_image_24 : decode cX12_image 24 = .ok (.iaload, 1) := by decide +kernel
theorem dX12_image_25 : decode cX12_image 25 = .ok (.iastore, 1) := by decide +kernel
theorem dX12_image_26 : decode cX12_image 26 = .ok (.iinc 1 1, 3) := by decide +kernel
theorem dX12_image_29 : decode cX12_image 29 = .ok (.goto (-22), 3) := by decide +kernel
theorem dX12_image_32 : decode cX12_image 32 = .ok (.aload_n 0, 1) := by decide +kernel
theorem dX12_image_33 : decode cX12_image 33 = .ok (.iconst 1, 1) := by decide +kernel
theorem dX12_image_34 : decode cX12_image 34 = .ok (.putfield 55, 3) := by decide +kernel
theorem dX12_image_37 : decode cX12_image 37 = .ok (.return_, 1) := by decide +kernel
theorem dX12_back_0 : decode cX12_back 0 = .ok (.aload_n 0, 1) := by decide +kernel
theorem dX12_back_1 : decode cX12_back 1 = .ok (.iconst 0, 1) := by decide +kernel
theorem dX12_back_2 : decode cX12_back 2 = .ok (.putfield 3, 3) := by decide +kernel
theorem dX12_back_5 : decode cX12_back 5 = .ok (.aload_n 0, 1) := by decide +kernel
theorem dX12_back_6 : decode cX12_back 6 = .ok (.getfield 55, 3) := by decide +kernel
theorem dX12_back_9 : decode cX12_back 9 = .ok (.ifCond .ne 5, 3) := by decide +kernel
theorem dX12_back_12 : decode cX12_back 12 = .ok (.iconst 0, 1) := by decide +kernel
theorem dX12_back_13 : decode cX12_back 13 = .ok (.ireturn, 1) := by decide +kernel
theorem dX12_back_14 : decode cX12_back 14 = .ok (.iconst 0, 1) := by decide +kernel
theorem dX12_back_15 : decode cX12_back 15 = .ok (.istore_n 1, 1) := by decide +kernel
theorem dX12_back_16 : decode cX12_back 16 = .ok (.iload_n 1, 1) := by decide +kernel
theorem dX12_back_17 : decode cX12_back 17 = .ok (.sipush 1202, 3) := by decide +kernel
theorem dX12_back_20 : decode cX12_back 20 = .ok (.if_icmp .ge 21, 3) := by decide +kernel
theorem dX12_back_23 : decode cX12_back 23 = .ok (.aload_n 0, 1) := by decide +kernel
theorem dX12_back_24 : decode cX12_back 24 = .ok (.getfield 13, 3) := by decide +kernel
theorem dX12_back_27 : decode cX12_back 27 = .ok (.iload_n 1, 1) := by decide +kernel
theorem dX12_back_28 : decode cX12_back 28 = .ok (.aload_n 0, 1) := by decide +kernel
theorem dX12_back_29 : decode cX12_back 29 = .ok (.getfield 17, 3) := by decide +kernel
theorem dX12_back_32 : decode cX12_back 32 = .ok (.iload_n 1, 1) := by decide +kernel
theorem dX12_back_33 : decode cX12_back 33 = .ok (.iaload, 1) := by decide +kernel
theorem dX12_back_34 : decode cX12_back 34 = .ok (.iastore, 1) := by decide +kernel
theorem dX12_back_35 : decode cX12_back 35 = .ok (.iinc 1 1, 3) := by decide +kernel
theorem dX12_back_38 : decode cX12_back 38 = .ok (.goto (-22), 3) := by decide +kernel
theorem dX12_back_41 : decode cX12_back 41 = .ok (.aload_n 0, 1) := by decide +kernel
theorem dX12_back_42 : decode cX12_back 42 = .ok (.iconst 0, 1) := by decide +kernel
theorem dX12_back_43 : decode cX12_back 43 = .ok (.putfield 59, 3) := by decide +kernel
theorem dX12_back_46 : decode cX12_back 46 = .ok (.iconst 1, 1) := by decide +kernel
theorem dX12_back_47 : decode cX12_back 47 = .ok (.ireturn, 1) := by decide +kernel
theorem dX12_remembers_0 : decode cX12_remembers 0 = .ok (.aload_n 0, 1) := by decide +kernel
theorem dX12_remembers_1 : decode cX12_remembers 1 = .ok (.getfield 59, 3) := by decide +kernel
theorem dX12_remembers_4 : decode cX12_remembers 4 = .ok (.bipush 12, 2) := by decide +kernel
theorem dX12_remembers_6 : decode cX12_remembers 6 = .ok (.if_icmp .ne 37, 3) := by decide +kernel
theorem dX12_remembers_9 : decode cX12_remembers 9 = .ok (.iconst 0, 1) := by decide +kernel
theorem dX12_remembers_10 : decode cX12_remembers 10 = .ok (.istore_n 1, 1) := by decide +kernel
theorem dX12_remembers_11 : decode cX12_remembers 11 = .ok (.iload_n 1, 1) := by decide +kernel
theorem dX12_remembers_12 : decode cX12_remembers 12 = .ok (.sipush 3883, 3) := by decide +kernel
theorem dX12_remembers_15 : decode cX12_remembers 15 = .ok (.if_icmp .ge 25, 3) := by decide +kernel
theorem dX12_remembers_18 : decode cX12_remembers 18 = .ok (.aload_n 0, 1) := by decide +kernel
theorem dX12_remembers_19 : decode cX12_remembers 19 = .ok (.getfield 26, 3) := by decide +kernel
theorem dX12_remembers_22 : decode cX12_remembers 22 = .ok (.iload_n 1, 1) := by decide +kernel
theorem dX12_remembers_23 : decode cX12_remembers 23 = .ok (.aload_n 0, 1) := by decide +kernel
theorem dX12_remembers_24 : decode cX12_remembers 24 = .ok (.getfield 26, 3) := by decide +kernel
theorem dX12_remembers_27 : decode cX12_remembers 27 = .ok (.iload_n 1, 1) := by decide +kernel
theorem dX12_remembers_28 : decode cX12_remembers 28 = .ok (.sipush 353, 3) := by decide +kernel
theorem dX12_remembers_31 : decode cX12_remembers 31 = .ok (.iadd, 1) := by decide +kernel
theorem dX12_remembers_32 : decode cX12_remembers 32 = .ok (.iaload, 1) := by decide +kernel
theorem dX12_remembers_33 : decode cX12_remembers 33 = .ok (.iastore, 1) := by decide +kernel
theorem dX12_remembers_34 : decode cX12_remembers 34 = .ok (.iinc 1 1, 3) := by decide +kernel
theorem dX12_remembers_37 : decode cX12_remembers 37 = .ok (.goto (-26), 3) := by decide +kernel
theorem dX12_remembers_40 : decode cX12_remembers 40 = .ok (.goto 13, 3) := by decide +kernel
theorem dX12_remembers_43 : decode cX12_remembers 43 = .ok (.aload_n 0, 1) := by decide +kernel
theorem dX12_remembers_44 : decode cX12_remembers 44 = .ok (.dup, 1) := by decide +kernel
theorem dX12_remembers_45 : decode cX12_remembers 45 = .ok (.getfield 59, 3) := by decide +kernel
theorem dX12_remembers_48 : decode cX12_remembers 48 = .ok (.iconst 1, 1) := by decide +kernel
theorem dX12_remembers_49 : decode cX12_remembers 49 = .ok (.iadd, 1) := by decide +kernel
theorem dX12_remembers_50 : decode cX12_remembers 50 = .ok (.putfield 59, 3) := by decide +kernel
theorem dX12_remembers_53 : decode cX12_remembers 53 = .ok (.iconst 0, 1) := by decide +kernel
theorem dX12_remembers_54 : decode cX12_remembers 54 = .ok (.istore_n 1, 1) := by decide +kernel
theorem dX12_remembers_55 : decode cX12_remembers 55 = .ok (.iload_n 1, 1) := by decide +kernel
theorem dX12_remembers_56 : decode cX12_remembers 56 = .ok (.sipush 353, 3) := by decide +kernel
theorem dX12_remembers_59 : decode cX12_remembers 59 = .ok (.if_icmp .ge 32, 3) := by decide +kernel
theorem dX12_remembers_62 : decode cX12_remembers 62 = .ok (.aload_n 0, 1) := by decide +kernel
theorem dX12_remembers_63 : decode cX12_remembers 63 = .ok (.getfield 26, 3) := by decide +kernel
theorem dX12_remembers_66 : decode cX12_remembers 66 = .ok (.sipush 353, 3) := by decide +kernel
theorem dX12_remembers_69 : decode cX12_remembers 69 = .ok (.aload_n 0, 1) := by decide +kernel
theorem dX12_remembers_70 : decode cX12_remembers 70 = .ok (.getfield 59, 3) := by decide +kernel
theorem dX12_remembers_73 : decode cX12_remembers 73 = .ok (.iconst 1, 1) := by decide +kernel
theorem dX12_remembers_74 : decode cX12_remembers 74 = .ok (.isub, 1) := by decide +kernel
theorem dX12_remembers_75 : decode cX12_remembers 75 = .ok (.imul, 1) := by decide +kernel
theorem dX12_remembers_76 : decode cX12_remembers 76 = .ok (.iload_n 1, 1) := by decide +kernel
theorem dX12_remembers_77 : decode cX12_remembers 77 = .ok (.iadd, 1) := by decide +kernel
theorem dX12_remembers_78 : decode cX12_remembers 78 = .ok (.aload_n 0, 1) := by decide +kernel
theorem dX12_remembers_79 : decode cX12_remembers 79 = .ok (.getfield 13, 3) := by decide +kernel
theorem dX12_remembers_82 : decode cX12_remembers 82 = .ok (.iload_n 1, 1) := by decide +kernel
theorem dX12_remembers_83 : decode cX12_remembers 83 = .ok (.iaload, 1) := by decide +kernel
theorem dX12_remembers_84 : decode cX12_remembers 84 = .ok (.iastore, 1) := by decide +kernel
theorem dX12_remembers_85 : decode cX12_remembers 85 = .ok (.iinc 1 1, 3) := by decide +kernel
theorem dX12_remembers_88 : decode cX12_remembers 88 = .ok (.goto (-33), 3) := by decide +kernel
theorem dX12_remembers_91 : decode cX12_remembers 91 = .ok (.return_, 1) := by decide +kernel
theorem dX12_undo_0 : decode cX12_undo 0 = .ok (.aload_n 0, 1) := by decide +kernel
theorem dX12_undo_1 : decode cX12_undo 1 = .ok (.iconst 0, 1) := by decide +kernel
theorem dX12_undo_2 : decode cX12_undo 2 = .ok (.putfield 3, 3) := by decide +kernel
theorem dX12_undo_5 : decode cX12_undo 5 = .ok (.aload_n 0, 1) := by decide +kernel
theorem dX12_undo_6 : decode cX12_undo 6 = .ok (.getfield 59, 3) := by decide +kernel
theorem dX12_undo_9 : decode cX12_undo 9 = .ok (.ifCond .ne 5, 3) := by decide +kernel
theorem dX12_undo_12 : decode cX12_undo 12 = .ok (.iconst 0, 1) := by decide +kernel
theorem dX12_undo_13 : decode cX12_undo 13 = .ok (.ireturn, 1) := by decide +kernel
theorem dX12_undo_14 : decode cX12_undo 14 = .ok (.aload_n 0, 1) := by decide +kernel
theorem dX12_undo_15 : decode cX12_undo 15 = .ok (.dup, 1) := by decide +kernel
theorem dX12_undo_16 : decode cX12_undo 16 = .ok (.getfield 59, 3) := by decide +kernel
theorem dX12_undo_19 : decode cX12_undo 19 = .ok (.iconst 1, 1) := by decide +kernel
theorem dX12_undo_20 : decode cX12_undo 20 = .ok (.isub, 1) := by decide +kernel
theorem dX12_undo_21 : decode cX12_undo 21 = .ok (.putfield 59, 3) := by decide +kernel
theorem dX12_undo_24 : decode cX12_undo 24 = .ok (.iconst 0, 1) := by decide +kernel
theorem dX12_undo_25 : decode cX12_undo 25 = .ok (.istore_n 1, 1) := by decide +kernel
theorem dX12_undo_26 : decode cX12_undo 26 = .ok (.iload_n 1, 1) := by decide +kernel
theorem dX12_undo_27 : decode cX12_undo 27 = .ok (.sipush 353, 3) := by decide +kernel
theorem dX12_undo_30 : decode cX12_undo 30 = .ok (.if_icmp .ge 30, 3) := by decide +kernel
theorem dX12_undo_33 : decode cX12_undo 33 = .ok (.aload_n 0, 1) := by decide +kernel
theorem dX12_undo_34 : decode cX12_undo 34 = .ok (.getfield 13, 3) := by decide +kernel
theorem dX12_undo_37 : decode cX12_undo 37 = .ok (.iload_n 1, 1) := by decide +kernel
theorem dX12_undo_38 : decode cX12_undo 38 = .ok (.aload_n 0, 1) := by decide +kernel
theorem dX12_undo_39 : decode cX12_undo 39 = .ok (.getfield 26, 3) := by decide +kernel
theorem dX12_undo_42 : decode cX12_undo 42 = .ok (.sipush 353, 3) := by decide +kernel
theorem dX12_undo_45 : decode cX12_undo 45 = .ok (.aload_n 0, 1) := by decide +kernel
theorem dX12_undo_46 : decode cX12_undo 46 = .ok (.getfield 59, 3) := by decide +kernel
theorem dX12_undo_49 : decode cX12_undo 49 = .ok (.imul, 1) := by decide +kernel
theorem dX12_undo_50 : decode cX12_undo 50 = .ok (.iload_n 1, 1) := by decide +kernel
theorem dX12_undo_51 : decode cX12_undo 51 = .ok (.iadd, 1) := by decide +kernel
theorem dX12_undo_52 : decode cX12_undo 52 = .ok (.iaload, 1) := by decide +kernel
theorem dX12_undo_53 : decode cX12_undo 53 = .ok (.iastore, 1) := by decide +kernel
theorem dX12_undo_54 : decode cX12_undo 54 = .ok (.iinc 1 1, 3) := by decide +kernel
theorem dX12_undo_57 : decode cX12_undo 57 = .ok (.goto (-31), 3) := by decide +kernel
theorem dX12_undo_60 : decode cX12_undo 60 = .ok (.iconst 1, 1) := by decide +kernel
theorem dX12_undo_61 : decode cX12_undo 61 = .ok (.ireturn, 1) := by decide +kernel
theorem dX12_dishes_0 : decode cX12_dishes 0 = .ok (.aload_n 0, 1) := by decide +kernel
theorem dX12_dishes_1 : decode cX12_dishes 1 = .ok (.getfield 13, 3) := by decide +kernel
theorem dX12_dishes_4 : decode cX12_dishes 4 = .ok (.iconst 0, 1) := by decide +kernel
theorem dX12_dishes_5 : decode cX12_dishes 5 = .ok (.iaload, 1) := by decide +kernel
theorem dX12_dishes_6 : decode cX12_dishes 6 = .ok (.ireturn, 1) := by decide +kernel
theorem dX12_allDishes_0 : decode cX12_allDishes 0 = .ok (.iconst 1, 1) := by decide +kernel
theorem dX12_allDishes_1 : decode cX12_allDishes 1 = .ok (.aload_n 0, 1) := by decide +kernel
theorem dX12_allDishes_2 : decode cX12_allDishes 2 = .ok (.invokevirtual 62, 3) := by decide +kernel
theorem dX12_allDishes_5 : decode cX12_allDishes 5 = .ok (.ishl, 1) := by decide +kernel
theorem dX12_allDishes_6 : decode cX12_allDishes 6 = .ok (.iconst 1, 1) := by decide +kernel
theorem dX12_allDishes_7 : decode cX12_allDishes 7 = .ok (.isub, 1) := by decide +kernel
theorem dX12_allDishes_8 : decode cX12_allDishes 8 = .ok (.ireturn, 1) := by decide +kernel
theorem dX12_at_0 : decode cX12_at 0 = .ok (.bipush 17, 2) := by decide +kernel
theorem dX12_at_2 : decode cX12_at 2 = .ok (.bipush 8, 2) := by decide +kernel
theorem dX12_at_4 : decode cX12_at 4 = .ok (.iload_n 0, 1) := by decide +kernel
theorem dX12_at_5 : decode cX12_at 5 = .ok (.imul, 1) := by decide +kernel
theorem dX12_at_6 : decode cX12_at 6 = .ok (.iadd, 1) := by decide +kernel
theorem dX12_at_7 : decode cX12_at 7 = .ok (.iload_n 1, 1) := by decide +kernel
theorem dX12_at_8 : decode cX12_at 8 = .ok (.iadd, 1) := by decide +kernel
theorem dX12_at_9 : decode cX12_at 9 = .ok (.ireturn, 1) := by decide +kernel
theorem dX12_of_0 : decode cX12_of 0 = .ok (.aload_n 0, 1) := by decide +kernel
theorem dX12_of_1 : decode cX12_of 1 = .ok (.getfield 13, 3) := by decide +kernel
theorem dX12_of_4 : decode cX12_of 4 = .ok (.iload_n 1, 1) := by decide +kernel
theorem dX12_of_5 : decode cX12_of 5 = .ok (.iload_n 2, 1) := by decide +kernel
theorem dX12_of_6 : decode cX12_of 6 = .ok (.invokestatic 66, 3) := by decide +kernel
theorem dX12_of_9 : decode cX12_of 9 = .ok (.iaload, 1) := by decide +kernel
theorem dX12_of_10 : decode cX12_of 10 = .ok (.ireturn, 1) := by decide +kernel
theorem dX12_isNew_0 : decode cX12_isNew 0 = .ok (.aload_n 0, 1) := by decide +kernel
theorem dX12_isNew_1 : decode cX12_isNew 1 = .ok (.iload_n 1, 1) := by decide +kernel
theorem dX12_isNew_2 : decode cX12_isNew 2 = .ok (.iconst 5, 1) := by decide +kernel
theorem dX12_isNew_3 : decode cX12_isNew 3 = .ok (.invokevirtual 70, 3) := by decide +kernel
theorem dX12_isNew_6 : decode cX12_isNew 6 = .ok (.iconst (-1), 1) := by decide +kernel
theorem dX12_isNew_7 : decode cX12_isNew 7 = .ok (.if_icmp .ne 7, 3) := by decide +kernel
theorem dX12_isNew_10 : decode cX12_isNew 10 = .ok (.iconst 1, 1) := by decide +kernel
theorem dX12_isNew_11 : decode cX12_isNew 11 = .ok (.goto 4, 3) := by decide +kernel
theorem dX12_isNew_14 : decode cX12_isNew 14 = .ok (.iconst 0, 1) := by decide +kernel
theorem dX12_isNew_15 : decode cX12_isNew 15 = .ok (.ireturn, 1) := by decide +kernel
theorem dX12_noDish_0 : decode cX12_noDish 0 = .ok (.iload_n 1, 1) := by decide +kernel
theorem dX12_noDish_1 : decode cX12_noDish 1 = .ok (.iconst 0, 1) := by decide +kernel
theorem dX12_noDish_2 : decode cX12_noDish 2 = .ok (.aload_n 0, 1) := by decide +kernel
theorem dX12_noDish_3 : decode cX12_noDish 3 = .ok (.invokevirtual 62, 3) := by decide +kernel
theorem dX12_noDish_6 : decode cX12_noDish 6 = .ok (.iconst 1, 1) := by decide +kernel
theorem dX12_noDish_7 : decode cX12_noDish 7 = .ok (.isub, 1) := by decide +kernel
theorem dX12_noDish_8 : decode cX12_noDish 8 = .ok (.invokestatic 73, 3) := by decide +kernel
theorem dX12_noDish_11 : decode cX12_noDish 11 = .ok (.ifCond .ne 7, 3) := by decide +kernel
theorem dX12_noDish_14 : decode cX12_noDish 14 = .ok (.iconst 1, 1) := by decide +kernel
theorem dX12_noDish_15 : decode cX12_noDish 15 = .ok (.goto 4, 3) := by decide +kernel
theorem dX12_noDish_18 : decode cX12_noDish 18 = .ok (.iconst 0, 1) := by decide +kernel
theorem dX12_noDish_19 : decode cX12_noDish 19 = .ok (.ireturn, 1) := by decide +kernel
theorem dX12_noPlace_0 : decode cX12_noPlace 0 = .ok (.iload_n 0, 1) := by decide +kernel
theorem dX12_noPlace_1 : decode cX12_noPlace 1 = .ok (.iconst 0, 1) := by decide +kernel
theorem dX12_noPlace_2 : decode cX12_noPlace 2 = .ok (.bipush 7, 2) := by decide +kernel
theorem dX12_noPlace_4 : decode cX12_noPlace 4 = .ok (.invokestatic 73, 3) := by decide +kernel
theorem dX12_noPlace_7 : decode cX12_noPlace 7 = .ok (.ifCond .ne 7, 3) := by decide +kernel
theorem dX12_noPlace_10 : decode cX12_noPlace 10 = .ok (.iconst 1, 1) := by decide +kernel
theorem dX12_noPlace_11 : decode cX12_noPlace 11 = .ok (.goto 4, 3) := by decide +kernel
theorem dX12_noPlace_14 : decode cX12_noPlace 14 = .ok (.iconst 0, 1) := by decide +kernel
theorem dX12_noPlace_15 : decode cX12_noPlace 15 = .ok (.ireturn, 1) := by decide +kernel
theorem dX12_drawn_0 : decode cX12_drawn 0 = .ok (.aload_n 0, 1) := by decide +kernel
theorem dX12_drawn_1 : decode cX12_drawn 1 = .ok (.getfield 13, 3) := by decide +kernel
theorem dX12_drawn_4 : decode cX12_drawn 4 = .ok (.bipush 16, 2) := by decide +kernel
theorem dX12_drawn_6 : decode cX12_drawn 6 = .ok (.ldc 77, 2) := by decide +kernel
theorem dX12_drawn_8 : decode cX12_drawn 8 = .ok (.aload_n 0, 1) := by decide +kernel
theorem dX12_drawn_9 : decode cX12_drawn 9 = .ok (.getfield 13, 3) := by decide +kernel
theorem dX12_drawn_12 : decode cX12_drawn 12 = .ok (.bipush 16, 2) := by decide +kernel
theorem dX12_drawn_14 : decode cX12_drawn 14 = .ok (.iaload, 1) := by decide +kernel
theorem dX12_drawn_15 : decode cX12_drawn 15 = .ok (.imul, 1) := by decide +kernel
theorem dX12_drawn_16 : decode cX12_drawn 16 = .ok (.sipush 12345, 3) := by decide +kernel
theorem dX12_drawn_19 : decode cX12_drawn 19 = .ok (.iadd, 1) := by decide +kernel
theorem dX12_drawn_20 : decode cX12_drawn 20 = .ok (.iastore, 1) := by decide +kernel
theorem dX12_drawn_21 : decode cX12_drawn 21 = .ok (.aload_n 0, 1) := by decide +kernel
theorem dX12_drawn_22 : decode cX12_drawn 22 = .ok (.getfield 13, 3) := by decide +kernel
theorem dX12_drawn_25 : decode cX12_drawn 25 = .ok (.bipush 16, 2) := by decide +kernel
theorem dX12_drawn_27 : decode cX12_drawn 27 = .ok (.iaload, 1) := by decide +kernel
theorem dX12_drawn_28 : decode cX12_drawn 28 = .ok (.bipush 16, 2) := by decide +kernel
theorem dX12_drawn_30 : decode cX12_drawn 30 = .ok (.ishr, 1) := by decide +kernel
theorem dX12_drawn_31 : decode cX12_drawn 31 = .ok (.sipush 32767, 3) := by decide +kernel
theorem dX12_drawn_34 : decode cX12_drawn 34 = .ok (.iand, 1) := by decide +kernel
theorem dX12_drawn_35 : decode cX12_drawn 35 = .ok (.iload_n 1, 1) := by decide +kernel
theorem dX12_drawn_36 : decode cX12_drawn 36 = .ok (.irem, 1) := by decide +kernel
theorem dX12_drawn_37 : decode cX12_drawn 37 = .ok (.ireturn, 1) := by decide +kernel
theorem dX12_feed_0 : decode cX12_feed 0 = .ok (.aload_n 0, 1) := by decide +kernel
theorem dX12_feed_1 : decode cX12_feed 1 = .ok (.iconst 0, 1) := by decide +kernel
theorem dX12_feed_2 : decode cX12_feed 2 = .ok (.putfield 3, 3) := by decide +kernel
theorem dX12_feed_5 : decode cX12_feed 5 = .ok (.aload_n 0, 1) := by decide +kernel
theorem dX12_feed_6 : decode cX12_feed 6 = .ok (.getfield 78, 3) := by decide +kernel
theorem dX12_feed_9 : decode cX12_feed 9 = .ok (.bipush 20, 2) := by decide +kernel
theorem dX12_feed_11 : decode cX12_feed 11 = .ok (.iadd, 1) := by decide +kernel
theorem dX12_feed_12 : decode cX12_feed 12 = .ok (.sipush 400, 3) := by decide +kernel
theorem dX12_feed_15 : decode cX12_feed 15 = .ok (.if_icmp .le 5, 3) := by decide +kernel
theorem dX12_feed_18 : decode cX12_feed 18 = .ok (.iconst (-1), 1) := by decide +kernel
theorem dX12_feed_19 : decode cX12_feed 19 = .ok (.ireturn, 1) := by decide +kernel
theorem dX12_feed_20 : decode cX12_feed 20 = .ok (.aload_n 0, 1) := by decide +kernel
theorem dX12_feed_21 : decode cX12_feed 21 = .ok (.getfield 36, 3) := by decide +kernel
theorem dX12_feed_24 : decode cX12_feed 24 = .ok (.iconst 0, 1) := by decide +kernel
theorem dX12_feed_25 : decode cX12_feed 25 = .ok (.iload_n 1, 1) := by decide +kernel
theorem dX12_feed_26 : decode cX12_feed 26 = .ok (.iastore, 1) := by decide +kernel
theorem dX12_feed_27 : decode cX12_feed 27 = .ok (.aload_n 0, 1) := by decide +kernel
theorem dX12_feed_28 : decode cX12_feed 28 = .ok (.getfield 36, 3) := by decide +kernel
theorem dX12_feed_31 : decode cX12_feed 31 = .ok (.iconst 1, 1) := by decide +kernel
theorem dX12_feed_32 : decode cX12_feed 32 = .ok (.iload_n 2, 1) := by decide +kernel
theorem dX12_feed_33 : decode cX12_feed 33 = .ok (.iastore, 1) := by decide +kernel
theorem dX12_feed_34 : decode cX12_feed 34 = .ok (.aload_n 0, 1) := by decide +kernel
theorem dX12_feed_35 : decode cX12_feed 35 = .ok (.getfield 36, 3) := by decide +kernel
theorem dX12_feed_38 : decode cX12_feed 38 = .ok (.iconst 2, 1) := by decide +kernel
theorem dX12_feed_39 : decode cX12_feed 39 = .ok (.iload_n 3, 1) := by decide +kernel
theorem dX12_feed_40 : decode cX12_feed 40 = .ok (.iastore, 1) := by decide +kernel
theorem dX12_feed_41 : decode cX12_feed 41 = .ok (.aload_n 0, 1) := by decide +kernel
theorem dX12_feed_42 : decode cX12_feed 42 = .ok (.getfield 36, 3) := by decide +kernel
theorem dX12_feed_45 : decode cX12_feed 45 = .ok (.iconst 3, 1) := by decide +kernel
theorem dX12_feed_46 : decode cX12_feed 46 = .ok (.iload 4, 2) := by decide +kernel
theorem dX12_feed_48 : decode cX12_feed 48 = .ok (.iastore, 1) := by decide +kernel
theorem dX12_feed_49 : decode cX12_feed 49 = .ok (.aload_n 0, 1) := by decide +kernel
theorem dX12_feed_50 : decode cX12_feed 50 = .ok (.getfield 36, 3) := by decide +kernel
theorem dX12_feed_53 : decode cX12_feed 53 = .ok (.iconst 4, 1) := by decide +kernel
theorem dX12_feed_54 : decode cX12_feed 54 = .ok (.iload 5, 2) := by decide +kernel
theorem dX12_feed_56 : decode cX12_feed 56 = .ok (.iastore, 1) := by decide +kernel
theorem dX12_feed_57 : decode cX12_feed 57 = .ok (.iconst 0, 1) := by decide +kernel
theorem dX12_feed_58 : decode cX12_feed 58 = .ok (.istore 6, 2) := by decide +kernel
theorem dX12_feed_60 : decode cX12_feed 60 = .ok (.iload 6, 2) := by decide +kernel
theorem dX12_feed_62 : decode cX12_feed 62 = .ok (.bipush 20, 2) := by decide +kernel
theorem dX12_feed_64 : decode cX12_feed 64 = .ok (.if_icmp .ge 42, 3) := by decide +kernel
theorem dX12_feed_67 : decode cX12_feed 67 = .ok (.aload_n 0, 1) := by decide +kernel
theorem dX12_feed_68 : decode cX12_feed 68 = .ok (.getfield 29, 3) := by decide +kernel
theorem dX12_feed_71 : decode cX12_feed 71 = .ok (.aload_n 0, 1) := by decide +kernel
theorem dX12_feed_72 : decode cX12_feed 72 = .ok (.getfield 78, 3) := by decide +kernel
theorem dX12_feed_75 : decode cX12_feed 75 = .ok (.iload 6, 2) := by decide +kernel
theorem dX12_feed_77 : decode cX12_feed 77 = .ok (.iadd, 1) := by decide +kernel
theorem dX12_feed_78 : decode cX12_feed 78 = .ok (.aload_n 0, 1) := by decide +kernel
theorem dX12_feed_79 : decode cX12_feed 79 = .ok (.getfield 36, 3) := by decide +kernel
theorem dX12_feed_82 : decode cX12_feed 82 = .ok (.iload 6, 2) := by decide +kernel
theorem dX12_feed_84 : decode cX12_feed 84 = .ok (.iconst 4, 1) := by decide +kernel
theorem dX12_feed_85 : decode cX12_feed 85 = .ok (.idiv, 1) := by decide +kernel
theorem dX12_feed_86 : decode cX12_feed 86 = .ok (.iaload, 1) := by decide +kernel
theorem dX12_feed_87 : decode cX12_feed 87 = .ok (.bipush 24, 2) := by decide +kernel
theorem dX12_feed_89 : decode cX12_feed 89 = .ok (.bipush 8, 2) := by decide +kernel
theorem dX12_feed_91 : decode cX12_feed 91 = .ok (.iload 6, 2) := by decide +kernel
theorem dX12_feed_93 : decode cX12_feed 93 = .ok (.iconst 4, 1) := by decide +kernel
theorem dX12_feed_94 : decode cX12_feed 94 = .ok (.irem, 1) := by decide +kernel
theorem dX12_feed_95 : decode cX12_feed 95 = .ok (.imul, 1) := by decide +kernel
theorem dX12_feed_96 : decode cX12_feed 96 = .ok (.isub, 1) := by decide +kernel
theorem dX12_feed_97 : decode cX12_feed 97 = .ok (.ishr, 1) := by decide +kernel
theorem dX12_feed_98 : decode cX12_feed 98 = .ok (.i2b, 1) := by decide +kernel
theorem dX12_feed_99 : decode cX12_feed 99 = .ok (.bastore, 1) := by decide +kernel
theorem dX12_feed_100 : decode cX12_feed 100 = .ok (.iinc 6 1, 3) := by decide +kernel
theorem dX12_feed_103 : decode cX12_feed 103 = .ok (.goto (-43), 3) := by decide +kernel
theorem dX12_feed_106 : decode cX12_feed 106 = .ok (.aload_n 0, 1) := by decide +kernel
theorem dX12_feed_107 : decode cX12_feed 107 = .ok (.dup, 1) := by decide +kernel
theorem dX12_feed_108 : decode cX12_feed 108 = .ok (.getfield 78, 3) := by decide +kernel
theorem dX12_feed_111 : decode cX12_feed 111 = .ok (.bipush 20, 2) := by decide +kernel
theorem dX12_feed_113 : decode cX12_feed 113 = .ok (.iadd, 1) := by decide +kernel
theorem dX12_feed_114 : decode cX12_feed 114 = .ok (.putfield 78, 3) := by decide +kernel
theorem dX12_feed_117 : decode cX12_feed 117 = .ok (.aload_n 0, 1) := by decide +kernel
theorem dX12_feed_118 : decode cX12_feed 118 = .ok (.getfield 78, 3) := by decide +kernel
theorem dX12_feed_121 : decode cX12_feed 121 = .ok (.ireturn, 1) := by decide +kernel
theorem dX12_end_0 : decode cX12_end 0 = .ok (.aload_n 0, 1) := by decide +kernel
theorem dX12_end_1 : decode cX12_end 1 = .ok (.iconst 0, 1) := by decide +kernel
theorem dX12_end_2 : decode cX12_end 2 = .ok (.putfield 3, 3) := by decide +kernel
theorem dX12_end_5 : decode cX12_end 5 = .ok (.iload_n 1, 1) := by decide +kernel
theorem dX12_end_6 : decode cX12_end 6 = .ok (.ifCond .lt 11, 3) := by decide +kernel
theorem dX12_end_9 : decode cX12_end 9 = .ok (.iload_n 1, 1) := by decide +kernel
theorem dX12_end_10 : decode cX12_end 10 = .ok (.aload_n 0, 1) := by decide +kernel
theorem dX12_end_11 : decode cX12_end 11 = .ok (.getfield 78, 3) := by decide +kernel
theorem dX12_end_14 : decode cX12_end 14 = .ok (.if_icmp .le 5, 3) := by decide +kernel
theorem dX12_end_17 : decode cX12_end 17 = .ok (.iconst 0, 1) := by decide +kernel
theorem dX12_end_18 : decode cX12_end 18 = .ok (.ireturn, 1) := by decide +kernel
theorem dX12_end_19 : decode cX12_end 19 = .ok (.aload_n 0, 1) := by decide +kernel
theorem dX12_end_20 : decode cX12_end 20 = .ok (.iload_n 1, 1) := by decide +kernel
theorem dX12_end_21 : decode cX12_end 21 = .ok (.putfield 78, 3) := by decide +kernel
theorem dX12_end_24 : decode cX12_end 24 = .ok (.iconst 1, 1) := by decide +kernel
theorem dX12_end_25 : decode cX12_end 25 = .ok (.ireturn, 1) := by decide +kernel
theorem dX12_isAt_0 : decode cX12_isAt 0 = .ok (.aload_n 0, 1) := by decide +kernel
theorem dX12_isAt_1 : decode cX12_isAt 1 = .ok (.getfield 81, 3) := by decide +kernel
theorem dX12_isAt_4 : decode cX12_isAt 4 = .ok (.aload_n 0, 1) := by decide +kernel
theorem dX12_isAt_5 : decode cX12_isAt 5 = .ok (.getfield 84, 3) := by decide +kernel
theorem dX12_isAt_8 : decode cX12_isAt 8 = .ok (.if_icmp .ge 33, 3) := by decide +kernel
theorem dX12_isAt_11 : decode cX12_isAt 11 = .ok (.aload_n 0, 1) := by decide +kernel
theorem dX12_isAt_12 : decode cX12_isAt 12 = .ok (.getfield 29, 3) := by decide +kernel
theorem dX12_isAt_15 : decode cX12_isAt 15 = .ok (.aload_n 0, 1) := by decide +kernel
theorem dX12_isAt_16 : decode cX12_isAt 16 = .ok (.getfield 81, 3) := by decide +kernel
theorem dX12_isAt_19 : decode cX12_isAt 19 = .ok (.baload, 1) := by decide +kernel
theorem dX12_isAt_20 : decode cX12_isAt 20 = .ok (.iload_n 1, 1) := by decide +kernel
theorem dX12_isAt_21 : decode cX12_isAt 21 = .ok (.if_icmp .lt 20, 3) := by decide +kernel
theorem dX12_isAt_24 : decode cX12_isAt 24 = .ok (.aload_n 0, 1) := by decide +kernel
theorem dX12_isAt_25 : decode cX12_isAt 25 = .ok (.getfield 29, 3) := by decide +kernel
theorem dX12_isAt_28 : decode cX12_isAt 28 = .ok (.aload_n 0, 1) := by decide +kernel
theorem dX12_isAt_29 : decode cX12_isAt 29 = .ok (.getfield 81, 3) := by decide +kernel
theorem dX12_isAt_32 : decode cX12_isAt 32 = .ok (.baload, 1) := by decide +kernel
theorem dX12_isAt_33 : decode cX12_isAt 33 = .ok (.iload_n 2, 1) := by decide +kernel
theorem dX12_isAt_34 : decode cX12_isAt 34 = .ok (.if_icmp .gt 7, 3) := by decide +kernel
theorem dX12_isAt_37 : decode cX12_isAt 37 = .ok (.iconst 1, 1) := by decide +kernel
theorem dX12_isAt_38 : decode cX12_isAt 38 = .ok (.goto 4, 3) := by decide +kernel
theorem dX12_isAt_41 : decode cX12_isAt 41 = .ok (.iconst 0, 1) := by decide +kernel
theorem dX12_isAt_42 : decode cX12_isAt 42 = .ok (.ireturn, 1) := by decide +kernel
theorem dX12_blanks_0 : decode cX12_blanks 0 = .ok (.aload_n 0, 1) := by decide +kernel
theorem dX12_blanks_1 : decode cX12_blanks 1 = .ok (.bipush 32, 2) := by decide +kernel
theorem dX12_blanks_3 : decode cX12_blanks 3 = .ok (.bipush 32, 2) := by decide +kernel
theorem dX12_blanks_5 : decode cX12_blanks 5 = .ok (.invokevirtual 87, 3) := by decide +kernel
theorem dX12_blanks_8 : decode cX12_blanks 8 = .ok (.ifCond .eq 16, 3) := by decide +kernel
theorem dX12_blanks_11 : decode cX12_blanks 11 = .ok (.aload_n 0, 1) := by decide +kernel
theorem dX12_blanks_12 : decode cX12_blanks 12 = .ok (.dup, 1) := by decide +kernel
theorem dX12_blanks_13 : decode cX12_blanks 13 = .ok (.getfield 81, 3) := by decide +kernel
theorem dX12_blanks_16 : decode cX12_blanks 16 = .ok (.iconst 1, 1) := by decide +kernel
theorem dX12_blanks_17 : decode cX12_blanks 17 = .ok (.iadd, 1) := by decide +kernel
theorem dX12_blanks_18 : decode cX12_blanks 18 = .ok (.putfield 81, 3) := by decide +kernel
theorem dX12_blanks_21 : decode cX12_blanks 21 = .ok (.goto (-21), 3) := by decide +kernel
theorem dX12_blanks_24 : decode cX12_blanks 24 = .ok (.aload_n 0, 1) := by decide +kernel
theorem dX12_blanks_25 : decode cX12_blanks 25 = .ok (.aload_n 0, 1) := by decide +kernel
theorem dX12_blanks_26 : decode cX12_blanks 26 = .ok (.getfield 81, 3) := by decide +kernel
theorem dX12_blanks_29 : decode cX12_blanks 29 = .ok (.putfield 91, 3) := by decide +kernel
theorem dX12_blanks_32 : decode cX12_blanks 32 = .ok (.return_, 1) := by decide +kernel
theorem dX12_letters_0 : decode cX12_letters 0 = .ok (.aload_n 0, 1) := by decide +kernel
theorem dX12_letters_1 : decode cX12_letters 1 = .ok (.invokevirtual 94, 3) := by decide +kernel
theorem dX12_letters_4 : decode cX12_letters 4 = .ok (.aload_n 0, 1) := by decide +kernel
theorem dX12_letters_5 : decode cX12_letters 5 = .ok (.bipush 97, 2) := by decide +kernel
theorem dX12_letters_7 : decode cX12_letters 7 = .ok (.bipush 122, 2) := by decide +kernel
theorem dX12_letters_9 : decode cX12_letters 9 = .ok (.invokevirtual 87, 3) := by decide +kernel
theorem dX12_letters_12 : decode cX12_letters 12 = .ok (.ifCond .eq 16, 3) := by decide +kernel
theorem dX12_letters_15 : decode cX12_letters 15 = .ok (.aload_n 0, 1) := by decide +kernel
theorem dX12_letters_16 : decode cX12_letters 16 = .ok (.dup, 1) := by decide +kernel
theorem dX12_letters_17 : decode cX12_letters 17 = .ok (.getfield 81, 3) := by decide +kernel
theorem dX12_letters_20 : decode cX12_letters 20 = .ok (.iconst 1, 1) := by decide +kernel
theorem dX12_letters_21 : decode cX12_letters 21 = .ok (.iadd, 1) := by decide +kernel
theorem dX12_letters_22 : decode cX12_letters 22 = .ok (.putfield 81, 3) := by decide +kernel
theorem dX12_letters_25 : decode cX12_letters 25 = .ok (.goto (-21), 3) := by decide +kernel
theorem dX12_letters_28 : decode cX12_letters 28 = .ok (.return_, 1) := by decide +kernel
theorem dX12_isWord_0 : decode cX12_isWord 0 = .ok (.aload_n 0, 1) := by decide +kernel
theorem dX12_isWord_1 : decode cX12_isWord 1 = .ok (.getfield 81, 3) := by decide +kernel
theorem dX12_isWord_4 : decode cX12_isWord 4 = .ok (.aload_n 0, 1) := by decide +kernel
theorem dX12_isWord_5 : decode cX12_isWord 5 = .ok (.getfield 91, 3) := by decide +kernel
theorem dX12_isWord_8 : decode cX12_isWord 8 = .ok (.isub, 1) := by decide +kernel
theorem dX12_isWord_9 : decode cX12_isWord 9 = .ok (.aload_n 1, 1) := by decide +kernel
theorem dX12_isWord_10 : decode cX12_isWord 10 = .ok (.invokevirtual 97, 3) := by decide +kernel
theorem dX12_isWord_13 : decode cX12_isWord 13 = .ok (.if_icmp .ne 7, 3) := by decide +kernel
theorem dX12_isWord_16 : decode cX12_isWord 16 = .ok (.iconst 1, 1) := by decide +kernel
theorem dX12_isWord_17 : decode cX12_isWord 17 = .ok (.goto 4, 3) := by decide +kernel
theorem dX12_isWord_20 : decode cX12_isWord 20 = .ok (.iconst 0, 1) := by decide +kernel
theorem dX12_isWord_21 : decode cX12_isWord 21 = .ok (.istore_n 2, 1) := by decide +kernel
theorem dX12_isWord_22 : decode cX12_isWord 22 = .ok (.iconst 0, 1) := by decide +kernel
theorem dX12_isWord_23 : decode cX12_isWord 23 = .ok (.istore_n 3, 1) := by decide +kernel
theorem dX12_isWord_24 : decode cX12_isWord 24 = .ok (.iload_n 2, 1) := by decide +kernel
theorem dX12_isWord_25 : decode cX12_isWord 25 = .ok (.ifCond .eq 42, 3) := by decide +kernel
theorem dX12_isWord_28 : decode cX12_isWord 28 = .ok (.iload_n 3, 1) := by decide +kernel
theorem dX12_isWord_29 : decode cX12_isWord 29 = .ok (.aload_n 1, 1) := by decide +kernel
theorem dX12_isWord_30 : decode cX12_isWord 30 = .ok (.invokevirtual 97, 3) := by decide +kernel
theorem dX12_isWord_33 : decode cX12_isWord 33 = .ok (.if_icmp .ge 34, 3) := by decide +kernel
theorem dX12_isWord_36 : decode cX12_isWord 36 = .ok (.aload_n 0, 1) := by decide +kernel
theorem dX12_isWord_37 : decode cX12_isWord 37 = .ok (.getfield 29, 3) := by decide +kernel
theorem dX12_isWord_40 : decode cX12_isWord 40 = .ok (.aload_n 0, 1) := by decide +kernel
theorem dX12_isWord_41 : decode cX12_isWord 41 = .ok (.getfield 91, 3) := by decide +kernel
theorem dX12_isWord_44 : decode cX12_isWord 44 = .ok (.iload_n 3, 1) := by decide +kernel
theorem dX12_isWord_45 : decode cX12_isWord 45 = .ok (.iadd, 1) := by decide +kernel
theorem dX12_isWord_46 : decode cX12_isWord 46 = .ok (.baload, 1) := by decide +kernel
theorem dX12_isWord_47 : decode cX12_isWord 47 = .ok (.aload_n 1, 1) := by decide +kernel
theorem dX12_isWord_48 : decode cX12_isWord 48 = .ok (.iload_n 3, 1) := by decide +kernel
theorem dX12_isWord_49 : decode cX12_isWord 49 = .ok (.invokevirtual 102, 3) := by decide +kernel
theorem dX12_isWord_52 : decode cX12_isWord 52 = .ok (.if_icmp .ne 7, 3) := by decide +kernel
theorem dX12_isWord_55 : decode cX12_isWord 55 = .ok (.iconst 1, 1) := by decide +kernel
theorem dX12_isWord_56 : decode cX12_isWord 56 = .ok (.goto 4, 3) := by decide +kernel
theorem dX12_isWord_59 : decode cX12_isWord 59 = .ok (.iconst 0, 1) := by decide +kernel
theorem dX12_isWord_60 : decode cX12_isWord 60 = .ok (.istore_n 2, 1) := by decide +kernel
theorem dX12_isWord_61 : decode cX12_isWord 61 = .ok (.iinc 3 1, 3) := by decide +kernel
theorem dX12_isWord_64 : decode cX12_isWord 64 = .ok (.goto (-40), 3) := by decide +kernel
theorem dX12_isWord_67 : decode cX12_isWord 67 = .ok (.iload_n 2, 1) := by decide +kernel
theorem dX12_isWord_68 : decode cX12_isWord 68 = .ok (.ireturn, 1) := by decide +kernel
theorem dX12_passes_0 : decode cX12_passes 0 = .ok (.aload_n 0, 1) := by decide +kernel
theorem dX12_passes_1 : decode cX12_passes 1 = .ok (.invokevirtual 106, 3) := by decide +kernel
theorem dX12_passes_4 : decode cX12_passes 4 = .ok (.aload_n 0, 1) := by decide +kernel
theorem dX12_passes_5 : decode cX12_passes 5 = .ok (.aload_n 1, 1) := by decide +kernel
theorem dX12_passes_6 : decode cX12_passes 6 = .ok (.invokevirtual 109, 3) := by decide +kernel
theorem dX12_passes_9 : decode cX12_passes 9 = .ok (.ifCond .eq 5, 3) := by decide +kernel
theorem dX12_passes_12 : decode cX12_passes 12 = .ok (.iconst 1, 1) := by decide +kernel
theorem dX12_passes_13 : decode cX12_passes 13 = .ok (.ireturn, 1) := by decide +kernel
theorem dX12_passes_14 : decode cX12_passes 14 = .ok (.aload_n 0, 1) := by decide +kernel
theorem dX12_passes_15 : decode cX12_passes 15 = .ok (.aload_n 0, 1) := by decide +kernel
theorem dX12_passes_16 : decode cX12_passes 16 = .ok (.getfield 91, 3) := by decide +kernel
theorem dX12_passes_19 : decode cX12_passes 19 = .ok (.putfield 81, 3) := by decide +kernel
theorem dX12_passes_22 : decode cX12_passes 22 = .ok (.iconst 0, 1) := by decide +kernel
theorem dX12_passes_23 : decode cX12_passes 23 = .ok (.ireturn, 1) := by decide +kernel
theorem dX12_sign_0 : decode cX12_sign 0 = .ok (.aload_n 0, 1) := by decide +kernel
theorem dX12_sign_1 : decode cX12_sign 1 = .ok (.invokevirtual 94, 3) := by decide +kernel
theorem dX12_sign_4 : decode cX12_sign 4 = .ok (.aload_n 0, 1) := by decide +kernel
theorem dX12_sign_5 : decode cX12_sign 5 = .ok (.iload_n 1, 1) := by decide +kernel
theorem dX12_sign_6 : decode cX12_sign 6 = .ok (.iload_n 1, 1) := by decide +kernel
theorem dX12_sign_7 : decode cX12_sign 7 = .ok (.invokevirtual 87, 3) := by decide +kernel
theorem dX12_sign_10 : decode cX12_sign 10 = .ok (.ifCond .ne 5, 3) := by decide +kernel
theorem dX12_sign_13 : decode cX12_sign 13 = .ok (.iconst 0, 1) := by decide +kernel
theorem dX12_sign_14 : decode cX12_sign 14 = .ok (.ireturn, 1) := by decide +kernel
theorem dX12_sign_15 : decode cX12_sign 15 = .ok (.aload_n 0, 1) := by decide +kernel
theorem dX12_sign_16 : decode cX12_sign 16 = .ok (.dup, 1) := by decide +kernel
theorem dX12_sign_17 : decode cX12_sign 17 = .ok (.getfield 81, 3) := by decide +kernel
theorem dX12_sign_20 : decode cX12_sign 20 = .ok (.iconst 1, 1) := by decide +kernel
theorem dX12_sign_21 : decode cX12_sign 21 = .ok (.iadd, 1) := by decide +kernel
theorem dX12_sign_22 : decode cX12_sign 22 = .ok (.putfield 81, 3) := by decide +kernel
theorem dX12_sign_25 : decode cX12_sign 25 = .ok (.iconst 1, 1) := by decide +kernel
theorem dX12_sign_26 : decode cX12_sign 26 = .ok (.ireturn, 1) := by decide +kernel
theorem dX12_number_0 : decode cX12_number 0 = .ok (.aload_n 0, 1) := by decide +kernel
theorem dX12_number_1 : decode cX12_number 1 = .ok (.invokevirtual 94, 3) := by decide +kernel
theorem dX12_number_4 : decode cX12_number 4 = .ok (.iconst 0, 1) := by decide +kernel
theorem dX12_number_5 : decode cX12_number 5 = .ok (.istore_n 3, 1) := by decide +kernel
theorem dX12_number_6 : decode cX12_number 6 = .ok (.aload_n 0, 1) := by decide +kernel
theorem dX12_number_7 : decode cX12_number 7 = .ok (.bipush 48, 2) := by decide +kernel
theorem dX12_number_9 : decode cX12_number 9 = .ok (.bipush 57, 2) := by decide +kernel
theorem dX12_number_11 : decode cX12_number 11 = .ok (.invokevirtual 87, 3) := by decide +kernel
theorem dX12_number_14 : decode cX12_number 14 = .ok (.ifCond .eq 51, 3) := by decide +kernel
theorem dX12_number_17 : decode cX12_number 17 = .ok (.aload_n 0, 1) := by decide +kernel
theorem dX12_number_18 : decode cX12_number 18 = .ok (.getfield 81, 3) := by decide +kernel
theorem dX12_number_21 : decode cX12_number 21 = .ok (.aload_n 0, 1) := by decide +kernel
theorem dX12_number_22 : decode cX12_number 22 = .ok (.getfield 91, 3) := by decide +kernel
theorem dX12_number_25 : decode cX12_number 25 = .ok (.isub, 1) := by decide +kernel
theorem dX12_number_26 : decode cX12_number 26 = .ok (.iconst 3, 1) := by decide +kernel
theorem dX12_number_27 : decode cX12_number 27 = .ok (.if_icmp .ge 23, 3) := by decide +kernel
theorem dX12_number_30 : decode cX12_number 30 = .ok (.bipush 10, 2) := by decide +kernel
theorem dX12_number_32 : decode cX12_number 32 = .ok (.iload_n 3, 1) := by decide +kernel
theorem dX12_number_33 : decode cX12_number 33 = .ok (.imul, 1) := by decide +kernel
theorem dX12_number_34 : decode cX12_number 34 = .ok (.aload_n 0, 1) := by decide +kernel
theorem dX12_number_35 : decode cX12_number 35 = .ok (.getfield 29, 3) := by decide +kernel
theorem dX12_number_38 : decode cX12_number 38 = .ok (.aload_n 0, 1) := by decide +kernel
theorem dX12_number_39 : decode cX12_number 39 = .ok (.getfield 81, 3) := by decide +kernel
theorem dX12_number_42 : decode cX12_number 42 = .ok (.baload, 1) := by decide +kernel
theorem dX12_number_43 : decode cX12_number 43 = .ok (.iadd, 1) := by decide +kernel
theorem dX12_number_44 : decode cX12_number 44 = .ok (.bipush 48, 2) := by decide +kernel
theorem dX12_number_46 : decode cX12_number 46 = .ok (.isub, 1) := by decide +kernel
theorem dX12_number_47 : decode cX12_number 47 = .ok (.goto 4, 3) := by decide +kernel
theorem dX12_number_50 : decode cX12_number 50 = .ok (.iload_n 3, 1) := by decide +kernel
theorem dX12_number_51 : decode cX12_number 51 = .ok (.istore_n 3, 1) := by decide +kernel
theorem dX12_number_52 : decode cX12_number 52 = .ok (.aload_n 0, 1) := by decide +kernel
theorem dX12_number_53 : decode cX12_number 53 = .ok (.dup, 1) := by decide +kernel
theorem dX12_number_54 : decode cX12_number 54 = .ok (.getfield 81, 3) := by decide +kernel
theorem dX12_number_57 : decode cX12_number 57 = .ok (.iconst 1, 1) := by decide +kernel
theorem dX12_number_58 : decode cX12_number 58 = .ok (.iadd, 1) := by decide +kernel
theorem dX12_number_59 : decode cX12_number 59 = .ok (.putfield 81, 3) := by decide +kernel
theorem dX12_number_62 : decode cX12_number 62 = .ok (.goto (-56), 3) := by decide +kernel
theorem dX12_number_65 : decode cX12_number 65 = .ok (.aload_n 0, 1) := by decide +kernel
theorem dX12_number_66 : decode cX12_number 66 = .ok (.getfield 81, 3) := by decide +kernel
theorem dX12_number_69 : decode cX12_number 69 = .ok (.aload_n 0, 1) := by decide +kernel
theorem dX12_number_70 : decode cX12_number 70 = .ok (.getfield 91, 3) := by decide +kernel
theorem dX12_number_73 : decode cX12_number 73 = .ok (.if_icmp .eq 26, 3) := by decide +kernel
theorem dX12_number_76 : decode cX12_number 76 = .ok (.aload_n 0, 1) := by decide +kernel
theorem dX12_number_77 : decode cX12_number 77 = .ok (.getfield 81, 3) := by decide +kernel
theorem dX12_number_80 : decode cX12_number 80 = .ok (.aload_n 0, 1) := by decide +kernel
theorem dX12_number_81 : decode cX12_number 81 = .ok (.getfield 91, 3) := by decide +kernel
theorem dX12_number_84 : decode cX12_number 84 = .ok (.isub, 1) := by decide +kernel
theorem dX12_number_85 : decode cX12_number 85 = .ok (.iconst 3, 1) := by decide +kernel
theorem dX12_number_86 : decode cX12_number 86 = .ok (.if_icmp .gt 13, 3) := by decide +kernel
theorem dX12_number_89 : decode cX12_number 89 = .ok (.iload_n 3, 1) := by decide +kernel
theorem dX12_number_90 : decode cX12_number 90 = .ok (.iload_n 1, 1) := by decide +kernel
theorem dX12_number_91 : decode cX12_number 91 = .ok (.if_icmp .lt 8, 3) := by decide +kernel
theorem dX12_number_94 : decode cX12_number 94 = .ok (.iload_n 3, 1) := by decide +kernel
theorem dX12_number_95 : decode cX12_number 95 = .ok (.iload_n 2, 1) := by decide +kernel
theorem dX12_number_96 : decode cX12_number 96 = .ok (.if_icmp .le 7, 3) := by decide +kernel
theorem dX12_number_99 : decode cX12_number 99 = .ok (.iconst (-1), 1) := by decide +kernel
theorem dX12_number_100 : decode cX12_number 100 = .ok (.goto 4, 3) := by decide +kernel
theorem dX12_number_103 : decode cX12_number 103 = .ok (.iload_n 3, 1) := by decide +kernel
theorem dX12_number_104 : decode cX12_number 104 = .ok (.ireturn, 1) := by decide +kernel
theorem dX12_after_0 : decode cX12_after 0 = .ok (.aload_n 0, 1) := by decide +kernel
theorem dX12_after_1 : decode cX12_after 1 = .ok (.invokevirtual 106, 3) := by decide +kernel
theorem dX12_after_4 : decode cX12_after 4 = .ok (.aload_n 0, 1) := by decide +kernel
theorem dX12_after_5 : decode cX12_after 5 = .ok (.aload_n 1, 1) := by decide +kernel
theorem dX12_after_6 : decode cX12_after 6 = .ok (.invokevirtual 109, 3) := by decide +kernel
theorem dX12_after_9 : decode cX12_after 9 = .ok (.ifCond .eq 12, 3) := by decide +kernel
theorem dX12_after_12 : decode cX12_after 12 = .ok (.aload_n 0, 1) := by decide +kernel
theorem dX12_after_13 : decode cX12_after 13 = .ok (.iload_n 2, 1) := by decide +kernel
theorem dX12_after_14 : decode cX12_after 14 = .ok (.iload_n 3, 1) := by decide +kernel
theorem dX12_after_15 : decode cX12_after 15 = .ok (.invokevirtual 113, 3) := by decide +kernel
theorem dX12_after_18 : decode cX12_after 18 = .ok (.goto 4, 3) := by decide +kernel
theorem dX12_after_21 : decode cX12_after 21 = .ok (.iconst (-1), 1) := by decide +kernel
theorem dX12_after_22 : decode cX12_after 22 = .ok (.ireturn, 1) := by decide +kernel
theorem dX12_fault_0 : decode cX12_fault 0 = .ok (.aload_n 0, 1) := by decide +kernel
theorem dX12_fault_1 : decode cX12_fault 1 = .ok (.iconst 0, 1) := by decide +kernel
theorem dX12_fault_2 : decode cX12_fault 2 = .ok (.putfield 3, 3) := by decide +kernel
theorem dX12_fault_5 : decode cX12_fault 5 = .ok (.aload_n 0, 1) := by decide +kernel
theorem dX12_fault_6 : decode cX12_fault 6 = .ok (.getfield 33, 3) := by decide +kernel
theorem dX12_fault_9 : decode cX12_fault 9 = .ok (.ireturn, 1) := by decide +kernel
theorem dX12_uses_0 : decode cX12_uses 0 = .ok (.aload_n 0, 1) := by decide +kernel
theorem dX12_uses_1 : decode cX12_uses 1 = .ok (.iconst 0, 1) := by decide +kernel
theorem dX12_uses_2 : decode cX12_uses 2 = .ok (.putfield 3, 3) := by decide +kernel
theorem dX12_uses_5 : decode cX12_uses 5 = .ok (.aload_n 0, 1) := by decide +kernel
theorem dX12_uses_6 : decode cX12_uses 6 = .ok (.aload_n 0, 1) := by decide +kernel
theorem dX12_uses_7 : decode cX12_uses 7 = .ok (.getfield 78, 3) := by decide +kernel
theorem dX12_uses_10 : decode cX12_uses 10 = .ok (.putfield 84, 3) := by decide +kernel
theorem dX12_uses_13 : decode cX12_uses 13 = .ok (.aload_n 0, 1) := by decide +kernel
theorem dX12_uses_14 : decode cX12_uses 14 = .ok (.iconst 0, 1) := by decide +kernel
theorem dX12_uses_15 : decode cX12_uses 15 = .ok (.putfield 78, 3) := by decide +kernel
theorem dX12_uses_18 : decode cX12_uses 18 = .ok (.aload_n 0, 1) := by decide +kernel
theorem dX12_uses_19 : decode cX12_uses 19 = .ok (.iconst 0, 1) := by decide +kernel
theorem dX12_uses_20 : decode cX12_uses 20 = .ok (.putfield 81, 3) := by decide +kernel
theorem dX12_uses_23 : decode cX12_uses 23 = .ok (.return_, 1) := by decide +kernel
theorem dX12_readNumber_0 : decode cX12_readNumber 0 = .ok (.aload_n 0, 1) := by decide +kernel
theorem dX12_readNumber_1 : decode cX12_readNumber 1 = .ok (.iload_n 2, 1) := by decide +kernel
theorem dX12_readNumber_2 : decode cX12_readNumber 2 = .ok (.iload_n 3, 1) := by decide +kernel
theorem dX12_readNumber_3 : decode cX12_readNumber 3 = .ok (.invokevirtual 113, 3) := by decide +kernel
theorem dX12_readNumber_6 : decode cX12_readNumber 6 = .ok (.istore 4, 2) := by decide +kernel
theorem dX12_readNumber_8 : decode cX12_readNumber 8 = .ok (.aload_n 0, 1) := by decide +kernel
theorem dX12_readNumber_9 : decode cX12_readNumber 9 = .ok (.getfield 13, 3) := by decide +kernel
theorem dX12_readNumber_12 : decode cX12_readNumber 12 = .ok (.iload_n 1, 1) := by decide +kernel
theorem dX12_readNumber_13 : decode cX12_readNumber 13 = .ok (.iload 4, 2) := by decide +kernel
theorem dX12_readNumber_15 : decode cX12_readNumber 15 = .ok (.ifCond .ge 12, 3) := by decide +kernel
theorem dX12_readNumber_18 : decode cX12_readNumber 18 = .ok (.aload_n 0, 1) := by decide +kernel
theorem dX12_readNumber_19 : decode cX12_readNumber 19 = .ok (.getfield 13, 3) := by decide +kernel
theorem dX12_readNumber_22 : decode cX12_readNumber 22 = .ok (.iload_n 1, 1) := by decide +kernel
theorem dX12_readNumber_23 : decode cX12_readNumber 23 = .ok (.iaload, 1) := by decide +kernel
theorem dX12_readNumber_24 : decode cX12_readNumber 24 = .ok (.goto 5, 3) := by decide +kernel
theorem dX12_readNumber_27 : decode cX12_readNumber 27 = .ok (.iload 4, 2) := by decide +kernel
theorem dX12_readNumber_29 : decode cX12_readNumber 29 = .ok (.iastore, 1) := by decide +kernel
theorem dX12_readNumber_30 : decode cX12_readNumber 30 = .ok (.iload 4, 2) := by decide +kernel
theorem dX12_readNumber_32 : decode cX12_readNumber 32 = .ok (.ifCond .lt 7, 3) := by decide +kernel
theorem dX12_readNumber_35 : decode cX12_readNumber 35 = .ok (.iconst 1, 1) := by decide +kernel
theorem dX12_readNumber_36 : decode cX12_readNumber 36 = .ok (.goto 4, 3) := by decide +kernel
theorem dX12_readNumber_39 : decode cX12_readNumber 39 = .ok (.iconst 0, 1) := by decide +kernel
theorem dX12_readNumber_40 : decode cX12_readNumber 40 = .ok (.ireturn, 1) := by decide +kernel
theorem dX12_readTastes_0 : decode cX12_readTastes 0 = .ok (.aload_n 0, 1) := by decide +kernel
theorem dX12_readTastes_1 : decode cX12_readTastes 1 = .ok (.invokevirtual 94, 3) := by decide +kernel
theorem dX12_readTastes_4 : decode cX12_readTastes 4 = .ok (.aload_n 0, 1) := by decide +kernel
theorem dX12_readTastes_5 : decode cX12_readTastes 5 = .ok (.bipush 48, 2) := by decide +kernel
theorem dX12_readTastes_7 : decode cX12_readTastes 7 = .ok (.bipush 57, 2) := by decide +kernel
theorem dX12_readTastes_9 : decode cX12_readTastes 9 = .ok (.invokevirtual 87, 3) := by decide +kernel
theorem dX12_readTastes_12 : decode cX12_readTastes 12 = .ok (.ifCond .eq 59, 3) := by decide +kernel
theorem dX12_readTastes_15 : decode cX12_readTastes 15 = .ok (.aload_n 0, 1) := by decide +kernel
theorem dX12_readTastes_16 : decode cX12_readTastes 16 = .ok (.getfield 81, 3) := by decide +kernel
theorem dX12_readTastes_19 : decode cX12_readTastes 19 = .ok (.aload_n 0, 1) := by decide +kernel
theorem dX12_readTastes_20 : decode cX12_readTastes 20 = .ok (.getfield 91, 3) := by decide +kernel
theorem dX12_readTastes_23 : decode cX12_readTastes 23 = .ok (.isub, 1) := by decide +kernel
theorem dX12_readTastes_24 : decode cX12_readTastes 24 = .ok (.iconst 5, 1) := by decide +kernel
theorem dX12_readTastes_25 : decode cX12_readTastes 25 = .ok (.if_icmp .ge 33, 3) := by decide +kernel
theorem dX12_readTastes_28 : decode cX12_readTastes 28 = .ok (.aload_n 0, 1) := by decide +kernel
theorem dX12_readTastes_29 : decode cX12_readTastes 29 = .ok (.getfield 13, 3) := by decide +kernel
theorem dX12_readTastes_32 : decode cX12_readTastes 32 = .ok (.iload_n 1, 1) := by decide +kernel
theorem dX12_readTastes_33 : decode cX12_readTastes 33 = .ok (.aload_n 0, 1) := by decide +kernel
theorem dX12_readTastes_34 : decode cX12_readTastes 34 = .ok (.getfield 81, 3) := by decide +kernel
theorem dX12_readTastes_37 : decode cX12_readTastes 37 = .ok (.aload_n 0, 1) := by decide +kernel
theorem dX12_readTastes_38 : decode cX12_readTastes 38 = .ok (.getfield 91, 3) := by decide +kernel
theorem dX12_readTastes_41 : decode cX12_readTastes 41 = .ok (.isub, 1) := by decide +kernel
theorem dX12_readTastes_42 : decode cX12_readTastes 42 = .ok (.invokestatic 66, 3) := by decide +kernel
theorem dX12_readTastes_45 : decode cX12_readTastes 45 = .ok (.aload_n 0, 1) := by decide +kernel
theorem dX12_readTastes_46 : decode cX12_readTastes 46 = .ok (.getfield 29, 3) := by decide +kernel
theorem dX12_readTastes_49 : decode cX12_readTastes 49 = .ok (.aload_n 0, 1) := by decide +kernel
theorem dX12_readTastes_50 : decode cX12_readTastes 50 = .ok (.getfield 81, 3) := by decide +kernel
theorem dX12_readTastes_53 : decode cX12_readTastes 53 = .ok (.baload, 1) := by decide +kernel
theorem dX12_readTastes_54 : decode cX12_readTastes 54 = .ok (.bipush 48, 2) := by decide +kernel
theorem dX12_readTastes_56 : decode cX12_readTastes 56 = .ok (.isub, 1) := by decide +kernel
theorem dX12_readTastes_57 : decode cX12_readTastes 57 = .ok (.iastore, 1) := by decide +kernel
theorem dX12_readTastes_58 : decode cX12_readTastes 58 = .ok (.aload_n 0, 1) := by decide +kernel
theorem dX12_readTastes_59 : decode cX12_readTastes 59 = .ok (.dup, 1) := by decide +kernel
theorem dX12_readTastes_60 : decode cX12_readTastes 60 = .ok (.getfield 81, 3) := by decide +kernel
theorem dX12_readTastes_63 : decode cX12_readTastes 63 = .ok (.iconst 1, 1) := by decide +kernel
theorem dX12_readTastes_64 : decode cX12_readTastes 64 = .ok (.iadd, 1) := by decide +kernel
theorem dX12_readTastes_65 : decode cX12_readTastes 65 = .ok (.putfield 81, 3) := by decide +kernel
theorem dX12_readTastes_68 : decode cX12_readTastes 68 = .ok (.goto (-64), 3) := by decide +kernel
theorem dX12_readTastes_71 : decode cX12_readTastes 71 = .ok (.aload_n 0, 1) := by decide +kernel
theorem dX12_readTastes_72 : decode cX12_readTastes 72 = .ok (.getfield 81, 3) := by decide +kernel
theorem dX12_readTastes_75 : decode cX12_readTastes 75 = .ok (.aload_n 0, 1) := by decide +kernel
theorem dX12_readTastes_76 : decode cX12_readTastes 76 = .ok (.getfield 91, 3) := by decide +kernel
theorem dX12_readTastes_79 : decode cX12_readTastes 79 = .ok (.isub, 1) := by decide +kernel
theorem dX12_readTastes_80 : decode cX12_readTastes 80 = .ok (.iconst 5, 1) := by decide +kernel
theorem dX12_readTastes_81 : decode cX12_readTastes 81 = .ok (.if_icmp .ne 7, 3) := by decide +kernel
theorem dX12_readTastes_84 : decode cX12_readTastes 84 = .ok (.iconst 1, 1) := by decide +kernel
theorem dX12_readTastes_85 : decode cX12_readTastes 85 = .ok (.goto 4, 3) := by decide +kernel
theorem dX12_readTastes_88 : decode cX12_readTastes 88 = .ok (.iconst 0, 1) := by decide +kernel
theorem dX12_readTastes_89 : decode cX12_readTastes 89 = .ok (.ireturn, 1) := by decide +kernel
theorem dX12_readFirst_0 : decode cX12_readFirst 0 = .ok (.aload_n 0, 1) := by decide +kernel
theorem dX12_readFirst_1 : decode cX12_readFirst 1 = .ok (.ldc 116, 2) := by decide +kernel
theorem dX12_readFirst_3 : decode cX12_readFirst 3 = .ok (.invokevirtual 118, 3) := by decide +kernel
theorem dX12_readFirst_6 : decode cX12_readFirst 6 = .ok (.ifCond .ne 5, 3) := by decide +kernel
theorem dX12_readFirst_9 : decode cX12_readFirst 9 = .ok (.iconst 1, 1) := by decide +kernel
theorem dX12_readFirst_10 : decode cX12_readFirst 10 = .ok (.ireturn, 1) := by decide +kernel
theorem dX12_readFirst_11 : decode cX12_readFirst 11 = .ok (.aload_n 0, 1) := by decide +kernel
theorem dX12_readFirst_12 : decode cX12_readFirst 12 = .ok (.iconst 0, 1) := by decide +kernel
theorem dX12_readFirst_13 : decode cX12_readFirst 13 = .ok (.sipush 999, 3) := by decide +kernel
theorem dX12_readFirst_16 : decode cX12_readFirst 16 = .ok (.invokevirtual 113, 3) := by decide +kernel
theorem dX12_readFirst_19 : decode cX12_readFirst 19 = .ok (.istore_n 2, 1) := by decide +kernel
theorem dX12_readFirst_20 : decode cX12_readFirst 20 = .ok (.iload_n 2, 1) := by decide +kernel
theorem dX12_readFirst_21 : decode cX12_readFirst 21 = .ok (.ifCond .ge 7, 3) := by decide +kernel
theorem dX12_readFirst_24 : decode cX12_readFirst 24 = .ok (.iconst (-1), 1) := by decide +kernel
theorem dX12_readFirst_25 : decode cX12_readFirst 25 = .ok (.goto 12, 3) := by decide +kernel
theorem dX12_readFirst_28 : decode cX12_readFirst 28 = .ok (.aload_n 0, 1) := by decide +kernel
theorem dX12_readFirst_29 : decode cX12_readFirst 29 = .ok (.ldc 121, 2) := by decide +kernel
theorem dX12_readFirst_31 : decode cX12_readFirst 31 = .ok (.iconst 0, 1) := by decide +kernel
theorem dX12_readFirst_32 : decode cX12_readFirst 32 = .ok (.bipush 7, 2) := by decide +kernel
theorem dX12_readFirst_34 : decode cX12_readFirst 34 = .ok (.invokevirtual 122, 3) := by decide +kernel
theorem dX12_readFirst_37 : decode cX12_readFirst 37 = .ok (.istore_n 3, 1) := by decide +kernel
theorem dX12_readFirst_38 : decode cX12_readFirst 38 = .ok (.iload_n 3, 1) := by decide +kernel
theorem dX12_readFirst_39 : decode cX12_readFirst 39 = .ok (.ifCond .ge 5, 3) := by decide +kernel
theorem dX12_readFirst_42 : decode cX12_readFirst 42 = .ok (.iconst 0, 1) := by decide +kernel
theorem dX12_readFirst_43 : decode cX12_readFirst 43 = .ok (.ireturn, 1) := by decide +kernel
theorem dX12_readFirst_44 : decode cX12_readFirst 44 = .ok (.aload_n 0, 1) := by decide +kernel
theorem dX12_readFirst_45 : decode cX12_readFirst 45 = .ok (.ldc 126, 2) := by decide +kernel
theorem dX12_readFirst_47 : decode cX12_readFirst 47 = .ok (.invokevirtual 118, 3) := by decide +kernel
theorem dX12_readFirst_50 : decode cX12_readFirst 50 = .ok (.istore 4, 2) := by decide +kernel
theorem dX12_readFirst_52 : decode cX12_readFirst 52 = .ok (.iload 4, 2) := by decide +kernel
theorem dX12_readFirst_54 : decode cX12_readFirst 54 = .ok (.ifCond .eq 13, 3) := by decide +kernel
theorem dX12_readFirst_57 : decode cX12_readFirst 57 = .ok (.aload_n 0, 1) := by decide +kernel
theorem dX12_readFirst_58 : decode cX12_readFirst 58 = .ok (.iconst 0, 1) := by decide +kernel
theorem dX12_readFirst_59 : decode cX12_readFirst 59 = .ok (.bipush 7, 2) := by decide +kernel
theorem dX12_readFirst_61 : decode cX12_readFirst 61 = .ok (.invokevirtual 113, 3) := by decide +kernel
theorem dX12_readFirst_64 : decode cX12_readFirst 64 = .ok (.goto 4, 3) := by decide +kernel
theorem dX12_readFirst_67 : decode cX12_readFirst 67 = .ok (.iconst (-1), 1) := by decide +kernel
theorem dX12_readFirst_68 : decode cX12_readFirst 68 = .ok (.istore 5, 2) := by decide +kernel
theorem dX12_readFirst_70 : decode cX12_readFirst 70 = .ok (.iload 4, 2) := by decide +kernel
theorem dX12_readFirst_72 : decode cX12_readFirst 72 = .ok (.ifCond .eq 10, 3) := by decide +kernel
theorem dX12_readFirst_75 : decode cX12_readFirst 75 = .ok (.iload 5, 2) := by decide +kernel
theorem dX12_readFirst_77 : decode cX12_readFirst 77 = .ok (.ifCond .ge 5, 3) := by decide +kernel
theorem dX12_readFirst_80 : decode cX12_readFirst 80 = .ok (.iconst 0, 1) := by decide +kernel
theorem dX12_readFirst_81 : decode cX12_readFirst 81 = .ok (.ireturn, 1) := by decide +kernel
theorem dX12_readFirst_82 : decode cX12_readFirst 82 = .ok (.aload_n 0, 1) := by decide +kernel
theorem dX12_readFirst_83 : decode cX12_readFirst 83 = .ok (.getfield 13, 3) := by decide +kernel
theorem dX12_readFirst_86 : decode cX12_readFirst 86 = .ok (.iload_n 1, 1) := by decide +kernel
theorem dX12_readFirst_87 : decode cX12_readFirst 87 = .ok (.iconst 5, 1) := by decide +kernel
theorem dX12_readFirst_88 : decode cX12_readFirst 88 = .ok (.invokestatic 66, 3) := by decide +kernel
theorem dX12_readFirst_91 : decode cX12_readFirst 91 = .ok (.iload_n 2, 1) := by decide +kernel
theorem dX12_readFirst_92 : decode cX12_readFirst 92 = .ok (.iastore, 1) := by decide +kernel
theorem dX12_readFirst_93 : decode cX12_readFirst 93 = .ok (.aload_n 0, 1) := by decide +kernel
theorem dX12_readFirst_94 : decode cX12_readFirst 94 = .ok (.getfield 13, 3) := by decide +kernel
theorem dX12_readFirst_97 : decode cX12_readFirst 97 = .ok (.iload_n 1, 1) := by decide +kernel
theorem dX12_readFirst_98 : decode cX12_readFirst 98 = .ok (.bipush 6, 2) := by decide +kernel
theorem dX12_readFirst_100 : decode cX12_readFirst 100 = .ok (.invokestatic 66, 3) := by decide +kernel
theorem dX12_readFirst_103 : decode cX12_readFirst 103 = .ok (.iload_n 3, 1) := by decide +kernel
theorem dX12_readFirst_104 : decode cX12_readFirst 104 = .ok (.iastore, 1) := by decide +kernel
theorem dX12_readFirst_105 : decode cX12_readFirst 105 = .ok (.aload_n 0, 1) := by decide +kernel
theorem dX12_readFirst_106 : decode cX12_readFirst 106 = .ok (.getfield 13, 3) := by decide +kernel
theorem dX12_readFirst_109 : decode cX12_readFirst 109 = .ok (.iload_n 1, 1) := by decide +kernel
theorem dX12_readFirst_110 : decode cX12_readFirst 110 = .ok (.bipush 7, 2) := by decide +kernel
theorem dX12_readFirst_112 : decode cX12_readFirst 112 = .ok (.invokestatic 66, 3) := by decide +kernel
theorem dX12_readFirst_115 : decode cX12_readFirst 115 = .ok (.iload 5, 2) := by decide +kernel
theorem dX12_readFirst_117 : decode cX12_readFirst 117 = .ok (.iastore, 1) := by decide +kernel
theorem dX12_readFirst_118 : decode cX12_readFirst 118 = .ok (.iconst 1, 1) := by decide +kernel
theorem dX12_readFirst_119 : decode cX12_readFirst 119 = .ok (.ireturn, 1) := by decide +kernel
theorem dX12_readDish_0 : decode cX12_readDish 0 = .ok (.aload_n 0, 1) := by decide +kernel
theorem dX12_readDish_1 : decode cX12_readDish 1 = .ok (.invokevirtual 62, 3) := by decide +kernel
theorem dX12_readDish_4 : decode cX12_readDish 4 = .ok (.istore_n 1, 1) := by decide +kernel
theorem dX12_readDish_5 : decode cX12_readDish 5 = .ok (.iload_n 1, 1) := by decide +kernel
theorem dX12_readDish_6 : decode cX12_readDish 6 = .ok (.bipush 12, 2) := by decide +kernel
theorem dX12_readDish_8 : decode cX12_readDish 8 = .ok (.if_icmp .eq 11, 3) := by decide +kernel
theorem dX12_readDish_11 : decode cX12_readDish 11 = .ok (.aload_n 0, 1) := by decide +kernel
theorem dX12_readDish_12 : decode cX12_readDish 12 = .ok (.iload_n 1, 1) := by decide +kernel
theorem dX12_readDish_13 : decode cX12_readDish 13 = .ok (.invokevirtual 128, 3) := by decide +kernel
theorem dX12_readDish_16 : decode cX12_readDish 16 = .ok (.ifCond .ne 5, 3) := by decide +kernel
theorem dX12_readDish_19 : decode cX12_readDish 19 = .ok (.iconst 0, 1) := by decide +kernel
theorem dX12_readDish_20 : decode cX12_readDish 20 = .ok (.ireturn, 1) := by decide +kernel
theorem dX12_readDish_21 : decode cX12_readDish 21 = .ok (.iconst 5, 1) := by decide +kernel
theorem dX12_readDish_22 : decode cX12_readDish 22 = .ok (.istore_n 2, 1) := by decide +kernel
theorem dX12_readDish_23 : decode cX12_readDish 23 = .ok (.iload_n 2, 1) := by decide +kernel
theorem dX12_readDish_24 : decode cX12_readDish 24 = .ok (.bipush 8, 2) := by decide +kernel
theorem dX12_readDish_26 : decode cX12_readDish 26 = .ok (.if_icmp .ge 20, 3) := by decide +kernel
theorem dX12_readDish_29 : decode cX12_readDish 29 = .ok (.aload_n 0, 1) := by decide +kernel
theorem dX12_readDish_30 : decode cX12_readDish 30 = .ok (.getfield 13, 3) := by decide +kernel
theorem dX12_readDish_33 : decode cX12_readDish 33 = .ok (.iload_n 1, 1) := by decide +kernel
theorem dX12_readDish_34 : decode cX12_readDish 34 = .ok (.iload_n 2, 1) := by decide +kernel
theorem dX12_readDish_35 : decode cX12_readDish 35 = .ok (.invokestatic 66, 3) := by decide +kernel
theorem dX12_readDish_38 : decode cX12_readDish 38 = .ok (.iconst (-1), 1) := by decide +kernel
theorem dX12_readDish_39 : decode cX12_readDish 39 = .ok (.iastore, 1) := by decide +kernel
theorem dX12_readDish_40 : decode cX12_readDish 40 = .ok (.iinc 2 1, 3) := by decide +kernel
theorem dX12_readDish_43 : decode cX12_readDish 43 = .ok (.goto (-20), 3) := by decide +kernel
theorem dX12_readDish_46 : decode cX12_readDish 46 = .ok (.aload_n 0, 1) := by decide +kernel
theorem dX12_readDish_47 : decode cX12_readDish 47 = .ok (.iload_n 1, 1) := by decide +kernel
theorem dX12_readDish_48 : decode cX12_readDish 48 = .ok (.invokevirtual 132, 3) := by decide +kernel
theorem dX12_readDish_51 : decode cX12_readDish 51 = .ok (.ifCond .ne 5, 3) := by decide +kernel
theorem dX12_readDish_54 : decode cX12_readDish 54 = .ok (.iconst 0, 1) := by decide +kernel
theorem dX12_readDish_55 : decode cX12_readDish 55 = .ok (.ireturn, 1) := by decide +kernel
theorem dX12_readDish_56 : decode cX12_readDish 56 = .ok (.aload_n 0, 1) := by decide +kernel
theorem dX12_readDish_57 : decode cX12_readDish 57 = .ok (.getfield 13, 3) := by decide +kernel
theorem dX12_readDish_60 : decode cX12_readDish 60 = .ok (.iconst 0, 1) := by decide +kernel
theorem dX12_readDish_61 : decode cX12_readDish 61 = .ok (.dup2, 1) := by decide +kernel
theorem dX12_readDish_62 : decode cX12_readDish 62 = .ok (.iaload, 1) := by decide +kernel
theorem dX12_readDish_63 : decode cX12_readDish 63 = .ok (.iconst 1, 1) := by decide +kernel
theorem dX12_readDish_64 : decode cX12_readDish 64 = .ok (.iadd, 1) := by decide +kernel
theorem dX12_readDish_65 : decode cX12_readDish 65 = .ok (.iastore, 1) := by decide +kernel
theorem dX12_readDish_66 : decode cX12_readDish 66 = .ok (.iconst 1, 1) := by decide +kernel
theorem dX12_readDish_67 : decode cX12_readDish 67 = .ok (.ireturn, 1) := by decide +kernel
theorem dX12_readToday_0 : decode cX12_readToday 0 = .ok (.aload_n 0, 1) := by decide +kernel
theorem dX12_readToday_1 : decode cX12_readToday 1 = .ok (.iconst 3, 1) := by decide +kernel
theorem dX12_readToday_2 : decode cX12_readToday 2 = .ok (.iconst 0, 1) := by decide +kernel
theorem dX12_readToday_3 : decode cX12_readToday 3 = .ok (.sipush 999, 3) := by decide +kernel
theorem dX12_readToday_6 : decode cX12_readToday 6 = .ok (.invokevirtual 135, 3) := by decide +kernel
theorem dX12_readToday_9 : decode cX12_readToday 9 = .ok (.ifCond .ne 5, 3) := by decide +kernel
theorem dX12_readToday_12 : decode cX12_readToday 12 = .ok (.iconst 0, 1) := by decide +kernel
theorem dX12_readToday_13 : decode cX12_readToday 13 = .ok (.ireturn, 1) := by decide +kernel
theorem dX12_readToday_14 : decode cX12_readToday 14 = .ok (.aload_n 0, 1) := by decide +kernel
theorem dX12_readToday_15 : decode cX12_readToday 15 = .ok (.getfield 13, 3) := by decide +kernel
theorem dX12_readToday_18 : decode cX12_readToday 18 = .ok (.iconst 4, 1) := by decide +kernel
theorem dX12_readToday_19 : decode cX12_readToday 19 = .ok (.aload_n 0, 1) := by decide +kernel
theorem dX12_readToday_20 : decode cX12_readToday 20 = .ok (.getfield 13, 3) := by decide +kernel
theorem dX12_readToday_23 : decode cX12_readToday 23 = .ok (.iconst 3, 1) := by decide +kernel
theorem dX12_readToday_24 : decode cX12_readToday 24 = .ok (.iaload, 1) := by decide +kernel
theorem dX12_readToday_25 : decode cX12_readToday 25 = .ok (.iastore, 1) := by decide +kernel
theorem dX12_readToday_26 : decode cX12_readToday 26 = .ok (.iconst 1, 1) := by decide +kernel
theorem dX12_readToday_27 : decode cX12_readToday 27 = .ok (.ireturn, 1) := by decide +kernel
theorem dX12_readWar_0 : decode cX12_readWar 0 = .ok (.aload_n 0, 1) := by decide +kernel
theorem dX12_readWar_1 : decode cX12_readWar 1 = .ok (.iconst 0, 1) := by decide +kernel
theorem dX12_readWar_2 : decode cX12_readWar 2 = .ok (.sipush 999, 3) := by decide +kernel
theorem dX12_readWar_5 : decode cX12_readWar 5 = .ok (.invokevirtual 113, 3) := by decide +kernel
theorem dX12_readWar_8 : decode cX12_readWar 8 = .ok (.istore_n 1, 1) := by decide +kernel
theorem dX12_readWar_9 : decode cX12_readWar 9 = .ok (.iload_n 1, 1) := by decide +kernel
theorem dX12_readWar_10 : decode cX12_readWar 10 = .ok (.ifCond .ge 7, 3) := by decide +kernel
theorem dX12_readWar_13 : decode cX12_readWar 13 = .ok (.iconst (-1), 1) := by decide +kernel
theorem dX12_readWar_14 : decode cX12_readWar 14 = .ok (.goto 13, 3) := by decide +kernel
theorem dX12_readWar_17 : decode cX12_readWar 17 = .ok (.aload_n 0, 1) := by decide +kernel
theorem dX12_readWar_18 : decode cX12_readWar 18 = .ok (.ldc 138, 2) := by decide +kernel
theorem dX12_readWar_20 : decode cX12_readWar 20 = .ok (.iload_n 1, 1) := by decide +kernel
theorem dX12_readWar_21 : decode cX12_readWar 21 = .ok (.sipush 999, 3) := by decide +kernel
theorem dX12_readWar_24 : decode cX12_readWar 24 = .ok (.invokevirtual 122, 3) := by decide +kernel
theorem dX12_readWar_27 : decode cX12_readWar 27 = .ok (.istore_n 2, 1) := by decide +kernel
theorem dX12_readWar_28 : decode cX12_readWar 28 = .ok (.iload_n 2, 1) := by decide +kernel
theorem dX12_readWar_29 : decode cX12_readWar 29 = .ok (.ifCond .ge 5, 3) := by decide +kernel
theorem dX12_readWar_32 : decode cX12_readWar 32 = .ok (.iconst 0, 1) := by decide +kernel
theorem dX12_readWar_33 : decode cX12_readWar 33 = .ok (.ireturn, 1) := by decide +kernel
theorem dX12_readWar_34 : decode cX12_readWar 34 = .ok (.aload_n 0, 1) := by decide +kernel
theorem dX12_readWar_35 : decode cX12_readWar 35 = .ok (.getfield 13, 3) := by decide +kernel
theorem dX12_readWar_38 : decode cX12_readWar 38 = .ok (.bipush 9, 2) := by decide +kernel
theorem dX12_readWar_40 : decode cX12_readWar 40 = .ok (.iload_n 1, 1) := by decide +kernel
theorem dX12_readWar_41 : decode cX12_readWar 41 = .ok (.iastore, 1) := by decide +kernel
theorem dX12_readWar_42 : decode cX12_readWar 42 = .ok (.aload_n 0, 1) := by decide +kernel
theorem dX12_readWar_43 : decode cX12_readWar 43 = .ok (.getfield 13, 3) := by decide +kernel
theorem dX12_readWar_46 : decode cX12_readWar 46 = .ok (.bipush 10, 2) := by decide +kernel
theorem dX12_readWar_48 : decode cX12_readWar 48 = .ok (.iload_n 2, 1) := by decide +kernel
theorem dX12_readWar_49 : decode cX12_readWar 49 = .ok (.iastore, 1) := by decide +kernel
theorem dX12_readWar_50 : decode cX12_readWar 50 = .ok (.iconst 1, 1) := by decide +kernel
theorem dX12_readWar_51 : decode cX12_readWar 51 = .ok (.ireturn, 1) := by decide +kernel
theorem dX12_readLifeLine_0 : decode cX12_readLifeLine 0 = .ok (.aload_n 0, 1) := by decide +kernel
theorem dX12_readLifeLine_1 : decode cX12_readLifeLine 1 = .ok (.ldc 140, 2) := by decide +kernel
theorem dX12_readLifeLine_3 : decode cX12_readLifeLine 3 = .ok (.invokevirtual 109, 3) := by decide +kernel
theorem dX12_readLifeLine_6 : decode cX12_readLifeLine 6 = .ok (.ifCond .eq 8, 3) := by decide +kernel
theorem dX12_readLifeLine_9 : decode cX12_readLifeLine 9 = .ok (.aload_n 0, 1) := by decide +kernel
theorem dX12_readLifeLine_10 : decode cX12_readLifeLine 10 = .ok (.invokevirtual 142, 3) := by decide +kernel
theorem dX12_readLifeLine_13 : decode cX12_readLifeLine 13 = .ok (.ireturn, 1) := by decide +kernel
theorem dX12_readLifeLine_14 : decode cX12_readLifeLine 14 = .ok (.aload_n 0, 1) := by decide +kernel
theorem dX12_readLifeLine_15 : decode cX12_readLifeLine 15 = .ok (.ldc 146, 2) := by decide +kernel
theorem dX12_readLifeLine_17 : decode cX12_readLifeLine 17 = .ok (.invokevirtual 109, 3) := by decide +kernel
theorem dX12_readLifeLine_20 : decode cX12_readLifeLine 20 = .ok (.ifCond .eq 8, 3) := by decide +kernel
theorem dX12_readLifeLine_23 : decode cX12_readLifeLine 23 = .ok (.aload_n 0, 1) := by decide +kernel
theorem dX12_readLifeLine_24 : decode cX12_readLifeLine 24 = .ok (.invokevirtual 148, 3) := by decide +kernel
theorem dX12_readLifeLine_27 : decode cX12_readLifeLine 27 = .ok (.ireturn, 1) := by decide +kernel
theorem dX12_readLifeLine_28 : decode cX12_readLifeLine 28 = .ok (.aload_n 0, 1) := by decide +kernel
theorem dX12_readLifeLine_29 : decode cX12_readLifeLine 29 = .ok (.ldc 151, 2) := by decide +kernel
theorem dX12_readLifeLine_31 : decode cX12_readLifeLine 31 = .ok (.invokevirtual 109, 3) := by decide +kernel
theorem dX12_readLifeLine_34 : decode cX12_readLifeLine 34 = .ok (.ifCond .eq 8, 3) := by decide +kernel
theorem dX12_readLifeLine_37 : decode cX12_readLifeLine 37 = .ok (.aload_n 0, 1) := by decide +kernel
theorem dX12_readLifeLine_38 : decode cX12_readLifeLine 38 = .ok (.invokevirtual 153, 3) := by decide +kernel
theorem dX12_readLifeLine_41 : decode cX12_readLifeLine 41 = .ok (.ireturn, 1) := by decide +kernel
theorem dX12_readLifeLine_42 : decode cX12_readLifeLine 42 = .ok (.aload_n 0, 1) := by decide +kernel
theorem dX12_readLifeLine_43 : decode cX12_readLifeLine 43 = .ok (.ldc 156, 2) := by decide +kernel
theorem dX12_readLifeLine_45 : decode cX12_readLifeLine 45 = .ok (.invokevirtual 109, 3) := by decide +kernel
theorem dX12_readLifeLine_48 : decode cX12_readLifeLine 48 = .ok (.ifCond .eq 13, 3) := by decide +kernel
theorem dX12_readLifeLine_51 : decode cX12_readLifeLine 51 = .ok (.aload_n 0, 1) := by decide +kernel
theorem dX12_readLifeLine_52 : decode cX12_readLifeLine 52 = .ok (.bipush 8, 2) := by decide +kernel
theorem dX12_readLifeLine_54 : decode cX12_readLifeLine 54 = .ok (.iconst 0, 1) := by decide +kernel
theorem dX12_readLifeLine_55 : decode cX12_readLifeLine 55 = .ok (.bipush 45, 2) := by decide +kernel
theorem dX12_readLifeLine_57 : decode cX12_readLifeLine 57 = .ok (.invokevirtual 135, 3) := by decide +kernel
theorem dX12_readLifeLine_60 : decode cX12_readLifeLine 60 = .ok (.ireturn, 1) := by decide +kernel
theorem dX12_readLifeLine_61 : decode cX12_readLifeLine 61 = .ok (.aload_n 0, 1) := by decide +kernel
theorem dX12_readLifeLine_62 : decode cX12_readLifeLine 62 = .ok (.ldc 158, 2) := by decide +kernel
theorem dX12_readLifeLine_64 : decode cX12_readLifeLine 64 = .ok (.invokevirtual 109, 3) := by decide +kernel
theorem dX12_readLifeLine_67 : decode cX12_readLifeLine 67 = .ok (.ifCond .eq 13, 3) := by decide +kernel
theorem dX12_readLifeLine_70 : decode cX12_readLifeLine 70 = .ok (.aload_n 0, 1) := by decide +kernel
theorem dX12_readLifeLine_71 : decode cX12_readLifeLine 71 = .ok (.bipush 11, 2) := by decide +kernel
theorem dX12_readLifeLine_73 : decode cX12_readLifeLine 73 = .ok (.iconst 0, 1) := by decide +kernel
theorem dX12_readLifeLine_74 : decode cX12_readLifeLine 74 = .ok (.bipush 100, 2) := by decide +kernel
theorem dX12_readLifeLine_76 : decode cX12_readLifeLine 76 = .ok (.invokevirtual 135, 3) := by decide +kernel
theorem dX12_readLifeLine_79 : decode cX12_readLifeLine 79 = .ok (.ireturn, 1) := by decide +kernel
theorem dX12_readLifeLine_80 : decode cX12_readLifeLine 80 = .ok (.aload_n 0, 1) := by decide +kernel
theorem dX12_readLifeLine_81 : decode cX12_readLifeLine 81 = .ok (.ldc 160, 2) := by decide +kernel
theorem dX12_readLifeLine_83 : decode cX12_readLifeLine 83 = .ok (.invokevirtual 109, 3) := by decide +kernel
theorem dX12_readLifeLine_86 : decode cX12_readLifeLine 86 = .ok (.ifCond .eq 13, 3) := by decide +kernel
theorem dX12_readLifeLine_89 : decode cX12_readLifeLine 89 = .ok (.aload_n 0, 1) := by decide +kernel
theorem dX12_readLifeLine_90 : decode cX12_readLifeLine 90 = .ok (.bipush 12, 2) := by decide +kernel
theorem dX12_readLifeLine_92 : decode cX12_readLifeLine 92 = .ok (.iconst 0, 1) := by decide +kernel
theorem dX12_readLifeLine_93 : decode cX12_readLifeLine 93 = .ok (.bipush 7, 2) := by decide +kernel
theorem dX12_readLifeLine_95 : decode cX12_readLifeLine 95 = .ok (.invokevirtual 135, 3) := by decide +kernel
theorem dX12_readLifeLine_98 : decode cX12_readLifeLine 98 = .ok (.ireturn, 1) := by decide +kernel
theorem dX12_readLifeLine_99 : decode cX12_readLifeLine 99 = .ok (.aload_n 0, 1) := by decide +kernel
theorem dX12_readLifeLine_100 : decode cX12_readLifeLine 100 = .ok (.ldc 162, 2) := by decide +kernel
theorem dX12_readLifeLine_102 : decode cX12_readLifeLine 102 = .ok (.invokevirtual 109, 3) := by decide +kernel
theorem dX12_readLifeLine_105 : decode cX12_readLifeLine 105 = .ok (.ifCond .eq 19, 3) := by decide +kernel
theorem dX12_readLifeLine_108 : decode cX12_readLifeLine 108 = .ok (.aload_n 0, 1) := by decide +kernel
theorem dX12_readLifeLine_109 : decode cX12_readLifeLine 109 = .ok (.bipush 13, 2) := by decide +kernel
theorem dX12_readLifeLine_111 : decode cX12_readLifeLine 111 = .ok (.iconst 0, 1) := by decide +kernel
theorem dX12_readLifeLine_112 : decode cX12_readLifeLine 112 = .ok (.bipush 50, 2) := by decide +kernel
theorem dX12_readLifeLine_114 : decode cX12_readLifeLine 114 = .ok (.invokevirtual 135, 3) := by decide +kernel
theorem dX12_readLifeLine_117 : decode cX12_readLifeLine 117 = .ok (.ifCond .eq 7, 3) := by decide +kernel
theorem dX12_readLifeLine_120 : decode cX12_readLifeLine 120 = .ok (.iconst 1, 1) := by decide +kernel
theorem dX12_readLifeLine_121 : decode cX12_readLifeLine 121 = .ok (.goto 4, 3) := by decide +kernel
theorem dX12_readLifeLine_124 : decode cX12_readLifeLine 124 = .ok (.iconst 0, 1) := by decide +kernel
theorem dX12_readLifeLine_125 : decode cX12_readLifeLine 125 = .ok (.ireturn, 1) := by decide +kernel
theorem dX12_emits_0 : decode cX12_emits 0 = .ok (.aload_n 0, 1) := by decide +kernel
theorem dX12_emits_1 : decode cX12_emits 1 = .ok (.getfield 13, 3) := by decide +kernel
theorem dX12_emits_4 : decode cX12_emits 4 = .ok (.sipush 1251, 3) := by decide +kernel
theorem dX12_emits_7 : decode cX12_emits 7 = .ok (.iconst 2, 1) := by decide +kernel
theorem dX12_emits_8 : decode cX12_emits 8 = .ok (.aload_n 0, 1) := by decide +kernel
theorem dX12_emits_9 : decode cX12_emits 9 = .ok (.getfield 164, 3) := by decide +kernel
theorem dX12_emits_12 : decode cX12_emits 12 = .ok (.imul, 1) := by decide +kernel
theorem dX12_emits_13 : decode cX12_emits 13 = .ok (.iadd, 1) := by decide +kernel
theorem dX12_emits_14 : decode cX12_emits 14 = .ok (.iload_n 1, 1) := by decide +kernel
theorem dX12_emits_15 : decode cX12_emits 15 = .ok (.iastore, 1) := by decide +kernel
theorem dX12_emits_16 : decode cX12_emits 16 = .ok (.aload_n 0, 1) := by decide +kernel
theorem dX12_emits_17 : decode cX12_emits 17 = .ok (.getfield 13, 3) := by decide +kernel
theorem dX12_emits_20 : decode cX12_emits 20 = .ok (.sipush 1251, 3) := by decide +kernel
theorem dX12_emits_23 : decode cX12_emits 23 = .ok (.iconst 2, 1) := by decide +kernel
theorem dX12_emits_24 : decode cX12_emits 24 = .ok (.aload_n 0, 1) := by decide +kernel
theorem dX12_emits_25 : decode cX12_emits 25 = .ok (.getfield 164, 3) := by decide +kernel
theorem dX12_emits_28 : decode cX12_emits 28 = .ok (.imul, 1) := by decide +kernel
theorem dX12_emits_29 : decode cX12_emits 29 = .ok (.iadd, 1) := by decide +kernel
theorem dX12_emits_30 : decode cX12_emits 30 = .ok (.iconst 1, 1) := by decide +kernel
theorem dX12_emits_31 : decode cX12_emits 31 = .ok (.iadd, 1) := by decide +kernel
theorem dX12_emits_32 : decode cX12_emits 32 = .ok (.iload_n 2, 1) := by decide +kernel
theorem dX12_emits_33 : decode cX12_emits 33 = .ok (.iastore, 1) := by decide +kernel
theorem dX12_emits_34 : decode cX12_emits 34 = .ok (.aload_n 0, 1) := by decide +kernel
theorem dX12_emits_35 : decode cX12_emits 35 = .ok (.dup, 1) := by decide +kernel
theorem dX12_emits_36 : decode cX12_emits 36 = .ok (.getfield 164, 3) := by decide +kernel
theorem dX12_emits_39 : decode cX12_emits 39 = .ok (.iconst 1, 1) := by decide +kernel
theorem dX12_emits_40 : decode cX12_emits 40 = .ok (.iadd, 1) := by decide +kernel
theorem dX12_emits_41 : decode cX12_emits 41 = .ok (.putfield 164, 3) := by decide +kernel
theorem dX12_emits_44 : decode cX12_emits 44 = .ok (.return_, 1) := by decide +kernel
theorem dX12_wordOfPart_0 : decode cX12_wordOfPart 0 = .ok (.aload_n 0, 1) := by decide +kernel
theorem dX12_wordOfPart_1 : decode cX12_wordOfPart 1 = .ok (.ldc 140, 2) := by decide +kernel
theorem dX12_wordOfPart_3 : decode cX12_wordOfPart 3 = .ok (.invokevirtual 109, 3) := by decide +kernel
theorem dX12_wordOfPart_6 : decode cX12_wordOfPart 6 = .ok (.ifCond .eq 5, 3) := by decide +kernel
theorem dX12_wordOfPart_9 : decode cX12_wordOfPart 9 = .ok (.iconst 0, 1) := by decide +kernel
theorem dX12_wordOfPart_10 : decode cX12_wordOfPart 10 = .ok (.ireturn, 1) := by decide +kernel
theorem dX12_wordOfPart_11 : decode cX12_wordOfPart 11 = .ok (.aload_n 0, 1) := by decide +kernel
theorem dX12_wordOfPart_12 : decode cX12_wordOfPart 12 = .ok (.ldc 167, 2) := by decide +kernel
theorem dX12_wordOfPart_14 : decode cX12_wordOfPart 14 = .ok (.invokevirtual 109, 3) := by decide +kernel
theorem dX12_wordOfPart_17 : decode cX12_wordOfPart 17 = .ok (.ifCond .eq 5, 3) := by decide +kernel
theorem dX12_wordOfPart_20 : decode cX12_wordOfPart 20 = .ok (.iconst 1, 1) := by decide +kernel
theorem dX12_wordOfPart_21 : decode cX12_wordOfPart 21 = .ok (.ireturn, 1) := by decide +kernel
theorem dX12_wordOfPart_22 : decode cX12_wordOfPart 22 = .ok (.aload_n 0, 1) := by decide +kernel
theorem dX12_wordOfPart_23 : decode cX12_wordOfPart 23 = .ok (.ldc 169, 2) := by decide +kernel
theorem dX12_wordOfPart_25 : decode cX12_wordOfPart 25 = .ok (.invokevirtual 109, 3) := by decide +kernel
theorem dX12_wordOfPart_28 : decode cX12_wordOfPart 28 = .ok (.ifCond .eq 5, 3) := by decide +kernel
theorem dX12_wordOfPart_31 : decode cX12_wordOfPart 31 = .ok (.iconst 2, 1) := by decide +kernel
theorem dX12_wordOfPart_32 : decode cX12_wordOfPart 32 = .ok (.ireturn, 1) := by decide +kernel
theorem dX12_wordOfPart_33 : decode cX12_wordOfPart 33 = .ok (.aload_n 0, 1) := by decide +kernel
theorem dX12_wordOfPart_34 : decode cX12_wordOfPart 34 = .ok (.ldc 171, 2) := by decide +kernel
theorem dX12_wordOfPart_36 : decode cX12_wordOfPart 36 = .ok (.invokevirtual 109, 3) := by decide +kernel
theorem dX12_wordOfPart_39 : decode cX12_wordOfPart 39 = .ok (.ifCond .eq 5, 3) := by decide +kernel
theorem dX12_wordOfPart_42 : decode cX12_wordOfPart 42 = .ok (.iconst 3, 1) := by decide +kernel
theorem dX12_wordOfPart_43 : decode cX12_wordOfPart 43 = .ok (.ireturn, 1) := by decide +kernel
theorem dX12_wordOfPart_44 : decode cX12_wordOfPart 44 = .ok (.aload_n 0, 1) := by decide +kernel
theorem dX12_wordOfPart_45 : decode cX12_wordOfPart 45 = .ok (.ldc 173, 2) := by decide +kernel
theorem dX12_wordOfPart_47 : decode cX12_wordOfPart 47 = .ok (.invokevirtual 109, 3) := by decide +kernel
theorem dX12_wordOfPart_50 : decode cX12_wordOfPart 50 = .ok (.ifCond .eq 5, 3) := by decide +kernel
theorem dX12_wordOfPart_53 : decode cX12_wordOfPart 53 = .ok (.iconst 4, 1) := by decide +kernel
theorem dX12_wordOfPart_54 : decode cX12_wordOfPart 54 = .ok (.ireturn, 1) := by decide +kernel
theorem dX12_wordOfPart_55 : decode cX12_wordOfPart 55 = .ok (.aload_n 0, 1) := by decide +kernel
theorem dX12_wordOfPart_56 : decode cX12_wordOfPart 56 = .ok (.ldc 175, 2) := by decide +kernel
theorem dX12_wordOfPart_58 : decode cX12_wordOfPart 58 = .ok (.invokevirtual 109, 3) := by decide +kernel
theorem dX12_wordOfPart_61 : decode cX12_wordOfPart 61 = .ok (.ifCond .eq 7, 3) := by decide +kernel
theorem dX12_wordOfPart_64 : decode cX12_wordOfPart 64 = .ok (.iconst 5, 1) := by decide +kernel
theorem dX12_wordOfPart_65 : decode cX12_wordOfPart 65 = .ok (.goto 4, 3) := by decide +kernel
theorem dX12_wordOfPart_68 : decode cX12_wordOfPart 68 = .ok (.iconst (-1), 1) := by decide +kernel
theorem dX12_wordOfPart_69 : decode cX12_wordOfPart 69 = .ok (.ireturn, 1) := by decide +kernel
theorem dX12_readPart_0 : decode cX12_readPart 0 = .ok (.aload_n 0, 1) := by decide +kernel
theorem dX12_readPart_1 : decode cX12_readPart 1 = .ok (.invokevirtual 106, 3) := by decide +kernel
theorem dX12_readPart_4 : decode cX12_readPart 4 = .ok (.aload_n 0, 1) := by decide +kernel
theorem dX12_readPart_5 : decode cX12_readPart 5 = .ok (.getfield 81, 3) := by decide +kernel
theorem dX12_readPart_8 : decode cX12_readPart 8 = .ok (.aload_n 0, 1) := by decide +kernel
theorem dX12_readPart_9 : decode cX12_readPart 9 = .ok (.getfield 91, 3) := by decide +kernel
theorem dX12_readPart_12 : decode cX12_readPart 12 = .ok (.if_icmp .ne 7, 3) := by decide +kernel
theorem dX12_readPart_15 : decode cX12_readPart 15 = .ok (.iconst 1, 1) := by decide +kernel
theorem dX12_readPart_16 : decode cX12_readPart 16 = .ok (.goto 4, 3) := by decide +kernel
theorem dX12_readPart_19 : decode cX12_readPart 19 = .ok (.iconst 0, 1) := by decide +kernel
theorem dX12_readPart_20 : decode cX12_readPart 20 = .ok (.istore_n 1, 1) := by decide +kernel
theorem dX12_readPart_21 : decode cX12_readPart 21 = .ok (.iload_n 1, 1) := by decide +kernel
theorem dX12_readPart_22 : decode cX12_readPart 22 = .ok (.ifCond .eq 14, 3) := by decide +kernel
theorem dX12_readPart_25 : decode cX12_readPart 25 = .ok (.aload_n 0, 1) := by decide +kernel
theorem dX12_readPart_26 : decode cX12_readPart 26 = .ok (.iconst 0, 1) := by decide +kernel
theorem dX12_readPart_27 : decode cX12_readPart 27 = .ok (.sipush 999, 3) := by decide +kernel
theorem dX12_readPart_30 : decode cX12_readPart 30 = .ok (.invokevirtual 113, 3) := by decide +kernel
theorem dX12_readPart_33 : decode cX12_readPart 33 = .ok (.goto 7, 3) := by decide +kernel
theorem dX12_readPart_36 : decode cX12_readPart 36 = .ok (.aload_n 0, 1) := by decide +kernel
theorem dX12_readPart_37 : decode cX12_readPart 37 = .ok (.invokevirtual 177, 3) := by decide +kernel
theorem dX12_readPart_40 : decode cX12_readPart 40 = .ok (.istore_n 2, 1) := by decide +kernel
theorem dX12_readPart_41 : decode cX12_readPart 41 = .ok (.aload_n 0, 1) := by decide +kernel
theorem dX12_readPart_42 : decode cX12_readPart 42 = .ok (.iload_n 1, 1) := by decide +kernel
theorem dX12_readPart_43 : decode cX12_readPart 43 = .ok (.ifCond .eq 8, 3) := by decide +kernel
theorem dX12_readPart_46 : decode cX12_readPart 46 = .ok (.bipush 9, 2) := by decide +kernel
theorem dX12_readPart_48 : decode cX12_readPart 48 = .ok (.goto 4, 3) := by decide +kernel
theorem dX12_readPart_51 : decode cX12_readPart 51 = .ok (.iload_n 2, 1) := by decide +kernel
theorem dX12_readPart_52 : decode cX12_readPart 52 = .ok (.iload_n 1, 1) := by decide +kernel
theorem dX12_readPart_53 : decode cX12_readPart 53 = .ok (.ifCond .eq 7, 3) := by decide +kernel
theorem dX12_readPart_56 : decode cX12_readPart 56 = .ok (.iload_n 2, 1) := by decide +kernel
theorem dX12_readPart_57 : decode cX12_readPart 57 = .ok (.goto 4, 3) := by decide +kernel
theorem dX12_readPart_60 : decode cX12_readPart 60 = .ok (.iconst 0, 1) := by decide +kernel
theorem dX12_readPart_61 : decode cX12_readPart 61 = .ok (.invokevirtual 180, 3) := by decide +kernel
theorem dX12_readPart_64 : decode cX12_readPart 64 = .ok (.iload_n 2, 1) := by decide +kernel
theorem dX12_readPart_65 : decode cX12_readPart 65 = .ok (.ifCond .lt 7, 3) := by decide +kernel
theorem dX12_readPart_68 : decode cX12_readPart 68 = .ok (.iconst 1, 1) := by decide +kernel
theorem dX12_readPart_69 : decode cX12_readPart 69 = .ok (.goto 4, 3) := by decide +kernel
theorem dX12_readPart_72 : decode cX12_readPart 72 = .ok (.iconst 0, 1) := by decide +kernel
theorem dX12_readPart_73 : decode cX12_readPart 73 = .ok (.ireturn, 1) := by decide +kernel
theorem dX12_readSum_0 : decode cX12_readSum 0 = .ok (.aload_n 0, 1) := by decide +kernel
theorem dX12_readSum_1 : decode cX12_readSum 1 = .ok (.invokevirtual 184, 3) := by decide +kernel
theorem dX12_readSum_4 : decode cX12_readSum 4 = .ok (.ifCond .ne 5, 3) := by decide +kernel
theorem dX12_readSum_7 : decode cX12_readSum 7 = .ok (.iconst 0, 1) := by decide +kernel
theorem dX12_readSum_8 : decode cX12_readSum 8 = .ok (.ireturn, 1) := by decide +kernel
theorem dX12_readSum_9 : decode cX12_readSum 9 = .ok (.aload_n 0, 1) := by decide +kernel
theorem dX12_readSum_10 : decode cX12_readSum 10 = .ok (.bipush 43, 2) := by decide +kernel
theorem dX12_readSum_12 : decode cX12_readSum 12 = .ok (.invokevirtual 187, 3) := by decide +kernel
theorem dX12_readSum_15 : decode cX12_readSum 15 = .ok (.ifCond .eq 22, 3) := by decide +kernel
theorem dX12_readSum_18 : decode cX12_readSum 18 = .ok (.aload_n 0, 1) := by decide +kernel
theorem dX12_readSum_19 : decode cX12_readSum 19 = .ok (.invokevirtual 184, 3) := by decide +kernel
theorem dX12_readSum_22 : decode cX12_readSum 22 = .ok (.ifCond .ne 5, 3) := by decide +kernel
theorem dX12_readSum_25 : decode cX12_readSum 25 = .ok (.iconst 0, 1) := by decide +kernel
theorem dX12_readSum_26 : decode cX12_readSum 26 = .ok (.ireturn, 1) := by decide +kernel
theorem dX12_readSum_27 : decode cX12_readSum 27 = .ok (.aload_n 0, 1) := by decide +kernel
theorem dX12_readSum_28 : decode cX12_readSum 28 = .ok (.bipush 10, 2) := by decide +kernel
theorem dX12_readSum_30 : decode cX12_readSum 30 = .ok (.iconst 0, 1) := by decide +kernel
theorem dX12_readSum_31 : decode cX12_readSum 31 = .ok (.invokevirtual 180, 3) := by decide +kernel
theorem dX12_readSum_34 : decode cX12_readSum 34 = .ok (.goto (-25), 3) := by decide +kernel
theorem dX12_readSum_37 : decode cX12_readSum 37 = .ok (.iconst 1, 1) := by decide +kernel
theorem dX12_readSum_38 : decode cX12_readSum 38 = .ok (.ireturn, 1) := by decide +kernel
theorem dX12_readTag_0 : decode cX12_readTag 0 = .ok (.aload_n 0, 1) := by decide +kernel
theorem dX12_readTag_1 : decode cX12_readTag 1 = .ok (.invokevirtual 106, 3) := by decide +kernel
theorem dX12_readTag_4 : decode cX12_readTag 4 = .ok (.aload_n 0, 1) := by decide +kernel
theorem dX12_readTag_5 : decode cX12_readTag 5 = .ok (.ldc 190, 2) := by decide +kernel
theorem dX12_readTag_7 : decode cX12_readTag 7 = .ok (.invokevirtual 109, 3) := by decide +kernel
theorem dX12_readTag_10 : decode cX12_readTag 10 = .ok (.ifCond .eq 8, 3) := by decide +kernel
theorem dX12_readTag_13 : decode cX12_readTag 13 = .ok (.bipush 6, 2) := by decide +kernel
theorem dX12_readTag_15 : decode cX12_readTag 15 = .ok (.goto 32, 3) := by decide +kernel
theorem dX12_readTag_18 : decode cX12_readTag 18 = .ok (.aload_n 0, 1) := by decide +kernel
theorem dX12_readTag_19 : decode cX12_readTag 19 = .ok (.ldc 151, 2) := by decide +kernel
theorem dX12_readTag_21 : decode cX12_readTag 21 = .ok (.invokevirtual 109, 3) := by decide +kernel
theorem dX12_readTag_24 : decode cX12_readTag 24 = .ok (.ifCond .eq 8, 3) := by decide +kernel
theorem dX12_readTag_27 : decode cX12_readTag 27 = .ok (.bipush 7, 2) := by decide +kernel
theorem dX12_readTag_29 : decode cX12_readTag 29 = .ok (.goto 18, 3) := by decide +kernel
theorem dX12_readTag_32 : decode cX12_readTag 32 = .ok (.aload_n 0, 1) := by decide +kernel
theorem dX12_readTag_33 : decode cX12_readTag 33 = .ok (.ldc 192, 2) := by decide +kernel
theorem dX12_readTag_35 : decode cX12_readTag 35 = .ok (.invokevirtual 109, 3) := by decide +kernel
theorem dX12_readTag_38 : decode cX12_readTag 38 = .ok (.ifCond .eq 8, 3) := by decide +kernel
theorem dX12_readTag_41 : decode cX12_readTag 41 = .ok (.bipush 8, 2) := by decide +kernel
theorem dX12_readTag_43 : decode cX12_readTag 43 = .ok (.goto 4, 3) := by decide +kernel
theorem dX12_readTag_46 : decode cX12_readTag 46 = .ok (.iconst (-1), 1) := by decide +kernel
theorem dX12_readTag_47 : decode cX12_readTag 47 = .ok (.istore_n 1, 1) := by decide +kernel
theorem dX12_readTag_48 : decode cX12_readTag 48 = .ok (.iload_n 1, 1) := by decide +kernel
theorem dX12_readTag_49 : decode cX12_readTag 49 = .ok (.ifCond .lt 12, 3) := by decide +kernel
theorem dX12_readTag_52 : decode cX12_readTag 52 = .ok (.aload_n 0, 1) := by decide +kernel
theorem dX12_readTag_53 : decode cX12_readTag 53 = .ok (.iload_n 1, 1) := by decide +kernel
theorem dX12_readTag_54 : decode cX12_readTag 54 = .ok (.iconst 0, 1) := by decide +kernel
theorem dX12_readTag_55 : decode cX12_readTag 55 = .ok (.invokevirtual 180, 3) := by decide +kernel
theorem dX12_readTag_58 : decode cX12_readTag 58 = .ok (.goto 11, 3) := by decide +kernel
theorem dX12_readTag_61 : decode cX12_readTag 61 = .ok (.aload_n 0, 1) := by decide +kernel
theorem dX12_readTag_62 : decode cX12_readTag 62 = .ok (.aload_n 0, 1) := by decide +kernel
theorem dX12_readTag_63 : decode cX12_readTag 63 = .ok (.getfield 91, 3) := by decide +kernel
theorem dX12_readTag_66 : decode cX12_readTag 66 = .ok (.putfield 81, 3) := by decide +kernel
theorem dX12_readTag_69 : decode cX12_readTag 69 = .ok (.iload_n 1, 1) := by decide +kernel
theorem dX12_readTag_70 : decode cX12_readTag 70 = .ok (.ifCond .lt 7, 3) := by decide +kernel
theorem dX12_readTag_73 : decode cX12_readTag 73 = .ok (.iconst 1, 1) := by decide +kernel
theorem dX12_readTag_74 : decode cX12_readTag 74 = .ok (.goto 4, 3) := by decide +kernel
theorem dX12_readTag_77 : decode cX12_readTag 77 = .ok (.iconst 0, 1) := by decide +kernel
theorem dX12_readTag_78 : decode cX12_readTag 78 = .ok (.ireturn, 1) := by decide +kernel
theorem dX12_readAtom_0 : decode cX12_readAtom 0 = .ok (.aload_n 0, 1) := by decide +kernel
theorem dX12_readAtom_1 : decode cX12_readAtom 1 = .ok (.bipush 40, 2) := by decide +kernel
theorem dX12_readAtom_3 : decode cX12_readAtom 3 = .ok (.invokevirtual 187, 3) := by decide +kernel
theorem dX12_readAtom_6 : decode cX12_readAtom 6 = .ok (.ifCond .eq 50, 3) := by decide +kernel
theorem dX12_readAtom_9 : decode cX12_readAtom 9 = .ok (.aload_n 0, 1) := by decide +kernel
theorem dX12_readAtom_10 : decode cX12_readAtom 10 = .ok (.getfield 194, 3) := by decide +kernel
theorem dX12_readAtom_13 : decode cX12_readAtom 13 = .ok (.bipush 6, 2) := by decide +kernel
theorem dX12_readAtom_15 : decode cX12_readAtom 15 = .ok (.if_icmp .ne 5, 3) := by decide +kernel
theorem dX12_readAtom_18 : decode cX12_readAtom 18 = .ok (.iconst 0, 1) := by decide +kernel
theorem dX12_readAtom_19 : decode cX12_readAtom 19 = .ok (.ireturn, 1) := by decide +kernel
theorem dX12_readAtom_20 : decode cX12_readAtom 20 = .ok (.aload_n 0, 1) := by decide +kernel
theorem dX12_readAtom_21 : decode cX12_readAtom 21 = .ok (.dup, 1) := by decide +kernel
theorem dX12_readAtom_22 : decode cX12_readAtom 22 = .ok (.getfield 194, 3) := by decide +kernel
theorem dX12_readAtom_25 : decode cX12_readAtom 25 = .ok (.iconst 1, 1) := by decide +kernel
theorem dX12_readAtom_26 : decode cX12_readAtom 26 = .ok (.iadd, 1) := by decide +kernel
theorem dX12_readAtom_27 : decode cX12_readAtom 27 = .ok (.putfield 194, 3) := by decide +kernel
theorem dX12_readAtom_30 : decode cX12_readAtom 30 = .ok (.aload_n 0, 1) := by decide +kernel
theorem dX12_readAtom_31 : decode cX12_readAtom 31 = .ok (.invokevirtual 197, 3) := by decide +kernel
theorem dX12_readAtom_34 : decode cX12_readAtom 34 = .ok (.ifCond .ne 5, 3) := by decide +kernel
theorem dX12_readAtom_37 : decode cX12_readAtom 37 = .ok (.iconst 0, 1) := by decide +kernel
theorem dX12_readAtom_38 : decode cX12_readAtom 38 = .ok (.ireturn, 1) := by decide +kernel
theorem dX12_readAtom_39 : decode cX12_readAtom 39 = .ok (.aload_n 0, 1) := by decide +kernel
theorem dX12_readAtom_40 : decode cX12_readAtom 40 = .ok (.dup, 1) := by decide +kernel
theorem dX12_readAtom_41 : decode cX12_readAtom 41 = .ok (.getfield 194, 3) := by decide +kernel
theorem dX12_readAtom_44 : decode cX12_readAtom 44 = .ok (.iconst 1, 1) := by decide +kernel
theorem dX12_readAtom_45 : decode cX12_readAtom 45 = .ok (.isub, 1) := by decide +kernel
theorem dX12_readAtom_46 : decode cX12_readAtom 46 = .ok (.putfield 194, 3) := by decide +kernel
theorem dX12_readAtom_49 : decode cX12_readAtom 49 = .ok (.aload_n 0, 1) := by decide +kernel
theorem dX12_readAtom_50 : decode cX12_readAtom 50 = .ok (.bipush 41, 2) := by decide +kernel
theorem dX12_readAtom_52 : decode cX12_readAtom 52 = .ok (.invokevirtual 187, 3) := by decide +kernel
theorem dX12_readAtom_55 : decode cX12_readAtom 55 = .ok (.ireturn, 1) := by decide +kernel
theorem dX12_readAtom_56 : decode cX12_readAtom 56 = .ok (.aload_n 0, 1) := by decide +kernel
theorem dX12_readAtom_57 : decode cX12_readAtom 57 = .ok (.ldc 200, 2) := by decide +kernel
theorem dX12_readAtom_59 : decode cX12_readAtom 59 = .ok (.invokevirtual 118, 3) := by decide +kernel
theorem dX12_readAtom_62 : decode cX12_readAtom 62 = .ok (.ifCond .eq 52, 3) := by decide +kernel
theorem dX12_readAtom_65 : decode cX12_readAtom 65 = .ok (.aload_n 0, 1) := by decide +kernel
theorem dX12_readAtom_66 : decode cX12_readAtom 66 = .ok (.getfield 194, 3) := by decide +kernel
theorem dX12_readAtom_69 : decode cX12_readAtom 69 = .ok (.bipush 6, 2) := by decide +kernel
theorem dX12_readAtom_71 : decode cX12_readAtom 71 = .ok (.if_icmp .ne 5, 3) := by decide +kernel
theorem dX12_readAtom_74 : decode cX12_readAtom 74 = .ok (.iconst 0, 1) := by decide +kernel
theorem dX12_readAtom_75 : decode cX12_readAtom 75 = .ok (.ireturn, 1) := by decide +kernel
theorem dX12_readAtom_76 : decode cX12_readAtom 76 = .ok (.aload_n 0, 1) := by decide +kernel
theorem dX12_readAtom_77 : decode cX12_readAtom 77 = .ok (.dup, 1) := by decide +kernel
theorem dX12_readAtom_78 : decode cX12_readAtom 78 = .ok (.getfield 194, 3) := by decide +kernel
theorem dX12_readAtom_81 : decode cX12_readAtom 81 = .ok (.iconst 1, 1) := by decide +kernel
theorem dX12_readAtom_82 : decode cX12_readAtom 82 = .ok (.iadd, 1) := by decide +kernel
theorem dX12_readAtom_83 : decode cX12_readAtom 83 = .ok (.putfield 194, 3) := by decide +kernel
theorem dX12_readAtom_86 : decode cX12_readAtom 86 = .ok (.aload_n 0, 1) := by decide +kernel
theorem dX12_readAtom_87 : decode cX12_readAtom 87 = .ok (.invokevirtual 202, 3) := by decide +kernel
theorem dX12_readAtom_90 : decode cX12_readAtom 90 = .ok (.ifCond .ne 5, 3) := by decide +kernel
theorem dX12_readAtom_93 : decode cX12_readAtom 93 = .ok (.iconst 0, 1) := by decide +kernel
theorem dX12_readAtom_94 : decode cX12_readAtom 94 = .ok (.ireturn, 1) := by decide +kernel
theorem dX12_readAtom_95 : decode cX12_readAtom 95 = .ok (.aload_n 0, 1) := by decide +kernel
theorem dX12_readAtom_96 : decode cX12_readAtom 96 = .ok (.dup, 1) := by decide +kernel
theorem dX12_readAtom_97 : decode cX12_readAtom 97 = .ok (.getfield 194, 3) := by decide +kernel
theorem dX12_readAtom_100 : decode cX12_readAtom 100 = .ok (.iconst 1, 1) := by decide +kernel
theorem dX12_readAtom_101 : decode cX12_readAtom 101 = .ok (.isub, 1) := by decide +kernel
theorem dX12_readAtom_102 : decode cX12_readAtom 102 = .ok (.putfield 194, 3) := by decide +kernel
theorem dX12_readAtom_105 : decode cX12_readAtom 105 = .ok (.aload_n 0, 1) := by decide +kernel
theorem dX12_readAtom_106 : decode cX12_readAtom 106 = .ok (.bipush 13, 2) := by decide +kernel
theorem dX12_readAtom_108 : decode cX12_readAtom 108 = .ok (.iconst 0, 1) := by decide +kernel
theorem dX12_readAtom_109 : decode cX12_readAtom 109 = .ok (.invokevirtual 180, 3) := by decide +kernel
theorem dX12_readAtom_112 : decode cX12_readAtom 112 = .ok (.iconst 1, 1) := by decide +kernel
theorem dX12_readAtom_113 : decode cX12_readAtom 113 = .ok (.ireturn, 1) := by decide +kernel
theorem dX12_readAtom_114 : decode cX12_readAtom 114 = .ok (.aload_n 0, 1) := by decide +kernel
theorem dX12_readAtom_115 : decode cX12_readAtom 115 = .ok (.invokevirtual 205, 3) := by decide +kernel
theorem dX12_readAtom_118 : decode cX12_readAtom 118 = .ok (.ifCond .eq 5, 3) := by decide +kernel
theorem dX12_readAtom_121 : decode cX12_readAtom 121 = .ok (.iconst 1, 1) := by decide +kernel
theorem dX12_readAtom_122 : decode cX12_readAtom 122 = .ok (.ireturn, 1) := by decide +kernel
theorem dX12_readAtom_123 : decode cX12_readAtom 123 = .ok (.aload_n 0, 1) := by decide +kernel
theorem dX12_readAtom_124 : decode cX12_readAtom 124 = .ok (.invokevirtual 208, 3) := by decide +kernel
theorem dX12_readAtom_127 : decode cX12_readAtom 127 = .ok (.ifCond .ne 5, 3) := by decide +kernel
theorem dX12_readAtom_130 : decode cX12_readAtom 130 = .ok (.iconst 0, 1) := by decide +kernel
theorem dX12_readAtom_131 : decode cX12_readAtom 131 = .ok (.ireturn, 1) := by decide +kernel
theorem dX12_readAtom_132 : decode cX12_readAtom 132 = .ok (.aload_n 0, 1) := by decide +kernel
theorem dX12_readAtom_133 : decode cX12_readAtom 133 = .ok (.bipush 60, 2) := by decide +kernel
theorem dX12_readAtom_135 : decode cX12_readAtom 135 = .ok (.invokevirtual 187, 3) := by decide +kernel
theorem dX12_readAtom_138 : decode cX12_readAtom 138 = .ok (.istore_n 1, 1) := by decide +kernel
theorem dX12_readAtom_139 : decode cX12_readAtom 139 = .ok (.iload_n 1, 1) := by decide +kernel
theorem dX12_readAtom_140 : decode cX12_readAtom 140 = .ok (.ifCond .ne 12, 3) := by decide +kernel
theorem dX12_readAtom_143 : decode cX12_readAtom 143 = .ok (.aload_n 0, 1) := by decide +kernel
theorem dX12_readAtom_144 : decode cX12_readAtom 144 = .ok (.bipush 62, 2) := by decide +kernel
theorem dX12_readAtom_146 : decode cX12_readAtom 146 = .ok (.invokevirtual 187, 3) := by decide +kernel
theorem dX12_readAtom_149 : decode cX12_readAtom 149 = .ok (.ifCond .eq 10, 3) := by decide +kernel
theorem dX12_readAtom_152 : decode cX12_readAtom 152 = .ok (.aload_n 0, 1) := by decide +kernel
theorem dX12_readAtom_153 : decode cX12_readAtom 153 = .ok (.invokevirtual 208, 3) := by decide +kernel
theorem dX12_readAtom_156 : decode cX12_readAtom 156 = .ok (.ifCond .ne 5, 3) := by decide +kernel
theorem dX12_readAtom_159 : decode cX12_readAtom 159 = .ok (.iconst 0, 1) := by decide +kernel
theorem dX12_readAtom_160 : decode cX12_readAtom 160 = .ok (.ireturn, 1) := by decide +kernel
theorem dX12_readAtom_161 : decode cX12_readAtom 161 = .ok (.aload_n 0, 1) := by decide +kernel
theorem dX12_readAtom_162 : decode cX12_readAtom 162 = .ok (.iload_n 1, 1) := by decide +kernel
theorem dX12_readAtom_163 : decode cX12_readAtom 163 = .ok (.ifCond .eq 8, 3) := by decide +kernel
theorem dX12_readAtom_166 : decode cX12_readAtom 166 = .ok (.bipush 11, 2) := by decide +kernel
theorem dX12_readAtom_168 : decode cX12_readAtom 168 = .ok (.goto 5, 3) := by decide +kernel
theorem dX12_readAtom_171 : decode cX12_readAtom 171 = .ok (.bipush 12, 2) := by decide +kernel
theorem dX12_readAtom_173 : decode cX12_readAtom 173 = .ok (.iconst 0, 1) := by decide +kernel
theorem dX12_readAtom_174 : decode cX12_readAtom 174 = .ok (.invokevirtual 180, 3) := by decide +kernel
theorem dX12_readAtom_177 : decode cX12_readAtom 177 = .ok (.iconst 1, 1) := by decide +kernel
theorem dX12_readAtom_178 : decode cX12_readAtom 178 = .ok (.ireturn, 1) := by decide +kernel
theorem dX12_readAllOf_0 : decode cX12_readAllOf 0 = .ok (.aload_n 0, 1) := by decide +kernel
theorem dX12_readAllOf_1 : decode cX12_readAllOf 1 = .ok (.invokevirtual 202, 3) := by decide +kernel
theorem dX12_readAllOf_4 : decode cX12_readAllOf 4 = .ok (.ifCond .ne 5, 3) := by decide +kernel
theorem dX12_readAllOf_7 : decode cX12_readAllOf 7 = .ok (.iconst 0, 1) := by decide +kernel
theorem dX12_readAllOf_8 : decode cX12_readAllOf 8 = .ok (.ireturn, 1) := by decide +kernel
theorem dX12_readAllOf_9 : decode cX12_readAllOf 9 = .ok (.aload_n 0, 1) := by decide +kernel
theorem dX12_readAllOf_10 : decode cX12_readAllOf 10 = .ok (.ldc 211, 2) := by decide +kernel
theorem dX12_readAllOf_12 : decode cX12_readAllOf 12 = .ok (.invokevirtual 118, 3) := by decide +kernel
theorem dX12_readAllOf_15 : decode cX12_readAllOf 15 = .ok (.ifCond .eq 22, 3) := by decide +kernel
theorem dX12_readAllOf_18 : decode cX12_readAllOf 18 = .ok (.aload_n 0, 1) := by decide +kernel
theorem dX12_readAllOf_19 : decode cX12_readAllOf 19 = .ok (.invokevirtual 202, 3) := by decide +kernel
theorem dX12_readAllOf_22 : decode cX12_readAllOf 22 = .ok (.ifCond .ne 5, 3) := by decide +kernel
theorem dX12_readAllOf_25 : decode cX12_readAllOf 25 = .ok (.iconst 0, 1) := by decide +kernel
theorem dX12_readAllOf_26 : decode cX12_readAllOf 26 = .ok (.ireturn, 1) := by decide +kernel
theorem dX12_readAllOf_27 : decode cX12_readAllOf 27 = .ok (.aload_n 0, 1) := by decide +kernel
theorem dX12_readAllOf_28 : decode cX12_readAllOf 28 = .ok (.bipush 14, 2) := by decide +kernel
theorem dX12_readAllOf_30 : decode cX12_readAllOf 30 = .ok (.iconst 0, 1) := by decide +kernel
theorem dX12_readAllOf_31 : decode cX12_readAllOf 31 = .ok (.invokevirtual 180, 3) := by decide +kernel
theorem dX12_readAllOf_34 : decode cX12_readAllOf 34 = .ok (.goto (-25), 3) := by decide +kernel
theorem dX12_readAllOf_37 : decode cX12_readAllOf 37 = .ok (.iconst 1, 1) := by decide +kernel
theorem dX12_readAllOf_38 : decode cX12_readAllOf 38 = .ok (.ireturn, 1) := by decide +kernel
theorem dX12_readCond_0 : decode cX12_readCond 0 = .ok (.aload_n 0, 1) := by decide +kernel
theorem dX12_readCond_1 : decode cX12_readCond 1 = .ok (.invokevirtual 213, 3) := by decide +kernel
theorem dX12_readCond_4 : decode cX12_readCond 4 = .ok (.ifCond .ne 5, 3) := by decide +kernel
theorem dX12_readCond_7 : decode cX12_readCond 7 = .ok (.iconst 0, 1) := by decide +kernel
theorem dX12_readCond_8 : decode cX12_readCond 8 = .ok (.ireturn, 1) := by decide +kernel
theorem dX12_readCond_9 : decode cX12_readCond 9 = .ok (.aload_n 0, 1) := by decide +kernel
theorem dX12_readCond_10 : decode cX12_readCond 10 = .ok (.ldc 216, 2) := by decide +kernel
theorem dX12_readCond_12 : decode cX12_readCond 12 = .ok (.invokevirtual 118, 3) := by decide +kernel
theorem dX12_readCond_15 : decode cX12_readCond 15 = .ok (.ifCond .eq 22, 3) := by decide +kernel
theorem dX12_readCond_18 : decode cX12_readCond 18 = .ok (.aload_n 0, 1) := by decide +kernel
theorem dX12_readCond_19 : decode cX12_readCond 19 = .ok (.invokevirtual 213, 3) := by decide +kernel
theorem dX12_readCond_22 : decode cX12_readCond 22 = .ok (.ifCond .ne 5, 3) := by decide +kernel
theorem dX12_readCond_25 : decode cX12_readCond 25 = .ok (.iconst 0, 1) := by decide +kernel
theorem dX12_readCond_26 : decode cX12_readCond 26 = .ok (.ireturn, 1) := by decide +kernel
theorem dX12_readCond_27 : decode cX12_readCond 27 = .ok (.aload_n 0, 1) := by decide +kernel
theorem dX12_readCond_28 : decode cX12_readCond 28 = .ok (.bipush 15, 2) := by decide +kernel
theorem dX12_readCond_30 : decode cX12_readCond 30 = .ok (.iconst 0, 1) := by decide +kernel
theorem dX12_readCond_31 : decode cX12_readCond 31 = .ok (.invokevirtual 180, 3) := by decide +kernel
theorem dX12_readCond_34 : decode cX12_readCond 34 = .ok (.goto (-25), 3) := by decide +kernel
theorem dX12_readCond_37 : decode cX12_readCond 37 = .ok (.iconst 1, 1) := by decide +kernel
theorem dX12_readCond_38 : decode cX12_readCond 38 = .ok (.ireturn, 1) := by decide +kernel
theorem dX12_readLawLine_0 : decode cX12_readLawLine 0 = .ok (.sipush 1203, 3) := by decide +kernel
theorem dX12_readLawLine_3 : decode cX12_readLawLine 3 = .ok (.iconst 4, 1) := by decide +kernel
theorem dX12_readLawLine_4 : decode cX12_readLawLine 4 = .ok (.iload_n 1, 1) := by decide +kernel
theorem dX12_readLawLine_5 : decode cX12_readLawLine 5 = .ok (.imul, 1) := by decide +kernel
theorem dX12_readLawLine_6 : decode cX12_readLawLine 6 = .ok (.iadd, 1) := by decide +kernel
theorem dX12_readLawLine_7 : decode cX12_readLawLine 7 = .ok (.istore_n 2, 1) := by decide +kernel
theorem dX12_readLawLine_8 : decode cX12_readLawLine 8 = .ok (.aload_n 0, 1) := by decide +kernel
theorem dX12_readLawLine_9 : decode cX12_readLawLine 9 = .ok (.getfield 13, 3) := by decide +kernel
theorem dX12_readLawLine_12 : decode cX12_readLawLine 12 = .ok (.iload_n 2, 1) := by decide +kernel
theorem dX12_readLawLine_13 : decode cX12_readLawLine 13 = .ok (.aload_n 0, 1) := by decide +kernel
theorem dX12_readLawLine_14 : decode cX12_readLawLine 14 = .ok (.ldc 218, 2) := by decide +kernel
theorem dX12_readLawLine_16 : decode cX12_readLawLine 16 = .ok (.invokevirtual 109, 3) := by decide +kernel
theorem dX12_readLawLine_19 : decode cX12_readLawLine 19 = .ok (.ifCond .eq 7, 3) := by decide +kernel
theorem dX12_readLawLine_22 : decode cX12_readLawLine 22 = .ok (.iconst 0, 1) := by decide +kernel
theorem dX12_readLawLine_23 : decode cX12_readLawLine 23 = .ok (.goto 30, 3) := by decide +kernel
theorem dX12_readLawLine_26 : decode cX12_readLawLine 26 = .ok (.aload_n 0, 1) := by decide +kernel
theorem dX12_readLawLine_27 : decode cX12_readLawLine 27 = .ok (.ldc 220, 2) := by decide +kernel
theorem dX12_readLawLine_29 : decode cX12_readLawLine 29 = .ok (.invokevirtual 109, 3) := by decide +kernel
theorem dX12_readLawLine_32 : decode cX12_readLawLine 32 = .ok (.ifCond .eq 7, 3) := by decide +kernel
theorem dX12_readLawLine_35 : decode cX12_readLawLine 35 = .ok (.iconst 1, 1) := by decide +kernel
theorem dX12_readLawLine_36 : decode cX12_readLawLine 36 = .ok (.goto 17, 3) := by decide +kernel
theorem dX12_readLawLine_39 : decode cX12_readLawLine 39 = .ok (.aload_n 0, 1) := by decide +kernel
theorem dX12_readLawLine_40 : decode cX12_readLawLine 40 = .ok (.ldc 222, 2) := by decide +kernel
theorem dX12_readLawLine_42 : decode cX12_readLawLine 42 = .ok (.invokevirtual 109, 3) := by decide +kernel
theorem dX12_readLawLine_45 : decode cX12_readLawLine 45 = .ok (.ifCond .eq 7, 3) := by decide +kernel
theorem dX12_readLawLine_48 : decode cX12_readLawLine 48 = .ok (.iconst 2, 1) := by decide +kernel
theorem dX12_readLawLine_49 : decode cX12_readLawLine 49 = .ok (.goto 4, 3) := by decide +kernel
theorem dX12_readLawLine_52 : decode cX12_readLawLine 52 = .ok (.iconst (-1), 1) := by decide +kernel
theorem dX12_readLawLine_53 : decode cX12_readLawLine 53 = .ok (.iastore, 1) := by decide +kernel
theorem dX12_readLawLine_54 : decode cX12_readLawLine 54 = .ok (.aload_n 0, 1) := by decide +kernel
theorem dX12_readLawLine_55 : decode cX12_readLawLine 55 = .ok (.getfield 13, 3) := by decide +kernel
theorem dX12_readLawLine_58 : decode cX12_readLawLine 58 = .ok (.iload_n 2, 1) := by decide +kernel
theorem dX12_readLawLine_59 : decode cX12_readLawLine 59 = .ok (.iaload, 1) := by decide +kernel
theorem dX12_readLawLine_60 : decode cX12_readLawLine 60 = .ok (.ifCond .ge 5, 3) := by decide +kernel
theorem dX12_readLawLine_63 : decode cX12_readLawLine 63 = .ok (.iconst 0, 1) := by decide +kernel
theorem dX12_readLawLine_64 : decode cX12_readLawLine 64 = .ok (.ireturn, 1) := by decide +kernel
theorem dX12_readLawLine_65 : decode cX12_readLawLine 65 = .ok (.aload_n 0, 1) := by decide +kernel
theorem dX12_readLawLine_66 : decode cX12_readLawLine 66 = .ok (.getfield 13, 3) := by decide +kernel
theorem dX12_readLawLine_69 : decode cX12_readLawLine 69 = .ok (.iload_n 2, 1) := by decide +kernel
theorem dX12_readLawLine_70 : decode cX12_readLawLine 70 = .ok (.iconst 1, 1) := by decide +kernel
theorem dX12_readLawLine_71 : decode cX12_readLawLine 71 = .ok (.iadd, 1) := by decide +kernel
theorem dX12_readLawLine_72 : decode cX12_readLawLine 72 = .ok (.aload_n 0, 1) := by decide +kernel
theorem dX12_readLawLine_73 : decode cX12_readLawLine 73 = .ok (.iconst 0, 1) := by decide +kernel
theorem dX12_readLawLine_74 : decode cX12_readLawLine 74 = .ok (.bipush 60, 2) := by decide +kernel
theorem dX12_readLawLine_76 : decode cX12_readLawLine 76 = .ok (.invokevirtual 113, 3) := by decide +kernel
theorem dX12_readLawLine_79 : decode cX12_readLawLine 79 = .ok (.iastore, 1) := by decide +kernel
theorem dX12_readLawLine_80 : decode cX12_readLawLine 80 = .ok (.aload_n 0, 1) := by decide +kernel
theorem dX12_readLawLine_81 : decode cX12_readLawLine 81 = .ok (.getfield 13, 3) := by decide +kernel
theorem dX12_readLawLine_84 : decode cX12_readLawLine 84 = .ok (.iload_n 2, 1) := by decide +kernel
theorem dX12_readLawLine_85 : decode cX12_readLawLine 85 = .ok (.iconst 1, 1) := by decide +kernel
theorem dX12_readLawLine_86 : decode cX12_readLawLine 86 = .ok (.iadd, 1) := by decide +kernel
theorem dX12_readLawLine_87 : decode cX12_readLawLine 87 = .ok (.iaload, 1) := by decide +kernel
theorem dX12_readLawLine_88 : decode cX12_readLawLine 88 = .ok (.ifCond .ge 5, 3) := by decide +kernel
theorem dX12_readLawLine_91 : decode cX12_readLawLine 91 = .ok (.iconst 0, 1) := by decide +kernel
theorem dX12_readLawLine_92 : decode cX12_readLawLine 92 = .ok (.ireturn, 1) := by decide +kernel
theorem dX12_readLawLine_93 : decode cX12_readLawLine 93 = .ok (.aload_n 0, 1) := by decide +kernel
theorem dX12_readLawLine_94 : decode cX12_readLawLine 94 = .ok (.getfield 13, 3) := by decide +kernel
theorem dX12_readLawLine_97 : decode cX12_readLawLine 97 = .ok (.iload_n 2, 1) := by decide +kernel
theorem dX12_readLawLine_98 : decode cX12_readLawLine 98 = .ok (.iconst 2, 1) := by decide +kernel
theorem dX12_readLawLine_99 : decode cX12_readLawLine 99 = .ok (.iadd, 1) := by decide +kernel
theorem dX12_readLawLine_100 : decode cX12_readLawLine 100 = .ok (.aload_n 0, 1) := by decide +kernel
theorem dX12_readLawLine_101 : decode cX12_readLawLine 101 = .ok (.getfield 164, 3) := by decide +kernel
theorem dX12_readLawLine_104 : decode cX12_readLawLine 104 = .ok (.iastore, 1) := by decide +kernel
theorem dX12_readLawLine_105 : decode cX12_readLawLine 105 = .ok (.aload_n 0, 1) := by decide +kernel
theorem dX12_readLawLine_106 : decode cX12_readLawLine 106 = .ok (.iconst 0, 1) := by decide +kernel
theorem dX12_readLawLine_107 : decode cX12_readLawLine 107 = .ok (.putfield 194, 3) := by decide +kernel
theorem dX12_readLawLine_110 : decode cX12_readLawLine 110 = .ok (.aload_n 0, 1) := by decide +kernel
theorem dX12_readLawLine_111 : decode cX12_readLawLine 111 = .ok (.ldc 224, 2) := by decide +kernel
theorem dX12_readLawLine_113 : decode cX12_readLawLine 113 = .ok (.invokevirtual 118, 3) := by decide +kernel
theorem dX12_readLawLine_116 : decode cX12_readLawLine 116 = .ok (.ifCond .eq 12, 3) := by decide +kernel
theorem dX12_readLawLine_119 : decode cX12_readLawLine 119 = .ok (.aload_n 0, 1) := by decide +kernel
theorem dX12_readLawLine_120 : decode cX12_readLawLine 120 = .ok (.invokevirtual 197, 3) := by decide +kernel
theorem dX12_readLawLine_123 : decode cX12_readLawLine 123 = .ok (.ifCond .ne 5, 3) := by decide +kernel
theorem dX12_readLawLine_126 : decode cX12_readLawLine 126 = .ok (.iconst 0, 1) := by decide +kernel
theorem dX12_readLawLine_127 : decode cX12_readLawLine 127 = .ok (.ireturn, 1) := by decide +kernel
theorem dX12_readLawLine_128 : decode cX12_readLawLine 128 = .ok (.aload_n 0, 1) := by decide +kernel
theorem dX12_readLawLine_129 : decode cX12_readLawLine 129 = .ok (.getfield 13, 3) := by decide +kernel
theorem dX12_readLawLine_132 : decode cX12_readLawLine 132 = .ok (.iload_n 2, 1) := by decide +kernel
theorem dX12_readLawLine_133 : decode cX12_readLawLine 133 = .ok (.iconst 3, 1) := by decide +kernel
theorem dX12_readLawLine_134 : decode cX12_readLawLine 134 = .ok (.iadd, 1) := by decide +kernel
theorem dX12_readLawLine_135 : decode cX12_readLawLine 135 = .ok (.aload_n 0, 1) := by decide +kernel
theorem dX12_readLawLine_136 : decode cX12_readLawLine 136 = .ok (.getfield 164, 3) := by decide +kernel
theorem dX12_readLawLine_139 : decode cX12_readLawLine 139 = .ok (.iastore, 1) := by decide +kernel
theorem dX12_readLawLine_140 : decode cX12_readLawLine 140 = .ok (.iconst 1, 1) := by decide +kernel
theorem dX12_readLawLine_141 : decode cX12_readLawLine 141 = .ok (.ireturn, 1) := by decide +kernel
theorem dX12_readLine_0 : decode cX12_readLine 0 = .ok (.aload_n 0, 1) := by decide +kernel
theorem dX12_readLine_1 : decode cX12_readLine 1 = .ok (.invokevirtual 106, 3) := by decide +kernel
theorem dX12_readLine_4 : decode cX12_readLine 4 = .ok (.iload_n 2, 1) := by decide +kernel
theorem dX12_readLine_5 : decode cX12_readLine 5 = .ok (.iload_n 1, 1) := by decide +kernel
theorem dX12_readLine_6 : decode cX12_readLine 6 = .ok (.ifCond .eq 8, 3) := by decide +kernel
theorem dX12_readLine_9 : decode cX12_readLine 9 = .ok (.bipush 14, 2) := by decide +kernel
theorem dX12_readLine_11 : decode cX12_readLine 11 = .ok (.goto 5, 3) := by decide +kernel
theorem dX12_readLine_14 : decode cX12_readLine 14 = .ok (.bipush 12, 2) := by decide +kernel
theorem dX12_readLine_16 : decode cX12_readLine 16 = .ok (.if_icmp .ge 29, 3) := by decide +kernel
theorem dX12_readLine_19 : decode cX12_readLine 19 = .ok (.iload_n 1, 1) := by decide +kernel
theorem dX12_readLine_20 : decode cX12_readLine 20 = .ok (.ifCond .eq 13, 3) := by decide +kernel
theorem dX12_readLine_23 : decode cX12_readLine 23 = .ok (.aload_n 0, 1) := by decide +kernel
theorem dX12_readLine_24 : decode cX12_readLine 24 = .ok (.invokevirtual 226, 3) := by decide +kernel
theorem dX12_readLine_27 : decode cX12_readLine 27 = .ok (.ifCond .eq 18, 3) := by decide +kernel
theorem dX12_readLine_30 : decode cX12_readLine 30 = .ok (.goto 11, 3) := by decide +kernel
theorem dX12_readLine_33 : decode cX12_readLine 33 = .ok (.aload_n 0, 1) := by decide +kernel
theorem dX12_readLine_34 : decode cX12_readLine 34 = .ok (.iload_n 2, 1) := by decide +kernel
theorem dX12_readLine_35 : decode cX12_readLine 35 = .ok (.invokevirtual 229, 3) := by decide +kernel
theorem dX12_readLine_38 : decode cX12_readLine 38 = .ok (.ifCond .eq 7, 3) := by decide +kernel
theorem dX12_readLine_41 : decode cX12_readLine 41 = .ok (.iconst 1, 1) := by decide +kernel
theorem dX12_readLine_42 : decode cX12_readLine 42 = .ok (.goto 4, 3) := by decide +kernel
theorem dX12_readLine_45 : decode cX12_readLine 45 = .ok (.iconst 0, 1) := by decide +kernel
theorem dX12_readLine_46 : decode cX12_readLine 46 = .ok (.ireturn, 1) := by decide +kernel
theorem dX12_readAll_0 : decode cX12_readAll 0 = .ok (.aload_n 0, 1) := by decide +kernel
theorem dX12_readAll_1 : decode cX12_readAll 1 = .ok (.invokevirtual 232, 3) := by decide +kernel
theorem dX12_readAll_4 : decode cX12_readAll 4 = .ok (.aload_n 0, 1) := by decide +kernel
theorem dX12_readAll_5 : decode cX12_readAll 5 = .ok (.iconst 0, 1) := by decide +kernel
theorem dX12_readAll_6 : decode cX12_readAll 6 = .ok (.putfield 164, 3) := by decide +kernel
theorem dX12_readAll_9 : decode cX12_readAll 9 = .ok (.aload_n 0, 1) := by decide +kernel
theorem dX12_readAll_10 : decode cX12_readAll 10 = .ok (.invokevirtual 94, 3) := by decide +kernel
theorem dX12_readAll_13 : decode cX12_readAll 13 = .ok (.aload_n 0, 1) := by decide +kernel
theorem dX12_readAll_14 : decode cX12_readAll 14 = .ok (.getfield 81, 3) := by decide +kernel
theorem dX12_readAll_17 : decode cX12_readAll 17 = .ok (.aload_n 0, 1) := by decide +kernel
theorem dX12_readAll_18 : decode cX12_readAll 18 = .ok (.getfield 84, 3) := by decide +kernel
theorem dX12_readAll_21 : decode cX12_readAll 21 = .ok (.if_icmp .ne 5, 3) := by decide +kernel
theorem dX12_readAll_24 : decode cX12_readAll 24 = .ok (.iconst 0, 1) := by decide +kernel
theorem dX12_readAll_25 : decode cX12_readAll 25 = .ok (.ireturn, 1) := by decide +kernel
theorem dX12_readAll_26 : decode cX12_readAll 26 = .ok (.iconst 0, 1) := by decide +kernel
theorem dX12_readAll_27 : decode cX12_readAll 27 = .ok (.istore_n 2, 1) := by decide +kernel
theorem dX12_readAll_28 : decode cX12_readAll 28 = .ok (.aload_n 0, 1) := by decide +kernel
theorem dX12_readAll_29 : decode cX12_readAll 29 = .ok (.iload_n 1, 1) := by decide +kernel
theorem dX12_readAll_30 : decode cX12_readAll 30 = .ok (.iload_n 2, 1) := by decide +kernel
theorem dX12_readAll_31 : decode cX12_readAll 31 = .ok (.invokevirtual 235, 3) := by decide +kernel
theorem dX12_readAll_34 : decode cX12_readAll 34 = .ok (.ifCond .ne 5, 3) := by decide +kernel
theorem dX12_readAll_37 : decode cX12_readAll 37 = .ok (.iconst (-1), 1) := by decide +kernel
theorem dX12_readAll_38 : decode cX12_readAll 38 = .ok (.ireturn, 1) := by decide +kernel
theorem dX12_readAll_39 : decode cX12_readAll 39 = .ok (.aload_n 0, 1) := by decide +kernel
theorem dX12_readAll_40 : decode cX12_readAll 40 = .ok (.invokevirtual 94, 3) := by decide +kernel
theorem dX12_readAll_43 : decode cX12_readAll 43 = .ok (.aload_n 0, 1) := by decide +kernel
theorem dX12_readAll_44 : decode cX12_readAll 44 = .ok (.getfield 81, 3) := by decide +kernel
theorem dX12_readAll_47 : decode cX12_readAll 47 = .ok (.aload_n 0, 1) := by decide +kernel
theorem dX12_readAll_48 : decode cX12_readAll 48 = .ok (.getfield 84, 3) := by decide +kernel
theorem dX12_readAll_51 : decode cX12_readAll 51 = .ok (.if_icmp .ne 7, 3) := by decide +kernel
theorem dX12_readAll_54 : decode cX12_readAll 54 = .ok (.iload_n 2, 1) := by decide +kernel
theorem dX12_readAll_55 : decode cX12_readAll 55 = .ok (.iconst 1, 1) := by decide +kernel
theorem dX12_readAll_56 : decode cX12_readAll 56 = .ok (.iadd, 1) := by decide +kernel
theorem dX12_readAll_57 : decode cX12_readAll 57 = .ok (.ireturn, 1) := by decide +kernel
theorem dX12_readAll_58 : decode cX12_readAll 58 = .ok (.aload_n 0, 1) := by decide +kernel
theorem dX12_readAll_59 : decode cX12_readAll 59 = .ok (.bipush 59, 2) := by decide +kernel
theorem dX12_readAll_61 : decode cX12_readAll 61 = .ok (.bipush 59, 2) := by decide +kernel
theorem dX12_readAll_63 : decode cX12_readAll 63 = .ok (.invokevirtual 87, 3) := by decide +kernel
theorem dX12_readAll_66 : decode cX12_readAll 66 = .ok (.ifCond .ne 5, 3) := by decide +kernel
theorem dX12_readAll_69 : decode cX12_readAll 69 = .ok (.iconst (-1), 1) := by decide +kernel
theorem dX12_readAll_70 : decode cX12_readAll 70 = .ok (.ireturn, 1) := by decide +kernel
theorem dX12_readAll_71 : decode cX12_readAll 71 = .ok (.aload_n 0, 1) := by decide +kernel
theorem dX12_readAll_72 : decode cX12_readAll 72 = .ok (.dup, 1) := by decide +kernel
theorem dX12_readAll_73 : decode cX12_readAll 73 = .ok (.getfield 81, 3) := by decide +kernel
theorem dX12_readAll_76 : decode cX12_readAll 76 = .ok (.iconst 1, 1) := by decide +kernel
theorem dX12_readAll_77 : decode cX12_readAll 77 = .ok (.iadd, 1) := by decide +kernel
theorem dX12_readAll_78 : decode cX12_readAll 78 = .ok (.putfield 81, 3) := by decide +kernel
theorem dX12_readAll_81 : decode cX12_readAll 81 = .ok (.iinc 2 1, 3) := by decide +kernel
theorem dX12_readAll_84 : decode cX12_readAll 84 = .ok (.goto (-56), 3) := by decide +kernel
theorem dX12_life_0 : decode cX12_life 0 = .ok (.iconst 0, 1) := by decide +kernel
theorem dX12_life_1 : decode cX12_life 1 = .ok (.istore_n 1, 1) := by decide +kernel
theorem dX12_life_2 : decode cX12_life 2 = .ok (.iload_n 1, 1) := by decide +kernel
theorem dX12_life_3 : decode cX12_life 3 = .ok (.sipush 1202, 3) := by decide +kernel
theorem dX12_life_6 : decode cX12_life 6 = .ok (.if_icmp .ge 21, 3) := by decide +kernel
theorem dX12_life_9 : decode cX12_life 9 = .ok (.aload_n 0, 1) := by decide +kernel
theorem dX12_life_10 : decode cX12_life 10 = .ok (.getfield 20, 3) := by decide +kernel
theorem dX12_life_13 : decode cX12_life 13 = .ok (.iload_n 1, 1) := by decide +kernel
theorem dX12_life_14 : decode cX12_life 14 = .ok (.aload_n 0, 1) := by decide +kernel
theorem dX12_life_15 : decode cX12_life 15 = .ok (.getfield 13, 3) := by decide +kernel
theorem dX12_life_18 : decode cX12_life 18 = .ok (.iload_n 1, 1) := by decide +kernel
theorem dX12_life_19 : decode cX12_life 19 = .ok (.iaload, 1) := by decide +kernel
theorem dX12_life_20 : decode cX12_life 20 = .ok (.iastore, 1) := by decide +kernel
theorem dX12_life_21 : decode cX12_life 21 = .ok (.iinc 1 1, 3) := by decide +kernel
theorem dX12_life_24 : decode cX12_life 24 = .ok (.goto (-22), 3) := by decide +kernel
theorem dX12_life_27 : decode cX12_life 27 = .ok (.aload_n 0, 1) := by decide +kernel
theorem dX12_life_28 : decode cX12_life 28 = .ok (.iconst 1, 1) := by decide +kernel
theorem dX12_life_29 : decode cX12_life 29 = .ok (.invokevirtual 239, 3) := by decide +kernel
theorem dX12_life_32 : decode cX12_life 32 = .ok (.istore_n 1, 1) := by decide +kernel
theorem dX12_life_33 : decode cX12_life 33 = .ok (.aload_n 0, 1) := by decide +kernel
theorem dX12_life_34 : decode cX12_life 34 = .ok (.iload_n 1, 1) := by decide +kernel
theorem dX12_life_35 : decode cX12_life 35 = .ok (.ifCond .ge 10, 3) := by decide +kernel
theorem dX12_life_38 : decode cX12_life 38 = .ok (.aload_n 0, 1) := by decide +kernel
theorem dX12_life_39 : decode cX12_life 39 = .ok (.getfield 91, 3) := by decide +kernel
theorem dX12_life_42 : decode cX12_life 42 = .ok (.goto 4, 3) := by decide +kernel
theorem dX12_life_45 : decode cX12_life 45 = .ok (.iconst (-1), 1) := by decide +kernel
theorem dX12_life_46 : decode cX12_life 46 = .ok (.putfield 33, 3) := by decide +kernel
theorem dX12_life_49 : decode cX12_life 49 = .ok (.aload_n 0, 1) := by decide +kernel
theorem dX12_life_50 : decode cX12_life 50 = .ok (.iload_n 1, 1) := by decide +kernel
theorem dX12_life_51 : decode cX12_life 51 = .ok (.ifCond .ge 7, 3) := by decide +kernel
theorem dX12_life_54 : decode cX12_life 54 = .ok (.iconst 1, 1) := by decide +kernel
theorem dX12_life_55 : decode cX12_life 55 = .ok (.goto 4, 3) := by decide +kernel
theorem dX12_life_58 : decode cX12_life 58 = .ok (.iconst 0, 1) := by decide +kernel
theorem dX12_life_59 : decode cX12_life 59 = .ok (.iconst 1, 1) := by decide +kernel
theorem dX12_life_60 : decode cX12_life 60 = .ok (.invokevirtual 243, 3) := by decide +kernel
theorem dX12_life_63 : decode cX12_life 63 = .ok (.ifCond .ne 27, 3) := by decide +kernel
theorem dX12_life_66 : decode cX12_life 66 = .ok (.aload_n 0, 1) := by decide +kernel
theorem dX12_life_67 : decode cX12_life 67 = .ok (.aload_n 0, 1) := by decide +kernel
theorem dX12_life_68 : decode cX12_life 68 = .ok (.getfield 13, 3) := by decide +kernel
theorem dX12_life_71 : decode cX12_life 71 = .ok (.iconst 1, 1) := by decide +kernel
theorem dX12_life_72 : decode cX12_life 72 = .ok (.iaload, 1) := by decide +kernel
theorem dX12_life_73 : decode cX12_life 73 = .ok (.bipush 12, 2) := by decide +kernel
theorem dX12_life_75 : decode cX12_life 75 = .ok (.if_icmp .ne 7, 3) := by decide +kernel
theorem dX12_life_78 : decode cX12_life 78 = .ok (.iconst 1, 1) := by decide +kernel
theorem dX12_life_79 : decode cX12_life 79 = .ok (.goto 4, 3) := by decide +kernel
theorem dX12_life_82 : decode cX12_life 82 = .ok (.iconst 0, 1) := by decide +kernel
theorem dX12_life_83 : decode cX12_life 83 = .ok (.iconst 2, 1) := by decide +kernel
theorem dX12_life_84 : decode cX12_life 84 = .ok (.invokevirtual 243, 3) := by decide +kernel
theorem dX12_life_87 : decode cX12_life 87 = .ok (.ifCond .eq 32, 3) := by decide +kernel
theorem dX12_life_90 : decode cX12_life 90 = .ok (.iconst 0, 1) := by decide +kernel
theorem dX12_life_91 : decode cX12_life 91 = .ok (.istore_n 2, 1) := by decide +kernel
theorem dX12_life_92 : decode cX12_life 92 = .ok (.iload_n 2, 1) := by decide +kernel
theorem dX12_life_93 : decode cX12_life 93 = .ok (.sipush 1202, 3) := by decide +kernel
theorem dX12_life_96 : decode cX12_life 96 = .ok (.if_icmp .ge 21, 3) := by decide +kernel
theorem dX12_life_99 : decode cX12_life 99 = .ok (.aload_n 0, 1) := by decide +kernel
theorem dX12_life_100 : decode cX12_life 100 = .ok (.getfield 13, 3) := by decide +kernel
theorem dX12_life_103 : decode cX12_life 103 = .ok (.iload_n 2, 1) := by decide +kernel
theorem dX12_life_104 : decode cX12_life 104 = .ok (.aload_n 0, 1) := by decide +kernel
theorem dX12_life_105 : decode cX12_life 105 = .ok (.getfield 20, 3) := by decide +kernel
theorem dX12_life_108 : decode cX12_life 108 = .ok (.iload_n 2, 1) := by decide +kernel
theorem dX12_life_109 : decode cX12_life 109 = .ok (.iaload, 1) := by decide +kernel
theorem dX12_life_110 : decode cX12_life 110 = .ok (.iastore, 1) := by decide +kernel
theorem dX12_life_111 : decode cX12_life 111 = .ok (.iinc 2 1, 3) := by decide +kernel
theorem dX12_life_114 : decode cX12_life 114 = .ok (.goto (-22), 3) := by decide +kernel
theorem dX12_life_117 : decode cX12_life 117 = .ok (.iconst 0, 1) := by decide +kernel
theorem dX12_life_118 : decode cX12_life 118 = .ok (.ireturn, 1) := by decide +kernel
theorem dX12_life_119 : decode cX12_life 119 = .ok (.aload_n 0, 1) := by decide +kernel
theorem dX12_life_120 : decode cX12_life 120 = .ok (.getfield 13, 3) := by decide +kernel
theorem dX12_life_123 : decode cX12_life 123 = .ok (.iconst 1, 1) := by decide +kernel
theorem dX12_life_124 : decode cX12_life 124 = .ok (.dup2, 1) := by decide +kernel
theorem dX12_life_125 : decode cX12_life 125 = .ok (.iaload, 1) := by decide +kernel
theorem dX12_life_126 : decode cX12_life 126 = .ok (.iconst 1, 1) := by decide +kernel
theorem dX12_life_127 : decode cX12_life 127 = .ok (.iadd, 1) := by decide +kernel
theorem dX12_life_128 : decode cX12_life 128 = .ok (.iastore, 1) := by decide +kernel
theorem dX12_life_129 : decode cX12_life 129 = .ok (.aload_n 0, 1) := by decide +kernel
theorem dX12_life_130 : decode cX12_life 130 = .ok (.iconst 0, 1) := by decide +kernel
theorem dX12_life_131 : decode cX12_life 131 = .ok (.putfield 59, 3) := by decide +kernel
theorem dX12_life_134 : decode cX12_life 134 = .ok (.aload_n 0, 1) := by decide +kernel
theorem dX12_life_135 : decode cX12_life 135 = .ok (.getfield 13, 3) := by decide +kernel
theorem dX12_life_138 : decode cX12_life 138 = .ok (.iconst 1, 1) := by decide +kernel
theorem dX12_life_139 : decode cX12_life 139 = .ok (.iaload, 1) := by decide +kernel
theorem dX12_life_140 : decode cX12_life 140 = .ok (.ireturn, 1) := by decide +kernel
theorem dX12_law_0 : decode cX12_law 0 = .ok (.aload_n 0, 1) := by decide +kernel
theorem dX12_law_1 : decode cX12_law 1 = .ok (.iconst 0, 1) := by decide +kernel
theorem dX12_law_2 : decode cX12_law 2 = .ok (.invokevirtual 239, 3) := by decide +kernel
theorem dX12_law_5 : decode cX12_law 5 = .ok (.istore_n 1, 1) := by decide +kernel
theorem dX12_law_6 : decode cX12_law 6 = .ok (.aload_n 0, 1) := by decide +kernel
theorem dX12_law_7 : decode cX12_law 7 = .ok (.iload_n 1, 1) := by decide +kernel
theorem dX12_law_8 : decode cX12_law 8 = .ok (.ifCond .ge 10, 3) := by decide +kernel
theorem dX12_law_11 : decode cX12_law 11 = .ok (.aload_n 0, 1) := by decide +kernel
theorem dX12_law_12 : decode cX12_law 12 = .ok (.getfield 91, 3) := by decide +kernel
theorem dX12_law_15 : decode cX12_law 15 = .ok (.goto 4, 3) := by decide +kernel
theorem dX12_law_18 : decode cX12_law 18 = .ok (.iconst (-1), 1) := by decide +kernel
theorem dX12_law_19 : decode cX12_law 19 = .ok (.putfield 33, 3) := by decide +kernel
theorem dX12_law_22 : decode cX12_law 22 = .ok (.aload_n 0, 1) := by decide +kernel
theorem dX12_law_23 : decode cX12_law 23 = .ok (.iload_n 1, 1) := by decide +kernel
theorem dX12_law_24 : decode cX12_law 24 = .ok (.ifCond .ge 7, 3) := by decide +kernel
theorem dX12_law_27 : decode cX12_law 27 = .ok (.iconst 1, 1) := by decide +kernel
theorem dX12_law_28 : decode cX12_law 28 = .ok (.goto 4, 3) := by decide +kernel
theorem dX12_law_31 : decode cX12_law 31 = .ok (.iconst 0, 1) := by decide +kernel
theorem dX12_law_32 : decode cX12_law 32 = .ok (.iconst 1, 1) := by decide +kernel
theorem dX12_law_33 : decode cX12_law 33 = .ok (.invokevirtual 243, 3) := by decide +kernel
theorem dX12_law_36 : decode cX12_law 36 = .ok (.ifCond .eq 5, 3) := by decide +kernel
theorem dX12_law_39 : decode cX12_law 39 = .ok (.iconst 0, 1) := by decide +kernel
theorem dX12_law_40 : decode cX12_law 40 = .ok (.ireturn, 1) := by decide +kernel
theorem dX12_law_41 : decode cX12_law 41 = .ok (.aload_n 0, 1) := by decide +kernel
theorem dX12_law_42 : decode cX12_law 42 = .ok (.getfield 13, 3) := by decide +kernel
theorem dX12_law_45 : decode cX12_law 45 = .ok (.sipush 1202, 3) := by decide +kernel
theorem dX12_law_48 : decode cX12_law 48 = .ok (.iload_n 1, 1) := by decide +kernel
theorem dX12_law_49 : decode cX12_law 49 = .ok (.iastore, 1) := by decide +kernel
theorem dX12_law_50 : decode cX12_law 50 = .ok (.iconst 0, 1) := by decide +kernel
theorem dX12_law_51 : decode cX12_law 51 = .ok (.istore_n 2, 1) := by decide +kernel
theorem dX12_law_52 : decode cX12_law 52 = .ok (.iload_n 2, 1) := by decide +kernel
theorem dX12_law_53 : decode cX12_law 53 = .ok (.sipush 849, 3) := by decide +kernel
theorem dX12_law_56 : decode cX12_law 56 = .ok (.if_icmp .ge 29, 3) := by decide +kernel
theorem dX12_law_59 : decode cX12_law 59 = .ok (.aload_n 0, 1) := by decide +kernel
theorem dX12_law_60 : decode cX12_law 60 = .ok (.getfield 13, 3) := by decide +kernel
theorem dX12_law_63 : decode cX12_law 63 = .ok (.sipush 353, 3) := by decide +kernel
theorem dX12_law_66 : decode cX12_law 66 = .ok (.iload_n 2, 1) := by decide +kernel
theorem dX12_law_67 : decode cX12_law 67 = .ok (.iadd, 1) := by decide +kernel
theorem dX12_law_68 : decode cX12_law 68 = .ok (.aload_n 0, 1) := by decide +kernel
theorem dX12_law_69 : decode cX12_law 69 = .ok (.getfield 13, 3) := by decide +kernel
theorem dX12_law_72 : decode cX12_law 72 = .ok (.sipush 1202, 3) := by decide +kernel
theorem dX12_law_75 : decode cX12_law 75 = .ok (.iload_n 2, 1) := by decide +kernel
theorem dX12_law_76 : decode cX12_law 76 = .ok (.iadd, 1) := by decide +kernel
theorem dX12_law_77 : decode cX12_law 77 = .ok (.iaload, 1) := by decide +kernel
theorem dX12_law_78 : decode cX12_law 78 = .ok (.iastore, 1) := by decide +kernel
theorem dX12_law_79 : decode cX12_law 79 = .ok (.iinc 2 1, 3) := by decide +kernel
theorem dX12_law_82 : decode cX12_law 82 = .ok (.goto (-30), 3) := by decide +kernel
theorem dX12_law_85 : decode cX12_law 85 = .ok (.aload_n 0, 1) := by decide +kernel
theorem dX12_law_86 : decode cX12_law 86 = .ok (.getfield 13, 3) := by decide +kernel
theorem dX12_law_89 : decode cX12_law 89 = .ok (.iconst 2, 1) := by decide +kernel
theorem dX12_law_90 : decode cX12_law 90 = .ok (.iconst 1, 1) := by decide +kernel
theorem dX12_law_91 : decode cX12_law 91 = .ok (.iastore, 1) := by decide +kernel
theorem dX12_law_92 : decode cX12_law 92 = .ok (.aload_n 0, 1) := by decide +kernel
theorem dX12_law_93 : decode cX12_law 93 = .ok (.iconst 0, 1) := by decide +kernel
theorem dX12_law_94 : decode cX12_law 94 = .ok (.putfield 59, 3) := by decide +kernel
theorem dX12_law_97 : decode cX12_law 97 = .ok (.iload_n 1, 1) := by decide +kernel
theorem dX12_law_98 : decode cX12_law 98 = .ok (.ireturn, 1) := by decide +kernel
theorem dX12_farOf_0 : decode cX12_farOf 0 = .ok (.iconst 0, 1) := by decide +kernel
theorem dX12_farOf_1 : decode cX12_farOf 1 = .ok (.istore_n 3, 1) := by decide +kernel
theorem dX12_farOf_2 : decode cX12_farOf 2 = .ok (.iconst 0, 1) := by decide +kernel
theorem dX12_farOf_3 : decode cX12_farOf 3 = .ok (.istore 4, 2) := by decide +kernel
theorem dX12_farOf_5 : decode cX12_farOf 5 = .ok (.iload 4, 2) := by decide +kernel
theorem dX12_farOf_7 : decode cX12_farOf 7 = .ok (.iconst 5, 1) := by decide +kernel
theorem dX12_farOf_8 : decode cX12_farOf 8 = .ok (.if_icmp .ge 30, 3) := by decide +kernel
theorem dX12_farOf_11 : decode cX12_farOf 11 = .ok (.iload_n 3, 1) := by decide +kernel
theorem dX12_farOf_12 : decode cX12_farOf 12 = .ok (.aload_n 0, 1) := by decide +kernel
theorem dX12_farOf_13 : decode cX12_farOf 13 = .ok (.iload_n 1, 1) := by decide +kernel
theorem dX12_farOf_14 : decode cX12_farOf 14 = .ok (.iload 4, 2) := by decide +kernel
theorem dX12_farOf_16 : decode cX12_farOf 16 = .ok (.invokevirtual 70, 3) := by decide +kernel
theorem dX12_farOf_19 : decode cX12_farOf 19 = .ok (.aload_n 0, 1) := by decide +kernel
theorem dX12_farOf_20 : decode cX12_farOf 20 = .ok (.iload_n 2, 1) := by decide +kernel
theorem dX12_farOf_21 : decode cX12_farOf 21 = .ok (.iload 4, 2) := by decide +kernel
theorem dX12_farOf_23 : decode cX12_farOf 23 = .ok (.invokevirtual 70, 3) := by decide +kernel
theorem dX12_farOf_26 : decode cX12_farOf 26 = .ok (.isub, 1) := by decide +kernel
theorem dX12_farOf_27 : decode cX12_farOf 27 = .ok (.invokestatic 246, 3) := by decide +kernel
theorem dX12_farOf_30 : decode cX12_farOf 30 = .ok (.iadd, 1) := by decide +kernel
theorem dX12_farOf_31 : decode cX12_farOf 31 = .ok (.istore_n 3, 1) := by decide +kernel
theorem dX12_farOf_32 : decode cX12_farOf 32 = .ok (.iinc 4 1, 3) := by decide +kernel
theorem dX12_farOf_35 : decode cX12_farOf 35 = .ok (.goto (-30), 3) := by decide +kernel
theorem dX12_farOf_38 : decode cX12_farOf 38 = .ok (.iload_n 3, 1) := by decide +kernel
theorem dX12_farOf_39 : decode cX12_farOf 39 = .ok (.ireturn, 1) := by decide +kernel
theorem dX12_callsBy_0 : decode cX12_callsBy 0 = .ok (.aload_n 0, 1) := by decide +kernel
theorem dX12_callsBy_1 : decode cX12_callsBy 1 = .ok (.iload_n 1, 1) := by decide +kernel
theorem dX12_callsBy_2 : decode cX12_callsBy 2 = .ok (.invokevirtual 252, 3) := by decide +kernel
theorem dX12_callsBy_5 : decode cX12_callsBy 5 = .ok (.ifCond .ne 5, 3) := by decide +kernel
theorem dX12_callsBy_8 : decode cX12_callsBy 8 = .ok (.iload_n 1, 1) := by decide +kernel
theorem dX12_callsBy_9 : decode cX12_callsBy 9 = .ok (.ireturn, 1) := by decide +kernel
theorem dX12_callsBy_10 : decode cX12_callsBy 10 = .ok (.iconst (-1), 1) := by decide +kernel
theorem dX12_callsBy_11 : decode cX12_callsBy 11 = .ok (.istore_n 2, 1) := by decide +kernel
theorem dX12_callsBy_12 : decode cX12_callsBy 12 = .ok (.aload_n 0, 1) := by decide +kernel
theorem dX12_callsBy_13 : decode cX12_callsBy 13 = .ok (.getfield 13, 3) := by decide +kernel
theorem dX12_callsBy_16 : decode cX12_callsBy 16 = .ok (.bipush 8, 2) := by decide +kernel
theorem dX12_callsBy_18 : decode cX12_callsBy 18 = .ok (.iaload, 1) := by decide +kernel
theorem dX12_callsBy_19 : decode cX12_callsBy 19 = .ok (.iconst 1, 1) := by decide +kernel
theorem dX12_callsBy_20 : decode cX12_callsBy 20 = .ok (.iadd, 1) := by decide +kernel
theorem dX12_callsBy_21 : decode cX12_callsBy 21 = .ok (.istore_n 3, 1) := by decide +kernel
theorem dX12_callsBy_22 : decode cX12_callsBy 22 = .ok (.iconst 0, 1) := by decide +kernel
theorem dX12_callsBy_23 : decode cX12_callsBy 23 = .ok (.istore 4, 2) := by decide +kernel
theorem dX12_callsBy_25 : decode cX12_callsBy 25 = .ok (.iload 4, 2) := by decide +kernel
theorem dX12_callsBy_27 : decode cX12_callsBy 27 = .ok (.aload_n 0, 1) := by decide +kernel
theorem dX12_callsBy_28 : decode cX12_callsBy 28 = .ok (.invokevirtual 62, 3) := by decide +kernel
theorem dX12_callsBy_31 : decode cX12_callsBy 31 = .ok (.if_icmp .ge 52, 3) := by decide +kernel
theorem dX12_callsBy_34 : decode cX12_callsBy 34 = .ok (.aload_n 0, 1) := by decide +kernel
theorem dX12_callsBy_35 : decode cX12_callsBy 35 = .ok (.iload 4, 2) := by decide +kernel
theorem dX12_callsBy_37 : decode cX12_callsBy 37 = .ok (.invokevirtual 252, 3) := by decide +kernel
theorem dX12_callsBy_40 : decode cX12_callsBy 40 = .ok (.ifCond .eq 8, 3) := by decide +kernel
theorem dX12_callsBy_43 : decode cX12_callsBy 43 = .ok (.ldc 255, 2) := by decide +kernel
theorem dX12_callsBy_45 : decode cX12_callsBy 45 = .ok (.goto 10, 3) := by decide +kernel
theorem dX12_callsBy_48 : decode cX12_callsBy 48 = .ok (.aload_n 0, 1) := by decide +kernel
theorem dX12_callsBy_49 : decode cX12_callsBy 49 = .ok (.iload_n 1, 1) := by decide +kernel
theorem dX12_callsBy_50 : decode cX12_callsBy 50 = .ok (.iload 4, 2) := by decide +kernel
theorem dX12_callsBy_52 : decode cX12_callsBy 52 = .ok (.invokevirtual 256, 3) := by decide +kernel
theorem dX12_callsBy_55 : decode cX12_callsBy 55 = .ok (.istore 5, 2) := by decide +kernel
theorem dX12_callsBy_57 : decode cX12_callsBy 57 = .ok (.iload 5, 2) := by decide +kernel
theorem dX12_callsBy_59 : decode cX12_callsBy 59 = .ok (.iload_n 3, 1) := by decide +kernel
theorem dX12_callsBy_60 : decode cX12_callsBy 60 = .ok (.if_icmp .ge 8, 3) := by decide +kernel
theorem dX12_callsBy_63 : decode cX12_callsBy 63 = .ok (.iload 4, 2) := by decide +kernel
theorem dX12_callsBy_65 : decode cX12_callsBy 65 = .ok (.goto 4, 3) := by decide +kernel
theorem dX12_callsBy_68 : decode cX12_callsBy 68 = .ok (.iload_n 2, 1) := by decide +kernel
theorem dX12_callsBy_69 : decode cX12_callsBy 69 = .ok (.istore_n 2, 1) := by decide +kernel
theorem dX12_callsBy_70 : decode cX12_callsBy 70 = .ok (.iload_n 3, 1) := by decide +kernel
theorem dX12_callsBy_71 : decode cX12_callsBy 71 = .ok (.iload 5, 2) := by decide +kernel
theorem dX12_callsBy_73 : decode cX12_callsBy 73 = .ok (.invokestatic 259, 3) := by decide +kernel
theorem dX12_callsBy_76 : decode cX12_callsBy 76 = .ok (.istore_n 3, 1) := by decide +kernel
theorem dX12_callsBy_77 : decode cX12_callsBy 77 = .ok (.iinc 4 1, 3) := by decide +kernel
theorem dX12_callsBy_80 : decode cX12_callsBy 80 = .ok (.goto (-55), 3) := by decide +kernel
theorem dX12_callsBy_83 : decode cX12_callsBy 83 = .ok (.iload_n 2, 1) := by decide +kernel
theorem dX12_callsBy_84 : decode cX12_callsBy 84 = .ok (.ireturn, 1) := by decide +kernel
theorem dX12_isInWar_0 : decode cX12_isInWar 0 = .ok (.aload_n 0, 1) := by decide +kernel
theorem dX12_isInWar_1 : decode cX12_isInWar 1 = .ok (.iload_n 1, 1) := by decide +kernel
theorem dX12_isInWar_2 : decode cX12_isInWar 2 = .ok (.invokevirtual 252, 3) := by decide +kernel
theorem dX12_isInWar_5 : decode cX12_isInWar 5 = .ok (.ifCond .ne 33, 3) := by decide +kernel
theorem dX12_isInWar_8 : decode cX12_isInWar 8 = .ok (.aload_n 0, 1) := by decide +kernel
theorem dX12_isInWar_9 : decode cX12_isInWar 9 = .ok (.iload_n 1, 1) := by decide +kernel
theorem dX12_isInWar_10 : decode cX12_isInWar 10 = .ok (.iconst 5, 1) := by decide +kernel
theorem dX12_isInWar_11 : decode cX12_isInWar 11 = .ok (.invokevirtual 70, 3) := by decide +kernel
theorem dX12_isInWar_14 : decode cX12_isInWar 14 = .ok (.aload_n 0, 1) := by decide +kernel
theorem dX12_isInWar_15 : decode cX12_isInWar 15 = .ok (.getfield 13, 3) := by decide +kernel
theorem dX12_isInWar_18 : decode cX12_isInWar 18 = .ok (.bipush 9, 2) := by decide +kernel
theorem dX12_isInWar_20 : decode cX12_isInWar 20 = .ok (.iaload, 1) := by decide +kernel
theorem dX12_isInWar_21 : decode cX12_isInWar 21 = .ok (.aload_n 0, 1) := by decide +kernel
theorem dX12_isInWar_22 : decode cX12_isInWar 22 = .ok (.getfield 13, 3) := by decide +kernel
theorem dX12_isInWar_25 : decode cX12_isInWar 25 = .ok (.bipush 10, 2) := by decide +kernel
theorem dX12_isInWar_27 : decode cX12_isInWar 27 = .ok (.iaload, 1) := by decide +kernel
theorem dX12_isInWar_28 : decode cX12_isInWar 28 = .ok (.invokestatic 73, 3) := by decide +kernel
theorem dX12_isInWar_31 : decode cX12_isInWar 31 = .ok (.ifCond .eq 7, 3) := by decide +kernel
theorem dX12_isInWar_34 : decode cX12_isInWar 34 = .ok (.iconst 1, 1) := by decide +kernel
theorem dX12_isInWar_35 : decode cX12_isInWar 35 = .ok (.goto 4, 3) := by decide +kernel
theorem dX12_isInWar_38 : decode cX12_isInWar 38 = .ok (.iconst 0, 1) := by decide +kernel
theorem dX12_isInWar_39 : decode cX12_isInWar 39 = .ok (.ireturn, 1) := by decide +kernel
theorem dX12_factOf_0 : decode cX12_factOf 0 = .ok (.iload_n 1, 1) := by decide +kernel
theorem dX12_factOf_1 : decode cX12_factOf 1 = .ok (.tableswitch 207 0 8 #[51, 53, 76, 101, 133, 140, 148, 162, 183], 51) := by decide +kernel
theorem dX12_factOf_52 : decode cX12_factOf 52 = .ok (.iload_n 3, 1) := by decide +kernel
theorem dX12_factOf_53 : decode cX12_factOf 53 = .ok (.ireturn, 1) := by decide +kernel
theorem dX12_factOf_54 : decode cX12_factOf 54 = .ok (.iload 4, 2) := by decide +kernel
theorem dX12_factOf_56 : decode cX12_factOf 56 = .ok (.iconst (-1), 1) := by decide +kernel
theorem dX12_factOf_57 : decode cX12_factOf 57 = .ok (.if_icmp .ne 12, 3) := by decide +kernel
theorem dX12_factOf_60 : decode cX12_factOf 60 = .ok (.aload_n 0, 1) := by decide +kernel
theorem dX12_factOf_61 : decode cX12_factOf 61 = .ok (.getfield 13, 3) := by decide +kernel
theorem dX12_factOf_64 : decode cX12_factOf 64 = .ok (.iconst 3, 1) := by decide +kernel
theorem dX12_factOf_65 : decode cX12_factOf 65 = .ok (.iaload, 1) := by decide +kernel
theorem dX12_factOf_66 : decode cX12_factOf 66 = .ok (.goto 10, 3) := by decide +kernel
theorem dX12_factOf_69 : decode cX12_factOf 69 = .ok (.aload_n 0, 1) := by decide +kernel
theorem dX12_factOf_70 : decode cX12_factOf 70 = .ok (.iload 4, 2) := by decide +kernel
theorem dX12_factOf_72 : decode cX12_factOf 72 = .ok (.iconst 5, 1) := by decide +kernel
theorem dX12_factOf_73 : decode cX12_factOf 73 = .ok (.invokevirtual 70, 3) := by decide +kernel
theorem dX12_factOf_76 : decode cX12_factOf 76 = .ok (.ireturn, 1) := by decide +kernel
theorem dX12_factOf_77 : decode cX12_factOf 77 = .ok (.iload 4, 2) := by decide +kernel
theorem dX12_factOf_79 : decode cX12_factOf 79 = .ok (.iconst (-1), 1) := by decide +kernel
theorem dX12_factOf_80 : decode cX12_factOf 80 = .ok (.if_icmp .ne 13, 3) := by decide +kernel
theorem dX12_factOf_83 : decode cX12_factOf 83 = .ok (.aload_n 0, 1) := by decide +kernel
theorem dX12_factOf_84 : decode cX12_factOf 84 = .ok (.getfield 13, 3) := by decide +kernel
theorem dX12_factOf_87 : decode cX12_factOf 87 = .ok (.bipush 12, 2) := by decide +kernel
theorem dX12_factOf_89 : decode cX12_factOf 89 = .ok (.iaload, 1) := by decide +kernel
theorem dX12_factOf_90 : decode cX12_factOf 90 = .ok (.goto 11, 3) := by decide +kernel
theorem dX12_factOf_93 : decode cX12_factOf 93 = .ok (.aload_n 0, 1) := by decide +kernel
theorem dX12_factOf_94 : decode cX12_factOf 94 = .ok (.iload 4, 2) := by decide +kernel
theorem dX12_factOf_96 : decode cX12_factOf 96 = .ok (.bipush 6, 2) := by decide +kernel
theorem dX12_factOf_98 : decode cX12_factOf 98 = .ok (.invokevirtual 70, 3) := by decide +kernel
theorem dX12_factOf_101 : decode cX12_factOf 101 = .ok (.ireturn, 1) := by decide +kernel
theorem dX12_factOf_102 : decode cX12_factOf 102 = .ok (.iload 4, 2) := by decide +kernel
theorem dX12_factOf_104 : decode cX12_factOf 104 = .ok (.iconst (-1), 1) := by decide +kernel
theorem dX12_factOf_105 : decode cX12_factOf 105 = .ok (.if_icmp .eq 15, 3) := by decide +kernel
theorem dX12_factOf_108 : decode cX12_factOf 108 = .ok (.aload_n 0, 1) := by decide +kernel
theorem dX12_factOf_109 : decode cX12_factOf 109 = .ok (.iload 4, 2) := by decide +kernel
theorem dX12_factOf_111 : decode cX12_factOf 111 = .ok (.bipush 7, 2) := by decide +kernel
theorem dX12_factOf_113 : decode cX12_factOf 113 = .ok (.invokevirtual 70, 3) := by decide +kernel
theorem dX12_factOf_116 : decode cX12_factOf 116 = .ok (.iconst (-1), 1) := by decide +kernel
theorem dX12_factOf_117 : decode cX12_factOf 117 = .ok (.if_icmp .ne 8, 3) := by decide +kernel
theorem dX12_factOf_120 : decode cX12_factOf 120 = .ok (.bipush 9, 2) := by decide +kernel
theorem dX12_factOf_122 : decode cX12_factOf 122 = .ok (.goto 11, 3) := by decide +kernel
theorem dX12_factOf_125 : decode cX12_factOf 125 = .ok (.aload_n 0, 1) := by decide +kernel
theorem dX12_factOf_126 : decode cX12_factOf 126 = .ok (.iload 4, 2) := by decide +kernel
theorem dX12_factOf_128 : decode cX12_factOf 128 = .ok (.bipush 7, 2) := by decide +kernel
theorem dX12_factOf_130 : decode cX12_factOf 130 = .ok (.invokevirtual 70, 3) := by decide +kernel
theorem dX12_factOf_133 : decode cX12_factOf 133 = .ok (.ireturn, 1) := by decide +kernel
theorem dX12_factOf_134 : decode cX12_factOf 134 = .ok (.aload_n 0, 1) := by decide +kernel
theorem dX12_factOf_135 : decode cX12_factOf 135 = .ok (.getfield 13, 3) := by decide +kernel
theorem dX12_factOf_138 : decode cX12_factOf 138 = .ok (.iconst 5, 1) := by decide +kernel
theorem dX12_factOf_139 : decode cX12_factOf 139 = .ok (.iaload, 1) := by decide +kernel
theorem dX12_factOf_140 : decode cX12_factOf 140 = .ok (.ireturn, 1) := by decide +kernel
theorem dX12_factOf_141 : decode cX12_factOf 141 = .ok (.aload_n 0, 1) := by decide +kernel
theorem dX12_factOf_142 : decode cX12_factOf 142 = .ok (.getfield 13, 3) := by decide +kernel
theorem dX12_factOf_145 : decode cX12_factOf 145 = .ok (.bipush 6, 2) := by decide +kernel
theorem dX12_factOf_147 : decode cX12_factOf 147 = .ok (.iaload, 1) := by decide +kernel
theorem dX12_factOf_148 : decode cX12_factOf 148 = .ok (.ireturn, 1) := by decide +kernel
theorem dX12_factOf_149 : decode cX12_factOf 149 = .ok (.aload_n 0, 1) := by decide +kernel
theorem dX12_factOf_150 : decode cX12_factOf 150 = .ok (.iload_n 3, 1) := by decide +kernel
theorem dX12_factOf_151 : decode cX12_factOf 151 = .ok (.invokevirtual 252, 3) := by decide +kernel
theorem dX12_factOf_154 : decode cX12_factOf 154 = .ok (.ifCond .eq 7, 3) := by decide +kernel
theorem dX12_factOf_157 : decode cX12_factOf 157 = .ok (.iconst 1, 1) := by decide +kernel
theorem dX12_factOf_158 : decode cX12_factOf 158 = .ok (.goto 4, 3) := by decide +kernel
theorem dX12_factOf_161 : decode cX12_factOf 161 = .ok (.iconst 0, 1) := by decide +kernel
theorem dX12_factOf_162 : decode cX12_factOf 162 = .ok (.ireturn, 1) := by decide +kernel
theorem dX12_factOf_163 : decode cX12_factOf 163 = .ok (.iload 4, 2) := by decide +kernel
theorem dX12_factOf_165 : decode cX12_factOf 165 = .ok (.iconst (-1), 1) := by decide +kernel
theorem dX12_factOf_166 : decode cX12_factOf 166 = .ok (.if_icmp .eq 16, 3) := by decide +kernel
theorem dX12_factOf_169 : decode cX12_factOf 169 = .ok (.aload_n 0, 1) := by decide +kernel
theorem dX12_factOf_170 : decode cX12_factOf 170 = .ok (.iload 4, 2) := by decide +kernel
theorem dX12_factOf_172 : decode cX12_factOf 172 = .ok (.invokevirtual 262, 3) := by decide +kernel
theorem dX12_factOf_175 : decode cX12_factOf 175 = .ok (.ifCond .eq 7, 3) := by decide +kernel
theorem dX12_factOf_178 : decode cX12_factOf 178 = .ok (.iconst 1, 1) := by decide +kernel
theorem dX12_factOf_179 : decode cX12_factOf 179 = .ok (.goto 4, 3) := by decide +kernel
theorem dX12_factOf_182 : decode cX12_factOf 182 = .ok (.iconst 0, 1) := by decide +kernel
theorem dX12_factOf_183 : decode cX12_factOf 183 = .ok (.ireturn, 1) := by decide +kernel
theorem dX12_factOf_184 : decode cX12_factOf 184 = .ok (.iload 4, 2) := by decide +kernel
theorem dX12_factOf_186 : decode cX12_factOf 186 = .ok (.iconst (-1), 1) := by decide +kernel
theorem dX12_factOf_187 : decode cX12_factOf 187 = .ok (.if_icmp .eq 19, 3) := by decide +kernel
theorem dX12_factOf_190 : decode cX12_factOf 190 = .ok (.aload_n 0, 1) := by decide +kernel
theorem dX12_factOf_191 : decode cX12_factOf 191 = .ok (.iload 4, 2) := by decide +kernel
theorem dX12_factOf_193 : decode cX12_factOf 193 = .ok (.bipush 7, 2) := by decide +kernel
theorem dX12_factOf_195 : decode cX12_factOf 195 = .ok (.invokevirtual 70, 3) := by decide +kernel
theorem dX12_factOf_198 : decode cX12_factOf 198 = .ok (.iconst (-1), 1) := by decide +kernel
theorem dX12_factOf_199 : decode cX12_factOf 199 = .ok (.if_icmp .ne 7, 3) := by decide +kernel
theorem dX12_factOf_202 : decode cX12_factOf 202 = .ok (.iconst 1, 1) := by decide +kernel
theorem dX12_factOf_203 : decode cX12_factOf 203 = .ok (.goto 4, 3) := by decide +kernel
theorem dX12_factOf_206 : decode cX12_factOf 206 = .ok (.iconst 0, 1) := by decide +kernel
theorem dX12_factOf_207 : decode cX12_factOf 207 = .ok (.ireturn, 1) := by decide +kernel
theorem dX12_factOf_208 : decode cX12_factOf 208 = .ok (.iload_n 2, 1) := by decide +kernel
theorem dX12_factOf_209 : decode cX12_factOf 209 = .ok (.ireturn, 1) := by decide +kernel
theorem dX12_holdsLine_0 : decode cX12_holdsLine 0 = .ok (.iconst 0, 1) := by decide +kernel
theorem dX12_holdsLine_1 : decode cX12_holdsLine 1 = .ok (.istore 4, 2) := by decide +kernel
theorem dX12_holdsLine_3 : decode cX12_holdsLine 3 = .ok (.sipush 354, 3) := by decide +kernel
theorem dX12_holdsLine_6 : decode cX12_holdsLine 6 = .ok (.iconst 4, 1) := by decide +kernel
theorem dX12_holdsLine_7 : decode cX12_holdsLine 7 = .ok (.iload_n 1, 1) := by decide +kernel
theorem dX12_holdsLine_8 : decode cX12_holdsLine 8 = .ok (.imul, 1) := by decide +kernel
theorem dX12_holdsLine_9 : decode cX12_holdsLine 9 = .ok (.iadd, 1) := by decide +kernel
theorem dX12_holdsLine_10 : decode cX12_holdsLine 10 = .ok (.istore 5, 2) := by decide +kernel
theorem dX12_holdsLine_12 : decode cX12_holdsLine 12 = .ok (.aload_n 0, 1) := by decide +kernel
theorem dX12_holdsLine_13 : decode cX12_holdsLine 13 = .ok (.getfield 13, 3) := by decide +kernel
theorem dX12_holdsLine_16 : decode cX12_holdsLine 16 = .ok (.iload 5, 2) := by decide +kernel
theorem dX12_holdsLine_18 : decode cX12_holdsLine 18 = .ok (.iconst 2, 1) := by decide +kernel
theorem dX12_holdsLine_19 : decode cX12_holdsLine 19 = .ok (.iadd, 1) := by decide +kernel
theorem dX12_holdsLine_20 : decode cX12_holdsLine 20 = .ok (.iaload, 1) := by decide +kernel
theorem dX12_holdsLine_21 : decode cX12_holdsLine 21 = .ok (.istore 6, 2) := by decide +kernel
theorem dX12_holdsLine_23 : decode cX12_holdsLine 23 = .ok (.iload 6, 2) := by decide +kernel
theorem dX12_holdsLine_25 : decode cX12_holdsLine 25 = .ok (.aload_n 0, 1) := by decide +kernel
theorem dX12_holdsLine_26 : decode cX12_holdsLine 26 = .ok (.getfield 13, 3) := by decide +kernel
theorem dX12_holdsLine_29 : decode cX12_holdsLine 29 = .ok (.iload 5, 2) := by decide +kernel
theorem dX12_holdsLine_31 : decode cX12_holdsLine 31 = .ok (.iconst 3, 1) := by decide +kernel
theorem dX12_holdsLine_32 : decode cX12_holdsLine 32 = .ok (.iadd, 1) := by decide +kernel
theorem dX12_holdsLine_33 : decode cX12_holdsLine 33 = .ok (.iaload, 1) := by decide +kernel
theorem dX12_holdsLine_34 : decode cX12_holdsLine 34 = .ok (.if_icmp .ge 237, 3) := by decide +kernel
theorem dX12_holdsLine_37 : decode cX12_holdsLine 37 = .ok (.aload_n 0, 1) := by decide +kernel
theorem dX12_holdsLine_38 : decode cX12_holdsLine 38 = .ok (.getfield 13, 3) := by decide +kernel
theorem dX12_holdsLine_41 : decode cX12_holdsLine 41 = .ok (.sipush 402, 3) := by decide +kernel
theorem dX12_holdsLine_44 : decode cX12_holdsLine 44 = .ok (.iconst 2, 1) := by decide +kernel
theorem dX12_holdsLine_45 : decode cX12_holdsLine 45 = .ok (.iload 6, 2) := by decide +kernel
theorem dX12_holdsLine_47 : decode cX12_holdsLine 47 = .ok (.imul, 1) := by decide +kernel
theorem dX12_holdsLine_48 : decode cX12_holdsLine 48 = .ok (.iadd, 1) := by decide +kernel
theorem dX12_holdsLine_49 : decode cX12_holdsLine 49 = .ok (.iaload, 1) := by decide +kernel
theorem dX12_holdsLine_50 : decode cX12_holdsLine 50 = .ok (.istore 7, 2) := by decide +kernel
theorem dX12_holdsLine_52 : decode cX12_holdsLine 52 = .ok (.iload 7, 2) := by decide +kernel
theorem dX12_holdsLine_54 : decode cX12_holdsLine 54 = .ok (.bipush 9, 2) := by decide +kernel
theorem dX12_holdsLine_56 : decode cX12_holdsLine 56 = .ok (.if_icmp .gt 39, 3) := by decide +kernel
theorem dX12_holdsLine_59 : decode cX12_holdsLine 59 = .ok (.aload_n 0, 1) := by decide +kernel
theorem dX12_holdsLine_60 : decode cX12_holdsLine 60 = .ok (.getfield 39, 3) := by decide +kernel
theorem dX12_holdsLine_63 : decode cX12_holdsLine 63 = .ok (.iload 4, 2) := by decide +kernel
theorem dX12_holdsLine_65 : decode cX12_holdsLine 65 = .ok (.aload_n 0, 1) := by decide +kernel
theorem dX12_holdsLine_66 : decode cX12_holdsLine 66 = .ok (.iload 7, 2) := by decide +kernel
theorem dX12_holdsLine_68 : decode cX12_holdsLine 68 = .ok (.aload_n 0, 1) := by decide +kernel
theorem dX12_holdsLine_69 : decode cX12_holdsLine 69 = .ok (.getfield 13, 3) := by decide +kernel
theorem dX12_holdsLine_72 : decode cX12_holdsLine 72 = .ok (.sipush 402, 3) := by decide +kernel
theorem dX12_holdsLine_75 : decode cX12_holdsLine 75 = .ok (.iconst 2, 1) := by decide +kernel
theorem dX12_holdsLine_76 : decode cX12_holdsLine 76 = .ok (.iload 6, 2) := by decide +kernel
theorem dX12_holdsLine_78 : decode cX12_holdsLine 78 = .ok (.imul, 1) := by decide +kernel
theorem dX12_holdsLine_79 : decode cX12_holdsLine 79 = .ok (.iadd, 1) := by decide +kernel
theorem dX12_holdsLine_80 : decode cX12_holdsLine 80 = .ok (.iconst 1, 1) := by decide +kernel
theorem dX12_holdsLine_81 : decode cX12_holdsLine 81 = .ok (.iadd, 1) := by decide +kernel
theorem dX12_holdsLine_82 : decode cX12_holdsLine 82 = .ok (.iaload, 1) := by decide +kernel
theorem dX12_holdsLine_83 : decode cX12_holdsLine 83 = .ok (.iload_n 2, 1) := by decide +kernel
theorem dX12_holdsLine_84 : decode cX12_holdsLine 84 = .ok (.iload_n 3, 1) := by decide +kernel
theorem dX12_holdsLine_85 : decode cX12_holdsLine 85 = .ok (.invokevirtual 265, 3) := by decide +kernel
theorem dX12_holdsLine_88 : decode cX12_holdsLine 88 = .ok (.iastore, 1) := by decide +kernel
theorem dX12_holdsLine_89 : decode cX12_holdsLine 89 = .ok (.iinc 4 1, 3) := by decide +kernel
theorem dX12_holdsLine_92 : decode cX12_holdsLine 92 = .ok (.goto 173, 3) := by decide +kernel
theorem dX12_holdsLine_95 : decode cX12_holdsLine 95 = .ok (.iload 7, 2) := by decide +kernel
theorem dX12_holdsLine_97 : decode cX12_holdsLine 97 = .ok (.bipush 13, 2) := by decide +kernel
theorem dX12_holdsLine_99 : decode cX12_holdsLine 99 = .ok (.if_icmp .ne 26, 3) := by decide +kernel
theorem dX12_holdsLine_102 : decode cX12_holdsLine 102 = .ok (.aload_n 0, 1) := by decide +kernel
theorem dX12_holdsLine_103 : decode cX12_holdsLine 103 = .ok (.getfield 39, 3) := by decide +kernel
theorem dX12_holdsLine_106 : decode cX12_holdsLine 106 = .ok (.iload 4, 2) := by decide +kernel
theorem dX12_holdsLine_108 : decode cX12_holdsLine 108 = .ok (.iconst 1, 1) := by decide +kernel
theorem dX12_holdsLine_109 : decode cX12_holdsLine 109 = .ok (.isub, 1) := by decide +kernel
theorem dX12_holdsLine_110 : decode cX12_holdsLine 110 = .ok (.iconst 1, 1) := by decide +kernel
theorem dX12_holdsLine_111 : decode cX12_holdsLine 111 = .ok (.aload_n 0, 1) := by decide +kernel
theorem dX12_holdsLine_112 : decode cX12_holdsLine 112 = .ok (.getfield 39, 3) := by decide +kernel
theorem dX12_holdsLine_115 : decode cX12_holdsLine 115 = .ok (.iload 4, 2) := by decide +kernel
theorem dX12_holdsLine_117 : decode cX12_holdsLine 117 = .ok (.iconst 1, 1) := by decide +kernel
theorem dX12_holdsLine_118 : decode cX12_holdsLine 118 = .ok (.isub, 1) := by decide +kernel
theorem dX12_holdsLine_119 : decode cX12_holdsLine 119 = .ok (.iaload, 1) := by decide +kernel
theorem dX12_holdsLine_120 : decode cX12_holdsLine 120 = .ok (.isub, 1) := by decide +kernel
theorem dX12_holdsLine_121 : decode cX12_holdsLine 121 = .ok (.iastore, 1) := by decide +kernel
theorem dX12_holdsLine_122 : decode cX12_holdsLine 122 = .ok (.goto 143, 3) := by decide +kernel
theorem dX12_holdsLine_125 : decode cX12_holdsLine 125 = .ok (.iinc 4 (-1), 3) := by decide +kernel
theorem dX12_holdsLine_128 : decode cX12_holdsLine 128 = .ok (.aload_n 0, 1) := by decide +kernel
theorem dX12_holdsLine_129 : decode cX12_holdsLine 129 = .ok (.getfield 39, 3) := by decide +kernel
theorem dX12_holdsLine_132 : decode cX12_holdsLine 132 = .ok (.iload 4, 2) := by decide +kernel
theorem dX12_holdsLine_134 : decode cX12_holdsLine 134 = .ok (.iconst 1, 1) := by decide +kernel
theorem dX12_holdsLine_135 : decode cX12_holdsLine 135 = .ok (.isub, 1) := by decide +kernel
theorem dX12_holdsLine_136 : decode cX12_holdsLine 136 = .ok (.iaload, 1) := by decide +kernel
theorem dX12_holdsLine_137 : decode cX12_holdsLine 137 = .ok (.istore 8, 2) := by decide +kernel
theorem dX12_holdsLine_139 : decode cX12_holdsLine 139 = .ok (.aload_n 0, 1) := by decide +kernel
theorem dX12_holdsLine_140 : decode cX12_holdsLine 140 = .ok (.getfield 39, 3) := by decide +kernel
theorem dX12_holdsLine_143 : decode cX12_holdsLine 143 = .ok (.iload 4, 2) := by decide +kernel
theorem dX12_holdsLine_145 : decode cX12_holdsLine 145 = .ok (.iaload, 1) := by decide +kernel
theorem dX12_holdsLine_146 : decode cX12_holdsLine 146 = .ok (.istore 9, 2) := by decide +kernel
theorem dX12_holdsLine_148 : decode cX12_holdsLine 148 = .ok (.iload 7, 2) := by decide +kernel
theorem dX12_holdsLine_150 : decode cX12_holdsLine 150 = .ok (.bipush 11, 2) := by decide +kernel
theorem dX12_holdsLine_152 : decode cX12_holdsLine 152 = .ok (.if_icmp .ne 18, 3) := by decide +kernel
theorem dX12_holdsLine_155 : decode cX12_holdsLine 155 = .ok (.iload 8, 2) := by decide +kernel
theorem dX12_holdsLine_157 : decode cX12_holdsLine 157 = .ok (.iload 9, 2) := by decide +kernel
theorem dX12_holdsLine_159 : decode cX12_holdsLine 159 = .ok (.if_icmp .ge 7, 3) := by decide +kernel
theorem dX12_holdsLine_162 : decode cX12_holdsLine 162 = .ok (.iconst 1, 1) := by decide +kernel
theorem dX12_holdsLine_163 : decode cX12_holdsLine 163 = .ok (.goto 66, 3) := by decide +kernel
theorem dX12_holdsLine_166 : decode cX12_holdsLine 166 = .ok (.iconst 0, 1) := by decide +kernel
theorem dX12_holdsLine_167 : decode cX12_holdsLine 167 = .ok (.goto 62, 3) := by decide +kernel
theorem dX12_holdsLine_170 : decode cX12_holdsLine 170 = .ok (.iload 7, 2) := by decide +kernel
theorem dX12_holdsLine_172 : decode cX12_holdsLine 172 = .ok (.bipush 12, 2) := by decide +kernel
theorem dX12_holdsLine_174 : decode cX12_holdsLine 174 = .ok (.if_icmp .ne 18, 3) := by decide +kernel
theorem dX12_holdsLine_177 : decode cX12_holdsLine 177 = .ok (.iload 8, 2) := by decide +kernel
theorem dX12_holdsLine_179 : decode cX12_holdsLine 179 = .ok (.iload 9, 2) := by decide +kernel
theorem dX12_holdsLine_181 : decode cX12_holdsLine 181 = .ok (.if_icmp .le 7, 3) := by decide +kernel
theorem dX12_holdsLine_184 : decode cX12_holdsLine 184 = .ok (.iconst 1, 1) := by decide +kernel
theorem dX12_holdsLine_185 : decode cX12_holdsLine 185 = .ok (.goto 44, 3) := by decide +kernel
theorem dX12_holdsLine_188 : decode cX12_holdsLine 188 = .ok (.iconst 0, 1) := by decide +kernel
theorem dX12_holdsLine_189 : decode cX12_holdsLine 189 = .ok (.goto 40, 3) := by decide +kernel
theorem dX12_holdsLine_192 : decode cX12_holdsLine 192 = .ok (.iload 7, 2) := by decide +kernel
theorem dX12_holdsLine_194 : decode cX12_holdsLine 194 = .ok (.bipush 14, 2) := by decide +kernel
theorem dX12_holdsLine_196 : decode cX12_holdsLine 196 = .ok (.if_icmp .ne 20, 3) := by decide +kernel
theorem dX12_holdsLine_199 : decode cX12_holdsLine 199 = .ok (.iload 8, 2) := by decide +kernel
theorem dX12_holdsLine_201 : decode cX12_holdsLine 201 = .ok (.iload 9, 2) := by decide +kernel
theorem dX12_holdsLine_203 : decode cX12_holdsLine 203 = .ok (.iadd, 1) := by decide +kernel
theorem dX12_holdsLine_204 : decode cX12_holdsLine 204 = .ok (.iconst 2, 1) := by decide +kernel
theorem dX12_holdsLine_205 : decode cX12_holdsLine 205 = .ok (.if_icmp .ne 7, 3) := by decide +kernel
theorem dX12_holdsLine_208 : decode cX12_holdsLine 208 = .ok (.iconst 1, 1) := by decide +kernel
theorem dX12_holdsLine_209 : decode cX12_holdsLine 209 = .ok (.goto 20, 3) := by decide +kernel
theorem dX12_holdsLine_212 : decode cX12_holdsLine 212 = .ok (.iconst 0, 1) := by decide +kernel
theorem dX12_holdsLine_213 : decode cX12_holdsLine 213 = .ok (.goto 16, 3) := by decide +kernel
theorem dX12_holdsLine_216 : decode cX12_holdsLine 216 = .ok (.iload 8, 2) := by decide +kernel
theorem dX12_holdsLine_218 : decode cX12_holdsLine 218 = .ok (.iload 9, 2) := by decide +kernel
theorem dX12_holdsLine_220 : decode cX12_holdsLine 220 = .ok (.iadd, 1) := by decide +kernel
theorem dX12_holdsLine_221 : decode cX12_holdsLine 221 = .ok (.ifCond .le 7, 3) := by decide +kernel
theorem dX12_holdsLine_224 : decode cX12_holdsLine 224 = .ok (.iconst 1, 1) := by decide +kernel
theorem dX12_holdsLine_225 : decode cX12_holdsLine 225 = .ok (.goto 4, 3) := by decide +kernel
theorem dX12_holdsLine_228 : decode cX12_holdsLine 228 = .ok (.iconst 0, 1) := by decide +kernel
theorem dX12_holdsLine_229 : decode cX12_holdsLine 229 = .ok (.istore 10, 2) := by decide +kernel
theorem dX12_holdsLine_231 : decode cX12_holdsLine 231 = .ok (.aload_n 0, 1) := by decide +kernel
theorem dX12_holdsLine_232 : decode cX12_holdsLine 232 = .ok (.getfield 39, 3) := by decide +kernel
theorem dX12_holdsLine_235 : decode cX12_holdsLine 235 = .ok (.iload 4, 2) := by decide +kernel
theorem dX12_holdsLine_237 : decode cX12_holdsLine 237 = .ok (.iconst 1, 1) := by decide +kernel
theorem dX12_holdsLine_238 : decode cX12_holdsLine 238 = .ok (.isub, 1) := by decide +kernel
theorem dX12_holdsLine_239 : decode cX12_holdsLine 239 = .ok (.iload 7, 2) := by decide +kernel
theorem dX12_holdsLine_241 : decode cX12_holdsLine 241 = .ok (.bipush 10, 2) := by decide +kernel
theorem dX12_holdsLine_243 : decode cX12_holdsLine 243 = .ok (.if_icmp .ne 11, 3) := by decide +kernel
theorem dX12_holdsLine_246 : decode cX12_holdsLine 246 = .ok (.iload 8, 2) := by decide +kernel
theorem dX12_holdsLine_248 : decode cX12_holdsLine 248 = .ok (.iload 9, 2) := by decide +kernel
theorem dX12_holdsLine_250 : decode cX12_holdsLine 250 = .ok (.iadd, 1) := by decide +kernel
theorem dX12_holdsLine_251 : decode cX12_holdsLine 251 = .ok (.goto 13, 3) := by decide +kernel
theorem dX12_holdsLine_254 : decode cX12_holdsLine 254 = .ok (.iload 10, 2) := by decide +kernel
theorem dX12_holdsLine_256 : decode cX12_holdsLine 256 = .ok (.ifCond .eq 7, 3) := by decide +kernel
theorem dX12_holdsLine_259 : decode cX12_holdsLine 259 = .ok (.iconst 1, 1) := by decide +kernel
theorem dX12_holdsLine_260 : decode cX12_holdsLine 260 = .ok (.goto 4, 3) := by decide +kernel
theorem dX12_holdsLine_263 : decode cX12_holdsLine 263 = .ok (.iconst 0, 1) := by decide +kernel
theorem dX12_holdsLine_264 : decode cX12_holdsLine 264 = .ok (.iastore, 1) := by decide +kernel
theorem dX12_holdsLine_265 : decode cX12_holdsLine 265 = .ok (.iinc 6 1, 3) := by decide +kernel
theorem dX12_holdsLine_268 : decode cX12_holdsLine 268 = .ok (.goto (-245), 3) := by decide +kernel
theorem dX12_holdsLine_271 : decode cX12_holdsLine 271 = .ok (.iload 4, 2) := by decide +kernel
theorem dX12_holdsLine_273 : decode cX12_holdsLine 273 = .ok (.ifCond .eq 13, 3) := by decide +kernel
theorem dX12_holdsLine_276 : decode cX12_holdsLine 276 = .ok (.aload_n 0, 1) := by decide +kernel
theorem dX12_holdsLine_277 : decode cX12_holdsLine 277 = .ok (.getfield 39, 3) := by decide +kernel
theorem dX12_holdsLine_280 : decode cX12_holdsLine 280 = .ok (.iconst 0, 1) := by decide +kernel
theorem dX12_holdsLine_281 : decode cX12_holdsLine 281 = .ok (.iaload, 1) := by decide +kernel
theorem dX12_holdsLine_282 : decode cX12_holdsLine 282 = .ok (.iconst 1, 1) := by decide +kernel
theorem dX12_holdsLine_283 : decode cX12_holdsLine 283 = .ok (.if_icmp .ne 7, 3) := by decide +kernel
theorem dX12_holdsLine_286 : decode cX12_holdsLine 286 = .ok (.iconst 1, 1) := by decide +kernel
theorem dX12_holdsLine_287 : decode cX12_holdsLine 287 = .ok (.goto 4, 3) := by decide +kernel
theorem dX12_holdsLine_290 : decode cX12_holdsLine 290 = .ok (.iconst 0, 1) := by decide +kernel
theorem dX12_holdsLine_291 : decode cX12_holdsLine 291 = .ok (.ireturn, 1) := by decide +kernel
theorem dX12_sumOf_0 : decode cX12_sumOf 0 = .ok (.iconst 0, 1) := by decide +kernel
theorem dX12_sumOf_1 : decode cX12_sumOf 1 = .ok (.istore_n 3, 1) := by decide +kernel
theorem dX12_sumOf_2 : decode cX12_sumOf 2 = .ok (.aload_n 0, 1) := by decide +kernel
theorem dX12_sumOf_3 : decode cX12_sumOf 3 = .ok (.iload_n 2, 1) := by decide +kernel
theorem dX12_sumOf_4 : decode cX12_sumOf 4 = .ok (.invokevirtual 269, 3) := by decide +kernel
theorem dX12_sumOf_7 : decode cX12_sumOf 7 = .ok (.istore 4, 2) := by decide +kernel
theorem dX12_sumOf_9 : decode cX12_sumOf 9 = .ok (.iconst 0, 1) := by decide +kernel
theorem dX12_sumOf_10 : decode cX12_sumOf 10 = .ok (.istore 5, 2) := by decide +kernel
theorem dX12_sumOf_12 : decode cX12_sumOf 12 = .ok (.aload_n 0, 1) := by decide +kernel
theorem dX12_sumOf_13 : decode cX12_sumOf 13 = .ok (.getfield 13, 3) := by decide +kernel
theorem dX12_sumOf_16 : decode cX12_sumOf 16 = .ok (.iconst 2, 1) := by decide +kernel
theorem dX12_sumOf_17 : decode cX12_sumOf 17 = .ok (.iaload, 1) := by decide +kernel
theorem dX12_sumOf_18 : decode cX12_sumOf 18 = .ok (.iconst 1, 1) := by decide +kernel
theorem dX12_sumOf_19 : decode cX12_sumOf 19 = .ok (.if_icmp .ne 69, 3) := by decide +kernel
theorem dX12_sumOf_22 : decode cX12_sumOf 22 = .ok (.iload 5, 2) := by decide +kernel
theorem dX12_sumOf_24 : decode cX12_sumOf 24 = .ok (.aload_n 0, 1) := by decide +kernel
theorem dX12_sumOf_25 : decode cX12_sumOf 25 = .ok (.getfield 13, 3) := by decide +kernel
theorem dX12_sumOf_28 : decode cX12_sumOf 28 = .ok (.sipush 353, 3) := by decide +kernel
theorem dX12_sumOf_31 : decode cX12_sumOf 31 = .ok (.iaload, 1) := by decide +kernel
theorem dX12_sumOf_32 : decode cX12_sumOf 32 = .ok (.if_icmp .ge 56, 3) := by decide +kernel
theorem dX12_sumOf_35 : decode cX12_sumOf 35 = .ok (.aload_n 0, 1) := by decide +kernel
theorem dX12_sumOf_36 : decode cX12_sumOf 36 = .ok (.getfield 13, 3) := by decide +kernel
theorem dX12_sumOf_39 : decode cX12_sumOf 39 = .ok (.sipush 354, 3) := by decide +kernel
theorem dX12_sumOf_42 : decode cX12_sumOf 42 = .ok (.iconst 4, 1) := by decide +kernel
theorem dX12_sumOf_43 : decode cX12_sumOf 43 = .ok (.iload 5, 2) := by decide +kernel
theorem dX12_sumOf_45 : decode cX12_sumOf 45 = .ok (.imul, 1) := by decide +kernel
theorem dX12_sumOf_46 : decode cX12_sumOf 46 = .ok (.iadd, 1) := by decide +kernel
theorem dX12_sumOf_47 : decode cX12_sumOf 47 = .ok (.iaload, 1) := by decide +kernel
theorem dX12_sumOf_48 : decode cX12_sumOf 48 = .ok (.iload_n 1, 1) := by decide +kernel
theorem dX12_sumOf_49 : decode cX12_sumOf 49 = .ok (.if_icmp .ne 33, 3) := by decide +kernel
theorem dX12_sumOf_52 : decode cX12_sumOf 52 = .ok (.aload_n 0, 1) := by decide +kernel
theorem dX12_sumOf_53 : decode cX12_sumOf 53 = .ok (.iload 5, 2) := by decide +kernel
theorem dX12_sumOf_55 : decode cX12_sumOf 55 = .ok (.iload_n 2, 1) := by decide +kernel
theorem dX12_sumOf_56 : decode cX12_sumOf 56 = .ok (.iload 4, 2) := by decide +kernel
theorem dX12_sumOf_58 : decode cX12_sumOf 58 = .ok (.invokevirtual 272, 3) := by decide +kernel
theorem dX12_sumOf_61 : decode cX12_sumOf 61 = .ok (.ifCond .eq 21, 3) := by decide +kernel
theorem dX12_sumOf_64 : decode cX12_sumOf 64 = .ok (.iload_n 3, 1) := by decide +kernel
theorem dX12_sumOf_65 : decode cX12_sumOf 65 = .ok (.aload_n 0, 1) := by decide +kernel
theorem dX12_sumOf_66 : decode cX12_sumOf 66 = .ok (.getfield 13, 3) := by decide +kernel
theorem dX12_sumOf_69 : decode cX12_sumOf 69 = .ok (.sipush 354, 3) := by decide +kernel
theorem dX12_sumOf_72 : decode cX12_sumOf 72 = .ok (.iconst 4, 1) := by decide +kernel
theorem dX12_sumOf_73 : decode cX12_sumOf 73 = .ok (.iload 5, 2) := by decide +kernel
theorem dX12_sumOf_75 : decode cX12_sumOf 75 = .ok (.imul, 1) := by decide +kernel
theorem dX12_sumOf_76 : decode cX12_sumOf 76 = .ok (.iadd, 1) := by decide +kernel
theorem dX12_sumOf_77 : decode cX12_sumOf 77 = .ok (.iconst 1, 1) := by decide +kernel
theorem dX12_sumOf_78 : decode cX12_sumOf 78 = .ok (.iadd, 1) := by decide +kernel
theorem dX12_sumOf_79 : decode cX12_sumOf 79 = .ok (.iaload, 1) := by decide +kernel
theorem dX12_sumOf_80 : decode cX12_sumOf 80 = .ok (.iadd, 1) := by decide +kernel
theorem dX12_sumOf_81 : decode cX12_sumOf 81 = .ok (.istore_n 3, 1) := by decide +kernel
theorem dX12_sumOf_82 : decode cX12_sumOf 82 = .ok (.iinc 5 1, 3) := by decide +kernel
theorem dX12_sumOf_85 : decode cX12_sumOf 85 = .ok (.goto (-73), 3) := by decide +kernel
theorem dX12_sumOf_88 : decode cX12_sumOf 88 = .ok (.iload_n 3, 1) := by decide +kernel
theorem dX12_sumOf_89 : decode cX12_sumOf 89 = .ok (.ireturn, 1) := by decide +kernel
theorem dX12_turnsBy_0 : decode cX12_turnsBy 0 = .ok (.aload_n 0, 1) := by decide +kernel
theorem dX12_turnsBy_1 : decode cX12_turnsBy 1 = .ok (.iconst 0, 1) := by decide +kernel
theorem dX12_turnsBy_2 : decode cX12_turnsBy 2 = .ok (.iload_n 1, 1) := by decide +kernel
theorem dX12_turnsBy_3 : decode cX12_turnsBy 3 = .ok (.invokevirtual 275, 3) := by decide +kernel
theorem dX12_turnsBy_6 : decode cX12_turnsBy 6 = .ok (.aload_n 0, 1) := by decide +kernel
theorem dX12_turnsBy_7 : decode cX12_turnsBy 7 = .ok (.iconst 1, 1) := by decide +kernel
theorem dX12_turnsBy_8 : decode cX12_turnsBy 8 = .ok (.iload_n 1, 1) := by decide +kernel
theorem dX12_turnsBy_9 : decode cX12_turnsBy 9 = .ok (.invokevirtual 275, 3) := by decide +kernel
theorem dX12_turnsBy_12 : decode cX12_turnsBy 12 = .ok (.isub, 1) := by decide +kernel
theorem dX12_turnsBy_13 : decode cX12_turnsBy 13 = .ok (.ireturn, 1) := by decide +kernel
theorem dX12_paysBy_0 : decode cX12_paysBy 0 = .ok (.aload_n 0, 1) := by decide +kernel
theorem dX12_paysBy_1 : decode cX12_paysBy 1 = .ok (.getfield 13, 3) := by decide +kernel
theorem dX12_paysBy_4 : decode cX12_paysBy 4 = .ok (.bipush 13, 2) := by decide +kernel
theorem dX12_paysBy_6 : decode cX12_paysBy 6 = .ok (.iaload, 1) := by decide +kernel
theorem dX12_paysBy_7 : decode cX12_paysBy 7 = .ok (.aload_n 0, 1) := by decide +kernel
theorem dX12_paysBy_8 : decode cX12_paysBy 8 = .ok (.iconst 2, 1) := by decide +kernel
theorem dX12_paysBy_9 : decode cX12_paysBy 9 = .ok (.iload_n 1, 1) := by decide +kernel
theorem dX12_paysBy_10 : decode cX12_paysBy 10 = .ok (.invokevirtual 275, 3) := by decide +kernel
theorem dX12_paysBy_13 : decode cX12_paysBy 13 = .ok (.iadd, 1) := by decide +kernel
theorem dX12_paysBy_14 : decode cX12_paysBy 14 = .ok (.ireturn, 1) := by decide +kernel
theorem dX12_dish_0 : decode cX12_dish 0 = .ok (.aload_n 0, 1) := by decide +kernel
theorem dX12_dish_1 : decode cX12_dish 1 = .ok (.iconst 0, 1) := by decide +kernel
theorem dX12_dish_2 : decode cX12_dish 2 = .ok (.putfield 3, 3) := by decide +kernel
theorem dX12_dish_5 : decode cX12_dish 5 = .ok (.aload_n 0, 1) := by decide +kernel
theorem dX12_dish_6 : decode cX12_dish 6 = .ok (.aload_n 0, 1) := by decide +kernel
theorem dX12_dish_7 : decode cX12_dish 7 = .ok (.iload_n 1, 1) := by decide +kernel
theorem dX12_dish_8 : decode cX12_dish 8 = .ok (.invokevirtual 278, 3) := by decide +kernel
theorem dX12_dish_11 : decode cX12_dish 11 = .ok (.iconst 1, 1) := by decide +kernel
theorem dX12_dish_12 : decode cX12_dish 12 = .ok (.invokevirtual 243, 3) := by decide +kernel
theorem dX12_dish_15 : decode cX12_dish 15 = .ok (.ifCond .ne 26, 3) := by decide +kernel
theorem dX12_dish_18 : decode cX12_dish 18 = .ok (.aload_n 0, 1) := by decide +kernel
theorem dX12_dish_19 : decode cX12_dish 19 = .ok (.iload_n 2, 1) := by decide +kernel
theorem dX12_dish_20 : decode cX12_dish 20 = .ok (.iconst 0, 1) := by decide +kernel
theorem dX12_dish_21 : decode cX12_dish 21 = .ok (.bipush 10, 2) := by decide +kernel
theorem dX12_dish_23 : decode cX12_dish 23 = .ok (.invokestatic 73, 3) := by decide +kernel
theorem dX12_dish_26 : decode cX12_dish 26 = .ok (.ifCond .ne 7, 3) := by decide +kernel
theorem dX12_dish_29 : decode cX12_dish 29 = .ok (.iconst 1, 1) := by decide +kernel
theorem dX12_dish_30 : decode cX12_dish 30 = .ok (.goto 4, 3) := by decide +kernel
theorem dX12_dish_33 : decode cX12_dish 33 = .ok (.iconst 0, 1) := by decide +kernel
theorem dX12_dish_34 : decode cX12_dish 34 = .ok (.iconst 2, 1) := by decide +kernel
theorem dX12_dish_35 : decode cX12_dish 35 = .ok (.invokevirtual 243, 3) := by decide +kernel
theorem dX12_dish_38 : decode cX12_dish 38 = .ok (.ifCond .eq 5, 3) := by decide +kernel
theorem dX12_dish_41 : decode cX12_dish 41 = .ok (.iconst 0, 1) := by decide +kernel
theorem dX12_dish_42 : decode cX12_dish 42 = .ok (.ireturn, 1) := by decide +kernel
theorem dX12_dish_43 : decode cX12_dish 43 = .ok (.iload_n 2, 1) := by decide +kernel
theorem dX12_dish_44 : decode cX12_dish 44 = .ok (.bipush 8, 2) := by decide +kernel
theorem dX12_dish_46 : decode cX12_dish 46 = .ok (.if_icmp .ne 11, 3) := by decide +kernel
theorem dX12_dish_49 : decode cX12_dish 49 = .ok (.aload_n 0, 1) := by decide +kernel
theorem dX12_dish_50 : decode cX12_dish 50 = .ok (.iload_n 1, 1) := by decide +kernel
theorem dX12_dish_51 : decode cX12_dish 51 = .ok (.invokevirtual 269, 3) := by decide +kernel
theorem dX12_dish_54 : decode cX12_dish 54 = .ok (.goto 37, 3) := by decide +kernel
theorem dX12_dish_57 : decode cX12_dish 57 = .ok (.iload_n 2, 1) := by decide +kernel
theorem dX12_dish_58 : decode cX12_dish 58 = .ok (.bipush 9, 2) := by decide +kernel
theorem dX12_dish_60 : decode cX12_dish 60 = .ok (.if_icmp .ne 11, 3) := by decide +kernel
theorem dX12_dish_63 : decode cX12_dish 63 = .ok (.aload_n 0, 1) := by decide +kernel
theorem dX12_dish_64 : decode cX12_dish 64 = .ok (.iload_n 1, 1) := by decide +kernel
theorem dX12_dish_65 : decode cX12_dish 65 = .ok (.invokevirtual 281, 3) := by decide +kernel
theorem dX12_dish_68 : decode cX12_dish 68 = .ok (.goto 23, 3) := by decide +kernel
theorem dX12_dish_71 : decode cX12_dish 71 = .ok (.iload_n 2, 1) := by decide +kernel
theorem dX12_dish_72 : decode cX12_dish 72 = .ok (.bipush 10, 2) := by decide +kernel
theorem dX12_dish_74 : decode cX12_dish 74 = .ok (.if_icmp .ne 11, 3) := by decide +kernel
theorem dX12_dish_77 : decode cX12_dish 77 = .ok (.aload_n 0, 1) := by decide +kernel
theorem dX12_dish_78 : decode cX12_dish 78 = .ok (.iload_n 1, 1) := by decide +kernel
theorem dX12_dish_79 : decode cX12_dish 79 = .ok (.invokevirtual 284, 3) := by decide +kernel
theorem dX12_dish_82 : decode cX12_dish 82 = .ok (.goto 9, 3) := by decide +kernel
theorem dX12_dish_85 : decode cX12_dish 85 = .ok (.aload_n 0, 1) := by decide +kernel
theorem dX12_dish_86 : decode cX12_dish 86 = .ok (.iload_n 1, 1) := by decide +kernel
theorem dX12_dish_87 : decode cX12_dish 87 = .ok (.iload_n 2, 1) := by decide +kernel
theorem dX12_dish_88 : decode cX12_dish 88 = .ok (.invokevirtual 70, 3) := by decide +kernel
theorem dX12_dish_91 : decode cX12_dish 91 = .ok (.ireturn, 1) := by decide +kernel
theorem dX12_far_0 : decode cX12_far 0 = .ok (.aload_n 0, 1) := by decide +kernel
theorem dX12_far_1 : decode cX12_far 1 = .ok (.iconst 0, 1) := by decide +kernel
theorem dX12_far_2 : decode cX12_far 2 = .ok (.putfield 3, 3) := by decide +kernel
theorem dX12_far_5 : decode cX12_far 5 = .ok (.aload_n 0, 1) := by decide +kernel
theorem dX12_far_6 : decode cX12_far 6 = .ok (.aload_n 0, 1) := by decide +kernel
theorem dX12_far_7 : decode cX12_far 7 = .ok (.iload_n 1, 1) := by decide +kernel
theorem dX12_far_8 : decode cX12_far 8 = .ok (.invokevirtual 278, 3) := by decide +kernel
theorem dX12_far_11 : decode cX12_far 11 = .ok (.ifCond .ne 11, 3) := by decide +kernel
theorem dX12_far_14 : decode cX12_far 14 = .ok (.aload_n 0, 1) := by decide +kernel
theorem dX12_far_15 : decode cX12_far 15 = .ok (.iload_n 2, 1) := by decide +kernel
theorem dX12_far_16 : decode cX12_far 16 = .ok (.invokevirtual 278, 3) := by decide +kernel
theorem dX12_far_19 : decode cX12_far 19 = .ok (.ifCond .eq 7, 3) := by decide +kernel
theorem dX12_far_22 : decode cX12_far 22 = .ok (.iconst 1, 1) := by decide +kernel
theorem dX12_far_23 : decode cX12_far 23 = .ok (.goto 4, 3) := by decide +kernel
theorem dX12_far_26 : decode cX12_far 26 = .ok (.iconst 0, 1) := by decide +kernel
theorem dX12_far_27 : decode cX12_far 27 = .ok (.iconst 1, 1) := by decide +kernel
theorem dX12_far_28 : decode cX12_far 28 = .ok (.invokevirtual 243, 3) := by decide +kernel
theorem dX12_far_31 : decode cX12_far 31 = .ok (.ifCond .eq 7, 3) := by decide +kernel
theorem dX12_far_34 : decode cX12_far 34 = .ok (.iconst 0, 1) := by decide +kernel
theorem dX12_far_35 : decode cX12_far 35 = .ok (.goto 9, 3) := by decide +kernel
theorem dX12_far_38 : decode cX12_far 38 = .ok (.aload_n 0, 1) := by decide +kernel
theorem dX12_far_39 : decode cX12_far 39 = .ok (.iload_n 1, 1) := by decide +kernel
theorem dX12_far_40 : decode cX12_far 40 = .ok (.iload_n 2, 1) := by decide +kernel
theorem dX12_far_41 : decode cX12_far 41 = .ok (.invokevirtual 256, 3) := by decide +kernel
theorem dX12_far_44 : decode cX12_far 44 = .ok (.ireturn, 1) := by decide +kernel
theorem dX12_near_0 : decode cX12_near 0 = .ok (.aload_n 0, 1) := by decide +kernel
theorem dX12_near_1 : decode cX12_near 1 = .ok (.iconst 0, 1) := by decide +kernel
theorem dX12_near_2 : decode cX12_near 2 = .ok (.putfield 3, 3) := by decide +kernel
theorem dX12_near_5 : decode cX12_near 5 = .ok (.aload_n 0, 1) := by decide +kernel
theorem dX12_near_6 : decode cX12_near 6 = .ok (.aload_n 0, 1) := by decide +kernel
theorem dX12_near_7 : decode cX12_near 7 = .ok (.iload_n 1, 1) := by decide +kernel
theorem dX12_near_8 : decode cX12_near 8 = .ok (.invokevirtual 278, 3) := by decide +kernel
theorem dX12_near_11 : decode cX12_near 11 = .ok (.iconst 1, 1) := by decide +kernel
theorem dX12_near_12 : decode cX12_near 12 = .ok (.invokevirtual 243, 3) := by decide +kernel
theorem dX12_near_15 : decode cX12_near 15 = .ok (.ifCond .eq 5, 3) := by decide +kernel
theorem dX12_near_18 : decode cX12_near 18 = .ok (.iconst 0, 1) := by decide +kernel
theorem dX12_near_19 : decode cX12_near 19 = .ok (.ireturn, 1) := by decide +kernel
theorem dX12_near_20 : decode cX12_near 20 = .ok (.iconst 0, 1) := by decide +kernel
theorem dX12_near_21 : decode cX12_near 21 = .ok (.istore_n 2, 1) := by decide +kernel
theorem dX12_near_22 : decode cX12_near 22 = .ok (.iconst 0, 1) := by decide +kernel
theorem dX12_near_23 : decode cX12_near 23 = .ok (.istore_n 3, 1) := by decide +kernel
theorem dX12_near_24 : decode cX12_near 24 = .ok (.iload_n 3, 1) := by decide +kernel
theorem dX12_near_25 : decode cX12_near 25 = .ok (.aload_n 0, 1) := by decide +kernel
theorem dX12_near_26 : decode cX12_near 26 = .ok (.invokevirtual 62, 3) := by decide +kernel
theorem dX12_near_29 : decode cX12_near 29 = .ok (.if_icmp .ge 40, 3) := by decide +kernel
theorem dX12_near_32 : decode cX12_near 32 = .ok (.iload_n 2, 1) := by decide +kernel
theorem dX12_near_33 : decode cX12_near 33 = .ok (.iload_n 3, 1) := by decide +kernel
theorem dX12_near_34 : decode cX12_near 34 = .ok (.iload_n 1, 1) := by decide +kernel
theorem dX12_near_35 : decode cX12_near 35 = .ok (.if_icmp .eq 25, 3) := by decide +kernel
theorem dX12_near_38 : decode cX12_near 38 = .ok (.aload_n 0, 1) := by decide +kernel
theorem dX12_near_39 : decode cX12_near 39 = .ok (.iload_n 3, 1) := by decide +kernel
theorem dX12_near_40 : decode cX12_near 40 = .ok (.iload_n 1, 1) := by decide +kernel
theorem dX12_near_41 : decode cX12_near 41 = .ok (.invokevirtual 256, 3) := by decide +kernel
theorem dX12_near_44 : decode cX12_near 44 = .ok (.aload_n 0, 1) := by decide +kernel
theorem dX12_near_45 : decode cX12_near 45 = .ok (.getfield 13, 3) := by decide +kernel
theorem dX12_near_48 : decode cX12_near 48 = .ok (.bipush 8, 2) := by decide +kernel
theorem dX12_near_50 : decode cX12_near 50 = .ok (.iaload, 1) := by decide +kernel
theorem dX12_near_51 : decode cX12_near 51 = .ok (.if_icmp .gt 9, 3) := by decide +kernel
theorem dX12_near_54 : decode cX12_near 54 = .ok (.iconst 1, 1) := by decide +kernel
theorem dX12_near_55 : decode cX12_near 55 = .ok (.iload_n 3, 1) := by decide +kernel
theorem dX12_near_56 : decode cX12_near 56 = .ok (.ishl, 1) := by decide +kernel
theorem dX12_near_57 : decode cX12_near 57 = .ok (.goto 4, 3) := by decide +kernel
theorem dX12_near_60 : decode cX12_near 60 = .ok (.iconst 0, 1) := by decide +kernel
theorem dX12_near_61 : decode cX12_near 61 = .ok (.ior, 1) := by decide +kernel
theorem dX12_near_62 : decode cX12_near 62 = .ok (.istore_n 2, 1) := by decide +kernel
theorem dX12_near_63 : decode cX12_near 63 = .ok (.iinc 3 1, 3) := by decide +kernel
theorem dX12_near_66 : decode cX12_near 66 = .ok (.goto (-42), 3) := by decide +kernel
theorem dX12_near_69 : decode cX12_near 69 = .ok (.iload_n 2, 1) := by decide +kernel
theorem dX12_near_70 : decode cX12_near 70 = .ok (.ireturn, 1) := by decide +kernel
theorem dX12_newOnes_0 : decode cX12_newOnes 0 = .ok (.iconst 0, 1) := by decide +kernel
theorem dX12_newOnes_1 : decode cX12_newOnes 1 = .ok (.istore_n 1, 1) := by decide +kernel
theorem dX12_newOnes_2 : decode cX12_newOnes 2 = .ok (.iconst 0, 1) := by decide +kernel
theorem dX12_newOnes_3 : decode cX12_newOnes 3 = .ok (.istore_n 2, 1) := by decide +kernel
theorem dX12_newOnes_4 : decode cX12_newOnes 4 = .ok (.iload_n 2, 1) := by decide +kernel
theorem dX12_newOnes_5 : decode cX12_newOnes 5 = .ok (.aload_n 0, 1) := by decide +kernel
theorem dX12_newOnes_6 : decode cX12_newOnes 6 = .ok (.invokevirtual 62, 3) := by decide +kernel
theorem dX12_newOnes_9 : decode cX12_newOnes 9 = .ok (.if_icmp .ge 27, 3) := by decide +kernel
theorem dX12_newOnes_12 : decode cX12_newOnes 12 = .ok (.iload_n 1, 1) := by decide +kernel
theorem dX12_newOnes_13 : decode cX12_newOnes 13 = .ok (.aload_n 0, 1) := by decide +kernel
theorem dX12_newOnes_14 : decode cX12_newOnes 14 = .ok (.iload_n 2, 1) := by decide +kernel
theorem dX12_newOnes_15 : decode cX12_newOnes 15 = .ok (.invokevirtual 252, 3) := by decide +kernel
theorem dX12_newOnes_18 : decode cX12_newOnes 18 = .ok (.ifCond .eq 9, 3) := by decide +kernel
theorem dX12_newOnes_21 : decode cX12_newOnes 21 = .ok (.iconst 1, 1) := by decide +kernel
theorem dX12_newOnes_22 : decode cX12_newOnes 22 = .ok (.iload_n 2, 1) := by decide +kernel
theorem dX12_newOnes_23 : decode cX12_newOnes 23 = .ok (.ishl, 1) := by decide +kernel
theorem dX12_newOnes_24 : decode cX12_newOnes 24 = .ok (.goto 4, 3) := by decide +kernel
theorem dX12_newOnes_27 : decode cX12_newOnes 27 = .ok (.iconst 0, 1) := by decide +kernel
theorem dX12_newOnes_28 : decode cX12_newOnes 28 = .ok (.ior, 1) := by decide +kernel
theorem dX12_newOnes_29 : decode cX12_newOnes 29 = .ok (.istore_n 1, 1) := by decide +kernel
theorem dX12_newOnes_30 : decode cX12_newOnes 30 = .ok (.iinc 2 1, 3) := by decide +kernel
theorem dX12_newOnes_33 : decode cX12_newOnes 33 = .ok (.goto (-29), 3) := by decide +kernel
theorem dX12_newOnes_36 : decode cX12_newOnes 36 = .ok (.iload_n 1, 1) := by decide +kernel
theorem dX12_newOnes_37 : decode cX12_newOnes 37 = .ok (.ireturn, 1) := by decide +kernel
theorem dX12_left_0 : decode cX12_left 0 = .ok (.aload_n 0, 1) := by decide +kernel
theorem dX12_left_1 : decode cX12_left 1 = .ok (.iconst 0, 1) := by decide +kernel
theorem dX12_left_2 : decode cX12_left 2 = .ok (.putfield 3, 3) := by decide +kernel
theorem dX12_left_5 : decode cX12_left 5 = .ok (.aload_n 0, 1) := by decide +kernel
theorem dX12_left_6 : decode cX12_left 6 = .ok (.invokevirtual 287, 3) := by decide +kernel
theorem dX12_left_9 : decode cX12_left 9 = .ok (.ireturn, 1) := by decide +kernel
theorem dX12_tells_0 : decode cX12_tells 0 = .ok (.sipush 239, 3) := by decide +kernel
theorem dX12_tells_3 : decode cX12_tells 3 = .ok (.istore_n 3, 1) := by decide +kernel
theorem dX12_tells_4 : decode cX12_tells 4 = .ok (.iload_n 3, 1) := by decide +kernel
theorem dX12_tells_5 : decode cX12_tells 5 = .ok (.iconst 4, 1) := by decide +kernel
theorem dX12_tells_6 : decode cX12_tells 6 = .ok (.if_icmp .lt 29, 3) := by decide +kernel
theorem dX12_tells_9 : decode cX12_tells 9 = .ok (.aload_n 0, 1) := by decide +kernel
theorem dX12_tells_10 : decode cX12_tells 10 = .ok (.getfield 13, 3) := by decide +kernel
theorem dX12_tells_13 : decode cX12_tells 13 = .ok (.bipush 113, 2) := by decide +kernel
theorem dX12_tells_15 : decode cX12_tells 15 = .ok (.iload_n 3, 1) := by decide +kernel
theorem dX12_tells_16 : decode cX12_tells 16 = .ok (.iadd, 1) := by decide +kernel
theorem dX12_tells_17 : decode cX12_tells 17 = .ok (.aload_n 0, 1) := by decide +kernel
theorem dX12_tells_18 : decode cX12_tells 18 = .ok (.getfield 13, 3) := by decide +kernel
theorem dX12_tells_21 : decode cX12_tells 21 = .ok (.bipush 113, 2) := by decide +kernel
theorem dX12_tells_23 : decode cX12_tells 23 = .ok (.iload_n 3, 1) := by decide +kernel
theorem dX12_tells_24 : decode cX12_tells 24 = .ok (.iadd, 1) := by decide +kernel
theorem dX12_tells_25 : decode cX12_tells 25 = .ok (.iconst 4, 1) := by decide +kernel
theorem dX12_tells_26 : decode cX12_tells 26 = .ok (.isub, 1) := by decide +kernel
theorem dX12_tells_27 : decode cX12_tells 27 = .ok (.iaload, 1) := by decide +kernel
theorem dX12_tells_28 : decode cX12_tells 28 = .ok (.iastore, 1) := by decide +kernel
theorem dX12_tells_29 : decode cX12_tells 29 = .ok (.iinc 3 (-1), 3) := by decide +kernel
theorem dX12_tells_32 : decode cX12_tells 32 = .ok (.goto (-28), 3) := by decide +kernel
theorem dX12_tells_35 : decode cX12_tells 35 = .ok (.aload_n 0, 1) := by decide +kernel
theorem dX12_tells_36 : decode cX12_tells 36 = .ok (.getfield 13, 3) := by decide +kernel
theorem dX12_tells_39 : decode cX12_tells 39 = .ok (.bipush 113, 2) := by decide +kernel
theorem dX12_tells_41 : decode cX12_tells 41 = .ok (.aload_n 0, 1) := by decide +kernel
theorem dX12_tells_42 : decode cX12_tells 42 = .ok (.getfield 13, 3) := by decide +kernel
theorem dX12_tells_45 : decode cX12_tells 45 = .ok (.bipush 7, 2) := by decide +kernel
theorem dX12_tells_47 : decode cX12_tells 47 = .ok (.iaload, 1) := by decide +kernel
theorem dX12_tells_48 : decode cX12_tells 48 = .ok (.iastore, 1) := by decide +kernel
theorem dX12_tells_49 : decode cX12_tells 49 = .ok (.aload_n 0, 1) := by decide +kernel
theorem dX12_tells_50 : decode cX12_tells 50 = .ok (.getfield 13, 3) := by decide +kernel
theorem dX12_tells_53 : decode cX12_tells 53 = .ok (.bipush 114, 2) := by decide +kernel
theorem dX12_tells_55 : decode cX12_tells 55 = .ok (.iload_n 1, 1) := by decide +kernel
theorem dX12_tells_56 : decode cX12_tells 56 = .ok (.iastore, 1) := by decide +kernel
theorem dX12_tells_57 : decode cX12_tells 57 = .ok (.aload_n 0, 1) := by decide +kernel
theorem dX12_tells_58 : decode cX12_tells 58 = .ok (.getfield 13, 3) := by decide +kernel
theorem dX12_tells_61 : decode cX12_tells 61 = .ok (.bipush 115, 2) := by decide +kernel
theorem dX12_tells_63 : decode cX12_tells 63 = .ok (.iload_n 2, 1) := by decide +kernel
theorem dX12_tells_64 : decode cX12_tells 64 = .ok (.iastore, 1) := by decide +kernel
theorem dX12_tells_65 : decode cX12_tells 65 = .ok (.aload_n 0, 1) := by decide +kernel
theorem dX12_tells_66 : decode cX12_tells 66 = .ok (.getfield 13, 3) := by decide +kernel
theorem dX12_tells_69 : decode cX12_tells 69 = .ok (.bipush 116, 2) := by decide +kernel
theorem dX12_tells_71 : decode cX12_tells 71 = .ok (.aload_n 0, 1) := by decide +kernel
theorem dX12_tells_72 : decode cX12_tells 72 = .ok (.getfield 13, 3) := by decide +kernel
theorem dX12_tells_75 : decode cX12_tells 75 = .ok (.iconst 4, 1) := by decide +kernel
theorem dX12_tells_76 : decode cX12_tells 76 = .ok (.iaload, 1) := by decide +kernel
theorem dX12_tells_77 : decode cX12_tells 77 = .ok (.iastore, 1) := by decide +kernel
theorem dX12_tells_78 : decode cX12_tells 78 = .ok (.aload_n 0, 1) := by decide +kernel
theorem dX12_tells_79 : decode cX12_tells 79 = .ok (.getfield 13, 3) := by decide +kernel
theorem dX12_tells_82 : decode cX12_tells 82 = .ok (.bipush 15, 2) := by decide +kernel
theorem dX12_tells_84 : decode cX12_tells 84 = .ok (.bipush 60, 2) := by decide +kernel
theorem dX12_tells_86 : decode cX12_tells 86 = .ok (.aload_n 0, 1) := by decide +kernel
theorem dX12_tells_87 : decode cX12_tells 87 = .ok (.getfield 13, 3) := by decide +kernel
theorem dX12_tells_90 : decode cX12_tells 90 = .ok (.bipush 15, 2) := by decide +kernel
theorem dX12_tells_92 : decode cX12_tells 92 = .ok (.iaload, 1) := by decide +kernel
theorem dX12_tells_93 : decode cX12_tells 93 = .ok (.iconst 1, 1) := by decide +kernel
theorem dX12_tells_94 : decode cX12_tells 94 = .ok (.iadd, 1) := by decide +kernel
theorem dX12_tells_95 : decode cX12_tells 95 = .ok (.invokestatic 259, 3) := by decide +kernel
theorem dX12_tells_98 : decode cX12_tells 98 = .ok (.iastore, 1) := by decide +kernel
theorem dX12_tells_99 : decode cX12_tells 99 = .ok (.return_, 1) := by decide +kernel
theorem dX12_takesNone_0 : decode cX12_takesNone 0 = .ok (.aload_n 0, 1) := by decide +kernel
theorem dX12_takesNone_1 : decode cX12_takesNone 1 = .ok (.getfield 13, 3) := by decide +kernel
theorem dX12_takesNone_4 : decode cX12_takesNone 4 = .ok (.iconst 5, 1) := by decide +kernel
theorem dX12_takesNone_5 : decode cX12_takesNone 5 = .ok (.iaload, 1) := by decide +kernel
theorem dX12_takesNone_6 : decode cX12_takesNone 6 = .ok (.bipush 99, 2) := by decide +kernel
theorem dX12_takesNone_8 : decode cX12_takesNone 8 = .ok (.if_icmp .ne 7, 3) := by decide +kernel
theorem dX12_takesNone_11 : decode cX12_takesNone 11 = .ok (.iconst 1, 1) := by decide +kernel
theorem dX12_takesNone_12 : decode cX12_takesNone 12 = .ok (.goto 4, 3) := by decide +kernel
theorem dX12_takesNone_15 : decode cX12_takesNone 15 = .ok (.iconst 0, 1) := by decide +kernel
theorem dX12_takesNone_16 : decode cX12_takesNone 16 = .ok (.ireturn, 1) := by decide +kernel
theorem dX12_takes_0 : decode cX12_takes 0 = .ok (.aload_n 0, 1) := by decide +kernel
theorem dX12_takes_1 : decode cX12_takes 1 = .ok (.invokevirtual 290, 3) := by decide +kernel
theorem dX12_takes_4 : decode cX12_takes 4 = .ok (.ifCond .eq 5, 3) := by decide +kernel
theorem dX12_takes_7 : decode cX12_takes 7 = .ok (.iconst (-1), 1) := by decide +kernel
theorem dX12_takes_8 : decode cX12_takes 8 = .ok (.ireturn, 1) := by decide +kernel
theorem dX12_takes_9 : decode cX12_takes 9 = .ok (.aload_n 0, 1) := by decide +kernel
theorem dX12_takes_10 : decode cX12_takes 10 = .ok (.iload_n 1, 1) := by decide +kernel
theorem dX12_takes_11 : decode cX12_takes 11 = .ok (.invokevirtual 269, 3) := by decide +kernel
theorem dX12_takes_14 : decode cX12_takes 14 = .ok (.istore_n 2, 1) := by decide +kernel
theorem dX12_takes_15 : decode cX12_takes 15 = .ok (.aload_n 0, 1) := by decide +kernel
theorem dX12_takes_16 : decode cX12_takes 16 = .ok (.iload_n 1, 1) := by decide +kernel
theorem dX12_takes_17 : decode cX12_takes 17 = .ok (.invokevirtual 284, 3) := by decide +kernel
theorem dX12_takes_20 : decode cX12_takes 20 = .ok (.istore_n 3, 1) := by decide +kernel
theorem dX12_takes_21 : decode cX12_takes 21 = .ok (.aload_n 0, 1) := by decide +kernel
theorem dX12_takes_22 : decode cX12_takes 22 = .ok (.getfield 13, 3) := by decide +kernel
theorem dX12_takes_25 : decode cX12_takes 25 = .ok (.iconst 5, 1) := by decide +kernel
theorem dX12_takes_26 : decode cX12_takes 26 = .ok (.iaload, 1) := by decide +kernel
theorem dX12_takes_27 : decode cX12_takes 27 = .ok (.aload_n 0, 1) := by decide +kernel
theorem dX12_takes_28 : decode cX12_takes 28 = .ok (.iload_n 1, 1) := by decide +kernel
theorem dX12_takes_29 : decode cX12_takes 29 = .ok (.invokevirtual 281, 3) := by decide +kernel
theorem dX12_takes_32 : decode cX12_takes 32 = .ok (.iadd, 1) := by decide +kernel
theorem dX12_takes_33 : decode cX12_takes 33 = .ok (.istore 4, 2) := by decide +kernel
theorem dX12_takes_35 : decode cX12_takes 35 = .ok (.aload_n 0, 1) := by decide +kernel
theorem dX12_takes_36 : decode cX12_takes 36 = .ok (.getfield 13, 3) := by decide +kernel
theorem dX12_takes_39 : decode cX12_takes 39 = .ok (.bipush 14, 2) := by decide +kernel
theorem dX12_takes_41 : decode cX12_takes 41 = .ok (.sipush 9999, 3) := by decide +kernel
theorem dX12_takes_44 : decode cX12_takes 44 = .ok (.aload_n 0, 1) := by decide +kernel
theorem dX12_takes_45 : decode cX12_takes 45 = .ok (.getfield 13, 3) := by decide +kernel
theorem dX12_takes_48 : decode cX12_takes 48 = .ok (.bipush 14, 2) := by decide +kernel
theorem dX12_takes_50 : decode cX12_takes 50 = .ok (.iaload, 1) := by decide +kernel
theorem dX12_takes_51 : decode cX12_takes 51 = .ok (.iload_n 3, 1) := by decide +kernel
theorem dX12_takes_52 : decode cX12_takes 52 = .ok (.iadd, 1) := by decide +kernel
theorem dX12_takes_53 : decode cX12_takes 53 = .ok (.invokestatic 259, 3) := by decide +kernel
theorem dX12_takes_56 : decode cX12_takes 56 = .ok (.iastore, 1) := by decide +kernel
theorem dX12_takes_57 : decode cX12_takes 57 = .ok (.aload_n 0, 1) := by decide +kernel
theorem dX12_takes_58 : decode cX12_takes 58 = .ok (.getfield 13, 3) := by decide +kernel
theorem dX12_takes_61 : decode cX12_takes 61 = .ok (.iconst 5, 1) := by decide +kernel
theorem dX12_takes_62 : decode cX12_takes 62 = .ok (.iconst 0, 1) := by decide +kernel
theorem dX12_takes_63 : decode cX12_takes 63 = .ok (.bipush 99, 2) := by decide +kernel
theorem dX12_takes_65 : decode cX12_takes 65 = .ok (.iload 4, 2) := by decide +kernel
theorem dX12_takes_67 : decode cX12_takes 67 = .ok (.invokestatic 259, 3) := by decide +kernel
theorem dX12_takes_70 : decode cX12_takes 70 = .ok (.invokestatic 293, 3) := by decide +kernel
theorem dX12_takes_73 : decode cX12_takes 73 = .ok (.iastore, 1) := by decide +kernel
theorem dX12_takes_74 : decode cX12_takes 74 = .ok (.aload_n 0, 1) := by decide +kernel
theorem dX12_takes_75 : decode cX12_takes 75 = .ok (.getfield 13, 3) := by decide +kernel
theorem dX12_takes_78 : decode cX12_takes 78 = .ok (.iconst 4, 1) := by decide +kernel
theorem dX12_takes_79 : decode cX12_takes 79 = .ok (.iload_n 2, 1) := by decide +kernel
theorem dX12_takes_80 : decode cX12_takes 80 = .ok (.iconst (-1), 1) := by decide +kernel
theorem dX12_takes_81 : decode cX12_takes 81 = .ok (.if_icmp .ne 12, 3) := by decide +kernel
theorem dX12_takes_84 : decode cX12_takes 84 = .ok (.aload_n 0, 1) := by decide +kernel
theorem dX12_takes_85 : decode cX12_takes 85 = .ok (.getfield 13, 3) := by decide +kernel
theorem dX12_takes_88 : decode cX12_takes 88 = .ok (.iconst 3, 1) := by decide +kernel
theorem dX12_takes_89 : decode cX12_takes 89 = .ok (.iaload, 1) := by decide +kernel
theorem dX12_takes_90 : decode cX12_takes 90 = .ok (.goto 9, 3) := by decide +kernel
theorem dX12_takes_93 : decode cX12_takes 93 = .ok (.aload_n 0, 1) := by decide +kernel
theorem dX12_takes_94 : decode cX12_takes 94 = .ok (.iload_n 2, 1) := by decide +kernel
theorem dX12_takes_95 : decode cX12_takes 95 = .ok (.iconst 5, 1) := by decide +kernel
theorem dX12_takes_96 : decode cX12_takes 96 = .ok (.invokevirtual 70, 3) := by decide +kernel
theorem dX12_takes_99 : decode cX12_takes 99 = .ok (.iastore, 1) := by decide +kernel
theorem dX12_takes_100 : decode cX12_takes 100 = .ok (.aload_n 0, 1) := by decide +kernel
theorem dX12_takes_101 : decode cX12_takes 101 = .ok (.iload_n 1, 1) := by decide +kernel
theorem dX12_takes_102 : decode cX12_takes 102 = .ok (.invokevirtual 252, 3) := by decide +kernel
theorem dX12_takes_105 : decode cX12_takes 105 = .ok (.ifCond .eq 49, 3) := by decide +kernel
theorem dX12_takes_108 : decode cX12_takes 108 = .ok (.aload_n 0, 1) := by decide +kernel
theorem dX12_takes_109 : decode cX12_takes 109 = .ok (.getfield 13, 3) := by decide +kernel
theorem dX12_takes_112 : decode cX12_takes 112 = .ok (.iload_n 1, 1) := by decide +kernel
theorem dX12_takes_113 : decode cX12_takes 113 = .ok (.iconst 5, 1) := by decide +kernel
theorem dX12_takes_114 : decode cX12_takes 114 = .ok (.invokestatic 66, 3) := by decide +kernel
theorem dX12_takes_117 : decode cX12_takes 117 = .ok (.aload_n 0, 1) := by decide +kernel
theorem dX12_takes_118 : decode cX12_takes 118 = .ok (.getfield 13, 3) := by decide +kernel
theorem dX12_takes_121 : decode cX12_takes 121 = .ok (.iconst 3, 1) := by decide +kernel
theorem dX12_takes_122 : decode cX12_takes 122 = .ok (.iaload, 1) := by decide +kernel
theorem dX12_takes_123 : decode cX12_takes 123 = .ok (.iastore, 1) := by decide +kernel
theorem dX12_takes_124 : decode cX12_takes 124 = .ok (.aload_n 0, 1) := by decide +kernel
theorem dX12_takes_125 : decode cX12_takes 125 = .ok (.getfield 13, 3) := by decide +kernel
theorem dX12_takes_128 : decode cX12_takes 128 = .ok (.iload_n 1, 1) := by decide +kernel
theorem dX12_takes_129 : decode cX12_takes 129 = .ok (.bipush 6, 2) := by decide +kernel
theorem dX12_takes_131 : decode cX12_takes 131 = .ok (.invokestatic 66, 3) := by decide +kernel
theorem dX12_takes_134 : decode cX12_takes 134 = .ok (.aload_n 0, 1) := by decide +kernel
theorem dX12_takes_135 : decode cX12_takes 135 = .ok (.getfield 13, 3) := by decide +kernel
theorem dX12_takes_138 : decode cX12_takes 138 = .ok (.bipush 12, 2) := by decide +kernel
theorem dX12_takes_140 : decode cX12_takes 140 = .ok (.iaload, 1) := by decide +kernel
theorem dX12_takes_141 : decode cX12_takes 141 = .ok (.iastore, 1) := by decide +kernel
theorem dX12_takes_142 : decode cX12_takes 142 = .ok (.aload_n 0, 1) := by decide +kernel
theorem dX12_takes_143 : decode cX12_takes 143 = .ok (.getfield 13, 3) := by decide +kernel
theorem dX12_takes_146 : decode cX12_takes 146 = .ok (.iload_n 1, 1) := by decide +kernel
theorem dX12_takes_147 : decode cX12_takes 147 = .ok (.bipush 7, 2) := by decide +kernel
theorem dX12_takes_149 : decode cX12_takes 149 = .ok (.invokestatic 66, 3) := by decide +kernel
theorem dX12_takes_152 : decode cX12_takes 152 = .ok (.iconst (-1), 1) := by decide +kernel
theorem dX12_takes_153 : decode cX12_takes 153 = .ok (.iastore, 1) := by decide +kernel
theorem dX12_takes_154 : decode cX12_takes 154 = .ok (.aload_n 0, 1) := by decide +kernel
theorem dX12_takes_155 : decode cX12_takes 155 = .ok (.getfield 13, 3) := by decide +kernel
theorem dX12_takes_158 : decode cX12_takes 158 = .ok (.bipush 6, 2) := by decide +kernel
theorem dX12_takes_160 : decode cX12_takes 160 = .ok (.dup2, 1) := by decide +kernel
theorem dX12_takes_161 : decode cX12_takes 161 = .ok (.iaload, 1) := by decide +kernel
theorem dX12_takes_162 : decode cX12_takes 162 = .ok (.iconst 1, 1) := by decide +kernel
theorem dX12_takes_163 : decode cX12_takes 163 = .ok (.iadd, 1) := by decide +kernel
theorem dX12_takes_164 : decode cX12_takes 164 = .ok (.iastore, 1) := by decide +kernel
theorem dX12_takes_165 : decode cX12_takes 165 = .ok (.aload_n 0, 1) := by decide +kernel
theorem dX12_takes_166 : decode cX12_takes 166 = .ok (.iload_n 1, 1) := by decide +kernel
theorem dX12_takes_167 : decode cX12_takes 167 = .ok (.iload_n 2, 1) := by decide +kernel
theorem dX12_takes_168 : decode cX12_takes 168 = .ok (.invokevirtual 296, 3) := by decide +kernel
theorem dX12_takes_171 : decode cX12_takes 171 = .ok (.iload_n 3, 1) := by decide +kernel
theorem dX12_takes_172 : decode cX12_takes 172 = .ok (.ireturn, 1) := by decide +kernel
theorem dX12_crusts_0 : decode cX12_crusts 0 = .ok (.aload_n 0, 1) := by decide +kernel
theorem dX12_crusts_1 : decode cX12_crusts 1 = .ok (.getfield 13, 3) := by decide +kernel
theorem dX12_crusts_4 : decode cX12_crusts 4 = .ok (.iconst 3, 1) := by decide +kernel
theorem dX12_crusts_5 : decode cX12_crusts 5 = .ok (.sipush 9999, 3) := by decide +kernel
theorem dX12_crusts_8 : decode cX12_crusts 8 = .ok (.aload_n 0, 1) := by decide +kernel
theorem dX12_crusts_9 : decode cX12_crusts 9 = .ok (.getfield 13, 3) := by decide +kernel
theorem dX12_crusts_12 : decode cX12_crusts 12 = .ok (.iconst 3, 1) := by decide +kernel
theorem dX12_crusts_13 : decode cX12_crusts 13 = .ok (.iaload, 1) := by decide +kernel
theorem dX12_crusts_14 : decode cX12_crusts 14 = .ok (.iconst 1, 1) := by decide +kernel
theorem dX12_crusts_15 : decode cX12_crusts 15 = .ok (.iadd, 1) := by decide +kernel
theorem dX12_crusts_16 : decode cX12_crusts 16 = .ok (.invokestatic 259, 3) := by decide +kernel
theorem dX12_crusts_19 : decode cX12_crusts 19 = .ok (.iastore, 1) := by decide +kernel
theorem dX12_crusts_20 : decode cX12_crusts 20 = .ok (.aload_n 0, 1) := by decide +kernel
theorem dX12_crusts_21 : decode cX12_crusts 21 = .ok (.getfield 13, 3) := by decide +kernel
theorem dX12_crusts_24 : decode cX12_crusts 24 = .ok (.iconst 4, 1) := by decide +kernel
theorem dX12_crusts_25 : decode cX12_crusts 25 = .ok (.aload_n 0, 1) := by decide +kernel
theorem dX12_crusts_26 : decode cX12_crusts 26 = .ok (.getfield 13, 3) := by decide +kernel
theorem dX12_crusts_29 : decode cX12_crusts 29 = .ok (.iconst 3, 1) := by decide +kernel
theorem dX12_crusts_30 : decode cX12_crusts 30 = .ok (.iaload, 1) := by decide +kernel
theorem dX12_crusts_31 : decode cX12_crusts 31 = .ok (.iastore, 1) := by decide +kernel
theorem dX12_crusts_32 : decode cX12_crusts 32 = .ok (.aload_n 0, 1) := by decide +kernel
theorem dX12_crusts_33 : decode cX12_crusts 33 = .ok (.getfield 13, 3) := by decide +kernel
theorem dX12_crusts_36 : decode cX12_crusts 36 = .ok (.iconst 5, 1) := by decide +kernel
theorem dX12_crusts_37 : decode cX12_crusts 37 = .ok (.dup2, 1) := by decide +kernel
theorem dX12_crusts_38 : decode cX12_crusts 38 = .ok (.iaload, 1) := by decide +kernel
theorem dX12_crusts_39 : decode cX12_crusts 39 = .ok (.iconst 2, 1) := by decide +kernel
theorem dX12_crusts_40 : decode cX12_crusts 40 = .ok (.idiv, 1) := by decide +kernel
theorem dX12_crusts_41 : decode cX12_crusts 41 = .ok (.iastore, 1) := by decide +kernel
theorem dX12_crusts_42 : decode cX12_crusts 42 = .ok (.aload_n 0, 1) := by decide +kernel
