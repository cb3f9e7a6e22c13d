theorem dX0_init_0 : decode cX0_init 0 = .ok (.aload_n 0, 1) := by decide +kernel
theorem dX0_init_1 : decode cX0_init 1 = .ok (.invokespecial 1, 3) := by decide +kernel
theorem dX0_init_4 : decode cX0_init 4 = .ok (.aload_n 0, 1) := by decide +kernel
theorem dX0_init_5 : decode cX0_init 5 = .ok (.iconst 0, 1) := by decide +kernel
theorem dX0_init_6 : decode cX0_init 6 = .ok (.putfield 7, 3) := by decide +kernel
theorem dX0_init_9 : decode cX0_init 9 = .ok (.aload_n 0, 1) := by decide +kernel
theorem dX0_init_10 : decode cX0_init 10 = .ok (.iconst 0, 1) := by decide +kernel
theorem dX0_init_11 : decode cX0_init 11 = .ok (.putfield 13, 3) := by decide +kernel
theorem dX0_init_14 : decode cX0_init 14 = .ok (.aload_n 0, 1) := by decide +kernel
theorem dX0_init_15 : decode cX0_init 15 = .ok (.bipush 12, 2) := by decide +kernel
theorem dX0_init_17 : decode cX0_init 17 = .ok (.anewarray 16, 3) := by decide +kernel
theorem dX0_init_20 : decode cX0_init 20 = .ok (.putfield 18, 3) := by decide +kernel
theorem dX0_init_23 : decode cX0_init 23 = .ok (.aload_n 0, 1) := by decide +kernel
theorem dX0_init_24 : decode cX0_init 24 = .ok (.bipush 12, 2) := by decide +kernel
theorem dX0_init_26 : decode cX0_init 26 = .ok (.anewarray 22, 3) := by decide +kernel
theorem dX0_init_29 : decode cX0_init 29 = .ok (.putfield 24, 3) := by decide +kernel
theorem dX0_init_32 : decode cX0_init 32 = .ok (.iconst 0, 1) := by decide +kernel
theorem dX0_init_33 : decode cX0_init 33 = .ok (.istore_n 1, 1) := by decide +kernel
theorem dX0_init_34 : decode cX0_init 34 = .ok (.iload_n 1, 1) := by decide +kernel
theorem dX0_init_35 : decode cX0_init 35 = .ok (.bipush 12, 2) := by decide +kernel
theorem dX0_init_37 : decode cX0_init 37 = .ok (.if_icmp .ge 35, 3) := by decide +kernel
theorem dX0_init_40 : decode cX0_init 40 = .ok (.aload_n 0, 1) := by decide +kernel
theorem dX0_init_41 : decode cX0_init 41 = .ok (.getfield 18, 3) := by decide +kernel
theorem dX0_init_44 : decode cX0_init 44 = .ok (.iload_n 1, 1) := by decide +kernel
theorem dX0_init_45 : decode cX0_init 45 = .ok (.new 16, 3) := by decide +kernel
theorem dX0_init_48 : decode cX0_init 48 = .ok (.dup, 1) := by decide +kernel
theorem dX0_init_49 : decode cX0_init 49 = .ok (.invokespecial 28, 3) := by decide +kernel
theorem dX0_init_52 : decode cX0_init 52 = .ok (.aastore, 1) := by decide +kernel
theorem dX0_init_53 : decode cX0_init 53 = .ok (.aload_n 0, 1) := by decide +kernel
theorem dX0_init_54 : decode cX0_init 54 = .ok (.getfield 24, 3) := by decide +kernel
theorem dX0_init_57 : decode cX0_init 57 = .ok (.iload_n 1, 1) := by decide +kernel
theorem dX0_init_58 : decode cX0_init 58 = .ok (.new 22, 3) := by decide +kernel
theorem dX0_init_61 : decode cX0_init 61 = .ok (.dup, 1) := by decide +kernel
theorem dX0_init_62 : decode cX0_init 62 = .ok (.invokespecial 29, 3) := by decide +kernel
theorem dX0_init_65 : decode cX0_init 65 = .ok (.aastore, 1) := by decide +kernel
theorem dX0_init_66 : decode cX0_init 66 = .ok (.iinc 1 1, 3) := by decide +kernel
theorem dX0_init_69 : decode cX0_init 69 = .ok (.goto (-35), 3) := by decide +kernel
theorem dX0_init_72 : decode cX0_init 72 = .ok (.return_, 1) := by decide +kernel
theorem dX0_remember_0 : decode cX0_remember 0 = .ok (.aload_n 0, 1) := by decide +kernel
theorem dX0_remember_1 : decode cX0_remember 1 = .ok (.getfield 13, 3) := by decide +kernel
theorem dX0_remember_4 : decode cX0_remember 4 = .ok (.ifCond .lt 38, 3) := by decide +kernel
theorem dX0_remember_7 : decode cX0_remember 7 = .ok (.aload_n 0, 1) := by decide +kernel
theorem dX0_remember_8 : decode cX0_remember 8 = .ok (.getfield 13, 3) := by decide +kernel
theorem dX0_remember_11 : decode cX0_remember 11 = .ok (.bipush 12, 2) := by decide +kernel
theorem dX0_remember_13 : decode cX0_remember 13 = .ok (.if_icmp .ge 29, 3) := by decide +kernel
theorem dX0_remember_16 : decode cX0_remember 16 = .ok (.aload_n 0, 1) := by decide +kernel
theorem dX0_remember_17 : decode cX0_remember 17 = .ok (.getfield 18, 3) := by decide +kernel
theorem dX0_remember_20 : decode cX0_remember 20 = .ok (.aload_n 0, 1) := by decide +kernel
theorem dX0_remember_21 : decode cX0_remember 21 = .ok (.getfield 13, 3) := by decide +kernel
theorem dX0_remember_24 : decode cX0_remember 24 = .ok (.aaload, 1) := by decide +kernel
theorem dX0_remember_25 : decode cX0_remember 25 = .ok (.aload_n 1, 1) := by decide +kernel
theorem dX0_remember_26 : decode cX0_remember 26 = .ok (.invokevirtual 30, 3) := by decide +kernel
theorem dX0_remember_29 : decode cX0_remember 29 = .ok (.aload_n 0, 1) := by decide +kernel
theorem dX0_remember_30 : decode cX0_remember 30 = .ok (.getfield 24, 3) := by decide +kernel
theorem dX0_remember_33 : decode cX0_remember 33 = .ok (.aload_n 0, 1) := by decide +kernel
theorem dX0_remember_34 : decode cX0_remember 34 = .ok (.getfield 13, 3) := by decide +kernel
theorem dX0_remember_37 : decode cX0_remember 37 = .ok (.aaload, 1) := by decide +kernel
theorem dX0_remember_38 : decode cX0_remember 38 = .ok (.aload_n 2, 1) := by decide +kernel
theorem dX0_remember_39 : decode cX0_remember 39 = .ok (.invokevirtual 34, 3) := by decide +kernel
theorem dX0_remember_42 : decode cX0_remember 42 = .ok (.aload_n 0, 1) := by decide +kernel
theorem dX0_remember_43 : decode cX0_remember 43 = .ok (.aload_n 0, 1) := by decide +kernel
theorem dX0_remember_44 : decode cX0_remember 44 = .ok (.getfield 13, 3) := by decide +kernel
theorem dX0_remember_47 : decode cX0_remember 47 = .ok (.iconst 1, 1) := by decide +kernel
theorem dX0_remember_48 : decode cX0_remember 48 = .ok (.iadd, 1) := by decide +kernel
theorem dX0_remember_49 : decode cX0_remember 49 = .ok (.bipush 12, 2) := by decide +kernel
theorem dX0_remember_51 : decode cX0_remember 51 = .ok (.irem, 1) := by decide +kernel
theorem dX0_remember_52 : decode cX0_remember 52 = .ok (.putfield 13, 3) := by decide +kernel
theorem dX0_remember_55 : decode cX0_remember 55 = .ok (.aload_n 0, 1) := by decide +kernel
theorem dX0_remember_56 : decode cX0_remember 56 = .ok (.bipush 12, 2) := by decide +kernel
theorem dX0_remember_58 : decode cX0_remember 58 = .ok (.aload_n 0, 1) := by decide +kernel
theorem dX0_remember_59 : decode cX0_remember 59 = .ok (.getfield 7, 3) := by decide +kernel
theorem dX0_remember_62 : decode cX0_remember 62 = .ok (.iconst 1, 1) := by decide +kernel
theorem dX0_remember_63 : decode cX0_remember 63 = .ok (.iadd, 1) := by decide +kernel
theorem dX0_remember_64 : decode cX0_remember 64 = .ok (.invokestatic 37, 3) := by decide +kernel
theorem dX0_remember_67 : decode cX0_remember 67 = .ok (.putfield 7, 3) := by decide +kernel
theorem dX0_remember_70 : decode cX0_remember 70 = .ok (.return_, 1) := by decide +kernel
theorem dX0_recall_0 : decode cX0_recall 0 = .ok (.aload_n 0, 1) := by decide +kernel
theorem dX0_recall_1 : decode cX0_recall 1 = .ok (.getfield 7, 3) := by decide +kernel
theorem dX0_recall_4 : decode cX0_recall 4 = .ok (.ifCond .gt 5, 3) := by decide +kernel
theorem dX0_recall_7 : decode cX0_recall 7 = .ok (.iconst 0, 1) := by decide +kernel
theorem dX0_recall_8 : decode cX0_recall 8 = .ok (.ireturn, 1) := by decide +kernel
theorem dX0_recall_9 : decode cX0_recall 9 = .ok (.aload_n 0, 1) := by decide +kernel
theorem dX0_recall_10 : decode cX0_recall 10 = .ok (.aload_n 0, 1) := by decide +kernel
theorem dX0_recall_11 : decode cX0_recall 11 = .ok (.getfield 13, 3) := by decide +kernel
theorem dX0_recall_14 : decode cX0_recall 14 = .ok (.bipush 12, 2) := by decide +kernel
theorem dX0_recall_16 : decode cX0_recall 16 = .ok (.iadd, 1) := by decide +kernel
theorem dX0_recall_17 : decode cX0_recall 17 = .ok (.iconst 1, 1) := by decide +kernel
theorem dX0_recall_18 : decode cX0_recall 18 = .ok (.isub, 1) := by decide +kernel
theorem dX0_recall_19 : decode cX0_recall 19 = .ok (.bipush 12, 2) := by decide +kernel
theorem dX0_recall_21 : decode cX0_recall 21 = .ok (.irem, 1) := by decide +kernel
theorem dX0_recall_22 : decode cX0_recall 22 = .ok (.putfield 13, 3) := by decide +kernel
theorem dX0_recall_25 : decode cX0_recall 25 = .ok (.aload_n 0, 1) := by decide +kernel
theorem dX0_recall_26 : decode cX0_recall 26 = .ok (.dup, 1) := by decide +kernel
theorem dX0_recall_27 : decode cX0_recall 27 = .ok (.getfield 7, 3) := by decide +kernel
theorem dX0_recall_30 : decode cX0_recall 30 = .ok (.iconst 1, 1) := by decide +kernel
theorem dX0_recall_31 : decode cX0_recall 31 = .ok (.isub, 1) := by decide +kernel
theorem dX0_recall_32 : decode cX0_recall 32 = .ok (.putfield 7, 3) := by decide +kernel
theorem dX0_recall_35 : decode cX0_recall 35 = .ok (.aload_n 0, 1) := by decide +kernel
theorem dX0_recall_36 : decode cX0_recall 36 = .ok (.getfield 13, 3) := by decide +kernel
theorem dX0_recall_39 : decode cX0_recall 39 = .ok (.ifCond .lt 38, 3) := by decide +kernel
theorem dX0_recall_42 : decode cX0_recall 42 = .ok (.aload_n 0, 1) := by decide +kernel
theorem dX0_recall_43 : decode cX0_recall 43 = .ok (.getfield 13, 3) := by decide +kernel
theorem dX0_recall_46 : decode cX0_recall 46 = .ok (.bipush 12, 2) := by decide +kernel
theorem dX0_recall_48 : decode cX0_recall 48 = .ok (.if_icmp .ge 29, 3) := by decide +kernel
theorem dX0_recall_51 : decode cX0_recall 51 = .ok (.aload_n 1, 1) := by decide +kernel
theorem dX0_recall_52 : decode cX0_recall 52 = .ok (.aload_n 0, 1) := by decide +kernel
theorem dX0_recall_53 : decode cX0_recall 53 = .ok (.getfield 18, 3) := by decide +kernel
theorem dX0_recall_56 : decode cX0_recall 56 = .ok (.aload_n 0, 1) := by decide +kernel
theorem dX0_recall_57 : decode cX0_recall 57 = .ok (.getfield 13, 3) := by decide +kernel
theorem dX0_recall_60 : decode cX0_recall 60 = .ok (.aaload, 1) := by decide +kernel
theorem dX0_recall_61 : decode cX0_recall 61 = .ok (.invokevirtual 30, 3) := by decide +kernel
theorem dX0_recall_64 : decode cX0_recall 64 = .ok (.aload_n 2, 1) := by decide +kernel
theorem dX0_recall_65 : decode cX0_recall 65 = .ok (.aload_n 0, 1) := by decide +kernel
theorem dX0_recall_66 : decode cX0_recall 66 = .ok (.getfield 24, 3) := by decide +kernel
theorem dX0_recall_69 : decode cX0_recall 69 = .ok (.aload_n 0, 1) := by decide +kernel
theorem dX0_recall_70 : decode cX0_recall 70 = .ok (.getfield 13, 3) := by decide +kernel
theorem dX0_recall_73 : decode cX0_recall 73 = .ok (.aaload, 1) := by decide +kernel
theorem dX0_recall_74 : decode cX0_recall 74 = .ok (.invokevirtual 34, 3) := by decide +kernel
theorem dX0_recall_77 : decode cX0_recall 77 = .ok (.iconst 1, 1) := by decide +kernel
theorem dX0_recall_78 : decode cX0_recall 78 = .ok (.ireturn, 1) := by decide +kernel
theorem dX0_clear_0 : decode cX0_clear 0 = .ok (.aload_n 0, 1) := by decide +kernel
theorem dX0_clear_1 : decode cX0_clear 1 = .ok (.iconst 0, 1) := by decide +kernel
theorem dX0_clear_2 : decode cX0_clear 2 = .ok (.putfield 7, 3) := by decide +kernel
theorem dX0_clear_5 : decode cX0_clear 5 = .ok (.return_, 1) := by decide +kernel
theorem dX1_init_0 : decode cX1_init 0 = .ok (.aload_n 0, 1) := by decide +kernel
theorem dX1_init_1 : decode cX1_init 1 = .ok (.invokespecial 3, 3) := by decide +kernel
theorem dX1_init_4 : decode cX1_init 4 = .ok (.aload_n 0, 1) := by decide +kernel
theorem dX1_init_5 : decode cX1_init 5 = .ok (.iconst 0, 1) := by decide +kernel
theorem dX1_init_6 : decode cX1_init 6 = .ok (.putfield 9, 3) := by decide +kernel
theorem dX1_init_9 : decode cX1_init 9 = .ok (.aload_n 0, 1) := by decide +kernel
theorem dX1_init_10 : decode cX1_init 10 = .ok (.bipush 60, 2) := by decide +kernel
theorem dX1_init_12 : decode cX1_init 12 = .ok (.newarray .int, 2) := by decide +kernel
theorem dX1_init_14 : decode cX1_init 14 = .ok (.putfield 15, 3) := by decide +kernel
theorem dX1_init_17 : decode cX1_init 17 = .ok (.aload_n 0, 1) := by decide +kernel
theorem dX1_init_18 : decode cX1_init 18 = .ok (.bipush 12, 2) := by decide +kernel
theorem dX1_init_20 : decode cX1_init 20 = .ok (.newarray .int, 2) := by decide +kernel
theorem dX1_init_22 : decode cX1_init 22 = .ok (.putfield 19, 3) := by decide +kernel
theorem dX1_init_25 : decode cX1_init 25 = .ok (.aload_n 0, 1) := by decide +kernel
theorem dX1_init_26 : decode cX1_init 26 = .ok (.bipush 12, 2) := by decide +kernel
theorem dX1_init_28 : decode cX1_init 28 = .ok (.newarray .int, 2) := by decide +kernel
theorem dX1_init_30 : decode cX1_init 30 = .ok (.putfield 22, 3) := by decide +kernel
theorem dX1_init_33 : decode cX1_init 33 = .ok (.aload_n 0, 1) := by decide +kernel
theorem dX1_init_34 : decode cX1_init 34 = .ok (.bipush 12, 2) := by decide +kernel
theorem dX1_init_36 : decode cX1_init 36 = .ok (.newarray .int, 2) := by decide +kernel
theorem dX1_init_38 : decode cX1_init 38 = .ok (.putfield 25, 3) := by decide +kernel
theorem dX1_init_41 : decode cX1_init 41 = .ok (.return_, 1) := by decide +kernel
theorem dX1_has_0 : decode cX1_has 0 = .ok (.iload_n 1, 1) := by decide +kernel
theorem dX1_has_1 : decode cX1_has 1 = .ok (.ifCond .lt 15, 3) := by decide +kernel
theorem dX1_has_4 : decode cX1_has 4 = .ok (.iload_n 1, 1) := by decide +kernel
theorem dX1_has_5 : decode cX1_has 5 = .ok (.aload_n 0, 1) := by decide +kernel
theorem dX1_has_6 : decode cX1_has 6 = .ok (.getfield 9, 3) := by decide +kernel
theorem dX1_has_9 : decode cX1_has 9 = .ok (.if_icmp .ge 7, 3) := by decide +kernel
theorem dX1_has_12 : decode cX1_has 12 = .ok (.iconst 1, 1) := by decide +kernel
theorem dX1_has_13 : decode cX1_has 13 = .ok (.goto 4, 3) := by decide +kernel
theorem dX1_has_16 : decode cX1_has 16 = .ok (.iconst 0, 1) := by decide +kernel
theorem dX1_has_17 : decode cX1_has 17 = .ok (.ireturn, 1) := by decide +kernel
theorem dX1_isHad_0 : decode cX1_isHad 0 = .ok (.aload_n 0, 1) := by decide +kernel
theorem dX1_isHad_1 : decode cX1_isHad 1 = .ok (.iload_n 1, 1) := by decide +kernel
theorem dX1_isHad_2 : decode cX1_isHad 2 = .ok (.invokevirtual 28, 3) := by decide +kernel
theorem dX1_isHad_5 : decode cX1_isHad 5 = .ok (.ifCond .eq 17, 3) := by decide +kernel
theorem dX1_isHad_8 : decode cX1_isHad 8 = .ok (.aload_n 0, 1) := by decide +kernel
theorem dX1_isHad_9 : decode cX1_isHad 9 = .ok (.getfield 19, 3) := by decide +kernel
theorem dX1_isHad_12 : decode cX1_isHad 12 = .ok (.iload_n 1, 1) := by decide +kernel
theorem dX1_isHad_13 : decode cX1_isHad 13 = .ok (.iaload, 1) := by decide +kernel
theorem dX1_isHad_14 : decode cX1_isHad 14 = .ok (.iconst (-1), 1) := by decide +kernel
theorem dX1_isHad_15 : decode cX1_isHad 15 = .ok (.if_icmp .eq 7, 3) := by decide +kernel
theorem dX1_isHad_18 : decode cX1_isHad 18 = .ok (.iconst 1, 1) := by decide +kernel
theorem dX1_isHad_19 : decode cX1_isHad 19 = .ok (.goto 4, 3) := by decide +kernel
theorem dX1_isHad_22 : decode cX1_isHad 22 = .ok (.iconst 0, 1) := by decide +kernel
theorem dX1_isHad_23 : decode cX1_isHad 23 = .ok (.ireturn, 1) := by decide +kernel
theorem dX1_all_0 : decode cX1_all 0 = .ok (.iconst 1, 1) := by decide +kernel
theorem dX1_all_1 : decode cX1_all 1 = .ok (.aload_n 0, 1) := by decide +kernel
theorem dX1_all_2 : decode cX1_all 2 = .ok (.getfield 9, 3) := by decide +kernel
theorem dX1_all_5 : decode cX1_all 5 = .ok (.ishl, 1) := by decide +kernel
theorem dX1_all_6 : decode cX1_all 6 = .ok (.iconst 1, 1) := by decide +kernel
theorem dX1_all_7 : decode cX1_all 7 = .ok (.isub, 1) := by decide +kernel
theorem dX1_all_8 : decode cX1_all 8 = .ok (.ireturn, 1) := by decide +kernel
theorem dX1_allHad_0 : decode cX1_allHad 0 = .ok (.aload_n 0, 1) := by decide +kernel
theorem dX1_allHad_1 : decode cX1_allHad 1 = .ok (.iconst 0, 1) := by decide +kernel
theorem dX1_allHad_2 : decode cX1_allHad 2 = .ok (.sipush 9999, 3) := by decide +kernel
theorem dX1_allHad_5 : decode cX1_allHad 5 = .ok (.invokevirtual 32, 3) := by decide +kernel
theorem dX1_allHad_8 : decode cX1_allHad 8 = .ok (.ireturn, 1) := by decide +kernel
theorem dX1_distance_0 : decode cX1_distance 0 = .ok (.iconst 0, 1) := by decide +kernel
theorem dX1_distance_1 : decode cX1_distance 1 = .ok (.istore_n 3, 1) := by decide +kernel
theorem dX1_distance_2 : decode cX1_distance 2 = .ok (.iconst 0, 1) := by decide +kernel
theorem dX1_distance_3 : decode cX1_distance 3 = .ok (.istore 4, 2) := by decide +kernel
theorem dX1_distance_5 : decode cX1_distance 5 = .ok (.iload 4, 2) := by decide +kernel
theorem dX1_distance_7 : decode cX1_distance 7 = .ok (.iconst 5, 1) := by decide +kernel
theorem dX1_distance_8 : decode cX1_distance 8 = .ok (.if_icmp .ge 50, 3) := by decide +kernel
theorem dX1_distance_11 : decode cX1_distance 11 = .ok (.aload_n 0, 1) := by decide +kernel
theorem dX1_distance_12 : decode cX1_distance 12 = .ok (.getfield 15, 3) := by decide +kernel
theorem dX1_distance_15 : decode cX1_distance 15 = .ok (.iload_n 1, 1) := by decide +kernel
theorem dX1_distance_16 : decode cX1_distance 16 = .ok (.iconst 5, 1) := by decide +kernel
theorem dX1_distance_17 : decode cX1_distance 17 = .ok (.imul, 1) := by decide +kernel
theorem dX1_distance_18 : decode cX1_distance 18 = .ok (.iload 4, 2) := by decide +kernel
theorem dX1_distance_20 : decode cX1_distance 20 = .ok (.iadd, 1) := by decide +kernel
theorem dX1_distance_21 : decode cX1_distance 21 = .ok (.iaload, 1) := by decide +kernel
theorem dX1_distance_22 : decode cX1_distance 22 = .ok (.aload_n 0, 1) := by decide +kernel
theorem dX1_distance_23 : decode cX1_distance 23 = .ok (.getfield 15, 3) := by decide +kernel
theorem dX1_distance_26 : decode cX1_distance 26 = .ok (.iload_n 2, 1) := by decide +kernel
theorem dX1_distance_27 : decode cX1_distance 27 = .ok (.iconst 5, 1) := by decide +kernel
theorem dX1_distance_28 : decode cX1_distance 28 = .ok (.imul, 1) := by decide +kernel
theorem dX1_distance_29 : decode cX1_distance 29 = .ok (.iload 4, 2) := by decide +kernel
theorem dX1_distance_31 : decode cX1_distance 31 = .ok (.iadd, 1) := by decide +kernel
theorem dX1_distance_32 : decode cX1_distance 32 = .ok (.iaload, 1) := by decide +kernel
theorem dX1_distance_33 : decode cX1_distance 33 = .ok (.isub, 1) := by decide +kernel
theorem dX1_distance_34 : decode cX1_distance 34 = .ok (.istore 5, 2) := by decide +kernel
theorem dX1_distance_36 : decode cX1_distance 36 = .ok (.iload_n 3, 1) := by decide +kernel
theorem dX1_distance_37 : decode cX1_distance 37 = .ok (.iload 5, 2) := by decide +kernel
theorem dX1_distance_39 : decode cX1_distance 39 = .ok (.ifCond .ge 9, 3) := by decide +kernel
theorem dX1_distance_42 : decode cX1_distance 42 = .ok (.iload 5, 2) := by decide +kernel
theorem dX1_distance_44 : decode cX1_distance 44 = .ok (.ineg, 1) := by decide +kernel
theorem dX1_distance_45 : decode cX1_distance 45 = .ok (.goto 5, 3) := by decide +kernel
theorem dX1_distance_48 : decode cX1_distance 48 = .ok (.iload 5, 2) := by decide +kernel
theorem dX1_distance_50 : decode cX1_distance 50 = .ok (.iadd, 1) := by decide +kernel
theorem dX1_distance_51 : decode cX1_distance 51 = .ok (.istore_n 3, 1) := by decide +kernel
theorem dX1_distance_52 : decode cX1_distance 52 = .ok (.iinc 4 1, 3) := by decide +kernel
theorem dX1_distance_55 : decode cX1_distance 55 = .ok (.goto (-50), 3) := by decide +kernel
theorem dX1_distance_58 : decode cX1_distance 58 = .ok (.iload_n 3, 1) := by decide +kernel
theorem dX1_distance_59 : decode cX1_distance 59 = .ok (.ireturn, 1) := by decide +kernel
theorem dX1_calledUp_0 : decode cX1_calledUp 0 = .ok (.aload_n 0, 1) := by decide +kernel
theorem dX1_calledUp_1 : decode cX1_calledUp 1 = .ok (.iload_n 1, 1) := by decide +kernel
theorem dX1_calledUp_2 : decode cX1_calledUp 2 = .ok (.invokevirtual 36, 3) := by decide +kernel
theorem dX1_calledUp_5 : decode cX1_calledUp 5 = .ok (.ifCond .eq 5, 3) := by decide +kernel
theorem dX1_calledUp_8 : decode cX1_calledUp 8 = .ok (.iload_n 1, 1) := by decide +kernel
theorem dX1_calledUp_9 : decode cX1_calledUp 9 = .ok (.ireturn, 1) := by decide +kernel
theorem dX1_calledUp_10 : decode cX1_calledUp 10 = .ok (.iconst (-1), 1) := by decide +kernel
theorem dX1_calledUp_11 : decode cX1_calledUp 11 = .ok (.istore_n 3, 1) := by decide +kernel
theorem dX1_calledUp_12 : decode cX1_calledUp 12 = .ok (.iload_n 2, 1) := by decide +kernel
theorem dX1_calledUp_13 : decode cX1_calledUp 13 = .ok (.iconst 1, 1) := by decide +kernel
theorem dX1_calledUp_14 : decode cX1_calledUp 14 = .ok (.iadd, 1) := by decide +kernel
theorem dX1_calledUp_15 : decode cX1_calledUp 15 = .ok (.istore 4, 2) := by decide +kernel
theorem dX1_calledUp_17 : decode cX1_calledUp 17 = .ok (.iconst 0, 1) := by decide +kernel
theorem dX1_calledUp_18 : decode cX1_calledUp 18 = .ok (.istore 5, 2) := by decide +kernel
theorem dX1_calledUp_20 : decode cX1_calledUp 20 = .ok (.iload 5, 2) := by decide +kernel
theorem dX1_calledUp_22 : decode cX1_calledUp 22 = .ok (.aload_n 0, 1) := by decide +kernel
theorem dX1_calledUp_23 : decode cX1_calledUp 23 = .ok (.getfield 9, 3) := by decide +kernel
theorem dX1_calledUp_26 : decode cX1_calledUp 26 = .ok (.if_icmp .ge 43, 3) := by decide +kernel
theorem dX1_calledUp_29 : decode cX1_calledUp 29 = .ok (.aload_n 0, 1) := by decide +kernel
theorem dX1_calledUp_30 : decode cX1_calledUp 30 = .ok (.getfield 19, 3) := by decide +kernel
theorem dX1_calledUp_33 : decode cX1_calledUp 33 = .ok (.iload 5, 2) := by decide +kernel
theorem dX1_calledUp_35 : decode cX1_calledUp 35 = .ok (.iaload, 1) := by decide +kernel
theorem dX1_calledUp_36 : decode cX1_calledUp 36 = .ok (.iconst (-1), 1) := by decide +kernel
theorem dX1_calledUp_37 : decode cX1_calledUp 37 = .ok (.if_icmp .eq 26, 3) := by decide +kernel
theorem dX1_calledUp_40 : decode cX1_calledUp 40 = .ok (.aload_n 0, 1) := by decide +kernel
theorem dX1_calledUp_41 : decode cX1_calledUp 41 = .ok (.iload_n 1, 1) := by decide +kernel
theorem dX1_calledUp_42 : decode cX1_calledUp 42 = .ok (.iload 5, 2) := by decide +kernel
theorem dX1_calledUp_44 : decode cX1_calledUp 44 = .ok (.invokevirtual 39, 3) := by decide +kernel
theorem dX1_calledUp_47 : decode cX1_calledUp 47 = .ok (.istore 6, 2) := by decide +kernel
theorem dX1_calledUp_49 : decode cX1_calledUp 49 = .ok (.iload 6, 2) := by decide +kernel
theorem dX1_calledUp_51 : decode cX1_calledUp 51 = .ok (.iload 4, 2) := by decide +kernel
theorem dX1_calledUp_53 : decode cX1_calledUp 53 = .ok (.if_icmp .ge 10, 3) := by decide +kernel
theorem dX1_calledUp_56 : decode cX1_calledUp 56 = .ok (.iload 6, 2) := by decide +kernel
theorem dX1_calledUp_58 : decode cX1_calledUp 58 = .ok (.istore 4, 2) := by decide +kernel
theorem dX1_calledUp_60 : decode cX1_calledUp 60 = .ok (.iload 5, 2) := by decide +kernel
theorem dX1_calledUp_62 : decode cX1_calledUp 62 = .ok (.istore_n 3, 1) := by decide +kernel
theorem dX1_calledUp_63 : decode cX1_calledUp 63 = .ok (.iinc 5 1, 3) := by decide +kernel
theorem dX1_calledUp_66 : decode cX1_calledUp 66 = .ok (.goto (-46), 3) := by decide +kernel
theorem dX1_calledUp_69 : decode cX1_calledUp 69 = .ok (.iload_n 3, 1) := by decide +kernel
theorem dX1_calledUp_70 : decode cX1_calledUp 70 = .ok (.ireturn, 1) := by decide +kernel
theorem dX1_earliestBehind_0 : decode cX1_earliestBehind 0 = .ok (.iconst (-1), 1) := by decide +kernel
theorem dX1_earliestBehind_1 : decode cX1_earliestBehind 1 = .ok (.istore_n 2, 1) := by decide +kernel
theorem dX1_earliestBehind_2 : decode cX1_earliestBehind 2 = .ok (.iconst 0, 1) := by decide +kernel
theorem dX1_earliestBehind_3 : decode cX1_earliestBehind 3 = .ok (.istore_n 3, 1) := by decide +kernel
theorem dX1_earliestBehind_4 : decode cX1_earliestBehind 4 = .ok (.iload_n 3, 1) := by decide +kernel
theorem dX1_earliestBehind_5 : decode cX1_earliestBehind 5 = .ok (.aload_n 0, 1) := by decide +kernel
theorem dX1_earliestBehind_6 : decode cX1_earliestBehind 6 = .ok (.getfield 9, 3) := by decide +kernel
theorem dX1_earliestBehind_9 : decode cX1_earliestBehind 9 = .ok (.if_icmp .ge 41, 3) := by decide +kernel
theorem dX1_earliestBehind_12 : decode cX1_earliestBehind 12 = .ok (.aload_n 0, 1) := by decide +kernel
theorem dX1_earliestBehind_13 : decode cX1_earliestBehind 13 = .ok (.getfield 19, 3) := by decide +kernel
theorem dX1_earliestBehind_16 : decode cX1_earliestBehind 16 = .ok (.iload_n 3, 1) := by decide +kernel
theorem dX1_earliestBehind_17 : decode cX1_earliestBehind 17 = .ok (.iaload, 1) := by decide +kernel
theorem dX1_earliestBehind_18 : decode cX1_earliestBehind 18 = .ok (.iload_n 1, 1) := by decide +kernel
theorem dX1_earliestBehind_19 : decode cX1_earliestBehind 19 = .ok (.if_icmp .le 25, 3) := by decide +kernel
theorem dX1_earliestBehind_22 : decode cX1_earliestBehind 22 = .ok (.iload_n 2, 1) := by decide +kernel
theorem dX1_earliestBehind_23 : decode cX1_earliestBehind 23 = .ok (.iconst (-1), 1) := by decide +kernel
theorem dX1_earliestBehind_24 : decode cX1_earliestBehind 24 = .ok (.if_icmp .eq 18, 3) := by decide +kernel
theorem dX1_earliestBehind_27 : decode cX1_earliestBehind 27 = .ok (.aload_n 0, 1) := by decide +kernel
theorem dX1_earliestBehind_28 : decode cX1_earliestBehind 28 = .ok (.getfield 19, 3) := by decide +kernel
theorem dX1_earliestBehind_31 : decode cX1_earliestBehind 31 = .ok (.iload_n 3, 1) := by decide +kernel
theorem dX1_earliestBehind_32 : decode cX1_earliestBehind 32 = .ok (.iaload, 1) := by decide +kernel
theorem dX1_earliestBehind_33 : decode cX1_earliestBehind 33 = .ok (.aload_n 0, 1) := by decide +kernel
theorem dX1_earliestBehind_34 : decode cX1_earliestBehind 34 = .ok (.getfield 19, 3) := by decide +kernel
theorem dX1_earliestBehind_37 : decode cX1_earliestBehind 37 = .ok (.iload_n 2, 1) := by decide +kernel
theorem dX1_earliestBehind_38 : decode cX1_earliestBehind 38 = .ok (.iaload, 1) := by decide +kernel
theorem dX1_earliestBehind_39 : decode cX1_earliestBehind 39 = .ok (.if_icmp .ge 5, 3) := by decide +kernel
theorem dX1_earliestBehind_42 : decode cX1_earliestBehind 42 = .ok (.iload_n 3, 1) := by decide +kernel
theorem dX1_earliestBehind_43 : decode cX1_earliestBehind 43 = .ok (.istore_n 2, 1) := by decide +kernel
theorem dX1_earliestBehind_44 : decode cX1_earliestBehind 44 = .ok (.iinc 3 1, 3) := by decide +kernel
theorem dX1_earliestBehind_47 : decode cX1_earliestBehind 47 = .ok (.goto (-43), 3) := by decide +kernel
theorem dX1_earliestBehind_50 : decode cX1_earliestBehind 50 = .ok (.iload_n 2, 1) := by decide +kernel
theorem dX1_earliestBehind_51 : decode cX1_earliestBehind 51 = .ok (.ireturn, 1) := by decide +kernel
theorem dX1_firstIn_0 : decode cX1_firstIn 0 = .ok (.iconst 0, 1) := by decide +kernel
theorem dX1_firstIn_1 : decode cX1_firstIn 1 = .ok (.istore_n 3, 1) := by decide +kernel
theorem dX1_firstIn_2 : decode cX1_firstIn 2 = .ok (.iconst 0, 1) := by decide +kernel
theorem dX1_firstIn_3 : decode cX1_firstIn 3 = .ok (.istore 4, 2) := by decide +kernel
theorem dX1_firstIn_5 : decode cX1_firstIn 5 = .ok (.iload 4, 2) := by decide +kernel
theorem dX1_firstIn_7 : decode cX1_firstIn 7 = .ok (.aload_n 0, 1) := by decide +kernel
theorem dX1_firstIn_8 : decode cX1_firstIn 8 = .ok (.getfield 9, 3) := by decide +kernel
theorem dX1_firstIn_11 : decode cX1_firstIn 11 = .ok (.if_icmp .ge 49, 3) := by decide +kernel
theorem dX1_firstIn_14 : decode cX1_firstIn 14 = .ok (.aload_n 0, 1) := by decide +kernel
theorem dX1_firstIn_15 : decode cX1_firstIn 15 = .ok (.getfield 19, 3) := by decide +kernel
theorem dX1_firstIn_18 : decode cX1_firstIn 18 = .ok (.iload 4, 2) := by decide +kernel
theorem dX1_firstIn_20 : decode cX1_firstIn 20 = .ok (.iaload, 1) := by decide +kernel
theorem dX1_firstIn_21 : decode cX1_firstIn 21 = .ok (.iconst (-1), 1) := by decide +kernel
theorem dX1_firstIn_22 : decode cX1_firstIn 22 = .ok (.if_icmp .eq 32, 3) := by decide +kernel
theorem dX1_firstIn_25 : decode cX1_firstIn 25 = .ok (.aload_n 0, 1) := by decide +kernel
theorem dX1_firstIn_26 : decode cX1_firstIn 26 = .ok (.getfield 19, 3) := by decide +kernel
theorem dX1_firstIn_29 : decode cX1_firstIn 29 = .ok (.iload 4, 2) := by decide +kernel
theorem dX1_firstIn_31 : decode cX1_firstIn 31 = .ok (.iaload, 1) := by decide +kernel
theorem dX1_firstIn_32 : decode cX1_firstIn 32 = .ok (.iload_n 1, 1) := by decide +kernel
theorem dX1_firstIn_33 : decode cX1_firstIn 33 = .ok (.if_icmp .lt 21, 3) := by decide +kernel
theorem dX1_firstIn_36 : decode cX1_firstIn 36 = .ok (.aload_n 0, 1) := by decide +kernel
theorem dX1_firstIn_37 : decode cX1_firstIn 37 = .ok (.getfield 19, 3) := by decide +kernel
theorem dX1_firstIn_40 : decode cX1_firstIn 40 = .ok (.iload 4, 2) := by decide +kernel
theorem dX1_firstIn_42 : decode cX1_firstIn 42 = .ok (.iaload, 1) := by decide +kernel
theorem dX1_firstIn_43 : decode cX1_firstIn 43 = .ok (.iload_n 2, 1) := by decide +kernel
theorem dX1_firstIn_44 : decode cX1_firstIn 44 = .ok (.if_icmp .gt 10, 3) := by decide +kernel
theorem dX1_firstIn_47 : decode cX1_firstIn 47 = .ok (.iload_n 3, 1) := by decide +kernel
theorem dX1_firstIn_48 : decode cX1_firstIn 48 = .ok (.iconst 1, 1) := by decide +kernel
theorem dX1_firstIn_49 : decode cX1_firstIn 49 = .ok (.iload 4, 2) := by decide +kernel
theorem dX1_firstIn_51 : decode cX1_firstIn 51 = .ok (.ishl, 1) := by decide +kernel
theorem dX1_firstIn_52 : decode cX1_firstIn 52 = .ok (.ior, 1) := by decide +kernel
theorem dX1_firstIn_53 : decode cX1_firstIn 53 = .ok (.istore_n 3, 1) := by decide +kernel
theorem dX1_firstIn_54 : decode cX1_firstIn 54 = .ok (.iinc 4 1, 3) := by decide +kernel
theorem dX1_firstIn_57 : decode cX1_firstIn 57 = .ok (.goto (-52), 3) := by decide +kernel
theorem dX1_firstIn_60 : decode cX1_firstIn 60 = .ok (.iload_n 3, 1) := by decide +kernel
theorem dX1_firstIn_61 : decode cX1_firstIn 61 = .ok (.ireturn, 1) := by decide +kernel
theorem dX1_inDecade_0 : decode cX1_inDecade 0 = .ok (.iload_n 1, 1) := by decide +kernel
theorem dX1_inDecade_1 : decode cX1_inDecade 1 = .ok (.ifCond .ge 7, 3) := by decide +kernel
theorem dX1_inDecade_4 : decode cX1_inDecade 4 = .ok (.iconst 0, 1) := by decide +kernel
theorem dX1_inDecade_5 : decode cX1_inDecade 5 = .ok (.goto 18, 3) := by decide +kernel
theorem dX1_inDecade_8 : decode cX1_inDecade 8 = .ok (.aload_n 0, 1) := by decide +kernel
theorem dX1_inDecade_9 : decode cX1_inDecade 9 = .ok (.iload_n 1, 1) := by decide +kernel
theorem dX1_inDecade_10 : decode cX1_inDecade 10 = .ok (.bipush 10, 2) := by decide +kernel
theorem dX1_inDecade_12 : decode cX1_inDecade 12 = .ok (.imul, 1) := by decide +kernel
theorem dX1_inDecade_13 : decode cX1_inDecade 13 = .ok (.iload_n 1, 1) := by decide +kernel
theorem dX1_inDecade_14 : decode cX1_inDecade 14 = .ok (.bipush 10, 2) := by decide +kernel
theorem dX1_inDecade_16 : decode cX1_inDecade 16 = .ok (.imul, 1) := by decide +kernel
theorem dX1_inDecade_17 : decode cX1_inDecade 17 = .ok (.bipush 9, 2) := by decide +kernel
theorem dX1_inDecade_19 : decode cX1_inDecade 19 = .ok (.iadd, 1) := by decide +kernel
theorem dX1_inDecade_20 : decode cX1_inDecade 20 = .ok (.invokevirtual 32, 3) := by decide +kernel
theorem dX1_inDecade_23 : decode cX1_inDecade 23 = .ok (.ireturn, 1) := by decide +kernel
theorem dX1_inAge_0 : decode cX1_inAge 0 = .ok (.aload_n 0, 1) := by decide +kernel
theorem dX1_inAge_1 : decode cX1_inAge 1 = .ok (.iload_n 1, 1) := by decide +kernel
theorem dX1_inAge_2 : decode cX1_inAge 2 = .ok (.bipush 100, 2) := by decide +kernel
theorem dX1_inAge_4 : decode cX1_inAge 4 = .ok (.imul, 1) := by decide +kernel
theorem dX1_inAge_5 : decode cX1_inAge 5 = .ok (.iload_n 1, 1) := by decide +kernel
theorem dX1_inAge_6 : decode cX1_inAge 6 = .ok (.bipush 100, 2) := by decide +kernel
theorem dX1_inAge_8 : decode cX1_inAge 8 = .ok (.imul, 1) := by decide +kernel
theorem dX1_inAge_9 : decode cX1_inAge 9 = .ok (.bipush 99, 2) := by decide +kernel
theorem dX1_inAge_11 : decode cX1_inAge 11 = .ok (.iadd, 1) := by decide +kernel
theorem dX1_inAge_12 : decode cX1_inAge 12 = .ok (.invokevirtual 32, 3) := by decide +kernel
theorem dX1_inAge_15 : decode cX1_inAge 15 = .ok (.ireturn, 1) := by decide +kernel
theorem dX1_leastOfAge_0 : decode cX1_leastOfAge 0 = .ok (.aload_n 0, 1) := by decide +kernel
theorem dX1_leastOfAge_1 : decode cX1_leastOfAge 1 = .ok (.iload_n 1, 1) := by decide +kernel
theorem dX1_leastOfAge_2 : decode cX1_leastOfAge 2 = .ok (.invokevirtual 42, 3) := by decide +kernel
theorem dX1_leastOfAge_5 : decode cX1_leastOfAge 5 = .ok (.istore_n 2, 1) := by decide +kernel
theorem dX1_leastOfAge_6 : decode cX1_leastOfAge 6 = .ok (.iconst 0, 1) := by decide +kernel
theorem dX1_leastOfAge_7 : decode cX1_leastOfAge 7 = .ok (.istore_n 3, 1) := by decide +kernel
theorem dX1_leastOfAge_8 : decode cX1_leastOfAge 8 = .ok (.iload_n 3, 1) := by decide +kernel
theorem dX1_leastOfAge_9 : decode cX1_leastOfAge 9 = .ok (.aload_n 0, 1) := by decide +kernel
theorem dX1_leastOfAge_10 : decode cX1_leastOfAge 10 = .ok (.getfield 9, 3) := by decide +kernel
theorem dX1_leastOfAge_13 : decode cX1_leastOfAge 13 = .ok (.if_icmp .ge 19, 3) := by decide +kernel
theorem dX1_leastOfAge_16 : decode cX1_leastOfAge 16 = .ok (.iload_n 2, 1) := by decide +kernel
theorem dX1_leastOfAge_17 : decode cX1_leastOfAge 17 = .ok (.iload_n 3, 1) := by decide +kernel
theorem dX1_leastOfAge_18 : decode cX1_leastOfAge 18 = .ok (.ishr, 1) := by decide +kernel
theorem dX1_leastOfAge_19 : decode cX1_leastOfAge 19 = .ok (.iconst 1, 1) := by decide +kernel
theorem dX1_leastOfAge_20 : decode cX1_leastOfAge 20 = .ok (.iand, 1) := by decide +kernel
theorem dX1_leastOfAge_21 : decode cX1_leastOfAge 21 = .ok (.ifCond .eq 5, 3) := by decide +kernel
theorem dX1_leastOfAge_24 : decode cX1_leastOfAge 24 = .ok (.iload_n 3, 1) := by decide +kernel
theorem dX1_leastOfAge_25 : decode cX1_leastOfAge 25 = .ok (.ireturn, 1) := by decide +kernel
theorem dX1_leastOfAge_26 : decode cX1_leastOfAge 26 = .ok (.iinc 3 1, 3) := by decide +kernel
theorem dX1_leastOfAge_29 : decode cX1_leastOfAge 29 = .ok (.goto (-21), 3) := by decide +kernel
theorem dX1_leastOfAge_32 : decode cX1_leastOfAge 32 = .ok (.iconst (-1), 1) := by decide +kernel
theorem dX1_leastOfAge_33 : decode cX1_leastOfAge 33 = .ok (.ireturn, 1) := by decide +kernel
theorem dX1_hadAt_0 : decode cX1_hadAt 0 = .ok (.iconst 0, 1) := by decide +kernel
theorem dX1_hadAt_1 : decode cX1_hadAt 1 = .ok (.istore_n 2, 1) := by decide +kernel
theorem dX1_hadAt_2 : decode cX1_hadAt 2 = .ok (.iconst 0, 1) := by decide +kernel
theorem dX1_hadAt_3 : decode cX1_hadAt 3 = .ok (.istore_n 3, 1) := by decide +kernel
theorem dX1_hadAt_4 : decode cX1_hadAt 4 = .ok (.iload_n 3, 1) := by decide +kernel
theorem dX1_hadAt_5 : decode cX1_hadAt 5 = .ok (.aload_n 0, 1) := by decide +kernel
theorem dX1_hadAt_6 : decode cX1_hadAt 6 = .ok (.getfield 9, 3) := by decide +kernel
theorem dX1_hadAt_9 : decode cX1_hadAt 9 = .ok (.if_icmp .ge 35, 3) := by decide +kernel
theorem dX1_hadAt_12 : decode cX1_hadAt 12 = .ok (.aload_n 0, 1) := by decide +kernel
theorem dX1_hadAt_13 : decode cX1_hadAt 13 = .ok (.getfield 19, 3) := by decide +kernel
theorem dX1_hadAt_16 : decode cX1_hadAt 16 = .ok (.iload_n 3, 1) := by decide +kernel
theorem dX1_hadAt_17 : decode cX1_hadAt 17 = .ok (.iaload, 1) := by decide +kernel
theorem dX1_hadAt_18 : decode cX1_hadAt 18 = .ok (.iconst (-1), 1) := by decide +kernel
theorem dX1_hadAt_19 : decode cX1_hadAt 19 = .ok (.if_icmp .eq 19, 3) := by decide +kernel
theorem dX1_hadAt_22 : decode cX1_hadAt 22 = .ok (.aload_n 0, 1) := by decide +kernel
theorem dX1_hadAt_23 : decode cX1_hadAt 23 = .ok (.getfield 22, 3) := by decide +kernel
theorem dX1_hadAt_26 : decode cX1_hadAt 26 = .ok (.iload_n 3, 1) := by decide +kernel
theorem dX1_hadAt_27 : decode cX1_hadAt 27 = .ok (.iaload, 1) := by decide +kernel
theorem dX1_hadAt_28 : decode cX1_hadAt 28 = .ok (.iload_n 1, 1) := by decide +kernel
theorem dX1_hadAt_29 : decode cX1_hadAt 29 = .ok (.if_icmp .ne 9, 3) := by decide +kernel
theorem dX1_hadAt_32 : decode cX1_hadAt 32 = .ok (.iload_n 2, 1) := by decide +kernel
theorem dX1_hadAt_33 : decode cX1_hadAt 33 = .ok (.iconst 1, 1) := by decide +kernel
theorem dX1_hadAt_34 : decode cX1_hadAt 34 = .ok (.iload_n 3, 1) := by decide +kernel
theorem dX1_hadAt_35 : decode cX1_hadAt 35 = .ok (.ishl, 1) := by decide +kernel
theorem dX1_hadAt_36 : decode cX1_hadAt 36 = .ok (.ior, 1) := by decide +kernel
theorem dX1_hadAt_37 : decode cX1_hadAt 37 = .ok (.istore_n 2, 1) := by decide +kernel
theorem dX1_hadAt_38 : decode cX1_hadAt 38 = .ok (.iinc 3 1, 3) := by decide +kernel
theorem dX1_hadAt_41 : decode cX1_hadAt 41 = .ok (.goto (-37), 3) := by decide +kernel
theorem dX1_hadAt_44 : decode cX1_hadAt 44 = .ok (.iload_n 2, 1) := by decide +kernel
theorem dX1_hadAt_45 : decode cX1_hadAt 45 = .ok (.ireturn, 1) := by decide +kernel
theorem dX1_hadWith_0 : decode cX1_hadWith 0 = .ok (.iconst 0, 1) := by decide +kernel
theorem dX1_hadWith_1 : decode cX1_hadWith 1 = .ok (.istore_n 2, 1) := by decide +kernel
theorem dX1_hadWith_2 : decode cX1_hadWith 2 = .ok (.iconst 0, 1) := by decide +kernel
theorem dX1_hadWith_3 : decode cX1_hadWith 3 = .ok (.istore_n 3, 1) := by decide +kernel
theorem dX1_hadWith_4 : decode cX1_hadWith 4 = .ok (.iload_n 3, 1) := by decide +kernel
theorem dX1_hadWith_5 : decode cX1_hadWith 5 = .ok (.aload_n 0, 1) := by decide +kernel
theorem dX1_hadWith_6 : decode cX1_hadWith 6 = .ok (.getfield 9, 3) := by decide +kernel
theorem dX1_hadWith_9 : decode cX1_hadWith 9 = .ok (.if_icmp .ge 35, 3) := by decide +kernel
theorem dX1_hadWith_12 : decode cX1_hadWith 12 = .ok (.aload_n 0, 1) := by decide +kernel
theorem dX1_hadWith_13 : decode cX1_hadWith 13 = .ok (.getfield 19, 3) := by decide +kernel
theorem dX1_hadWith_16 : decode cX1_hadWith 16 = .ok (.iload_n 3, 1) := by decide +kernel
theorem dX1_hadWith_17 : decode cX1_hadWith 17 = .ok (.iaload, 1) := by decide +kernel
theorem dX1_hadWith_18 : decode cX1_hadWith 18 = .ok (.iconst (-1), 1) := by decide +kernel
theorem dX1_hadWith_19 : decode cX1_hadWith 19 = .ok (.if_icmp .eq 19, 3) := by decide +kernel
theorem dX1_hadWith_22 : decode cX1_hadWith 22 = .ok (.aload_n 0, 1) := by decide +kernel
theorem dX1_hadWith_23 : decode cX1_hadWith 23 = .ok (.getfield 25, 3) := by decide +kernel
theorem dX1_hadWith_26 : decode cX1_hadWith 26 = .ok (.iload_n 3, 1) := by decide +kernel
theorem dX1_hadWith_27 : decode cX1_hadWith 27 = .ok (.iaload, 1) := by decide +kernel
theorem dX1_hadWith_28 : decode cX1_hadWith 28 = .ok (.iload_n 1, 1) := by decide +kernel
theorem dX1_hadWith_29 : decode cX1_hadWith 29 = .ok (.if_icmp .ne 9, 3) := by decide +kernel
theorem dX1_hadWith_32 : decode cX1_hadWith 32 = .ok (.iload_n 2, 1) := by decide +kernel
theorem dX1_hadWith_33 : decode cX1_hadWith 33 = .ok (.iconst 1, 1) := by decide +kernel
theorem dX1_hadWith_34 : decode cX1_hadWith 34 = .ok (.iload_n 3, 1) := by decide +kernel
theorem dX1_hadWith_35 : decode cX1_hadWith 35 = .ok (.ishl, 1) := by decide +kernel
theorem dX1_hadWith_36 : decode cX1_hadWith 36 = .ok (.ior, 1) := by decide +kernel
theorem dX1_hadWith_37 : decode cX1_hadWith 37 = .ok (.istore_n 2, 1) := by decide +kernel
theorem dX1_hadWith_38 : decode cX1_hadWith 38 = .ok (.iinc 3 1, 3) := by decide +kernel
theorem dX1_hadWith_41 : decode cX1_hadWith 41 = .ok (.goto (-37), 3) := by decide +kernel
theorem dX1_hadWith_44 : decode cX1_hadWith 44 = .ok (.iload_n 2, 1) := by decide +kernel
theorem dX1_hadWith_45 : decode cX1_hadWith 45 = .ok (.ireturn, 1) := by decide +kernel
theorem dX1_companyIn_0 : decode cX1_companyIn 0 = .ok (.aload_n 0, 1) := by decide +kernel
theorem dX1_companyIn_1 : decode cX1_companyIn 1 = .ok (.iload_n 1, 1) := by decide +kernel
theorem dX1_companyIn_2 : decode cX1_companyIn 2 = .ok (.invokevirtual 42, 3) := by decide +kernel
theorem dX1_companyIn_5 : decode cX1_companyIn 5 = .ok (.aload_n 0, 1) := by decide +kernel
theorem dX1_companyIn_6 : decode cX1_companyIn 6 = .ok (.iload_n 2, 1) := by decide +kernel
theorem dX1_companyIn_7 : decode cX1_companyIn 7 = .ok (.invokevirtual 46, 3) := by decide +kernel
theorem dX1_companyIn_10 : decode cX1_companyIn 10 = .ok (.iand, 1) := by decide +kernel
theorem dX1_companyIn_11 : decode cX1_companyIn 11 = .ok (.istore_n 3, 1) := by decide +kernel
theorem dX1_companyIn_12 : decode cX1_companyIn 12 = .ok (.iconst 0, 1) := by decide +kernel
theorem dX1_companyIn_13 : decode cX1_companyIn 13 = .ok (.istore 4, 2) := by decide +kernel
theorem dX1_companyIn_15 : decode cX1_companyIn 15 = .ok (.iconst 0, 1) := by decide +kernel
theorem dX1_companyIn_16 : decode cX1_companyIn 16 = .ok (.istore 5, 2) := by decide +kernel
theorem dX1_companyIn_18 : decode cX1_companyIn 18 = .ok (.iload 5, 2) := by decide +kernel
theorem dX1_companyIn_20 : decode cX1_companyIn 20 = .ok (.aload_n 0, 1) := by decide +kernel
theorem dX1_companyIn_21 : decode cX1_companyIn 21 = .ok (.getfield 9, 3) := by decide +kernel
theorem dX1_companyIn_24 : decode cX1_companyIn 24 = .ok (.if_icmp .ge 43, 3) := by decide +kernel
theorem dX1_companyIn_27 : decode cX1_companyIn 27 = .ok (.iload_n 3, 1) := by decide +kernel
theorem dX1_companyIn_28 : decode cX1_companyIn 28 = .ok (.iload 5, 2) := by decide +kernel
theorem dX1_companyIn_30 : decode cX1_companyIn 30 = .ok (.ishr, 1) := by decide +kernel
theorem dX1_companyIn_31 : decode cX1_companyIn 31 = .ok (.iconst 1, 1) := by decide +kernel
theorem dX1_companyIn_32 : decode cX1_companyIn 32 = .ok (.iand, 1) := by decide +kernel
theorem dX1_companyIn_33 : decode cX1_companyIn 33 = .ok (.ifCond .eq 28, 3) := by decide +kernel
theorem dX1_companyIn_36 : decode cX1_companyIn 36 = .ok (.aload_n 0, 1) := by decide +kernel
theorem dX1_companyIn_37 : decode cX1_companyIn 37 = .ok (.getfield 25, 3) := by decide +kernel
theorem dX1_companyIn_40 : decode cX1_companyIn 40 = .ok (.iload 5, 2) := by decide +kernel
theorem dX1_companyIn_42 : decode cX1_companyIn 42 = .ok (.iaload, 1) := by decide +kernel
theorem dX1_companyIn_43 : decode cX1_companyIn 43 = .ok (.iconst (-1), 1) := by decide +kernel
theorem dX1_companyIn_44 : decode cX1_companyIn 44 = .ok (.if_icmp .eq 17, 3) := by decide +kernel
theorem dX1_companyIn_47 : decode cX1_companyIn 47 = .ok (.iload 4, 2) := by decide +kernel
theorem dX1_companyIn_49 : decode cX1_companyIn 49 = .ok (.iconst 1, 1) := by decide +kernel
theorem dX1_companyIn_50 : decode cX1_companyIn 50 = .ok (.aload_n 0, 1) := by decide +kernel
theorem dX1_companyIn_51 : decode cX1_companyIn 51 = .ok (.getfield 25, 3) := by decide +kernel
theorem dX1_companyIn_54 : decode cX1_companyIn 54 = .ok (.iload 5, 2) := by decide +kernel
theorem dX1_companyIn_56 : decode cX1_companyIn 56 = .ok (.iaload, 1) := by decide +kernel
theorem dX1_companyIn_57 : decode cX1_companyIn 57 = .ok (.ishl, 1) := by decide +kernel
theorem dX1_companyIn_58 : decode cX1_companyIn 58 = .ok (.ior, 1) := by decide +kernel
theorem dX1_companyIn_59 : decode cX1_companyIn 59 = .ok (.istore 4, 2) := by decide +kernel
theorem dX1_companyIn_61 : decode cX1_companyIn 61 = .ok (.iinc 5 1, 3) := by decide +kernel
theorem dX1_companyIn_64 : decode cX1_companyIn 64 = .ok (.goto (-46), 3) := by decide +kernel
theorem dX1_companyIn_67 : decode cX1_companyIn 67 = .ok (.iload 4, 2) := by decide +kernel
theorem dX1_companyIn_69 : decode cX1_companyIn 69 = .ok (.ireturn, 1) := by decide +kernel
theorem dX1_tell_0 : decode cX1_tell 0 = .ok (.aload_n 0, 1) := by decide +kernel
theorem dX1_tell_1 : decode cX1_tell 1 = .ok (.iload_n 1, 1) := by decide +kernel
theorem dX1_tell_2 : decode cX1_tell 2 = .ok (.invokevirtual 28, 3) := by decide +kernel
theorem dX1_tell_5 : decode cX1_tell 5 = .ok (.ifCond .eq 25, 3) := by decide +kernel
theorem dX1_tell_8 : decode cX1_tell 8 = .ok (.aload_n 0, 1) := by decide +kernel
theorem dX1_tell_9 : decode cX1_tell 9 = .ok (.getfield 19, 3) := by decide +kernel
theorem dX1_tell_12 : decode cX1_tell 12 = .ok (.iload_n 1, 1) := by decide +kernel
theorem dX1_tell_13 : decode cX1_tell 13 = .ok (.iload_n 2, 1) := by decide +kernel
theorem dX1_tell_14 : decode cX1_tell 14 = .ok (.iastore, 1) := by decide +kernel
theorem dX1_tell_15 : decode cX1_tell 15 = .ok (.aload_n 0, 1) := by decide +kernel
theorem dX1_tell_16 : decode cX1_tell 16 = .ok (.getfield 22, 3) := by decide +kernel
theorem dX1_tell_19 : decode cX1_tell 19 = .ok (.iload_n 1, 1) := by decide +kernel
theorem dX1_tell_20 : decode cX1_tell 20 = .ok (.iload_n 3, 1) := by decide +kernel
theorem dX1_tell_21 : decode cX1_tell 21 = .ok (.iastore, 1) := by decide +kernel
theorem dX1_tell_22 : decode cX1_tell 22 = .ok (.aload_n 0, 1) := by decide +kernel
theorem dX1_tell_23 : decode cX1_tell 23 = .ok (.getfield 25, 3) := by decide +kernel
theorem dX1_tell_26 : decode cX1_tell 26 = .ok (.iload_n 1, 1) := by decide +kernel
theorem dX1_tell_27 : decode cX1_tell 27 = .ok (.iload 4, 2) := by decide +kernel
theorem dX1_tell_29 : decode cX1_tell 29 = .ok (.iastore, 1) := by decide +kernel
theorem dX1_tell_30 : decode cX1_tell 30 = .ok (.return_, 1) := by decide +kernel
theorem dX1_add_0 : decode cX1_add 0 = .ok (.aload_n 0, 1) := by decide +kernel
theorem dX1_add_1 : decode cX1_add 1 = .ok (.getfield 9, 3) := by decide +kernel
theorem dX1_add_4 : decode cX1_add 4 = .ok (.bipush 12, 2) := by decide +kernel
theorem dX1_add_6 : decode cX1_add 6 = .ok (.if_icmp .ge 26, 3) := by decide +kernel
theorem dX1_add_9 : decode cX1_add 9 = .ok (.aload_n 0, 1) := by decide +kernel
theorem dX1_add_10 : decode cX1_add 10 = .ok (.dup, 1) := by decide +kernel
theorem dX1_add_11 : decode cX1_add 11 = .ok (.getfield 9, 3) := by decide +kernel
theorem dX1_add_14 : decode cX1_add 14 = .ok (.iconst 1, 1) := by decide +kernel
theorem dX1_add_15 : decode cX1_add 15 = .ok (.iadd, 1) := by decide +kernel
theorem dX1_add_16 : decode cX1_add 16 = .ok (.putfield 9, 3) := by decide +kernel
theorem dX1_add_19 : decode cX1_add 19 = .ok (.aload_n 0, 1) := by decide +kernel
theorem dX1_add_20 : decode cX1_add 20 = .ok (.aload_n 0, 1) := by decide +kernel
theorem dX1_add_21 : decode cX1_add 21 = .ok (.getfield 9, 3) := by decide +kernel
theorem dX1_add_24 : decode cX1_add 24 = .ok (.iconst 1, 1) := by decide +kernel
theorem dX1_add_25 : decode cX1_add 25 = .ok (.isub, 1) := by decide +kernel
theorem dX1_add_26 : decode cX1_add 26 = .ok (.iload_n 1, 1) := by decide +kernel
theorem dX1_add_27 : decode cX1_add 27 = .ok (.iload_n 2, 1) := by decide +kernel
theorem dX1_add_28 : decode cX1_add 28 = .ok (.iload_n 3, 1) := by decide +kernel
theorem dX1_add_29 : decode cX1_add 29 = .ok (.invokevirtual 49, 3) := by decide +kernel
theorem dX1_add_32 : decode cX1_add 32 = .ok (.return_, 1) := by decide +kernel
theorem dX1_copy_0 : decode cX1_copy 0 = .ok (.aload_n 0, 1) := by decide +kernel
theorem dX1_copy_1 : decode cX1_copy 1 = .ok (.aload_n 1, 1) := by decide +kernel
theorem dX1_copy_2 : decode cX1_copy 2 = .ok (.getfield 9, 3) := by decide +kernel
theorem dX1_copy_5 : decode cX1_copy 5 = .ok (.putfield 9, 3) := by decide +kernel
theorem dX1_copy_8 : decode cX1_copy 8 = .ok (.aload_n 1, 1) := by decide +kernel
theorem dX1_copy_9 : decode cX1_copy 9 = .ok (.getfield 15, 3) := by decide +kernel
theorem dX1_copy_12 : decode cX1_copy 12 = .ok (.iconst 0, 1) := by decide +kernel
theorem dX1_copy_13 : decode cX1_copy 13 = .ok (.aload_n 0, 1) := by decide +kernel
theorem dX1_copy_14 : decode cX1_copy 14 = .ok (.getfield 15, 3) := by decide +kernel
theorem dX1_copy_17 : decode cX1_copy 17 = .ok (.iconst 0, 1) := by decide +kernel
theorem dX1_copy_18 : decode cX1_copy 18 = .ok (.bipush 60, 2) := by decide +kernel
theorem dX1_copy_20 : decode cX1_copy 20 = .ok (.invokestatic 53, 3) := by decide +kernel
theorem dX1_copy_23 : decode cX1_copy 23 = .ok (.aload_n 1, 1) := by decide +kernel
theorem dX1_copy_24 : decode cX1_copy 24 = .ok (.getfield 19, 3) := by decide +kernel
theorem dX1_copy_27 : decode cX1_copy 27 = .ok (.iconst 0, 1) := by decide +kernel
theorem dX1_copy_28 : decode cX1_copy 28 = .ok (.aload_n 0, 1) := by decide +kernel
theorem dX1_copy_29 : decode cX1_copy 29 = .ok (.getfield 19, 3) := by decide +kernel
theorem dX1_copy_32 : decode cX1_copy 32 = .ok (.iconst 0, 1) := by decide +kernel
theorem dX1_copy_33 : decode cX1_copy 33 = .ok (.bipush 12, 2) := by decide +kernel
theorem dX1_copy_35 : decode cX1_copy 35 = .ok (.invokestatic 53, 3) := by decide +kernel
theorem dX1_copy_38 : decode cX1_copy 38 = .ok (.aload_n 1, 1) := by decide +kernel
theorem dX1_copy_39 : decode cX1_copy 39 = .ok (.getfield 22, 3) := by decide +kernel
theorem dX1_copy_42 : decode cX1_copy 42 = .ok (.iconst 0, 1) := by decide +kernel
theorem dX1_copy_43 : decode cX1_copy 43 = .ok (.aload_n 0, 1) := by decide +kernel
theorem dX1_copy_44 : decode cX1_copy 44 = .ok (.getfield 22, 3) := by decide +kernel
theorem dX1_copy_47 : decode cX1_copy 47 = .ok (.iconst 0, 1) := by decide +kernel
theorem dX1_copy_48 : decode cX1_copy 48 = .ok (.bipush 12, 2) := by decide +kernel
theorem dX1_copy_50 : decode cX1_copy 50 = .ok (.invokestatic 53, 3) := by decide +kernel
theorem dX1_copy_53 : decode cX1_copy 53 = .ok (.aload_n 1, 1) := by decide +kernel
theorem dX1_copy_54 : decode cX1_copy 54 = .ok (.getfield 25, 3) := by decide +kernel
theorem dX1_copy_57 : decode cX1_copy 57 = .ok (.iconst 0, 1) := by decide +kernel
theorem dX1_copy_58 : decode cX1_copy 58 = .ok (.aload_n 0, 1) := by decide +kernel
theorem dX1_copy_59 : decode cX1_copy 59 = .ok (.getfield 25, 3) := by decide +kernel
theorem dX1_copy_62 : decode cX1_copy 62 = .ok (.iconst 0, 1) := by decide +kernel
theorem dX1_copy_63 : decode cX1_copy 63 = .ok (.bipush 12, 2) := by decide +kernel
theorem dX1_copy_65 : decode cX1_copy 65 = .ok (.invokestatic 53, 3) := by decide +kernel
theorem dX1_copy_68 : decode cX1_copy 68 = .ok (.return_, 1) := by decide +kernel
theorem dX2_init_0 : decode cX2_init 0 = .ok (.aload_n 0, 1) := by decide +kernel
theorem dX2_init_1 : decode cX2_init 1 = .ok (.invokespecial 3, 3) := by decide +kernel
theorem dX2_init_4 : decode cX2_init 4 = .ok (.aload_n 0, 1) := by decide +kernel
theorem dX2_init_5 : decode cX2_init 5 = .ok (.iconst (-1), 1) := by decide +kernel
theorem dX2_init_6 : decode cX2_init 6 = .ok (.putfield 9, 3) := by decide +kernel
theorem dX2_init_9 : decode cX2_init 9 = .ok (.aload_n 0, 1) := by decide +kernel
theorem dX2_init_10 : decode cX2_init 10 = .ok (.iconst 0, 1) := by decide +kernel
theorem dX2_init_11 : decode cX2_init 11 = .ok (.putfield 15, 3) := by decide +kernel
theorem dX2_init_14 : decode cX2_init 14 = .ok (.aload_n 0, 1) := by decide +kernel
theorem dX2_init_15 : decode cX2_init 15 = .ok (.iconst 0, 1) := by decide +kernel
theorem dX2_init_16 : decode cX2_init 16 = .ok (.putfield 18, 3) := by decide +kernel
theorem dX2_init_19 : decode cX2_init 19 = .ok (.aload_n 0, 1) := by decide +kernel
theorem dX2_init_20 : decode cX2_init 20 = .ok (.bipush 60, 2) := by decide +kernel
theorem dX2_init_22 : decode cX2_init 22 = .ok (.newarray .int, 2) := by decide +kernel
theorem dX2_init_24 : decode cX2_init 24 = .ok (.putfield 21, 3) := by decide +kernel
theorem dX2_init_27 : decode cX2_init 27 = .ok (.aload_n 0, 1) := by decide +kernel
theorem dX2_init_28 : decode cX2_init 28 = .ok (.iconst 5, 1) := by decide +kernel
theorem dX2_init_29 : decode cX2_init 29 = .ok (.newarray .int, 2) := by decide +kernel
theorem dX2_init_31 : decode cX2_init 31 = .ok (.putfield 25, 3) := by decide +kernel
theorem dX2_init_34 : decode cX2_init 34 = .ok (.aload_n 0, 1) := by decide +kernel
theorem dX2_init_35 : decode cX2_init 35 = .ok (.iconst 5, 1) := by decide +kernel
theorem dX2_init_36 : decode cX2_init 36 = .ok (.newarray .int, 2) := by decide +kernel
theorem dX2_init_38 : decode cX2_init 38 = .ok (.putfield 28, 3) := by decide +kernel
theorem dX2_init_41 : decode cX2_init 41 = .ok (.return_, 1) := by decide +kernel
theorem dX2_search_0 : decode cX2_search 0 = .ok (.aload_n 0, 1) := by decide +kernel
theorem dX2_search_1 : decode cX2_search 1 = .ok (.iconst 5, 1) := by decide +kernel
theorem dX2_search_2 : decode cX2_search 2 = .ok (.iload_n 2, 1) := by decide +kernel
theorem dX2_search_3 : decode cX2_search 3 = .ok (.invokestatic 31, 3) := by decide +kernel
theorem dX2_search_6 : decode cX2_search 6 = .ok (.putfield 15, 3) := by decide +kernel
theorem dX2_search_9 : decode cX2_search 9 = .ok (.aload_n 0, 1) := by decide +kernel
theorem dX2_search_10 : decode cX2_search 10 = .ok (.aload_n 3, 1) := by decide +kernel
theorem dX2_search_11 : decode cX2_search 11 = .ok (.getfield 37, 3) := by decide +kernel
theorem dX2_search_14 : decode cX2_search 14 = .ok (.putfield 18, 3) := by decide +kernel
theorem dX2_search_17 : decode cX2_search 17 = .ok (.aload_n 0, 1) := by decide +kernel
theorem dX2_search_18 : decode cX2_search 18 = .ok (.iconst (-1), 1) := by decide +kernel
theorem dX2_search_19 : decode cX2_search 19 = .ok (.putfield 9, 3) := by decide +kernel
theorem dX2_search_22 : decode cX2_search 22 = .ok (.aload_n 0, 1) := by decide +kernel
theorem dX2_search_23 : decode cX2_search 23 = .ok (.getfield 15, 3) := by decide +kernel
theorem dX2_search_26 : decode cX2_search 26 = .ok (.aload_n 0, 1) := by decide +kernel
theorem dX2_search_27 : decode cX2_search 27 = .ok (.getfield 18, 3) := by decide +kernel
theorem dX2_search_30 : decode cX2_search 30 = .ok (.if_icmp .le 9, 3) := by decide +kernel
theorem dX2_search_33 : decode cX2_search 33 = .ok (.aload_n 0, 1) := by decide +kernel
theorem dX2_search_34 : decode cX2_search 34 = .ok (.iconst 0, 1) := by decide +kernel
theorem dX2_search_35 : decode cX2_search 35 = .ok (.putfield 15, 3) := by decide +kernel
theorem dX2_search_38 : decode cX2_search 38 = .ok (.return_, 1) := by decide +kernel
theorem dX2_search_39 : decode cX2_search 39 = .ok (.iconst 0, 1) := by decide +kernel
theorem dX2_search_40 : decode cX2_search 40 = .ok (.istore 4, 2) := by decide +kernel
theorem dX2_search_42 : decode cX2_search 42 = .ok (.iload 4, 2) := by decide +kernel
theorem dX2_search_44 : decode cX2_search 44 = .ok (.aload_n 0, 1) := by decide +kernel
theorem dX2_search_45 : decode cX2_search 45 = .ok (.getfield 15, 3) := by decide +kernel
theorem dX2_search_48 : decode cX2_search 48 = .ok (.if_icmp .ge 49, 3) := by decide +kernel
theorem dX2_search_51 : decode cX2_search 51 = .ok (.iconst 0, 1) := by decide +kernel
theorem dX2_search_52 : decode cX2_search 52 = .ok (.istore 5, 2) := by decide +kernel
theorem dX2_search_54 : decode cX2_search 54 = .ok (.iload 5, 2) := by decide +kernel
theorem dX2_search_56 : decode cX2_search 56 = .ok (.aload_n 0, 1) := by decide +kernel
theorem dX2_search_57 : decode cX2_search 57 = .ok (.getfield 18, 3) := by decide +kernel
theorem dX2_search_60 : decode cX2_search 60 = .ok (.if_icmp .ge 31, 3) := by decide +kernel
theorem dX2_search_63 : decode cX2_search 63 = .ok (.aload_n 0, 1) := by decide +kernel
theorem dX2_search_64 : decode cX2_search 64 = .ok (.getfield 21, 3) := by decide +kernel
theorem dX2_search_67 : decode cX2_search 67 = .ok (.iload 4, 2) := by decide +kernel
theorem dX2_search_69 : decode cX2_search 69 = .ok (.bipush 12, 2) := by decide +kernel
theorem dX2_search_71 : decode cX2_search 71 = .ok (.imul, 1) := by decide +kernel
theorem dX2_search_72 : decode cX2_search 72 = .ok (.iload 5, 2) := by decide +kernel
theorem dX2_search_74 : decode cX2_search 74 = .ok (.iadd, 1) := by decide +kernel
theorem dX2_search_75 : decode cX2_search 75 = .ok (.aload_n 1, 1) := by decide +kernel
theorem dX2_search_76 : decode cX2_search 76 = .ok (.iload 4, 2) := by decide +kernel
theorem dX2_search_78 : decode cX2_search 78 = .ok (.aload_n 3, 1) := by decide +kernel
theorem dX2_search_79 : decode cX2_search 79 = .ok (.iload 5, 2) := by decide +kernel
theorem dX2_search_81 : decode cX2_search 81 = .ok (.invokestatic 42, 3) := by decide +kernel
theorem dX2_search_84 : decode cX2_search 84 = .ok (.iastore, 1) := by decide +kernel
theorem dX2_search_85 : decode cX2_search 85 = .ok (.iinc 5 1, 3) := by decide +kernel
theorem dX2_search_88 : decode cX2_search 88 = .ok (.goto (-34), 3) := by decide +kernel
theorem dX2_search_91 : decode cX2_search 91 = .ok (.iinc 4 1, 3) := by decide +kernel
theorem dX2_search_94 : decode cX2_search 94 = .ok (.goto (-52), 3) := by decide +kernel
theorem dX2_search_97 : decode cX2_search 97 = .ok (.aload_n 0, 1) := by decide +kernel
theorem dX2_search_98 : decode cX2_search 98 = .ok (.iconst 0, 1) := by decide +kernel
theorem dX2_search_99 : decode cX2_search 99 = .ok (.iconst 0, 1) := by decide +kernel
theorem dX2_search_100 : decode cX2_search 100 = .ok (.iconst 0, 1) := by decide +kernel
theorem dX2_search_101 : decode cX2_search 101 = .ok (.invokevirtual 46, 3) := by decide +kernel
theorem dX2_search_104 : decode cX2_search 104 = .ok (.return_, 1) := by decide +kernel
theorem dX2_farFrom_0 : decode cX2_farFrom 0 = .ok (.iconst 0, 1) := by decide +kernel
theorem dX2_farFrom_1 : decode cX2_farFrom 1 = .ok (.istore 4, 2) := by decide +kernel
theorem dX2_farFrom_3 : decode cX2_farFrom 3 = .ok (.iconst 0, 1) := by decide +kernel
theorem dX2_farFrom_4 : decode cX2_farFrom 4 = .ok (.istore 5, 2) := by decide +kernel
theorem dX2_farFrom_6 : decode cX2_farFrom 6 = .ok (.iload 5, 2) := by decide +kernel
theorem dX2_farFrom_8 : decode cX2_farFrom 8 = .ok (.iconst 5, 1) := by decide +kernel
theorem dX2_farFrom_9 : decode cX2_farFrom 9 = .ok (.if_icmp .ge 60, 3) := by decide +kernel
theorem dX2_farFrom_12 : decode cX2_farFrom 12 = .ok (.iload_n 1, 1) := by decide +kernel
theorem dX2_farFrom_13 : decode cX2_farFrom 13 = .ok (.iconst 5, 1) := by decide +kernel
theorem dX2_farFrom_14 : decode cX2_farFrom 14 = .ok (.imul, 1) := by decide +kernel
theorem dX2_farFrom_15 : decode cX2_farFrom 15 = .ok (.iload 5, 2) := by decide +kernel
theorem dX2_farFrom_17 : decode cX2_farFrom 17 = .ok (.iadd, 1) := by decide +kernel
theorem dX2_farFrom_18 : decode cX2_farFrom 18 = .ok (.aload_n 0, 1) := by decide +kernel
theorem dX2_farFrom_19 : decode cX2_farFrom 19 = .ok (.arraylength, 1) := by decide +kernel
theorem dX2_farFrom_20 : decode cX2_farFrom 20 = .ok (.if_icmp .ge 49, 3) := by decide +kernel
theorem dX2_farFrom_23 : decode cX2_farFrom 23 = .ok (.aload_n 0, 1) := by decide +kernel
theorem dX2_farFrom_24 : decode cX2_farFrom 24 = .ok (.iload_n 1, 1) := by decide +kernel
theorem dX2_farFrom_25 : decode cX2_farFrom 25 = .ok (.iconst 5, 1) := by decide +kernel
theorem dX2_farFrom_26 : decode cX2_farFrom 26 = .ok (.imul, 1) := by decide +kernel
theorem dX2_farFrom_27 : decode cX2_farFrom 27 = .ok (.iload 5, 2) := by decide +kernel
theorem dX2_farFrom_29 : decode cX2_farFrom 29 = .ok (.iadd, 1) := by decide +kernel
theorem dX2_farFrom_30 : decode cX2_farFrom 30 = .ok (.iaload, 1) := by decide +kernel
theorem dX2_farFrom_31 : decode cX2_farFrom 31 = .ok (.aload_n 2, 1) := by decide +kernel
theorem dX2_farFrom_32 : decode cX2_farFrom 32 = .ok (.getfield 50, 3) := by decide +kernel
theorem dX2_farFrom_35 : decode cX2_farFrom 35 = .ok (.iload_n 3, 1) := by decide +kernel
theorem dX2_farFrom_36 : decode cX2_farFrom 36 = .ok (.iconst 5, 1) := by decide +kernel
theorem dX2_farFrom_37 : decode cX2_farFrom 37 = .ok (.imul, 1) := by decide +kernel
theorem dX2_farFrom_38 : decode cX2_farFrom 38 = .ok (.iload 5, 2) := by decide +kernel
theorem dX2_farFrom_40 : decode cX2_farFrom 40 = .ok (.iadd, 1) := by decide +kernel
theorem dX2_farFrom_41 : decode cX2_farFrom 41 = .ok (.iaload, 1) := by decide +kernel
theorem dX2_farFrom_42 : decode cX2_farFrom 42 = .ok (.isub, 1) := by decide +kernel
theorem dX2_farFrom_43 : decode cX2_farFrom 43 = .ok (.istore 6, 2) := by decide +kernel
theorem dX2_farFrom_45 : decode cX2_farFrom 45 = .ok (.iload 4, 2) := by decide +kernel
theorem dX2_farFrom_47 : decode cX2_farFrom 47 = .ok (.iload 6, 2) := by decide +kernel
theorem dX2_farFrom_49 : decode cX2_farFrom 49 = .ok (.ifCond .ge 9, 3) := by decide +kernel
theorem dX2_farFrom_52 : decode cX2_farFrom 52 = .ok (.iload 6, 2) := by decide +kernel
theorem dX2_farFrom_54 : decode cX2_farFrom 54 = .ok (.ineg, 1) := by decide +kernel
theorem dX2_farFrom_55 : decode cX2_farFrom 55 = .ok (.goto 5, 3) := by decide +kernel
theorem dX2_farFrom_58 : decode cX2_farFrom 58 = .ok (.iload 6, 2) := by decide +kernel
theorem dX2_farFrom_60 : decode cX2_farFrom 60 = .ok (.iadd, 1) := by decide +kernel
theorem dX2_farFrom_61 : decode cX2_farFrom 61 = .ok (.istore 4, 2) := by decide +kernel
theorem dX2_farFrom_63 : decode cX2_farFrom 63 = .ok (.iinc 5 1, 3) := by decide +kernel
theorem dX2_farFrom_66 : decode cX2_farFrom 66 = .ok (.goto (-60), 3) := by decide +kernel
theorem dX2_farFrom_69 : decode cX2_farFrom 69 = .ok (.iload 4, 2) := by decide +kernel
theorem dX2_farFrom_71 : decode cX2_farFrom 71 = .ok (.ireturn, 1) := by decide +kernel
theorem dX2_goOn_0 : decode cX2_goOn 0 = .ok (.aload_n 0, 1) := by decide +kernel
theorem dX2_goOn_1 : decode cX2_goOn 1 = .ok (.getfield 9, 3) := by decide +kernel
theorem dX2_goOn_4 : decode cX2_goOn 4 = .ok (.iconst (-1), 1) := by decide +kernel
theorem dX2_goOn_5 : decode cX2_goOn 5 = .ok (.if_icmp .eq 12, 3) := by decide +kernel
theorem dX2_goOn_8 : decode cX2_goOn 8 = .ok (.iload_n 3, 1) := by decide +kernel
theorem dX2_goOn_9 : decode cX2_goOn 9 = .ok (.aload_n 0, 1) := by decide +kernel
theorem dX2_goOn_10 : decode cX2_goOn 10 = .ok (.getfield 9, 3) := by decide +kernel
theorem dX2_goOn_13 : decode cX2_goOn 13 = .ok (.if_icmp .lt 4, 3) := by decide +kernel
theorem dX2_goOn_16 : decode cX2_goOn 16 = .ok (.return_, 1) := by decide +kernel
theorem dX2_goOn_17 : decode cX2_goOn 17 = .ok (.iload_n 1, 1) := by decide +kernel
theorem dX2_goOn_18 : decode cX2_goOn 18 = .ok (.aload_n 0, 1) := by decide +kernel
theorem dX2_goOn_19 : decode cX2_goOn 19 = .ok (.getfield 15, 3) := by decide +kernel
theorem dX2_goOn_22 : decode cX2_goOn 22 = .ok (.if_icmp .ge 8, 3) := by decide +kernel
theorem dX2_goOn_25 : decode cX2_goOn 25 = .ok (.iload_n 1, 1) := by decide +kernel
theorem dX2_goOn_26 : decode cX2_goOn 26 = .ok (.iconst 5, 1) := by decide +kernel
theorem dX2_goOn_27 : decode cX2_goOn 27 = .ok (.if_icmp .lt 26, 3) := by decide +kernel
theorem dX2_goOn_30 : decode cX2_goOn 30 = .ok (.aload_n 0, 1) := by decide +kernel
theorem dX2_goOn_31 : decode cX2_goOn 31 = .ok (.iload_n 3, 1) := by decide +kernel
theorem dX2_goOn_32 : decode cX2_goOn 32 = .ok (.putfield 9, 3) := by decide +kernel
theorem dX2_goOn_35 : decode cX2_goOn 35 = .ok (.aload_n 0, 1) := by decide +kernel
theorem dX2_goOn_36 : decode cX2_goOn 36 = .ok (.getfield 25, 3) := by decide +kernel
theorem dX2_goOn_39 : decode cX2_goOn 39 = .ok (.iconst 0, 1) := by decide +kernel
theorem dX2_goOn_40 : decode cX2_goOn 40 = .ok (.aload_n 0, 1) := by decide +kernel
theorem dX2_goOn_41 : decode cX2_goOn 41 = .ok (.getfield 28, 3) := by decide +kernel
theorem dX2_goOn_44 : decode cX2_goOn 44 = .ok (.iconst 0, 1) := by decide +kernel
theorem dX2_goOn_45 : decode cX2_goOn 45 = .ok (.aload_n 0, 1) := by decide +kernel
theorem dX2_goOn_46 : decode cX2_goOn 46 = .ok (.getfield 15, 3) := by decide +kernel
theorem dX2_goOn_49 : decode cX2_goOn 49 = .ok (.invokestatic 53, 3) := by decide +kernel
theorem dX2_goOn_52 : decode cX2_goOn 52 = .ok (.return_, 1) := by decide +kernel
theorem dX2_goOn_53 : decode cX2_goOn 53 = .ok (.iconst 0, 1) := by decide +kernel
theorem dX2_goOn_54 : decode cX2_goOn 54 = .ok (.istore 4, 2) := by decide +kernel
theorem dX2_goOn_56 : decode cX2_goOn 56 = .ok (.iload 4, 2) := by decide +kernel
theorem dX2_goOn_58 : decode cX2_goOn 58 = .ok (.aload_n 0, 1) := by decide +kernel
theorem dX2_goOn_59 : decode cX2_goOn 59 = .ok (.getfield 18, 3) := by decide +kernel
theorem dX2_goOn_62 : decode cX2_goOn 62 = .ok (.if_icmp .ge 63, 3) := by decide +kernel
theorem dX2_goOn_65 : decode cX2_goOn 65 = .ok (.iload_n 2, 1) := by decide +kernel
theorem dX2_goOn_66 : decode cX2_goOn 66 = .ok (.iload 4, 2) := by decide +kernel
theorem dX2_goOn_68 : decode cX2_goOn 68 = .ok (.ishr, 1) := by decide +kernel
theorem dX2_goOn_69 : decode cX2_goOn 69 = .ok (.iconst 1, 1) := by decide +kernel
theorem dX2_goOn_70 : decode cX2_goOn 70 = .ok (.iand, 1) := by decide +kernel
theorem dX2_goOn_71 : decode cX2_goOn 71 = .ok (.ifCond .ne 48, 3) := by decide +kernel
theorem dX2_goOn_74 : decode cX2_goOn 74 = .ok (.aload_n 0, 1) := by decide +kernel
theorem dX2_goOn_75 : decode cX2_goOn 75 = .ok (.iload_n 1, 1) := by decide +kernel
theorem dX2_goOn_76 : decode cX2_goOn 76 = .ok (.iload 4, 2) := by decide +kernel
theorem dX2_goOn_78 : decode cX2_goOn 78 = .ok (.invokevirtual 59, 3) := by decide +kernel
theorem dX2_goOn_81 : decode cX2_goOn 81 = .ok (.ifCond .eq 38, 3) := by decide +kernel
theorem dX2_goOn_84 : decode cX2_goOn 84 = .ok (.aload_n 0, 1) := by decide +kernel
theorem dX2_goOn_85 : decode cX2_goOn 85 = .ok (.getfield 25, 3) := by decide +kernel
theorem dX2_goOn_88 : decode cX2_goOn 88 = .ok (.iload_n 1, 1) := by decide +kernel
theorem dX2_goOn_89 : decode cX2_goOn 89 = .ok (.iload 4, 2) := by decide +kernel
theorem dX2_goOn_91 : decode cX2_goOn 91 = .ok (.iastore, 1) := by decide +kernel
theorem dX2_goOn_92 : decode cX2_goOn 92 = .ok (.aload_n 0, 1) := by decide +kernel
theorem dX2_goOn_93 : decode cX2_goOn 93 = .ok (.iload_n 1, 1) := by decide +kernel
theorem dX2_goOn_94 : decode cX2_goOn 94 = .ok (.iconst 1, 1) := by decide +kernel
theorem dX2_goOn_95 : decode cX2_goOn 95 = .ok (.iadd, 1) := by decide +kernel
theorem dX2_goOn_96 : decode cX2_goOn 96 = .ok (.iload_n 2, 1) := by decide +kernel
theorem dX2_goOn_97 : decode cX2_goOn 97 = .ok (.iconst 1, 1) := by decide +kernel
theorem dX2_goOn_98 : decode cX2_goOn 98 = .ok (.iload 4, 2) := by decide +kernel
theorem dX2_goOn_100 : decode cX2_goOn 100 = .ok (.ishl, 1) := by decide +kernel
theorem dX2_goOn_101 : decode cX2_goOn 101 = .ok (.ior, 1) := by decide +kernel
theorem dX2_goOn_102 : decode cX2_goOn 102 = .ok (.iload_n 3, 1) := by decide +kernel
theorem dX2_goOn_103 : decode cX2_goOn 103 = .ok (.aload_n 0, 1) := by decide +kernel
theorem dX2_goOn_104 : decode cX2_goOn 104 = .ok (.getfield 21, 3) := by decide +kernel
theorem dX2_goOn_107 : decode cX2_goOn 107 = .ok (.iload_n 1, 1) := by decide +kernel
theorem dX2_goOn_108 : decode cX2_goOn 108 = .ok (.bipush 12, 2) := by decide +kernel
theorem dX2_goOn_110 : decode cX2_goOn 110 = .ok (.imul, 1) := by decide +kernel
theorem dX2_goOn_111 : decode cX2_goOn 111 = .ok (.iload 4, 2) := by decide +kernel
theorem dX2_goOn_113 : decode cX2_goOn 113 = .ok (.iadd, 1) := by decide +kernel
theorem dX2_goOn_114 : decode cX2_goOn 114 = .ok (.iaload, 1) := by decide +kernel
theorem dX2_goOn_115 : decode cX2_goOn 115 = .ok (.iadd, 1) := by decide +kernel
theorem dX2_goOn_116 : decode cX2_goOn 116 = .ok (.invokevirtual 46, 3) := by decide +kernel
theorem dX2_goOn_119 : decode cX2_goOn 119 = .ok (.iinc 4 1, 3) := by decide +kernel
theorem dX2_goOn_122 : decode cX2_goOn 122 = .ok (.goto (-66), 3) := by decide +kernel
theorem dX2_goOn_125 : decode cX2_goOn 125 = .ok (.return_, 1) := by decide +kernel
theorem dX2_isWorthwhile_0 : decode cX2_isWorthwhile 0 = .ok (.iload_n 1, 1) := by decide +kernel
theorem dX2_isWorthwhile_1 : decode cX2_isWorthwhile 1 = .ok (.bipush 12, 2) := by decide +kernel
theorem dX2_isWorthwhile_3 : decode cX2_isWorthwhile 3 = .ok (.imul, 1) := by decide +kernel
theorem dX2_isWorthwhile_4 : decode cX2_isWorthwhile 4 = .ok (.istore_n 3, 1) := by decide +kernel
theorem dX2_isWorthwhile_5 : decode cX2_isWorthwhile 5 = .ok (.iconst 0, 1) := by decide +kernel
theorem dX2_isWorthwhile_6 : decode cX2_isWorthwhile 6 = .ok (.istore 4, 2) := by decide +kernel
theorem dX2_isWorthwhile_8 : decode cX2_isWorthwhile 8 = .ok (.iconst 0, 1) := by decide +kernel
theorem dX2_isWorthwhile_9 : decode cX2_isWorthwhile 9 = .ok (.istore 5, 2) := by decide +kernel
theorem dX2_isWorthwhile_11 : decode cX2_isWorthwhile 11 = .ok (.iload 5, 2) := by decide +kernel
theorem dX2_isWorthwhile_13 : decode cX2_isWorthwhile 13 = .ok (.aload_n 0, 1) := by decide +kernel
theorem dX2_isWorthwhile_14 : decode cX2_isWorthwhile 14 = .ok (.getfield 18, 3) := by decide +kernel
theorem dX2_isWorthwhile_17 : decode cX2_isWorthwhile 17 = .ok (.if_icmp .ge 48, 3) := by decide +kernel
theorem dX2_isWorthwhile_20 : decode cX2_isWorthwhile 20 = .ok (.aload_n 0, 1) := by decide +kernel
theorem dX2_isWorthwhile_21 : decode cX2_isWorthwhile 21 = .ok (.getfield 21, 3) := by decide +kernel
theorem dX2_isWorthwhile_24 : decode cX2_isWorthwhile 24 = .ok (.iload_n 3, 1) := by decide +kernel
theorem dX2_isWorthwhile_25 : decode cX2_isWorthwhile 25 = .ok (.iload 5, 2) := by decide +kernel
theorem dX2_isWorthwhile_27 : decode cX2_isWorthwhile 27 = .ok (.iadd, 1) := by decide +kernel
theorem dX2_isWorthwhile_28 : decode cX2_isWorthwhile 28 = .ok (.iaload, 1) := by decide +kernel
theorem dX2_isWorthwhile_29 : decode cX2_isWorthwhile 29 = .ok (.aload_n 0, 1) := by decide +kernel
theorem dX2_isWorthwhile_30 : decode cX2_isWorthwhile 30 = .ok (.getfield 21, 3) := by decide +kernel
theorem dX2_isWorthwhile_33 : decode cX2_isWorthwhile 33 = .ok (.iload_n 3, 1) := by decide +kernel
theorem dX2_isWorthwhile_34 : decode cX2_isWorthwhile 34 = .ok (.iload_n 2, 1) := by decide +kernel
theorem dX2_isWorthwhile_35 : decode cX2_isWorthwhile 35 = .ok (.iadd, 1) := by decide +kernel
theorem dX2_isWorthwhile_36 : decode cX2_isWorthwhile 36 = .ok (.iaload, 1) := by decide +kernel
theorem dX2_isWorthwhile_37 : decode cX2_isWorthwhile 37 = .ok (.isub, 1) := by decide +kernel
theorem dX2_isWorthwhile_38 : decode cX2_isWorthwhile 38 = .ok (.istore 6, 2) := by decide +kernel
theorem dX2_isWorthwhile_40 : decode cX2_isWorthwhile 40 = .ok (.iload 6, 2) := by decide +kernel
theorem dX2_isWorthwhile_42 : decode cX2_isWorthwhile 42 = .ok (.ifCond .lt 14, 3) := by decide +kernel
theorem dX2_isWorthwhile_45 : decode cX2_isWorthwhile 45 = .ok (.iload 6, 2) := by decide +kernel
theorem dX2_isWorthwhile_47 : decode cX2_isWorthwhile 47 = .ok (.ifCond .ne 12, 3) := by decide +kernel
theorem dX2_isWorthwhile_50 : decode cX2_isWorthwhile 50 = .ok (.iload 5, 2) := by decide +kernel
theorem dX2_isWorthwhile_52 : decode cX2_isWorthwhile 52 = .ok (.iload_n 2, 1) := by decide +kernel
theorem dX2_isWorthwhile_53 : decode cX2_isWorthwhile 53 = .ok (.if_icmp .ge 6, 3) := by decide +kernel
theorem dX2_isWorthwhile_56 : decode cX2_isWorthwhile 56 = .ok (.iinc 4 1, 3) := by decide +kernel
theorem dX2_isWorthwhile_59 : decode cX2_isWorthwhile 59 = .ok (.iinc 5 1, 3) := by decide +kernel
theorem dX2_isWorthwhile_62 : decode cX2_isWorthwhile 62 = .ok (.goto (-51), 3) := by decide +kernel
theorem dX2_isWorthwhile_65 : decode cX2_isWorthwhile 65 = .ok (.iload 4, 2) := by decide +kernel
theorem dX2_isWorthwhile_67 : decode cX2_isWorthwhile 67 = .ok (.aload_n 0, 1) := by decide +kernel
theorem dX2_isWorthwhile_68 : decode cX2_isWorthwhile 68 = .ok (.getfield 15, 3) := by decide +kernel
theorem dX2_isWorthwhile_71 : decode cX2_isWorthwhile 71 = .ok (.if_icmp .ge 7, 3) := by decide +kernel
theorem dX2_isWorthwhile_74 : decode cX2_isWorthwhile 74 = .ok (.iconst 1, 1) := by decide +kernel
theorem dX2_isWorthwhile_75 : decode cX2_isWorthwhile 75 = .ok (.goto 4, 3) := by decide +kernel
theorem dX2_isWorthwhile_78 : decode cX2_isWorthwhile 78 = .ok (.iconst 0, 1) := by decide +kernel
theorem dX2_isWorthwhile_79 : decode cX2_isWorthwhile 79 = .ok (.ireturn, 1) := by decide +kernel
theorem dX2_nth_0 : decode cX2_nth 0 = .ok (.iload_n 1, 1) := by decide +kernel
theorem dX2_nth_1 : decode cX2_nth 1 = .ok (.ifCond .lt 20, 3) := by decide +kernel
theorem dX2_nth_4 : decode cX2_nth 4 = .ok (.iload_n 1, 1) := by decide +kernel
theorem dX2_nth_5 : decode cX2_nth 5 = .ok (.aload_n 0, 1) := by decide +kernel
theorem dX2_nth_6 : decode cX2_nth 6 = .ok (.getfield 15, 3) := by decide +kernel
theorem dX2_nth_9 : decode cX2_nth 9 = .ok (.if_icmp .ge 12, 3) := by decide +kernel
theorem dX2_nth_12 : decode cX2_nth 12 = .ok (.aload_n 0, 1) := by decide +kernel
theorem dX2_nth_13 : decode cX2_nth 13 = .ok (.getfield 28, 3) := by decide +kernel
theorem dX2_nth_16 : decode cX2_nth 16 = .ok (.iload_n 1, 1) := by decide +kernel
theorem dX2_nth_17 : decode cX2_nth 17 = .ok (.iaload, 1) := by decide +kernel
theorem dX2_nth_18 : decode cX2_nth 18 = .ok (.goto 4, 3) := by decide +kernel
theorem dX2_nth_21 : decode cX2_nth 21 = .ok (.iconst (-1), 1) := by decide +kernel
theorem dX2_nth_22 : decode cX2_nth 22 = .ok (.ireturn, 1) := by decide +kernel
theorem dX3_init_0 : decode cX3_init 0 = .ok (.aload_n 0, 1) := by decide +kernel
theorem dX3_init_1 : decode cX3_init 1 = .ok (.invokespecial 3, 3) := by decide +kernel
theorem dX3_init_4 : decode cX3_init 4 = .ok (.aload_n 0, 1) := by decide +kernel
theorem dX3_init_5 : decode cX3_init 5 = .ok (.new 9, 3) := by decide +kernel
theorem dX3_init_8 : decode cX3_init 8 = .ok (.dup, 1) := by decide +kernel
theorem dX3_init_9 : decode cX3_init 9 = .ok (.invokespecial 11, 3) := by decide +kernel
theorem dX3_init_12 : decode cX3_init 12 = .ok (.putfield 12, 3) := by decide +kernel
theorem dX3_init_15 : decode cX3_init 15 = .ok (.aload_n 0, 1) := by decide +kernel
theorem dX3_init_16 : decode cX3_init 16 = .ok (.iconst 0, 1) := by decide +kernel
theorem dX3_init_17 : decode cX3_init 17 = .ok (.putfield 18, 3) := by decide +kernel
theorem dX3_init_20 : decode cX3_init 20 = .ok (.aload_n 0, 1) := by decide +kernel
theorem dX3_init_21 : decode cX3_init 21 = .ok (.sipush 500, 3) := by decide +kernel
theorem dX3_init_24 : decode cX3_init 24 = .ok (.putfield 22, 3) := by decide +kernel
theorem dX3_init_27 : decode cX3_init 27 = .ok (.aload_n 0, 1) := by decide +kernel
theorem dX3_init_28 : decode cX3_init 28 = .ok (.sipush 500, 3) := by decide +kernel
theorem dX3_init_31 : decode cX3_init 31 = .ok (.putfield 25, 3) := by decide +kernel
theorem dX3_init_34 : decode cX3_init 34 = .ok (.aload_n 0, 1) := by decide +kernel
theorem dX3_init_35 : decode cX3_init 35 = .ok (.iconst 0, 1) := by decide +kernel
theorem dX3_init_36 : decode cX3_init 36 = .ok (.putfield 28, 3) := by decide +kernel
theorem dX3_init_39 : decode cX3_init 39 = .ok (.aload_n 0, 1) := by decide +kernel
theorem dX3_init_40 : decode cX3_init 40 = .ok (.iconst 0, 1) := by decide +kernel
theorem dX3_init_41 : decode cX3_init 41 = .ok (.putfield 31, 3) := by decide +kernel
theorem dX3_init_44 : decode cX3_init 44 = .ok (.aload_n 0, 1) := by decide +kernel
theorem dX3_init_45 : decode cX3_init 45 = .ok (.iconst 0, 1) := by decide +kernel
theorem dX3_init_46 : decode cX3_init 46 = .ok (.putfield 34, 3) := by decide +kernel
theorem dX3_init_49 : decode cX3_init 49 = .ok (.aload_n 0, 1) := by decide +kernel
theorem dX3_init_50 : decode cX3_init 50 = .ok (.iconst 5, 1) := by decide +kernel
theorem dX3_init_51 : decode cX3_init 51 = .ok (.putfield 37, 3) := by decide +kernel
theorem dX3_init_54 : decode cX3_init 54 = .ok (.aload_n 0, 1) := by decide +kernel
theorem dX3_init_55 : decode cX3_init 55 = .ok (.iconst 0, 1) := by decide +kernel
theorem dX3_init_56 : decode cX3_init 56 = .ok (.putfield 40, 3) := by decide +kernel
theorem dX3_init_59 : decode cX3_init 59 = .ok (.aload_n 0, 1) := by decide +kernel
theorem dX3_init_60 : decode cX3_init 60 = .ok (.iconst 0, 1) := by decide +kernel
theorem dX3_init_61 : decode cX3_init 61 = .ok (.putfield 43, 3) := by decide +kernel
theorem dX3_init_64 : decode cX3_init 64 = .ok (.aload_n 0, 1) := by decide +kernel
theorem dX3_init_65 : decode cX3_init 65 = .ok (.iconst 0, 1) := by decide +kernel
theorem dX3_init_66 : decode cX3_init 66 = .ok (.putfield 46, 3) := by decide +kernel
theorem dX3_init_69 : decode cX3_init 69 = .ok (.aload_n 0, 1) := by decide +kernel
theorem dX3_init_70 : decode cX3_init 70 = .ok (.iconst 0, 1) := by decide +kernel
theorem dX3_init_71 : decode cX3_init 71 = .ok (.putfield 49, 3) := by decide +kernel
theorem dX3_init_74 : decode cX3_init 74 = .ok (.aload_n 0, 1) := by decide +kernel
theorem dX3_init_75 : decode cX3_init 75 = .ok (.iconst 1, 1) := by decide +kernel
theorem dX3_init_76 : decode cX3_init 76 = .ok (.putfield 52, 3) := by decide +kernel
theorem dX3_init_79 : decode cX3_init 79 = .ok (.aload_n 0, 1) := by decide +kernel
theorem dX3_init_80 : decode cX3_init 80 = .ok (.iconst 0, 1) := by decide +kernel
theorem dX3_init_81 : decode cX3_init 81 = .ok (.putfield 55, 3) := by decide +kernel
theorem dX3_init_84 : decode cX3_init 84 = .ok (.aload_n 0, 1) := by decide +kernel
theorem dX3_init_85 : decode cX3_init 85 = .ok (.iconst 1, 1) := by decide +kernel
theorem dX3_init_86 : decode cX3_init 86 = .ok (.putfield 58, 3) := by decide +kernel
theorem dX3_init_89 : decode cX3_init 89 = .ok (.return_, 1) := by decide +kernel
theorem dX3_takes_0 : decode cX3_takes 0 = .ok (.aload_n 0, 1) := by decide +kernel
theorem dX3_takes_1 : decode cX3_takes 1 = .ok (.getfield 28, 3) := by decide +kernel
theorem dX3_takes_4 : decode cX3_takes 4 = .ok (.bipush 99, 2) := by decide +kernel
theorem dX3_takes_6 : decode cX3_takes 6 = .ok (.if_icmp .ge 18, 3) := by decide +kernel
theorem dX3_takes_9 : decode cX3_takes 9 = .ok (.aload_n 0, 1) := by decide +kernel
theorem dX3_takes_10 : decode cX3_takes 10 = .ok (.getfield 12, 3) := by decide +kernel
theorem dX3_takes_13 : decode cX3_takes 13 = .ok (.iload_n 1, 1) := by decide +kernel
theorem dX3_takes_14 : decode cX3_takes 14 = .ok (.invokevirtual 61, 3) := by decide +kernel
theorem dX3_takes_17 : decode cX3_takes 17 = .ok (.ifCond .eq 7, 3) := by decide +kernel
theorem dX3_takes_20 : decode cX3_takes 20 = .ok (.iconst 1, 1) := by decide +kernel
theorem dX3_takes_21 : decode cX3_takes 21 = .ok (.goto 4, 3) := by decide +kernel
theorem dX3_takes_24 : decode cX3_takes 24 = .ok (.iconst 0, 1) := by decide +kernel
theorem dX3_takes_25 : decode cX3_takes 25 = .ok (.ireturn, 1) := by decide +kernel
theorem dX3_bite_0 : decode cX3_bite 0 = .ok (.aload_n 3, 1) := by decide +kernel
theorem dX3_bite_1 : decode cX3_bite 1 = .ok (.aload_n 0, 1) := by decide +kernel
theorem dX3_bite_2 : decode cX3_bite 2 = .ok (.iload_n 1, 1) := by decide +kernel
theorem dX3_bite_3 : decode cX3_bite 3 = .ok (.invokevirtual 65, 3) := by decide +kernel
theorem dX3_bite_6 : decode cX3_bite 6 = .ok (.aload_n 2, 1) := by decide +kernel
theorem dX3_bite_7 : decode cX3_bite 7 = .ok (.aload_n 3, 1) := by decide +kernel
theorem dX3_bite_8 : decode cX3_bite 8 = .ok (.invokevirtual 71, 3) := by decide +kernel
theorem dX3_bite_11 : decode cX3_bite 11 = .ok (.aload_n 0, 1) := by decide +kernel
theorem dX3_bite_12 : decode cX3_bite 12 = .ok (.sipush 9999, 3) := by decide +kernel
theorem dX3_bite_15 : decode cX3_bite 15 = .ok (.aload_n 0, 1) := by decide +kernel
theorem dX3_bite_16 : decode cX3_bite 16 = .ok (.getfield 55, 3) := by decide +kernel
theorem dX3_bite_19 : decode cX3_bite 19 = .ok (.aload_n 3, 1) := by decide +kernel
theorem dX3_bite_20 : decode cX3_bite 20 = .ok (.getfield 77, 3) := by decide +kernel
theorem dX3_bite_23 : decode cX3_bite 23 = .ok (.iadd, 1) := by decide +kernel
theorem dX3_bite_24 : decode cX3_bite 24 = .ok (.invokestatic 80, 3) := by decide +kernel
theorem dX3_bite_27 : decode cX3_bite 27 = .ok (.putfield 55, 3) := by decide +kernel
theorem dX3_bite_30 : decode cX3_bite 30 = .ok (.aload_n 0, 1) := by decide +kernel
theorem dX3_bite_31 : decode cX3_bite 31 = .ok (.iconst 0, 1) := by decide +kernel
theorem dX3_bite_32 : decode cX3_bite 32 = .ok (.bipush 99, 2) := by decide +kernel
theorem dX3_bite_34 : decode cX3_bite 34 = .ok (.aload_n 0, 1) := by decide +kernel
theorem dX3_bite_35 : decode cX3_bite 35 = .ok (.getfield 28, 3) := by decide +kernel
theorem dX3_bite_38 : decode cX3_bite 38 = .ok (.aload_n 3, 1) := by decide +kernel
theorem dX3_bite_39 : decode cX3_bite 39 = .ok (.getfield 86, 3) := by decide +kernel
theorem dX3_bite_42 : decode cX3_bite 42 = .ok (.iadd, 1) := by decide +kernel
theorem dX3_bite_43 : decode cX3_bite 43 = .ok (.invokestatic 80, 3) := by decide +kernel
theorem dX3_bite_46 : decode cX3_bite 46 = .ok (.invokestatic 89, 3) := by decide +kernel
theorem dX3_bite_49 : decode cX3_bite 49 = .ok (.putfield 28, 3) := by decide +kernel
theorem dX3_bite_52 : decode cX3_bite 52 = .ok (.aload_n 0, 1) := by decide +kernel
theorem dX3_bite_53 : decode cX3_bite 53 = .ok (.aload_n 3, 1) := by decide +kernel
theorem dX3_bite_54 : decode cX3_bite 54 = .ok (.getfield 92, 3) := by decide +kernel
theorem dX3_bite_57 : decode cX3_bite 57 = .ok (.iconst 1, 1) := by decide +kernel
theorem dX3_bite_58 : decode cX3_bite 58 = .ok (.iaload, 1) := by decide +kernel
theorem dX3_bite_59 : decode cX3_bite 59 = .ok (.putfield 25, 3) := by decide +kernel
theorem dX3_bite_62 : decode cX3_bite 62 = .ok (.aload_n 0, 1) := by decide +kernel
theorem dX3_bite_63 : decode cX3_bite 63 = .ok (.getfield 12, 3) := by decide +kernel
theorem dX3_bite_66 : decode cX3_bite 66 = .ok (.iload_n 1, 1) := by decide +kernel
theorem dX3_bite_67 : decode cX3_bite 67 = .ok (.invokevirtual 96, 3) := by decide +kernel
theorem dX3_bite_70 : decode cX3_bite 70 = .ok (.ifCond .ne 20, 3) := by decide +kernel
theorem dX3_bite_73 : decode cX3_bite 73 = .ok (.aload_n 0, 1) := by decide +kernel
theorem dX3_bite_74 : decode cX3_bite 74 = .ok (.getfield 12, 3) := by decide +kernel
theorem dX3_bite_77 : decode cX3_bite 77 = .ok (.iload_n 1, 1) := by decide +kernel
theorem dX3_bite_78 : decode cX3_bite 78 = .ok (.aload_n 0, 1) := by decide +kernel
theorem dX3_bite_79 : decode cX3_bite 79 = .ok (.getfield 22, 3) := by decide +kernel
theorem dX3_bite_82 : decode cX3_bite 82 = .ok (.aload_n 0, 1) := by decide +kernel
theorem dX3_bite_83 : decode cX3_bite 83 = .ok (.getfield 49, 3) := by decide +kernel
theorem dX3_bite_86 : decode cX3_bite 86 = .ok (.iconst (-1), 1) := by decide +kernel
theorem dX3_bite_87 : decode cX3_bite 87 = .ok (.invokevirtual 99, 3) := by decide +kernel
theorem dX3_bite_90 : decode cX3_bite 90 = .ok (.aload_n 0, 1) := by decide +kernel
theorem dX3_bite_91 : decode cX3_bite 91 = .ok (.dup, 1) := by decide +kernel
theorem dX3_bite_92 : decode cX3_bite 92 = .ok (.getfield 31, 3) := by decide +kernel
theorem dX3_bite_95 : decode cX3_bite 95 = .ok (.iconst 1, 1) := by decide +kernel
theorem dX3_bite_96 : decode cX3_bite 96 = .ok (.iadd, 1) := by decide +kernel
theorem dX3_bite_97 : decode cX3_bite 97 = .ok (.putfield 31, 3) := by decide +kernel
theorem dX3_bite_100 : decode cX3_bite 100 = .ok (.return_, 1) := by decide +kernel
theorem dX3_comeBack_0 : decode cX3_comeBack 0 = .ok (.aload_n 0, 1) := by decide +kernel
theorem dX3_comeBack_1 : decode cX3_comeBack 1 = .ok (.sipush 9999, 3) := by decide +kernel
theorem dX3_comeBack_4 : decode cX3_comeBack 4 = .ok (.aload_n 0, 1) := by decide +kernel
theorem dX3_comeBack_5 : decode cX3_comeBack 5 = .ok (.getfield 22, 3) := by decide +kernel
theorem dX3_comeBack_8 : decode cX3_comeBack 8 = .ok (.iconst 1, 1) := by decide +kernel
theorem dX3_comeBack_9 : decode cX3_comeBack 9 = .ok (.iadd, 1) := by decide +kernel
theorem dX3_comeBack_10 : decode cX3_comeBack 10 = .ok (.invokestatic 80, 3) := by decide +kernel
theorem dX3_comeBack_13 : decode cX3_comeBack 13 = .ok (.putfield 22, 3) := by decide +kernel
theorem dX3_comeBack_16 : decode cX3_comeBack 16 = .ok (.aload_n 0, 1) := by decide +kernel
theorem dX3_comeBack_17 : decode cX3_comeBack 17 = .ok (.aload_n 0, 1) := by decide +kernel
theorem dX3_comeBack_18 : decode cX3_comeBack 18 = .ok (.getfield 22, 3) := by decide +kernel
theorem dX3_comeBack_21 : decode cX3_comeBack 21 = .ok (.putfield 25, 3) := by decide +kernel
theorem dX3_comeBack_24 : decode cX3_comeBack 24 = .ok (.aload_n 0, 1) := by decide +kernel
theorem dX3_comeBack_25 : decode cX3_comeBack 25 = .ok (.aload_n 0, 1) := by decide +kernel
theorem dX3_comeBack_26 : decode cX3_comeBack 26 = .ok (.getfield 28, 3) := by decide +kernel
theorem dX3_comeBack_29 : decode cX3_comeBack 29 = .ok (.iconst 2, 1) := by decide +kernel
theorem dX3_comeBack_30 : decode cX3_comeBack 30 = .ok (.idiv, 1) := by decide +kernel
theorem dX3_comeBack_31 : decode cX3_comeBack 31 = .ok (.putfield 28, 3) := by decide +kernel
theorem dX3_comeBack_34 : decode cX3_comeBack 34 = .ok (.aload_n 0, 1) := by decide +kernel
theorem dX3_comeBack_35 : decode cX3_comeBack 35 = .ok (.iconst 0, 1) := by decide +kernel
theorem dX3_comeBack_36 : decode cX3_comeBack 36 = .ok (.putfield 31, 3) := by decide +kernel
theorem dX3_comeBack_39 : decode cX3_comeBack 39 = .ok (.aload_n 0, 1) := by decide +kernel
theorem dX3_comeBack_40 : decode cX3_comeBack 40 = .ok (.sipush 9999, 3) := by decide +kernel
theorem dX3_comeBack_43 : decode cX3_comeBack 43 = .ok (.aload_n 0, 1) := by decide +kernel
theorem dX3_comeBack_44 : decode cX3_comeBack 44 = .ok (.getfield 34, 3) := by decide +kernel
theorem dX3_comeBack_47 : decode cX3_comeBack 47 = .ok (.iconst 1, 1) := by decide +kernel
theorem dX3_comeBack_48 : decode cX3_comeBack 48 = .ok (.iadd, 1) := by decide +kernel
theorem dX3_comeBack_49 : decode cX3_comeBack 49 = .ok (.invokestatic 80, 3) := by decide +kernel
theorem dX3_comeBack_52 : decode cX3_comeBack 52 = .ok (.putfield 34, 3) := by decide +kernel
theorem dX3_comeBack_55 : decode cX3_comeBack 55 = .ok (.return_, 1) := by decide +kernel
theorem dX3_draw_0 : decode cX3_draw 0 = .ok (.aload_n 0, 1) := by decide +kernel
theorem dX3_draw_1 : decode cX3_draw 1 = .ok (.ldc 103, 2) := by decide +kernel
theorem dX3_draw_3 : decode cX3_draw 3 = .ok (.aload_n 0, 1) := by decide +kernel
theorem dX3_draw_4 : decode cX3_draw 4 = .ok (.getfield 58, 3) := by decide +kernel
theorem dX3_draw_7 : decode cX3_draw 7 = .ok (.imul, 1) := by decide +kernel
theorem dX3_draw_8 : decode cX3_draw 8 = .ok (.sipush 12345, 3) := by decide +kernel
theorem dX3_draw_11 : decode cX3_draw 11 = .ok (.iadd, 1) := by decide +kernel
theorem dX3_draw_12 : decode cX3_draw 12 = .ok (.putfield 58, 3) := by decide +kernel
theorem dX3_draw_15 : decode cX3_draw 15 = .ok (.aload_n 0, 1) := by decide +kernel
theorem dX3_draw_16 : decode cX3_draw 16 = .ok (.getfield 58, 3) := by decide +kernel
theorem dX3_draw_19 : decode cX3_draw 19 = .ok (.bipush 16, 2) := by decide +kernel
theorem dX3_draw_21 : decode cX3_draw 21 = .ok (.iushr, 1) := by decide +kernel
theorem dX3_draw_22 : decode cX3_draw 22 = .ok (.sipush 32767, 3) := by decide +kernel
theorem dX3_draw_25 : decode cX3_draw 25 = .ok (.iand, 1) := by decide +kernel
theorem dX3_draw_26 : decode cX3_draw 26 = .ok (.ireturn, 1) := by decide +kernel
theorem dX3_drawSpoons_0 : decode cX3_drawSpoons 0 = .ok (.aload_n 0, 1) := by decide +kernel
theorem dX3_drawSpoons_1 : decode cX3_drawSpoons 1 = .ok (.invokevirtual 104, 3) := by decide +kernel
theorem dX3_drawSpoons_4 : decode cX3_drawSpoons 4 = .ok (.iconst 4, 1) := by decide +kernel
theorem dX3_drawSpoons_5 : decode cX3_drawSpoons 5 = .ok (.irem, 1) := by decide +kernel
theorem dX3_drawSpoons_6 : decode cX3_drawSpoons 6 = .ok (.iconst 1, 1) := by decide +kernel
theorem dX3_drawSpoons_7 : decode cX3_drawSpoons 7 = .ok (.iadd, 1) := by decide +kernel
theorem dX3_drawSpoons_8 : decode cX3_drawSpoons 8 = .ok (.istore_n 1, 1) := by decide +kernel
theorem dX3_drawSpoons_9 : decode cX3_drawSpoons 9 = .ok (.aload_n 0, 1) := by decide +kernel
theorem dX3_drawSpoons_10 : decode cX3_drawSpoons 10 = .ok (.getfield 12, 3) := by decide +kernel
theorem dX3_drawSpoons_13 : decode cX3_drawSpoons 13 = .ok (.getfield 108, 3) := by decide +kernel
theorem dX3_drawSpoons_16 : decode cX3_drawSpoons 16 = .ok (.ifCond .le 7, 3) := by decide +kernel
theorem dX3_drawSpoons_19 : decode cX3_drawSpoons 19 = .ok (.iload_n 1, 1) := by decide +kernel
theorem dX3_drawSpoons_20 : decode cX3_drawSpoons 20 = .ok (.goto 4, 3) := by decide +kernel
theorem dX3_drawSpoons_23 : decode cX3_drawSpoons 23 = .ok (.iconst 0, 1) := by decide +kernel
theorem dX3_drawSpoons_24 : decode cX3_drawSpoons 24 = .ok (.ireturn, 1) := by decide +kernel
theorem dX3_drawDish_0 : decode cX3_drawDish 0 = .ok (.aload_n 0, 1) := by decide +kernel
theorem dX3_drawDish_1 : decode cX3_drawDish 1 = .ok (.getfield 12, 3) := by decide +kernel
theorem dX3_drawDish_4 : decode cX3_drawDish 4 = .ok (.getfield 108, 3) := by decide +kernel
theorem dX3_drawDish_7 : decode cX3_drawDish 7 = .ok (.ifCond .le 18, 3) := by decide +kernel
theorem dX3_drawDish_10 : decode cX3_drawDish 10 = .ok (.aload_n 0, 1) := by decide +kernel
theorem dX3_drawDish_11 : decode cX3_drawDish 11 = .ok (.invokevirtual 104, 3) := by decide +kernel
theorem dX3_drawDish_14 : decode cX3_drawDish 14 = .ok (.aload_n 0, 1) := by decide +kernel
theorem dX3_drawDish_15 : decode cX3_drawDish 15 = .ok (.getfield 12, 3) := by decide +kernel
theorem dX3_drawDish_18 : decode cX3_drawDish 18 = .ok (.getfield 108, 3) := by decide +kernel
theorem dX3_drawDish_21 : decode cX3_drawDish 21 = .ok (.irem, 1) := by decide +kernel
theorem dX3_drawDish_22 : decode cX3_drawDish 22 = .ok (.goto 4, 3) := by decide +kernel
theorem dX3_drawDish_25 : decode cX3_drawDish 25 = .ok (.iconst (-1), 1) := by decide +kernel
theorem dX3_drawDish_26 : decode cX3_drawDish 26 = .ok (.ireturn, 1) := by decide +kernel
theorem dX3_copy_0 : decode cX3_copy 0 = .ok (.aload_n 0, 1) := by decide +kernel
theorem dX3_copy_1 : decode cX3_copy 1 = .ok (.getfield 12, 3) := by decide +kernel
theorem dX3_copy_4 : decode cX3_copy 4 = .ok (.aload_n 1, 1) := by decide +kernel
theorem dX3_copy_5 : decode cX3_copy 5 = .ok (.getfield 12, 3) := by decide +kernel
theorem dX3_copy_8 : decode cX3_copy 8 = .ok (.invokevirtual 111, 3) := by decide +kernel
theorem dX3_copy_11 : decode cX3_copy 11 = .ok (.aload_n 0, 1) := by decide +kernel
theorem dX3_copy_12 : decode cX3_copy 12 = .ok (.aload_n 1, 1) := by decide +kernel
theorem dX3_copy_13 : decode cX3_copy 13 = .ok (.getfield 18, 3) := by decide +kernel
theorem dX3_copy_16 : decode cX3_copy 16 = .ok (.putfield 18, 3) := by decide +kernel
theorem dX3_copy_19 : decode cX3_copy 19 = .ok (.aload_n 0, 1) := by decide +kernel
theorem dX3_copy_20 : decode cX3_copy 20 = .ok (.aload_n 1, 1) := by decide +kernel
theorem dX3_copy_21 : decode cX3_copy 21 = .ok (.getfield 22, 3) := by decide +kernel
theorem dX3_copy_24 : decode cX3_copy 24 = .ok (.putfield 22, 3) := by decide +kernel
theorem dX3_copy_27 : decode cX3_copy 27 = .ok (.aload_n 0, 1) := by decide +kernel
theorem dX3_copy_28 : decode cX3_copy 28 = .ok (.aload_n 1, 1) := by decide +kernel
theorem dX3_copy_29 : decode cX3_copy 29 = .ok (.getfield 25, 3) := by decide +kernel
theorem dX3_copy_32 : decode cX3_copy 32 = .ok (.putfield 25, 3) := by decide +kernel
theorem dX3_copy_35 : decode cX3_copy 35 = .ok (.aload_n 0, 1) := by decide +kernel
theorem dX3_copy_36 : decode cX3_copy 36 = .ok (.aload_n 1, 1) := by decide +kernel
theorem dX3_copy_37 : decode cX3_copy 37 = .ok (.getfield 28, 3) := by decide +kernel
theorem dX3_copy_40 : decode cX3_copy 40 = .ok (.putfield 28, 3) := by decide +kernel
theorem dX3_copy_43 : decode cX3_copy 43 = .ok (.aload_n 0, 1) := by decide +kernel
theorem dX3_copy_44 : decode cX3_copy 44 = .ok (.aload_n 1, 1) := by decide +kernel
theorem dX3_copy_45 : decode cX3_copy 45 = .ok (.getfield 31, 3) := by decide +kernel
theorem dX3_copy_48 : decode cX3_copy 48 = .ok (.putfield 31, 3) := by decide +kernel
theorem dX3_copy_51 : decode cX3_copy 51 = .ok (.aload_n 0, 1) := by decide +kernel
theorem dX3_copy_52 : decode cX3_copy 52 = .ok (.aload_n 1, 1) := by decide +kernel
theorem dX3_copy_53 : decode cX3_copy 53 = .ok (.getfield 34, 3) := by decide +kernel
theorem dX3_copy_56 : decode cX3_copy 56 = .ok (.putfield 34, 3) := by decide +kernel
theorem dX3_copy_59 : decode cX3_copy 59 = .ok (.aload_n 0, 1) := by decide +kernel
theorem dX3_copy_60 : decode cX3_copy 60 = .ok (.aload_n 1, 1) := by decide +kernel
theorem dX3_copy_61 : decode cX3_copy 61 = .ok (.getfield 37, 3) := by decide +kernel
theorem dX3_copy_64 : decode cX3_copy 64 = .ok (.putfield 37, 3) := by decide +kernel
theorem dX3_copy_67 : decode cX3_copy 67 = .ok (.aload_n 0, 1) := by decide +kernel
theorem dX3_copy_68 : decode cX3_copy 68 = .ok (.aload_n 1, 1) := by decide +kernel
theorem dX3_copy_69 : decode cX3_copy 69 = .ok (.getfield 40, 3) := by decide +kernel
theorem dX3_copy_72 : decode cX3_copy 72 = .ok (.putfield 40, 3) := by decide +kernel
theorem dX3_copy_75 : decode cX3_copy 75 = .ok (.aload_n 0, 1) := by decide +kernel
theorem dX3_copy_76 : decode cX3_copy 76 = .ok (.aload_n 1, 1) := by decide +kernel
theorem dX3_copy_77 : decode cX3_copy 77 = .ok (.getfield 43, 3) := by decide +kernel
theorem dX3_copy_80 : decode cX3_copy 80 = .ok (.putfield 43, 3) := by decide +kernel
theorem dX3_copy_83 : decode cX3_copy 83 = .ok (.aload_n 0, 1) := by decide +kernel
theorem dX3_copy_84 : decode cX3_copy 84 = .ok (.aload_n 1, 1) := by decide +kernel
theorem dX3_copy_85 : decode cX3_copy 85 = .ok (.getfield 46, 3) := by decide +kernel
theorem dX3_copy_88 : decode cX3_copy 88 = .ok (.putfield 46, 3) := by decide +kernel
theorem dX3_copy_91 : decode cX3_copy 91 = .ok (.aload_n 0, 1) := by decide +kernel
theorem dX3_copy_92 : decode cX3_copy 92 = .ok (.aload_n 1, 1) := by decide +kernel
theorem dX3_copy_93 : decode cX3_copy 93 = .ok (.getfield 49, 3) := by decide +kernel
theorem dX3_copy_96 : decode cX3_copy 96 = .ok (.putfield 49, 3) := by decide +kernel
theorem dX3_copy_99 : decode cX3_copy 99 = .ok (.aload_n 0, 1) := by decide +kernel
theorem dX3_copy_100 : decode cX3_copy 100 = .ok (.aload_n 1, 1) := by decide +kernel
theorem dX3_copy_101 : decode cX3_copy 101 = .ok (.getfield 52, 3) := by decide +kernel
theorem dX3_copy_104 : decode cX3_copy 104 = .ok (.putfield 52, 3) := by decide +kernel
theorem dX3_copy_107 : decode cX3_copy 107 = .ok (.aload_n 0, 1) := by decide +kernel
theorem dX3_copy_108 : decode cX3_copy 108 = .ok (.aload_n 1, 1) := by decide +kernel
theorem dX3_copy_109 : decode cX3_copy 109 = .ok (.getfield 55, 3) := by decide +kernel
theorem dX3_copy_112 : decode cX3_copy 112 = .ok (.putfield 55, 3) := by decide +kernel
theorem dX3_copy_115 : decode cX3_copy 115 = .ok (.aload_n 0, 1) := by decide +kernel
theorem dX3_copy_116 : decode cX3_copy 116 = .ok (.aload_n 1, 1) := by decide +kernel
theorem dX3_copy_117 : decode cX3_copy 117 = .ok (.getfield 58, 3) := by decide +kernel
theorem dX3_copy_120 : decode cX3_copy 120 = .ok (.putfield 58, 3) := by decide +kernel
theorem dX3_copy_123 : decode cX3_copy 123 = .ok (.return_, 1) := by decide +kernel
theorem dX4_init_0 : decode cX4_init 0 = .ok (.aload_n 0, 1) := by decide +kernel
theorem dX4_init_1 : decode cX4_init 1 = .ok (.invokespecial 3, 3) := by decide +kernel
theorem dX4_init_4 : decode cX4_init 4 = .ok (.aload_n 0, 1) := by decide +kernel
theorem dX4_init_5 : decode cX4_init 5 = .ok (.iconst (-1), 1) := by decide +kernel
theorem dX4_init_6 : decode cX4_init 6 = .ok (.putfield 9, 3) := by decide +kernel
theorem dX4_init_9 : decode cX4_init 9 = .ok (.aload_n 0, 1) := by decide +kernel
theorem dX4_init_10 : decode cX4_init 10 = .ok (.bipush 12, 2) := by decide +kernel
theorem dX4_init_12 : decode cX4_init 12 = .ok (.newarray .int, 2) := by decide +kernel
theorem dX4_init_14 : decode cX4_init 14 = .ok (.putfield 15, 3) := by decide +kernel
theorem dX4_init_17 : decode cX4_init 17 = .ok (.aload_n 0, 1) := by decide +kernel
theorem dX4_init_18 : decode cX4_init 18 = .ok (.bipush 12, 2) := by decide +kernel
theorem dX4_init_20 : decode cX4_init 20 = .ok (.newarray .int, 2) := by decide +kernel
theorem dX4_init_22 : decode cX4_init 22 = .ok (.putfield 19, 3) := by decide +kernel
theorem dX4_init_25 : decode cX4_init 25 = .ok (.aload_n 0, 1) := by decide +kernel
theorem dX4_init_26 : decode cX4_init 26 = .ok (.bipush 12, 2) := by decide +kernel
theorem dX4_init_28 : decode cX4_init 28 = .ok (.newarray .int, 2) := by decide +kernel
theorem dX4_init_30 : decode cX4_init 30 = .ok (.putfield 22, 3) := by decide +kernel
theorem dX4_init_33 : decode cX4_init 33 = .ok (.aload_n 0, 1) := by decide +kernel
theorem dX4_init_34 : decode cX4_init 34 = .ok (.sipush 400, 3) := by decide +kernel
theorem dX4_init_37 : decode cX4_init 37 = .ok (.newarray .int, 2) := by decide +kernel
theorem dX4_init_39 : decode cX4_init 39 = .ok (.putfield 25, 3) := by decide +kernel
theorem dX4_init_42 : decode cX4_init 42 = .ok (.aload_n 0, 1) := by decide +kernel
theorem dX4_init_43 : decode cX4_init 43 = .ok (.iconst 0, 1) := by decide +kernel
theorem dX4_init_44 : decode cX4_init 44 = .ok (.putfield 28, 3) := by decide +kernel
theorem dX4_init_47 : decode cX4_init 47 = .ok (.aload_n 0, 1) := by decide +kernel
theorem dX4_init_48 : decode cX4_init 48 = .ok (.bipush 64, 2) := by decide +kernel
theorem dX4_init_50 : decode cX4_init 50 = .ok (.newarray .int, 2) := by decide +kernel
theorem dX4_init_52 : decode cX4_init 52 = .ok (.putfield 31, 3) := by decide +kernel
theorem dX4_init_55 : decode cX4_init 55 = .ok (.return_, 1) := by decide +kernel
theorem dX4_clear_0 : decode cX4_clear 0 = .ok (.aload_n 0, 1) := by decide +kernel
theorem dX4_clear_1 : decode cX4_clear 1 = .ok (.iconst 0, 1) := by decide +kernel
theorem dX4_clear_2 : decode cX4_clear 2 = .ok (.putfield 9, 3) := by decide +kernel
theorem dX4_clear_5 : decode cX4_clear 5 = .ok (.aload_n 0, 1) := by decide +kernel
theorem dX4_clear_6 : decode cX4_clear 6 = .ok (.iconst 0, 1) := by decide +kernel
theorem dX4_clear_7 : decode cX4_clear 7 = .ok (.putfield 28, 3) := by decide +kernel
theorem dX4_clear_10 : decode cX4_clear 10 = .ok (.return_, 1) := by decide +kernel
theorem dX4_add_0 : decode cX4_add 0 = .ok (.aload_n 0, 1) := by decide +kernel
theorem dX4_add_1 : decode cX4_add 1 = .ok (.getfield 28, 3) := by decide +kernel
theorem dX4_add_4 : decode cX4_add 4 = .ok (.sipush 400, 3) := by decide +kernel
theorem dX4_add_7 : decode cX4_add 7 = .ok (.if_icmp .ge 23, 3) := by decide +kernel
theorem dX4_add_10 : decode cX4_add 10 = .ok (.aload_n 0, 1) := by decide +kernel
theorem dX4_add_11 : decode cX4_add 11 = .ok (.getfield 25, 3) := by decide +kernel
theorem dX4_add_14 : decode cX4_add 14 = .ok (.aload_n 0, 1) := by decide +kernel
theorem dX4_add_15 : decode cX4_add 15 = .ok (.getfield 28, 3) := by decide +kernel
theorem dX4_add_18 : decode cX4_add 18 = .ok (.iload_n 1, 1) := by decide +kernel
theorem dX4_add_19 : decode cX4_add 19 = .ok (.iastore, 1) := by decide +kernel
theorem dX4_add_20 : decode cX4_add 20 = .ok (.aload_n 0, 1) := by decide +kernel
theorem dX4_add_21 : decode cX4_add 21 = .ok (.dup, 1) := by decide +kernel
theorem dX4_add_22 : decode cX4_add 22 = .ok (.getfield 28, 3) := by decide +kernel
theorem dX4_add_25 : decode cX4_add 25 = .ok (.iconst 1, 1) := by decide +kernel
theorem dX4_add_26 : decode cX4_add 26 = .ok (.iadd, 1) := by decide +kernel
theorem dX4_add_27 : decode cX4_add 27 = .ok (.putfield 28, 3) := by decide +kernel
theorem dX4_add_30 : decode cX4_add 30 = .ok (.return_, 1) := by decide +kernel
theorem dX4_endLine_0 : decode cX4_endLine 0 = .ok (.aload_n 0, 1) := by decide +kernel
theorem dX4_endLine_1 : decode cX4_endLine 1 = .ok (.getfield 9, 3) := by decide +kernel
theorem dX4_endLine_4 : decode cX4_endLine 4 = .ok (.ifCond .lt 55, 3) := by decide +kernel
theorem dX4_endLine_7 : decode cX4_endLine 7 = .ok (.aload_n 0, 1) := by decide +kernel
theorem dX4_endLine_8 : decode cX4_endLine 8 = .ok (.getfield 9, 3) := by decide +kernel
theorem dX4_endLine_11 : decode cX4_endLine 11 = .ok (.bipush 12, 2) := by decide +kernel
theorem dX4_endLine_13 : decode cX4_endLine 13 = .ok (.if_icmp .ge 46, 3) := by decide +kernel
theorem dX4_endLine_16 : decode cX4_endLine 16 = .ok (.aload_n 0, 1) := by decide +kernel
theorem dX4_endLine_17 : decode cX4_endLine 17 = .ok (.getfield 15, 3) := by decide +kernel
theorem dX4_endLine_20 : decode cX4_endLine 20 = .ok (.aload_n 0, 1) := by decide +kernel
theorem dX4_endLine_21 : decode cX4_endLine 21 = .ok (.getfield 9, 3) := by decide +kernel
theorem dX4_endLine_24 : decode cX4_endLine 24 = .ok (.iload_n 1, 1) := by decide +kernel
theorem dX4_endLine_25 : decode cX4_endLine 25 = .ok (.iastore, 1) := by decide +kernel
theorem dX4_endLine_26 : decode cX4_endLine 26 = .ok (.aload_n 0, 1) := by decide +kernel
theorem dX4_endLine_27 : decode cX4_endLine 27 = .ok (.getfield 19, 3) := by decide +kernel
theorem dX4_endLine_30 : decode cX4_endLine 30 = .ok (.aload_n 0, 1) := by decide +kernel
theorem dX4_endLine_31 : decode cX4_endLine 31 = .ok (.getfield 9, 3) := by decide +kernel
theorem dX4_endLine_34 : decode cX4_endLine 34 = .ok (.iload_n 2, 1) := by decide +kernel
theorem dX4_endLine_35 : decode cX4_endLine 35 = .ok (.iastore, 1) := by decide +kernel
theorem dX4_endLine_36 : decode cX4_endLine 36 = .ok (.aload_n 0, 1) := by decide +kernel
theorem dX4_endLine_37 : decode cX4_endLine 37 = .ok (.getfield 22, 3) := by decide +kernel
theorem dX4_endLine_40 : decode cX4_endLine 40 = .ok (.aload_n 0, 1) := by decide +kernel
theorem dX4_endLine_41 : decode cX4_endLine 41 = .ok (.getfield 9, 3) := by decide +kernel
theorem dX4_endLine_44 : decode cX4_endLine 44 = .ok (.aload_n 0, 1) := by decide +kernel
theorem dX4_endLine_45 : decode cX4_endLine 45 = .ok (.getfield 28, 3) := by decide +kernel
theorem dX4_endLine_48 : decode cX4_endLine 48 = .ok (.iastore, 1) := by decide +kernel
theorem dX4_endLine_49 : decode cX4_endLine 49 = .ok (.aload_n 0, 1) := by decide +kernel
theorem dX4_endLine_50 : decode cX4_endLine 50 = .ok (.dup, 1) := by decide +kernel
theorem dX4_endLine_51 : decode cX4_endLine 51 = .ok (.getfield 9, 3) := by decide +kernel
theorem dX4_endLine_54 : decode cX4_endLine 54 = .ok (.iconst 1, 1) := by decide +kernel
theorem dX4_endLine_55 : decode cX4_endLine 55 = .ok (.iadd, 1) := by decide +kernel
theorem dX4_endLine_56 : decode cX4_endLine 56 = .ok (.putfield 9, 3) := by decide +kernel
theorem dX4_endLine_59 : decode cX4_endLine 59 = .ok (.return_, 1) := by decide +kernel
theorem dX4_weigh_0 : decode cX4_weigh 0 = .ok (.iconst 0, 1) := by decide +kernel
theorem dX4_weigh_1 : decode cX4_weigh 1 = .ok (.istore_n 2, 1) := by decide +kernel
theorem dX4_weigh_2 : decode cX4_weigh 2 = .ok (.iload_n 2, 1) := by decide +kernel
theorem dX4_weigh_3 : decode cX4_weigh 3 = .ok (.aload_n 0, 1) := by decide +kernel
theorem dX4_weigh_4 : decode cX4_weigh 4 = .ok (.getfield 9, 3) := by decide +kernel
theorem dX4_weigh_7 : decode cX4_weigh 7 = .ok (.if_icmp .ge 86, 3) := by decide +kernel
theorem dX4_weigh_10 : decode cX4_weigh 10 = .ok (.iload_n 2, 1) := by decide +kernel
theorem dX4_weigh_11 : decode cX4_weigh 11 = .ok (.bipush 12, 2) := by decide +kernel
theorem dX4_weigh_13 : decode cX4_weigh 13 = .ok (.if_icmp .ge 80, 3) := by decide +kernel
theorem dX4_weigh_16 : decode cX4_weigh 16 = .ok (.aload_n 0, 1) := by decide +kernel
theorem dX4_weigh_17 : decode cX4_weigh 17 = .ok (.iload_n 2, 1) := by decide +kernel
theorem dX4_weigh_18 : decode cX4_weigh 18 = .ok (.aload_n 1, 1) := by decide +kernel
theorem dX4_weigh_19 : decode cX4_weigh 19 = .ok (.invokevirtual 34, 3) := by decide +kernel
theorem dX4_weigh_22 : decode cX4_weigh 22 = .ok (.ifCond .eq 65, 3) := by decide +kernel
theorem dX4_weigh_25 : decode cX4_weigh 25 = .ok (.aload_n 0, 1) := by decide +kernel
theorem dX4_weigh_26 : decode cX4_weigh 26 = .ok (.getfield 15, 3) := by decide +kernel
theorem dX4_weigh_29 : decode cX4_weigh 29 = .ok (.iload_n 2, 1) := by decide +kernel
theorem dX4_weigh_30 : decode cX4_weigh 30 = .ok (.iaload, 1) := by decide +kernel
theorem dX4_weigh_31 : decode cX4_weigh 31 = .ok (.iconst 2, 1) := by decide +kernel
theorem dX4_weigh_32 : decode cX4_weigh 32 = .ok (.if_icmp .ne 21, 3) := by decide +kernel
theorem dX4_weigh_35 : decode cX4_weigh 35 = .ok (.aload_n 1, 1) := by decide +kernel
theorem dX4_weigh_36 : decode cX4_weigh 36 = .ok (.dup, 1) := by decide +kernel
theorem dX4_weigh_37 : decode cX4_weigh 37 = .ok (.getfield 38, 3) := by decide +kernel
theorem dX4_weigh_40 : decode cX4_weigh 40 = .ok (.aload_n 0, 1) := by decide +kernel
theorem dX4_weigh_41 : decode cX4_weigh 41 = .ok (.getfield 19, 3) := by decide +kernel
theorem dX4_weigh_44 : decode cX4_weigh 44 = .ok (.iload_n 2, 1) := by decide +kernel
theorem dX4_weigh_45 : decode cX4_weigh 45 = .ok (.iaload, 1) := by decide +kernel
theorem dX4_weigh_46 : decode cX4_weigh 46 = .ok (.iadd, 1) := by decide +kernel
theorem dX4_weigh_47 : decode cX4_weigh 47 = .ok (.putfield 38, 3) := by decide +kernel
theorem dX4_weigh_50 : decode cX4_weigh 50 = .ok (.goto 37, 3) := by decide +kernel
theorem dX4_weigh_53 : decode cX4_weigh 53 = .ok (.aload_n 1, 1) := by decide +kernel
theorem dX4_weigh_54 : decode cX4_weigh 54 = .ok (.dup, 1) := by decide +kernel
theorem dX4_weigh_55 : decode cX4_weigh 55 = .ok (.getfield 43, 3) := by decide +kernel
theorem dX4_weigh_58 : decode cX4_weigh 58 = .ok (.aload_n 0, 1) := by decide +kernel
theorem dX4_weigh_59 : decode cX4_weigh 59 = .ok (.getfield 15, 3) := by decide +kernel
theorem dX4_weigh_62 : decode cX4_weigh 62 = .ok (.iload_n 2, 1) := by decide +kernel
theorem dX4_weigh_63 : decode cX4_weigh 63 = .ok (.iaload, 1) := by decide +kernel
theorem dX4_weigh_64 : decode cX4_weigh 64 = .ok (.ifCond .ne 12, 3) := by decide +kernel
theorem dX4_weigh_67 : decode cX4_weigh 67 = .ok (.aload_n 0, 1) := by decide +kernel
theorem dX4_weigh_68 : decode cX4_weigh 68 = .ok (.getfield 19, 3) := by decide +kernel
theorem dX4_weigh_71 : decode cX4_weigh 71 = .ok (.iload_n 2, 1) := by decide +kernel
theorem dX4_weigh_72 : decode cX4_weigh 72 = .ok (.iaload, 1) := by decide +kernel
theorem dX4_weigh_73 : decode cX4_weigh 73 = .ok (.goto 10, 3) := by decide +kernel
theorem dX4_weigh_76 : decode cX4_weigh 76 = .ok (.aload_n 0, 1) := by decide +kernel
theorem dX4_weigh_77 : decode cX4_weigh 77 = .ok (.getfield 19, 3) := by decide +kernel
theorem dX4_weigh_80 : decode cX4_weigh 80 = .ok (.iload_n 2, 1) := by decide +kernel
theorem dX4_weigh_81 : decode cX4_weigh 81 = .ok (.iaload, 1) := by decide +kernel
theorem dX4_weigh_82 : decode cX4_weigh 82 = .ok (.ineg, 1) := by decide +kernel
theorem dX4_weigh_83 : decode cX4_weigh 83 = .ok (.iadd, 1) := by decide +kernel
theorem dX4_weigh_84 : decode cX4_weigh 84 = .ok (.putfield 43, 3) := by decide +kernel
theorem dX4_weigh_87 : decode cX4_weigh 87 = .ok (.iinc 2 1, 3) := by decide +kernel
theorem dX4_weigh_90 : decode cX4_weigh 90 = .ok (.goto (-88), 3) := by decide +kernel
theorem dX4_weigh_93 : decode cX4_weigh 93 = .ok (.return_, 1) := by decide +kernel
theorem dX4_holds_0 : decode cX4_holds 0 = .ok (.iconst 0, 1) := by decide +kernel
theorem dX4_holds_1 : decode cX4_holds 1 = .ok (.istore_n 3, 1) := by decide +kernel
theorem dX4_holds_2 : decode cX4_holds 2 = .ok (.iload_n 1, 1) := by decide +kernel
theorem dX4_holds_3 : decode cX4_holds 3 = .ok (.ifCond .le 14, 3) := by decide +kernel
theorem dX4_holds_6 : decode cX4_holds 6 = .ok (.aload_n 0, 1) := by decide +kernel
theorem dX4_holds_7 : decode cX4_holds 7 = .ok (.getfield 22, 3) := by decide +kernel
theorem dX4_holds_10 : decode cX4_holds 10 = .ok (.iload_n 1, 1) := by decide +kernel
theorem dX4_holds_11 : decode cX4_holds 11 = .ok (.iconst 1, 1) := by decide +kernel
theorem dX4_holds_12 : decode cX4_holds 12 = .ok (.isub, 1) := by decide +kernel
theorem dX4_holds_13 : decode cX4_holds 13 = .ok (.iaload, 1) := by decide +kernel
theorem dX4_holds_14 : decode cX4_holds 14 = .ok (.goto 4, 3) := by decide +kernel
theorem dX4_holds_17 : decode cX4_holds 17 = .ok (.iconst 0, 1) := by decide +kernel
theorem dX4_holds_18 : decode cX4_holds 18 = .ok (.istore 4, 2) := by decide +kernel
theorem dX4_holds_20 : decode cX4_holds 20 = .ok (.iload 4, 2) := by decide +kernel
theorem dX4_holds_22 : decode cX4_holds 22 = .ok (.aload_n 0, 1) := by decide +kernel
theorem dX4_holds_23 : decode cX4_holds 23 = .ok (.getfield 22, 3) := by decide +kernel
theorem dX4_holds_26 : decode cX4_holds 26 = .ok (.iload_n 1, 1) := by decide +kernel
theorem dX4_holds_27 : decode cX4_holds 27 = .ok (.iaload, 1) := by decide +kernel
theorem dX4_holds_28 : decode cX4_holds 28 = .ok (.if_icmp .ge 23, 3) := by decide +kernel
theorem dX4_holds_31 : decode cX4_holds 31 = .ok (.aload_n 0, 1) := by decide +kernel
theorem dX4_holds_32 : decode cX4_holds 32 = .ok (.aload_n 0, 1) := by decide +kernel
theorem dX4_holds_33 : decode cX4_holds 33 = .ok (.getfield 25, 3) := by decide +kernel
theorem dX4_holds_36 : decode cX4_holds 36 = .ok (.iload 4, 2) := by decide +kernel
theorem dX4_holds_38 : decode cX4_holds 38 = .ok (.iaload, 1) := by decide +kernel
theorem dX4_holds_39 : decode cX4_holds 39 = .ok (.iload_n 3, 1) := by decide +kernel
theorem dX4_holds_40 : decode cX4_holds 40 = .ok (.aload_n 2, 1) := by decide +kernel
theorem dX4_holds_41 : decode cX4_holds 41 = .ok (.invokevirtual 46, 3) := by decide +kernel
theorem dX4_holds_44 : decode cX4_holds 44 = .ok (.istore_n 3, 1) := by decide +kernel
theorem dX4_holds_45 : decode cX4_holds 45 = .ok (.iinc 4 1, 3) := by decide +kernel
theorem dX4_holds_48 : decode cX4_holds 48 = .ok (.goto (-28), 3) := by decide +kernel
theorem dX4_holds_51 : decode cX4_holds 51 = .ok (.iload_n 3, 1) := by decide +kernel
theorem dX4_holds_52 : decode cX4_holds 52 = .ok (.ifCond .eq 12, 3) := by decide +kernel
theorem dX4_holds_55 : decode cX4_holds 55 = .ok (.aload_n 0, 1) := by decide +kernel
theorem dX4_holds_56 : decode cX4_holds 56 = .ok (.getfield 31, 3) := by decide +kernel
theorem dX4_holds_59 : decode cX4_holds 59 = .ok (.iconst 0, 1) := by decide +kernel
theorem dX4_holds_60 : decode cX4_holds 60 = .ok (.iaload, 1) := by decide +kernel
theorem dX4_holds_61 : decode cX4_holds 61 = .ok (.ifCond .eq 7, 3) := by decide +kernel
theorem dX4_holds_64 : decode cX4_holds 64 = .ok (.iconst 1, 1) := by decide +kernel
theorem dX4_holds_65 : decode cX4_holds 65 = .ok (.goto 4, 3) := by decide +kernel
theorem dX4_holds_68 : decode cX4_holds 68 = .ok (.iconst 0, 1) := by decide +kernel
theorem dX4_holds_69 : decode cX4_holds 69 = .ok (.ireturn, 1) := by decide +kernel
theorem dX4_step_0 : decode cX4_step 0 = .ok (.iload_n 1, 1) := by decide +kernel
theorem dX4_step_1 : decode cX4_step 1 = .ok (.sipush 1010, 3) := by decide +kernel
theorem dX4_step_4 : decode cX4_step 4 = .ok (.if_icmp .ge 11, 3) := by decide +kernel
theorem dX4_step_7 : decode cX4_step 7 = .ok (.aload_n 0, 1) := by decide +kernel
theorem dX4_step_8 : decode cX4_step 8 = .ok (.iload_n 1, 1) := by decide +kernel
theorem dX4_step_9 : decode cX4_step 9 = .ok (.iload_n 2, 1) := by decide +kernel
theorem dX4_step_10 : decode cX4_step 10 = .ok (.aload_n 3, 1) := by decide +kernel
theorem dX4_step_11 : decode cX4_step 11 = .ok (.invokevirtual 50, 3) := by decide +kernel
theorem dX4_step_14 : decode cX4_step 14 = .ok (.ireturn, 1) := by decide +kernel
theorem dX4_step_15 : decode cX4_step 15 = .ok (.iload_n 1, 1) := by decide +kernel
theorem dX4_step_16 : decode cX4_step 16 = .ok (.sipush 1013, 3) := by decide +kernel
theorem dX4_step_19 : decode cX4_step 19 = .ok (.if_icmp .ne 28, 3) := by decide +kernel
theorem dX4_step_22 : decode cX4_step 22 = .ok (.iload_n 2, 1) := by decide +kernel
theorem dX4_step_23 : decode cX4_step 23 = .ok (.iconst 1, 1) := by decide +kernel
theorem dX4_step_24 : decode cX4_step 24 = .ok (.if_icmp .lt 23, 3) := by decide +kernel
theorem dX4_step_27 : decode cX4_step 27 = .ok (.aload_n 0, 1) := by decide +kernel
theorem dX4_step_28 : decode cX4_step 28 = .ok (.getfield 31, 3) := by decide +kernel
theorem dX4_step_31 : decode cX4_step 31 = .ok (.iload_n 2, 1) := by decide +kernel
theorem dX4_step_32 : decode cX4_step 32 = .ok (.iconst 1, 1) := by decide +kernel
theorem dX4_step_33 : decode cX4_step 33 = .ok (.isub, 1) := by decide +kernel
theorem dX4_step_34 : decode cX4_step 34 = .ok (.iconst 1, 1) := by decide +kernel
theorem dX4_step_35 : decode cX4_step 35 = .ok (.aload_n 0, 1) := by decide +kernel
theorem dX4_step_36 : decode cX4_step 36 = .ok (.getfield 31, 3) := by decide +kernel
theorem dX4_step_39 : decode cX4_step 39 = .ok (.iload_n 2, 1) := by decide +kernel
theorem dX4_step_40 : decode cX4_step 40 = .ok (.iconst 1, 1) := by decide +kernel
theorem dX4_step_41 : decode cX4_step 41 = .ok (.isub, 1) := by decide +kernel
theorem dX4_step_42 : decode cX4_step 42 = .ok (.iaload, 1) := by decide +kernel
theorem dX4_step_43 : decode cX4_step 43 = .ok (.isub, 1) := by decide +kernel
theorem dX4_step_44 : decode cX4_step 44 = .ok (.iastore, 1) := by decide +kernel
theorem dX4_step_45 : decode cX4_step 45 = .ok (.iload_n 2, 1) := by decide +kernel
theorem dX4_step_46 : decode cX4_step 46 = .ok (.ireturn, 1) := by decide +kernel
theorem dX4_step_47 : decode cX4_step 47 = .ok (.iload_n 2, 1) := by decide +kernel
theorem dX4_step_48 : decode cX4_step 48 = .ok (.iconst 2, 1) := by decide +kernel
theorem dX4_step_49 : decode cX4_step 49 = .ok (.if_icmp .ge 5, 3) := by decide +kernel
theorem dX4_step_52 : decode cX4_step 52 = .ok (.iload_n 2, 1) := by decide +kernel
theorem dX4_step_53 : decode cX4_step 53 = .ok (.ireturn, 1) := by decide +kernel
theorem dX4_step_54 : decode cX4_step 54 = .ok (.aload_n 0, 1) := by decide +kernel
theorem dX4_step_55 : decode cX4_step 55 = .ok (.getfield 31, 3) := by decide +kernel
theorem dX4_step_58 : decode cX4_step 58 = .ok (.iload_n 2, 1) := by decide +kernel
theorem dX4_step_59 : decode cX4_step 59 = .ok (.iconst 2, 1) := by decide +kernel
theorem dX4_step_60 : decode cX4_step 60 = .ok (.isub, 1) := by decide +kernel
theorem dX4_step_61 : decode cX4_step 61 = .ok (.iload_n 1, 1) := by decide +kernel
theorem dX4_step_62 : decode cX4_step 62 = .ok (.aload_n 0, 1) := by decide +kernel
theorem dX4_step_63 : decode cX4_step 63 = .ok (.getfield 31, 3) := by decide +kernel
theorem dX4_step_66 : decode cX4_step 66 = .ok (.iload_n 2, 1) := by decide +kernel
theorem dX4_step_67 : decode cX4_step 67 = .ok (.iconst 2, 1) := by decide +kernel
theorem dX4_step_68 : decode cX4_step 68 = .ok (.isub, 1) := by decide +kernel
theorem dX4_step_69 : decode cX4_step 69 = .ok (.iaload, 1) := by decide +kernel
theorem dX4_step_70 : decode cX4_step 70 = .ok (.aload_n 0, 1) := by decide +kernel
theorem dX4_step_71 : decode cX4_step 71 = .ok (.getfield 31, 3) := by decide +kernel
theorem dX4_step_74 : decode cX4_step 74 = .ok (.iload_n 2, 1) := by decide +kernel
theorem dX4_step_75 : decode cX4_step 75 = .ok (.iconst 1, 1) := by decide +kernel
theorem dX4_step_76 : decode cX4_step 76 = .ok (.isub, 1) := by decide +kernel
theorem dX4_step_77 : decode cX4_step 77 = .ok (.iaload, 1) := by decide +kernel
theorem dX4_step_78 : decode cX4_step 78 = .ok (.invokestatic 53, 3) := by decide +kernel
theorem dX4_step_81 : decode cX4_step 81 = .ok (.iastore, 1) := by decide +kernel
theorem dX4_step_82 : decode cX4_step 82 = .ok (.iload_n 2, 1) := by decide +kernel
theorem dX4_step_83 : decode cX4_step 83 = .ok (.iconst 1, 1) := by decide +kernel
theorem dX4_step_84 : decode cX4_step 84 = .ok (.isub, 1) := by decide +kernel
theorem dX4_step_85 : decode cX4_step 85 = .ok (.ireturn, 1) := by decide +kernel
theorem dX4_push_0 : decode cX4_push 0 = .ok (.iload_n 2, 1) := by decide +kernel
theorem dX4_push_1 : decode cX4_push 1 = .ok (.bipush 64, 2) := by decide +kernel
theorem dX4_push_3 : decode cX4_push 3 = .ok (.if_icmp .ge 14, 3) := by decide +kernel
theorem dX4_push_6 : decode cX4_push 6 = .ok (.iload_n 1, 1) := by decide +kernel
theorem dX4_push_7 : decode cX4_push 7 = .ok (.ifCond .lt 10, 3) := by decide +kernel
theorem dX4_push_10 : decode cX4_push 10 = .ok (.iload_n 1, 1) := by decide +kernel
theorem dX4_push_11 : decode cX4_push 11 = .ok (.sipush 1009, 3) := by decide +kernel
theorem dX4_push_14 : decode cX4_push 14 = .ok (.if_icmp .lt 5, 3) := by decide +kernel
theorem dX4_push_17 : decode cX4_push 17 = .ok (.iload_n 2, 1) := by decide +kernel
theorem dX4_push_18 : decode cX4_push 18 = .ok (.ireturn, 1) := by decide +kernel
theorem dX4_push_19 : decode cX4_push 19 = .ok (.aload_n 0, 1) := by decide +kernel
theorem dX4_push_20 : decode cX4_push 20 = .ok (.getfield 31, 3) := by decide +kernel
theorem dX4_push_23 : decode cX4_push 23 = .ok (.iload_n 2, 1) := by decide +kernel
theorem dX4_push_24 : decode cX4_push 24 = .ok (.iload_n 1, 1) := by decide +kernel
theorem dX4_push_25 : decode cX4_push 25 = .ok (.sipush 1000, 3) := by decide +kernel
theorem dX4_push_28 : decode cX4_push 28 = .ok (.if_icmp .ge 7, 3) := by decide +kernel
theorem dX4_push_31 : decode cX4_push 31 = .ok (.iload_n 1, 1) := by decide +kernel
theorem dX4_push_32 : decode cX4_push 32 = .ok (.goto 13, 3) := by decide +kernel
theorem dX4_push_35 : decode cX4_push 35 = .ok (.aload_n 3, 1) := by decide +kernel
theorem dX4_push_36 : decode cX4_push 36 = .ok (.getfield 57, 3) := by decide +kernel
theorem dX4_push_39 : decode cX4_push 39 = .ok (.iload_n 1, 1) := by decide +kernel
theorem dX4_push_40 : decode cX4_push 40 = .ok (.sipush 1000, 3) := by decide +kernel
theorem dX4_push_43 : decode cX4_push 43 = .ok (.isub, 1) := by decide +kernel
theorem dX4_push_44 : decode cX4_push 44 = .ok (.iaload, 1) := by decide +kernel
theorem dX4_push_45 : decode cX4_push 45 = .ok (.iastore, 1) := by decide +kernel
theorem dX4_push_46 : decode cX4_push 46 = .ok (.iload_n 2, 1) := by decide +kernel
theorem dX4_push_47 : decode cX4_push 47 = .ok (.iconst 1, 1) := by decide +kernel
theorem dX4_push_48 : decode cX4_push 48 = .ok (.iadd, 1) := by decide +kernel
theorem dX4_push_49 : decode cX4_push 49 = .ok (.ireturn, 1) := by decide +kernel
theorem dX4_join_0 : decode cX4_join 0 = .ok (.iload_n 0, 1) := by decide +kernel
theorem dX4_join_1 : decode cX4_join 1 = .ok (.tableswitch 65 1010 1014 #[35, 39, 50, 65, 61], 35) := by decide +kernel
theorem dX4_join_36 : decode cX4_join 36 = .ok (.iload_n 1, 1) := by decide +kernel
theorem dX4_join_37 : decode cX4_join 37 = .ok (.iload_n 2, 1) := by decide +kernel
theorem dX4_join_38 : decode cX4_join 38 = .ok (.iadd, 1) := by decide +kernel
theorem dX4_join_39 : decode cX4_join 39 = .ok (.ireturn, 1) := by decide +kernel
theorem dX4_join_40 : decode cX4_join 40 = .ok (.iload_n 1, 1) := by decide +kernel
theorem dX4_join_41 : decode cX4_join 41 = .ok (.iload_n 2, 1) := by decide +kernel
theorem dX4_join_42 : decode cX4_join 42 = .ok (.if_icmp .ge 7, 3) := by decide +kernel
theorem dX4_join_45 : decode cX4_join 45 = .ok (.iconst 1, 1) := by decide +kernel
theorem dX4_join_46 : decode cX4_join 46 = .ok (.goto 4, 3) := by decide +kernel
theorem dX4_join_49 : decode cX4_join 49 = .ok (.iconst 0, 1) := by decide +kernel
theorem dX4_join_50 : decode cX4_join 50 = .ok (.ireturn, 1) := by decide +kernel
theorem dX4_join_51 : decode cX4_join 51 = .ok (.iload_n 1, 1) := by decide +kernel
theorem dX4_join_52 : decode cX4_join 52 = .ok (.iload_n 2, 1) := by decide +kernel
theorem dX4_join_53 : decode cX4_join 53 = .ok (.if_icmp .le 7, 3) := by decide +kernel
theorem dX4_join_56 : decode cX4_join 56 = .ok (.iconst 1, 1) := by decide +kernel
theorem dX4_join_57 : decode cX4_join 57 = .ok (.goto 4, 3) := by decide +kernel
theorem dX4_join_60 : decode cX4_join 60 = .ok (.iconst 0, 1) := by decide +kernel
theorem dX4_join_61 : decode cX4_join 61 = .ok (.ireturn, 1) := by decide +kernel
theorem dX4_join_62 : decode cX4_join 62 = .ok (.iload_n 1, 1) := by decide +kernel
theorem dX4_join_63 : decode cX4_join 63 = .ok (.iload_n 2, 1) := by decide +kernel
theorem dX4_join_64 : decode cX4_join 64 = .ok (.iand, 1) := by decide +kernel
theorem dX4_join_65 : decode cX4_join 65 = .ok (.ireturn, 1) := by decide +kernel
theorem dX4_join_66 : decode cX4_join 66 = .ok (.iload_n 1, 1) := by decide +kernel
theorem dX4_join_67 : decode cX4_join 67 = .ok (.iload_n 2, 1) := by decide +kernel
theorem dX4_join_68 : decode cX4_join 68 = .ok (.ior, 1) := by decide +kernel
theorem dX4_join_69 : decode cX4_join 69 = .ok (.ireturn, 1) := by decide +kernel
theorem dX4_copy_0 : decode cX4_copy 0 = .ok (.aload_n 0, 1) := by decide +kernel
theorem dX4_copy_1 : decode cX4_copy 1 = .ok (.aload_n 1, 1) := by decide +kernel
theorem dX4_copy_2 : decode cX4_copy 2 = .ok (.getfield 9, 3) := by decide +kernel
theorem dX4_copy_5 : decode cX4_copy 5 = .ok (.putfield 9, 3) := by decide +kernel
theorem dX4_copy_8 : decode cX4_copy 8 = .ok (.aload_n 0, 1) := by decide +kernel
theorem dX4_copy_9 : decode cX4_copy 9 = .ok (.aload_n 1, 1) := by decide +kernel
theorem dX4_copy_10 : decode cX4_copy 10 = .ok (.getfield 28, 3) := by decide +kernel
theorem dX4_copy_13 : decode cX4_copy 13 = .ok (.putfield 28, 3) := by decide +kernel
theorem dX4_copy_16 : decode cX4_copy 16 = .ok (.aload_n 1, 1) := by decide +kernel
theorem dX4_copy_17 : decode cX4_copy 17 = .ok (.getfield 15, 3) := by decide +kernel
theorem dX4_copy_20 : decode cX4_copy 20 = .ok (.iconst 0, 1) := by decide +kernel
theorem dX4_copy_21 : decode cX4_copy 21 = .ok (.aload_n 0, 1) := by decide +kernel
theorem dX4_copy_22 : decode cX4_copy 22 = .ok (.getfield 15, 3) := by decide +kernel
theorem dX4_copy_25 : decode cX4_copy 25 = .ok (.iconst 0, 1) := by decide +kernel
theorem dX4_copy_26 : decode cX4_copy 26 = .ok (.bipush 12, 2) := by decide +kernel
theorem dX4_copy_28 : decode cX4_copy 28 = .ok (.invokestatic 60, 3) := by decide +kernel
theorem dX4_copy_31 : decode cX4_copy 31 = .ok (.aload_n 1, 1) := by decide +kernel
theorem dX4_copy_32 : decode cX4_copy 32 = .ok (.getfield 19, 3) := by decide +kernel
theorem dX4_copy_35 : decode cX4_copy 35 = .ok (.iconst 0, 1) := by decide +kernel
theorem dX4_copy_36 : decode cX4_copy 36 = .ok (.aload_n 0, 1) := by decide +kernel
theorem dX4_copy_37 : decode cX4_copy 37 = .ok (.getfield 19, 3) := by decide +kernel
theorem dX4_copy_40 : decode cX4_copy 40 = .ok (.iconst 0, 1) := by decide +kernel
theorem dX4_copy_41 : decode cX4_copy 41 = .ok (.bipush 12, 2) := by decide +kernel
theorem dX4_copy_43 : decode cX4_copy 43 = .ok (.invokestatic 60, 3) := by decide +kernel
theorem dX4_copy_46 : decode cX4_copy 46 = .ok (.aload_n 1, 1) := by decide +kernel
theorem dX4_copy_47 : decode cX4_copy 47 = .ok (.getfield 22, 3) := by decide +kernel
theorem dX4_copy_50 : decode cX4_copy 50 = .ok (.iconst 0, 1) := by decide +kernel
theorem dX4_copy_51 : decode cX4_copy 51 = .ok (.aload_n 0, 1) := by decide +kernel
theorem dX4_copy_52 : decode cX4_copy 52 = .ok (.getfield 22, 3) := by decide +kernel
theorem dX4_copy_55 : decode cX4_copy 55 = .ok (.iconst 0, 1) := by decide +kernel
theorem dX4_copy_56 : decode cX4_copy 56 = .ok (.bipush 12, 2) := by decide +kernel
theorem dX4_copy_58 : decode cX4_copy 58 = .ok (.invokestatic 60, 3) := by decide +kernel
theorem dX4_copy_61 : decode cX4_copy 61 = .ok (.aload_n 1, 1) := by decide +kernel
theorem dX4_copy_62 : decode cX4_copy 62 = .ok (.getfield 25, 3) := by decide +kernel
theorem dX4_copy_65 : decode cX4_copy 65 = .ok (.iconst 0, 1) := by decide +kernel
theorem dX4_copy_66 : decode cX4_copy 66 = .ok (.aload_n 0, 1) := by decide +kernel
theorem dX4_copy_67 : decode cX4_copy 67 = .ok (.getfield 25, 3) := by decide +kernel
theorem dX4_copy_70 : decode cX4_copy 70 = .ok (.iconst 0, 1) := by decide +kernel
theorem dX4_copy_71 : decode cX4_copy 71 = .ok (.sipush 400, 3) := by decide +kernel
theorem dX4_copy_74 : decode cX4_copy 74 = .ok (.invokestatic 60, 3) := by decide +kernel
theorem dX4_copy_77 : decode cX4_copy 77 = .ok (.return_, 1) := by decide +kernel
theorem dX5_init_0 : decode cX5_init 0 = .ok (.aload_n 0, 1) := by decide +kernel
theorem dX5_init_1 : decode cX5_init 1 = .ok (.invokespecial 5, 3) := by decide +kernel
theorem dX5_init_4 : decode cX5_init 4 = .ok (.aload_n 0, 1) := by decide +kernel
theorem dX5_init_5 : decode cX5_init 5 = .ok (.new 11, 3) := by decide +kernel
theorem dX5_init_8 : decode cX5_init 8 = .ok (.dup, 1) := by decide +kernel
theorem dX5_init_9 : decode cX5_init 9 = .ok (.invokespecial 13, 3) := by decide +kernel
theorem dX5_init_12 : decode cX5_init 12 = .ok (.putfield 14, 3) := by decide +kernel
theorem dX5_init_15 : decode cX5_init 15 = .ok (.aload_n 0, 1) := by decide +kernel
theorem dX5_init_16 : decode cX5_init 16 = .ok (.bipush 21, 2) := by decide +kernel
theorem dX5_init_18 : decode cX5_init 18 = .ok (.newarray .int, 2) := by decide +kernel
theorem dX5_init_20 : decode cX5_init 20 = .ok (.putfield 18, 3) := by decide +kernel
theorem dX5_init_23 : decode cX5_init 23 = .ok (.aload_n 0, 1) := by decide +kernel
theorem dX5_init_24 : decode cX5_init 24 = .ok (.iconst 0, 1) := by decide +kernel
theorem dX5_init_25 : decode cX5_init 25 = .ok (.putfield 22, 3) := by decide +kernel
theorem dX5_init_28 : decode cX5_init 28 = .ok (.aload_n 0, 1) := by decide +kernel
theorem dX5_init_29 : decode cX5_init 29 = .ok (.iconst 0, 1) := by decide +kernel
theorem dX5_init_30 : decode cX5_init 30 = .ok (.putfield 26, 3) := by decide +kernel
theorem dX5_init_33 : decode cX5_init 33 = .ok (.return_, 1) := by decide +kernel
theorem dX5_readLine_0 : decode cX5_readLine 0 = .ok (.aload_n 0, 1) := by decide +kernel
theorem dX5_readLine_1 : decode cX5_readLine 1 = .ok (.invokevirtual 29, 3) := by decide +kernel
theorem dX5_readLine_4 : decode cX5_readLine 4 = .ok (.istore_n 1, 1) := by decide +kernel
theorem dX5_readLine_5 : decode cX5_readLine 5 = .ok (.iload_n 1, 1) := by decide +kernel
theorem dX5_readLine_6 : decode cX5_readLine 6 = .ok (.iconst (-1), 1) := by decide +kernel
theorem dX5_readLine_7 : decode cX5_readLine 7 = .ok (.if_icmp .ne 5, 3) := by decide +kernel
theorem dX5_readLine_10 : decode cX5_readLine 10 = .ok (.iconst 0, 1) := by decide +kernel
theorem dX5_readLine_11 : decode cX5_readLine 11 = .ok (.ireturn, 1) := by decide +kernel
theorem dX5_readLine_12 : decode cX5_readLine 12 = .ok (.aload_n 0, 1) := by decide +kernel
theorem dX5_readLine_13 : decode cX5_readLine 13 = .ok (.iconst 0, 1) := by decide +kernel
theorem dX5_readLine_14 : decode cX5_readLine 14 = .ok (.bipush 60, 2) := by decide +kernel
theorem dX5_readLine_16 : decode cX5_readLine 16 = .ok (.invokevirtual 33, 3) := by decide +kernel
theorem dX5_readLine_19 : decode cX5_readLine 19 = .ok (.istore_n 2, 1) := by decide +kernel
theorem dX5_readLine_20 : decode cX5_readLine 20 = .ok (.iload_n 2, 1) := by decide +kernel
theorem dX5_readLine_21 : decode cX5_readLine 21 = .ok (.iconst (-1), 1) := by decide +kernel
theorem dX5_readLine_22 : decode cX5_readLine 22 = .ok (.if_icmp .ne 5, 3) := by decide +kernel
theorem dX5_readLine_25 : decode cX5_readLine 25 = .ok (.iconst 0, 1) := by decide +kernel
theorem dX5_readLine_26 : decode cX5_readLine 26 = .ok (.ireturn, 1) := by decide +kernel
theorem dX5_readLine_27 : decode cX5_readLine 27 = .ok (.aload_n 0, 1) := by decide +kernel
theorem dX5_readLine_28 : decode cX5_readLine 28 = .ok (.ldc 37, 2) := by decide +kernel
theorem dX5_readLine_30 : decode cX5_readLine 30 = .ok (.invokevirtual 39, 3) := by decide +kernel
theorem dX5_readLine_33 : decode cX5_readLine 33 = .ok (.ifCond .eq 16, 3) := by decide +kernel
theorem dX5_readLine_36 : decode cX5_readLine 36 = .ok (.aload_n 0, 1) := by decide +kernel
theorem dX5_readLine_37 : decode cX5_readLine 37 = .ok (.invokevirtual 43, 3) := by decide +kernel
theorem dX5_readLine_40 : decode cX5_readLine 40 = .ok (.aload_n 0, 1) := by decide +kernel
theorem dX5_readLine_41 : decode cX5_readLine 41 = .ok (.invokevirtual 46, 3) := by decide +kernel
theorem dX5_readLine_44 : decode cX5_readLine 44 = .ok (.ifCond .ne 5, 3) := by decide +kernel
theorem dX5_readLine_47 : decode cX5_readLine 47 = .ok (.iconst 0, 1) := by decide +kernel
theorem dX5_readLine_48 : decode cX5_readLine 48 = .ok (.ireturn, 1) := by decide +kernel
theorem dX5_readLine_49 : decode cX5_readLine 49 = .ok (.aload_n 0, 1) := by decide +kernel
theorem dX5_readLine_50 : decode cX5_readLine 50 = .ok (.getfield 14, 3) := by decide +kernel
theorem dX5_readLine_53 : decode cX5_readLine 53 = .ok (.iload_n 1, 1) := by decide +kernel
theorem dX5_readLine_54 : decode cX5_readLine 54 = .ok (.iload_n 2, 1) := by decide +kernel
theorem dX5_readLine_55 : decode cX5_readLine 55 = .ok (.invokevirtual 50, 3) := by decide +kernel
theorem dX5_readLine_58 : decode cX5_readLine 58 = .ok (.iconst 1, 1) := by decide +kernel
theorem dX5_readLine_59 : decode cX5_readLine 59 = .ok (.ireturn, 1) := by decide +kernel
theorem dX5_kindHere_0 : decode cX5_kindHere 0 = .ok (.aload_n 0, 1) := by decide +kernel
theorem dX5_kindHere_1 : decode cX5_kindHere 1 = .ok (.ldc 54, 2) := by decide +kernel
theorem dX5_kindHere_3 : decode cX5_kindHere 3 = .ok (.invokevirtual 39, 3) := by decide +kernel
theorem dX5_kindHere_6 : decode cX5_kindHere 6 = .ok (.ifCond .eq 5, 3) := by decide +kernel
theorem dX5_kindHere_9 : decode cX5_kindHere 9 = .ok (.iconst 0, 1) := by decide +kernel
theorem dX5_kindHere_10 : decode cX5_kindHere 10 = .ok (.ireturn, 1) := by decide +kernel
theorem dX5_kindHere_11 : decode cX5_kindHere 11 = .ok (.aload_n 0, 1) := by decide +kernel
theorem dX5_kindHere_12 : decode cX5_kindHere 12 = .ok (.ldc 56, 2) := by decide +kernel
theorem dX5_kindHere_14 : decode cX5_kindHere 14 = .ok (.invokevirtual 39, 3) := by decide +kernel
theorem dX5_kindHere_17 : decode cX5_kindHere 17 = .ok (.ifCond .eq 5, 3) := by decide +kernel
theorem dX5_kindHere_20 : decode cX5_kindHere 20 = .ok (.iconst 1, 1) := by decide +kernel
theorem dX5_kindHere_21 : decode cX5_kindHere 21 = .ok (.ireturn, 1) := by decide +kernel
theorem dX5_kindHere_22 : decode cX5_kindHere 22 = .ok (.aload_n 0, 1) := by decide +kernel
theorem dX5_kindHere_23 : decode cX5_kindHere 23 = .ok (.ldc 58, 2) := by decide +kernel
theorem dX5_kindHere_25 : decode cX5_kindHere 25 = .ok (.invokevirtual 39, 3) := by decide +kernel
theorem dX5_kindHere_28 : decode cX5_kindHere 28 = .ok (.ifCond .eq 7, 3) := by decide +kernel
theorem dX5_kindHere_31 : decode cX5_kindHere 31 = .ok (.iconst 2, 1) := by decide +kernel
theorem dX5_kindHere_32 : decode cX5_kindHere 32 = .ok (.goto 4, 3) := by decide +kernel
theorem dX5_kindHere_35 : decode cX5_kindHere 35 = .ok (.iconst (-1), 1) := by decide +kernel
theorem dX5_kindHere_36 : decode cX5_kindHere 36 = .ok (.ireturn, 1) := by decide +kernel
theorem dX5_readCondition_0 : decode cX5_readCondition 0 = .ok (.aload_n 0, 1) := by decide +kernel
theorem dX5_readCondition_1 : decode cX5_readCondition 1 = .ok (.iconst 0, 1) := by decide +kernel
theorem dX5_readCondition_2 : decode cX5_readCondition 2 = .ok (.putfield 22, 3) := by decide +kernel
theorem dX5_readCondition_5 : decode cX5_readCondition 5 = .ok (.aload_n 0, 1) := by decide +kernel
theorem dX5_readCondition_6 : decode cX5_readCondition 6 = .ok (.iconst 0, 1) := by decide +kernel
theorem dX5_readCondition_7 : decode cX5_readCondition 7 = .ok (.putfield 26, 3) := by decide +kernel
theorem dX5_readCondition_10 : decode cX5_readCondition 10 = .ok (.iconst 0, 1) := by decide +kernel
theorem dX5_readCondition_11 : decode cX5_readCondition 11 = .ok (.istore_n 1, 1) := by decide +kernel
theorem dX5_readCondition_12 : decode cX5_readCondition 12 = .ok (.iload_n 1, 1) := by decide +kernel
theorem dX5_readCondition_13 : decode cX5_readCondition 13 = .ok (.sipush 400, 3) := by decide +kernel
theorem dX5_readCondition_16 : decode cX5_readCondition 16 = .ok (.if_icmp .ge 108, 3) := by decide +kernel
theorem dX5_readCondition_19 : decode cX5_readCondition 19 = .ok (.aload_n 0, 1) := by decide +kernel
theorem dX5_readCondition_20 : decode cX5_readCondition 20 = .ok (.invokevirtual 60, 3) := by decide +kernel
theorem dX5_readCondition_23 : decode cX5_readCondition 23 = .ok (.istore_n 2, 1) := by decide +kernel
theorem dX5_readCondition_24 : decode cX5_readCondition 24 = .ok (.iload_n 2, 1) := by decide +kernel
theorem dX5_readCondition_25 : decode cX5_readCondition 25 = .ok (.iconst (-1), 1) := by decide +kernel
theorem dX5_readCondition_26 : decode cX5_readCondition 26 = .ok (.if_icmp .eq 32, 3) := by decide +kernel
theorem dX5_readCondition_29 : decode cX5_readCondition 29 = .ok (.aload_n 0, 1) := by decide +kernel
theorem dX5_readCondition_30 : decode cX5_readCondition 30 = .ok (.getfield 26, 3) := by decide +kernel
theorem dX5_readCondition_33 : decode cX5_readCondition 33 = .ok (.bipush 6, 2) := by decide +kernel
theorem dX5_readCondition_35 : decode cX5_readCondition 35 = .ok (.if_icmp .lt 5, 3) := by decide +kernel
theorem dX5_readCondition_38 : decode cX5_readCondition 38 = .ok (.iconst 0, 1) := by decide +kernel
theorem dX5_readCondition_39 : decode cX5_readCondition 39 = .ok (.ireturn, 1) := by decide +kernel
theorem dX5_readCondition_40 : decode cX5_readCondition 40 = .ok (.aload_n 0, 1) := by decide +kernel
theorem dX5_readCondition_41 : decode cX5_readCondition 41 = .ok (.dup, 1) := by decide +kernel
theorem dX5_readCondition_42 : decode cX5_readCondition 42 = .ok (.getfield 26, 3) := by decide +kernel
theorem dX5_readCondition_45 : decode cX5_readCondition 45 = .ok (.iconst 1, 1) := by decide +kernel
theorem dX5_readCondition_46 : decode cX5_readCondition 46 = .ok (.iadd, 1) := by decide +kernel
theorem dX5_readCondition_47 : decode cX5_readCondition 47 = .ok (.putfield 26, 3) := by decide +kernel
theorem dX5_readCondition_50 : decode cX5_readCondition 50 = .ok (.aload_n 0, 1) := by decide +kernel
theorem dX5_readCondition_51 : decode cX5_readCondition 51 = .ok (.iload_n 2, 1) := by decide +kernel
theorem dX5_readCondition_52 : decode cX5_readCondition 52 = .ok (.invokevirtual 63, 3) := by decide +kernel
theorem dX5_readCondition_55 : decode cX5_readCondition 55 = .ok (.goto 63, 3) := by decide +kernel
theorem dX5_readCondition_58 : decode cX5_readCondition 58 = .ok (.aload_n 0, 1) := by decide +kernel
theorem dX5_readCondition_59 : decode cX5_readCondition 59 = .ok (.invokevirtual 67, 3) := by decide +kernel
theorem dX5_readCondition_62 : decode cX5_readCondition 62 = .ok (.ifCond .ne 12, 3) := by decide +kernel
theorem dX5_readCondition_65 : decode cX5_readCondition 65 = .ok (.aload_n 0, 1) := by decide +kernel
theorem dX5_readCondition_66 : decode cX5_readCondition 66 = .ok (.invokevirtual 70, 3) := by decide +kernel
theorem dX5_readCondition_69 : decode cX5_readCondition 69 = .ok (.ifCond .ne 5, 3) := by decide +kernel
theorem dX5_readCondition_72 : decode cX5_readCondition 72 = .ok (.iconst 0, 1) := by decide +kernel
theorem dX5_readCondition_73 : decode cX5_readCondition 73 = .ok (.ireturn, 1) := by decide +kernel
theorem dX5_readCondition_74 : decode cX5_readCondition 74 = .ok (.aload_n 0, 1) := by decide +kernel
theorem dX5_readCondition_75 : decode cX5_readCondition 75 = .ok (.invokevirtual 73, 3) := by decide +kernel
theorem dX5_readCondition_78 : decode cX5_readCondition 78 = .ok (.aload_n 0, 1) := by decide +kernel
theorem dX5_readCondition_79 : decode cX5_readCondition 79 = .ok (.invokevirtual 76, 3) := by decide +kernel
theorem dX5_readCondition_82 : decode cX5_readCondition 82 = .ok (.istore_n 3, 1) := by decide +kernel
theorem dX5_readCondition_83 : decode cX5_readCondition 83 = .ok (.iload_n 3, 1) := by decide +kernel
theorem dX5_readCondition_84 : decode cX5_readCondition 84 = .ok (.iconst (-1), 1) := by decide +kernel
theorem dX5_readCondition_85 : decode cX5_readCondition 85 = .ok (.if_icmp .ne 23, 3) := by decide +kernel
theorem dX5_readCondition_88 : decode cX5_readCondition 88 = .ok (.aload_n 0, 1) := by decide +kernel
theorem dX5_readCondition_89 : decode cX5_readCondition 89 = .ok (.sipush 1015, 3) := by decide +kernel
theorem dX5_readCondition_92 : decode cX5_readCondition 92 = .ok (.invokevirtual 79, 3) := by decide +kernel
theorem dX5_readCondition_95 : decode cX5_readCondition 95 = .ok (.aload_n 0, 1) := by decide +kernel
theorem dX5_readCondition_96 : decode cX5_readCondition 96 = .ok (.getfield 22, 3) := by decide +kernel
theorem dX5_readCondition_99 : decode cX5_readCondition 99 = .ok (.ifCond .ne 7, 3) := by decide +kernel
theorem dX5_readCondition_102 : decode cX5_readCondition 102 = .ok (.iconst 1, 1) := by decide +kernel
theorem dX5_readCondition_103 : decode cX5_readCondition 103 = .ok (.goto 4, 3) := by decide +kernel
theorem dX5_readCondition_106 : decode cX5_readCondition 106 = .ok (.iconst 0, 1) := by decide +kernel
theorem dX5_readCondition_107 : decode cX5_readCondition 107 = .ok (.ireturn, 1) := by decide +kernel
theorem dX5_readCondition_108 : decode cX5_readCondition 108 = .ok (.aload_n 0, 1) := by decide +kernel
theorem dX5_readCondition_109 : decode cX5_readCondition 109 = .ok (.iload_n 3, 1) := by decide +kernel
theorem dX5_readCondition_110 : decode cX5_readCondition 110 = .ok (.invokevirtual 79, 3) := by decide +kernel
theorem dX5_readCondition_113 : decode cX5_readCondition 113 = .ok (.aload_n 0, 1) := by decide +kernel
theorem dX5_readCondition_114 : decode cX5_readCondition 114 = .ok (.iload_n 3, 1) := by decide +kernel
theorem dX5_readCondition_115 : decode cX5_readCondition 115 = .ok (.invokevirtual 63, 3) := by decide +kernel
theorem dX5_readCondition_118 : decode cX5_readCondition 118 = .ok (.iinc 1 1, 3) := by decide +kernel
theorem dX5_readCondition_121 : decode cX5_readCondition 121 = .ok (.goto (-109), 3) := by decide +kernel
theorem dX5_readCondition_124 : decode cX5_readCondition 124 = .ok (.iconst 0, 1) := by decide +kernel
theorem dX5_readCondition_125 : decode cX5_readCondition 125 = .ok (.ireturn, 1) := by decide +kernel
theorem dX5_openingHere_0 : decode cX5_openingHere 0 = .ok (.aload_n 0, 1) := by decide +kernel
theorem dX5_openingHere_1 : decode cX5_openingHere 1 = .ok (.ldc 82, 2) := by decide +kernel
theorem dX5_openingHere_3 : decode cX5_openingHere 3 = .ok (.invokevirtual 39, 3) := by decide +kernel
theorem dX5_openingHere_6 : decode cX5_openingHere 6 = .ok (.ifCond .eq 7, 3) := by decide +kernel
theorem dX5_openingHere_9 : decode cX5_openingHere 9 = .ok (.sipush 1013, 3) := by decide +kernel
theorem dX5_openingHere_12 : decode cX5_openingHere 12 = .ok (.ireturn, 1) := by decide +kernel
theorem dX5_openingHere_13 : decode cX5_openingHere 13 = .ok (.aload_n 0, 1) := by decide +kernel
theorem dX5_openingHere_14 : decode cX5_openingHere 14 = .ok (.bipush 40, 2) := by decide +kernel
theorem dX5_openingHere_16 : decode cX5_openingHere 16 = .ok (.invokevirtual 84, 3) := by decide +kernel
theorem dX5_openingHere_19 : decode cX5_openingHere 19 = .ok (.ifCond .eq 7, 3) := by decide +kernel
theorem dX5_openingHere_22 : decode cX5_openingHere 22 = .ok (.iconst 0, 1) := by decide +kernel
theorem dX5_openingHere_23 : decode cX5_openingHere 23 = .ok (.goto 4, 3) := by decide +kernel
theorem dX5_openingHere_26 : decode cX5_openingHere 26 = .ok (.iconst (-1), 1) := by decide +kernel
theorem dX5_openingHere_27 : decode cX5_openingHere 27 = .ok (.ireturn, 1) := by decide +kernel
theorem dX5_joiningHere_0 : decode cX5_joiningHere 0 = .ok (.aload_n 0, 1) := by decide +kernel
theorem dX5_joiningHere_1 : decode cX5_joiningHere 1 = .ok (.ldc 88, 2) := by decide +kernel
theorem dX5_joiningHere_3 : decode cX5_joiningHere 3 = .ok (.invokevirtual 39, 3) := by decide +kernel
theorem dX5_joiningHere_6 : decode cX5_joiningHere 6 = .ok (.ifCond .eq 7, 3) := by decide +kernel
theorem dX5_joiningHere_9 : decode cX5_joiningHere 9 = .ok (.sipush 1014, 3) := by decide +kernel
theorem dX5_joiningHere_12 : decode cX5_joiningHere 12 = .ok (.ireturn, 1) := by decide +kernel
theorem dX5_joiningHere_13 : decode cX5_joiningHere 13 = .ok (.aload_n 0, 1) := by decide +kernel
theorem dX5_joiningHere_14 : decode cX5_joiningHere 14 = .ok (.ldc 90, 2) := by decide +kernel
theorem dX5_joiningHere_16 : decode cX5_joiningHere 16 = .ok (.invokevirtual 39, 3) := by decide +kernel
theorem dX5_joiningHere_19 : decode cX5_joiningHere 19 = .ok (.ifCond .eq 9, 3) := by decide +kernel
theorem dX5_joiningHere_22 : decode cX5_joiningHere 22 = .ok (.sipush 1015, 3) := by decide +kernel
theorem dX5_joiningHere_25 : decode cX5_joiningHere 25 = .ok (.goto 4, 3) := by decide +kernel
theorem dX5_joiningHere_28 : decode cX5_joiningHere 28 = .ok (.iconst (-1), 1) := by decide +kernel
theorem dX5_joiningHere_29 : decode cX5_joiningHere 29 = .ok (.ireturn, 1) := by decide +kernel
theorem dX5_putOff_0 : decode cX5_putOff 0 = .ok (.aload_n 0, 1) := by decide +kernel
theorem dX5_putOff_1 : decode cX5_putOff 1 = .ok (.getfield 22, 3) := by decide +kernel
theorem dX5_putOff_4 : decode cX5_putOff 4 = .ok (.bipush 21, 2) := by decide +kernel
theorem dX5_putOff_6 : decode cX5_putOff 6 = .ok (.if_icmp .ge 23, 3) := by decide +kernel
theorem dX5_putOff_9 : decode cX5_putOff 9 = .ok (.aload_n 0, 1) := by decide +kernel
theorem dX5_putOff_10 : decode cX5_putOff 10 = .ok (.getfield 18, 3) := by decide +kernel
theorem dX5_putOff_13 : decode cX5_putOff 13 = .ok (.aload_n 0, 1) := by decide +kernel
theorem dX5_putOff_14 : decode cX5_putOff 14 = .ok (.getfield 22, 3) := by decide +kernel
theorem dX5_putOff_17 : decode cX5_putOff 17 = .ok (.iload_n 1, 1) := by decide +kernel
theorem dX5_putOff_18 : decode cX5_putOff 18 = .ok (.iastore, 1) := by decide +kernel
theorem dX5_putOff_19 : decode cX5_putOff 19 = .ok (.aload_n 0, 1) := by decide +kernel
theorem dX5_putOff_20 : decode cX5_putOff 20 = .ok (.dup, 1) := by decide +kernel
theorem dX5_putOff_21 : decode cX5_putOff 21 = .ok (.getfield 22, 3) := by decide +kernel
theorem dX5_putOff_24 : decode cX5_putOff 24 = .ok (.iconst 1, 1) := by decide +kernel
theorem dX5_putOff_25 : decode cX5_putOff 25 = .ok (.iadd, 1) := by decide +kernel
theorem dX5_putOff_26 : decode cX5_putOff 26 = .ok (.putfield 22, 3) := by decide +kernel
theorem dX5_putOff_29 : decode cX5_putOff 29 = .ok (.aload_n 0, 1) := by decide +kernel
theorem dX5_putOff_30 : decode cX5_putOff 30 = .ok (.invokevirtual 43, 3) := by decide +kernel
theorem dX5_putOff_33 : decode cX5_putOff 33 = .ok (.return_, 1) := by decide +kernel
theorem dX5_settle_0 : decode cX5_settle 0 = .ok (.aload_n 0, 1) := by decide +kernel
theorem dX5_settle_1 : decode cX5_settle 1 = .ok (.getfield 22, 3) := by decide +kernel
theorem dX5_settle_4 : decode cX5_settle 4 = .ok (.iconst 1, 1) := by decide +kernel
theorem dX5_settle_5 : decode cX5_settle 5 = .ok (.isub, 1) := by decide +kernel
theorem dX5_settle_6 : decode cX5_settle 6 = .ok (.istore_n 2, 1) := by decide +kernel
theorem dX5_settle_7 : decode cX5_settle 7 = .ok (.iload_n 2, 1) := by decide +kernel
theorem dX5_settle_8 : decode cX5_settle 8 = .ok (.ifCond .lt 68, 3) := by decide +kernel
theorem dX5_settle_11 : decode cX5_settle 11 = .ok (.aload_n 0, 1) := by decide +kernel
theorem dX5_settle_12 : decode cX5_settle 12 = .ok (.getfield 18, 3) := by decide +kernel
theorem dX5_settle_15 : decode cX5_settle 15 = .ok (.iload_n 2, 1) := by decide +kernel
theorem dX5_settle_16 : decode cX5_settle 16 = .ok (.iaload, 1) := by decide +kernel
theorem dX5_settle_17 : decode cX5_settle 17 = .ok (.ifCond .eq 59, 3) := by decide +kernel
theorem dX5_settle_20 : decode cX5_settle 20 = .ok (.aload_n 0, 1) := by decide +kernel
theorem dX5_settle_21 : decode cX5_settle 21 = .ok (.getfield 18, 3) := by decide +kernel
theorem dX5_settle_24 : decode cX5_settle 24 = .ok (.iload_n 2, 1) := by decide +kernel
theorem dX5_settle_25 : decode cX5_settle 25 = .ok (.iaload, 1) := by decide +kernel
theorem dX5_settle_26 : decode cX5_settle 26 = .ok (.iload_n 1, 1) := by decide +kernel
theorem dX5_settle_27 : decode cX5_settle 27 = .ok (.if_icmp .gt 49, 3) := by decide +kernel
theorem dX5_settle_30 : decode cX5_settle 30 = .ok (.aload_n 0, 1) := by decide +kernel
theorem dX5_settle_31 : decode cX5_settle 31 = .ok (.getfield 18, 3) := by decide +kernel
theorem dX5_settle_34 : decode cX5_settle 34 = .ok (.iload_n 2, 1) := by decide +kernel
theorem dX5_settle_35 : decode cX5_settle 35 = .ok (.iaload, 1) := by decide +kernel
theorem dX5_settle_36 : decode cX5_settle 36 = .ok (.sipush 1013, 3) := by decide +kernel
theorem dX5_settle_39 : decode cX5_settle 39 = .ok (.if_icmp .ne 13, 3) := by decide +kernel
theorem dX5_settle_42 : decode cX5_settle 42 = .ok (.aload_n 0, 1) := by decide +kernel
theorem dX5_settle_43 : decode cX5_settle 43 = .ok (.dup, 1) := by decide +kernel
theorem dX5_settle_44 : decode cX5_settle 44 = .ok (.getfield 26, 3) := by decide +kernel
theorem dX5_settle_47 : decode cX5_settle 47 = .ok (.iconst 1, 1) := by decide +kernel
theorem dX5_settle_48 : decode cX5_settle 48 = .ok (.isub, 1) := by decide +kernel
theorem dX5_settle_49 : decode cX5_settle 49 = .ok (.putfield 26, 3) := by decide +kernel
theorem dX5_settle_52 : decode cX5_settle 52 = .ok (.aload_n 0, 1) := by decide +kernel
theorem dX5_settle_53 : decode cX5_settle 53 = .ok (.getfield 14, 3) := by decide +kernel
theorem dX5_settle_56 : decode cX5_settle 56 = .ok (.aload_n 0, 1) := by decide +kernel
theorem dX5_settle_57 : decode cX5_settle 57 = .ok (.getfield 18, 3) := by decide +kernel
theorem dX5_settle_60 : decode cX5_settle 60 = .ok (.iload_n 2, 1) := by decide +kernel
theorem dX5_settle_61 : decode cX5_settle 61 = .ok (.iaload, 1) := by decide +kernel
theorem dX5_settle_62 : decode cX5_settle 62 = .ok (.invokevirtual 92, 3) := by decide +kernel
theorem dX5_settle_65 : decode cX5_settle 65 = .ok (.aload_n 0, 1) := by decide +kernel
theorem dX5_settle_66 : decode cX5_settle 66 = .ok (.iload_n 2, 1) := by decide +kernel
theorem dX5_settle_67 : decode cX5_settle 67 = .ok (.putfield 22, 3) := by decide +kernel
theorem dX5_settle_70 : decode cX5_settle 70 = .ok (.iinc 2 (-1), 3) := by decide +kernel
theorem dX5_settle_73 : decode cX5_settle 73 = .ok (.goto (-66), 3) := by decide +kernel
theorem dX5_settle_76 : decode cX5_settle 76 = .ok (.return_, 1) := by decide +kernel
theorem dX5_closeBrackets_0 : decode cX5_closeBrackets 0 = .ok (.iconst 0, 1) := by decide +kernel
theorem dX5_closeBrackets_1 : decode cX5_closeBrackets 1 = .ok (.istore_n 1, 1) := by decide +kernel
theorem dX5_closeBrackets_2 : decode cX5_closeBrackets 2 = .ok (.iload_n 1, 1) := by decide +kernel
theorem dX5_closeBrackets_3 : decode cX5_closeBrackets 3 = .ok (.bipush 6, 2) := by decide +kernel
theorem dX5_closeBrackets_5 : decode cX5_closeBrackets 5 = .ok (.if_icmp .ge 57, 3) := by decide +kernel
theorem dX5_closeBrackets_8 : decode cX5_closeBrackets 8 = .ok (.aload_n 0, 1) := by decide +kernel
theorem dX5_closeBrackets_9 : decode cX5_closeBrackets 9 = .ok (.bipush 41, 2) := by decide +kernel
theorem dX5_closeBrackets_11 : decode cX5_closeBrackets 11 = .ok (.invokevirtual 84, 3) := by decide +kernel
theorem dX5_closeBrackets_14 : decode cX5_closeBrackets 14 = .ok (.ifCond .eq 48, 3) := by decide +kernel
theorem dX5_closeBrackets_17 : decode cX5_closeBrackets 17 = .ok (.aload_n 0, 1) := by decide +kernel
theorem dX5_closeBrackets_18 : decode cX5_closeBrackets 18 = .ok (.sipush 1015, 3) := by decide +kernel
theorem dX5_closeBrackets_21 : decode cX5_closeBrackets 21 = .ok (.invokevirtual 79, 3) := by decide +kernel
theorem dX5_closeBrackets_24 : decode cX5_closeBrackets 24 = .ok (.aload_n 0, 1) := by decide +kernel
theorem dX5_closeBrackets_25 : decode cX5_closeBrackets 25 = .ok (.getfield 22, 3) := by decide +kernel
theorem dX5_closeBrackets_28 : decode cX5_closeBrackets 28 = .ok (.ifCond .ne 4, 3) := by decide +kernel
theorem dX5_closeBrackets_31 : decode cX5_closeBrackets 31 = .ok (.return_, 1) := by decide +kernel
theorem dX5_closeBrackets_32 : decode cX5_closeBrackets 32 = .ok (.aload_n 0, 1) := by decide +kernel
theorem dX5_closeBrackets_33 : decode cX5_closeBrackets 33 = .ok (.dup, 1) := by decide +kernel
theorem dX5_closeBrackets_34 : decode cX5_closeBrackets 34 = .ok (.getfield 22, 3) := by decide +kernel
theorem dX5_closeBrackets_37 : decode cX5_closeBrackets 37 = .ok (.iconst 1, 1) := by decide +kernel
theorem dX5_closeBrackets_38 : decode cX5_closeBrackets 38 = .ok (.isub, 1) := by decide +kernel
theorem dX5_closeBrackets_39 : decode cX5_closeBrackets 39 = .ok (.putfield 22, 3) := by decide +kernel
theorem dX5_closeBrackets_42 : decode cX5_closeBrackets 42 = .ok (.aload_n 0, 1) := by decide +kernel
theorem dX5_closeBrackets_43 : decode cX5_closeBrackets 43 = .ok (.dup, 1) := by decide +kernel
theorem dX5_closeBrackets_44 : decode cX5_closeBrackets 44 = .ok (.getfield 26, 3) := by decide +kernel
theorem dX5_closeBrackets_47 : decode cX5_closeBrackets 47 = .ok (.iconst 1, 1) := by decide +kernel
theorem dX5_closeBrackets_48 : decode cX5_closeBrackets 48 = .ok (.isub, 1) := by decide +kernel
theorem dX5_closeBrackets_49 : decode cX5_closeBrackets 49 = .ok (.putfield 26, 3) := by decide +kernel
theorem dX5_closeBrackets_52 : decode cX5_closeBrackets 52 = .ok (.aload_n 0, 1) := by decide +kernel
theorem dX5_closeBrackets_53 : decode cX5_closeBrackets 53 = .ok (.invokevirtual 43, 3) := by decide +kernel
theorem dX5_closeBrackets_56 : decode cX5_closeBrackets 56 = .ok (.iinc 1 1, 3) := by decide +kernel
theorem dX5_closeBrackets_59 : decode cX5_closeBrackets 59 = .ok (.goto (-57), 3) := by decide +kernel
theorem dX5_closeBrackets_62 : decode cX5_closeBrackets 62 = .ok (.return_, 1) := by decide +kernel
theorem dX5_readState_0 : decode cX5_readState 0 = .ok (.aload_n 0, 1) := by decide +kernel
theorem dX5_readState_1 : decode cX5_readState 1 = .ok (.invokevirtual 95, 3) := by decide +kernel
theorem dX5_readState_4 : decode cX5_readState 4 = .ok (.istore_n 1, 1) := by decide +kernel
theorem dX5_readState_5 : decode cX5_readState 5 = .ok (.iload_n 1, 1) := by decide +kernel
theorem dX5_readState_6 : decode cX5_readState 6 = .ok (.iconst (-1), 1) := by decide +kernel
theorem dX5_readState_7 : decode cX5_readState 7 = .ok (.if_icmp .ne 5, 3) := by decide +kernel
theorem dX5_readState_10 : decode cX5_readState 10 = .ok (.iconst 0, 1) := by decide +kernel
theorem dX5_readState_11 : decode cX5_readState 11 = .ok (.ireturn, 1) := by decide +kernel
theorem dX5_readState_12 : decode cX5_readState 12 = .ok (.aload_n 0, 1) := by decide +kernel
theorem dX5_readState_13 : decode cX5_readState 13 = .ok (.getfield 14, 3) := by decide +kernel
theorem dX5_readState_16 : decode cX5_readState 16 = .ok (.sipush 1000, 3) := by decide +kernel
theorem dX5_readState_19 : decode cX5_readState 19 = .ok (.iload_n 1, 1) := by decide +kernel
theorem dX5_readState_20 : decode cX5_readState 20 = .ok (.iadd, 1) := by decide +kernel
theorem dX5_readState_21 : decode cX5_readState 21 = .ok (.invokevirtual 92, 3) := by decide +kernel
theorem dX5_readState_24 : decode cX5_readState 24 = .ok (.aload_n 0, 1) := by decide +kernel
theorem dX5_readState_25 : decode cX5_readState 25 = .ok (.invokevirtual 43, 3) := by decide +kernel
theorem dX5_readState_28 : decode cX5_readState 28 = .ok (.iconst 1, 1) := by decide +kernel
theorem dX5_readState_29 : decode cX5_readState 29 = .ok (.ireturn, 1) := by decide +kernel
theorem dX5_stateHere_0 : decode cX5_stateHere 0 = .ok (.aload_n 0, 1) := by decide +kernel
theorem dX5_stateHere_1 : decode cX5_stateHere 1 = .ok (.ldc 98, 2) := by decide +kernel
theorem dX5_stateHere_3 : decode cX5_stateHere 3 = .ok (.invokevirtual 39, 3) := by decide +kernel
theorem dX5_stateHere_6 : decode cX5_stateHere 6 = .ok (.ifCond .eq 6, 3) := by decide +kernel
theorem dX5_stateHere_9 : decode cX5_stateHere 9 = .ok (.bipush 6, 2) := by decide +kernel
theorem dX5_stateHere_11 : decode cX5_stateHere 11 = .ok (.ireturn, 1) := by decide +kernel
theorem dX5_stateHere_12 : decode cX5_stateHere 12 = .ok (.aload_n 0, 1) := by decide +kernel
theorem dX5_stateHere_13 : decode cX5_stateHere 13 = .ok (.ldc 102, 2) := by decide +kernel
theorem dX5_stateHere_15 : decode cX5_stateHere 15 = .ok (.invokevirtual 39, 3) := by decide +kernel
theorem dX5_stateHere_18 : decode cX5_stateHere 18 = .ok (.ifCond .eq 6, 3) := by decide +kernel
theorem dX5_stateHere_21 : decode cX5_stateHere 21 = .ok (.bipush 7, 2) := by decide +kernel
theorem dX5_stateHere_23 : decode cX5_stateHere 23 = .ok (.ireturn, 1) := by decide +kernel
theorem dX5_stateHere_24 : decode cX5_stateHere 24 = .ok (.aload_n 0, 1) := by decide +kernel
theorem dX5_stateHere_25 : decode cX5_stateHere 25 = .ok (.ldc 104, 2) := by decide +kernel
theorem dX5_stateHere_27 : decode cX5_stateHere 27 = .ok (.invokevirtual 39, 3) := by decide +kernel
theorem dX5_stateHere_30 : decode cX5_stateHere 30 = .ok (.ifCond .eq 8, 3) := by decide +kernel
theorem dX5_stateHere_33 : decode cX5_stateHere 33 = .ok (.bipush 8, 2) := by decide +kernel
theorem dX5_stateHere_35 : decode cX5_stateHere 35 = .ok (.goto 4, 3) := by decide +kernel
theorem dX5_stateHere_38 : decode cX5_stateHere 38 = .ok (.iconst (-1), 1) := by decide +kernel
theorem dX5_stateHere_39 : decode cX5_stateHere 39 = .ok (.ireturn, 1) := by decide +kernel
theorem dX5_readComparison_0 : decode cX5_readComparison 0 = .ok (.aload_n 0, 1) := by decide +kernel
theorem dX5_readComparison_1 : decode cX5_readComparison 1 = .ok (.invokevirtual 106, 3) := by decide +kernel
theorem dX5_readComparison_4 : decode cX5_readComparison 4 = .ok (.ifCond .ne 5, 3) := by decide +kernel
theorem dX5_readComparison_7 : decode cX5_readComparison 7 = .ok (.iconst 0, 1) := by decide +kernel
theorem dX5_readComparison_8 : decode cX5_readComparison 8 = .ok (.ireturn, 1) := by decide +kernel
theorem dX5_readComparison_9 : decode cX5_readComparison 9 = .ok (.aload_n 0, 1) := by decide +kernel
theorem dX5_readComparison_10 : decode cX5_readComparison 10 = .ok (.bipush 60, 2) := by decide +kernel
theorem dX5_readComparison_12 : decode cX5_readComparison 12 = .ok (.invokevirtual 84, 3) := by decide +kernel
theorem dX5_readComparison_15 : decode cX5_readComparison 15 = .ok (.istore_n 1, 1) := by decide +kernel
theorem dX5_readComparison_16 : decode cX5_readComparison 16 = .ok (.iload_n 1, 1) := by decide +kernel
theorem dX5_readComparison_17 : decode cX5_readComparison 17 = .ok (.ifCond .ne 14, 3) := by decide +kernel
theorem dX5_readComparison_20 : decode cX5_readComparison 20 = .ok (.aload_n 0, 1) := by decide +kernel
theorem dX5_readComparison_21 : decode cX5_readComparison 21 = .ok (.bipush 62, 2) := by decide +kernel
theorem dX5_readComparison_23 : decode cX5_readComparison 23 = .ok (.invokevirtual 84, 3) := by decide +kernel
theorem dX5_readComparison_26 : decode cX5_readComparison 26 = .ok (.ifCond .ne 5, 3) := by decide +kernel
theorem dX5_readComparison_29 : decode cX5_readComparison 29 = .ok (.iconst 0, 1) := by decide +kernel
theorem dX5_readComparison_30 : decode cX5_readComparison 30 = .ok (.ireturn, 1) := by decide +kernel
theorem dX5_readComparison_31 : decode cX5_readComparison 31 = .ok (.aload_n 0, 1) := by decide +kernel
theorem dX5_readComparison_32 : decode cX5_readComparison 32 = .ok (.invokevirtual 43, 3) := by decide +kernel
theorem dX5_readComparison_35 : decode cX5_readComparison 35 = .ok (.aload_n 0, 1) := by decide +kernel
theorem dX5_readComparison_36 : decode cX5_readComparison 36 = .ok (.invokevirtual 106, 3) := by decide +kernel
theorem dX5_readComparison_39 : decode cX5_readComparison 39 = .ok (.ifCond .ne 5, 3) := by decide +kernel
theorem dX5_readComparison_42 : decode cX5_readComparison 42 = .ok (.iconst 0, 1) := by decide +kernel
theorem dX5_readComparison_43 : decode cX5_readComparison 43 = .ok (.ireturn, 1) := by decide +kernel
theorem dX5_readComparison_44 : decode cX5_readComparison 44 = .ok (.aload_n 0, 1) := by decide +kernel
theorem dX5_readComparison_45 : decode cX5_readComparison 45 = .ok (.getfield 14, 3) := by decide +kernel
theorem dX5_readComparison_48 : decode cX5_readComparison 48 = .ok (.iload_n 1, 1) := by decide +kernel
theorem dX5_readComparison_49 : decode cX5_readComparison 49 = .ok (.ifCond .eq 9, 3) := by decide +kernel
theorem dX5_readComparison_52 : decode cX5_readComparison 52 = .ok (.sipush 1011, 3) := by decide +kernel
theorem dX5_readComparison_55 : decode cX5_readComparison 55 = .ok (.goto 6, 3) := by decide +kernel
theorem dX5_readComparison_58 : decode cX5_readComparison 58 = .ok (.sipush 1012, 3) := by decide +kernel
theorem dX5_readComparison_61 : decode cX5_readComparison 61 = .ok (.invokevirtual 92, 3) := by decide +kernel
theorem dX5_readComparison_64 : decode cX5_readComparison 64 = .ok (.iconst 1, 1) := by decide +kernel
theorem dX5_readComparison_65 : decode cX5_readComparison 65 = .ok (.ireturn, 1) := by decide +kernel
theorem dX5_readSum_0 : decode cX5_readSum 0 = .ok (.iconst 0, 1) := by decide +kernel
theorem dX5_readSum_1 : decode cX5_readSum 1 = .ok (.istore_n 1, 1) := by decide +kernel
theorem dX5_readSum_2 : decode cX5_readSum 2 = .ok (.iload_n 1, 1) := by decide +kernel
theorem dX5_readSum_3 : decode cX5_readSum 3 = .ok (.sipush 400, 3) := by decide +kernel
theorem dX5_readSum_6 : decode cX5_readSum 6 = .ok (.if_icmp .ge 89, 3) := by decide +kernel
theorem dX5_readSum_9 : decode cX5_readSum 9 = .ok (.aload_n 0, 1) := by decide +kernel
theorem dX5_readSum_10 : decode cX5_readSum 10 = .ok (.iconst 0, 1) := by decide +kernel
theorem dX5_readSum_11 : decode cX5_readSum 11 = .ok (.sipush 999, 3) := by decide +kernel
theorem dX5_readSum_14 : decode cX5_readSum 14 = .ok (.invokevirtual 109, 3) := by decide +kernel
theorem dX5_readSum_17 : decode cX5_readSum 17 = .ok (.istore_n 2, 1) := by decide +kernel
theorem dX5_readSum_18 : decode cX5_readSum 18 = .ok (.aload_n 0, 1) := by decide +kernel
theorem dX5_readSum_19 : decode cX5_readSum 19 = .ok (.invokevirtual 112, 3) := by decide +kernel
theorem dX5_readSum_22 : decode cX5_readSum 22 = .ok (.istore_n 3, 1) := by decide +kernel
theorem dX5_readSum_23 : decode cX5_readSum 23 = .ok (.iload_n 2, 1) := by decide +kernel
theorem dX5_readSum_24 : decode cX5_readSum 24 = .ok (.iconst (-1), 1) := by decide +kernel
theorem dX5_readSum_25 : decode cX5_readSum 25 = .ok (.if_icmp .ne 10, 3) := by decide +kernel
theorem dX5_readSum_28 : decode cX5_readSum 28 = .ok (.iload_n 3, 1) := by decide +kernel
theorem dX5_readSum_29 : decode cX5_readSum 29 = .ok (.iconst (-1), 1) := by decide +kernel
theorem dX5_readSum_30 : decode cX5_readSum 30 = .ok (.if_icmp .ne 5, 3) := by decide +kernel
theorem dX5_readSum_33 : decode cX5_readSum 33 = .ok (.iconst 0, 1) := by decide +kernel
theorem dX5_readSum_34 : decode cX5_readSum 34 = .ok (.ireturn, 1) := by decide +kernel
theorem dX5_readSum_35 : decode cX5_readSum 35 = .ok (.aload_n 0, 1) := by decide +kernel
theorem dX5_readSum_36 : decode cX5_readSum 36 = .ok (.getfield 14, 3) := by decide +kernel
theorem dX5_readSum_39 : decode cX5_readSum 39 = .ok (.iload_n 2, 1) := by decide +kernel
theorem dX5_readSum_40 : decode cX5_readSum 40 = .ok (.iconst (-1), 1) := by decide +kernel
theorem dX5_readSum_41 : decode cX5_readSum 41 = .ok (.if_icmp .eq 7, 3) := by decide +kernel
theorem dX5_readSum_44 : decode cX5_readSum 44 = .ok (.iload_n 2, 1) := by decide +kernel
theorem dX5_readSum_45 : decode cX5_readSum 45 = .ok (.goto 8, 3) := by decide +kernel
theorem dX5_readSum_48 : decode cX5_readSum 48 = .ok (.sipush 1000, 3) := by decide +kernel
theorem dX5_readSum_51 : decode cX5_readSum 51 = .ok (.iload_n 3, 1) := by decide +kernel
theorem dX5_readSum_52 : decode cX5_readSum 52 = .ok (.iadd, 1) := by decide +kernel
theorem dX5_readSum_53 : decode cX5_readSum 53 = .ok (.invokevirtual 92, 3) := by decide +kernel
theorem dX5_readSum_56 : decode cX5_readSum 56 = .ok (.iload_n 1, 1) := by decide +kernel
theorem dX5_readSum_57 : decode cX5_readSum 57 = .ok (.ifCond .le 13, 3) := by decide +kernel
theorem dX5_readSum_60 : decode cX5_readSum 60 = .ok (.aload_n 0, 1) := by decide +kernel
theorem dX5_readSum_61 : decode cX5_readSum 61 = .ok (.getfield 14, 3) := by decide +kernel
theorem dX5_readSum_64 : decode cX5_readSum 64 = .ok (.sipush 1010, 3) := by decide +kernel
theorem dX5_readSum_67 : decode cX5_readSum 67 = .ok (.invokevirtual 92, 3) := by decide +kernel
theorem dX5_readSum_70 : decode cX5_readSum 70 = .ok (.aload_n 0, 1) := by decide +kernel
theorem dX5_readSum_71 : decode cX5_readSum 71 = .ok (.invokevirtual 43, 3) := by decide +kernel
theorem dX5_readSum_74 : decode cX5_readSum 74 = .ok (.aload_n 0, 1) := by decide +kernel
theorem dX5_readSum_75 : decode cX5_readSum 75 = .ok (.bipush 43, 2) := by decide +kernel
theorem dX5_readSum_77 : decode cX5_readSum 77 = .ok (.invokevirtual 84, 3) := by decide +kernel
theorem dX5_readSum_80 : decode cX5_readSum 80 = .ok (.ifCond .ne 5, 3) := by decide +kernel
theorem dX5_readSum_83 : decode cX5_readSum 83 = .ok (.iconst 1, 1) := by decide +kernel
theorem dX5_readSum_84 : decode cX5_readSum 84 = .ok (.ireturn, 1) := by decide +kernel
theorem dX5_readSum_85 : decode cX5_readSum 85 = .ok (.aload_n 0, 1) := by decide +kernel
theorem dX5_readSum_86 : decode cX5_readSum 86 = .ok (.invokevirtual 43, 3) := by decide +kernel
theorem dX5_readSum_89 : decode cX5_readSum 89 = .ok (.iinc 1 1, 3) := by decide +kernel
theorem dX5_readSum_92 : decode cX5_readSum 92 = .ok (.goto (-90), 3) := by decide +kernel
theorem dX5_readSum_95 : decode cX5_readSum 95 = .ok (.iconst 0, 1) := by decide +kernel
theorem dX5_readSum_96 : decode cX5_readSum 96 = .ok (.ireturn, 1) := by decide +kernel
theorem dX5_valueHere_0 : decode cX5_valueHere 0 = .ok (.aload_n 0, 1) := by decide +kernel
theorem dX5_valueHere_1 : decode cX5_valueHere 1 = .ok (.ldc 115, 2) := by decide +kernel
theorem dX5_valueHere_3 : decode cX5_valueHere 3 = .ok (.invokevirtual 39, 3) := by decide +kernel
theorem dX5_valueHere_6 : decode cX5_valueHere 6 = .ok (.ifCond .eq 5, 3) := by decide +kernel
theorem dX5_valueHere_9 : decode cX5_valueHere 9 = .ok (.iconst 0, 1) := by decide +kernel
theorem dX5_valueHere_10 : decode cX5_valueHere 10 = .ok (.ireturn, 1) := by decide +kernel
theorem dX5_valueHere_11 : decode cX5_valueHere 11 = .ok (.aload_n 0, 1) := by decide +kernel
theorem dX5_valueHere_12 : decode cX5_valueHere 12 = .ok (.ldc 117, 2) := by decide +kernel
theorem dX5_valueHere_14 : decode cX5_valueHere 14 = .ok (.invokevirtual 39, 3) := by decide +kernel
theorem dX5_valueHere_17 : decode cX5_valueHere 17 = .ok (.ifCond .eq 5, 3) := by decide +kernel
theorem dX5_valueHere_20 : decode cX5_valueHere 20 = .ok (.iconst 1, 1) := by decide +kernel
theorem dX5_valueHere_21 : decode cX5_valueHere 21 = .ok (.ireturn, 1) := by decide +kernel
theorem dX5_valueHere_22 : decode cX5_valueHere 22 = .ok (.aload_n 0, 1) := by decide +kernel
theorem dX5_valueHere_23 : decode cX5_valueHere 23 = .ok (.ldc 119, 2) := by decide +kernel
theorem dX5_valueHere_25 : decode cX5_valueHere 25 = .ok (.invokevirtual 39, 3) := by decide +kernel
theorem dX5_valueHere_28 : decode cX5_valueHere 28 = .ok (.ifCond .eq 5, 3) := by decide +kernel
theorem dX5_valueHere_31 : decode cX5_valueHere 31 = .ok (.iconst 2, 1) := by decide +kernel
theorem dX5_valueHere_32 : decode cX5_valueHere 32 = .ok (.ireturn, 1) := by decide +kernel
theorem dX5_valueHere_33 : decode cX5_valueHere 33 = .ok (.aload_n 0, 1) := by decide +kernel
theorem dX5_valueHere_34 : decode cX5_valueHere 34 = .ok (.ldc 121, 2) := by decide +kernel
theorem dX5_valueHere_36 : decode cX5_valueHere 36 = .ok (.invokevirtual 39, 3) := by decide +kernel
theorem dX5_valueHere_39 : decode cX5_valueHere 39 = .ok (.ifCond .eq 5, 3) := by decide +kernel
theorem dX5_valueHere_42 : decode cX5_valueHere 42 = .ok (.iconst 3, 1) := by decide +kernel
theorem dX5_valueHere_43 : decode cX5_valueHere 43 = .ok (.ireturn, 1) := by decide +kernel
theorem dX5_valueHere_44 : decode cX5_valueHere 44 = .ok (.aload_n 0, 1) := by decide +kernel
theorem dX5_valueHere_45 : decode cX5_valueHere 45 = .ok (.ldc 123, 2) := by decide +kernel
theorem dX5_valueHere_47 : decode cX5_valueHere 47 = .ok (.invokevirtual 39, 3) := by decide +kernel
theorem dX5_valueHere_50 : decode cX5_valueHere 50 = .ok (.ifCond .eq 5, 3) := by decide +kernel
theorem dX5_valueHere_53 : decode cX5_valueHere 53 = .ok (.iconst 4, 1) := by decide +kernel
theorem dX5_valueHere_54 : decode cX5_valueHere 54 = .ok (.ireturn, 1) := by decide +kernel
theorem dX5_valueHere_55 : decode cX5_valueHere 55 = .ok (.aload_n 0, 1) := by decide +kernel
theorem dX5_valueHere_56 : decode cX5_valueHere 56 = .ok (.ldc 125, 2) := by decide +kernel
theorem dX5_valueHere_58 : decode cX5_valueHere 58 = .ok (.invokevirtual 39, 3) := by decide +kernel
theorem dX5_valueHere_61 : decode cX5_valueHere 61 = .ok (.ifCond .eq 7, 3) := by decide +kernel
theorem dX5_valueHere_64 : decode cX5_valueHere 64 = .ok (.iconst 5, 1) := by decide +kernel
theorem dX5_valueHere_65 : decode cX5_valueHere 65 = .ok (.goto 4, 3) := by decide +kernel
theorem dX5_valueHere_68 : decode cX5_valueHere 68 = .ok (.iconst (-1), 1) := by decide +kernel
theorem dX5_valueHere_69 : decode cX5_valueHere 69 = .ok (.ireturn, 1) := by decide +kernel
theorem dX6_init_0 : decode cX6_init 0 = .ok (.aload_n 0, 1) := by decide +kernel
theorem dX6_init_1 : decode cX6_init 1 = .ok (.invokespecial 3, 3) := by decide +kernel
theorem dX6_init_4 : decode cX6_init 4 = .ok (.aload_n 0, 1) := by decide +kernel
theorem dX6_init_5 : decode cX6_init 5 = .ok (.new 9, 3) := by decide +kernel
theorem dX6_init_8 : decode cX6_init 8 = .ok (.dup, 1) := by decide +kernel
theorem dX6_init_9 : decode cX6_init 9 = .ok (.invokespecial 11, 3) := by decide +kernel
theorem dX6_init_12 : decode cX6_init 12 = .ok (.putfield 12, 3) := by decide +kernel
theorem dX6_init_15 : decode cX6_init 15 = .ok (.return_, 1) := by decide +kernel
theorem dX6_readLine_0 : decode cX6_readLine 0 = .ok (.aload_n 0, 1) := by decide +kernel
theorem dX6_readLine_1 : decode cX6_readLine 1 = .ok (.ldc 18, 2) := by decide +kernel
theorem dX6_readLine_3 : decode cX6_readLine 3 = .ok (.invokevirtual 20, 3) := by decide +kernel
theorem dX6_readLine_6 : decode cX6_readLine 6 = .ok (.ifCond .eq 31, 3) := by decide +kernel
theorem dX6_readLine_9 : decode cX6_readLine 9 = .ok (.aload_n 0, 1) := by decide +kernel
theorem dX6_readLine_10 : decode cX6_readLine 10 = .ok (.getfield 12, 3) := by decide +kernel
theorem dX6_readLine_13 : decode cX6_readLine 13 = .ok (.getfield 24, 3) := by decide +kernel
theorem dX6_readLine_16 : decode cX6_readLine 16 = .ok (.getfield 28, 3) := by decide +kernel
theorem dX6_readLine_19 : decode cX6_readLine 19 = .ok (.bipush 12, 2) := by decide +kernel
theorem dX6_readLine_21 : decode cX6_readLine 21 = .ok (.if_icmp .ge 14, 3) := by decide +kernel
theorem dX6_readLine_24 : decode cX6_readLine 24 = .ok (.aload_n 0, 1) := by decide +kernel
theorem dX6_readLine_25 : decode cX6_readLine 25 = .ok (.invokevirtual 34, 3) := by decide +kernel
theorem dX6_readLine_28 : decode cX6_readLine 28 = .ok (.ifCond .eq 7, 3) := by decide +kernel
theorem dX6_readLine_31 : decode cX6_readLine 31 = .ok (.iconst 1, 1) := by decide +kernel
theorem dX6_readLine_32 : decode cX6_readLine 32 = .ok (.goto 4, 3) := by decide +kernel
theorem dX6_readLine_35 : decode cX6_readLine 35 = .ok (.iconst 0, 1) := by decide +kernel
theorem dX6_readLine_36 : decode cX6_readLine 36 = .ok (.ireturn, 1) := by decide +kernel
theorem dX6_readLine_37 : decode cX6_readLine 37 = .ok (.aload_n 0, 1) := by decide +kernel
theorem dX6_readLine_38 : decode cX6_readLine 38 = .ok (.ldc 38, 2) := by decide +kernel
theorem dX6_readLine_40 : decode cX6_readLine 40 = .ok (.invokevirtual 20, 3) := by decide +kernel
theorem dX6_readLine_43 : decode cX6_readLine 43 = .ok (.ifCond .eq 8, 3) := by decide +kernel
theorem dX6_readLine_46 : decode cX6_readLine 46 = .ok (.aload_n 0, 1) := by decide +kernel
theorem dX6_readLine_47 : decode cX6_readLine 47 = .ok (.invokevirtual 40, 3) := by decide +kernel
theorem dX6_readLine_50 : decode cX6_readLine 50 = .ok (.ireturn, 1) := by decide +kernel
theorem dX6_readLine_51 : decode cX6_readLine 51 = .ok (.aload_n 0, 1) := by decide +kernel
theorem dX6_readLine_52 : decode cX6_readLine 52 = .ok (.ldc 43, 2) := by decide +kernel
theorem dX6_readLine_54 : decode cX6_readLine 54 = .ok (.invokevirtual 20, 3) := by decide +kernel
theorem dX6_readLine_57 : decode cX6_readLine 57 = .ok (.ifCond .eq 49, 3) := by decide +kernel
theorem dX6_readLine_60 : decode cX6_readLine 60 = .ok (.aload_n 0, 1) := by decide +kernel
theorem dX6_readLine_61 : decode cX6_readLine 61 = .ok (.getfield 12, 3) := by decide +kernel
theorem dX6_readLine_64 : decode cX6_readLine 64 = .ok (.aload_n 0, 1) := by decide +kernel
theorem dX6_readLine_65 : decode cX6_readLine 65 = .ok (.iconst 0, 1) := by decide +kernel
theorem dX6_readLine_66 : decode cX6_readLine 66 = .ok (.sipush 999, 3) := by decide +kernel
theorem dX6_readLine_69 : decode cX6_readLine 69 = .ok (.invokevirtual 45, 3) := by decide +kernel
theorem dX6_readLine_72 : decode cX6_readLine 72 = .ok (.putfield 49, 3) := by decide +kernel
theorem dX6_readLine_75 : decode cX6_readLine 75 = .ok (.aload_n 0, 1) := by decide +kernel
theorem dX6_readLine_76 : decode cX6_readLine 76 = .ok (.getfield 12, 3) := by decide +kernel
theorem dX6_readLine_79 : decode cX6_readLine 79 = .ok (.aload_n 0, 1) := by decide +kernel
theorem dX6_readLine_80 : decode cX6_readLine 80 = .ok (.getfield 12, 3) := by decide +kernel
theorem dX6_readLine_83 : decode cX6_readLine 83 = .ok (.getfield 49, 3) := by decide +kernel
theorem dX6_readLine_86 : decode cX6_readLine 86 = .ok (.putfield 51, 3) := by decide +kernel
theorem dX6_readLine_89 : decode cX6_readLine 89 = .ok (.aload_n 0, 1) := by decide +kernel
theorem dX6_readLine_90 : decode cX6_readLine 90 = .ok (.getfield 12, 3) := by decide +kernel
theorem dX6_readLine_93 : decode cX6_readLine 93 = .ok (.getfield 49, 3) := by decide +kernel
theorem dX6_readLine_96 : decode cX6_readLine 96 = .ok (.iconst (-1), 1) := by decide +kernel
theorem dX6_readLine_97 : decode cX6_readLine 97 = .ok (.if_icmp .eq 7, 3) := by decide +kernel
theorem dX6_readLine_100 : decode cX6_readLine 100 = .ok (.iconst 1, 1) := by decide +kernel
theorem dX6_readLine_101 : decode cX6_readLine 101 = .ok (.goto 4, 3) := by decide +kernel
theorem dX6_readLine_104 : decode cX6_readLine 104 = .ok (.iconst 0, 1) := by decide +kernel
theorem dX6_readLine_105 : decode cX6_readLine 105 = .ok (.ireturn, 1) := by decide +kernel
theorem dX6_readLine_106 : decode cX6_readLine 106 = .ok (.aload_n 0, 1) := by decide +kernel
theorem dX6_readLine_107 : decode cX6_readLine 107 = .ok (.ldc 54, 2) := by decide +kernel
theorem dX6_readLine_109 : decode cX6_readLine 109 = .ok (.invokevirtual 20, 3) := by decide +kernel
theorem dX6_readLine_112 : decode cX6_readLine 112 = .ok (.ifCond .eq 34, 3) := by decide +kernel
theorem dX6_readLine_115 : decode cX6_readLine 115 = .ok (.aload_n 0, 1) := by decide +kernel
theorem dX6_readLine_116 : decode cX6_readLine 116 = .ok (.getfield 12, 3) := by decide +kernel
theorem dX6_readLine_119 : decode cX6_readLine 119 = .ok (.aload_n 0, 1) := by decide +kernel
theorem dX6_readLine_120 : decode cX6_readLine 120 = .ok (.iconst 0, 1) := by decide +kernel
theorem dX6_readLine_121 : decode cX6_readLine 121 = .ok (.bipush 45, 2) := by decide +kernel
theorem dX6_readLine_123 : decode cX6_readLine 123 = .ok (.invokevirtual 45, 3) := by decide +kernel
theorem dX6_readLine_126 : decode cX6_readLine 126 = .ok (.putfield 56, 3) := by decide +kernel
theorem dX6_readLine_129 : decode cX6_readLine 129 = .ok (.aload_n 0, 1) := by decide +kernel
theorem dX6_readLine_130 : decode cX6_readLine 130 = .ok (.getfield 12, 3) := by decide +kernel
theorem dX6_readLine_133 : decode cX6_readLine 133 = .ok (.getfield 56, 3) := by decide +kernel
theorem dX6_readLine_136 : decode cX6_readLine 136 = .ok (.iconst (-1), 1) := by decide +kernel
theorem dX6_readLine_137 : decode cX6_readLine 137 = .ok (.if_icmp .eq 7, 3) := by decide +kernel
theorem dX6_readLine_140 : decode cX6_readLine 140 = .ok (.iconst 1, 1) := by decide +kernel
theorem dX6_readLine_141 : decode cX6_readLine 141 = .ok (.goto 4, 3) := by decide +kernel
theorem dX6_readLine_144 : decode cX6_readLine 144 = .ok (.iconst 0, 1) := by decide +kernel
theorem dX6_readLine_145 : decode cX6_readLine 145 = .ok (.ireturn, 1) := by decide +kernel
theorem dX6_readLine_146 : decode cX6_readLine 146 = .ok (.aload_n 0, 1) := by decide +kernel
theorem dX6_readLine_147 : decode cX6_readLine 147 = .ok (.ldc 58, 2) := by decide +kernel
theorem dX6_readLine_149 : decode cX6_readLine 149 = .ok (.invokevirtual 20, 3) := by decide +kernel
theorem dX6_readLine_152 : decode cX6_readLine 152 = .ok (.ifCond .eq 34, 3) := by decide +kernel
theorem dX6_readLine_155 : decode cX6_readLine 155 = .ok (.aload_n 0, 1) := by decide +kernel
theorem dX6_readLine_156 : decode cX6_readLine 156 = .ok (.getfield 12, 3) := by decide +kernel
theorem dX6_readLine_159 : decode cX6_readLine 159 = .ok (.aload_n 0, 1) := by decide +kernel
theorem dX6_readLine_160 : decode cX6_readLine 160 = .ok (.iconst 0, 1) := by decide +kernel
theorem dX6_readLine_161 : decode cX6_readLine 161 = .ok (.bipush 100, 2) := by decide +kernel
theorem dX6_readLine_163 : decode cX6_readLine 163 = .ok (.invokevirtual 45, 3) := by decide +kernel
theorem dX6_readLine_166 : decode cX6_readLine 166 = .ok (.putfield 60, 3) := by decide +kernel
theorem dX6_readLine_169 : decode cX6_readLine 169 = .ok (.aload_n 0, 1) := by decide +kernel
theorem dX6_readLine_170 : decode cX6_readLine 170 = .ok (.getfield 12, 3) := by decide +kernel
theorem dX6_readLine_173 : decode cX6_readLine 173 = .ok (.getfield 60, 3) := by decide +kernel
theorem dX6_readLine_176 : decode cX6_readLine 176 = .ok (.iconst (-1), 1) := by decide +kernel
theorem dX6_readLine_177 : decode cX6_readLine 177 = .ok (.if_icmp .eq 7, 3) := by decide +kernel
theorem dX6_readLine_180 : decode cX6_readLine 180 = .ok (.iconst 1, 1) := by decide +kernel
theorem dX6_readLine_181 : decode cX6_readLine 181 = .ok (.goto 4, 3) := by decide +kernel
theorem dX6_readLine_184 : decode cX6_readLine 184 = .ok (.iconst 0, 1) := by decide +kernel
theorem dX6_readLine_185 : decode cX6_readLine 185 = .ok (.ireturn, 1) := by decide +kernel
theorem dX6_readLine_186 : decode cX6_readLine 186 = .ok (.aload_n 0, 1) := by decide +kernel
theorem dX6_readLine_187 : decode cX6_readLine 187 = .ok (.ldc 62, 2) := by decide +kernel
theorem dX6_readLine_189 : decode cX6_readLine 189 = .ok (.invokevirtual 20, 3) := by decide +kernel
theorem dX6_readLine_192 : decode cX6_readLine 192 = .ok (.ifCond .eq 34, 3) := by decide +kernel
theorem dX6_readLine_195 : decode cX6_readLine 195 = .ok (.aload_n 0, 1) := by decide +kernel
theorem dX6_readLine_196 : decode cX6_readLine 196 = .ok (.getfield 12, 3) := by decide +kernel
theorem dX6_readLine_199 : decode cX6_readLine 199 = .ok (.aload_n 0, 1) := by decide +kernel
theorem dX6_readLine_200 : decode cX6_readLine 200 = .ok (.iconst 0, 1) := by decide +kernel
theorem dX6_readLine_201 : decode cX6_readLine 201 = .ok (.bipush 7, 2) := by decide +kernel
theorem dX6_readLine_203 : decode cX6_readLine 203 = .ok (.invokevirtual 45, 3) := by decide +kernel
theorem dX6_readLine_206 : decode cX6_readLine 206 = .ok (.putfield 64, 3) := by decide +kernel
theorem dX6_readLine_209 : decode cX6_readLine 209 = .ok (.aload_n 0, 1) := by decide +kernel
theorem dX6_readLine_210 : decode cX6_readLine 210 = .ok (.getfield 12, 3) := by decide +kernel
theorem dX6_readLine_213 : decode cX6_readLine 213 = .ok (.getfield 64, 3) := by decide +kernel
theorem dX6_readLine_216 : decode cX6_readLine 216 = .ok (.iconst (-1), 1) := by decide +kernel
theorem dX6_readLine_217 : decode cX6_readLine 217 = .ok (.if_icmp .eq 7, 3) := by decide +kernel
theorem dX6_readLine_220 : decode cX6_readLine 220 = .ok (.iconst 1, 1) := by decide +kernel
theorem dX6_readLine_221 : decode cX6_readLine 221 = .ok (.goto 4, 3) := by decide +kernel
theorem dX6_readLine_224 : decode cX6_readLine 224 = .ok (.iconst 0, 1) := by decide +kernel
theorem dX6_readLine_225 : decode cX6_readLine 225 = .ok (.ireturn, 1) := by decide +kernel
theorem dX6_readLine_226 : decode cX6_readLine 226 = .ok (.aload_n 0, 1) := by decide +kernel
theorem dX6_readLine_227 : decode cX6_readLine 227 = .ok (.ldc 66, 2) := by decide +kernel
theorem dX6_readLine_229 : decode cX6_readLine 229 = .ok (.invokevirtual 20, 3) := by decide +kernel
theorem dX6_readLine_232 : decode cX6_readLine 232 = .ok (.ifCond .eq 34, 3) := by decide +kernel
theorem dX6_readLine_235 : decode cX6_readLine 235 = .ok (.aload_n 0, 1) := by decide +kernel
theorem dX6_readLine_236 : decode cX6_readLine 236 = .ok (.getfield 12, 3) := by decide +kernel
theorem dX6_readLine_239 : decode cX6_readLine 239 = .ok (.aload_n 0, 1) := by decide +kernel
theorem dX6_readLine_240 : decode cX6_readLine 240 = .ok (.iconst 0, 1) := by decide +kernel
theorem dX6_readLine_241 : decode cX6_readLine 241 = .ok (.bipush 50, 2) := by decide +kernel
theorem dX6_readLine_243 : decode cX6_readLine 243 = .ok (.invokevirtual 45, 3) := by decide +kernel
theorem dX6_readLine_246 : decode cX6_readLine 246 = .ok (.putfield 68, 3) := by decide +kernel
theorem dX6_readLine_249 : decode cX6_readLine 249 = .ok (.aload_n 0, 1) := by decide +kernel
theorem dX6_readLine_250 : decode cX6_readLine 250 = .ok (.getfield 12, 3) := by decide +kernel
theorem dX6_readLine_253 : decode cX6_readLine 253 = .ok (.getfield 68, 3) := by decide +kernel
theorem dX6_readLine_256 : decode cX6_readLine 256 = .ok (.iconst (-1), 1) := by decide +kernel
theorem dX6_readLine_257 : decode cX6_readLine 257 = .ok (.if_icmp .eq 7, 3) := by decide +kernel
theorem dX6_readLine_260 : decode cX6_readLine 260 = .ok (.iconst 1, 1) := by decide +kernel
theorem dX6_readLine_261 : decode cX6_readLine 261 = .ok (.goto 4, 3) := by decide +kernel
theorem dX6_readLine_264 : decode cX6_readLine 264 = .ok (.iconst 0, 1) := by decide +kernel
theorem dX6_readLine_265 : decode cX6_readLine 265 = .ok (.ireturn, 1) := by decide +kernel
theorem dX6_readLine_266 : decode cX6_readLine 266 = .ok (.iconst 0, 1) := by decide +kernel
theorem dX6_readLine_267 : decode cX6_readLine 267 = .ok (.ireturn, 1) := by decide +kernel
theorem dX6_readWar_0 : decode cX6_readWar 0 = .ok (.aload_n 0, 1) := by decide +kernel
theorem dX6_readWar_1 : decode cX6_readWar 1 = .ok (.iconst 0, 1) := by decide +kernel
theorem dX6_readWar_2 : decode cX6_readWar 2 = .ok (.sipush 999, 3) := by decide +kernel
theorem dX6_readWar_5 : decode cX6_readWar 5 = .ok (.invokevirtual 45, 3) := by decide +kernel
theorem dX6_readWar_8 : decode cX6_readWar 8 = .ok (.istore_n 1, 1) := by decide +kernel
theorem dX6_readWar_9 : decode cX6_readWar 9 = .ok (.iload_n 1, 1) := by decide +kernel
theorem dX6_readWar_10 : decode cX6_readWar 10 = .ok (.iconst (-1), 1) := by decide +kernel
theorem dX6_readWar_11 : decode cX6_readWar 11 = .ok (.if_icmp .eq 12, 3) := by decide +kernel
theorem dX6_readWar_14 : decode cX6_readWar 14 = .ok (.aload_n 0, 1) := by decide +kernel
theorem dX6_readWar_15 : decode cX6_readWar 15 = .ok (.ldc 70, 2) := by decide +kernel
theorem dX6_readWar_17 : decode cX6_readWar 17 = .ok (.invokevirtual 20, 3) := by decide +kernel
theorem dX6_readWar_20 : decode cX6_readWar 20 = .ok (.ifCond .ne 5, 3) := by decide +kernel
theorem dX6_readWar_23 : decode cX6_readWar 23 = .ok (.iconst 0, 1) := by decide +kernel
theorem dX6_readWar_24 : decode cX6_readWar 24 = .ok (.ireturn, 1) := by decide +kernel
theorem dX6_readWar_25 : decode cX6_readWar 25 = .ok (.aload_n 0, 1) := by decide +kernel
theorem dX6_readWar_26 : decode cX6_readWar 26 = .ok (.getfield 12, 3) := by decide +kernel
theorem dX6_readWar_29 : decode cX6_readWar 29 = .ok (.iload_n 1, 1) := by decide +kernel
theorem dX6_readWar_30 : decode cX6_readWar 30 = .ok (.putfield 72, 3) := by decide +kernel
theorem dX6_readWar_33 : decode cX6_readWar 33 = .ok (.aload_n 0, 1) := by decide +kernel
theorem dX6_readWar_34 : decode cX6_readWar 34 = .ok (.getfield 12, 3) := by decide +kernel
theorem dX6_readWar_37 : decode cX6_readWar 37 = .ok (.aload_n 0, 1) := by decide +kernel
theorem dX6_readWar_38 : decode cX6_readWar 38 = .ok (.iload_n 1, 1) := by decide +kernel
theorem dX6_readWar_39 : decode cX6_readWar 39 = .ok (.sipush 999, 3) := by decide +kernel
theorem dX6_readWar_42 : decode cX6_readWar 42 = .ok (.invokevirtual 45, 3) := by decide +kernel
theorem dX6_readWar_45 : decode cX6_readWar 45 = .ok (.putfield 75, 3) := by decide +kernel
theorem dX6_readWar_48 : decode cX6_readWar 48 = .ok (.aload_n 0, 1) := by decide +kernel
theorem dX6_readWar_49 : decode cX6_readWar 49 = .ok (.getfield 12, 3) := by decide +kernel
theorem dX6_readWar_52 : decode cX6_readWar 52 = .ok (.getfield 75, 3) := by decide +kernel
theorem dX6_readWar_55 : decode cX6_readWar 55 = .ok (.iconst (-1), 1) := by decide +kernel
theorem dX6_readWar_56 : decode cX6_readWar 56 = .ok (.if_icmp .eq 7, 3) := by decide +kernel
theorem dX6_readWar_59 : decode cX6_readWar 59 = .ok (.iconst 1, 1) := by decide +kernel
theorem dX6_readWar_60 : decode cX6_readWar 60 = .ok (.goto 4, 3) := by decide +kernel
theorem dX6_readWar_63 : decode cX6_readWar 63 = .ok (.iconst 0, 1) := by decide +kernel
theorem dX6_readWar_64 : decode cX6_readWar 64 = .ok (.ireturn, 1) := by decide +kernel
theorem dX6_readDish_0 : decode cX6_readDish 0 = .ok (.aload_n 0, 1) := by decide +kernel
theorem dX6_readDish_1 : decode cX6_readDish 1 = .ok (.invokevirtual 78, 3) := by decide +kernel
theorem dX6_readDish_4 : decode cX6_readDish 4 = .ok (.aload_n 0, 1) := by decide +kernel
theorem dX6_readDish_5 : decode cX6_readDish 5 = .ok (.iconst 5, 1) := by decide +kernel
theorem dX6_readDish_6 : decode cX6_readDish 6 = .ok (.invokevirtual 81, 3) := by decide +kernel
theorem dX6_readDish_9 : decode cX6_readDish 9 = .ok (.ifCond .ne 5, 3) := by decide +kernel
theorem dX6_readDish_12 : decode cX6_readDish 12 = .ok (.iconst 0, 1) := by decide +kernel
theorem dX6_readDish_13 : decode cX6_readDish 13 = .ok (.ireturn, 1) := by decide +kernel
theorem dX6_readDish_14 : decode cX6_readDish 14 = .ok (.aload_n 0, 1) := by decide +kernel
theorem dX6_readDish_15 : decode cX6_readDish 15 = .ok (.getfield 12, 3) := by decide +kernel
theorem dX6_readDish_18 : decode cX6_readDish 18 = .ok (.getfield 24, 3) := by decide +kernel
theorem dX6_readDish_21 : decode cX6_readDish 21 = .ok (.getfield 28, 3) := by decide +kernel
theorem dX6_readDish_24 : decode cX6_readDish 24 = .ok (.iconst 5, 1) := by decide +kernel
theorem dX6_readDish_25 : decode cX6_readDish 25 = .ok (.imul, 1) := by decide +kernel
theorem dX6_readDish_26 : decode cX6_readDish 26 = .ok (.istore_n 1, 1) := by decide +kernel
theorem dX6_readDish_27 : decode cX6_readDish 27 = .ok (.iconst 0, 1) := by decide +kernel
theorem dX6_readDish_28 : decode cX6_readDish 28 = .ok (.istore_n 2, 1) := by decide +kernel
theorem dX6_readDish_29 : decode cX6_readDish 29 = .ok (.iload_n 2, 1) := by decide +kernel
theorem dX6_readDish_30 : decode cX6_readDish 30 = .ok (.iconst 5, 1) := by decide +kernel
theorem dX6_readDish_31 : decode cX6_readDish 31 = .ok (.if_icmp .ge 36, 3) := by decide +kernel
theorem dX6_readDish_34 : decode cX6_readDish 34 = .ok (.iload_n 1, 1) := by decide +kernel
theorem dX6_readDish_35 : decode cX6_readDish 35 = .ok (.iload_n 2, 1) := by decide +kernel
theorem dX6_readDish_36 : decode cX6_readDish 36 = .ok (.iadd, 1) := by decide +kernel
theorem dX6_readDish_37 : decode cX6_readDish 37 = .ok (.bipush 60, 2) := by decide +kernel
theorem dX6_readDish_39 : decode cX6_readDish 39 = .ok (.if_icmp .ge 28, 3) := by decide +kernel
theorem dX6_readDish_42 : decode cX6_readDish 42 = .ok (.aload_n 0, 1) := by decide +kernel
theorem dX6_readDish_43 : decode cX6_readDish 43 = .ok (.getfield 12, 3) := by decide +kernel
theorem dX6_readDish_46 : decode cX6_readDish 46 = .ok (.getfield 24, 3) := by decide +kernel
theorem dX6_readDish_49 : decode cX6_readDish 49 = .ok (.getfield 85, 3) := by decide +kernel
theorem dX6_readDish_52 : decode cX6_readDish 52 = .ok (.iload_n 1, 1) := by decide +kernel
theorem dX6_readDish_53 : decode cX6_readDish 53 = .ok (.iload_n 2, 1) := by decide +kernel
theorem dX6_readDish_54 : decode cX6_readDish 54 = .ok (.iadd, 1) := by decide +kernel
theorem dX6_readDish_55 : decode cX6_readDish 55 = .ok (.aload_n 0, 1) := by decide +kernel
theorem dX6_readDish_56 : decode cX6_readDish 56 = .ok (.iload_n 2, 1) := by decide +kernel
theorem dX6_readDish_57 : decode cX6_readDish 57 = .ok (.invokevirtual 89, 3) := by decide +kernel
theorem dX6_readDish_60 : decode cX6_readDish 60 = .ok (.iastore, 1) := by decide +kernel
theorem dX6_readDish_61 : decode cX6_readDish 61 = .ok (.iinc 2 1, 3) := by decide +kernel
theorem dX6_readDish_64 : decode cX6_readDish 64 = .ok (.goto (-35), 3) := by decide +kernel
theorem dX6_readDish_67 : decode cX6_readDish 67 = .ok (.aload_n 0, 1) := by decide +kernel
theorem dX6_readDish_68 : decode cX6_readDish 68 = .ok (.invokevirtual 78, 3) := by decide +kernel
theorem dX6_readDish_71 : decode cX6_readDish 71 = .ok (.aload_n 0, 1) := by decide +kernel
theorem dX6_readDish_72 : decode cX6_readDish 72 = .ok (.ldc 93, 2) := by decide +kernel
theorem dX6_readDish_74 : decode cX6_readDish 74 = .ok (.invokevirtual 20, 3) := by decide +kernel
theorem dX6_readDish_77 : decode cX6_readDish 77 = .ok (.ifCond .eq 8, 3) := by decide +kernel
theorem dX6_readDish_80 : decode cX6_readDish 80 = .ok (.aload_n 0, 1) := by decide +kernel
theorem dX6_readDish_81 : decode cX6_readDish 81 = .ok (.invokevirtual 95, 3) := by decide +kernel
theorem dX6_readDish_84 : decode cX6_readDish 84 = .ok (.ireturn, 1) := by decide +kernel
theorem dX6_readDish_85 : decode cX6_readDish 85 = .ok (.aload_n 0, 1) := by decide +kernel
theorem dX6_readDish_86 : decode cX6_readDish 86 = .ok (.getfield 12, 3) := by decide +kernel
theorem dX6_readDish_89 : decode cX6_readDish 89 = .ok (.getfield 24, 3) := by decide +kernel
theorem dX6_readDish_92 : decode cX6_readDish 92 = .ok (.iconst (-1), 1) := by decide +kernel
theorem dX6_readDish_93 : decode cX6_readDish 93 = .ok (.iconst (-1), 1) := by decide +kernel
theorem dX6_readDish_94 : decode cX6_readDish 94 = .ok (.iconst (-1), 1) := by decide +kernel
theorem dX6_readDish_95 : decode cX6_readDish 95 = .ok (.invokevirtual 98, 3) := by decide +kernel
theorem dX6_readDish_98 : decode cX6_readDish 98 = .ok (.iconst 1, 1) := by decide +kernel
theorem dX6_readDish_99 : decode cX6_readDish 99 = .ok (.ireturn, 1) := by decide +kernel
theorem dX6_readFirst_0 : decode cX6_readFirst 0 = .ok (.aload_n 0, 1) := by decide +kernel
theorem dX6_readFirst_1 : decode cX6_readFirst 1 = .ok (.iconst 0, 1) := by decide +kernel
theorem dX6_readFirst_2 : decode cX6_readFirst 2 = .ok (.sipush 999, 3) := by decide +kernel
theorem dX6_readFirst_5 : decode cX6_readFirst 5 = .ok (.invokevirtual 45, 3) := by decide +kernel
theorem dX6_readFirst_8 : decode cX6_readFirst 8 = .ok (.istore_n 1, 1) := by decide +kernel
theorem dX6_readFirst_9 : decode cX6_readFirst 9 = .ok (.iload_n 1, 1) := by decide +kernel
theorem dX6_readFirst_10 : decode cX6_readFirst 10 = .ok (.iconst (-1), 1) := by decide +kernel
theorem dX6_readFirst_11 : decode cX6_readFirst 11 = .ok (.if_icmp .eq 12, 3) := by decide +kernel
theorem dX6_readFirst_14 : decode cX6_readFirst 14 = .ok (.aload_n 0, 1) := by decide +kernel
theorem dX6_readFirst_15 : decode cX6_readFirst 15 = .ok (.ldc 102, 2) := by decide +kernel
theorem dX6_readFirst_17 : decode cX6_readFirst 17 = .ok (.invokevirtual 20, 3) := by decide +kernel
theorem dX6_readFirst_20 : decode cX6_readFirst 20 = .ok (.ifCond .ne 5, 3) := by decide +kernel
theorem dX6_readFirst_23 : decode cX6_readFirst 23 = .ok (.iconst 0, 1) := by decide +kernel
theorem dX6_readFirst_24 : decode cX6_readFirst 24 = .ok (.ireturn, 1) := by decide +kernel
theorem dX6_readFirst_25 : decode cX6_readFirst 25 = .ok (.aload_n 0, 1) := by decide +kernel
theorem dX6_readFirst_26 : decode cX6_readFirst 26 = .ok (.iconst 0, 1) := by decide +kernel
theorem dX6_readFirst_27 : decode cX6_readFirst 27 = .ok (.bipush 7, 2) := by decide +kernel
theorem dX6_readFirst_29 : decode cX6_readFirst 29 = .ok (.invokevirtual 45, 3) := by decide +kernel
theorem dX6_readFirst_32 : decode cX6_readFirst 32 = .ok (.istore_n 2, 1) := by decide +kernel
theorem dX6_readFirst_33 : decode cX6_readFirst 33 = .ok (.iload_n 2, 1) := by decide +kernel
theorem dX6_readFirst_34 : decode cX6_readFirst 34 = .ok (.iconst (-1), 1) := by decide +kernel
theorem dX6_readFirst_35 : decode cX6_readFirst 35 = .ok (.if_icmp .ne 5, 3) := by decide +kernel
theorem dX6_readFirst_38 : decode cX6_readFirst 38 = .ok (.iconst 0, 1) := by decide +kernel
theorem dX6_readFirst_39 : decode cX6_readFirst 39 = .ok (.ireturn, 1) := by decide +kernel
theorem dX6_readFirst_40 : decode cX6_readFirst 40 = .ok (.iconst (-1), 1) := by decide +kernel
theorem dX6_readFirst_41 : decode cX6_readFirst 41 = .ok (.istore_n 3, 1) := by decide +kernel
theorem dX6_readFirst_42 : decode cX6_readFirst 42 = .ok (.aload_n 0, 1) := by decide +kernel
theorem dX6_readFirst_43 : decode cX6_readFirst 43 = .ok (.ldc 103, 2) := by decide +kernel
theorem dX6_readFirst_45 : decode cX6_readFirst 45 = .ok (.invokevirtual 20, 3) := by decide +kernel
theorem dX6_readFirst_48 : decode cX6_readFirst 48 = .ok (.ifCond .eq 18, 3) := by decide +kernel
theorem dX6_readFirst_51 : decode cX6_readFirst 51 = .ok (.aload_n 0, 1) := by decide +kernel
theorem dX6_readFirst_52 : decode cX6_readFirst 52 = .ok (.iconst 0, 1) := by decide +kernel
theorem dX6_readFirst_53 : decode cX6_readFirst 53 = .ok (.bipush 7, 2) := by decide +kernel
theorem dX6_readFirst_55 : decode cX6_readFirst 55 = .ok (.invokevirtual 45, 3) := by decide +kernel
theorem dX6_readFirst_58 : decode cX6_readFirst 58 = .ok (.istore_n 3, 1) := by decide +kernel
theorem dX6_readFirst_59 : decode cX6_readFirst 59 = .ok (.iload_n 3, 1) := by decide +kernel
theorem dX6_readFirst_60 : decode cX6_readFirst 60 = .ok (.iconst (-1), 1) := by decide +kernel
theorem dX6_readFirst_61 : decode cX6_readFirst 61 = .ok (.if_icmp .ne 5, 3) := by decide +kernel
theorem dX6_readFirst_64 : decode cX6_readFirst 64 = .ok (.iconst 0, 1) := by decide +kernel
theorem dX6_readFirst_65 : decode cX6_readFirst 65 = .ok (.ireturn, 1) := by decide +kernel
theorem dX6_readFirst_66 : decode cX6_readFirst 66 = .ok (.aload_n 0, 1) := by decide +kernel
theorem dX6_readFirst_67 : decode cX6_readFirst 67 = .ok (.getfield 12, 3) := by decide +kernel
theorem dX6_readFirst_70 : decode cX6_readFirst 70 = .ok (.getfield 24, 3) := by decide +kernel
theorem dX6_readFirst_73 : decode cX6_readFirst 73 = .ok (.iload_n 1, 1) := by decide +kernel
theorem dX6_readFirst_74 : decode cX6_readFirst 74 = .ok (.iload_n 2, 1) := by decide +kernel
theorem dX6_readFirst_75 : decode cX6_readFirst 75 = .ok (.iload_n 3, 1) := by decide +kernel
theorem dX6_readFirst_76 : decode cX6_readFirst 76 = .ok (.invokevirtual 98, 3) := by decide +kernel
theorem dX6_readFirst_79 : decode cX6_readFirst 79 = .ok (.iconst 1, 1) := by decide +kernel
theorem dX6_readFirst_80 : decode cX6_readFirst 80 = .ok (.ireturn, 1) := by decide +kernel
theorem dX7_init_0 : decode cX7_init 0 = .ok (.aload_n 0, 1) := by decide +kernel
theorem dX7_init_1 : decode cX7_init 1 = .ok (.invokespecial 3, 3) := by decide +kernel
theorem dX7_init_4 : decode cX7_init 4 = .ok (.aload_n 0, 1) := by decide +kernel
theorem dX7_init_5 : decode cX7_init 5 = .ok (.iconst 0, 1) := by decide +kernel
theorem dX7_init_6 : decode cX7_init 6 = .ok (.putfield 9, 3) := by decide +kernel
theorem dX7_init_9 : decode cX7_init 9 = .ok (.aload_n 0, 1) := by decide +kernel
theorem dX7_init_10 : decode cX7_init 10 = .ok (.iconst 0, 1) := by decide +kernel
theorem dX7_init_11 : decode cX7_init 11 = .ok (.putfield 15, 3) := by decide +kernel
theorem dX7_init_14 : decode cX7_init 14 = .ok (.aload_n 0, 1) := by decide +kernel
theorem dX7_init_15 : decode cX7_init 15 = .ok (.sipush 240, 3) := by decide +kernel
theorem dX7_init_18 : decode cX7_init 18 = .ok (.newarray .int, 2) := by decide +kernel
theorem dX7_init_20 : decode cX7_init 20 = .ok (.putfield 18, 3) := by decide +kernel
theorem dX7_init_23 : decode cX7_init 23 = .ok (.return_, 1) := by decide +kernel
theorem dX7_write_0 : decode cX7_write 0 = .ok (.aload_n 0, 1) := by decide +kernel
theorem dX7_write_1 : decode cX7_write 1 = .ok (.aload_n 0, 1) := by decide +kernel
theorem dX7_write_2 : decode cX7_write 2 = .ok (.getfield 15, 3) := by decide +kernel
theorem dX7_write_5 : decode cX7_write 5 = .ok (.iconst 1, 1) := by decide +kernel
theorem dX7_write_6 : decode cX7_write 6 = .ok (.iadd, 1) := by decide +kernel
theorem dX7_write_7 : decode cX7_write 7 = .ok (.bipush 60, 2) := by decide +kernel
theorem dX7_write_9 : decode cX7_write 9 = .ok (.irem, 1) := by decide +kernel
theorem dX7_write_10 : decode cX7_write 10 = .ok (.putfield 15, 3) := by decide +kernel
theorem dX7_write_13 : decode cX7_write 13 = .ok (.aload_n 0, 1) := by decide +kernel
theorem dX7_write_14 : decode cX7_write 14 = .ok (.getfield 15, 3) := by decide +kernel
theorem dX7_write_17 : decode cX7_write 17 = .ok (.iconst 4, 1) := by decide +kernel
theorem dX7_write_18 : decode cX7_write 18 = .ok (.imul, 1) := by decide +kernel
theorem dX7_write_19 : decode cX7_write 19 = .ok (.istore 5, 2) := by decide +kernel
theorem dX7_write_21 : decode cX7_write 21 = .ok (.iload 5, 2) := by decide +kernel
theorem dX7_write_23 : decode cX7_write 23 = .ok (.ifCond .lt 52, 3) := by decide +kernel
theorem dX7_write_26 : decode cX7_write 26 = .ok (.iload 5, 2) := by decide +kernel
theorem dX7_write_28 : decode cX7_write 28 = .ok (.iconst 4, 1) := by decide +kernel
theorem dX7_write_29 : decode cX7_write 29 = .ok (.iadd, 1) := by decide +kernel
theorem dX7_write_30 : decode cX7_write 30 = .ok (.sipush 240, 3) := by decide +kernel
theorem dX7_write_33 : decode cX7_write 33 = .ok (.if_icmp .gt 42, 3) := by decide +kernel
theorem dX7_write_36 : decode cX7_write 36 = .ok (.aload_n 0, 1) := by decide +kernel
theorem dX7_write_37 : decode cX7_write 37 = .ok (.getfield 18, 3) := by decide +kernel
theorem dX7_write_40 : decode cX7_write 40 = .ok (.iload 5, 2) := by decide +kernel
theorem dX7_write_42 : decode cX7_write 42 = .ok (.iload_n 1, 1) := by decide +kernel
theorem dX7_write_43 : decode cX7_write 43 = .ok (.iastore, 1) := by decide +kernel
theorem dX7_write_44 : decode cX7_write 44 = .ok (.aload_n 0, 1) := by decide +kernel
theorem dX7_write_45 : decode cX7_write 45 = .ok (.getfield 18, 3) := by decide +kernel
theorem dX7_write_48 : decode cX7_write 48 = .ok (.iload 5, 2) := by decide +kernel
theorem dX7_write_50 : decode cX7_write 50 = .ok (.iconst 1, 1) := by decide +kernel
theorem dX7_write_51 : decode cX7_write 51 = .ok (.iadd, 1) := by decide +kernel
theorem dX7_write_52 : decode cX7_write 52 = .ok (.iload_n 2, 1) := by decide +kernel
theorem dX7_write_53 : decode cX7_write 53 = .ok (.iastore, 1) := by decide +kernel
theorem dX7_write_54 : decode cX7_write 54 = .ok (.aload_n 0, 1) := by decide +kernel
theorem dX7_write_55 : decode cX7_write 55 = .ok (.getfield 18, 3) := by decide +kernel
theorem dX7_write_58 : decode cX7_write 58 = .ok (.iload 5, 2) := by decide +kernel
theorem dX7_write_60 : decode cX7_write 60 = .ok (.iconst 2, 1) := by decide +kernel
theorem dX7_write_61 : decode cX7_write 61 = .ok (.iadd, 1) := by decide +kernel
theorem dX7_write_62 : decode cX7_write 62 = .ok (.iload_n 3, 1) := by decide +kernel
theorem dX7_write_63 : decode cX7_write 63 = .ok (.iastore, 1) := by decide +kernel
theorem dX7_write_64 : decode cX7_write 64 = .ok (.aload_n 0, 1) := by decide +kernel
theorem dX7_write_65 : decode cX7_write 65 = .ok (.getfield 18, 3) := by decide +kernel
theorem dX7_write_68 : decode cX7_write 68 = .ok (.iload 5, 2) := by decide +kernel
theorem dX7_write_70 : decode cX7_write 70 = .ok (.iconst 3, 1) := by decide +kernel
theorem dX7_write_71 : decode cX7_write 71 = .ok (.iadd, 1) := by decide +kernel
theorem dX7_write_72 : decode cX7_write 72 = .ok (.iload 4, 2) := by decide +kernel
theorem dX7_write_74 : decode cX7_write 74 = .ok (.iastore, 1) := by decide +kernel
theorem dX7_write_75 : decode cX7_write 75 = .ok (.aload_n 0, 1) := by decide +kernel
theorem dX7_write_76 : decode cX7_write 76 = .ok (.bipush 60, 2) := by decide +kernel
theorem dX7_write_78 : decode cX7_write 78 = .ok (.aload_n 0, 1) := by decide +kernel
theorem dX7_write_79 : decode cX7_write 79 = .ok (.getfield 9, 3) := by decide +kernel
theorem dX7_write_82 : decode cX7_write 82 = .ok (.iconst 1, 1) := by decide +kernel
theorem dX7_write_83 : decode cX7_write 83 = .ok (.iadd, 1) := by decide +kernel
theorem dX7_write_84 : decode cX7_write 84 = .ok (.invokestatic 22, 3) := by decide +kernel
theorem dX7_write_87 : decode cX7_write 87 = .ok (.putfield 9, 3) := by decide +kernel
theorem dX7_write_90 : decode cX7_write 90 = .ok (.return_, 1) := by decide +kernel
theorem dX7_read_0 : decode cX7_read 0 = .ok (.iload_n 1, 1) := by decide +kernel
theorem dX7_read_1 : decode cX7_read 1 = .ok (.ifCond .lt 20, 3) := by decide +kernel
theorem dX7_read_4 : decode cX7_read 4 = .ok (.iload_n 1, 1) := by decide +kernel
theorem dX7_read_5 : decode cX7_read 5 = .ok (.aload_n 0, 1) := by decide +kernel
theorem dX7_read_6 : decode cX7_read 6 = .ok (.getfield 9, 3) := by decide +kernel
theorem dX7_read_9 : decode cX7_read 9 = .ok (.if_icmp .ge 12, 3) := by decide +kernel
theorem dX7_read_12 : decode cX7_read 12 = .ok (.iload_n 2, 1) := by decide +kernel
theorem dX7_read_13 : decode cX7_read 13 = .ok (.ifCond .lt 8, 3) := by decide +kernel
theorem dX7_read_16 : decode cX7_read 16 = .ok (.iload_n 2, 1) := by decide +kernel
theorem dX7_read_17 : decode cX7_read 17 = .ok (.iconst 4, 1) := by decide +kernel
theorem dX7_read_18 : decode cX7_read 18 = .ok (.if_icmp .lt 6, 3) := by decide +kernel
theorem dX7_read_21 : decode cX7_read 21 = .ok (.bipush (-2), 2) := by decide +kernel
theorem dX7_read_23 : decode cX7_read 23 = .ok (.ireturn, 1) := by decide +kernel
theorem dX7_read_24 : decode cX7_read 24 = .ok (.aload_n 0, 1) := by decide +kernel
theorem dX7_read_25 : decode cX7_read 25 = .ok (.getfield 18, 3) := by decide +kernel
theorem dX7_read_28 : decode cX7_read 28 = .ok (.aload_n 0, 1) := by decide +kernel
theorem dX7_read_29 : decode cX7_read 29 = .ok (.getfield 15, 3) := by decide +kernel
theorem dX7_read_32 : decode cX7_read 32 = .ok (.bipush 60, 2) := by decide +kernel
theorem dX7_read_34 : decode cX7_read 34 = .ok (.iadd, 1) := by decide +kernel
theorem dX7_read_35 : decode cX7_read 35 = .ok (.iload_n 1, 1) := by decide +kernel
theorem dX7_read_36 : decode cX7_read 36 = .ok (.isub, 1) := by decide +kernel
theorem dX7_read_37 : decode cX7_read 37 = .ok (.bipush 60, 2) := by decide +kernel
theorem dX7_read_39 : decode cX7_read 39 = .ok (.irem, 1) := by decide +kernel
theorem dX7_read_40 : decode cX7_read 40 = .ok (.iconst 4, 1) := by decide +kernel
theorem dX7_read_41 : decode cX7_read 41 = .ok (.imul, 1) := by decide +kernel
theorem dX7_read_42 : decode cX7_read 42 = .ok (.iload_n 2, 1) := by decide +kernel
theorem dX7_read_43 : decode cX7_read 43 = .ok (.iadd, 1) := by decide +kernel
theorem dX7_read_44 : decode cX7_read 44 = .ok (.iaload, 1) := by decide +kernel
theorem dX7_read_45 : decode cX7_read 45 = .ok (.ireturn, 1) := by decide +kernel
theorem dX7_rowsOf_0 : decode cX7_rowsOf 0 = .ok (.iconst 0, 1) := by decide +kernel
theorem dX7_rowsOf_1 : decode cX7_rowsOf 1 = .ok (.istore_n 2, 1) := by decide +kernel
theorem dX7_rowsOf_2 : decode cX7_rowsOf 2 = .ok (.iconst 0, 1) := by decide +kernel
theorem dX7_rowsOf_3 : decode cX7_rowsOf 3 = .ok (.istore_n 3, 1) := by decide +kernel
theorem dX7_rowsOf_4 : decode cX7_rowsOf 4 = .ok (.iload_n 3, 1) := by decide +kernel
theorem dX7_rowsOf_5 : decode cX7_rowsOf 5 = .ok (.aload_n 0, 1) := by decide +kernel
theorem dX7_rowsOf_6 : decode cX7_rowsOf 6 = .ok (.getfield 9, 3) := by decide +kernel
theorem dX7_rowsOf_9 : decode cX7_rowsOf 9 = .ok (.if_icmp .ge 22, 3) := by decide +kernel
theorem dX7_rowsOf_12 : decode cX7_rowsOf 12 = .ok (.aload_n 0, 1) := by decide +kernel
theorem dX7_rowsOf_13 : decode cX7_rowsOf 13 = .ok (.iload_n 3, 1) := by decide +kernel
theorem dX7_rowsOf_14 : decode cX7_rowsOf 14 = .ok (.iconst 1, 1) := by decide +kernel
theorem dX7_rowsOf_15 : decode cX7_rowsOf 15 = .ok (.invokevirtual 28, 3) := by decide +kernel
theorem dX7_rowsOf_18 : decode cX7_rowsOf 18 = .ok (.iload_n 1, 1) := by decide +kernel
theorem dX7_rowsOf_19 : decode cX7_rowsOf 19 = .ok (.if_icmp .ne 6, 3) := by decide +kernel
theorem dX7_rowsOf_22 : decode cX7_rowsOf 22 = .ok (.iinc 2 1, 3) := by decide +kernel
theorem dX7_rowsOf_25 : decode cX7_rowsOf 25 = .ok (.iinc 3 1, 3) := by decide +kernel
theorem dX7_rowsOf_28 : decode cX7_rowsOf 28 = .ok (.goto (-24), 3) := by decide +kernel
theorem dX7_rowsOf_31 : decode cX7_rowsOf 31 = .ok (.iload_n 2, 1) := by decide +kernel
theorem dX7_rowsOf_32 : decode cX7_rowsOf 32 = .ok (.ireturn, 1) := by decide +kernel
theorem dX7_latestEvening_0 : decode cX7_latestEvening 0 = .ok (.iconst 0, 1) := by decide +kernel
theorem dX7_latestEvening_1 : decode cX7_latestEvening 1 = .ok (.istore_n 2, 1) := by decide +kernel
theorem dX7_latestEvening_2 : decode cX7_latestEvening 2 = .ok (.iload_n 2, 1) := by decide +kernel
theorem dX7_latestEvening_3 : decode cX7_latestEvening 3 = .ok (.aload_n 0, 1) := by decide +kernel
theorem dX7_latestEvening_4 : decode cX7_latestEvening 4 = .ok (.getfield 9, 3) := by decide +kernel
theorem dX7_latestEvening_7 : decode cX7_latestEvening 7 = .ok (.if_icmp .ge 26, 3) := by decide +kernel
theorem dX7_latestEvening_10 : decode cX7_latestEvening 10 = .ok (.aload_n 0, 1) := by decide +kernel
theorem dX7_latestEvening_11 : decode cX7_latestEvening 11 = .ok (.iload_n 2, 1) := by decide +kernel
theorem dX7_latestEvening_12 : decode cX7_latestEvening 12 = .ok (.iconst 1, 1) := by decide +kernel
theorem dX7_latestEvening_13 : decode cX7_latestEvening 13 = .ok (.invokevirtual 28, 3) := by decide +kernel
theorem dX7_latestEvening_16 : decode cX7_latestEvening 16 = .ok (.iload_n 1, 1) := by decide +kernel
theorem dX7_latestEvening_17 : decode cX7_latestEvening 17 = .ok (.if_icmp .ne 10, 3) := by decide +kernel
theorem dX7_latestEvening_20 : decode cX7_latestEvening 20 = .ok (.aload_n 0, 1) := by decide +kernel
theorem dX7_latestEvening_21 : decode cX7_latestEvening 21 = .ok (.iload_n 2, 1) := by decide +kernel
theorem dX7_latestEvening_22 : decode cX7_latestEvening 22 = .ok (.iconst 0, 1) := by decide +kernel
theorem dX7_latestEvening_23 : decode cX7_latestEvening 23 = .ok (.invokevirtual 28, 3) := by decide +kernel
theorem dX7_latestEvening_26 : decode cX7_latestEvening 26 = .ok (.ireturn, 1) := by decide +kernel
theorem dX7_latestEvening_27 : decode cX7_latestEvening 27 = .ok (.iinc 2 1, 3) := by decide +kernel
theorem dX7_latestEvening_30 : decode cX7_latestEvening 30 = .ok (.goto (-28), 3) := by decide +kernel
theorem dX7_latestEvening_33 : decode cX7_latestEvening 33 = .ok (.iconst (-1), 1) := by decide +kernel
theorem dX7_latestEvening_34 : decode cX7_latestEvening 34 = .ok (.ireturn, 1) := by decide +kernel
theorem dX7_copy_0 : decode cX7_copy 0 = .ok (.aload_n 0, 1) := by decide +kernel
theorem dX7_copy_1 : decode cX7_copy 1 = .ok (.aload_n 1, 1) := by decide +kernel
theorem dX7_copy_2 : decode cX7_copy 2 = .ok (.getfield 9, 3) := by decide +kernel
theorem dX7_copy_5 : decode cX7_copy 5 = .ok (.putfield 9, 3) := by decide +kernel
theorem dX7_copy_8 : decode cX7_copy 8 = .ok (.aload_n 0, 1) := by decide +kernel
theorem dX7_copy_9 : decode cX7_copy 9 = .ok (.aload_n 1, 1) := by decide +kernel
theorem dX7_copy_10 : decode cX7_copy 10 = .ok (.getfield 15, 3) := by decide +kernel
theorem dX7_copy_13 : decode cX7_copy 13 = .ok (.putfield 15, 3) := by decide +kernel
theorem dX7_copy_16 : decode cX7_copy 16 = .ok (.aload_n 1, 1) := by decide +kernel
theorem dX7_copy_17 : decode cX7_copy 17 = .ok (.getfield 18, 3) := by decide +kernel
theorem dX7_copy_20 : decode cX7_copy 20 = .ok (.iconst 0, 1) := by decide +kernel
theorem dX7_copy_21 : decode cX7_copy 21 = .ok (.aload_n 0, 1) := by decide +kernel
theorem dX7_copy_22 : decode cX7_copy 22 = .ok (.getfield 18, 3) := by decide +kernel
theorem dX7_copy_25 : decode cX7_copy 25 = .ok (.iconst 0, 1) := by decide +kernel
theorem dX7_copy_26 : decode cX7_copy 26 = .ok (.sipush 240, 3) := by decide +kernel
theorem dX7_copy_29 : decode cX7_copy 29 = .ok (.invokestatic 31, 3) := by decide +kernel
theorem dX7_copy_32 : decode cX7_copy 32 = .ok (.return_, 1) := by decide +kernel
theorem dX8_init_0 : decode cX8_init 0 = .ok (.aload_n 0, 1) := by decide +kernel
theorem dX8_init_1 : decode cX8_init 1 = .ok (.invokespecial 3, 3) := by decide +kernel
theorem dX8_init_4 : decode cX8_init 4 = .ok (.aload_n 0, 1) := by decide +kernel
theorem dX8_init_5 : decode cX8_init 5 = .ok (.iconst 0, 1) := by decide +kernel
theorem dX8_init_6 : decode cX8_init 6 = .ok (.putfield 9, 3) := by decide +kernel
theorem dX8_init_9 : decode cX8_init 9 = .ok (.aload_n 0, 1) := by decide +kernel
theorem dX8_init_10 : decode cX8_init 10 = .ok (.iconst 0, 1) := by decide +kernel
theorem dX8_init_11 : decode cX8_init 11 = .ok (.putfield 15, 3) := by decide +kernel
theorem dX8_init_14 : decode cX8_init 14 = .ok (.aload_n 0, 1) := by decide +kernel
theorem dX8_init_15 : decode cX8_init 15 = .ok (.bipush 6, 2) := by decide +kernel
theorem dX8_init_17 : decode cX8_init 17 = .ok (.newarray .int, 2) := by decide +kernel
theorem dX8_init_19 : decode cX8_init 19 = .ok (.putfield 18, 3) := by decide +kernel
theorem dX8_init_22 : decode cX8_init 22 = .ok (.aload_n 0, 1) := by decide +kernel
theorem dX8_init_23 : decode cX8_init 23 = .ok (.bipush 6, 2) := by decide +kernel
theorem dX8_init_25 : decode cX8_init 25 = .ok (.newarray .int, 2) := by decide +kernel
theorem dX8_init_27 : decode cX8_init 27 = .ok (.putfield 22, 3) := by decide +kernel
theorem dX8_init_30 : decode cX8_init 30 = .ok (.aload_n 0, 1) := by decide +kernel
theorem dX8_init_31 : decode cX8_init 31 = .ok (.bipush 7, 2) := by decide +kernel
theorem dX8_init_33 : decode cX8_init 33 = .ok (.anewarray 25, 3) := by decide +kernel
theorem dX8_init_36 : decode cX8_init 36 = .ok (.putfield 27, 3) := by decide +kernel
theorem dX8_init_39 : decode cX8_init 39 = .ok (.iconst 0, 1) := by decide +kernel
theorem dX8_init_40 : decode cX8_init 40 = .ok (.istore_n 1, 1) := by decide +kernel
theorem dX8_init_41 : decode cX8_init 41 = .ok (.iload_n 1, 1) := by decide +kernel
theorem dX8_init_42 : decode cX8_init 42 = .ok (.bipush 6, 2) := by decide +kernel
theorem dX8_init_44 : decode cX8_init 44 = .ok (.if_icmp .gt 22, 3) := by decide +kernel
theorem dX8_init_47 : decode cX8_init 47 = .ok (.aload_n 0, 1) := by decide +kernel
theorem dX8_init_48 : decode cX8_init 48 = .ok (.getfield 27, 3) := by decide +kernel
theorem dX8_init_51 : decode cX8_init 51 = .ok (.iload_n 1, 1) := by decide +kernel
theorem dX8_init_52 : decode cX8_init 52 = .ok (.new 25, 3) := by decide +kernel
theorem dX8_init_55 : decode cX8_init 55 = .ok (.dup, 1) := by decide +kernel
theorem dX8_init_56 : decode cX8_init 56 = .ok (.invokespecial 31, 3) := by decide +kernel
theorem dX8_init_59 : decode cX8_init 59 = .ok (.aastore, 1) := by decide +kernel
theorem dX8_init_60 : decode cX8_init 60 = .ok (.iinc 1 1, 3) := by decide +kernel
theorem dX8_init_63 : decode cX8_init 63 = .ok (.goto (-22), 3) := by decide +kernel
theorem dX8_init_66 : decode cX8_init 66 = .ok (.return_, 1) := by decide +kernel
theorem dX8_search_0 : decode cX8_search 0 = .ok (.aload_n 0, 1) := by decide +kernel
theorem dX8_search_1 : decode cX8_search 1 = .ok (.bipush 6, 2) := by decide +kernel
theorem dX8_search_3 : decode cX8_search 3 = .ok (.iload_n 2, 1) := by decide +kernel
theorem dX8_search_4 : decode cX8_search 4 = .ok (.invokestatic 32, 3) := by decide +kernel
theorem dX8_search_7 : decode cX8_search 7 = .ok (.invokestatic 38, 3) := by decide +kernel
theorem dX8_search_10 : decode cX8_search 10 = .ok (.putfield 15, 3) := by decide +kernel
theorem dX8_search_13 : decode cX8_search 13 = .ok (.aload_n 0, 1) := by decide +kernel
theorem dX8_search_14 : decode cX8_search 14 = .ok (.bipush 100, 2) := by decide +kernel
theorem dX8_search_16 : decode cX8_search 16 = .ok (.putfield 9, 3) := by decide +kernel
theorem dX8_search_19 : decode cX8_search 19 = .ok (.aload_n 0, 1) := by decide +kernel
theorem dX8_search_20 : decode cX8_search 20 = .ok (.getfield 27, 3) := by decide +kernel
theorem dX8_search_23 : decode cX8_search 23 = .ok (.iconst 0, 1) := by decide +kernel
theorem dX8_search_24 : decode cX8_search 24 = .ok (.aaload, 1) := by decide +kernel
theorem dX8_search_25 : decode cX8_search 25 = .ok (.aload_n 1, 1) := by decide +kernel
theorem dX8_search_26 : decode cX8_search 26 = .ok (.invokevirtual 44, 3) := by decide +kernel
theorem dX8_search_29 : decode cX8_search 29 = .ok (.aload_n 0, 1) := by decide +kernel
theorem dX8_search_30 : decode cX8_search 30 = .ok (.iconst 0, 1) := by decide +kernel
theorem dX8_search_31 : decode cX8_search 31 = .ok (.iload_n 2, 1) := by decide +kernel
theorem dX8_search_32 : decode cX8_search 32 = .ok (.aload_n 1, 1) := by decide +kernel
theorem dX8_search_33 : decode cX8_search 33 = .ok (.getfield 48, 3) := by decide +kernel
theorem dX8_search_36 : decode cX8_search 36 = .ok (.aload_n 3, 1) := by decide +kernel
theorem dX8_search_37 : decode cX8_search 37 = .ok (.aload 4, 2) := by decide +kernel
theorem dX8_search_39 : decode cX8_search 39 = .ok (.invokevirtual 51, 3) := by decide +kernel
theorem dX8_search_42 : decode cX8_search 42 = .ok (.return_, 1) := by decide +kernel
theorem dX8_goOn_0 : decode cX8_goOn 0 = .ok (.iload_n 3, 1) := by decide +kernel
theorem dX8_goOn_1 : decode cX8_goOn 1 = .ok (.aload_n 0, 1) := by decide +kernel
theorem dX8_goOn_2 : decode cX8_goOn 2 = .ok (.getfield 9, 3) := by decide +kernel
theorem dX8_goOn_5 : decode cX8_goOn 5 = .ok (.if_icmp .lt 4, 3) := by decide +kernel
theorem dX8_goOn_8 : decode cX8_goOn 8 = .ok (.return_, 1) := by decide +kernel
theorem dX8_goOn_9 : decode cX8_goOn 9 = .ok (.iload_n 1, 1) := by decide +kernel
theorem dX8_goOn_10 : decode cX8_goOn 10 = .ok (.aload_n 0, 1) := by decide +kernel
theorem dX8_goOn_11 : decode cX8_goOn 11 = .ok (.getfield 15, 3) := by decide +kernel
theorem dX8_goOn_14 : decode cX8_goOn 14 = .ok (.if_icmp .ge 9, 3) := by decide +kernel
theorem dX8_goOn_17 : decode cX8_goOn 17 = .ok (.iload_n 1, 1) := by decide +kernel
theorem dX8_goOn_18 : decode cX8_goOn 18 = .ok (.bipush 6, 2) := by decide +kernel
theorem dX8_goOn_20 : decode cX8_goOn 20 = .ok (.if_icmp .lt 26, 3) := by decide +kernel
theorem dX8_goOn_23 : decode cX8_goOn 23 = .ok (.aload_n 0, 1) := by decide +kernel
theorem dX8_goOn_24 : decode cX8_goOn 24 = .ok (.iload_n 3, 1) := by decide +kernel
theorem dX8_goOn_25 : decode cX8_goOn 25 = .ok (.putfield 9, 3) := by decide +kernel
theorem dX8_goOn_28 : decode cX8_goOn 28 = .ok (.aload_n 0, 1) := by decide +kernel
theorem dX8_goOn_29 : decode cX8_goOn 29 = .ok (.getfield 18, 3) := by decide +kernel
theorem dX8_goOn_32 : decode cX8_goOn 32 = .ok (.iconst 0, 1) := by decide +kernel
theorem dX8_goOn_33 : decode cX8_goOn 33 = .ok (.aload_n 0, 1) := by decide +kernel
theorem dX8_goOn_34 : decode cX8_goOn 34 = .ok (.getfield 22, 3) := by decide +kernel
theorem dX8_goOn_37 : decode cX8_goOn 37 = .ok (.iconst 0, 1) := by decide +kernel
theorem dX8_goOn_38 : decode cX8_goOn 38 = .ok (.aload_n 0, 1) := by decide +kernel
theorem dX8_goOn_39 : decode cX8_goOn 39 = .ok (.getfield 15, 3) := by decide +kernel
theorem dX8_goOn_42 : decode cX8_goOn 42 = .ok (.invokestatic 55, 3) := by decide +kernel
theorem dX8_goOn_45 : decode cX8_goOn 45 = .ok (.return_, 1) := by decide +kernel
theorem dX8_goOn_46 : decode cX8_goOn 46 = .ok (.iconst 0, 1) := by decide +kernel
theorem dX8_goOn_47 : decode cX8_goOn 47 = .ok (.istore 6, 2) := by decide +kernel
theorem dX8_goOn_49 : decode cX8_goOn 49 = .ok (.iload 6, 2) := by decide +kernel
theorem dX8_goOn_51 : decode cX8_goOn 51 = .ok (.bipush 12, 2) := by decide +kernel
theorem dX8_goOn_53 : decode cX8_goOn 53 = .ok (.if_icmp .ge 96, 3) := by decide +kernel
theorem dX8_goOn_56 : decode cX8_goOn 56 = .ok (.iload_n 2, 1) := by decide +kernel
theorem dX8_goOn_57 : decode cX8_goOn 57 = .ok (.iload 6, 2) := by decide +kernel
theorem dX8_goOn_59 : decode cX8_goOn 59 = .ok (.ishr, 1) := by decide +kernel
theorem dX8_goOn_60 : decode cX8_goOn 60 = .ok (.iconst 1, 1) := by decide +kernel
theorem dX8_goOn_61 : decode cX8_goOn 61 = .ok (.iand, 1) := by decide +kernel
theorem dX8_goOn_62 : decode cX8_goOn 62 = .ok (.ifCond .eq 81, 3) := by decide +kernel
theorem dX8_goOn_65 : decode cX8_goOn 65 = .ok (.aload_n 0, 1) := by decide +kernel
theorem dX8_goOn_66 : decode cX8_goOn 66 = .ok (.getfield 27, 3) := by decide +kernel
theorem dX8_goOn_69 : decode cX8_goOn 69 = .ok (.iload_n 1, 1) := by decide +kernel
theorem dX8_goOn_70 : decode cX8_goOn 70 = .ok (.iconst 1, 1) := by decide +kernel
theorem dX8_goOn_71 : decode cX8_goOn 71 = .ok (.iadd, 1) := by decide +kernel
theorem dX8_goOn_72 : decode cX8_goOn 72 = .ok (.aaload, 1) := by decide +kernel
theorem dX8_goOn_73 : decode cX8_goOn 73 = .ok (.astore 7, 2) := by decide +kernel
theorem dX8_goOn_75 : decode cX8_goOn 75 = .ok (.aload 7, 2) := by decide +kernel
theorem dX8_goOn_77 : decode cX8_goOn 77 = .ok (.aload_n 0, 1) := by decide +kernel
theorem dX8_goOn_78 : decode cX8_goOn 78 = .ok (.getfield 27, 3) := by decide +kernel
theorem dX8_goOn_81 : decode cX8_goOn 81 = .ok (.iload_n 1, 1) := by decide +kernel
theorem dX8_goOn_82 : decode cX8_goOn 82 = .ok (.aaload, 1) := by decide +kernel
theorem dX8_goOn_83 : decode cX8_goOn 83 = .ok (.invokevirtual 44, 3) := by decide +kernel
theorem dX8_goOn_86 : decode cX8_goOn 86 = .ok (.aload 7, 2) := by decide +kernel
theorem dX8_goOn_88 : decode cX8_goOn 88 = .ok (.iload 6, 2) := by decide +kernel
theorem dX8_goOn_90 : decode cX8_goOn 90 = .ok (.invokevirtual 61, 3) := by decide +kernel
theorem dX8_goOn_93 : decode cX8_goOn 93 = .ok (.ifCond .eq 14, 3) := by decide +kernel
theorem dX8_goOn_96 : decode cX8_goOn 96 = .ok (.aload 7, 2) := by decide +kernel
theorem dX8_goOn_98 : decode cX8_goOn 98 = .ok (.iload 6, 2) := by decide +kernel
theorem dX8_goOn_100 : decode cX8_goOn 100 = .ok (.aload 4, 2) := by decide +kernel
theorem dX8_goOn_102 : decode cX8_goOn 102 = .ok (.aload 5, 2) := by decide +kernel
theorem dX8_goOn_104 : decode cX8_goOn 104 = .ok (.invokevirtual 65, 3) := by decide +kernel
theorem dX8_goOn_107 : decode cX8_goOn 107 = .ok (.aload_n 0, 1) := by decide +kernel
theorem dX8_goOn_108 : decode cX8_goOn 108 = .ok (.getfield 18, 3) := by decide +kernel
theorem dX8_goOn_111 : decode cX8_goOn 111 = .ok (.iload_n 1, 1) := by decide +kernel
theorem dX8_goOn_112 : decode cX8_goOn 112 = .ok (.iload 6, 2) := by decide +kernel
theorem dX8_goOn_114 : decode cX8_goOn 114 = .ok (.iastore, 1) := by decide +kernel
theorem dX8_goOn_115 : decode cX8_goOn 115 = .ok (.aload_n 0, 1) := by decide +kernel
theorem dX8_goOn_116 : decode cX8_goOn 116 = .ok (.iload_n 1, 1) := by decide +kernel
theorem dX8_goOn_117 : decode cX8_goOn 117 = .ok (.iconst 1, 1) := by decide +kernel
theorem dX8_goOn_118 : decode cX8_goOn 118 = .ok (.iadd, 1) := by decide +kernel
theorem dX8_goOn_119 : decode cX8_goOn 119 = .ok (.iload_n 2, 1) := by decide +kernel
theorem dX8_goOn_120 : decode cX8_goOn 120 = .ok (.iconst 1, 1) := by decide +kernel
theorem dX8_goOn_121 : decode cX8_goOn 121 = .ok (.iload 6, 2) := by decide +kernel
theorem dX8_goOn_123 : decode cX8_goOn 123 = .ok (.ishl, 1) := by decide +kernel
theorem dX8_goOn_124 : decode cX8_goOn 124 = .ok (.iconst (-1), 1) := by decide +kernel
theorem dX8_goOn_125 : decode cX8_goOn 125 = .ok (.ixor, 1) := by decide +kernel
theorem dX8_goOn_126 : decode cX8_goOn 126 = .ok (.iand, 1) := by decide +kernel
theorem dX8_goOn_127 : decode cX8_goOn 127 = .ok (.iload_n 3, 1) := by decide +kernel
theorem dX8_goOn_128 : decode cX8_goOn 128 = .ok (.aload 7, 2) := by decide +kernel
theorem dX8_goOn_130 : decode cX8_goOn 130 = .ok (.getfield 48, 3) := by decide +kernel
theorem dX8_goOn_133 : decode cX8_goOn 133 = .ok (.invokestatic 69, 3) := by decide +kernel
theorem dX8_goOn_136 : decode cX8_goOn 136 = .ok (.aload 4, 2) := by decide +kernel
theorem dX8_goOn_138 : decode cX8_goOn 138 = .ok (.aload 5, 2) := by decide +kernel
theorem dX8_goOn_140 : decode cX8_goOn 140 = .ok (.invokevirtual 51, 3) := by decide +kernel
theorem dX8_goOn_143 : decode cX8_goOn 143 = .ok (.iinc 6 1, 3) := by decide +kernel
theorem dX8_goOn_146 : decode cX8_goOn 146 = .ok (.goto (-97), 3) := by decide +kernel
theorem dX8_goOn_149 : decode cX8_goOn 149 = .ok (.return_, 1) := by decide +kernel
theorem dX8_nth_0 : decode cX8_nth 0 = .ok (.iload_n 1, 1) := by decide +kernel
theorem dX8_nth_1 : decode cX8_nth 1 = .ok (.ifCond .lt 20, 3) := by decide +kernel
theorem dX8_nth_4 : decode cX8_nth 4 = .ok (.iload_n 1, 1) := by decide +kernel
theorem dX8_nth_5 : decode cX8_nth 5 = .ok (.aload_n 0, 1) := by decide +kernel
theorem dX8_nth_6 : decode cX8_nth 6 = .ok (.getfield 15, 3) := by decide +kernel
theorem dX8_nth_9 : decode cX8_nth 9 = .ok (.if_icmp .ge 12, 3) := by decide +kernel
theorem dX8_nth_12 : decode cX8_nth 12 = .ok (.aload_n 0, 1) := by decide +kernel
theorem dX8_nth_13 : decode cX8_nth 13 = .ok (.getfield 22, 3) := by decide +kernel
theorem dX8_nth_16 : decode cX8_nth 16 = .ok (.iload_n 1, 1) := by decide +kernel
theorem dX8_nth_17 : decode cX8_nth 17 = .ok (.iaload, 1) := by decide +kernel
theorem dX8_nth_18 : decode cX8_nth 18 = .ok (.goto 4, 3) := by decide +kernel
theorem dX8_nth_21 : decode cX8_nth 21 = .ok (.iconst (-1), 1) := by decide +kernel
theorem dX8_nth_22 : decode cX8_nth 22 = .ok (.ireturn, 1) := by decide +kernel
theorem dX9_init_0 : decode cX9_init 0 = .ok (.aload_n 0, 1) := by decide +kernel
theorem dX9_init_1 : decode cX9_init 1 = .ok (.invokespecial 3, 3) := by decide +kernel
theorem dX9_init_4 : decode cX9_init 4 = .ok (.aload_n 0, 1) := by decide +kernel
theorem dX9_init_5 : decode cX9_init 5 = .ok (.iconst (-1), 1) := by decide +kernel
theorem dX9_init_6 : decode cX9_init 6 = .ok (.putfield 9, 3) := by decide +kernel
theorem dX9_init_9 : decode cX9_init 9 = .ok (.aload_n 0, 1) := by decide +kernel
theorem dX9_init_10 : decode cX9_init 10 = .ok (.iconst 0, 1) := by decide +kernel
theorem dX9_init_11 : decode cX9_init 11 = .ok (.putfield 15, 3) := by decide +kernel
theorem dX9_init_14 : decode cX9_init 14 = .ok (.aload_n 0, 1) := by decide +kernel
theorem dX9_init_15 : decode cX9_init 15 = .ok (.iconst 0, 1) := by decide +kernel
theorem dX9_init_16 : decode cX9_init 16 = .ok (.putfield 18, 3) := by decide +kernel
theorem dX9_init_19 : decode cX9_init 19 = .ok (.aload_n 0, 1) := by decide +kernel
theorem dX9_init_20 : decode cX9_init 20 = .ok (.bipush 9, 2) := by decide +kernel
theorem dX9_init_22 : decode cX9_init 22 = .ok (.newarray .int, 2) := by decide +kernel
theorem dX9_init_24 : decode cX9_init 24 = .ok (.putfield 21, 3) := by decide +kernel
theorem dX9_init_27 : decode cX9_init 27 = .ok (.return_, 1) := by decide +kernel
theorem dX9_put_0 : decode cX9_put 0 = .ok (.aload_n 0, 1) := by decide +kernel
theorem dX9_put_1 : decode cX9_put 1 = .ok (.iconst 0, 1) := by decide +kernel
theorem dX9_put_2 : decode cX9_put 2 = .ok (.putfield 15, 3) := by decide +kernel
theorem dX9_put_5 : decode cX9_put 5 = .ok (.aload_n 0, 1) := by decide +kernel
theorem dX9_put_6 : decode cX9_put 6 = .ok (.aload_n 1, 1) := by decide +kernel
theorem dX9_put_7 : decode cX9_put 7 = .ok (.getfield 25, 3) := by decide +kernel
theorem dX9_put_10 : decode cX9_put 10 = .ok (.putfield 18, 3) := by decide +kernel
theorem dX9_put_13 : decode cX9_put 13 = .ok (.aload_n 0, 1) := by decide +kernel
theorem dX9_put_14 : decode cX9_put 14 = .ok (.aload_n 1, 1) := by decide +kernel
theorem dX9_put_15 : decode cX9_put 15 = .ok (.getfield 30, 3) := by decide +kernel
theorem dX9_put_18 : decode cX9_put 18 = .ok (.iload_n 2, 1) := by decide +kernel
theorem dX9_put_19 : decode cX9_put 19 = .ok (.aload_n 1, 1) := by decide +kernel
theorem dX9_put_20 : decode cX9_put 20 = .ok (.getfield 34, 3) := by decide +kernel
theorem dX9_put_23 : decode cX9_put 23 = .ok (.invokevirtual 37, 3) := by decide +kernel
theorem dX9_put_26 : decode cX9_put 26 = .ok (.putfield 9, 3) := by decide +kernel
theorem dX9_put_29 : decode cX9_put 29 = .ok (.aload_n 0, 1) := by decide +kernel
theorem dX9_put_30 : decode cX9_put 30 = .ok (.getfield 21, 3) := by decide +kernel
theorem dX9_put_33 : decode cX9_put 33 = .ok (.iconst 0, 1) := by decide +kernel
theorem dX9_put_34 : decode cX9_put 34 = .ok (.iload_n 2, 1) := by decide +kernel
theorem dX9_put_35 : decode cX9_put 35 = .ok (.iastore, 1) := by decide +kernel
theorem dX9_put_36 : decode cX9_put 36 = .ok (.aload_n 0, 1) := by decide +kernel
theorem dX9_put_37 : decode cX9_put 37 = .ok (.getfield 21, 3) := by decide +kernel
theorem dX9_put_40 : decode cX9_put 40 = .ok (.iconst 4, 1) := by decide +kernel
theorem dX9_put_41 : decode cX9_put 41 = .ok (.aload_n 1, 1) := by decide +kernel
theorem dX9_put_42 : decode cX9_put 42 = .ok (.getfield 43, 3) := by decide +kernel
theorem dX9_put_45 : decode cX9_put 45 = .ok (.iastore, 1) := by decide +kernel
theorem dX9_put_46 : decode cX9_put 46 = .ok (.aload_n 0, 1) := by decide +kernel
theorem dX9_put_47 : decode cX9_put 47 = .ok (.getfield 21, 3) := by decide +kernel
theorem dX9_put_50 : decode cX9_put 50 = .ok (.iconst 5, 1) := by decide +kernel
theorem dX9_put_51 : decode cX9_put 51 = .ok (.aload_n 1, 1) := by decide +kernel
theorem dX9_put_52 : decode cX9_put 52 = .ok (.getfield 46, 3) := by decide +kernel
theorem dX9_put_55 : decode cX9_put 55 = .ok (.iastore, 1) := by decide +kernel
theorem dX9_put_56 : decode cX9_put 56 = .ok (.aload_n 0, 1) := by decide +kernel
theorem dX9_put_57 : decode cX9_put 57 = .ok (.getfield 21, 3) := by decide +kernel
theorem dX9_put_60 : decode cX9_put 60 = .ok (.bipush 6, 2) := by decide +kernel
theorem dX9_put_62 : decode cX9_put 62 = .ok (.aload_n 1, 1) := by decide +kernel
theorem dX9_put_63 : decode cX9_put 63 = .ok (.getfield 30, 3) := by decide +kernel
theorem dX9_put_66 : decode cX9_put 66 = .ok (.iload_n 2, 1) := by decide +kernel
theorem dX9_put_67 : decode cX9_put 67 = .ok (.invokevirtual 49, 3) := by decide +kernel
theorem dX9_put_70 : decode cX9_put 70 = .ok (.ifCond .eq 7, 3) := by decide +kernel
theorem dX9_put_73 : decode cX9_put 73 = .ok (.iconst 0, 1) := by decide +kernel
theorem dX9_put_74 : decode cX9_put 74 = .ok (.goto 4, 3) := by decide +kernel
theorem dX9_put_77 : decode cX9_put 77 = .ok (.iconst 1, 1) := by decide +kernel
theorem dX9_put_78 : decode cX9_put 78 = .ok (.iastore, 1) := by decide +kernel
theorem dX9_put_79 : decode cX9_put 79 = .ok (.aload_n 0, 1) := by decide +kernel
theorem dX9_put_80 : decode cX9_put 80 = .ok (.getfield 21, 3) := by decide +kernel
theorem dX9_put_83 : decode cX9_put 83 = .ok (.iconst 1, 1) := by decide +kernel
theorem dX9_put_84 : decode cX9_put 84 = .ok (.aload_n 1, 1) := by decide +kernel
theorem dX9_put_85 : decode cX9_put 85 = .ok (.getfield 53, 3) := by decide +kernel
theorem dX9_put_88 : decode cX9_put 88 = .ok (.iastore, 1) := by decide +kernel
theorem dX9_put_89 : decode cX9_put 89 = .ok (.aload_n 0, 1) := by decide +kernel
theorem dX9_put_90 : decode cX9_put 90 = .ok (.getfield 21, 3) := by decide +kernel
theorem dX9_put_93 : decode cX9_put 93 = .ok (.iconst 2, 1) := by decide +kernel
theorem dX9_put_94 : decode cX9_put 94 = .ok (.aload_n 1, 1) := by decide +kernel
theorem dX9_put_95 : decode cX9_put 95 = .ok (.getfield 56, 3) := by decide +kernel
theorem dX9_put_98 : decode cX9_put 98 = .ok (.iastore, 1) := by decide +kernel
theorem dX9_put_99 : decode cX9_put 99 = .ok (.aload_n 0, 1) := by decide +kernel
theorem dX9_put_100 : decode cX9_put 100 = .ok (.getfield 21, 3) := by decide +kernel
theorem dX9_put_103 : decode cX9_put 103 = .ok (.iconst 3, 1) := by decide +kernel
theorem dX9_put_104 : decode cX9_put 104 = .ok (.bipush 9, 2) := by decide +kernel
theorem dX9_put_106 : decode cX9_put 106 = .ok (.iastore, 1) := by decide +kernel
theorem dX9_put_107 : decode cX9_put 107 = .ok (.aload_n 0, 1) := by decide +kernel
theorem dX9_put_108 : decode cX9_put 108 = .ok (.getfield 21, 3) := by decide +kernel
theorem dX9_put_111 : decode cX9_put 111 = .ok (.bipush 7, 2) := by decide +kernel
theorem dX9_put_113 : decode cX9_put 113 = .ok (.iconst 0, 1) := by decide +kernel
theorem dX9_put_114 : decode cX9_put 114 = .ok (.iastore, 1) := by decide +kernel
theorem dX9_put_115 : decode cX9_put 115 = .ok (.aload_n 0, 1) := by decide +kernel
theorem dX9_put_116 : decode cX9_put 116 = .ok (.getfield 21, 3) := by decide +kernel
theorem dX9_put_119 : decode cX9_put 119 = .ok (.bipush 8, 2) := by decide +kernel
theorem dX9_put_121 : decode cX9_put 121 = .ok (.iconst 0, 1) := by decide +kernel
theorem dX9_put_122 : decode cX9_put 122 = .ok (.iastore, 1) := by decide +kernel
theorem dX9_put_123 : decode cX9_put 123 = .ok (.aload_n 1, 1) := by decide +kernel
theorem dX9_put_124 : decode cX9_put 124 = .ok (.getfield 30, 3) := by decide +kernel
theorem dX9_put_127 : decode cX9_put 127 = .ok (.aload_n 0, 1) := by decide +kernel
theorem dX9_put_128 : decode cX9_put 128 = .ok (.getfield 9, 3) := by decide +kernel
theorem dX9_put_131 : decode cX9_put 131 = .ok (.invokevirtual 59, 3) := by decide +kernel
theorem dX9_put_134 : decode cX9_put 134 = .ok (.ifCond .eq 8, 3) := by decide +kernel
theorem dX9_put_137 : decode cX9_put 137 = .ok (.aload_n 0, 1) := by decide +kernel
theorem dX9_put_138 : decode cX9_put 138 = .ok (.aload_n 1, 1) := by decide +kernel
theorem dX9_put_139 : decode cX9_put 139 = .ok (.invokevirtual 62, 3) := by decide +kernel
theorem dX9_put_142 : decode cX9_put 142 = .ok (.return_, 1) := by decide +kernel
theorem dX9_putCalled_0 : decode cX9_putCalled 0 = .ok (.aload_n 1, 1) := by decide +kernel
theorem dX9_putCalled_1 : decode cX9_putCalled 1 = .ok (.getfield 30, 3) := by decide +kernel
theorem dX9_putCalled_4 : decode cX9_putCalled 4 = .ok (.getfield 66, 3) := by decide +kernel
theorem dX9_putCalled_7 : decode cX9_putCalled 7 = .ok (.aload_n 0, 1) := by decide +kernel
theorem dX9_putCalled_8 : decode cX9_putCalled 8 = .ok (.getfield 9, 3) := by decide +kernel
theorem dX9_putCalled_11 : decode cX9_putCalled 11 = .ok (.iaload, 1) := by decide +kernel
theorem dX9_putCalled_12 : decode cX9_putCalled 12 = .ok (.istore_n 2, 1) := by decide +kernel
theorem dX9_putCalled_13 : decode cX9_putCalled 13 = .ok (.aload_n 1, 1) := by decide +kernel
theorem dX9_putCalled_14 : decode cX9_putCalled 14 = .ok (.getfield 30, 3) := by decide +kernel
theorem dX9_putCalled_17 : decode cX9_putCalled 17 = .ok (.getfield 69, 3) := by decide +kernel
theorem dX9_putCalled_20 : decode cX9_putCalled 20 = .ok (.aload_n 0, 1) := by decide +kernel
theorem dX9_putCalled_21 : decode cX9_putCalled 21 = .ok (.getfield 9, 3) := by decide +kernel
theorem dX9_putCalled_24 : decode cX9_putCalled 24 = .ok (.iaload, 1) := by decide +kernel
theorem dX9_putCalled_25 : decode cX9_putCalled 25 = .ok (.istore_n 3, 1) := by decide +kernel
theorem dX9_putCalled_26 : decode cX9_putCalled 26 = .ok (.aload_n 0, 1) := by decide +kernel
theorem dX9_putCalled_27 : decode cX9_putCalled 27 = .ok (.getfield 21, 3) := by decide +kernel
theorem dX9_putCalled_30 : decode cX9_putCalled 30 = .ok (.iconst 1, 1) := by decide +kernel
theorem dX9_putCalled_31 : decode cX9_putCalled 31 = .ok (.iload_n 2, 1) := by decide +kernel
theorem dX9_putCalled_32 : decode cX9_putCalled 32 = .ok (.iastore, 1) := by decide +kernel
theorem dX9_putCalled_33 : decode cX9_putCalled 33 = .ok (.aload_n 0, 1) := by decide +kernel
theorem dX9_putCalled_34 : decode cX9_putCalled 34 = .ok (.getfield 21, 3) := by decide +kernel
theorem dX9_putCalled_37 : decode cX9_putCalled 37 = .ok (.iconst 2, 1) := by decide +kernel
theorem dX9_putCalled_38 : decode cX9_putCalled 38 = .ok (.aload_n 1, 1) := by decide +kernel
theorem dX9_putCalled_39 : decode cX9_putCalled 39 = .ok (.getfield 30, 3) := by decide +kernel
theorem dX9_putCalled_42 : decode cX9_putCalled 42 = .ok (.getfield 72, 3) := by decide +kernel
theorem dX9_putCalled_45 : decode cX9_putCalled 45 = .ok (.aload_n 0, 1) := by decide +kernel
theorem dX9_putCalled_46 : decode cX9_putCalled 46 = .ok (.getfield 9, 3) := by decide +kernel
theorem dX9_putCalled_49 : decode cX9_putCalled 49 = .ok (.iaload, 1) := by decide +kernel
theorem dX9_putCalled_50 : decode cX9_putCalled 50 = .ok (.iastore, 1) := by decide +kernel
theorem dX9_putCalled_51 : decode cX9_putCalled 51 = .ok (.aload_n 0, 1) := by decide +kernel
theorem dX9_putCalled_52 : decode cX9_putCalled 52 = .ok (.getfield 21, 3) := by decide +kernel
theorem dX9_putCalled_55 : decode cX9_putCalled 55 = .ok (.iconst 3, 1) := by decide +kernel
theorem dX9_putCalled_56 : decode cX9_putCalled 56 = .ok (.iload_n 3, 1) := by decide +kernel
theorem dX9_putCalled_57 : decode cX9_putCalled 57 = .ok (.iconst (-1), 1) := by decide +kernel
theorem dX9_putCalled_58 : decode cX9_putCalled 58 = .ok (.if_icmp .ne 8, 3) := by decide +kernel
theorem dX9_putCalled_61 : decode cX9_putCalled 61 = .ok (.bipush 9, 2) := by decide +kernel
theorem dX9_putCalled_63 : decode cX9_putCalled 63 = .ok (.goto 4, 3) := by decide +kernel
theorem dX9_putCalled_66 : decode cX9_putCalled 66 = .ok (.iload_n 3, 1) := by decide +kernel
theorem dX9_putCalled_67 : decode cX9_putCalled 67 = .ok (.iastore, 1) := by decide +kernel
theorem dX9_putCalled_68 : decode cX9_putCalled 68 = .ok (.aload_n 0, 1) := by decide +kernel
theorem dX9_putCalled_69 : decode cX9_putCalled 69 = .ok (.getfield 21, 3) := by decide +kernel
theorem dX9_putCalled_72 : decode cX9_putCalled 72 = .ok (.bipush 7, 2) := by decide +kernel
theorem dX9_putCalled_74 : decode cX9_putCalled 74 = .ok (.iload_n 2, 1) := by decide +kernel
theorem dX9_putCalled_75 : decode cX9_putCalled 75 = .ok (.aload_n 1, 1) := by decide +kernel
theorem dX9_putCalled_76 : decode cX9_putCalled 76 = .ok (.getfield 75, 3) := by decide +kernel
theorem dX9_putCalled_79 : decode cX9_putCalled 79 = .ok (.if_icmp .lt 15, 3) := by decide +kernel
theorem dX9_putCalled_82 : decode cX9_putCalled 82 = .ok (.iload_n 2, 1) := by decide +kernel
theorem dX9_putCalled_83 : decode cX9_putCalled 83 = .ok (.aload_n 1, 1) := by decide +kernel
theorem dX9_putCalled_84 : decode cX9_putCalled 84 = .ok (.getfield 78, 3) := by decide +kernel
theorem dX9_putCalled_87 : decode cX9_putCalled 87 = .ok (.if_icmp .gt 7, 3) := by decide +kernel
theorem dX9_putCalled_90 : decode cX9_putCalled 90 = .ok (.iconst 1, 1) := by decide +kernel
theorem dX9_putCalled_91 : decode cX9_putCalled 91 = .ok (.goto 4, 3) := by decide +kernel
theorem dX9_putCalled_94 : decode cX9_putCalled 94 = .ok (.iconst 0, 1) := by decide +kernel
theorem dX9_putCalled_95 : decode cX9_putCalled 95 = .ok (.iastore, 1) := by decide +kernel
theorem dX9_putCalled_96 : decode cX9_putCalled 96 = .ok (.aload_n 0, 1) := by decide +kernel
theorem dX9_putCalled_97 : decode cX9_putCalled 97 = .ok (.getfield 21, 3) := by decide +kernel
theorem dX9_putCalled_100 : decode cX9_putCalled 100 = .ok (.bipush 8, 2) := by decide +kernel
theorem dX9_putCalled_102 : decode cX9_putCalled 102 = .ok (.iload_n 3, 1) := by decide +kernel
theorem dX9_putCalled_103 : decode cX9_putCalled 103 = .ok (.iconst (-1), 1) := by decide +kernel
theorem dX9_putCalled_104 : decode cX9_putCalled 104 = .ok (.if_icmp .ne 7, 3) := by decide +kernel
theorem dX9_putCalled_107 : decode cX9_putCalled 107 = .ok (.iconst 1, 1) := by decide +kernel
theorem dX9_putCalled_108 : decode cX9_putCalled 108 = .ok (.goto 4, 3) := by decide +kernel
theorem dX9_putCalled_111 : decode cX9_putCalled 111 = .ok (.iconst 0, 1) := by decide +kernel
theorem dX9_putCalled_112 : decode cX9_putCalled 112 = .ok (.iastore, 1) := by decide +kernel
theorem dX9_putCalled_113 : decode cX9_putCalled 113 = .ok (.return_, 1) := by decide +kernel
theorem dX10_init_0 : decode cX10_init 0 = .ok (.aload_n 0, 1) := by decide +kernel
theorem dX10_init_1 : decode cX10_init 1 = .ok (.invokespecial 3, 3) := by decide +kernel
theorem dX10_init_4 : decode cX10_init 4 = .ok (.aload_n 0, 1) := by decide +kernel
theorem dX10_init_5 : decode cX10_init 5 = .ok (.iconst 0, 1) := by decide +kernel
theorem dX10_init_6 : decode cX10_init 6 = .ok (.newarray .int, 2) := by decide +kernel
theorem dX10_init_8 : decode cX10_init 8 = .ok (.putfield 9, 3) := by decide +kernel
theorem dX10_init_11 : decode cX10_init 11 = .ok (.aload_n 0, 1) := by decide +kernel
theorem dX10_init_12 : decode cX10_init 12 = .ok (.iconst 0, 1) := by decide +kernel
theorem dX10_init_13 : decode cX10_init 13 = .ok (.putfield 15, 3) := by decide +kernel
theorem dX10_init_16 : decode cX10_init 16 = .ok (.aload_n 0, 1) := by decide +kernel
theorem dX10_init_17 : decode cX10_init 17 = .ok (.iconst 0, 1) := by decide +kernel
theorem dX10_init_18 : decode cX10_init 18 = .ok (.putfield 19, 3) := by decide +kernel
theorem dX10_init_21 : decode cX10_init 21 = .ok (.aload_n 0, 1) := by decide +kernel
theorem dX10_init_22 : decode cX10_init 22 = .ok (.iconst 0, 1) := by decide +kernel
theorem dX10_init_23 : decode cX10_init 23 = .ok (.putfield 22, 3) := by decide +kernel
theorem dX10_init_26 : decode cX10_init 26 = .ok (.aload_n 0, 1) := by decide +kernel
theorem dX10_init_27 : decode cX10_init 27 = .ok (.iconst 0, 1) := by decide +kernel
theorem dX10_init_28 : decode cX10_init 28 = .ok (.putfield 25, 3) := by decide +kernel
theorem dX10_init_31 : decode cX10_init 31 = .ok (.return_, 1) := by decide +kernel
theorem dX10_firstWrong_0 : decode cX10_firstWrong 0 = .ok (.aload_n 0, 1) := by decide +kernel
theorem dX10_firstWrong_1 : decode cX10_firstWrong 1 = .ok (.aload_n 1, 1) := by decide +kernel
theorem dX10_firstWrong_2 : decode cX10_firstWrong 2 = .ok (.putfield 9, 3) := by decide +kernel
theorem dX10_firstWrong_5 : decode cX10_firstWrong 5 = .ok (.aload_n 0, 1) := by decide +kernel
theorem dX10_firstWrong_6 : decode cX10_firstWrong 6 = .ok (.iconst 0, 1) := by decide +kernel
theorem dX10_firstWrong_7 : decode cX10_firstWrong 7 = .ok (.iload_n 2, 1) := by decide +kernel
theorem dX10_firstWrong_8 : decode cX10_firstWrong 8 = .ok (.aload_n 1, 1) := by decide +kernel
theorem dX10_firstWrong_9 : decode cX10_firstWrong 9 = .ok (.arraylength, 1) := by decide +kernel
theorem dX10_firstWrong_10 : decode cX10_firstWrong 10 = .ok (.invokestatic 28, 3) := by decide +kernel
theorem dX10_firstWrong_13 : decode cX10_firstWrong 13 = .ok (.invokestatic 34, 3) := by decide +kernel
theorem dX10_firstWrong_16 : decode cX10_firstWrong 16 = .ok (.putfield 15, 3) := by decide +kernel
theorem dX10_firstWrong_19 : decode cX10_firstWrong 19 = .ok (.aload_n 0, 1) := by decide +kernel
theorem dX10_firstWrong_20 : decode cX10_firstWrong 20 = .ok (.iconst 0, 1) := by decide +kernel
theorem dX10_firstWrong_21 : decode cX10_firstWrong 21 = .ok (.putfield 25, 3) := by decide +kernel
theorem dX10_firstWrong_24 : decode cX10_firstWrong 24 = .ok (.aload_n 0, 1) := by decide +kernel
theorem dX10_firstWrong_25 : decode cX10_firstWrong 25 = .ok (.invokevirtual 37, 3) := by decide +kernel
theorem dX10_firstWrong_28 : decode cX10_firstWrong 28 = .ok (.aload_n 0, 1) := by decide +kernel
theorem dX10_firstWrong_29 : decode cX10_firstWrong 29 = .ok (.getfield 19, 3) := by decide +kernel
theorem dX10_firstWrong_32 : decode cX10_firstWrong 32 = .ok (.ifCond .ne 5, 3) := by decide +kernel
theorem dX10_firstWrong_35 : decode cX10_firstWrong 35 = .ok (.iconst (-1), 1) := by decide +kernel
theorem dX10_firstWrong_36 : decode cX10_firstWrong 36 = .ok (.ireturn, 1) := by decide +kernel
theorem dX10_firstWrong_37 : decode cX10_firstWrong 37 = .ok (.iconst 0, 1) := by decide +kernel
theorem dX10_firstWrong_38 : decode cX10_firstWrong 38 = .ok (.istore 4, 2) := by decide +kernel
theorem dX10_firstWrong_40 : decode cX10_firstWrong 40 = .ok (.iload 4, 2) := by decide +kernel
theorem dX10_firstWrong_42 : decode cX10_firstWrong 42 = .ok (.iload_n 3, 1) := by decide +kernel
theorem dX10_firstWrong_43 : decode cX10_firstWrong 43 = .ok (.if_icmp .ge 48, 3) := by decide +kernel
theorem dX10_firstWrong_46 : decode cX10_firstWrong 46 = .ok (.aload_n 0, 1) := by decide +kernel
theorem dX10_firstWrong_47 : decode cX10_firstWrong 47 = .ok (.invokevirtual 40, 3) := by decide +kernel
theorem dX10_firstWrong_50 : decode cX10_firstWrong 50 = .ok (.ifCond .ne 8, 3) := by decide +kernel
theorem dX10_firstWrong_53 : decode cX10_firstWrong 53 = .ok (.aload_n 0, 1) := by decide +kernel
theorem dX10_firstWrong_54 : decode cX10_firstWrong 54 = .ok (.getfield 22, 3) := by decide +kernel
theorem dX10_firstWrong_57 : decode cX10_firstWrong 57 = .ok (.ireturn, 1) := by decide +kernel
theorem dX10_firstWrong_58 : decode cX10_firstWrong 58 = .ok (.aload_n 0, 1) := by decide +kernel
theorem dX10_firstWrong_59 : decode cX10_firstWrong 59 = .ok (.getfield 19, 3) := by decide +kernel
theorem dX10_firstWrong_62 : decode cX10_firstWrong 62 = .ok (.ifCond .ne 5, 3) := by decide +kernel
theorem dX10_firstWrong_65 : decode cX10_firstWrong 65 = .ok (.iconst (-1), 1) := by decide +kernel
theorem dX10_firstWrong_66 : decode cX10_firstWrong 66 = .ok (.ireturn, 1) := by decide +kernel
theorem dX10_firstWrong_67 : decode cX10_firstWrong 67 = .ok (.aload_n 0, 1) := by decide +kernel
theorem dX10_firstWrong_68 : decode cX10_firstWrong 68 = .ok (.bipush 59, 2) := by decide +kernel
theorem dX10_firstWrong_70 : decode cX10_firstWrong 70 = .ok (.invokevirtual 44, 3) := by decide +kernel
theorem dX10_firstWrong_73 : decode cX10_firstWrong 73 = .ok (.ifCond .ne 8, 3) := by decide +kernel
theorem dX10_firstWrong_76 : decode cX10_firstWrong 76 = .ok (.aload_n 0, 1) := by decide +kernel
theorem dX10_firstWrong_77 : decode cX10_firstWrong 77 = .ok (.getfield 22, 3) := by decide +kernel
theorem dX10_firstWrong_80 : decode cX10_firstWrong 80 = .ok (.ireturn, 1) := by decide +kernel
theorem dX10_firstWrong_81 : decode cX10_firstWrong 81 = .ok (.aload_n 0, 1) := by decide +kernel
theorem dX10_firstWrong_82 : decode cX10_firstWrong 82 = .ok (.invokevirtual 37, 3) := by decide +kernel
theorem dX10_firstWrong_85 : decode cX10_firstWrong 85 = .ok (.iinc 4 1, 3) := by decide +kernel
theorem dX10_firstWrong_88 : decode cX10_firstWrong 88 = .ok (.goto (-48), 3) := by decide +kernel
theorem dX10_firstWrong_91 : decode cX10_firstWrong 91 = .ok (.aload_n 0, 1) := by decide +kernel
theorem dX10_firstWrong_92 : decode cX10_firstWrong 92 = .ok (.getfield 22, 3) := by decide +kernel
theorem dX10_firstWrong_95 : decode cX10_firstWrong 95 = .ok (.ireturn, 1) := by decide +kernel
theorem dX10_advance_0 : decode cX10_advance 0 = .ok (.aload_n 0, 1) := by decide +kernel
theorem dX10_advance_1 : decode cX10_advance 1 = .ok (.getfield 25, 3) := by decide +kernel
theorem dX10_advance_4 : decode cX10_advance 4 = .ok (.istore_n 1, 1) := by decide +kernel
theorem dX10_advance_5 : decode cX10_advance 5 = .ok (.iload_n 1, 1) := by decide +kernel
theorem dX10_advance_6 : decode cX10_advance 6 = .ok (.aload_n 0, 1) := by decide +kernel
theorem dX10_advance_7 : decode cX10_advance 7 = .ok (.getfield 15, 3) := by decide +kernel
theorem dX10_advance_10 : decode cX10_advance 10 = .ok (.if_icmp .ge 20, 3) := by decide +kernel
theorem dX10_advance_13 : decode cX10_advance 13 = .ok (.aload_n 0, 1) := by decide +kernel
theorem dX10_advance_14 : decode cX10_advance 14 = .ok (.getfield 9, 3) := by decide +kernel
theorem dX10_advance_17 : decode cX10_advance 17 = .ok (.iload_n 1, 1) := by decide +kernel
theorem dX10_advance_18 : decode cX10_advance 18 = .ok (.iaload, 1) := by decide +kernel
theorem dX10_advance_19 : decode cX10_advance 19 = .ok (.bipush 32, 2) := by decide +kernel
theorem dX10_advance_21 : decode cX10_advance 21 = .ok (.if_icmp .ne 9, 3) := by decide +kernel
theorem dX10_advance_24 : decode cX10_advance 24 = .ok (.iinc 1 1, 3) := by decide +kernel
theorem dX10_advance_27 : decode cX10_advance 27 = .ok (.goto (-22), 3) := by decide +kernel
theorem dX10_advance_30 : decode cX10_advance 30 = .ok (.aload_n 0, 1) := by decide +kernel
theorem dX10_advance_31 : decode cX10_advance 31 = .ok (.iload_n 1, 1) := by decide +kernel
theorem dX10_advance_32 : decode cX10_advance 32 = .ok (.putfield 22, 3) := by decide +kernel
theorem dX10_advance_35 : decode cX10_advance 35 = .ok (.aload_n 0, 1) := by decide +kernel
theorem dX10_advance_36 : decode cX10_advance 36 = .ok (.aload_n 0, 1) := by decide +kernel
theorem dX10_advance_37 : decode cX10_advance 37 = .ok (.iload_n 1, 1) := by decide +kernel
theorem dX10_advance_38 : decode cX10_advance 38 = .ok (.invokevirtual 48, 3) := by decide +kernel
theorem dX10_advance_41 : decode cX10_advance 41 = .ok (.putfield 19, 3) := by decide +kernel
theorem dX10_advance_44 : decode cX10_advance 44 = .ok (.aload_n 0, 1) := by decide +kernel
theorem dX10_advance_45 : decode cX10_advance 45 = .ok (.getfield 19, 3) := by decide +kernel
theorem dX10_advance_48 : decode cX10_advance 48 = .ok (.ifCond .eq 6, 3) := by decide +kernel
theorem dX10_advance_51 : decode cX10_advance 51 = .ok (.iinc 1 1, 3) := by decide +kernel
theorem dX10_advance_54 : decode cX10_advance 54 = .ok (.iload_n 1, 1) := by decide +kernel
theorem dX10_advance_55 : decode cX10_advance 55 = .ok (.aload_n 0, 1) := by decide +kernel
theorem dX10_advance_56 : decode cX10_advance 56 = .ok (.getfield 15, 3) := by decide +kernel
theorem dX10_advance_59 : decode cX10_advance 59 = .ok (.if_icmp .ge 29, 3) := by decide +kernel
theorem dX10_advance_62 : decode cX10_advance 62 = .ok (.aload_n 0, 1) := by decide +kernel
theorem dX10_advance_63 : decode cX10_advance 63 = .ok (.getfield 19, 3) := by decide +kernel
theorem dX10_advance_66 : decode cX10_advance 66 = .ok (.iconst 3, 1) := by decide +kernel
theorem dX10_advance_67 : decode cX10_advance 67 = .ok (.if_icmp .eq 21, 3) := by decide +kernel
theorem dX10_advance_70 : decode cX10_advance 70 = .ok (.aload_n 0, 1) := by decide +kernel
theorem dX10_advance_71 : decode cX10_advance 71 = .ok (.iload_n 1, 1) := by decide +kernel
theorem dX10_advance_72 : decode cX10_advance 72 = .ok (.invokevirtual 48, 3) := by decide +kernel
theorem dX10_advance_75 : decode cX10_advance 75 = .ok (.aload_n 0, 1) := by decide +kernel
theorem dX10_advance_76 : decode cX10_advance 76 = .ok (.getfield 19, 3) := by decide +kernel
theorem dX10_advance_79 : decode cX10_advance 79 = .ok (.if_icmp .ne 9, 3) := by decide +kernel
theorem dX10_advance_82 : decode cX10_advance 82 = .ok (.iinc 1 1, 3) := by decide +kernel
theorem dX10_advance_85 : decode cX10_advance 85 = .ok (.goto (-31), 3) := by decide +kernel
theorem dX10_advance_88 : decode cX10_advance 88 = .ok (.aload_n 0, 1) := by decide +kernel
theorem dX10_advance_89 : decode cX10_advance 89 = .ok (.iload_n 1, 1) := by decide +kernel
theorem dX10_advance_90 : decode cX10_advance 90 = .ok (.putfield 25, 3) := by decide +kernel
theorem dX10_advance_93 : decode cX10_advance 93 = .ok (.return_, 1) := by decide +kernel
theorem dX10_kindAt_0 : decode cX10_kindAt 0 = .ok (.iload_n 1, 1) := by decide +kernel
theorem dX10_kindAt_1 : decode cX10_kindAt 1 = .ok (.ifCond .lt 11, 3) := by decide +kernel
theorem dX10_kindAt_4 : decode cX10_kindAt 4 = .ok (.iload_n 1, 1) := by decide +kernel
theorem dX10_kindAt_5 : decode cX10_kindAt 5 = .ok (.aload_n 0, 1) := by decide +kernel
theorem dX10_kindAt_6 : decode cX10_kindAt 6 = .ok (.getfield 15, 3) := by decide +kernel
theorem dX10_kindAt_9 : decode cX10_kindAt 9 = .ok (.if_icmp .lt 5, 3) := by decide +kernel
theorem dX10_kindAt_12 : decode cX10_kindAt 12 = .ok (.iconst 0, 1) := by decide +kernel
theorem dX10_kindAt_13 : decode cX10_kindAt 13 = .ok (.ireturn, 1) := by decide +kernel
theorem dX10_kindAt_14 : decode cX10_kindAt 14 = .ok (.aload_n 0, 1) := by decide +kernel
theorem dX10_kindAt_15 : decode cX10_kindAt 15 = .ok (.getfield 9, 3) := by decide +kernel
theorem dX10_kindAt_18 : decode cX10_kindAt 18 = .ok (.iload_n 1, 1) := by decide +kernel
theorem dX10_kindAt_19 : decode cX10_kindAt 19 = .ok (.iaload, 1) := by decide +kernel
theorem dX10_kindAt_20 : decode cX10_kindAt 20 = .ok (.bipush 97, 2) := by decide +kernel
theorem dX10_kindAt_22 : decode cX10_kindAt 22 = .ok (.if_icmp .lt 16, 3) := by decide +kernel
theorem dX10_kindAt_25 : decode cX10_kindAt 25 = .ok (.aload_n 0, 1) := by decide +kernel
theorem dX10_kindAt_26 : decode cX10_kindAt 26 = .ok (.getfield 9, 3) := by decide +kernel
theorem dX10_kindAt_29 : decode cX10_kindAt 29 = .ok (.iload_n 1, 1) := by decide +kernel
theorem dX10_kindAt_30 : decode cX10_kindAt 30 = .ok (.iaload, 1) := by decide +kernel
theorem dX10_kindAt_31 : decode cX10_kindAt 31 = .ok (.bipush 122, 2) := by decide +kernel
theorem dX10_kindAt_33 : decode cX10_kindAt 33 = .ok (.if_icmp .gt 5, 3) := by decide +kernel
theorem dX10_kindAt_36 : decode cX10_kindAt 36 = .ok (.iconst 1, 1) := by decide +kernel
theorem dX10_kindAt_37 : decode cX10_kindAt 37 = .ok (.ireturn, 1) := by decide +kernel
theorem dX10_kindAt_38 : decode cX10_kindAt 38 = .ok (.aload_n 0, 1) := by decide +kernel
theorem dX10_kindAt_39 : decode cX10_kindAt 39 = .ok (.getfield 9, 3) := by decide +kernel
theorem dX10_kindAt_42 : decode cX10_kindAt 42 = .ok (.iload_n 1, 1) := by decide +kernel
theorem dX10_kindAt_43 : decode cX10_kindAt 43 = .ok (.iaload, 1) := by decide +kernel
theorem dX10_kindAt_44 : decode cX10_kindAt 44 = .ok (.bipush 48, 2) := by decide +kernel
theorem dX10_kindAt_46 : decode cX10_kindAt 46 = .ok (.if_icmp .lt 18, 3) := by decide +kernel
theorem dX10_kindAt_49 : decode cX10_kindAt 49 = .ok (.aload_n 0, 1) := by decide +kernel
theorem dX10_kindAt_50 : decode cX10_kindAt 50 = .ok (.getfield 9, 3) := by decide +kernel
theorem dX10_kindAt_53 : decode cX10_kindAt 53 = .ok (.iload_n 1, 1) := by decide +kernel
theorem dX10_kindAt_54 : decode cX10_kindAt 54 = .ok (.iaload, 1) := by decide +kernel
theorem dX10_kindAt_55 : decode cX10_kindAt 55 = .ok (.bipush 57, 2) := by decide +kernel
theorem dX10_kindAt_57 : decode cX10_kindAt 57 = .ok (.if_icmp .gt 7, 3) := by decide +kernel
theorem dX10_kindAt_60 : decode cX10_kindAt 60 = .ok (.iconst 2, 1) := by decide +kernel
theorem dX10_kindAt_61 : decode cX10_kindAt 61 = .ok (.goto 4, 3) := by decide +kernel
theorem dX10_kindAt_64 : decode cX10_kindAt 64 = .ok (.iconst 3, 1) := by decide +kernel
theorem dX10_kindAt_65 : decode cX10_kindAt 65 = .ok (.ireturn, 1) := by decide +kernel
theorem dX10_isSign_0 : decode cX10_isSign 0 = .ok (.aload_n 0, 1) := by decide +kernel
theorem dX10_isSign_1 : decode cX10_isSign 1 = .ok (.getfield 19, 3) := by decide +kernel
theorem dX10_isSign_4 : decode cX10_isSign 4 = .ok (.iconst 3, 1) := by decide +kernel
theorem dX10_isSign_5 : decode cX10_isSign 5 = .ok (.if_icmp .ne 31, 3) := by decide +kernel
theorem dX10_isSign_8 : decode cX10_isSign 8 = .ok (.aload_n 0, 1) := by decide +kernel
theorem dX10_isSign_9 : decode cX10_isSign 9 = .ok (.getfield 22, 3) := by decide +kernel
theorem dX10_isSign_12 : decode cX10_isSign 12 = .ok (.aload_n 0, 1) := by decide +kernel
theorem dX10_isSign_13 : decode cX10_isSign 13 = .ok (.getfield 15, 3) := by decide +kernel
theorem dX10_isSign_16 : decode cX10_isSign 16 = .ok (.if_icmp .ge 20, 3) := by decide +kernel
theorem dX10_isSign_19 : decode cX10_isSign 19 = .ok (.aload_n 0, 1) := by decide +kernel
theorem dX10_isSign_20 : decode cX10_isSign 20 = .ok (.getfield 9, 3) := by decide +kernel
theorem dX10_isSign_23 : decode cX10_isSign 23 = .ok (.aload_n 0, 1) := by decide +kernel
theorem dX10_isSign_24 : decode cX10_isSign 24 = .ok (.getfield 22, 3) := by decide +kernel
theorem dX10_isSign_27 : decode cX10_isSign 27 = .ok (.iaload, 1) := by decide +kernel
theorem dX10_isSign_28 : decode cX10_isSign 28 = .ok (.iload_n 1, 1) := by decide +kernel
theorem dX10_isSign_29 : decode cX10_isSign 29 = .ok (.if_icmp .ne 7, 3) := by decide +kernel
theorem dX10_isSign_32 : decode cX10_isSign 32 = .ok (.iconst 1, 1) := by decide +kernel
theorem dX10_isSign_33 : decode cX10_isSign 33 = .ok (.goto 4, 3) := by decide +kernel
theorem dX10_isSign_36 : decode cX10_isSign 36 = .ok (.iconst 0, 1) := by decide +kernel
theorem dX10_isSign_37 : decode cX10_isSign 37 = .ok (.ireturn, 1) := by decide +kernel
theorem dX10_isWord_0 : decode cX10_isWord 0 = .ok (.aload_n 0, 1) := by decide +kernel
theorem dX10_isWord_1 : decode cX10_isWord 1 = .ok (.getfield 19, 3) := by decide +kernel
theorem dX10_isWord_4 : decode cX10_isWord 4 = .ok (.iconst 1, 1) := by decide +kernel
theorem dX10_isWord_5 : decode cX10_isWord 5 = .ok (.if_icmp .ne 19, 3) := by decide +kernel
theorem dX10_isWord_8 : decode cX10_isWord 8 = .ok (.aload_n 0, 1) := by decide +kernel
theorem dX10_isWord_9 : decode cX10_isWord 9 = .ok (.getfield 25, 3) := by decide +kernel
theorem dX10_isWord_12 : decode cX10_isWord 12 = .ok (.aload_n 0, 1) := by decide +kernel
theorem dX10_isWord_13 : decode cX10_isWord 13 = .ok (.getfield 22, 3) := by decide +kernel
theorem dX10_isWord_16 : decode cX10_isWord 16 = .ok (.isub, 1) := by decide +kernel
theorem dX10_isWord_17 : decode cX10_isWord 17 = .ok (.aload_n 1, 1) := by decide +kernel
theorem dX10_isWord_18 : decode cX10_isWord 18 = .ok (.invokevirtual 52, 3) := by decide +kernel
theorem dX10_isWord_21 : decode cX10_isWord 21 = .ok (.if_icmp .eq 5, 3) := by decide +kernel
theorem dX10_isWord_24 : decode cX10_isWord 24 = .ok (.iconst 0, 1) := by decide +kernel
theorem dX10_isWord_25 : decode cX10_isWord 25 = .ok (.ireturn, 1) := by decide +kernel
theorem dX10_isWord_26 : decode cX10_isWord 26 = .ok (.iconst 0, 1) := by decide +kernel
theorem dX10_isWord_27 : decode cX10_isWord 27 = .ok (.istore_n 2, 1) := by decide +kernel
theorem dX10_isWord_28 : decode cX10_isWord 28 = .ok (.iload_n 2, 1) := by decide +kernel
theorem dX10_isWord_29 : decode cX10_isWord 29 = .ok (.aload_n 1, 1) := by decide +kernel
theorem dX10_isWord_30 : decode cX10_isWord 30 = .ok (.invokevirtual 52, 3) := by decide +kernel
theorem dX10_isWord_33 : decode cX10_isWord 33 = .ok (.if_icmp .ge 43, 3) := by decide +kernel
theorem dX10_isWord_36 : decode cX10_isWord 36 = .ok (.aload_n 0, 1) := by decide +kernel
theorem dX10_isWord_37 : decode cX10_isWord 37 = .ok (.getfield 22, 3) := by decide +kernel
theorem dX10_isWord_40 : decode cX10_isWord 40 = .ok (.iload_n 2, 1) := by decide +kernel
theorem dX10_isWord_41 : decode cX10_isWord 41 = .ok (.iadd, 1) := by decide +kernel
theorem dX10_isWord_42 : decode cX10_isWord 42 = .ok (.aload_n 0, 1) := by decide +kernel
theorem dX10_isWord_43 : decode cX10_isWord 43 = .ok (.getfield 15, 3) := by decide +kernel
theorem dX10_isWord_46 : decode cX10_isWord 46 = .ok (.if_icmp .ge 30, 3) := by decide +kernel
theorem dX10_isWord_49 : decode cX10_isWord 49 = .ok (.aload_n 0, 1) := by decide +kernel
theorem dX10_isWord_50 : decode cX10_isWord 50 = .ok (.getfield 9, 3) := by decide +kernel
theorem dX10_isWord_53 : decode cX10_isWord 53 = .ok (.aload_n 0, 1) := by decide +kernel
theorem dX10_isWord_54 : decode cX10_isWord 54 = .ok (.getfield 22, 3) := by decide +kernel
theorem dX10_isWord_57 : decode cX10_isWord 57 = .ok (.iload_n 2, 1) := by decide +kernel
theorem dX10_isWord_58 : decode cX10_isWord 58 = .ok (.iadd, 1) := by decide +kernel
theorem dX10_isWord_59 : decode cX10_isWord 59 = .ok (.iaload, 1) := by decide +kernel
theorem dX10_isWord_60 : decode cX10_isWord 60 = .ok (.aload_n 1, 1) := by decide +kernel
theorem dX10_isWord_61 : decode cX10_isWord 61 = .ok (.iload_n 2, 1) := by decide +kernel
theorem dX10_isWord_62 : decode cX10_isWord 62 = .ok (.invokevirtual 57, 3) := by decide +kernel
theorem dX10_isWord_65 : decode cX10_isWord 65 = .ok (.if_icmp .eq 5, 3) := by decide +kernel
theorem dX10_isWord_68 : decode cX10_isWord 68 = .ok (.iconst 0, 1) := by decide +kernel
theorem dX10_isWord_69 : decode cX10_isWord 69 = .ok (.ireturn, 1) := by decide +kernel
theorem dX10_isWord_70 : decode cX10_isWord 70 = .ok (.iinc 2 1, 3) := by decide +kernel
theorem dX10_isWord_73 : decode cX10_isWord 73 = .ok (.goto (-45), 3) := by decide +kernel
theorem dX10_isWord_76 : decode cX10_isWord 76 = .ok (.iconst 1, 1) := by decide +kernel
theorem dX10_isWord_77 : decode cX10_isWord 77 = .ok (.ireturn, 1) := by decide +kernel
theorem dX10_isFigures_0 : decode cX10_isFigures 0 = .ok (.aload_n 0, 1) := by decide +kernel
theorem dX10_isFigures_1 : decode cX10_isFigures 1 = .ok (.getfield 19, 3) := by decide +kernel
theorem dX10_isFigures_4 : decode cX10_isFigures 4 = .ok (.iconst 2, 1) := by decide +kernel
theorem dX10_isFigures_5 : decode cX10_isFigures 5 = .ok (.if_icmp .ne 20, 3) := by decide +kernel
theorem dX10_isFigures_8 : decode cX10_isFigures 8 = .ok (.aload_n 0, 1) := by decide +kernel
theorem dX10_isFigures_9 : decode cX10_isFigures 9 = .ok (.getfield 25, 3) := by decide +kernel
theorem dX10_isFigures_12 : decode cX10_isFigures 12 = .ok (.aload_n 0, 1) := by decide +kernel
theorem dX10_isFigures_13 : decode cX10_isFigures 13 = .ok (.getfield 22, 3) := by decide +kernel
theorem dX10_isFigures_16 : decode cX10_isFigures 16 = .ok (.isub, 1) := by decide +kernel
theorem dX10_isFigures_17 : decode cX10_isFigures 17 = .ok (.iload_n 1, 1) := by decide +kernel
theorem dX10_isFigures_18 : decode cX10_isFigures 18 = .ok (.if_icmp .ne 7, 3) := by decide +kernel
theorem dX10_isFigures_21 : decode cX10_isFigures 21 = .ok (.iconst 1, 1) := by decide +kernel
theorem dX10_isFigures_22 : decode cX10_isFigures 22 = .ok (.goto 4, 3) := by decide +kernel
theorem dX10_isFigures_25 : decode cX10_isFigures 25 = .ok (.iconst 0, 1) := by decide +kernel
theorem dX10_isFigures_26 : decode cX10_isFigures 26 = .ok (.ireturn, 1) := by decide +kernel
theorem dX10_figure_0 : decode cX10_figure 0 = .ok (.iload_n 1, 1) := by decide +kernel
theorem dX10_figure_1 : decode cX10_figure 1 = .ok (.ifCond .lt 33, 3) := by decide +kernel
theorem dX10_figure_4 : decode cX10_figure 4 = .ok (.aload_n 0, 1) := by decide +kernel
theorem dX10_figure_5 : decode cX10_figure 5 = .ok (.getfield 22, 3) := by decide +kernel
theorem dX10_figure_8 : decode cX10_figure 8 = .ok (.iload_n 1, 1) := by decide +kernel
theorem dX10_figure_9 : decode cX10_figure 9 = .ok (.iadd, 1) := by decide +kernel
theorem dX10_figure_10 : decode cX10_figure 10 = .ok (.aload_n 0, 1) := by decide +kernel
theorem dX10_figure_11 : decode cX10_figure 11 = .ok (.getfield 15, 3) := by decide +kernel
theorem dX10_figure_14 : decode cX10_figure 14 = .ok (.if_icmp .ge 20, 3) := by decide +kernel
theorem dX10_figure_17 : decode cX10_figure 17 = .ok (.aload_n 0, 1) := by decide +kernel
theorem dX10_figure_18 : decode cX10_figure 18 = .ok (.getfield 9, 3) := by decide +kernel
theorem dX10_figure_21 : decode cX10_figure 21 = .ok (.aload_n 0, 1) := by decide +kernel
theorem dX10_figure_22 : decode cX10_figure 22 = .ok (.getfield 22, 3) := by decide +kernel
theorem dX10_figure_25 : decode cX10_figure 25 = .ok (.iload_n 1, 1) := by decide +kernel
theorem dX10_figure_26 : decode cX10_figure 26 = .ok (.iadd, 1) := by decide +kernel
theorem dX10_figure_27 : decode cX10_figure 27 = .ok (.iaload, 1) := by decide +kernel
theorem dX10_figure_28 : decode cX10_figure 28 = .ok (.bipush 48, 2) := by decide +kernel
theorem dX10_figure_30 : decode cX10_figure 30 = .ok (.isub, 1) := by decide +kernel
theorem dX10_figure_31 : decode cX10_figure 31 = .ok (.goto 4, 3) := by decide +kernel
theorem dX10_figure_34 : decode cX10_figure 34 = .ok (.iconst 0, 1) := by decide +kernel
theorem dX10_figure_35 : decode cX10_figure 35 = .ok (.ireturn, 1) := by decide +kernel
theorem dX10_number_0 : decode cX10_number 0 = .ok (.aload_n 0, 1) := by decide +kernel
theorem dX10_number_1 : decode cX10_number 1 = .ok (.getfield 19, 3) := by decide +kernel
theorem dX10_number_4 : decode cX10_number 4 = .ok (.iconst 2, 1) := by decide +kernel
theorem dX10_number_5 : decode cX10_number 5 = .ok (.if_icmp .ne 16, 3) := by decide +kernel
theorem dX10_number_8 : decode cX10_number 8 = .ok (.aload_n 0, 1) := by decide +kernel
theorem dX10_number_9 : decode cX10_number 9 = .ok (.getfield 25, 3) := by decide +kernel
theorem dX10_number_12 : decode cX10_number 12 = .ok (.aload_n 0, 1) := by decide +kernel
theorem dX10_number_13 : decode cX10_number 13 = .ok (.getfield 22, 3) := by decide +kernel
theorem dX10_number_16 : decode cX10_number 16 = .ok (.isub, 1) := by decide +kernel
theorem dX10_number_17 : decode cX10_number 17 = .ok (.iconst 3, 1) := by decide +kernel
theorem dX10_number_18 : decode cX10_number 18 = .ok (.if_icmp .le 5, 3) := by decide +kernel
theorem dX10_number_21 : decode cX10_number 21 = .ok (.iconst (-1), 1) := by decide +kernel
theorem dX10_number_22 : decode cX10_number 22 = .ok (.ireturn, 1) := by decide +kernel
theorem dX10_number_23 : decode cX10_number 23 = .ok (.iconst 0, 1) := by decide +kernel
theorem dX10_number_24 : decode cX10_number 24 = .ok (.istore_n 3, 1) := by decide +kernel
theorem dX10_number_25 : decode cX10_number 25 = .ok (.aload_n 0, 1) := by decide +kernel
theorem dX10_number_26 : decode cX10_number 26 = .ok (.getfield 22, 3) := by decide +kernel
theorem dX10_number_29 : decode cX10_number 29 = .ok (.istore 4, 2) := by decide +kernel
theorem dX10_number_31 : decode cX10_number 31 = .ok (.iload 4, 2) := by decide +kernel
theorem dX10_number_33 : decode cX10_number 33 = .ok (.aload_n 0, 1) := by decide +kernel
theorem dX10_number_34 : decode cX10_number 34 = .ok (.getfield 25, 3) := by decide +kernel
theorem dX10_number_37 : decode cX10_number 37 = .ok (.if_icmp .ge 34, 3) := by decide +kernel
theorem dX10_number_40 : decode cX10_number 40 = .ok (.iload 4, 2) := by decide +kernel
theorem dX10_number_42 : decode cX10_number 42 = .ok (.aload_n 0, 1) := by decide +kernel
theorem dX10_number_43 : decode cX10_number 43 = .ok (.getfield 15, 3) := by decide +kernel
theorem dX10_number_46 : decode cX10_number 46 = .ok (.if_icmp .ge 25, 3) := by decide +kernel
theorem dX10_number_49 : decode cX10_number 49 = .ok (.iload_n 3, 1) := by decide +kernel
theorem dX10_number_50 : decode cX10_number 50 = .ok (.bipush 10, 2) := by decide +kernel
theorem dX10_number_52 : decode cX10_number 52 = .ok (.imul, 1) := by decide +kernel
theorem dX10_number_53 : decode cX10_number 53 = .ok (.aload_n 0, 1) := by decide +kernel
theorem dX10_number_54 : decode cX10_number 54 = .ok (.getfield 9, 3) := by decide +kernel
theorem dX10_number_57 : decode cX10_number 57 = .ok (.iload 4, 2) := by decide +kernel
theorem dX10_number_59 : decode cX10_number 59 = .ok (.iaload, 1) := by decide +kernel
theorem dX10_number_60 : decode cX10_number 60 = .ok (.iadd, 1) := by decide +kernel
theorem dX10_number_61 : decode cX10_number 61 = .ok (.bipush 48, 2) := by decide +kernel
theorem dX10_number_63 : decode cX10_number 63 = .ok (.isub, 1) := by decide +kernel
theorem dX10_number_64 : decode cX10_number 64 = .ok (.istore_n 3, 1) := by decide +kernel
theorem dX10_number_65 : decode cX10_number 65 = .ok (.iinc 4 1, 3) := by decide +kernel
theorem dX10_number_68 : decode cX10_number 68 = .ok (.goto (-37), 3) := by decide +kernel
theorem dX10_number_71 : decode cX10_number 71 = .ok (.iload_n 3, 1) := by decide +kernel
theorem dX10_number_72 : decode cX10_number 72 = .ok (.iload_n 1, 1) := by decide +kernel
theorem dX10_number_73 : decode cX10_number 73 = .ok (.if_icmp .lt 12, 3) := by decide +kernel
theorem dX10_number_76 : decode cX10_number 76 = .ok (.iload_n 3, 1) := by decide +kernel
theorem dX10_number_77 : decode cX10_number 77 = .ok (.iload_n 2, 1) := by decide +kernel
theorem dX10_number_78 : decode cX10_number 78 = .ok (.if_icmp .gt 7, 3) := by decide +kernel
theorem dX10_number_81 : decode cX10_number 81 = .ok (.iload_n 3, 1) := by decide +kernel
theorem dX10_number_82 : decode cX10_number 82 = .ok (.goto 4, 3) := by decide +kernel
theorem dX10_number_85 : decode cX10_number 85 = .ok (.iconst (-1), 1) := by decide +kernel
theorem dX10_number_86 : decode cX10_number 86 = .ok (.ireturn, 1) := by decide +kernel
theorem dX10_numberBehind_0 : decode cX10_numberBehind 0 = .ok (.aload_n 0, 1) := by decide +kernel
theorem dX10_numberBehind_1 : decode cX10_numberBehind 1 = .ok (.invokevirtual 37, 3) := by decide +kernel
theorem dX10_numberBehind_4 : decode cX10_numberBehind 4 = .ok (.aload_n 0, 1) := by decide +kernel
theorem dX10_numberBehind_5 : decode cX10_numberBehind 5 = .ok (.iload_n 1, 1) := by decide +kernel
theorem dX10_numberBehind_6 : decode cX10_numberBehind 6 = .ok (.iload_n 2, 1) := by decide +kernel
theorem dX10_numberBehind_7 : decode cX10_numberBehind 7 = .ok (.invokevirtual 61, 3) := by decide +kernel
theorem dX10_numberBehind_10 : decode cX10_numberBehind 10 = .ok (.istore_n 3, 1) := by decide +kernel
theorem dX10_numberBehind_11 : decode cX10_numberBehind 11 = .ok (.iload_n 3, 1) := by decide +kernel
theorem dX10_numberBehind_12 : decode cX10_numberBehind 12 = .ok (.iconst (-1), 1) := by decide +kernel
theorem dX10_numberBehind_13 : decode cX10_numberBehind 13 = .ok (.if_icmp .eq 7, 3) := by decide +kernel
theorem dX10_numberBehind_16 : decode cX10_numberBehind 16 = .ok (.aload_n 0, 1) := by decide +kernel
theorem dX10_numberBehind_17 : decode cX10_numberBehind 17 = .ok (.invokevirtual 37, 3) := by decide +kernel
theorem dX10_numberBehind_20 : decode cX10_numberBehind 20 = .ok (.iload_n 3, 1) := by decide +kernel
theorem dX10_numberBehind_21 : decode cX10_numberBehind 21 = .ok (.ireturn, 1) := by decide +kernel
theorem dJ6_bitCount_0f7a4_0 : decode cJ6_bitCount_0f7a4 0 = .ok (.iload_n 0, 1) := by decide +kernel
theorem dJ6_bitCount_0f7a4_1 : decode cJ6_bitCount_0f7a4 1 = .ok (.iload_n 0, 1) := by decide +kernel
theorem dJ6_bitCount_0f7a4_2 : decode cJ6_bitCount_0f7a4 2 = .ok (.iconst 1, 1) := by decide +kernel
theorem dJ6_bitCount_0f7a4_3 : decode cJ6_bitCount_0f7a4 3 = .ok (.iushr, 1) := by decide +kernel
theorem dJ6_bitCount_0f7a4_4 : decode cJ6_bitCount_0f7a4 4 = .ok (.ldc_w 265, 3) := by decide +kernel
theorem dJ6_bitCount_0f7a4_7 : decode cJ6_bitCount_0f7a4 7 = .ok (.iand, 1) := by decide +kernel
theorem dJ6_bitCount_0f7a4_8 : decode cJ6_bitCount_0f7a4 8 = .ok (.isub, 1) := by decide +kernel
theorem dJ6_bitCount_0f7a4_9 : decode cJ6_bitCount_0f7a4 9 = .ok (.istore_n 0, 1) := by decide +kernel
theorem dJ6_bitCount_0f7a4_10 : decode cJ6_bitCount_0f7a4 10 = .ok (.iload_n 0, 1) := by decide +kernel
theorem dJ6_bitCount_0f7a4_11 : decode cJ6_bitCount_0f7a4 11 = .ok (.ldc_w 266, 3) := by decide +kernel
theorem dJ6_bitCount_0f7a4_14 : decode cJ6_bitCount_0f7a4 14 = .ok (.iand, 1) := by decide +kernel
theorem dJ6_bitCount_0f7a4_15 : decode cJ6_bitCount_0f7a4 15 = .ok (.iload_n 0, 1) := by decide +kernel
theorem dJ6_bitCount_0f7a4_16 : decode cJ6_bitCount_0f7a4 16 = .ok (.iconst 2, 1) := by decide +kernel
theorem dJ6_bitCount_0f7a4_17 : decode cJ6_bitCount_0f7a4 17 = .ok (.iushr, 1) := by decide +kernel
theorem dJ6_bitCount_0f7a4_18 : decode cJ6_bitCount_0f7a4 18 = .ok (.ldc_w 266, 3) := by decide +kernel
theorem dJ6_bitCount_0f7a4_21 : decode cJ6_bitCount_0f7a4 21 = .ok (.iand, 1) := by decide +kernel
theorem dJ6_bitCount_0f7a4_22 : decode cJ6_bitCount_0f7a4 22 = .ok (.iadd, 1) := by decide +kernel
theorem dJ6_bitCount_0f7a4_23 : decode cJ6_bitCount_0f7a4 23 = .ok (.istore_n 0, 1) := by decide +kernel
theorem dJ6_bitCount_0f7a4_24 : decode cJ6_bitCount_0f7a4 24 = .ok (.iload_n 0, 1) := by decide +kernel
theorem dJ6_bitCount_0f7a4_25 : decode cJ6_bitCount_0f7a4 25 = .ok (.iload_n 0, 1) := by decide +kernel
theorem dJ6_bitCount_0f7a4_26 : decode cJ6_bitCount_0f7a4 26 = .ok (.iconst 4, 1) := by decide +kernel
theorem dJ6_bitCount_0f7a4_27 : decode cJ6_bitCount_0f7a4 27 = .ok (.iushr, 1) := by decide +kernel
theorem dJ6_bitCount_0f7a4_28 : decode cJ6_bitCount_0f7a4 28 = .ok (.iadd, 1) := by decide +kernel
theorem dJ6_bitCount_0f7a4_29 : decode cJ6_bitCount_0f7a4 29 = .ok (.ldc_w 267, 3) := by decide +kernel
theorem dJ6_bitCount_0f7a4_32 : decode cJ6_bitCount_0f7a4 32 = .ok (.iand, 1) := by decide +kernel
theorem dJ6_bitCount_0f7a4_33 : decode cJ6_bitCount_0f7a4 33 = .ok (.istore_n 0, 1) := by decide +kernel
theorem dJ6_bitCount_0f7a4_34 : decode cJ6_bitCount_0f7a4 34 = .ok (.iload_n 0, 1) := by decide +kernel
theorem dJ6_bitCount_0f7a4_35 : decode cJ6_bitCount_0f7a4 35 = .ok (.iload_n 0, 1) := by decide +kernel
theorem dJ6_bitCount_0f7a4_36 : decode cJ6_bitCount_0f7a4 36 = .ok (.bipush 8, 2) := by decide +kernel
theorem dJ6_bitCount_0f7a4_38 : decode cJ6_bitCount_0f7a4 38 = .ok (.iushr, 1) := by decide +kernel
theorem dJ6_bitCount_0f7a4_39 : decode cJ6_bitCount_0f7a4 39 = .ok (.iadd, 1) := by decide +kernel
theorem dJ6_bitCount_0f7a4_40 : decode cJ6_bitCount_0f7a4 40 = .ok (.istore_n 0, 1) := by decide +kernel
theorem dJ6_bitCount_0f7a4_41 : decode cJ6_bitCount_0f7a4 41 = .ok (.iload_n 0, 1) := by decide +kernel
theorem dJ6_bitCount_0f7a4_42 : decode cJ6_bitCount_0f7a4 42 = .ok (.iload_n 0, 1) := by decide +kernel
theorem dJ6_bitCount_0f7a4_43 : decode cJ6_bitCount_0f7a4 43 = .ok (.bipush 16, 2) := by decide +kernel
theorem dJ6_bitCount_0f7a4_45 : decode cJ6_bitCount_0f7a4 45 = .ok (.iushr, 1) := by decide +kernel
theorem dJ6_bitCount_0f7a4_46 : decode cJ6_bitCount_0f7a4 46 = .ok (.iadd, 1) := by decide +kernel
theorem dJ6_bitCount_0f7a4_47 : decode cJ6_bitCount_0f7a4 47 = .ok (.istore_n 0, 1) := by decide +kernel
theorem dJ6_bitCount_0f7a4_48 : decode cJ6_bitCount_0f7a4 48 = .ok (.iload_n 0, 1) := by decide +kernel
theorem dJ6_bitCount_0f7a4_49 : decode cJ6_bitCount_0f7a4 49 = .ok (.bipush 63, 2) := by decide +kernel
theorem dJ6_bitCount_0f7a4_51 : decode cJ6_bitCount_0f7a4 51 = .ok (.iand, 1) := by decide +kernel
theorem dJ6_bitCount_0f7a4_52 : decode cJ6_bitCount_0f7a4 52 = .ok (.ireturn, 1) := by decide +kernel
theorem dJ9_abs_0f7a4_0 : decode cJ9_abs_0f7a4 0 = .ok (.iload_n 0, 1) := by decide +kernel
theorem dJ9_abs_0f7a4_1 : decode cJ9_abs_0f7a4 1 = .ok (.ifCond .ge 8, 3) := by decide +kernel
theorem dJ9_abs_0f7a4_4 : decode cJ9_abs_0f7a4 4 = .ok (.iload_n 0, 1) := by decide +kernel
theorem dJ9_abs_0f7a4_5 : decode cJ9_abs_0f7a4 5 = .ok (.ineg, 1) := by decide +kernel
theorem dJ9_abs_0f7a4_6 : decode cJ9_abs_0f7a4 6 = .ok (.goto 4, 3) := by decide +kernel
theorem dJ9_abs_0f7a4_9 : decode cJ9_abs_0f7a4 9 = .ok (.iload_n 0, 1) := by decide +kernel
theorem dJ9_abs_0f7a4_10 : decode cJ9_abs_0f7a4 10 = .ok (.ireturn, 1) := by decide +kernel
theorem dJ9_max_7cf53_0 : decode cJ9_max_7cf53 0 = .ok (.iload_n 0, 1) := by decide +kernel
theorem dJ9_max_7cf53_1 : decode cJ9_max_7cf53 1 = .ok (.iload_n 1, 1) := by decide +kernel
theorem dJ9_max_7cf53_2 : decode cJ9_max_7cf53 2 = .ok (.if_icmp .lt 7, 3) := by decide +kernel
theorem dJ9_max_7cf53_5 : decode cJ9_max_7cf53 5 = .ok (.iload_n 0, 1) := by decide +kernel
theorem dJ9_max_7cf53_6 : decode cJ9_max_7cf53 6 = .ok (.goto 4, 3) := by decide +kernel
theorem dJ9_max_7cf53_9 : decode cJ9_max_7cf53 9 = .ok (.iload_n 1, 1) := by decide +kernel
theorem dJ9_max_7cf53_10 : decode cJ9_max_7cf53 10 = .ok (.ireturn, 1) := by decide +kernel
theorem dJ9_min_7cf53_0 : decode cJ9_min_7cf53 0 = .ok (.iload_n 0, 1) := by decide +kernel
theorem dJ9_min_7cf53_1 : decode cJ9_min_7cf53 1 = .ok (.iload_n 1, 1) := by decide +kernel
theorem dJ9_min_7cf53_2 : decode cJ9_min_7cf53 2 = .ok (.if_icmp .gt 7, 3) := by decide +kernel
theorem dJ9_min_7cf53_5 : decode cJ9_min_7cf53 5 = .ok (.iload_n 0, 1) := by decide +kernel
theorem dJ9_min_7cf53_6 : decode cJ9_min_7cf53 6 = .ok (.goto 4, 3) := by decide +kernel
theorem dJ9_min_7cf53_9 : decode cJ9_min_7cf53 9 = .ok (.iload_n 1, 1) := by decide +kernel
theorem dJ9_min_7cf53_10 : decode cJ9_min_7cf53 10 = .ok (.ireturn, 1) := by decide +kernel
theorem dJ0_length_8abf5_0 : decode cJ0_length_8abf5 0 = .ok (.aload_n 0, 1) := by decide +kernel
theorem dJ0_length_8abf5_1 : decode cJ0_length_8abf5 1 = .ok (.getfield 9, 3) := by decide +kernel
theorem dJ0_length_8abf5_4 : decode cJ0_length_8abf5 4 = .ok (.arraylength, 1) := by decide +kernel
theorem dJ0_length_8abf5_5 : decode cJ0_length_8abf5 5 = .ok (.aload_n 0, 1) := by decide +kernel
theorem dJ0_length_8abf5_6 : decode cJ0_length_8abf5 6 = .ok (.invokevirtual 335, 3) := by decide +kernel
theorem dJ0_length_8abf5_9 : decode cJ0_length_8abf5 9 = .ok (.ishr, 1) := by decide +kernel
theorem dJ0_length_8abf5_10 : decode cJ0_length_8abf5 10 = .ok (.ireturn, 1) := by decide +kernel
theorem dJ0_charAt_5068e_0 : decode cJ0_charAt_5068e 0 = .ok (.aload_n 0, 1) := by decide +kernel
theorem dJ0_charAt_5068e_1 : decode cJ0_charAt_5068e 1 = .ok (.invokevirtual 492, 3) := by decide +kernel
theorem dJ0_charAt_5068e_4 : decode cJ0_charAt_5068e 4 = .ok (.ifCond .eq 12, 3) := by decide +kernel
theorem dJ0_charAt_5068e_7 : decode cJ0_charAt_5068e 7 = .ok (.aload_n 0, 1) := by decide +kernel
theorem dJ0_charAt_5068e_8 : decode cJ0_charAt_5068e 8 = .ok (.getfield 9, 3) := by decide +kernel
theorem dJ0_charAt_5068e_11 : decode cJ0_charAt_5068e 11 = .ok (.iload_n 1, 1) := by decide +kernel
theorem dJ0_charAt_5068e_12 : decode cJ0_charAt_5068e 12 = .ok (.invokestatic 495, 3) := by decide +kernel
theorem dJ0_charAt_5068e_15 : decode cJ0_charAt_5068e 15 = .ok (.ireturn, 1) := by decide +kernel
theorem dJ0_charAt_5068e_16 : decode cJ0_charAt_5068e 16 = .ok (.aload_n 0, 1) := by decide +kernel
theorem dJ0_charAt_5068e_17 : decode cJ0_charAt_5068e 17 = .ok (.getfield 9, 3) := by decide +kernel
theorem dJ0_charAt_5068e_20 : decode cJ0_charAt_5068e 20 = .ok (.iload_n 1, 1) := by decide +kernel
theorem dJ0_charAt_5068e_21 : decode cJ0_charAt_5068e 21 = .ok (.invokestatic 498, 3) := by decide +kernel
theorem dJ0_charAt_5068e_24 : decode cJ0_charAt_5068e 24 = .ok (.ireturn, 1) := by decide +kernel
theorem dJ0_coder_7d493_0 : decode cJ0_coder_7d493 0 = .ok (.getstatic 38, 3) := by decide +kernel
theorem dJ0_coder_7d493_3 : decode cJ0_coder_7d493 3 = .ok (.ifCond .eq 10, 3) := by decide +kernel
theorem dJ0_coder_7d493_6 : decode cJ0_coder_7d493 6 = .ok (.aload_n 0, 1) := by decide +kernel
theorem dJ0_coder_7d493_7 : decode cJ0_coder_7d493 7 = .ok (.getfield 15, 3) := by decide +kernel
theorem dJ0_coder_7d493_10 : decode cJ0_coder_7d493 10 = .ok (.goto 4, 3) := by decide +kernel
theorem dJ0_coder_7d493_13 : decode cJ0_coder_7d493 13 = .ok (.iconst 1, 1) := by decide +kernel
theorem dJ0_coder_7d493_14 : decode cJ0_coder_7d493 14 = .ok (.ireturn, 1) := by decide +kernel
theorem dJ0_isLatin1_aae02_0 : decode cJ0_isLatin1_aae02 0 = .ok (.getstatic 38, 3) := by decide +kernel
theorem dJ0_isLatin1_aae02_3 : decode cJ0_isLatin1_aae02 3 = .ok (.ifCond .eq 14, 3) := by decide +kernel
theorem dJ0_isLatin1_aae02_6 : decode cJ0_isLatin1_aae02 6 = .ok (.aload_n 0, 1) := by decide +kernel
theorem dJ0_isLatin1_aae02_7 : decode cJ0_isLatin1_aae02 7 = .ok (.getfield 15, 3) := by decide +kernel
theorem dJ0_isLatin1_aae02_10 : decode cJ0_isLatin1_aae02 10 = .ok (.ifCond .ne 7, 3) := by decide +kernel
theorem dJ0_isLatin1_aae02_13 : decode cJ0_isLatin1_aae02 13 = .ok (.iconst 1, 1) := by decide +kernel
theorem dJ0_isLatin1_aae02_14 : decode cJ0_isLatin1_aae02 14 = .ok (.goto 4, 3) := by decide +kernel
theorem dJ0_isLatin1_aae02_17 : decode cJ0_isLatin1_aae02 17 = .ok (.iconst 0, 1) := by decide +kernel
theorem dJ0_isLatin1_aae02_18 : decode cJ0_isLatin1_aae02 18 = .ok (.ireturn, 1) := by decide +kernel
theorem dJ0_checkIndex_df160_0 : decode cJ0_checkIndex_df160 0 = .ok (.iload_n 0, 1) := by decide +kernel
theorem dJ0_checkIndex_df160_1 : decode cJ0_checkIndex_df160 1 = .ok (.iload_n 1, 1) := by decide +kernel
theorem dJ0_checkIndex_df160_2 : decode cJ0_checkIndex_df160 2 = .ok (.getstatic 1053, 3) := by decide +kernel
theorem dJ0_checkIndex_df160_5 : decode cJ0_checkIndex_df160 5 = .ok (.invokestatic 1059, 3) := by decide +kernel
theorem dJ0_checkIndex_df160_8 : decode cJ0_checkIndex_df160 8 = .ok (.pop, 1) := by decide +kernel
theorem dJ0_checkIndex_df160_9 : decode cJ0_checkIndex_df160 9 = .ok (.return_, 1) := by decide +kernel
theorem dJ1_charAt_3b067_0 : decode cJ1_charAt_3b067 0 = .ok (.iload_n 1, 1) := by decide +kernel
theorem dJ1_charAt_3b067_1 : decode cJ1_charAt_3b067 1 = .ok (.aload_n 0, 1) := by decide +kernel
theorem dJ1_charAt_3b067_2 : decode cJ1_charAt_3b067 2 = .ok (.arraylength, 1) := by decide +kernel
theorem dJ1_charAt_3b067_3 : decode cJ1_charAt_3b067 3 = .ok (.invokestatic 9, 3) := by decide +kernel
theorem dJ1_charAt_3b067_6 : decode cJ1_charAt_3b067 6 = .ok (.aload_n 0, 1) := by decide +kernel
theorem dJ1_charAt_3b067_7 : decode cJ1_charAt_3b067 7 = .ok (.iload_n 1, 1) := by decide +kernel
theorem dJ1_charAt_3b067_8 : decode cJ1_charAt_3b067 8 = .ok (.baload, 1) := by decide +kernel
theorem dJ1_charAt_3b067_9 : decode cJ1_charAt_3b067 9 = .ok (.sipush 255, 3) := by decide +kernel
theorem dJ1_charAt_3b067_12 : decode cJ1_charAt_3b067 12 = .ok (.iand, 1) := by decide +kernel
theorem dJ1_charAt_3b067_13 : decode cJ1_charAt_3b067 13 = .ok (.i2c, 1) := by decide +kernel
theorem dJ1_charAt_3b067_14 : decode cJ1_charAt_3b067 14 = .ok (.ireturn, 1) := by decide +kernel
theorem dJ2_getChar_3b067_0 : decode cJ2_getChar_3b067 0 = .ok (.getstatic 44, 3) := by decide +kernel
theorem dJ2_getChar_3b067_3 : decode cJ2_getChar_3b067 3 = .ok (.ifCond .ne 25, 3) := by decide +kernel
theorem dJ2_getChar_3b067_6 : decode cJ2_getChar_3b067 6 = .ok (.iload_n 1, 1) := by decide +kernel
theorem dJ2_getChar_3b067_7 : decode cJ2_getChar_3b067 7 = .ok (.ifCond .lt 11, 3) := by decide +kernel
theorem dJ2_getChar_3b067_10 : decode cJ2_getChar_3b067 10 = .ok (.iload_n 1, 1) := by decide +kernel
theorem dJ2_getChar_3b067_11 : decode cJ2_getChar_3b067 11 = .ok (.aload_n 0, 1) := by decide +kernel
theorem dJ2_getChar_3b067_12 : decode cJ2_getChar_3b067 12 = .ok (.invokestatic 48, 3) := by decide +kernel
theorem dJ2_getChar_3b067_15 : decode cJ2_getChar_3b067 15 = .ok (.if_icmp .lt 13, 3) := by decide +kernel
theorem dJ2_getChar_3b067_18 : decode cJ2_getChar_3b067 18 = .ok (.new 52, 3) := by decide +kernel
theorem dJ2_getChar_3b067_21 : decode cJ2_getChar_3b067 21 = .ok (.dup, 1) := by decide +kernel
theorem dJ2_getChar_3b067_22 : decode cJ2_getChar_3b067 22 = .ok (.ldc 54, 2) := by decide +kernel
theorem dJ2_getChar_3b067_24 : decode cJ2_getChar_3b067 24 = .ok (.invokespecial 56, 3) := by decide +kernel
theorem dJ2_getChar_3b067_27 : decode cJ2_getChar_3b067 27 = .ok (.athrow, 1) := by decide +kernel
theorem dJ2_getChar_3b067_28 : decode cJ2_getChar_3b067 28 = .ok (.iload_n 1, 1) := by decide +kernel
theorem dJ2_getChar_3b067_29 : decode cJ2_getChar_3b067 29 = .ok (.iconst 1, 1) := by decide +kernel
theorem dJ2_getChar_3b067_30 : decode cJ2_getChar_3b067 30 = .ok (.ishl, 1) := by decide +kernel
theorem dJ2_getChar_3b067_31 : decode cJ2_getChar_3b067 31 = .ok (.istore_n 1, 1) := by decide +kernel
theorem dJ2_getChar_3b067_32 : decode cJ2_getChar_3b067 32 = .ok (.aload_n 0, 1) := by decide +kernel
theorem dJ2_getChar_3b067_33 : decode cJ2_getChar_3b067 33 = .ok (.iload_n 1, 1) := by decide +kernel
theorem dJ2_getChar_3b067_34 : decode cJ2_getChar_3b067 34 = .ok (.iinc 1 1, 3) := by decide +kernel
theorem dJ2_getChar_3b067_37 : decode cJ2_getChar_3b067 37 = .ok (.baload, 1) := by decide +kernel
theorem dJ2_getChar_3b067_38 : decode cJ2_getChar_3b067 38 = .ok (.sipush 255, 3) := by decide +kernel
theorem dJ2_getChar_3b067_41 : decode cJ2_getChar_3b067 41 = .ok (.iand, 1) := by decide +kernel
theorem dJ2_getChar_3b067_42 : decode cJ2_getChar_3b067 42 = .ok (.getstatic 59, 3) := by decide +kernel
theorem dJ2_getChar_3b067_45 : decode cJ2_getChar_3b067 45 = .ok (.ishl, 1) := by decide +kernel
theorem dJ2_getChar_3b067_46 : decode cJ2_getChar_3b067 46 = .ok (.aload_n 0, 1) := by decide +kernel
theorem dJ2_getChar_3b067_47 : decode cJ2_getChar_3b067 47 = .ok (.iload_n 1, 1) := by decide +kernel
theorem dJ2_getChar_3b067_48 : decode cJ2_getChar_3b067 48 = .ok (.baload, 1) := by decide +kernel
theorem dJ2_getChar_3b067_49 : decode cJ2_getChar_3b067 49 = .ok (.sipush 255, 3) := by decide +kernel
theorem dJ2_getChar_3b067_52 : decode cJ2_getChar_3b067 52 = .ok (.iand, 1) := by decide +kernel
theorem dJ2_getChar_3b067_53 : decode cJ2_getChar_3b067 53 = .ok (.getstatic 63, 3) := by decide +kernel
theorem dJ2_getChar_3b067_56 : decode cJ2_getChar_3b067 56 = .ok (.ishl, 1) := by decide +kernel
theorem dJ2_getChar_3b067_57 : decode cJ2_getChar_3b067 57 = .ok (.ior, 1) := by decide +kernel
theorem dJ2_getChar_3b067_58 : decode cJ2_getChar_3b067 58 = .ok (.i2c, 1) := by decide +kernel
theorem dJ2_getChar_3b067_59 : decode cJ2_getChar_3b067 59 = .ok (.ireturn, 1) := by decide +kernel
theorem dJ2_length_9d52b_0 : decode cJ2_length_9d52b 0 = .ok (.aload_n 0, 1) := by decide +kernel
theorem dJ2_length_9d52b_1 : decode cJ2_length_9d52b 1 = .ok (.arraylength, 1) := by decide +kernel
theorem dJ2_length_9d52b_2 : decode cJ2_length_9d52b 2 = .ok (.iconst 1, 1) := by decide +kernel
theorem dJ2_length_9d52b_3 : decode cJ2_length_9d52b 3 = .ok (.ishr, 1) := by decide +kernel
theorem dJ2_length_9d52b_4 : decode cJ2_length_9d52b 4 = .ok (.ireturn, 1) := by decide +kernel
theorem dJ2_charAt_3b067_0 : decode cJ2_charAt_3b067 0 = .ok (.iload_n 1, 1) := by decide +kernel
theorem dJ2_charAt_3b067_1 : decode cJ2_charAt_3b067 1 = .ok (.aload_n 0, 1) := by decide +kernel
theorem dJ2_charAt_3b067_2 : decode cJ2_charAt_3b067 2 = .ok (.invokestatic 67, 3) := by decide +kernel
theorem dJ2_charAt_3b067_5 : decode cJ2_charAt_3b067 5 = .ok (.aload_n 0, 1) := by decide +kernel
theorem dJ2_charAt_3b067_6 : decode cJ2_charAt_3b067 6 = .ok (.iload_n 1, 1) := by decide +kernel
theorem dJ2_charAt_3b067_7 : decode cJ2_charAt_3b067 7 = .ok (.invokestatic 71, 3) := by decide +kernel
theorem dJ2_charAt_3b067_10 : decode cJ2_charAt_3b067 10 = .ok (.ireturn, 1) := by decide +kernel
theorem dJ2_checkIndex_2214a_0 : decode cJ2_checkIndex_2214a 0 = .ok (.iload_n 0, 1) := by decide +kernel
theorem dJ2_checkIndex_2214a_1 : decode cJ2_checkIndex_2214a 1 = .ok (.aload_n 1, 1) := by decide +kernel
theorem dJ2_checkIndex_2214a_2 : decode cJ2_checkIndex_2214a 2 = .ok (.invokestatic 48, 3) := by decide +kernel
theorem dJ2_checkIndex_2214a_5 : decode cJ2_checkIndex_2214a 5 = .ok (.invokestatic 414, 3) := by decide +kernel
theorem dJ2_checkIndex_2214a_8 : decode cJ2_checkIndex_2214a 8 = .ok (.return_, 1) := by decide +kernel
theorem dJ3_checkIndex_8e157_0 : decode cJ3_checkIndex_8e157 0 = .ok (.iload_n 0, 1) := by decide +kernel
theorem dJ3_checkIndex_8e157_1 : decode cJ3_checkIndex_8e157 1 = .ok (.ifCond .lt 8, 3) := by decide +kernel
theorem dJ3_checkIndex_8e157_4 : decode cJ3_checkIndex_8e157 4 = .ok (.iload_n 0, 1) := by decide +kernel
theorem dJ3_checkIndex_8e157_5 : decode cJ3_checkIndex_8e157 5 = .ok (.iload_n 1, 1) := by decide +kernel
theorem dJ3_checkIndex_8e157_6 : decode cJ3_checkIndex_8e157 6 = .ok (.if_icmp .lt 10, 3) := by decide +kernel
theorem dJ3_checkIndex_8e157_9 : decode cJ3_checkIndex_8e157 9 = .ok (.aload_n 2, 1) := by decide +kernel
theorem dJ3_checkIndex_8e157_10 : decode cJ3_checkIndex_8e157 10 = .ok (.iload_n 0, 1) := by decide +kernel
theorem dJ3_checkIndex_8e157_11 : decode cJ3_checkIndex_8e157 11 = .ok (.iload_n 1, 1) := by decide +kernel
theorem dJ3_checkIndex_8e157_12 : decode cJ3_checkIndex_8e157 12 = .ok (.invokestatic 95, 3) := by decide +kernel
theorem dJ3_checkIndex_8e157_15 : decode cJ3_checkIndex_8e157 15 = .ok (.athrow, 1) := by decide +kernel
theorem dJ3_checkIndex_8e157_16 : decode cJ3_checkIndex_8e157 16 = .ok (.iload_n 0, 1) := by decide +kernel
theorem dJ3_checkIndex_8e157_17 : decode cJ3_checkIndex_8e157 17 = .ok (.ireturn, 1) := by decide +kernel
