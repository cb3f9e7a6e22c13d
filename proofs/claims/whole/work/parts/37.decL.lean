theorem dL_life_0 : decode cL_life 0 = .ok (.aload_n 1, 1) := by decide +kernel
theorem dL_life_1 : decode cL_life 1 = .ok (.iconst 0, 1) := by decide +kernel
theorem dL_life_2 : decode cL_life 2 = .ok (.aload_n 0, 1) := by decide +kernel
theorem dL_life_3 : decode cL_life 3 = .ok (.invokevirtual 7, 3) := by decide +kernel
theorem dL_life_6 : decode cL_life 6 = .ok (.i2l, 1) := by decide +kernel
theorem dL_life_7 : decode cL_life 7 = .ok (.lastore, 1) := by decide +kernel
theorem dL_life_8 : decode cL_life 8 = .ok (.goto 9, 3) := by decide +kernel
theorem dL_life_11 : decode cL_life 11 = .ok (.astore_n 2, 1) := by decide +kernel
theorem dL_life_12 : decode cL_life 12 = .ok (.iconst 1, 1) := by decide +kernel
theorem dL_life_13 : decode cL_life 13 = .ok (.ireturn, 1) := by decide +kernel
theorem dL_life_14 : decode cL_life 14 = .ok (.astore_n 2, 1) := by decide +kernel
theorem dL_life_15 : decode cL_life 15 = .ok (.iconst 2, 1) := by decide +kernel
theorem dL_life_16 : decode cL_life 16 = .ok (.ireturn, 1) := by decide +kernel
theorem dL_life_17 : decode cL_life 17 = .ok (.iconst 0, 1) := by decide +kernel
theorem dL_life_18 : decode cL_life 18 = .ok (.ireturn, 1) := by decide +kernel
theorem dL_law_0 : decode cL_law 0 = .ok (.aload_n 1, 1) := by decide +kernel
theorem dL_law_1 : decode cL_law 1 = .ok (.iconst 0, 1) := by decide +kernel
theorem dL_law_2 : decode cL_law 2 = .ok (.aload_n 0, 1) := by decide +kernel
theorem dL_law_3 : decode cL_law 3 = .ok (.invokevirtual 17, 3) := by decide +kernel
theorem dL_law_6 : decode cL_law 6 = .ok (.i2l, 1) := by decide +kernel
theorem dL_law_7 : decode cL_law 7 = .ok (.lastore, 1) := by decide +kernel
theorem dL_law_8 : decode cL_law 8 = .ok (.goto 6, 3) := by decide +kernel
theorem dL_law_11 : decode cL_law 11 = .ok (.astore_n 2, 1) := by decide +kernel
theorem dL_law_12 : decode cL_law 12 = .ok (.iconst 1, 1) := by decide +kernel
theorem dL_law_13 : decode cL_law 13 = .ok (.ireturn, 1) := by decide +kernel
theorem dL_law_14 : decode cL_law 14 = .ok (.iconst 0, 1) := by decide +kernel
theorem dL_law_15 : decode cL_law 15 = .ok (.ireturn, 1) := by decide +kernel
theorem dL_dish_0 : decode cL_dish 0 = .ok (.aload_n 3, 1) := by decide +kernel
theorem dL_dish_1 : decode cL_dish 1 = .ok (.iconst 0, 1) := by decide +kernel
theorem dL_dish_2 : decode cL_dish 2 = .ok (.aload_n 0, 1) := by decide +kernel
theorem dL_dish_3 : decode cL_dish 3 = .ok (.iload_n 1, 1) := by decide +kernel
theorem dL_dish_4 : decode cL_dish 4 = .ok (.iload_n 2, 1) := by decide +kernel
theorem dL_dish_5 : decode cL_dish 5 = .ok (.invokevirtual 20, 3) := by decide +kernel
theorem dL_dish_8 : decode cL_dish 8 = .ok (.i2l, 1) := by decide +kernel
theorem dL_dish_9 : decode cL_dish 9 = .ok (.lastore, 1) := by decide +kernel
theorem dL_dish_10 : decode cL_dish 10 = .ok (.goto 11, 3) := by decide +kernel
theorem dL_dish_13 : decode cL_dish 13 = .ok (.astore 4, 2) := by decide +kernel
theorem dL_dish_15 : decode cL_dish 15 = .ok (.iconst 1, 1) := by decide +kernel
theorem dL_dish_16 : decode cL_dish 16 = .ok (.ireturn, 1) := by decide +kernel
theorem dL_dish_17 : decode cL_dish 17 = .ok (.astore 4, 2) := by decide +kernel
theorem dL_dish_19 : decode cL_dish 19 = .ok (.iconst 2, 1) := by decide +kernel
theorem dL_dish_20 : decode cL_dish 20 = .ok (.ireturn, 1) := by decide +kernel
theorem dL_dish_21 : decode cL_dish 21 = .ok (.iconst 0, 1) := by decide +kernel
theorem dL_dish_22 : decode cL_dish 22 = .ok (.ireturn, 1) := by decide +kernel
theorem dL_far_0 : decode cL_far 0 = .ok (.aload_n 3, 1) := by decide +kernel
theorem dL_far_1 : decode cL_far 1 = .ok (.iconst 0, 1) := by decide +kernel
theorem dL_far_2 : decode cL_far 2 = .ok (.aload_n 0, 1) := by decide +kernel
theorem dL_far_3 : decode cL_far 3 = .ok (.iload_n 1, 1) := by decide +kernel
theorem dL_far_4 : decode cL_far 4 = .ok (.iload_n 2, 1) := by decide +kernel
theorem dL_far_5 : decode cL_far 5 = .ok (.invokevirtual 28, 3) := by decide +kernel
theorem dL_far_8 : decode cL_far 8 = .ok (.i2l, 1) := by decide +kernel
theorem dL_far_9 : decode cL_far 9 = .ok (.lastore, 1) := by decide +kernel
theorem dL_far_10 : decode cL_far 10 = .ok (.goto 7, 3) := by decide +kernel
theorem dL_far_13 : decode cL_far 13 = .ok (.astore 4, 2) := by decide +kernel
theorem dL_far_15 : decode cL_far 15 = .ok (.iconst 1, 1) := by decide +kernel
theorem dL_far_16 : decode cL_far 16 = .ok (.ireturn, 1) := by decide +kernel
theorem dL_far_17 : decode cL_far 17 = .ok (.iconst 0, 1) := by decide +kernel
theorem dL_far_18 : decode cL_far 18 = .ok (.ireturn, 1) := by decide +kernel
theorem dL_near_0 : decode cL_near 0 = .ok (.aload_n 2, 1) := by decide +kernel
theorem dL_near_1 : decode cL_near 1 = .ok (.iconst 0, 1) := by decide +kernel
theorem dL_near_2 : decode cL_near 2 = .ok (.aload_n 0, 1) := by decide +kernel
theorem dL_near_3 : decode cL_near 3 = .ok (.iload_n 1, 1) := by decide +kernel
theorem dL_near_4 : decode cL_near 4 = .ok (.invokevirtual 31, 3) := by decide +kernel
theorem dL_near_7 : decode cL_near 7 = .ok (.i2l, 1) := by decide +kernel
theorem dL_near_8 : decode cL_near 8 = .ok (.lastore, 1) := by decide +kernel
theorem dL_near_9 : decode cL_near 9 = .ok (.goto 6, 3) := by decide +kernel
theorem dL_near_12 : decode cL_near 12 = .ok (.astore_n 3, 1) := by decide +kernel
theorem dL_near_13 : decode cL_near 13 = .ok (.iconst 1, 1) := by decide +kernel
theorem dL_near_14 : decode cL_near 14 = .ok (.ireturn, 1) := by decide +kernel
theorem dL_near_15 : decode cL_near 15 = .ok (.iconst 0, 1) := by decide +kernel
theorem dL_near_16 : decode cL_near 16 = .ok (.ireturn, 1) := by decide +kernel
theorem dL_spoon_0 : decode cL_spoon 0 = .ok (.aload_n 2, 1) := by decide +kernel
theorem dL_spoon_1 : decode cL_spoon 1 = .ok (.iconst 0, 1) := by decide +kernel
theorem dL_spoon_2 : decode cL_spoon 2 = .ok (.aload_n 0, 1) := by decide +kernel
theorem dL_spoon_3 : decode cL_spoon 3 = .ok (.iload_n 1, 1) := by decide +kernel
theorem dL_spoon_4 : decode cL_spoon 4 = .ok (.invokevirtual 35, 3) := by decide +kernel
theorem dL_spoon_7 : decode cL_spoon 7 = .ok (.i2l, 1) := by decide +kernel
theorem dL_spoon_8 : decode cL_spoon 8 = .ok (.lastore, 1) := by decide +kernel
theorem dL_spoon_9 : decode cL_spoon 9 = .ok (.goto 9, 3) := by decide +kernel
theorem dL_spoon_12 : decode cL_spoon 12 = .ok (.astore_n 3, 1) := by decide +kernel
theorem dL_spoon_13 : decode cL_spoon 13 = .ok (.iconst 1, 1) := by decide +kernel
theorem dL_spoon_14 : decode cL_spoon 14 = .ok (.ireturn, 1) := by decide +kernel
theorem dL_spoon_15 : decode cL_spoon 15 = .ok (.astore_n 3, 1) := by decide +kernel
theorem dL_spoon_16 : decode cL_spoon 16 = .ok (.iconst 2, 1) := by decide +kernel
theorem dL_spoon_17 : decode cL_spoon 17 = .ok (.ireturn, 1) := by decide +kernel
theorem dL_spoon_18 : decode cL_spoon 18 = .ok (.iconst 0, 1) := by decide +kernel
theorem dL_spoon_19 : decode cL_spoon 19 = .ok (.ireturn, 1) := by decide +kernel
theorem dL_had_0 : decode cL_had 0 = .ok (.aload 5, 2) := by decide +kernel
theorem dL_had_2 : decode cL_had 2 = .ok (.iconst 0, 1) := by decide +kernel
theorem dL_had_3 : decode cL_had 3 = .ok (.aload_n 0, 1) := by decide +kernel
theorem dL_had_4 : decode cL_had 4 = .ok (.iload_n 1, 1) := by decide +kernel
theorem dL_had_5 : decode cL_had 5 = .ok (.iload_n 2, 1) := by decide +kernel
theorem dL_had_6 : decode cL_had 6 = .ok (.iload_n 3, 1) := by decide +kernel
theorem dL_had_7 : decode cL_had 7 = .ok (.iload 4, 2) := by decide +kernel
theorem dL_had_9 : decode cL_had 9 = .ok (.invokevirtual 40, 3) := by decide +kernel
theorem dL_had_12 : decode cL_had 12 = .ok (.i2l, 1) := by decide +kernel
theorem dL_had_13 : decode cL_had 13 = .ok (.lastore, 1) := by decide +kernel
theorem dL_had_14 : decode cL_had 14 = .ok (.goto 11, 3) := by decide +kernel
theorem dL_had_17 : decode cL_had 17 = .ok (.astore 6, 2) := by decide +kernel
theorem dL_had_19 : decode cL_had 19 = .ok (.iconst 1, 1) := by decide +kernel
theorem dL_had_20 : decode cL_had 20 = .ok (.ireturn, 1) := by decide +kernel
theorem dL_had_21 : decode cL_had 21 = .ok (.astore 6, 2) := by decide +kernel
theorem dL_had_23 : decode cL_had 23 = .ok (.iconst 2, 1) := by decide +kernel
theorem dL_had_24 : decode cL_had 24 = .ok (.ireturn, 1) := by decide +kernel
theorem dL_had_25 : decode cL_had 25 = .ok (.iconst 0, 1) := by decide +kernel
theorem dL_had_26 : decode cL_had 26 = .ok (.ireturn, 1) := by decide +kernel
theorem dL_forget_0 : decode cL_forget 0 = .ok (.aload_n 2, 1) := by decide +kernel
theorem dL_forget_1 : decode cL_forget 1 = .ok (.iconst 0, 1) := by decide +kernel
theorem dL_forget_2 : decode cL_forget 2 = .ok (.aload_n 0, 1) := by decide +kernel
theorem dL_forget_3 : decode cL_forget 3 = .ok (.iload_n 1, 1) := by decide +kernel
theorem dL_forget_4 : decode cL_forget 4 = .ok (.invokevirtual 44, 3) := by decide +kernel
theorem dL_forget_7 : decode cL_forget 7 = .ok (.i2l, 1) := by decide +kernel
theorem dL_forget_8 : decode cL_forget 8 = .ok (.lastore, 1) := by decide +kernel
theorem dL_forget_9 : decode cL_forget 9 = .ok (.goto 9, 3) := by decide +kernel
theorem dL_forget_12 : decode cL_forget 12 = .ok (.astore_n 3, 1) := by decide +kernel
theorem dL_forget_13 : decode cL_forget 13 = .ok (.iconst 1, 1) := by decide +kernel
theorem dL_forget_14 : decode cL_forget 14 = .ok (.ireturn, 1) := by decide +kernel
theorem dL_forget_15 : decode cL_forget 15 = .ok (.astore_n 3, 1) := by decide +kernel
theorem dL_forget_16 : decode cL_forget 16 = .ok (.iconst 2, 1) := by decide +kernel
theorem dL_forget_17 : decode cL_forget 17 = .ok (.ireturn, 1) := by decide +kernel
theorem dL_forget_18 : decode cL_forget 18 = .ok (.iconst 0, 1) := by decide +kernel
theorem dL_forget_19 : decode cL_forget 19 = .ok (.ireturn, 1) := by decide +kernel
theorem dL_reach_0 : decode cL_reach 0 = .ok (.aload_n 2, 1) := by decide +kernel
theorem dL_reach_1 : decode cL_reach 1 = .ok (.iconst 0, 1) := by decide +kernel
theorem dL_reach_2 : decode cL_reach 2 = .ok (.aload_n 0, 1) := by decide +kernel
theorem dL_reach_3 : decode cL_reach 3 = .ok (.iload_n 1, 1) := by decide +kernel
theorem dL_reach_4 : decode cL_reach 4 = .ok (.invokevirtual 47, 3) := by decide +kernel
theorem dL_reach_7 : decode cL_reach 7 = .ok (.i2l, 1) := by decide +kernel
theorem dL_reach_8 : decode cL_reach 8 = .ok (.lastore, 1) := by decide +kernel
theorem dL_reach_9 : decode cL_reach 9 = .ok (.goto 6, 3) := by decide +kernel
theorem dL_reach_12 : decode cL_reach 12 = .ok (.astore_n 3, 1) := by decide +kernel
theorem dL_reach_13 : decode cL_reach 13 = .ok (.iconst 1, 1) := by decide +kernel
theorem dL_reach_14 : decode cL_reach 14 = .ok (.ireturn, 1) := by decide +kernel
theorem dL_reach_15 : decode cL_reach 15 = .ok (.iconst 0, 1) := by decide +kernel
theorem dL_reach_16 : decode cL_reach 16 = .ok (.ireturn, 1) := by decide +kernel
theorem dL_house_0 : decode cL_house 0 = .ok (.aload_n 2, 1) := by decide +kernel
theorem dL_house_1 : decode cL_house 1 = .ok (.iconst 0, 1) := by decide +kernel
theorem dL_house_2 : decode cL_house 2 = .ok (.aload_n 0, 1) := by decide +kernel
theorem dL_house_3 : decode cL_house 3 = .ok (.iload_n 1, 1) := by decide +kernel
theorem dL_house_4 : decode cL_house 4 = .ok (.invokevirtual 50, 3) := by decide +kernel
theorem dL_house_7 : decode cL_house 7 = .ok (.i2l, 1) := by decide +kernel
theorem dL_house_8 : decode cL_house 8 = .ok (.lastore, 1) := by decide +kernel
theorem dL_house_9 : decode cL_house 9 = .ok (.goto 6, 3) := by decide +kernel
theorem dL_house_12 : decode cL_house 12 = .ok (.astore_n 3, 1) := by decide +kernel
theorem dL_house_13 : decode cL_house 13 = .ok (.iconst 1, 1) := by decide +kernel
theorem dL_house_14 : decode cL_house 14 = .ok (.ireturn, 1) := by decide +kernel
theorem dL_house_15 : decode cL_house 15 = .ok (.iconst 0, 1) := by decide +kernel
theorem dL_house_16 : decode cL_house 16 = .ok (.ireturn, 1) := by decide +kernel
theorem dL_evenings_0 : decode cL_evenings 0 = .ok (.aload_n 2, 1) := by decide +kernel
theorem dL_evenings_1 : decode cL_evenings 1 = .ok (.iconst 0, 1) := by decide +kernel
theorem dL_evenings_2 : decode cL_evenings 2 = .ok (.aload_n 0, 1) := by decide +kernel
theorem dL_evenings_3 : decode cL_evenings 3 = .ok (.iload_n 1, 1) := by decide +kernel
theorem dL_evenings_4 : decode cL_evenings 4 = .ok (.invokevirtual 53, 3) := by decide +kernel
theorem dL_evenings_7 : decode cL_evenings 7 = .ok (.i2l, 1) := by decide +kernel
theorem dL_evenings_8 : decode cL_evenings 8 = .ok (.lastore, 1) := by decide +kernel
theorem dL_evenings_9 : decode cL_evenings 9 = .ok (.goto 6, 3) := by decide +kernel
theorem dL_evenings_12 : decode cL_evenings 12 = .ok (.astore_n 3, 1) := by decide +kernel
theorem dL_evenings_13 : decode cL_evenings 13 = .ok (.iconst 1, 1) := by decide +kernel
theorem dL_evenings_14 : decode cL_evenings 14 = .ok (.ireturn, 1) := by decide +kernel
theorem dL_evenings_15 : decode cL_evenings 15 = .ok (.iconst 0, 1) := by decide +kernel
theorem dL_evenings_16 : decode cL_evenings 16 = .ok (.ireturn, 1) := by decide +kernel
theorem dL_menu_0 : decode cL_menu 0 = .ok (.aload_n 2, 1) := by decide +kernel
theorem dL_menu_1 : decode cL_menu 1 = .ok (.iconst 0, 1) := by decide +kernel
theorem dL_menu_2 : decode cL_menu 2 = .ok (.aload_n 0, 1) := by decide +kernel
theorem dL_menu_3 : decode cL_menu 3 = .ok (.iload_n 1, 1) := by decide +kernel
theorem dL_menu_4 : decode cL_menu 4 = .ok (.invokevirtual 56, 3) := by decide +kernel
theorem dL_menu_7 : decode cL_menu 7 = .ok (.i2l, 1) := by decide +kernel
theorem dL_menu_8 : decode cL_menu 8 = .ok (.lastore, 1) := by decide +kernel
theorem dL_menu_9 : decode cL_menu 9 = .ok (.goto 9, 3) := by decide +kernel
theorem dL_menu_12 : decode cL_menu 12 = .ok (.astore_n 3, 1) := by decide +kernel
theorem dL_menu_13 : decode cL_menu 13 = .ok (.iconst 1, 1) := by decide +kernel
theorem dL_menu_14 : decode cL_menu 14 = .ok (.ireturn, 1) := by decide +kernel
theorem dL_menu_15 : decode cL_menu 15 = .ok (.astore_n 3, 1) := by decide +kernel
theorem dL_menu_16 : decode cL_menu 16 = .ok (.iconst 2, 1) := by decide +kernel
theorem dL_menu_17 : decode cL_menu 17 = .ok (.ireturn, 1) := by decide +kernel
theorem dL_menu_18 : decode cL_menu 18 = .ok (.iconst 0, 1) := by decide +kernel
theorem dL_menu_19 : decode cL_menu 19 = .ok (.ireturn, 1) := by decide +kernel
theorem dL_fewest_0 : decode cL_fewest 0 = .ok (.aload_n 3, 1) := by decide +kernel
theorem dL_fewest_1 : decode cL_fewest 1 = .ok (.iconst 0, 1) := by decide +kernel
theorem dL_fewest_2 : decode cL_fewest 2 = .ok (.aload_n 0, 1) := by decide +kernel
theorem dL_fewest_3 : decode cL_fewest 3 = .ok (.iload_n 1, 1) := by decide +kernel
theorem dL_fewest_4 : decode cL_fewest 4 = .ok (.iload_n 2, 1) := by decide +kernel
theorem dL_fewest_5 : decode cL_fewest 5 = .ok (.invokevirtual 59, 3) := by decide +kernel
theorem dL_fewest_8 : decode cL_fewest 8 = .ok (.i2l, 1) := by decide +kernel
theorem dL_fewest_9 : decode cL_fewest 9 = .ok (.lastore, 1) := by decide +kernel
theorem dL_fewest_10 : decode cL_fewest 10 = .ok (.goto 7, 3) := by decide +kernel
theorem dL_fewest_13 : decode cL_fewest 13 = .ok (.astore 4, 2) := by decide +kernel
theorem dL_fewest_15 : decode cL_fewest 15 = .ok (.iconst 1, 1) := by decide +kernel
theorem dL_fewest_16 : decode cL_fewest 16 = .ok (.ireturn, 1) := by decide +kernel
theorem dL_fewest_17 : decode cL_fewest 17 = .ok (.iconst 0, 1) := by decide +kernel
theorem dL_fewest_18 : decode cL_fewest 18 = .ok (.ireturn, 1) := by decide +kernel
theorem dL_order_0 : decode cL_order 0 = .ok (.aload_n 3, 1) := by decide +kernel
theorem dL_order_1 : decode cL_order 1 = .ok (.iconst 0, 1) := by decide +kernel
theorem dL_order_2 : decode cL_order 2 = .ok (.aload_n 0, 1) := by decide +kernel
theorem dL_order_3 : decode cL_order 3 = .ok (.iload_n 1, 1) := by decide +kernel
theorem dL_order_4 : decode cL_order 4 = .ok (.iload_n 2, 1) := by decide +kernel
theorem dL_order_5 : decode cL_order 5 = .ok (.invokevirtual 62, 3) := by decide +kernel
theorem dL_order_8 : decode cL_order 8 = .ok (.i2l, 1) := by decide +kernel
theorem dL_order_9 : decode cL_order 9 = .ok (.lastore, 1) := by decide +kernel
theorem dL_order_10 : decode cL_order 10 = .ok (.goto 7, 3) := by decide +kernel
theorem dL_order_13 : decode cL_order 13 = .ok (.astore 4, 2) := by decide +kernel
theorem dL_order_15 : decode cL_order 15 = .ok (.iconst 1, 1) := by decide +kernel
theorem dL_order_16 : decode cL_order 16 = .ok (.ireturn, 1) := by decide +kernel
theorem dL_order_17 : decode cL_order 17 = .ok (.iconst 0, 1) := by decide +kernel
theorem dL_order_18 : decode cL_order 18 = .ok (.ireturn, 1) := by decide +kernel
theorem dL_he_0 : decode cL_he 0 = .ok (.aload_n 1, 1) := by decide +kernel
theorem dL_he_1 : decode cL_he 1 = .ok (.iconst 0, 1) := by decide +kernel
theorem dL_he_2 : decode cL_he 2 = .ok (.aload_n 0, 1) := by decide +kernel
theorem dL_he_3 : decode cL_he 3 = .ok (.invokevirtual 65, 3) := by decide +kernel
theorem dL_he_6 : decode cL_he 6 = .ok (.i2l, 1) := by decide +kernel
theorem dL_he_7 : decode cL_he 7 = .ok (.lastore, 1) := by decide +kernel
theorem dL_he_8 : decode cL_he 8 = .ok (.goto 6, 3) := by decide +kernel
theorem dL_he_11 : decode cL_he 11 = .ok (.astore_n 2, 1) := by decide +kernel
theorem dL_he_12 : decode cL_he 12 = .ok (.iconst 1, 1) := by decide +kernel
theorem dL_he_13 : decode cL_he 13 = .ok (.ireturn, 1) := by decide +kernel
theorem dL_he_14 : decode cL_he 14 = .ok (.iconst 0, 1) := by decide +kernel
theorem dL_he_15 : decode cL_he 15 = .ok (.ireturn, 1) := by decide +kernel
theorem dL_unknown_0 : decode cL_unknown 0 = .ok (.aload_n 1, 1) := by decide +kernel
theorem dL_unknown_1 : decode cL_unknown 1 = .ok (.iconst 0, 1) := by decide +kernel
theorem dL_unknown_2 : decode cL_unknown 2 = .ok (.aload_n 0, 1) := by decide +kernel
theorem dL_unknown_3 : decode cL_unknown 3 = .ok (.invokevirtual 68, 3) := by decide +kernel
theorem dL_unknown_6 : decode cL_unknown 6 = .ok (.i2l, 1) := by decide +kernel
theorem dL_unknown_7 : decode cL_unknown 7 = .ok (.lastore, 1) := by decide +kernel
theorem dL_unknown_8 : decode cL_unknown 8 = .ok (.goto 6, 3) := by decide +kernel
theorem dL_unknown_11 : decode cL_unknown 11 = .ok (.astore_n 2, 1) := by decide +kernel
theorem dL_unknown_12 : decode cL_unknown 12 = .ok (.iconst 1, 1) := by decide +kernel
theorem dL_unknown_13 : decode cL_unknown 13 = .ok (.ireturn, 1) := by decide +kernel
theorem dL_unknown_14 : decode cL_unknown 14 = .ok (.iconst 0, 1) := by decide +kernel
theorem dL_unknown_15 : decode cL_unknown 15 = .ok (.ireturn, 1) := by decide +kernel
theorem dL_serve_0 : decode cL_serve 0 = .ok (.aload_n 1, 1) := by decide +kernel
theorem dL_serve_1 : decode cL_serve 1 = .ok (.iconst 0, 1) := by decide +kernel
theorem dL_serve_2 : decode cL_serve 2 = .ok (.aload_n 0, 1) := by decide +kernel
theorem dL_serve_3 : decode cL_serve 3 = .ok (.invokevirtual 71, 3) := by decide +kernel
theorem dL_serve_6 : decode cL_serve 6 = .ok (.i2l, 1) := by decide +kernel
theorem dL_serve_7 : decode cL_serve 7 = .ok (.lastore, 1) := by decide +kernel
theorem dL_serve_8 : decode cL_serve 8 = .ok (.goto 6, 3) := by decide +kernel
theorem dL_serve_11 : decode cL_serve 11 = .ok (.astore_n 2, 1) := by decide +kernel
theorem dL_serve_12 : decode cL_serve 12 = .ok (.iconst 1, 1) := by decide +kernel
theorem dL_serve_13 : decode cL_serve 13 = .ok (.ireturn, 1) := by decide +kernel
theorem dL_serve_14 : decode cL_serve 14 = .ok (.iconst 0, 1) := by decide +kernel
theorem dL_serve_15 : decode cL_serve 15 = .ok (.ireturn, 1) := by decide +kernel
theorem dL_jars_0 : decode cL_jars 0 = .ok (.aload_n 2, 1) := by decide +kernel
theorem dL_jars_1 : decode cL_jars 1 = .ok (.iconst 0, 1) := by decide +kernel
theorem dL_jars_2 : decode cL_jars 2 = .ok (.aload_n 0, 1) := by decide +kernel
theorem dL_jars_3 : decode cL_jars 3 = .ok (.iload_n 1, 1) := by decide +kernel
theorem dL_jars_4 : decode cL_jars 4 = .ok (.invokevirtual 74, 3) := by decide +kernel
theorem dL_jars_7 : decode cL_jars 7 = .ok (.i2l, 1) := by decide +kernel
theorem dL_jars_8 : decode cL_jars 8 = .ok (.lastore, 1) := by decide +kernel
theorem dL_jars_9 : decode cL_jars 9 = .ok (.goto 6, 3) := by decide +kernel
theorem dL_jars_12 : decode cL_jars 12 = .ok (.astore_n 3, 1) := by decide +kernel
theorem dL_jars_13 : decode cL_jars 13 = .ok (.iconst 1, 1) := by decide +kernel
theorem dL_jars_14 : decode cL_jars 14 = .ok (.ireturn, 1) := by decide +kernel
theorem dL_jars_15 : decode cL_jars 15 = .ok (.iconst 0, 1) := by decide +kernel
theorem dL_jars_16 : decode cL_jars 16 = .ok (.ireturn, 1) := by decide +kernel
theorem dL_kitchen_0 : decode cL_kitchen 0 = .ok (.aload_n 2, 1) := by decide +kernel
theorem dL_kitchen_1 : decode cL_kitchen 1 = .ok (.iconst 0, 1) := by decide +kernel
theorem dL_kitchen_2 : decode cL_kitchen 2 = .ok (.aload_n 0, 1) := by decide +kernel
theorem dL_kitchen_3 : decode cL_kitchen 3 = .ok (.iload_n 1, 1) := by decide +kernel
theorem dL_kitchen_4 : decode cL_kitchen 4 = .ok (.invokevirtual 77, 3) := by decide +kernel
theorem dL_kitchen_7 : decode cL_kitchen 7 = .ok (.i2l, 1) := by decide +kernel
theorem dL_kitchen_8 : decode cL_kitchen 8 = .ok (.lastore, 1) := by decide +kernel
theorem dL_kitchen_9 : decode cL_kitchen 9 = .ok (.goto 6, 3) := by decide +kernel
theorem dL_kitchen_12 : decode cL_kitchen 12 = .ok (.astore_n 3, 1) := by decide +kernel
theorem dL_kitchen_13 : decode cL_kitchen 13 = .ok (.iconst 1, 1) := by decide +kernel
theorem dL_kitchen_14 : decode cL_kitchen 14 = .ok (.ireturn, 1) := by decide +kernel
theorem dL_kitchen_15 : decode cL_kitchen 15 = .ok (.iconst 0, 1) := by decide +kernel
theorem dL_kitchen_16 : decode cL_kitchen 16 = .ok (.ireturn, 1) := by decide +kernel
theorem dL_hosts_0 : decode cL_hosts 0 = .ok (.aload_n 3, 1) := by decide +kernel
theorem dL_hosts_1 : decode cL_hosts 1 = .ok (.iconst 0, 1) := by decide +kernel
theorem dL_hosts_2 : decode cL_hosts 2 = .ok (.aload_n 0, 1) := by decide +kernel
theorem dL_hosts_3 : decode cL_hosts 3 = .ok (.iload_n 1, 1) := by decide +kernel
theorem dL_hosts_4 : decode cL_hosts 4 = .ok (.iload_n 2, 1) := by decide +kernel
theorem dL_hosts_5 : decode cL_hosts 5 = .ok (.invokevirtual 80, 3) := by decide +kernel
theorem dL_hosts_8 : decode cL_hosts 8 = .ok (.i2l, 1) := by decide +kernel
theorem dL_hosts_9 : decode cL_hosts 9 = .ok (.lastore, 1) := by decide +kernel
theorem dL_hosts_10 : decode cL_hosts 10 = .ok (.goto 11, 3) := by decide +kernel
theorem dL_hosts_13 : decode cL_hosts 13 = .ok (.astore 4, 2) := by decide +kernel
theorem dL_hosts_15 : decode cL_hosts 15 = .ok (.iconst 1, 1) := by decide +kernel
theorem dL_hosts_16 : decode cL_hosts 16 = .ok (.ireturn, 1) := by decide +kernel
theorem dL_hosts_17 : decode cL_hosts 17 = .ok (.astore 4, 2) := by decide +kernel
theorem dL_hosts_19 : decode cL_hosts 19 = .ok (.iconst 2, 1) := by decide +kernel
theorem dL_hosts_20 : decode cL_hosts 20 = .ok (.ireturn, 1) := by decide +kernel
theorem dL_hosts_21 : decode cL_hosts 21 = .ok (.iconst 0, 1) := by decide +kernel
theorem dL_hosts_22 : decode cL_hosts 22 = .ok (.ireturn, 1) := by decide +kernel
theorem dL_breaks_0 : decode cL_breaks 0 = .ok (.aload_n 2, 1) := by decide +kernel
theorem dL_breaks_1 : decode cL_breaks 1 = .ok (.iconst 0, 1) := by decide +kernel
theorem dL_breaks_2 : decode cL_breaks 2 = .ok (.aload_n 0, 1) := by decide +kernel
theorem dL_breaks_3 : decode cL_breaks 3 = .ok (.iload_n 1, 1) := by decide +kernel
theorem dL_breaks_4 : decode cL_breaks 4 = .ok (.invokevirtual 83, 3) := by decide +kernel
theorem dL_breaks_7 : decode cL_breaks 7 = .ok (.i2l, 1) := by decide +kernel
theorem dL_breaks_8 : decode cL_breaks 8 = .ok (.lastore, 1) := by decide +kernel
theorem dL_breaks_9 : decode cL_breaks 9 = .ok (.goto 6, 3) := by decide +kernel
theorem dL_breaks_12 : decode cL_breaks 12 = .ok (.astore_n 3, 1) := by decide +kernel
theorem dL_breaks_13 : decode cL_breaks 13 = .ok (.iconst 1, 1) := by decide +kernel
theorem dL_breaks_14 : decode cL_breaks 14 = .ok (.ireturn, 1) := by decide +kernel
theorem dL_breaks_15 : decode cL_breaks 15 = .ok (.iconst 0, 1) := by decide +kernel
theorem dL_breaks_16 : decode cL_breaks 16 = .ok (.ireturn, 1) := by decide +kernel
theorem dL_company_0 : decode cL_company 0 = .ok (.aload_n 2, 1) := by decide +kernel
theorem dL_company_1 : decode cL_company 1 = .ok (.iconst 0, 1) := by decide +kernel
theorem dL_company_2 : decode cL_company 2 = .ok (.aload_n 0, 1) := by decide +kernel
theorem dL_company_3 : decode cL_company 3 = .ok (.iload_n 1, 1) := by decide +kernel
theorem dL_company_4 : decode cL_company 4 = .ok (.invokevirtual 86, 3) := by decide +kernel
theorem dL_company_7 : decode cL_company 7 = .ok (.i2l, 1) := by decide +kernel
theorem dL_company_8 : decode cL_company 8 = .ok (.lastore, 1) := by decide +kernel
theorem dL_company_9 : decode cL_company 9 = .ok (.goto 6, 3) := by decide +kernel
theorem dL_company_12 : decode cL_company 12 = .ok (.astore_n 3, 1) := by decide +kernel
theorem dL_company_13 : decode cL_company 13 = .ok (.iconst 1, 1) := by decide +kernel
theorem dL_company_14 : decode cL_company 14 = .ok (.ireturn, 1) := by decide +kernel
theorem dL_company_15 : decode cL_company 15 = .ok (.iconst 0, 1) := by decide +kernel
theorem dL_company_16 : decode cL_company 16 = .ok (.ireturn, 1) := by decide +kernel
theorem dL_odds_0 : decode cL_odds 0 = .ok (.aload_n 3, 1) := by decide +kernel
theorem dL_odds_1 : decode cL_odds 1 = .ok (.iconst 0, 1) := by decide +kernel
theorem dL_odds_2 : decode cL_odds 2 = .ok (.aload_n 0, 1) := by decide +kernel
theorem dL_odds_3 : decode cL_odds 3 = .ok (.iload_n 1, 1) := by decide +kernel
theorem dL_odds_4 : decode cL_odds 4 = .ok (.iload_n 2, 1) := by decide +kernel
theorem dL_odds_5 : decode cL_odds 5 = .ok (.invokevirtual 89, 3) := by decide +kernel
theorem dL_odds_8 : decode cL_odds 8 = .ok (.i2l, 1) := by decide +kernel
theorem dL_odds_9 : decode cL_odds 9 = .ok (.lastore, 1) := by decide +kernel
theorem dL_odds_10 : decode cL_odds 10 = .ok (.goto 7, 3) := by decide +kernel
theorem dL_odds_13 : decode cL_odds 13 = .ok (.astore 4, 2) := by decide +kernel
theorem dL_odds_15 : decode cL_odds 15 = .ok (.iconst 1, 1) := by decide +kernel
theorem dL_odds_16 : decode cL_odds 16 = .ok (.ireturn, 1) := by decide +kernel
theorem dL_odds_17 : decode cL_odds 17 = .ok (.iconst 0, 1) := by decide +kernel
theorem dL_odds_18 : decode cL_odds 18 = .ok (.ireturn, 1) := by decide +kernel
theorem dL_share_0 : decode cL_share 0 = .ok (.aload_n 2, 1) := by decide +kernel
theorem dL_share_1 : decode cL_share 1 = .ok (.iconst 0, 1) := by decide +kernel
theorem dL_share_2 : decode cL_share 2 = .ok (.aload_n 0, 1) := by decide +kernel
theorem dL_share_3 : decode cL_share 3 = .ok (.iload_n 1, 1) := by decide +kernel
theorem dL_share_4 : decode cL_share 4 = .ok (.invokevirtual 92, 3) := by decide +kernel
theorem dL_share_7 : decode cL_share 7 = .ok (.i2l, 1) := by decide +kernel
theorem dL_share_8 : decode cL_share 8 = .ok (.lastore, 1) := by decide +kernel
theorem dL_share_9 : decode cL_share 9 = .ok (.goto 6, 3) := by decide +kernel
theorem dL_share_12 : decode cL_share 12 = .ok (.astore_n 3, 1) := by decide +kernel
theorem dL_share_13 : decode cL_share 13 = .ok (.iconst 1, 1) := by decide +kernel
theorem dL_share_14 : decode cL_share 14 = .ok (.ireturn, 1) := by decide +kernel
theorem dL_share_15 : decode cL_share 15 = .ok (.iconst 0, 1) := by decide +kernel
theorem dL_share_16 : decode cL_share 16 = .ok (.ireturn, 1) := by decide +kernel
theorem dL_trial_0 : decode cL_trial 0 = .ok (.aload_n 3, 1) := by decide +kernel
theorem dL_trial_1 : decode cL_trial 1 = .ok (.iconst 0, 1) := by decide +kernel
theorem dL_trial_2 : decode cL_trial 2 = .ok (.aload_n 0, 1) := by decide +kernel
theorem dL_trial_3 : decode cL_trial 3 = .ok (.iload_n 1, 1) := by decide +kernel
theorem dL_trial_4 : decode cL_trial 4 = .ok (.iload_n 2, 1) := by decide +kernel
theorem dL_trial_5 : decode cL_trial 5 = .ok (.invokevirtual 95, 3) := by decide +kernel
theorem dL_trial_8 : decode cL_trial 8 = .ok (.i2l, 1) := by decide +kernel
theorem dL_trial_9 : decode cL_trial 9 = .ok (.lastore, 1) := by decide +kernel
theorem dL_trial_10 : decode cL_trial 10 = .ok (.goto 7, 3) := by decide +kernel
theorem dL_trial_13 : decode cL_trial 13 = .ok (.astore 4, 2) := by decide +kernel
theorem dL_trial_15 : decode cL_trial 15 = .ok (.iconst 1, 1) := by decide +kernel
theorem dL_trial_16 : decode cL_trial 16 = .ok (.ireturn, 1) := by decide +kernel
theorem dL_trial_17 : decode cL_trial 17 = .ok (.iconst 0, 1) := by decide +kernel
theorem dL_trial_18 : decode cL_trial 18 = .ok (.ireturn, 1) := by decide +kernel
theorem dL_span_0 : decode cL_span 0 = .ok (.aload_n 3, 1) := by decide +kernel
theorem dL_span_1 : decode cL_span 1 = .ok (.iconst 0, 1) := by decide +kernel
theorem dL_span_2 : decode cL_span 2 = .ok (.aload_n 0, 1) := by decide +kernel
theorem dL_span_3 : decode cL_span 3 = .ok (.iload_n 1, 1) := by decide +kernel
theorem dL_span_4 : decode cL_span 4 = .ok (.iload_n 2, 1) := by decide +kernel
theorem dL_span_5 : decode cL_span 5 = .ok (.invokevirtual 99, 3) := by decide +kernel
theorem dL_span_8 : decode cL_span 8 = .ok (.i2l, 1) := by decide +kernel
theorem dL_span_9 : decode cL_span 9 = .ok (.lastore, 1) := by decide +kernel
theorem dL_span_10 : decode cL_span 10 = .ok (.goto 7, 3) := by decide +kernel
theorem dL_span_13 : decode cL_span 13 = .ok (.astore 4, 2) := by decide +kernel
theorem dL_span_15 : decode cL_span 15 = .ok (.iconst 1, 1) := by decide +kernel
theorem dL_span_16 : decode cL_span 16 = .ok (.ireturn, 1) := by decide +kernel
theorem dL_span_17 : decode cL_span 17 = .ok (.iconst 0, 1) := by decide +kernel
theorem dL_span_18 : decode cL_span 18 = .ok (.ireturn, 1) := by decide +kernel
theorem dL_led_0 : decode cL_led 0 = .ok (.aload_n 3, 1) := by decide +kernel
theorem dL_led_1 : decode cL_led 1 = .ok (.iconst 0, 1) := by decide +kernel
theorem dL_led_2 : decode cL_led 2 = .ok (.aload_n 0, 1) := by decide +kernel
theorem dL_led_3 : decode cL_led 3 = .ok (.iload_n 1, 1) := by decide +kernel
theorem dL_led_4 : decode cL_led 4 = .ok (.iload_n 2, 1) := by decide +kernel
theorem dL_led_5 : decode cL_led 5 = .ok (.invokevirtual 102, 3) := by decide +kernel
theorem dL_led_8 : decode cL_led 8 = .ok (.i2l, 1) := by decide +kernel
theorem dL_led_9 : decode cL_led 9 = .ok (.lastore, 1) := by decide +kernel
theorem dL_led_10 : decode cL_led 10 = .ok (.goto 7, 3) := by decide +kernel
theorem dL_led_13 : decode cL_led 13 = .ok (.astore 4, 2) := by decide +kernel
theorem dL_led_15 : decode cL_led 15 = .ok (.iconst 1, 1) := by decide +kernel
theorem dL_led_16 : decode cL_led 16 = .ok (.ireturn, 1) := by decide +kernel
theorem dL_led_17 : decode cL_led 17 = .ok (.iconst 0, 1) := by decide +kernel
theorem dL_led_18 : decode cL_led 18 = .ok (.ireturn, 1) := by decide +kernel
theorem dL_log_0 : decode cL_log 0 = .ok (.aload_n 3, 1) := by decide +kernel
theorem dL_log_1 : decode cL_log 1 = .ok (.iconst 0, 1) := by decide +kernel
theorem dL_log_2 : decode cL_log 2 = .ok (.aload_n 0, 1) := by decide +kernel
theorem dL_log_3 : decode cL_log 3 = .ok (.iload_n 1, 1) := by decide +kernel
theorem dL_log_4 : decode cL_log 4 = .ok (.iload_n 2, 1) := by decide +kernel
theorem dL_log_5 : decode cL_log 5 = .ok (.invokevirtual 105, 3) := by decide +kernel
theorem dL_log_8 : decode cL_log 8 = .ok (.i2l, 1) := by decide +kernel
theorem dL_log_9 : decode cL_log 9 = .ok (.lastore, 1) := by decide +kernel
theorem dL_log_10 : decode cL_log 10 = .ok (.goto 7, 3) := by decide +kernel
theorem dL_log_13 : decode cL_log 13 = .ok (.astore 4, 2) := by decide +kernel
theorem dL_log_15 : decode cL_log 15 = .ok (.iconst 1, 1) := by decide +kernel
theorem dL_log_16 : decode cL_log 16 = .ok (.ireturn, 1) := by decide +kernel
theorem dL_log_17 : decode cL_log 17 = .ok (.iconst 0, 1) := by decide +kernel
theorem dL_log_18 : decode cL_log 18 = .ok (.ireturn, 1) := by decide +kernel
