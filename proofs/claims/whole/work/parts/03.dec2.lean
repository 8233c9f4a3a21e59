theorem dX11_badly_0 : decode cX11_badly 0 = .ok (.iload_n 1, 1) := by decide +kernel
theorem dX11_badly_1 : decode cX11_badly 1 = .ok (.invokestatic 167, 3) := by decide +kernel
theorem dX11_badly_4 : decode cX11_badly 4 = .ok (.ifCond .ne 6, 3) := by decide +kernel
theorem dX11_badly_7 : decode cX11_badly 7 = .ok (.bipush (-3), 2) := by decide +kernel
theorem dX11_badly_9 : decode cX11_badly 9 = .ok (.ireturn, 1) := by decide +kernel
theorem dX11_badly_10 : decode cX11_badly 10 = .ok (.aload_n 0, 1) := by decide +kernel
theorem dX11_badly_11 : decode cX11_badly 11 = .ok (.getfield 10, 3) := by decide +kernel
theorem dX11_badly_14 : decode cX11_badly 14 = .ok (.getfield 180, 3) := by decide +kernel
theorem dX11_badly_17 : decode cX11_badly 17 = .ok (.bipush 6, 2) := by decide +kernel
theorem dX11_badly_19 : decode cX11_badly 19 = .ok (.if_icmp .le 8, 3) := by decide +kernel
theorem dX11_badly_22 : decode cX11_badly 22 = .ok (.bipush (-4), 2) := by decide +kernel
theorem dX11_badly_24 : decode cX11_badly 24 = .ok (.goto 11, 3) := by decide +kernel
theorem dX11_badly_27 : decode cX11_badly 27 = .ok (.aload_n 0, 1) := by decide +kernel
theorem dX11_badly_28 : decode cX11_badly 28 = .ok (.getfield 74, 3) := by decide +kernel
theorem dX11_badly_31 : decode cX11_badly 31 = .ok (.iload_n 1, 1) := by decide +kernel
theorem dX11_badly_32 : decode cX11_badly 32 = .ok (.invokevirtual 214, 3) := by decide +kernel
theorem dX11_badly_35 : decode cX11_badly 35 = .ok (.ireturn, 1) := by decide +kernel
theorem dX11_apart_0 : decode cX11_apart 0 = .ok (.iload_n 1, 1) := by decide +kernel
theorem dX11_apart_1 : decode cX11_apart 1 = .ok (.invokestatic 167, 3) := by decide +kernel
theorem dX11_apart_4 : decode cX11_apart 4 = .ok (.ifCond .eq 8, 3) := by decide +kernel
theorem dX11_apart_7 : decode cX11_apart 7 = .ok (.iload_n 2, 1) := by decide +kernel
theorem dX11_apart_8 : decode cX11_apart 8 = .ok (.iconst (-1), 1) := by decide +kernel
theorem dX11_apart_9 : decode cX11_apart 9 = .ok (.if_icmp .ge 6, 3) := by decide +kernel
theorem dX11_apart_12 : decode cX11_apart 12 = .ok (.bipush (-3), 2) := by decide +kernel
theorem dX11_apart_14 : decode cX11_apart 14 = .ok (.ireturn, 1) := by decide +kernel
theorem dX11_apart_15 : decode cX11_apart 15 = .ok (.aload_n 0, 1) := by decide +kernel
theorem dX11_apart_16 : decode cX11_apart 16 = .ok (.getfield 10, 3) := by decide +kernel
theorem dX11_apart_19 : decode cX11_apart 19 = .ok (.getfield 104, 3) := by decide +kernel
theorem dX11_apart_22 : decode cX11_apart 22 = .ok (.bipush 12, 2) := by decide +kernel
theorem dX11_apart_24 : decode cX11_apart 24 = .ok (.if_icmp .le 6, 3) := by decide +kernel
theorem dX11_apart_27 : decode cX11_apart 27 = .ok (.bipush (-4), 2) := by decide +kernel
theorem dX11_apart_29 : decode cX11_apart 29 = .ok (.ireturn, 1) := by decide +kernel
theorem dX11_apart_30 : decode cX11_apart 30 = .ok (.aload_n 0, 1) := by decide +kernel
theorem dX11_apart_31 : decode cX11_apart 31 = .ok (.getfield 81, 3) := by decide +kernel
theorem dX11_apart_34 : decode cX11_apart 34 = .ok (.iload_n 1, 1) := by decide +kernel
theorem dX11_apart_35 : decode cX11_apart 35 = .ok (.invokevirtual 217, 3) := by decide +kernel
theorem dX11_apart_38 : decode cX11_apart 38 = .ok (.istore_n 3, 1) := by decide +kernel
theorem dX11_apart_39 : decode cX11_apart 39 = .ok (.iload_n 2, 1) := by decide +kernel
theorem dX11_apart_40 : decode cX11_apart 40 = .ok (.iconst (-1), 1) := by decide +kernel
theorem dX11_apart_41 : decode cX11_apart 41 = .ok (.if_icmp .ne 5, 3) := by decide +kernel
theorem dX11_apart_44 : decode cX11_apart 44 = .ok (.iload_n 3, 1) := by decide +kernel
theorem dX11_apart_45 : decode cX11_apart 45 = .ok (.ireturn, 1) := by decide +kernel
theorem dX11_apart_46 : decode cX11_apart 46 = .ok (.iload_n 2, 1) := by decide +kernel
theorem dX11_apart_47 : decode cX11_apart 47 = .ok (.iload_n 3, 1) := by decide +kernel
theorem dX11_apart_48 : decode cX11_apart 48 = .ok (.if_icmp .ge 15, 3) := by decide +kernel
theorem dX11_apart_51 : decode cX11_apart 51 = .ok (.aload_n 0, 1) := by decide +kernel
theorem dX11_apart_52 : decode cX11_apart 52 = .ok (.getfield 81, 3) := by decide +kernel
theorem dX11_apart_55 : decode cX11_apart 55 = .ok (.iload_n 1, 1) := by decide +kernel
theorem dX11_apart_56 : decode cX11_apart 56 = .ok (.iload_n 2, 1) := by decide +kernel
theorem dX11_apart_57 : decode cX11_apart 57 = .ok (.invokevirtual 220, 3) := by decide +kernel
theorem dX11_apart_60 : decode cX11_apart 60 = .ok (.goto 4, 3) := by decide +kernel
theorem dX11_apart_63 : decode cX11_apart 63 = .ok (.iconst (-1), 1) := by decide +kernel
theorem dX11_apart_64 : decode cX11_apart 64 = .ok (.ireturn, 1) := by decide +kernel
theorem dX11_turns_0 : decode cX11_turns 0 = .ok (.iload_n 1, 1) := by decide +kernel
theorem dX11_turns_1 : decode cX11_turns 1 = .ok (.invokestatic 167, 3) := by decide +kernel
theorem dX11_turns_4 : decode cX11_turns 4 = .ok (.ifCond .eq 12, 3) := by decide +kernel
theorem dX11_turns_7 : decode cX11_turns 7 = .ok (.iload_n 2, 1) := by decide +kernel
theorem dX11_turns_8 : decode cX11_turns 8 = .ok (.iconst 0, 1) := by decide +kernel
theorem dX11_turns_9 : decode cX11_turns 9 = .ok (.iconst 1, 1) := by decide +kernel
theorem dX11_turns_10 : decode cX11_turns 10 = .ok (.invokestatic 92, 3) := by decide +kernel
theorem dX11_turns_13 : decode cX11_turns 13 = .ok (.ifCond .ne 6, 3) := by decide +kernel
theorem dX11_turns_16 : decode cX11_turns 16 = .ok (.bipush (-3), 2) := by decide +kernel
theorem dX11_turns_18 : decode cX11_turns 18 = .ok (.ireturn, 1) := by decide +kernel
theorem dX11_turns_19 : decode cX11_turns 19 = .ok (.aload_n 0, 1) := by decide +kernel
theorem dX11_turns_20 : decode cX11_turns 20 = .ok (.getfield 10, 3) := by decide +kernel
theorem dX11_turns_23 : decode cX11_turns 23 = .ok (.getfield 104, 3) := by decide +kernel
theorem dX11_turns_26 : decode cX11_turns 26 = .ok (.bipush 8, 2) := by decide +kernel
theorem dX11_turns_28 : decode cX11_turns 28 = .ok (.if_icmp .le 6, 3) := by decide +kernel
theorem dX11_turns_31 : decode cX11_turns 31 = .ok (.bipush (-4), 2) := by decide +kernel
theorem dX11_turns_33 : decode cX11_turns 33 = .ok (.ireturn, 1) := by decide +kernel
theorem dX11_turns_34 : decode cX11_turns 34 = .ok (.aload_n 0, 1) := by decide +kernel
theorem dX11_turns_35 : decode cX11_turns 35 = .ok (.getfield 88, 3) := by decide +kernel
theorem dX11_turns_38 : decode cX11_turns 38 = .ok (.iload_n 1, 1) := by decide +kernel
theorem dX11_turns_39 : decode cX11_turns 39 = .ok (.invokevirtual 223, 3) := by decide +kernel
theorem dX11_turns_42 : decode cX11_turns 42 = .ok (.iload_n 2, 1) := by decide +kernel
theorem dX11_turns_43 : decode cX11_turns 43 = .ok (.ifCond .ne 15, 3) := by decide +kernel
theorem dX11_turns_46 : decode cX11_turns 46 = .ok (.aload_n 0, 1) := by decide +kernel
theorem dX11_turns_47 : decode cX11_turns 47 = .ok (.getfield 88, 3) := by decide +kernel
theorem dX11_turns_50 : decode cX11_turns 50 = .ok (.invokevirtual 227, 3) := by decide +kernel
theorem dX11_turns_53 : decode cX11_turns 53 = .ok (.iconst 1, 1) := by decide +kernel
theorem dX11_turns_54 : decode cX11_turns 54 = .ok (.iadd, 1) := by decide +kernel
theorem dX11_turns_55 : decode cX11_turns 55 = .ok (.goto 10, 3) := by decide +kernel
theorem dX11_turns_58 : decode cX11_turns 58 = .ok (.aload_n 0, 1) := by decide +kernel
theorem dX11_turns_59 : decode cX11_turns 59 = .ok (.getfield 88, 3) := by decide +kernel
theorem dX11_turns_62 : decode cX11_turns 62 = .ok (.invokevirtual 231, 3) := by decide +kernel
theorem dX11_turns_65 : decode cX11_turns 65 = .ok (.ireturn, 1) := by decide +kernel
theorem dX11_sale_0 : decode cX11_sale 0 = .ok (.aload_n 0, 1) := by decide +kernel
theorem dX11_sale_1 : decode cX11_sale 1 = .ok (.getfield 10, 3) := by decide +kernel
theorem dX11_sale_4 : decode cX11_sale 4 = .ok (.iload_n 1, 1) := by decide +kernel
theorem dX11_sale_5 : decode cX11_sale 5 = .ok (.invokevirtual 152, 3) := by decide +kernel
theorem dX11_sale_8 : decode cX11_sale 8 = .ok (.ifCond .ne 6, 3) := by decide +kernel
theorem dX11_sale_11 : decode cX11_sale 11 = .ok (.bipush (-2), 2) := by decide +kernel
theorem dX11_sale_13 : decode cX11_sale 13 = .ok (.ireturn, 1) := by decide +kernel
theorem dX11_sale_14 : decode cX11_sale 14 = .ok (.aload_n 0, 1) := by decide +kernel
theorem dX11_sale_15 : decode cX11_sale 15 = .ok (.getfield 35, 3) := by decide +kernel
theorem dX11_sale_18 : decode cX11_sale 18 = .ok (.iload_n 1, 1) := by decide +kernel
theorem dX11_sale_19 : decode cX11_sale 19 = .ok (.invokevirtual 234, 3) := by decide +kernel
theorem dX11_sale_22 : decode cX11_sale 22 = .ok (.ifCond .eq 13, 3) := by decide +kernel
theorem dX11_sale_25 : decode cX11_sale 25 = .ok (.aload_n 0, 1) := by decide +kernel
theorem dX11_sale_26 : decode cX11_sale 26 = .ok (.getfield 35, 3) := by decide +kernel
theorem dX11_sale_29 : decode cX11_sale 29 = .ok (.getfield 237, 3) := by decide +kernel
theorem dX11_sale_32 : decode cX11_sale 32 = .ok (.goto 5, 3) := by decide +kernel
theorem dX11_sale_35 : decode cX11_sale 35 = .ok (.bipush (-5), 2) := by decide +kernel
theorem dX11_sale_37 : decode cX11_sale 37 = .ok (.ireturn, 1) := by decide +kernel
theorem dX11_burn_0 : decode cX11_burn 0 = .ok (.aload_n 0, 1) := by decide +kernel
theorem dX11_burn_1 : decode cX11_burn 1 = .ok (.getfield 35, 3) := by decide +kernel
theorem dX11_burn_4 : decode cX11_burn 4 = .ok (.getfield 237, 3) := by decide +kernel
theorem dX11_burn_7 : decode cX11_burn 7 = .ok (.istore_n 1, 1) := by decide +kernel
theorem dX11_burn_8 : decode cX11_burn 8 = .ok (.aload_n 0, 1) := by decide +kernel
theorem dX11_burn_9 : decode cX11_burn 9 = .ok (.getfield 35, 3) := by decide +kernel
theorem dX11_burn_12 : decode cX11_burn 12 = .ok (.iconst 0, 1) := by decide +kernel
theorem dX11_burn_13 : decode cX11_burn 13 = .ok (.putfield 237, 3) := by decide +kernel
theorem dX11_burn_16 : decode cX11_burn 16 = .ok (.iload_n 1, 1) := by decide +kernel
theorem dX11_burn_17 : decode cX11_burn 17 = .ok (.ireturn, 1) := by decide +kernel
theorem dX11_judge_0 : decode cX11_judge 0 = .ok (.iload_n 1, 1) := by decide +kernel
theorem dX11_judge_1 : decode cX11_judge 1 = .ok (.invokestatic 167, 3) := by decide +kernel
theorem dX11_judge_4 : decode cX11_judge 4 = .ok (.ifCond .ne 6, 3) := by decide +kernel
theorem dX11_judge_7 : decode cX11_judge 7 = .ok (.bipush (-3), 2) := by decide +kernel
theorem dX11_judge_9 : decode cX11_judge 9 = .ok (.ireturn, 1) := by decide +kernel
theorem dX11_judge_10 : decode cX11_judge 10 = .ok (.iconst 0, 1) := by decide +kernel
theorem dX11_judge_11 : decode cX11_judge 11 = .ok (.istore_n 2, 1) := by decide +kernel
theorem dX11_judge_12 : decode cX11_judge 12 = .ok (.iconst 0, 1) := by decide +kernel
theorem dX11_judge_13 : decode cX11_judge 13 = .ok (.istore_n 3, 1) := by decide +kernel
theorem dX11_judge_14 : decode cX11_judge 14 = .ok (.iload_n 3, 1) := by decide +kernel
theorem dX11_judge_15 : decode cX11_judge 15 = .ok (.aload_n 0, 1) := by decide +kernel
theorem dX11_judge_16 : decode cX11_judge 16 = .ok (.getfield 35, 3) := by decide +kernel
theorem dX11_judge_19 : decode cX11_judge 19 = .ok (.getfield 237, 3) := by decide +kernel
theorem dX11_judge_22 : decode cX11_judge 22 = .ok (.if_icmp .ge 48, 3) := by decide +kernel
theorem dX11_judge_25 : decode cX11_judge 25 = .ok (.aload_n 0, 1) := by decide +kernel
theorem dX11_judge_26 : decode cX11_judge 26 = .ok (.getfield 35, 3) := by decide +kernel
theorem dX11_judge_29 : decode cX11_judge 29 = .ok (.getfield 238, 3) := by decide +kernel
theorem dX11_judge_32 : decode cX11_judge 32 = .ok (.iload_n 3, 1) := by decide +kernel
theorem dX11_judge_33 : decode cX11_judge 33 = .ok (.iaload, 1) := by decide +kernel
theorem dX11_judge_34 : decode cX11_judge 34 = .ok (.istore 4, 2) := by decide +kernel
theorem dX11_judge_36 : decode cX11_judge 36 = .ok (.aload_n 0, 1) := by decide +kernel
theorem dX11_judge_37 : decode cX11_judge 37 = .ok (.getfield 44, 3) := by decide +kernel
theorem dX11_judge_40 : decode cX11_judge 40 = .ok (.iconst 0, 1) := by decide +kernel
theorem dX11_judge_41 : decode cX11_judge 41 = .ok (.iload 4, 2) := by decide +kernel
theorem dX11_judge_43 : decode cX11_judge 43 = .ok (.iload_n 1, 1) := by decide +kernel
theorem dX11_judge_44 : decode cX11_judge 44 = .ok (.invokevirtual 173, 3) := by decide +kernel
theorem dX11_judge_47 : decode cX11_judge 47 = .ok (.ifCond .eq 10, 3) := by decide +kernel
theorem dX11_judge_50 : decode cX11_judge 50 = .ok (.iload 4, 2) := by decide +kernel
theorem dX11_judge_52 : decode cX11_judge 52 = .ok (.iload_n 2, 1) := by decide +kernel
theorem dX11_judge_53 : decode cX11_judge 53 = .ok (.iand, 1) := by decide +kernel
theorem dX11_judge_54 : decode cX11_judge 54 = .ok (.ifCond .eq 5, 3) := by decide +kernel
theorem dX11_judge_57 : decode cX11_judge 57 = .ok (.iload_n 3, 1) := by decide +kernel
theorem dX11_judge_58 : decode cX11_judge 58 = .ok (.ireturn, 1) := by decide +kernel
theorem dX11_judge_59 : decode cX11_judge 59 = .ok (.iload_n 2, 1) := by decide +kernel
theorem dX11_judge_60 : decode cX11_judge 60 = .ok (.iload 4, 2) := by decide +kernel
theorem dX11_judge_62 : decode cX11_judge 62 = .ok (.ior, 1) := by decide +kernel
theorem dX11_judge_63 : decode cX11_judge 63 = .ok (.istore_n 2, 1) := by decide +kernel
theorem dX11_judge_64 : decode cX11_judge 64 = .ok (.iinc 3 1, 3) := by decide +kernel
theorem dX11_judge_67 : decode cX11_judge 67 = .ok (.goto (-53), 3) := by decide +kernel
theorem dX11_judge_70 : decode cX11_judge 70 = .ok (.iconst (-1), 1) := by decide +kernel
theorem dX11_judge_71 : decode cX11_judge 71 = .ok (.ireturn, 1) := by decide +kernel
theorem dX11_keep_0 : decode cX11_keep 0 = .ok (.iload_n 1, 1) := by decide +kernel
theorem dX11_keep_1 : decode cX11_keep 1 = .ok (.iconst 0, 1) := by decide +kernel
theorem dX11_keep_2 : decode cX11_keep 2 = .ok (.iconst 1, 1) := by decide +kernel
theorem dX11_keep_3 : decode cX11_keep 3 = .ok (.invokestatic 92, 3) := by decide +kernel
theorem dX11_keep_6 : decode cX11_keep 6 = .ok (.ifCond .ne 6, 3) := by decide +kernel
theorem dX11_keep_9 : decode cX11_keep 9 = .ok (.bipush (-2), 2) := by decide +kernel
theorem dX11_keep_11 : decode cX11_keep 11 = .ok (.ireturn, 1) := by decide +kernel
theorem dX11_keep_12 : decode cX11_keep 12 = .ok (.aload_n 0, 1) := by decide +kernel
theorem dX11_keep_13 : decode cX11_keep 13 = .ok (.getfield 35, 3) := by decide +kernel
theorem dX11_keep_16 : decode cX11_keep 16 = .ok (.iload_n 1, 1) := by decide +kernel
theorem dX11_keep_17 : decode cX11_keep 17 = .ok (.invokevirtual 241, 3) := by decide +kernel
theorem dX11_keep_20 : decode cX11_keep 20 = .ok (.aload_n 0, 1) := by decide +kernel
theorem dX11_keep_21 : decode cX11_keep 21 = .ok (.getfield 10, 3) := by decide +kernel
theorem dX11_keep_24 : decode cX11_keep 24 = .ok (.getfield 104, 3) := by decide +kernel
theorem dX11_keep_27 : decode cX11_keep 27 = .ok (.ireturn, 1) := by decide +kernel
theorem dX11_back_0 : decode cX11_back 0 = .ok (.iload_n 1, 1) := by decide +kernel
theorem dX11_back_1 : decode cX11_back 1 = .ok (.iconst 0, 1) := by decide +kernel
theorem dX11_back_2 : decode cX11_back 2 = .ok (.iconst 1, 1) := by decide +kernel
theorem dX11_back_3 : decode cX11_back 3 = .ok (.invokestatic 92, 3) := by decide +kernel
theorem dX11_back_6 : decode cX11_back 6 = .ok (.ifCond .ne 6, 3) := by decide +kernel
theorem dX11_back_9 : decode cX11_back 9 = .ok (.bipush (-2), 2) := by decide +kernel
theorem dX11_back_11 : decode cX11_back 11 = .ok (.ireturn, 1) := by decide +kernel
theorem dX11_back_12 : decode cX11_back 12 = .ok (.aload_n 0, 1) := by decide +kernel
theorem dX11_back_13 : decode cX11_back 13 = .ok (.getfield 35, 3) := by decide +kernel
theorem dX11_back_16 : decode cX11_back 16 = .ok (.iload_n 1, 1) := by decide +kernel
theorem dX11_back_17 : decode cX11_back 17 = .ok (.invokevirtual 244, 3) := by decide +kernel
theorem dX11_back_20 : decode cX11_back 20 = .ok (.ifCond .eq 13, 3) := by decide +kernel
theorem dX11_back_23 : decode cX11_back 23 = .ok (.aload_n 0, 1) := by decide +kernel
theorem dX11_back_24 : decode cX11_back 24 = .ok (.getfield 10, 3) := by decide +kernel
theorem dX11_back_27 : decode cX11_back 27 = .ok (.getfield 104, 3) := by decide +kernel
theorem dX11_back_30 : decode cX11_back 30 = .ok (.goto 5, 3) := by decide +kernel
theorem dX11_back_33 : decode cX11_back 33 = .ok (.bipush (-4), 2) := by decide +kernel
theorem dX11_back_35 : decode cX11_back 35 = .ok (.ireturn, 1) := by decide +kernel
theorem dX11_count_0 : decode cX11_count 0 = .ok (.iload_n 1, 1) := by decide +kernel
theorem dX11_count_1 : decode cX11_count 1 = .ok (.tableswitch 63 0 3 #[31, 39, 47, 55], 31) := by decide +kernel
theorem dX11_count_32 : decode cX11_count 32 = .ok (.aload_n 0, 1) := by decide +kernel
theorem dX11_count_33 : decode cX11_count 33 = .ok (.getfield 10, 3) := by decide +kernel
theorem dX11_count_36 : decode cX11_count 36 = .ok (.getfield 104, 3) := by decide +kernel
theorem dX11_count_39 : decode cX11_count 39 = .ok (.ireturn, 1) := by decide +kernel
theorem dX11_count_40 : decode cX11_count 40 = .ok (.aload_n 0, 1) := by decide +kernel
theorem dX11_count_41 : decode cX11_count 41 = .ok (.getfield 10, 3) := by decide +kernel
theorem dX11_count_44 : decode cX11_count 44 = .ok (.getfield 180, 3) := by decide +kernel
theorem dX11_count_47 : decode cX11_count 47 = .ok (.ireturn, 1) := by decide +kernel
theorem dX11_count_48 : decode cX11_count 48 = .ok (.aload_n 0, 1) := by decide +kernel
theorem dX11_count_49 : decode cX11_count 49 = .ok (.getfield 19, 3) := by decide +kernel
theorem dX11_count_52 : decode cX11_count 52 = .ok (.getfield 100, 3) := by decide +kernel
theorem dX11_count_55 : decode cX11_count 55 = .ok (.ireturn, 1) := by decide +kernel
theorem dX11_count_56 : decode cX11_count 56 = .ok (.aload_n 0, 1) := by decide +kernel
theorem dX11_count_57 : decode cX11_count 57 = .ok (.getfield 35, 3) := by decide +kernel
theorem dX11_count_60 : decode cX11_count 60 = .ok (.getfield 237, 3) := by decide +kernel
theorem dX11_count_63 : decode cX11_count 63 = .ok (.ireturn, 1) := by decide +kernel
theorem dX11_count_64 : decode cX11_count 64 = .ok (.bipush (-3), 2) := by decide +kernel
theorem dX11_count_66 : decode cX11_count 66 = .ok (.ireturn, 1) := by decide +kernel
theorem dX11_within_0 : decode cX11_within 0 = .ok (.iload_n 0, 1) := by decide +kernel
theorem dX11_within_1 : decode cX11_within 1 = .ok (.iload_n 1, 1) := by decide +kernel
theorem dX11_within_2 : decode cX11_within 2 = .ok (.if_icmp .lt 12, 3) := by decide +kernel
theorem dX11_within_5 : decode cX11_within 5 = .ok (.iload_n 0, 1) := by decide +kernel
theorem dX11_within_6 : decode cX11_within 6 = .ok (.iload_n 2, 1) := by decide +kernel
theorem dX11_within_7 : decode cX11_within 7 = .ok (.if_icmp .gt 7, 3) := by decide +kernel
theorem dX11_within_10 : decode cX11_within 10 = .ok (.iconst 1, 1) := by decide +kernel
theorem dX11_within_11 : decode cX11_within 11 = .ok (.goto 4, 3) := by decide +kernel
theorem dX11_within_14 : decode cX11_within 14 = .ok (.iconst 0, 1) := by decide +kernel
theorem dX11_within_15 : decode cX11_within 15 = .ok (.ireturn, 1) := by decide +kernel
theorem dX11_isSize_0 : decode cX11_isSize 0 = .ok (.iload_n 0, 1) := by decide +kernel
theorem dX11_isSize_1 : decode cX11_isSize 1 = .ok (.iconst 1, 1) := by decide +kernel
theorem dX11_isSize_2 : decode cX11_isSize 2 = .ok (.bipush 20, 2) := by decide +kernel
theorem dX11_isSize_4 : decode cX11_isSize 4 = .ok (.invokestatic 92, 3) := by decide +kernel
theorem dX11_isSize_7 : decode cX11_isSize 7 = .ok (.ireturn, 1) := by decide +kernel
theorem dX11_isHanded_0 : decode cX11_isHanded 0 = .ok (.iload_n 0, 1) := by decide +kernel
theorem dX11_isHanded_1 : decode cX11_isHanded 1 = .ok (.iconst 2, 1) := by decide +kernel
theorem dX11_isHanded_2 : decode cX11_isHanded 2 = .ok (.iconst 5, 1) := by decide +kernel
theorem dX11_isHanded_3 : decode cX11_isHanded 3 = .ok (.invokestatic 92, 3) := by decide +kernel
theorem dX11_isHanded_6 : decode cX11_isHanded 6 = .ok (.ifCond .eq 17, 3) := by decide +kernel
theorem dX11_isHanded_9 : decode cX11_isHanded 9 = .ok (.iload_n 1, 1) := by decide +kernel
theorem dX11_isHanded_10 : decode cX11_isHanded 10 = .ok (.iconst 1, 1) := by decide +kernel
theorem dX11_isHanded_11 : decode cX11_isHanded 11 = .ok (.bipush 9, 2) := by decide +kernel
theorem dX11_isHanded_13 : decode cX11_isHanded 13 = .ok (.invokestatic 92, 3) := by decide +kernel
theorem dX11_isHanded_16 : decode cX11_isHanded 16 = .ok (.ifCond .eq 7, 3) := by decide +kernel
theorem dX11_isHanded_19 : decode cX11_isHanded 19 = .ok (.iconst 1, 1) := by decide +kernel
theorem dX11_isHanded_20 : decode cX11_isHanded 20 = .ok (.goto 4, 3) := by decide +kernel
theorem dX11_isHanded_23 : decode cX11_isHanded 23 = .ok (.iconst 0, 1) := by decide +kernel
theorem dX11_isHanded_24 : decode cX11_isHanded 24 = .ok (.ireturn, 1) := by decide +kernel
theorem dX11_turned_0 : decode cX11_turned 0 = .ok (.iload_n 0, 1) := by decide +kernel
theorem dX11_turned_1 : decode cX11_turned 1 = .ok (.iload_n 1, 1) := by decide +kernel
theorem dX11_turned_2 : decode cX11_turned 2 = .ok (.if_icmp .lt 9, 3) := by decide +kernel
theorem dX11_turned_5 : decode cX11_turned 5 = .ok (.iload_n 0, 1) := by decide +kernel
theorem dX11_turned_6 : decode cX11_turned 6 = .ok (.iload_n 1, 1) := by decide +kernel
theorem dX11_turned_7 : decode cX11_turned 7 = .ok (.isub, 1) := by decide +kernel
theorem dX11_turned_8 : decode cX11_turned 8 = .ok (.goto 4, 3) := by decide +kernel
theorem dX11_turned_11 : decode cX11_turned 11 = .ok (.iload_n 0, 1) := by decide +kernel
theorem dX11_turned_12 : decode cX11_turned 12 = .ok (.ireturn, 1) := by decide +kernel
theorem dX11_isAhead_0 : decode cX11_isAhead 0 = .ok (.iload_n 0, 1) := by decide +kernel
theorem dX11_isAhead_1 : decode cX11_isAhead 1 = .ok (.iload_n 1, 1) := by decide +kernel
theorem dX11_isAhead_2 : decode cX11_isAhead 2 = .ok (.ixor, 1) := by decide +kernel
theorem dX11_isAhead_3 : decode cX11_isAhead 3 = .ok (.istore_n 2, 1) := by decide +kernel
theorem dX11_isAhead_4 : decode cX11_isAhead 4 = .ok (.iload_n 0, 1) := by decide +kernel
theorem dX11_isAhead_5 : decode cX11_isAhead 5 = .ok (.iload_n 2, 1) := by decide +kernel
theorem dX11_isAhead_6 : decode cX11_isAhead 6 = .ok (.iand, 1) := by decide +kernel
theorem dX11_isAhead_7 : decode cX11_isAhead 7 = .ok (.iload_n 2, 1) := by decide +kernel
theorem dX11_isAhead_8 : decode cX11_isAhead 8 = .ok (.ineg, 1) := by decide +kernel
theorem dX11_isAhead_9 : decode cX11_isAhead 9 = .ok (.iand, 1) := by decide +kernel
theorem dX11_isAhead_10 : decode cX11_isAhead 10 = .ok (.ifCond .eq 7, 3) := by decide +kernel
theorem dX11_isAhead_13 : decode cX11_isAhead 13 = .ok (.iconst 1, 1) := by decide +kernel
theorem dX11_isAhead_14 : decode cX11_isAhead 14 = .ok (.goto 4, 3) := by decide +kernel
theorem dX11_isAhead_17 : decode cX11_isAhead 17 = .ok (.iconst 0, 1) := by decide +kernel
theorem dX11_isAhead_18 : decode cX11_isAhead 18 = .ok (.ireturn, 1) := by decide +kernel
theorem dX12_init_0 : decode cX12_init 0 = .ok (.aload_n 0, 1) := by decide +kernel
theorem dX12_init_1 : decode cX12_init 1 = .ok (.invokespecial 1, 3) := by decide +kernel
theorem dX12_init_4 : decode cX12_init 4 = .ok (.aload_n 0, 1) := by decide +kernel
theorem dX12_init_5 : decode cX12_init 5 = .ok (.bipush 60, 2) := by decide +kernel
theorem dX12_init_7 : decode cX12_init 7 = .ok (.newarray .long, 2) := by decide +kernel
theorem dX12_init_9 : decode cX12_init 9 = .ok (.putfield 7, 3) := by decide +kernel
theorem dX12_init_12 : decode cX12_init 12 = .ok (.aload_n 0, 1) := by decide +kernel
theorem dX12_init_13 : decode cX12_init 13 = .ok (.sipush 180, 3) := by decide +kernel
theorem dX12_init_16 : decode cX12_init 16 = .ok (.newarray .int, 2) := by decide +kernel
theorem dX12_init_18 : decode cX12_init 18 = .ok (.putfield 13, 3) := by decide +kernel
theorem dX12_init_21 : decode cX12_init 21 = .ok (.aload_n 0, 1) := by decide +kernel
theorem dX12_init_22 : decode cX12_init 22 = .ok (.bipush 9, 2) := by decide +kernel
theorem dX12_init_24 : decode cX12_init 24 = .ok (.newarray .int, 2) := by decide +kernel
theorem dX12_init_26 : decode cX12_init 26 = .ok (.dup, 1) := by decide +kernel
theorem dX12_init_27 : decode cX12_init 27 = .ok (.iconst 0, 1) := by decide +kernel
theorem dX12_init_28 : decode cX12_init 28 = .ok (.iconst 0, 1) := by decide +kernel
theorem dX12_init_29 : decode cX12_init 29 = .ok (.iastore, 1) := by decide +kernel
theorem dX12_init_30 : decode cX12_init 30 = .ok (.dup, 1) := by decide +kernel
theorem dX12_init_31 : decode cX12_init 31 = .ok (.iconst 1, 1) := by decide +kernel
theorem dX12_init_32 : decode cX12_init 32 = .ok (.bipush 10, 2) := by decide +kernel
theorem dX12_init_34 : decode cX12_init 34 = .ok (.iastore, 1) := by decide +kernel
theorem dX12_init_35 : decode cX12_init 35 = .ok (.dup, 1) := by decide +kernel
theorem dX12_init_36 : decode cX12_init 36 = .ok (.iconst 2, 1) := by decide +kernel
theorem dX12_init_37 : decode cX12_init 37 = .ok (.iconst 0, 1) := by decide +kernel
theorem dX12_init_38 : decode cX12_init 38 = .ok (.iastore, 1) := by decide +kernel
theorem dX12_init_39 : decode cX12_init 39 = .ok (.dup, 1) := by decide +kernel
theorem dX12_init_40 : decode cX12_init 40 = .ok (.iconst 3, 1) := by decide +kernel
theorem dX12_init_41 : decode cX12_init 41 = .ok (.iconst 0, 1) := by decide +kernel
theorem dX12_init_42 : decode cX12_init 42 = .ok (.iastore, 1) := by decide +kernel
theorem dX12_init_43 : decode cX12_init 43 = .ok (.dup, 1) := by decide +kernel
theorem dX12_init_44 : decode cX12_init 44 = .ok (.iconst 4, 1) := by decide +kernel
theorem dX12_init_45 : decode cX12_init 45 = .ok (.iconst 0, 1) := by decide +kernel
theorem dX12_init_46 : decode cX12_init 46 = .ok (.iastore, 1) := by decide +kernel
theorem dX12_init_47 : decode cX12_init 47 = .ok (.dup, 1) := by decide +kernel
theorem dX12_init_48 : decode cX12_init 48 = .ok (.iconst 5, 1) := by decide +kernel
theorem dX12_init_49 : decode cX12_init 49 = .ok (.iconst 0, 1) := by decide +kernel
theorem dX12_init_50 : decode cX12_init 50 = .ok (.iastore, 1) := by decide +kernel
theorem dX12_init_51 : decode cX12_init 51 = .ok (.dup, 1) := by decide +kernel
theorem dX12_init_52 : decode cX12_init 52 = .ok (.bipush 6, 2) := by decide +kernel
theorem dX12_init_54 : decode cX12_init 54 = .ok (.iconst 0, 1) := by decide +kernel
theorem dX12_init_55 : decode cX12_init 55 = .ok (.iastore, 1) := by decide +kernel
theorem dX12_init_56 : decode cX12_init 56 = .ok (.dup, 1) := by decide +kernel
theorem dX12_init_57 : decode cX12_init 57 = .ok (.bipush 7, 2) := by decide +kernel
theorem dX12_init_59 : decode cX12_init 59 = .ok (.iconst 0, 1) := by decide +kernel
theorem dX12_init_60 : decode cX12_init 60 = .ok (.iastore, 1) := by decide +kernel
theorem dX12_init_61 : decode cX12_init 61 = .ok (.dup, 1) := by decide +kernel
theorem dX12_init_62 : decode cX12_init 62 = .ok (.bipush 8, 2) := by decide +kernel
theorem dX12_init_64 : decode cX12_init 64 = .ok (.iconst 0, 1) := by decide +kernel
theorem dX12_init_65 : decode cX12_init 65 = .ok (.iastore, 1) := by decide +kernel
theorem dX12_init_66 : decode cX12_init 66 = .ok (.putfield 17, 3) := by decide +kernel
theorem dX12_init_69 : decode cX12_init 69 = .ok (.aload_n 0, 1) := by decide +kernel
theorem dX12_init_70 : decode cX12_init 70 = .ok (.bipush 36, 2) := by decide +kernel
theorem dX12_init_72 : decode cX12_init 72 = .ok (.newarray .int, 2) := by decide +kernel
theorem dX12_init_74 : decode cX12_init 74 = .ok (.putfield 20, 3) := by decide +kernel
theorem dX12_init_77 : decode cX12_init 77 = .ok (.aload_n 0, 1) := by decide +kernel
theorem dX12_init_78 : decode cX12_init 78 = .ok (.iconst 2, 1) := by decide +kernel
theorem dX12_init_79 : decode cX12_init 79 = .ok (.newarray .boolean, 2) := by decide +kernel
theorem dX12_init_81 : decode cX12_init 81 = .ok (.putfield 23, 3) := by decide +kernel
theorem dX12_init_84 : decode cX12_init 84 = .ok (.aload_n 0, 1) := by decide +kernel
theorem dX12_init_85 : decode cX12_init 85 = .ok (.sipush 200, 3) := by decide +kernel
theorem dX12_init_88 : decode cX12_init 88 = .ok (.newarray .int, 2) := by decide +kernel
theorem dX12_init_90 : decode cX12_init 90 = .ok (.putfield 27, 3) := by decide +kernel
theorem dX12_init_93 : decode cX12_init 93 = .ok (.aload_n 0, 1) := by decide +kernel
theorem dX12_init_94 : decode cX12_init 94 = .ok (.bipush 50, 2) := by decide +kernel
theorem dX12_init_96 : decode cX12_init 96 = .ok (.newarray .int, 2) := by decide +kernel
theorem dX12_init_98 : decode cX12_init 98 = .ok (.putfield 30, 3) := by decide +kernel
theorem dX12_init_101 : decode cX12_init 101 = .ok (.aload_n 0, 1) := by decide +kernel
theorem dX12_init_102 : decode cX12_init 102 = .ok (.bipush 10, 2) := by decide +kernel
theorem dX12_init_104 : decode cX12_init 104 = .ok (.newarray .long, 2) := by decide +kernel
theorem dX12_init_106 : decode cX12_init 106 = .ok (.putfield 33, 3) := by decide +kernel
theorem dX12_init_109 : decode cX12_init 109 = .ok (.aload_n 0, 1) := by decide +kernel
theorem dX12_init_110 : decode cX12_init 110 = .ok (.ldc 36, 2) := by decide +kernel
theorem dX12_init_112 : decode cX12_init 112 = .ok (.newarray .boolean, 2) := by decide +kernel
theorem dX12_init_114 : decode cX12_init 114 = .ok (.putfield 37, 3) := by decide +kernel
theorem dX12_init_117 : decode cX12_init 117 = .ok (.aload_n 0, 1) := by decide +kernel
theorem dX12_init_118 : decode cX12_init 118 = .ok (.sipush 4410, 3) := by decide +kernel
theorem dX12_init_121 : decode cX12_init 121 = .ok (.newarray .int, 2) := by decide +kernel
theorem dX12_init_123 : decode cX12_init 123 = .ok (.putfield 40, 3) := by decide +kernel
theorem dX12_init_126 : decode cX12_init 126 = .ok (.aload_n 0, 1) := by decide +kernel
theorem dX12_init_127 : decode cX12_init 127 = .ok (.sipush 4410, 3) := by decide +kernel
theorem dX12_init_130 : decode cX12_init 130 = .ok (.newarray .long, 2) := by decide +kernel
theorem dX12_init_132 : decode cX12_init 132 = .ok (.putfield 43, 3) := by decide +kernel
theorem dX12_init_135 : decode cX12_init 135 = .ok (.aload_n 0, 1) := by decide +kernel
theorem dX12_init_136 : decode cX12_init 136 = .ok (.bipush 10, 2) := by decide +kernel
theorem dX12_init_138 : decode cX12_init 138 = .ok (.newarray .int, 2) := by decide +kernel
theorem dX12_init_140 : decode cX12_init 140 = .ok (.putfield 46, 3) := by decide +kernel
theorem dX12_init_143 : decode cX12_init 143 = .ok (.aload_n 0, 1) := by decide +kernel
theorem dX12_init_144 : decode cX12_init 144 = .ok (.sipush 210, 3) := by decide +kernel
theorem dX12_init_147 : decode cX12_init 147 = .ok (.newarray .boolean, 2) := by decide +kernel
theorem dX12_init_149 : decode cX12_init 149 = .ok (.putfield 49, 3) := by decide +kernel
theorem dX12_init_152 : decode cX12_init 152 = .ok (.aload_n 0, 1) := by decide +kernel
theorem dX12_init_153 : decode cX12_init 153 = .ok (.bipush 10, 2) := by decide +kernel
theorem dX12_init_155 : decode cX12_init 155 = .ok (.newarray .int, 2) := by decide +kernel
theorem dX12_init_157 : decode cX12_init 157 = .ok (.putfield 52, 3) := by decide +kernel
theorem dX12_init_160 : decode cX12_init 160 = .ok (.aload_n 0, 1) := by decide +kernel
theorem dX12_init_161 : decode cX12_init 161 = .ok (.sipush 4096, 3) := by decide +kernel
theorem dX12_init_164 : decode cX12_init 164 = .ok (.newarray .int, 2) := by decide +kernel
theorem dX12_init_166 : decode cX12_init 166 = .ok (.putfield 55, 3) := by decide +kernel
theorem dX12_init_169 : decode cX12_init 169 = .ok (.aload_n 0, 1) := by decide +kernel
theorem dX12_init_170 : decode cX12_init 170 = .ok (.sipush 4096, 3) := by decide +kernel
theorem dX12_init_173 : decode cX12_init 173 = .ok (.newarray .boolean, 2) := by decide +kernel
theorem dX12_init_175 : decode cX12_init 175 = .ok (.putfield 58, 3) := by decide +kernel
theorem dX12_init_178 : decode cX12_init 178 = .ok (.aload_n 0, 1) := by decide +kernel
theorem dX12_init_179 : decode cX12_init 179 = .ok (.sipush 6561, 3) := by decide +kernel
theorem dX12_init_182 : decode cX12_init 182 = .ok (.newarray .int, 2) := by decide +kernel
theorem dX12_init_184 : decode cX12_init 184 = .ok (.putfield 61, 3) := by decide +kernel
theorem dX12_init_187 : decode cX12_init 187 = .ok (.aload_n 0, 1) := by decide +kernel
theorem dX12_init_188 : decode cX12_init 188 = .ok (.sipush 256, 3) := by decide +kernel
theorem dX12_init_191 : decode cX12_init 191 = .ok (.newarray .boolean, 2) := by decide +kernel
theorem dX12_init_193 : decode cX12_init 193 = .ok (.putfield 64, 3) := by decide +kernel
theorem dX12_init_196 : decode cX12_init 196 = .ok (.return_, 1) := by decide +kernel
theorem dX12_in_0 : decode cX12_in 0 = .ok (.lload_n 0, 1) := by decide +kernel
theorem dX12_in_1 : decode cX12_in 1 = .ok (.lload_n 2, 1) := by decide +kernel
theorem dX12_in_2 : decode cX12_in 2 = .ok (.lcmp, 1) := by decide +kernel
theorem dX12_in_3 : decode cX12_in 3 = .ok (.ifCond .lt 14, 3) := by decide +kernel
theorem dX12_in_6 : decode cX12_in 6 = .ok (.lload_n 0, 1) := by decide +kernel
theorem dX12_in_7 : decode cX12_in 7 = .ok (.lload 4, 2) := by decide +kernel
theorem dX12_in_9 : decode cX12_in 9 = .ok (.lcmp, 1) := by decide +kernel
theorem dX12_in_10 : decode cX12_in 10 = .ok (.ifCond .gt 7, 3) := by decide +kernel
theorem dX12_in_13 : decode cX12_in 13 = .ok (.iconst 1, 1) := by decide +kernel
theorem dX12_in_14 : decode cX12_in 14 = .ok (.goto 4, 3) := by decide +kernel
theorem dX12_in_17 : decode cX12_in 17 = .ok (.iconst 0, 1) := by decide +kernel
theorem dX12_in_18 : decode cX12_in 18 = .ok (.ireturn, 1) := by decide +kernel
theorem dX12_has_0 : decode cX12_has 0 = .ok (.iload_n 0, 1) := by decide +kernel
theorem dX12_has_1 : decode cX12_has 1 = .ok (.iload_n 1, 1) := by decide +kernel
theorem dX12_has_2 : decode cX12_has 2 = .ok (.ishr, 1) := by decide +kernel
theorem dX12_has_3 : decode cX12_has 3 = .ok (.iconst 1, 1) := by decide +kernel
theorem dX12_has_4 : decode cX12_has 4 = .ok (.iand, 1) := by decide +kernel
theorem dX12_has_5 : decode cX12_has 5 = .ok (.iconst 1, 1) := by decide +kernel
theorem dX12_has_6 : decode cX12_has 6 = .ok (.if_icmp .ne 7, 3) := by decide +kernel
theorem dX12_has_9 : decode cX12_has 9 = .ok (.iconst 1, 1) := by decide +kernel
theorem dX12_has_10 : decode cX12_has 10 = .ok (.goto 4, 3) := by decide +kernel
theorem dX12_has_13 : decode cX12_has 13 = .ok (.iconst 0, 1) := by decide +kernel
theorem dX12_has_14 : decode cX12_has 14 = .ok (.ireturn, 1) := by decide +kernel
theorem dX12_heaps_0 : decode cX12_heaps 0 = .ok (.aload_n 0, 1) := by decide +kernel
theorem dX12_heaps_1 : decode cX12_heaps 1 = .ok (.getfield 17, 3) := by decide +kernel
theorem dX12_heaps_4 : decode cX12_heaps 4 = .ok (.iconst 0, 1) := by decide +kernel
theorem dX12_heaps_5 : decode cX12_heaps 5 = .ok (.iaload, 1) := by decide +kernel
theorem dX12_heaps_6 : decode cX12_heaps 6 = .ok (.ireturn, 1) := by decide +kernel
theorem dX12_parts_0 : decode cX12_parts 0 = .ok (.aload_n 0, 1) := by decide +kernel
theorem dX12_parts_1 : decode cX12_parts 1 = .ok (.getfield 17, 3) := by decide +kernel
theorem dX12_parts_4 : decode cX12_parts 4 = .ok (.iconst 1, 1) := by decide +kernel
theorem dX12_parts_5 : decode cX12_parts 5 = .ok (.iaload, 1) := by decide +kernel
theorem dX12_parts_6 : decode cX12_parts 6 = .ok (.ireturn, 1) := by decide +kernel
theorem dX12_write_0 : decode cX12_write 0 = .ok (.iload_n 3, 1) := by decide +kernel
theorem dX12_write_1 : decode cX12_write 1 = .ok (.i2l, 1) := by decide +kernel
theorem dX12_write_2 : decode cX12_write 2 = .ok (.lconst 1, 1) := by decide +kernel
theorem dX12_write_3 : decode cX12_write 3 = .ok (.ldc2_w 67, 3) := by decide +kernel
theorem dX12_write_6 : decode cX12_write 6 = .ok (.invokestatic 69, 3) := by decide +kernel
theorem dX12_write_9 : decode cX12_write 9 = .ok (.ifCond .ne 6, 3) := by decide +kernel
theorem dX12_write_12 : decode cX12_write 12 = .ok (.bipush (-3), 2) := by decide +kernel
theorem dX12_write_14 : decode cX12_write 14 = .ok (.ireturn, 1) := by decide +kernel
theorem dX12_write_15 : decode cX12_write 15 = .ok (.aload_n 0, 1) := by decide +kernel
theorem dX12_write_16 : decode cX12_write 16 = .ok (.getfield 73, 3) := by decide +kernel
theorem dX12_write_19 : decode cX12_write 19 = .ok (.iload_n 3, 1) := by decide +kernel
theorem dX12_write_20 : decode cX12_write 20 = .ok (.iadd, 1) := by decide +kernel
theorem dX12_write_21 : decode cX12_write 21 = .ok (.sipush 200, 3) := by decide +kernel
theorem dX12_write_24 : decode cX12_write 24 = .ok (.if_icmp .le 6, 3) := by decide +kernel
theorem dX12_write_27 : decode cX12_write 27 = .ok (.bipush (-5), 2) := by decide +kernel
theorem dX12_write_29 : decode cX12_write 29 = .ok (.ireturn, 1) := by decide +kernel
theorem dX12_write_30 : decode cX12_write 30 = .ok (.iconst 0, 1) := by decide +kernel
theorem dX12_write_31 : decode cX12_write 31 = .ok (.istore 4, 2) := by decide +kernel
theorem dX12_write_33 : decode cX12_write 33 = .ok (.iload 4, 2) := by decide +kernel
theorem dX12_write_35 : decode cX12_write 35 = .ok (.iload_n 3, 1) := by decide +kernel
theorem dX12_write_36 : decode cX12_write 36 = .ok (.if_icmp .ge 40, 3) := by decide +kernel
theorem dX12_write_39 : decode cX12_write 39 = .ok (.aload_n 0, 1) := by decide +kernel
theorem dX12_write_40 : decode cX12_write 40 = .ok (.getfield 27, 3) := by decide +kernel
theorem dX12_write_43 : decode cX12_write 43 = .ok (.aload_n 0, 1) := by decide +kernel
theorem dX12_write_44 : decode cX12_write 44 = .ok (.getfield 73, 3) := by decide +kernel
theorem dX12_write_47 : decode cX12_write 47 = .ok (.lload_n 1, 1) := by decide +kernel
theorem dX12_write_48 : decode cX12_write 48 = .ok (.bipush 8, 2) := by decide +kernel
theorem dX12_write_50 : decode cX12_write 50 = .ok (.iload 4, 2) := by decide +kernel
theorem dX12_write_52 : decode cX12_write 52 = .ok (.imul, 1) := by decide +kernel
theorem dX12_write_53 : decode cX12_write 53 = .ok (.lshr, 1) := by decide +kernel
theorem dX12_write_54 : decode cX12_write 54 = .ok (.ldc2_w 77, 3) := by decide +kernel
theorem dX12_write_57 : decode cX12_write 57 = .ok (.land, 1) := by decide +kernel
theorem dX12_write_58 : decode cX12_write 58 = .ok (.l2i, 1) := by decide +kernel
theorem dX12_write_59 : decode cX12_write 59 = .ok (.iastore, 1) := by decide +kernel
theorem dX12_write_60 : decode cX12_write 60 = .ok (.aload_n 0, 1) := by decide +kernel
theorem dX12_write_61 : decode cX12_write 61 = .ok (.dup, 1) := by decide +kernel
theorem dX12_write_62 : decode cX12_write 62 = .ok (.getfield 73, 3) := by decide +kernel
theorem dX12_write_65 : decode cX12_write 65 = .ok (.iconst 1, 1) := by decide +kernel
theorem dX12_write_66 : decode cX12_write 66 = .ok (.iadd, 1) := by decide +kernel
theorem dX12_write_67 : decode cX12_write 67 = .ok (.putfield 73, 3) := by decide +kernel
theorem dX12_write_70 : decode cX12_write 70 = .ok (.iinc 4 1, 3) := by decide +kernel
theorem dX12_write_73 : decode cX12_write 73 = .ok (.goto (-40), 3) := by decide +kernel
theorem dX12_write_76 : decode cX12_write 76 = .ok (.aload_n 0, 1) := by decide +kernel
theorem dX12_write_77 : decode cX12_write 77 = .ok (.getfield 73, 3) := by decide +kernel
theorem dX12_write_80 : decode cX12_write 80 = .ok (.ireturn, 1) := by decide +kernel
theorem dX12_erase_0 : decode cX12_erase 0 = .ok (.aload_n 0, 1) := by decide +kernel
theorem dX12_erase_1 : decode cX12_erase 1 = .ok (.getfield 73, 3) := by decide +kernel
theorem dX12_erase_4 : decode cX12_erase 4 = .ok (.istore_n 1, 1) := by decide +kernel
theorem dX12_erase_5 : decode cX12_erase 5 = .ok (.aload_n 0, 1) := by decide +kernel
theorem dX12_erase_6 : decode cX12_erase 6 = .ok (.iconst 0, 1) := by decide +kernel
theorem dX12_erase_7 : decode cX12_erase 7 = .ok (.putfield 73, 3) := by decide +kernel
theorem dX12_erase_10 : decode cX12_erase 10 = .ok (.iload_n 1, 1) := by decide +kernel
theorem dX12_erase_11 : decode cX12_erase 11 = .ok (.ireturn, 1) := by decide +kernel
theorem dX12_sort_0 : decode cX12_sort 0 = .ok (.iload_n 0, 1) := by decide +kernel
theorem dX12_sort_1 : decode cX12_sort 1 = .ok (.bipush 97, 2) := by decide +kernel
theorem dX12_sort_3 : decode cX12_sort 3 = .ok (.if_icmp .lt 13, 3) := by decide +kernel
theorem dX12_sort_6 : decode cX12_sort 6 = .ok (.iload_n 0, 1) := by decide +kernel
theorem dX12_sort_7 : decode cX12_sort 7 = .ok (.bipush 122, 2) := by decide +kernel
theorem dX12_sort_9 : decode cX12_sort 9 = .ok (.if_icmp .gt 7, 3) := by decide +kernel
theorem dX12_sort_12 : decode cX12_sort 12 = .ok (.iconst 1, 1) := by decide +kernel
theorem dX12_sort_13 : decode cX12_sort 13 = .ok (.goto 20, 3) := by decide +kernel
theorem dX12_sort_16 : decode cX12_sort 16 = .ok (.iload_n 0, 1) := by decide +kernel
theorem dX12_sort_17 : decode cX12_sort 17 = .ok (.bipush 48, 2) := by decide +kernel
theorem dX12_sort_19 : decode cX12_sort 19 = .ok (.if_icmp .lt 13, 3) := by decide +kernel
theorem dX12_sort_22 : decode cX12_sort 22 = .ok (.iload_n 0, 1) := by decide +kernel
theorem dX12_sort_23 : decode cX12_sort 23 = .ok (.bipush 57, 2) := by decide +kernel
theorem dX12_sort_25 : decode cX12_sort 25 = .ok (.if_icmp .gt 7, 3) := by decide +kernel
theorem dX12_sort_28 : decode cX12_sort 28 = .ok (.iconst 2, 1) := by decide +kernel
theorem dX12_sort_29 : decode cX12_sort 29 = .ok (.goto 4, 3) := by decide +kernel
theorem dX12_sort_32 : decode cX12_sort 32 = .ok (.iconst 0, 1) := by decide +kernel
theorem dX12_sort_33 : decode cX12_sort 33 = .ok (.ireturn, 1) := by decide +kernel
theorem dX12_token_0 : decode cX12_token 0 = .ok (.aload_n 0, 1) := by decide +kernel
theorem dX12_token_1 : decode cX12_token 1 = .ok (.getfield 79, 3) := by decide +kernel
theorem dX12_token_4 : decode cX12_token 4 = .ok (.aload_n 0, 1) := by decide +kernel
theorem dX12_token_5 : decode cX12_token 5 = .ok (.getfield 73, 3) := by decide +kernel
theorem dX12_token_8 : decode cX12_token 8 = .ok (.if_icmp .ge 30, 3) := by decide +kernel
theorem dX12_token_11 : decode cX12_token 11 = .ok (.aload_n 0, 1) := by decide +kernel
theorem dX12_token_12 : decode cX12_token 12 = .ok (.getfield 27, 3) := by decide +kernel
theorem dX12_token_15 : decode cX12_token 15 = .ok (.aload_n 0, 1) := by decide +kernel
theorem dX12_token_16 : decode cX12_token 16 = .ok (.getfield 79, 3) := by decide +kernel
theorem dX12_token_19 : decode cX12_token 19 = .ok (.iaload, 1) := by decide +kernel
theorem dX12_token_20 : decode cX12_token 20 = .ok (.bipush 32, 2) := by decide +kernel
theorem dX12_token_22 : decode cX12_token 22 = .ok (.if_icmp .ne 16, 3) := by decide +kernel
theorem dX12_token_25 : decode cX12_token 25 = .ok (.aload_n 0, 1) := by decide +kernel
theorem dX12_token_26 : decode cX12_token 26 = .ok (.dup, 1) := by decide +kernel
theorem dX12_token_27 : decode cX12_token 27 = .ok (.getfield 79, 3) := by decide +kernel
theorem dX12_token_30 : decode cX12_token 30 = .ok (.iconst 1, 1) := by decide +kernel
theorem dX12_token_31 : decode cX12_token 31 = .ok (.iadd, 1) := by decide +kernel
theorem dX12_token_32 : decode cX12_token 32 = .ok (.putfield 79, 3) := by decide +kernel
theorem dX12_token_35 : decode cX12_token 35 = .ok (.goto (-35), 3) := by decide +kernel
theorem dX12_token_38 : decode cX12_token 38 = .ok (.aload_n 0, 1) := by decide +kernel
theorem dX12_token_39 : decode cX12_token 39 = .ok (.aload_n 0, 1) := by decide +kernel
theorem dX12_token_40 : decode cX12_token 40 = .ok (.getfield 79, 3) := by decide +kernel
theorem dX12_token_43 : decode cX12_token 43 = .ok (.putfield 82, 3) := by decide +kernel
theorem dX12_token_46 : decode cX12_token 46 = .ok (.aload_n 0, 1) := by decide +kernel
theorem dX12_token_47 : decode cX12_token 47 = .ok (.dup, 1) := by decide +kernel
theorem dX12_token_48 : decode cX12_token 48 = .ok (.getfield 79, 3) := by decide +kernel
theorem dX12_token_51 : decode cX12_token 51 = .ok (.aload_n 0, 1) := by decide +kernel
theorem dX12_token_52 : decode cX12_token 52 = .ok (.getfield 79, 3) := by decide +kernel
theorem dX12_token_55 : decode cX12_token 55 = .ok (.aload_n 0, 1) := by decide +kernel
theorem dX12_token_56 : decode cX12_token 56 = .ok (.getfield 73, 3) := by decide +kernel
theorem dX12_token_59 : decode cX12_token 59 = .ok (.if_icmp .ge 7, 3) := by decide +kernel
theorem dX12_token_62 : decode cX12_token 62 = .ok (.iconst 1, 1) := by decide +kernel
theorem dX12_token_63 : decode cX12_token 63 = .ok (.goto 4, 3) := by decide +kernel
theorem dX12_token_66 : decode cX12_token 66 = .ok (.iconst 0, 1) := by decide +kernel
theorem dX12_token_67 : decode cX12_token 67 = .ok (.iadd, 1) := by decide +kernel
theorem dX12_token_68 : decode cX12_token 68 = .ok (.putfield 79, 3) := by decide +kernel
theorem dX12_token_71 : decode cX12_token 71 = .ok (.aload_n 0, 1) := by decide +kernel
theorem dX12_token_72 : decode cX12_token 72 = .ok (.getfield 79, 3) := by decide +kernel
theorem dX12_token_75 : decode cX12_token 75 = .ok (.aload_n 0, 1) := by decide +kernel
theorem dX12_token_76 : decode cX12_token 76 = .ok (.getfield 73, 3) := by decide +kernel
theorem dX12_token_79 : decode cX12_token 79 = .ok (.if_icmp .ge 58, 3) := by decide +kernel
theorem dX12_token_82 : decode cX12_token 82 = .ok (.aload_n 0, 1) := by decide +kernel
theorem dX12_token_83 : decode cX12_token 83 = .ok (.getfield 27, 3) := by decide +kernel
theorem dX12_token_86 : decode cX12_token 86 = .ok (.aload_n 0, 1) := by decide +kernel
theorem dX12_token_87 : decode cX12_token 87 = .ok (.getfield 82, 3) := by decide +kernel
theorem dX12_token_90 : decode cX12_token 90 = .ok (.iaload, 1) := by decide +kernel
theorem dX12_token_91 : decode cX12_token 91 = .ok (.invokestatic 85, 3) := by decide +kernel
theorem dX12_token_94 : decode cX12_token 94 = .ok (.ifCond .le 43, 3) := by decide +kernel
theorem dX12_token_97 : decode cX12_token 97 = .ok (.aload_n 0, 1) := by decide +kernel
theorem dX12_token_98 : decode cX12_token 98 = .ok (.getfield 27, 3) := by decide +kernel
theorem dX12_token_101 : decode cX12_token 101 = .ok (.aload_n 0, 1) := by decide +kernel
theorem dX12_token_102 : decode cX12_token 102 = .ok (.getfield 79, 3) := by decide +kernel
theorem dX12_token_105 : decode cX12_token 105 = .ok (.iaload, 1) := by decide +kernel
theorem dX12_token_106 : decode cX12_token 106 = .ok (.invokestatic 85, 3) := by decide +kernel
theorem dX12_token_109 : decode cX12_token 109 = .ok (.aload_n 0, 1) := by decide +kernel
theorem dX12_token_110 : decode cX12_token 110 = .ok (.getfield 27, 3) := by decide +kernel
theorem dX12_token_113 : decode cX12_token 113 = .ok (.aload_n 0, 1) := by decide +kernel
theorem dX12_token_114 : decode cX12_token 114 = .ok (.getfield 82, 3) := by decide +kernel
theorem dX12_token_117 : decode cX12_token 117 = .ok (.iaload, 1) := by decide +kernel
theorem dX12_token_118 : decode cX12_token 118 = .ok (.invokestatic 85, 3) := by decide +kernel
theorem dX12_token_121 : decode cX12_token 121 = .ok (.if_icmp .ne 16, 3) := by decide +kernel
theorem dX12_token_124 : decode cX12_token 124 = .ok (.aload_n 0, 1) := by decide +kernel
theorem dX12_token_125 : decode cX12_token 125 = .ok (.dup, 1) := by decide +kernel
theorem dX12_token_126 : decode cX12_token 126 = .ok (.getfield 79, 3) := by decide +kernel
theorem dX12_token_129 : decode cX12_token 129 = .ok (.iconst 1, 1) := by decide +kernel
theorem dX12_token_130 : decode cX12_token 130 = .ok (.iadd, 1) := by decide +kernel
theorem dX12_token_131 : decode cX12_token 131 = .ok (.putfield 79, 3) := by decide +kernel
theorem dX12_token_134 : decode cX12_token 134 = .ok (.goto (-63), 3) := by decide +kernel
theorem dX12_token_137 : decode cX12_token 137 = .ok (.aload_n 0, 1) := by decide +kernel
theorem dX12_token_138 : decode cX12_token 138 = .ok (.aload_n 0, 1) := by decide +kernel
theorem dX12_token_139 : decode cX12_token 139 = .ok (.getfield 79, 3) := by decide +kernel
theorem dX12_token_142 : decode cX12_token 142 = .ok (.putfield 89, 3) := by decide +kernel
theorem dX12_token_145 : decode cX12_token 145 = .ok (.return_, 1) := by decide +kernel
theorem dX12_isWord_0 : decode cX12_isWord 0 = .ok (.aload_n 0, 1) := by decide +kernel
theorem dX12_isWord_1 : decode cX12_isWord 1 = .ok (.getfield 89, 3) := by decide +kernel
theorem dX12_isWord_4 : decode cX12_isWord 4 = .ok (.aload_n 0, 1) := by decide +kernel
theorem dX12_isWord_5 : decode cX12_isWord 5 = .ok (.getfield 82, 3) := by decide +kernel
theorem dX12_isWord_8 : decode cX12_isWord 8 = .ok (.isub, 1) := by decide +kernel
theorem dX12_isWord_9 : decode cX12_isWord 9 = .ok (.iload_n 2, 1) := by decide +kernel
theorem dX12_isWord_10 : decode cX12_isWord 10 = .ok (.if_icmp .ne 7, 3) := by decide +kernel
theorem dX12_isWord_13 : decode cX12_isWord 13 = .ok (.iconst 1, 1) := by decide +kernel
theorem dX12_isWord_14 : decode cX12_isWord 14 = .ok (.goto 4, 3) := by decide +kernel
theorem dX12_isWord_17 : decode cX12_isWord 17 = .ok (.iconst 0, 1) := by decide +kernel
theorem dX12_isWord_18 : decode cX12_isWord 18 = .ok (.istore_n 3, 1) := by decide +kernel
theorem dX12_isWord_19 : decode cX12_isWord 19 = .ok (.iconst 0, 1) := by decide +kernel
theorem dX12_isWord_20 : decode cX12_isWord 20 = .ok (.istore 4, 2) := by decide +kernel
theorem dX12_isWord_22 : decode cX12_isWord 22 = .ok (.iload_n 3, 1) := by decide +kernel
theorem dX12_isWord_23 : decode cX12_isWord 23 = .ok (.ifCond .eq 48, 3) := by decide +kernel
theorem dX12_isWord_26 : decode cX12_isWord 26 = .ok (.iload 4, 2) := by decide +kernel
theorem dX12_isWord_28 : decode cX12_isWord 28 = .ok (.iload_n 2, 1) := by decide +kernel
theorem dX12_isWord_29 : decode cX12_isWord 29 = .ok (.if_icmp .ge 42, 3) := by decide +kernel
theorem dX12_isWord_32 : decode cX12_isWord 32 = .ok (.aload_n 0, 1) := by decide +kernel
theorem dX12_isWord_33 : decode cX12_isWord 33 = .ok (.getfield 27, 3) := by decide +kernel
theorem dX12_isWord_36 : decode cX12_isWord 36 = .ok (.aload_n 0, 1) := by decide +kernel
theorem dX12_isWord_37 : decode cX12_isWord 37 = .ok (.getfield 82, 3) := by decide +kernel
theorem dX12_isWord_40 : decode cX12_isWord 40 = .ok (.iload 4, 2) := by decide +kernel
theorem dX12_isWord_42 : decode cX12_isWord 42 = .ok (.iadd, 1) := by decide +kernel
theorem dX12_isWord_43 : decode cX12_isWord 43 = .ok (.iaload, 1) := by decide +kernel
theorem dX12_isWord_44 : decode cX12_isWord 44 = .ok (.bipush 96, 2) := by decide +kernel
theorem dX12_isWord_46 : decode cX12_isWord 46 = .ok (.iload_n 1, 1) := by decide +kernel
theorem dX12_isWord_47 : decode cX12_isWord 47 = .ok (.iconst 5, 1) := by decide +kernel
theorem dX12_isWord_48 : decode cX12_isWord 48 = .ok (.iload 4, 2) := by decide +kernel
theorem dX12_isWord_50 : decode cX12_isWord 50 = .ok (.imul, 1) := by decide +kernel
theorem dX12_isWord_51 : decode cX12_isWord 51 = .ok (.ishr, 1) := by decide +kernel
theorem dX12_isWord_52 : decode cX12_isWord 52 = .ok (.bipush 31, 2) := by decide +kernel
theorem dX12_isWord_54 : decode cX12_isWord 54 = .ok (.iand, 1) := by decide +kernel
theorem dX12_isWord_55 : decode cX12_isWord 55 = .ok (.iadd, 1) := by decide +kernel
theorem dX12_isWord_56 : decode cX12_isWord 56 = .ok (.if_icmp .ne 7, 3) := by decide +kernel
theorem dX12_isWord_59 : decode cX12_isWord 59 = .ok (.iconst 1, 1) := by decide +kernel
theorem dX12_isWord_60 : decode cX12_isWord 60 = .ok (.goto 4, 3) := by decide +kernel
theorem dX12_isWord_63 : decode cX12_isWord 63 = .ok (.iconst 0, 1) := by decide +kernel
theorem dX12_isWord_64 : decode cX12_isWord 64 = .ok (.istore_n 3, 1) := by decide +kernel
theorem dX12_isWord_65 : decode cX12_isWord 65 = .ok (.iinc 4 1, 3) := by decide +kernel
theorem dX12_isWord_68 : decode cX12_isWord 68 = .ok (.goto (-46), 3) := by decide +kernel
theorem dX12_isWord_71 : decode cX12_isWord 71 = .ok (.iload_n 3, 1) := by decide +kernel
theorem dX12_isWord_72 : decode cX12_isWord 72 = .ok (.ireturn, 1) := by decide +kernel
theorem dX12_wordOf_0 : decode cX12_wordOf 0 = .ok (.aload_n 0, 1) := by decide +kernel
theorem dX12_wordOf_1 : decode cX12_wordOf 1 = .ok (.ldc 92, 2) := by decide +kernel
theorem dX12_wordOf_3 : decode cX12_wordOf 3 = .ok (.iconst 5, 1) := by decide +kernel
theorem dX12_wordOf_4 : decode cX12_wordOf 4 = .ok (.invokevirtual 93, 3) := by decide +kernel
theorem dX12_wordOf_7 : decode cX12_wordOf 7 = .ok (.ifCond .eq 7, 3) := by decide +kernel
theorem dX12_wordOf_10 : decode cX12_wordOf 10 = .ok (.iconst 0, 1) := by decide +kernel
theorem dX12_wordOf_11 : decode cX12_wordOf 11 = .ok (.goto 46, 3) := by decide +kernel
theorem dX12_wordOf_14 : decode cX12_wordOf 14 = .ok (.aload_n 0, 1) := by decide +kernel
theorem dX12_wordOf_15 : decode cX12_wordOf 15 = .ok (.ldc 97, 2) := by decide +kernel
theorem dX12_wordOf_17 : decode cX12_wordOf 17 = .ok (.iconst 4, 1) := by decide +kernel
theorem dX12_wordOf_18 : decode cX12_wordOf 18 = .ok (.invokevirtual 93, 3) := by decide +kernel
theorem dX12_wordOf_21 : decode cX12_wordOf 21 = .ok (.ifCond .eq 7, 3) := by decide +kernel
theorem dX12_wordOf_24 : decode cX12_wordOf 24 = .ok (.iconst 1, 1) := by decide +kernel
theorem dX12_wordOf_25 : decode cX12_wordOf 25 = .ok (.goto 32, 3) := by decide +kernel
theorem dX12_wordOf_28 : decode cX12_wordOf 28 = .ok (.aload_n 0, 1) := by decide +kernel
theorem dX12_wordOf_29 : decode cX12_wordOf 29 = .ok (.ldc 98, 2) := by decide +kernel
theorem dX12_wordOf_31 : decode cX12_wordOf 31 = .ok (.iconst 4, 1) := by decide +kernel
theorem dX12_wordOf_32 : decode cX12_wordOf 32 = .ok (.invokevirtual 93, 3) := by decide +kernel
theorem dX12_wordOf_35 : decode cX12_wordOf 35 = .ok (.ifCond .eq 7, 3) := by decide +kernel
theorem dX12_wordOf_38 : decode cX12_wordOf 38 = .ok (.iconst 2, 1) := by decide +kernel
theorem dX12_wordOf_39 : decode cX12_wordOf 39 = .ok (.goto 18, 3) := by decide +kernel
theorem dX12_wordOf_42 : decode cX12_wordOf 42 = .ok (.aload_n 0, 1) := by decide +kernel
theorem dX12_wordOf_43 : decode cX12_wordOf 43 = .ok (.ldc 99, 2) := by decide +kernel
theorem dX12_wordOf_45 : decode cX12_wordOf 45 = .ok (.iconst 5, 1) := by decide +kernel
theorem dX12_wordOf_46 : decode cX12_wordOf 46 = .ok (.invokevirtual 93, 3) := by decide +kernel
theorem dX12_wordOf_49 : decode cX12_wordOf 49 = .ok (.ifCond .eq 7, 3) := by decide +kernel
theorem dX12_wordOf_52 : decode cX12_wordOf 52 = .ok (.iconst 3, 1) := by decide +kernel
theorem dX12_wordOf_53 : decode cX12_wordOf 53 = .ok (.goto 4, 3) := by decide +kernel
theorem dX12_wordOf_56 : decode cX12_wordOf 56 = .ok (.iconst (-1), 1) := by decide +kernel
theorem dX12_wordOf_57 : decode cX12_wordOf 57 = .ok (.ireturn, 1) := by decide +kernel
theorem dX12_isNumber_0 : decode cX12_isNumber 0 = .ok (.aload_n 0, 1) := by decide +kernel
theorem dX12_isNumber_1 : decode cX12_isNumber 1 = .ok (.getfield 82, 3) := by decide +kernel
theorem dX12_isNumber_4 : decode cX12_isNumber 4 = .ok (.aload_n 0, 1) := by decide +kernel
theorem dX12_isNumber_5 : decode cX12_isNumber 5 = .ok (.getfield 73, 3) := by decide +kernel
theorem dX12_isNumber_8 : decode cX12_isNumber 8 = .ok (.if_icmp .ge 23, 3) := by decide +kernel
theorem dX12_isNumber_11 : decode cX12_isNumber 11 = .ok (.aload_n 0, 1) := by decide +kernel
theorem dX12_isNumber_12 : decode cX12_isNumber 12 = .ok (.getfield 27, 3) := by decide +kernel
theorem dX12_isNumber_15 : decode cX12_isNumber 15 = .ok (.aload_n 0, 1) := by decide +kernel
theorem dX12_isNumber_16 : decode cX12_isNumber 16 = .ok (.getfield 82, 3) := by decide +kernel
theorem dX12_isNumber_19 : decode cX12_isNumber 19 = .ok (.iaload, 1) := by decide +kernel
theorem dX12_isNumber_20 : decode cX12_isNumber 20 = .ok (.invokestatic 85, 3) := by decide +kernel
theorem dX12_isNumber_23 : decode cX12_isNumber 23 = .ok (.iconst 2, 1) := by decide +kernel
theorem dX12_isNumber_24 : decode cX12_isNumber 24 = .ok (.if_icmp .ne 7, 3) := by decide +kernel
theorem dX12_isNumber_27 : decode cX12_isNumber 27 = .ok (.iconst 1, 1) := by decide +kernel
theorem dX12_isNumber_28 : decode cX12_isNumber 28 = .ok (.goto 4, 3) := by decide +kernel
theorem dX12_isNumber_31 : decode cX12_isNumber 31 = .ok (.iconst 0, 1) := by decide +kernel
theorem dX12_isNumber_32 : decode cX12_isNumber 32 = .ok (.ireturn, 1) := by decide +kernel
theorem dX12_numberHere_0 : decode cX12_numberHere 0 = .ok (.aload_n 0, 1) := by decide +kernel
theorem dX12_numberHere_1 : decode cX12_numberHere 1 = .ok (.invokevirtual 100, 3) := by decide +kernel
theorem dX12_numberHere_4 : decode cX12_numberHere 4 = .ok (.ifCond .eq 16, 3) := by decide +kernel
theorem dX12_numberHere_7 : decode cX12_numberHere 7 = .ok (.aload_n 0, 1) := by decide +kernel
theorem dX12_numberHere_8 : decode cX12_numberHere 8 = .ok (.getfield 89, 3) := by decide +kernel
theorem dX12_numberHere_11 : decode cX12_numberHere 11 = .ok (.aload_n 0, 1) := by decide +kernel
theorem dX12_numberHere_12 : decode cX12_numberHere 12 = .ok (.getfield 82, 3) := by decide +kernel
theorem dX12_numberHere_15 : decode cX12_numberHere 15 = .ok (.isub, 1) := by decide +kernel
theorem dX12_numberHere_16 : decode cX12_numberHere 16 = .ok (.iload_n 1, 1) := by decide +kernel
theorem dX12_numberHere_17 : decode cX12_numberHere 17 = .ok (.if_icmp .le 7, 3) := by decide +kernel
theorem dX12_numberHere_20 : decode cX12_numberHere 20 = .ok (.ldc2_w 104, 3) := by decide +kernel
theorem dX12_numberHere_23 : decode cX12_numberHere 23 = .ok (.lreturn, 1) := by decide +kernel
theorem dX12_numberHere_24 : decode cX12_numberHere 24 = .ok (.lconst 0, 1) := by decide +kernel
theorem dX12_numberHere_25 : decode cX12_numberHere 25 = .ok (.lstore_n 2, 1) := by decide +kernel
theorem dX12_numberHere_26 : decode cX12_numberHere 26 = .ok (.aload_n 0, 1) := by decide +kernel
theorem dX12_numberHere_27 : decode cX12_numberHere 27 = .ok (.getfield 82, 3) := by decide +kernel
theorem dX12_numberHere_30 : decode cX12_numberHere 30 = .ok (.istore 4, 2) := by decide +kernel
theorem dX12_numberHere_32 : decode cX12_numberHere 32 = .ok (.iload 4, 2) := by decide +kernel
theorem dX12_numberHere_34 : decode cX12_numberHere 34 = .ok (.aload_n 0, 1) := by decide +kernel
theorem dX12_numberHere_35 : decode cX12_numberHere 35 = .ok (.getfield 89, 3) := by decide +kernel
theorem dX12_numberHere_38 : decode cX12_numberHere 38 = .ok (.if_icmp .ge 28, 3) := by decide +kernel
theorem dX12_numberHere_41 : decode cX12_numberHere 41 = .ok (.ldc2_w 106, 3) := by decide +kernel
theorem dX12_numberHere_44 : decode cX12_numberHere 44 = .ok (.lload_n 2, 1) := by decide +kernel
theorem dX12_numberHere_45 : decode cX12_numberHere 45 = .ok (.lmul, 1) := by decide +kernel
theorem dX12_numberHere_46 : decode cX12_numberHere 46 = .ok (.aload_n 0, 1) := by decide +kernel
theorem dX12_numberHere_47 : decode cX12_numberHere 47 = .ok (.getfield 27, 3) := by decide +kernel
theorem dX12_numberHere_50 : decode cX12_numberHere 50 = .ok (.iload 4, 2) := by decide +kernel
theorem dX12_numberHere_52 : decode cX12_numberHere 52 = .ok (.iaload, 1) := by decide +kernel
theorem dX12_numberHere_53 : decode cX12_numberHere 53 = .ok (.i2l, 1) := by decide +kernel
theorem dX12_numberHere_54 : decode cX12_numberHere 54 = .ok (.ladd, 1) := by decide +kernel
theorem dX12_numberHere_55 : decode cX12_numberHere 55 = .ok (.ldc2_w 108, 3) := by decide +kernel
theorem dX12_numberHere_58 : decode cX12_numberHere 58 = .ok (.lsub, 1) := by decide +kernel
theorem dX12_numberHere_59 : decode cX12_numberHere 59 = .ok (.lstore_n 2, 1) := by decide +kernel
theorem dX12_numberHere_60 : decode cX12_numberHere 60 = .ok (.iinc 4 1, 3) := by decide +kernel
theorem dX12_numberHere_63 : decode cX12_numberHere 63 = .ok (.goto (-31), 3) := by decide +kernel
theorem dX12_numberHere_66 : decode cX12_numberHere 66 = .ok (.lload_n 2, 1) := by decide +kernel
theorem dX12_numberHere_67 : decode cX12_numberHere 67 = .ok (.lreturn, 1) := by decide +kernel
theorem dX12_reads_0 : decode cX12_reads 0 = .ok (.aload_n 0, 1) := by decide +kernel
theorem dX12_reads_1 : decode cX12_reads 1 = .ok (.iconst 3, 1) := by decide +kernel
theorem dX12_reads_2 : decode cX12_reads 2 = .ok (.invokevirtual 110, 3) := by decide +kernel
theorem dX12_reads_5 : decode cX12_reads 5 = .ok (.lstore 4, 2) := by decide +kernel
theorem dX12_reads_7 : decode cX12_reads 7 = .ok (.lload 4, 2) := by decide +kernel
theorem dX12_reads_9 : decode cX12_reads 9 = .ok (.iload_n 2, 1) := by decide +kernel
theorem dX12_reads_10 : decode cX12_reads 10 = .ok (.i2l, 1) := by decide +kernel
theorem dX12_reads_11 : decode cX12_reads 11 = .ok (.iload_n 3, 1) := by decide +kernel
theorem dX12_reads_12 : decode cX12_reads 12 = .ok (.i2l, 1) := by decide +kernel
theorem dX12_reads_13 : decode cX12_reads 13 = .ok (.invokestatic 69, 3) := by decide +kernel
theorem dX12_reads_16 : decode cX12_reads 16 = .ok (.ifCond .ne 5, 3) := by decide +kernel
theorem dX12_reads_19 : decode cX12_reads 19 = .ok (.iconst 0, 1) := by decide +kernel
theorem dX12_reads_20 : decode cX12_reads 20 = .ok (.ireturn, 1) := by decide +kernel
theorem dX12_reads_21 : decode cX12_reads 21 = .ok (.aload_n 0, 1) := by decide +kernel
theorem dX12_reads_22 : decode cX12_reads 22 = .ok (.getfield 30, 3) := by decide +kernel
theorem dX12_reads_25 : decode cX12_reads 25 = .ok (.iconst 5, 1) := by decide +kernel
theorem dX12_reads_26 : decode cX12_reads 26 = .ok (.aload_n 0, 1) := by decide +kernel
theorem dX12_reads_27 : decode cX12_reads 27 = .ok (.getfield 114, 3) := by decide +kernel
theorem dX12_reads_30 : decode cX12_reads 30 = .ok (.imul, 1) := by decide +kernel
theorem dX12_reads_31 : decode cX12_reads 31 = .ok (.iconst 1, 1) := by decide +kernel
theorem dX12_reads_32 : decode cX12_reads 32 = .ok (.iadd, 1) := by decide +kernel
theorem dX12_reads_33 : decode cX12_reads 33 = .ok (.iload_n 1, 1) := by decide +kernel
theorem dX12_reads_34 : decode cX12_reads 34 = .ok (.iadd, 1) := by decide +kernel
theorem dX12_reads_35 : decode cX12_reads 35 = .ok (.lload 4, 2) := by decide +kernel
theorem dX12_reads_37 : decode cX12_reads 37 = .ok (.l2i, 1) := by decide +kernel
theorem dX12_reads_38 : decode cX12_reads 38 = .ok (.iastore, 1) := by decide +kernel
theorem dX12_reads_39 : decode cX12_reads 39 = .ok (.aload_n 0, 1) := by decide +kernel
theorem dX12_reads_40 : decode cX12_reads 40 = .ok (.invokevirtual 117, 3) := by decide +kernel
theorem dX12_reads_43 : decode cX12_reads 43 = .ok (.iconst 1, 1) := by decide +kernel
theorem dX12_reads_44 : decode cX12_reads 44 = .ok (.ireturn, 1) := by decide +kernel
theorem dX12_colourHere_0 : decode cX12_colourHere 0 = .ok (.aload_n 0, 1) := by decide +kernel
theorem dX12_colourHere_1 : decode cX12_colourHere 1 = .ok (.getfield 82, 3) := by decide +kernel
theorem dX12_colourHere_4 : decode cX12_colourHere 4 = .ok (.aload_n 0, 1) := by decide +kernel
theorem dX12_colourHere_5 : decode cX12_colourHere 5 = .ok (.getfield 73, 3) := by decide +kernel
theorem dX12_colourHere_8 : decode cX12_colourHere 8 = .ok (.if_icmp .ge 28, 3) := by decide +kernel
theorem dX12_colourHere_11 : decode cX12_colourHere 11 = .ok (.aload_n 0, 1) := by decide +kernel
theorem dX12_colourHere_12 : decode cX12_colourHere 12 = .ok (.getfield 89, 3) := by decide +kernel
theorem dX12_colourHere_15 : decode cX12_colourHere 15 = .ok (.aload_n 0, 1) := by decide +kernel
theorem dX12_colourHere_16 : decode cX12_colourHere 16 = .ok (.getfield 82, 3) := by decide +kernel
theorem dX12_colourHere_19 : decode cX12_colourHere 19 = .ok (.isub, 1) := by decide +kernel
theorem dX12_colourHere_20 : decode cX12_colourHere 20 = .ok (.iconst 1, 1) := by decide +kernel
theorem dX12_colourHere_21 : decode cX12_colourHere 21 = .ok (.if_icmp .ne 15, 3) := by decide +kernel
theorem dX12_colourHere_24 : decode cX12_colourHere 24 = .ok (.aload_n 0, 1) := by decide +kernel
theorem dX12_colourHere_25 : decode cX12_colourHere 25 = .ok (.getfield 27, 3) := by decide +kernel
theorem dX12_colourHere_28 : decode cX12_colourHere 28 = .ok (.aload_n 0, 1) := by decide +kernel
theorem dX12_colourHere_29 : decode cX12_colourHere 29 = .ok (.getfield 82, 3) := by decide +kernel
theorem dX12_colourHere_32 : decode cX12_colourHere 32 = .ok (.iaload, 1) := by decide +kernel
theorem dX12_colourHere_33 : decode cX12_colourHere 33 = .ok (.goto 4, 3) := by decide +kernel
theorem dX12_colourHere_36 : decode cX12_colourHere 36 = .ok (.iconst 0, 1) := by decide +kernel
theorem dX12_colourHere_37 : decode cX12_colourHere 37 = .ok (.istore_n 1, 1) := by decide +kernel
theorem dX12_colourHere_38 : decode cX12_colourHere 38 = .ok (.iload_n 1, 1) := by decide +kernel
theorem dX12_colourHere_39 : decode cX12_colourHere 39 = .ok (.bipush 114, 2) := by decide +kernel
theorem dX12_colourHere_41 : decode cX12_colourHere 41 = .ok (.if_icmp .ne 7, 3) := by decide +kernel
theorem dX12_colourHere_44 : decode cX12_colourHere 44 = .ok (.iconst 0, 1) := by decide +kernel
theorem dX12_colourHere_45 : decode cX12_colourHere 45 = .ok (.goto 34, 3) := by decide +kernel
theorem dX12_colourHere_48 : decode cX12_colourHere 48 = .ok (.iload_n 1, 1) := by decide +kernel
theorem dX12_colourHere_49 : decode cX12_colourHere 49 = .ok (.bipush 103, 2) := by decide +kernel
theorem dX12_colourHere_51 : decode cX12_colourHere 51 = .ok (.if_icmp .ne 7, 3) := by decide +kernel
theorem dX12_colourHere_54 : decode cX12_colourHere 54 = .ok (.iconst 1, 1) := by decide +kernel
theorem dX12_colourHere_55 : decode cX12_colourHere 55 = .ok (.goto 24, 3) := by decide +kernel
theorem dX12_colourHere_58 : decode cX12_colourHere 58 = .ok (.iload_n 1, 1) := by decide +kernel
theorem dX12_colourHere_59 : decode cX12_colourHere 59 = .ok (.bipush 98, 2) := by decide +kernel
theorem dX12_colourHere_61 : decode cX12_colourHere 61 = .ok (.if_icmp .ne 7, 3) := by decide +kernel
theorem dX12_colourHere_64 : decode cX12_colourHere 64 = .ok (.iconst 2, 1) := by decide +kernel
theorem dX12_colourHere_65 : decode cX12_colourHere 65 = .ok (.goto 14, 3) := by decide +kernel
theorem dX12_colourHere_68 : decode cX12_colourHere 68 = .ok (.iload_n 1, 1) := by decide +kernel
theorem dX12_colourHere_69 : decode cX12_colourHere 69 = .ok (.bipush 121, 2) := by decide +kernel
theorem dX12_colourHere_71 : decode cX12_colourHere 71 = .ok (.if_icmp .ne 7, 3) := by decide +kernel
theorem dX12_colourHere_74 : decode cX12_colourHere 74 = .ok (.iconst 3, 1) := by decide +kernel
theorem dX12_colourHere_75 : decode cX12_colourHere 75 = .ok (.goto 4, 3) := by decide +kernel
theorem dX12_colourHere_78 : decode cX12_colourHere 78 = .ok (.iconst (-1), 1) := by decide +kernel
theorem dX12_colourHere_79 : decode cX12_colourHere 79 = .ok (.ireturn, 1) := by decide +kernel
theorem dX12_readsHeap_0 : decode cX12_readsHeap 0 = .ok (.aload_n 0, 1) := by decide +kernel
theorem dX12_readsHeap_1 : decode cX12_readsHeap 1 = .ok (.bipush 15, 2) := by decide +kernel
theorem dX12_readsHeap_3 : decode cX12_readsHeap 3 = .ok (.invokevirtual 110, 3) := by decide +kernel
theorem dX12_readsHeap_6 : decode cX12_readsHeap 6 = .ok (.lstore_n 1, 1) := by decide +kernel
theorem dX12_readsHeap_7 : decode cX12_readsHeap 7 = .ok (.lload_n 1, 1) := by decide +kernel
theorem dX12_readsHeap_8 : decode cX12_readsHeap 8 = .ok (.ldc2_w 104, 3) := by decide +kernel
theorem dX12_readsHeap_11 : decode cX12_readsHeap 11 = .ok (.lcmp, 1) := by decide +kernel
theorem dX12_readsHeap_12 : decode cX12_readsHeap 12 = .ok (.ifCond .ne 5, 3) := by decide +kernel
theorem dX12_readsHeap_15 : decode cX12_readsHeap 15 = .ok (.iconst 0, 1) := by decide +kernel
theorem dX12_readsHeap_16 : decode cX12_readsHeap 16 = .ok (.ireturn, 1) := by decide +kernel
theorem dX12_readsHeap_17 : decode cX12_readsHeap 17 = .ok (.aload_n 0, 1) := by decide +kernel
theorem dX12_readsHeap_18 : decode cX12_readsHeap 18 = .ok (.getfield 33, 3) := by decide +kernel
theorem dX12_readsHeap_21 : decode cX12_readsHeap 21 = .ok (.aload_n 0, 1) := by decide +kernel
theorem dX12_readsHeap_22 : decode cX12_readsHeap 22 = .ok (.getfield 114, 3) := by decide +kernel
theorem dX12_readsHeap_25 : decode cX12_readsHeap 25 = .ok (.lload_n 1, 1) := by decide +kernel
theorem dX12_readsHeap_26 : decode cX12_readsHeap 26 = .ok (.lastore, 1) := by decide +kernel
theorem dX12_readsHeap_27 : decode cX12_readsHeap 27 = .ok (.aload_n 0, 1) := by decide +kernel
theorem dX12_readsHeap_28 : decode cX12_readsHeap 28 = .ok (.invokevirtual 117, 3) := by decide +kernel
theorem dX12_readsHeap_31 : decode cX12_readsHeap 31 = .ok (.aload_n 0, 1) := by decide +kernel
theorem dX12_readsHeap_32 : decode cX12_readsHeap 32 = .ok (.invokevirtual 120, 3) := by decide +kernel
theorem dX12_readsHeap_35 : decode cX12_readsHeap 35 = .ok (.istore_n 3, 1) := by decide +kernel
theorem dX12_readsHeap_36 : decode cX12_readsHeap 36 = .ok (.iload_n 3, 1) := by decide +kernel
theorem dX12_readsHeap_37 : decode cX12_readsHeap 37 = .ok (.iconst (-1), 1) := by decide +kernel
theorem dX12_readsHeap_38 : decode cX12_readsHeap 38 = .ok (.if_icmp .ne 5, 3) := by decide +kernel
theorem dX12_readsHeap_41 : decode cX12_readsHeap 41 = .ok (.iconst 0, 1) := by decide +kernel
theorem dX12_readsHeap_42 : decode cX12_readsHeap 42 = .ok (.ireturn, 1) := by decide +kernel
theorem dX12_readsHeap_43 : decode cX12_readsHeap 43 = .ok (.aload_n 0, 1) := by decide +kernel
theorem dX12_readsHeap_44 : decode cX12_readsHeap 44 = .ok (.getfield 30, 3) := by decide +kernel
theorem dX12_readsHeap_47 : decode cX12_readsHeap 47 = .ok (.iconst 5, 1) := by decide +kernel
theorem dX12_readsHeap_48 : decode cX12_readsHeap 48 = .ok (.aload_n 0, 1) := by decide +kernel
theorem dX12_readsHeap_49 : decode cX12_readsHeap 49 = .ok (.getfield 114, 3) := by decide +kernel
theorem dX12_readsHeap_52 : decode cX12_readsHeap 52 = .ok (.imul, 1) := by decide +kernel
theorem dX12_readsHeap_53 : decode cX12_readsHeap 53 = .ok (.iconst 2, 1) := by decide +kernel
theorem dX12_readsHeap_54 : decode cX12_readsHeap 54 = .ok (.iadd, 1) := by decide +kernel
theorem dX12_readsHeap_55 : decode cX12_readsHeap 55 = .ok (.iload_n 3, 1) := by decide +kernel
theorem dX12_readsHeap_56 : decode cX12_readsHeap 56 = .ok (.iastore, 1) := by decide +kernel
theorem dX12_readsHeap_57 : decode cX12_readsHeap 57 = .ok (.aload_n 0, 1) := by decide +kernel
theorem dX12_readsHeap_58 : decode cX12_readsHeap 58 = .ok (.getfield 30, 3) := by decide +kernel
theorem dX12_readsHeap_61 : decode cX12_readsHeap 61 = .ok (.iconst 5, 1) := by decide +kernel
theorem dX12_readsHeap_62 : decode cX12_readsHeap 62 = .ok (.aload_n 0, 1) := by decide +kernel
theorem dX12_readsHeap_63 : decode cX12_readsHeap 63 = .ok (.getfield 114, 3) := by decide +kernel
theorem dX12_readsHeap_66 : decode cX12_readsHeap 66 = .ok (.imul, 1) := by decide +kernel
theorem dX12_readsHeap_67 : decode cX12_readsHeap 67 = .ok (.iconst 1, 1) := by decide +kernel
theorem dX12_readsHeap_68 : decode cX12_readsHeap 68 = .ok (.iadd, 1) := by decide +kernel
theorem dX12_readsHeap_69 : decode cX12_readsHeap 69 = .ok (.iconst 0, 1) := by decide +kernel
theorem dX12_readsHeap_70 : decode cX12_readsHeap 70 = .ok (.iastore, 1) := by decide +kernel
theorem dX12_readsHeap_71 : decode cX12_readsHeap 71 = .ok (.aload_n 0, 1) := by decide +kernel
theorem dX12_readsHeap_72 : decode cX12_readsHeap 72 = .ok (.getfield 30, 3) := by decide +kernel
theorem dX12_readsHeap_75 : decode cX12_readsHeap 75 = .ok (.iconst 5, 1) := by decide +kernel
theorem dX12_readsHeap_76 : decode cX12_readsHeap 76 = .ok (.aload_n 0, 1) := by decide +kernel
theorem dX12_readsHeap_77 : decode cX12_readsHeap 77 = .ok (.getfield 114, 3) := by decide +kernel
theorem dX12_readsHeap_80 : decode cX12_readsHeap 80 = .ok (.imul, 1) := by decide +kernel
theorem dX12_readsHeap_81 : decode cX12_readsHeap 81 = .ok (.iconst 3, 1) := by decide +kernel
theorem dX12_readsHeap_82 : decode cX12_readsHeap 82 = .ok (.iadd, 1) := by decide +kernel
theorem dX12_readsHeap_83 : decode cX12_readsHeap 83 = .ok (.iconst 0, 1) := by decide +kernel
theorem dX12_readsHeap_84 : decode cX12_readsHeap 84 = .ok (.iastore, 1) := by decide +kernel
theorem dX12_readsHeap_85 : decode cX12_readsHeap 85 = .ok (.aload_n 0, 1) := by decide +kernel
theorem dX12_readsHeap_86 : decode cX12_readsHeap 86 = .ok (.invokevirtual 117, 3) := by decide +kernel
theorem dX12_readsHeap_89 : decode cX12_readsHeap 89 = .ok (.aload_n 0, 1) := by decide +kernel
theorem dX12_readsHeap_90 : decode cX12_readsHeap 90 = .ok (.invokevirtual 100, 3) := by decide +kernel
theorem dX12_readsHeap_93 : decode cX12_readsHeap 93 = .ok (.ifCond .ne 5, 3) := by decide +kernel
theorem dX12_readsHeap_96 : decode cX12_readsHeap 96 = .ok (.iconst 1, 1) := by decide +kernel
theorem dX12_readsHeap_97 : decode cX12_readsHeap 97 = .ok (.ireturn, 1) := by decide +kernel
theorem dX12_readsHeap_98 : decode cX12_readsHeap 98 = .ok (.aload_n 0, 1) := by decide +kernel
theorem dX12_readsHeap_99 : decode cX12_readsHeap 99 = .ok (.iconst 0, 1) := by decide +kernel
theorem dX12_readsHeap_100 : decode cX12_readsHeap 100 = .ok (.iconst 0, 1) := by decide +kernel
theorem dX12_readsHeap_101 : decode cX12_readsHeap 101 = .ok (.sipush 999, 3) := by decide +kernel
theorem dX12_readsHeap_104 : decode cX12_readsHeap 104 = .ok (.invokevirtual 124, 3) := by decide +kernel
theorem dX12_readsHeap_107 : decode cX12_readsHeap 107 = .ok (.ifCond .eq 25, 3) := by decide +kernel
theorem dX12_readsHeap_110 : decode cX12_readsHeap 110 = .ok (.aload_n 0, 1) := by decide +kernel
theorem dX12_readsHeap_111 : decode cX12_readsHeap 111 = .ok (.invokevirtual 100, 3) := by decide +kernel
theorem dX12_readsHeap_114 : decode cX12_readsHeap 114 = .ok (.ifCond .eq 14, 3) := by decide +kernel
theorem dX12_readsHeap_117 : decode cX12_readsHeap 117 = .ok (.aload_n 0, 1) := by decide +kernel
theorem dX12_readsHeap_118 : decode cX12_readsHeap 118 = .ok (.iconst 2, 1) := by decide +kernel
theorem dX12_readsHeap_119 : decode cX12_readsHeap 119 = .ok (.iconst 0, 1) := by decide +kernel
theorem dX12_readsHeap_120 : decode cX12_readsHeap 120 = .ok (.bipush 99, 2) := by decide +kernel
theorem dX12_readsHeap_122 : decode cX12_readsHeap 122 = .ok (.invokevirtual 124, 3) := by decide +kernel
theorem dX12_readsHeap_125 : decode cX12_readsHeap 125 = .ok (.ifCond .eq 7, 3) := by decide +kernel
theorem dX12_readsHeap_128 : decode cX12_readsHeap 128 = .ok (.iconst 1, 1) := by decide +kernel
theorem dX12_readsHeap_129 : decode cX12_readsHeap 129 = .ok (.goto 4, 3) := by decide +kernel
theorem dX12_readsHeap_132 : decode cX12_readsHeap 132 = .ok (.iconst 0, 1) := by decide +kernel
theorem dX12_readsHeap_133 : decode cX12_readsHeap 133 = .ok (.ireturn, 1) := by decide +kernel
theorem dX12_readsRest_0 : decode cX12_readsRest 0 = .ok (.iload_n 1, 1) := by decide +kernel
theorem dX12_readsRest_1 : decode cX12_readsRest 1 = .ok (.tableswitch 54 0 2 #[27, 36, 41], 27) := by decide +kernel
theorem dX12_readsRest_28 : decode cX12_readsRest 28 = .ok (.aload_n 0, 1) := by decide +kernel
theorem dX12_readsRest_29 : decode cX12_readsRest 29 = .ok (.iconst 0, 1) := by decide +kernel
theorem dX12_readsRest_30 : decode cX12_readsRest 30 = .ok (.iconst 2, 1) := by decide +kernel
theorem dX12_readsRest_31 : decode cX12_readsRest 31 = .ok (.bipush 10, 2) := by decide +kernel
theorem dX12_readsRest_33 : decode cX12_readsRest 33 = .ok (.invokevirtual 124, 3) := by decide +kernel
theorem dX12_readsRest_36 : decode cX12_readsRest 36 = .ok (.ireturn, 1) := by decide +kernel
theorem dX12_readsRest_37 : decode cX12_readsRest 37 = .ok (.aload_n 0, 1) := by decide +kernel
theorem dX12_readsRest_38 : decode cX12_readsRest 38 = .ok (.invokevirtual 128, 3) := by decide +kernel
theorem dX12_readsRest_41 : decode cX12_readsRest 41 = .ok (.ireturn, 1) := by decide +kernel
theorem dX12_readsRest_42 : decode cX12_readsRest 42 = .ok (.aload_n 0, 1) := by decide +kernel
theorem dX12_readsRest_43 : decode cX12_readsRest 43 = .ok (.iconst 0, 1) := by decide +kernel
theorem dX12_readsRest_44 : decode cX12_readsRest 44 = .ok (.iconst 0, 1) := by decide +kernel
theorem dX12_readsRest_45 : decode cX12_readsRest 45 = .ok (.aload_n 0, 1) := by decide +kernel
theorem dX12_readsRest_46 : decode cX12_readsRest 46 = .ok (.getfield 131, 3) := by decide +kernel
theorem dX12_readsRest_49 : decode cX12_readsRest 49 = .ok (.iconst 1, 1) := by decide +kernel
theorem dX12_readsRest_50 : decode cX12_readsRest 50 = .ok (.isub, 1) := by decide +kernel
theorem dX12_readsRest_51 : decode cX12_readsRest 51 = .ok (.invokevirtual 124, 3) := by decide +kernel
theorem dX12_readsRest_54 : decode cX12_readsRest 54 = .ok (.ireturn, 1) := by decide +kernel
theorem dX12_readsRest_55 : decode cX12_readsRest 55 = .ok (.iconst 1, 1) := by decide +kernel
theorem dX12_readsRest_56 : decode cX12_readsRest 56 = .ok (.ireturn, 1) := by decide +kernel
theorem dX12_readsLine_0 : decode cX12_readsLine 0 = .ok (.aload_n 0, 1) := by decide +kernel
theorem dX12_readsLine_1 : decode cX12_readsLine 1 = .ok (.invokevirtual 134, 3) := by decide +kernel
theorem dX12_readsLine_4 : decode cX12_readsLine 4 = .ok (.istore_n 1, 1) := by decide +kernel
theorem dX12_readsLine_5 : decode cX12_readsLine 5 = .ok (.iload_n 1, 1) := by decide +kernel
theorem dX12_readsLine_6 : decode cX12_readsLine 6 = .ok (.iconst (-1), 1) := by decide +kernel
theorem dX12_readsLine_7 : decode cX12_readsLine 7 = .ok (.if_icmp .eq 17, 3) := by decide +kernel
theorem dX12_readsLine_10 : decode cX12_readsLine 10 = .ok (.iload_n 1, 1) := by decide +kernel
theorem dX12_readsLine_11 : decode cX12_readsLine 11 = .ok (.iconst 1, 1) := by decide +kernel
theorem dX12_readsLine_12 : decode cX12_readsLine 12 = .ok (.if_icmp .ne 14, 3) := by decide +kernel
theorem dX12_readsLine_15 : decode cX12_readsLine 15 = .ok (.aload_n 0, 1) := by decide +kernel
theorem dX12_readsLine_16 : decode cX12_readsLine 16 = .ok (.getfield 131, 3) := by decide +kernel
theorem dX12_readsLine_19 : decode cX12_readsLine 19 = .ok (.bipush 20, 2) := by decide +kernel
theorem dX12_readsLine_21 : decode cX12_readsLine 21 = .ok (.if_icmp .ne 5, 3) := by decide +kernel
theorem dX12_readsLine_24 : decode cX12_readsLine 24 = .ok (.iconst 0, 1) := by decide +kernel
theorem dX12_readsLine_25 : decode cX12_readsLine 25 = .ok (.ireturn, 1) := by decide +kernel
theorem dX12_readsLine_26 : decode cX12_readsLine 26 = .ok (.aload_n 0, 1) := by decide +kernel
theorem dX12_readsLine_27 : decode cX12_readsLine 27 = .ok (.invokevirtual 117, 3) := by decide +kernel
theorem dX12_readsLine_30 : decode cX12_readsLine 30 = .ok (.aload_n 0, 1) := by decide +kernel
theorem dX12_readsLine_31 : decode cX12_readsLine 31 = .ok (.getfield 30, 3) := by decide +kernel
theorem dX12_readsLine_34 : decode cX12_readsLine 34 = .ok (.iconst 5, 1) := by decide +kernel
theorem dX12_readsLine_35 : decode cX12_readsLine 35 = .ok (.aload_n 0, 1) := by decide +kernel
theorem dX12_readsLine_36 : decode cX12_readsLine 36 = .ok (.getfield 114, 3) := by decide +kernel
theorem dX12_readsLine_39 : decode cX12_readsLine 39 = .ok (.imul, 1) := by decide +kernel
theorem dX12_readsLine_40 : decode cX12_readsLine 40 = .ok (.iload_n 1, 1) := by decide +kernel
theorem dX12_readsLine_41 : decode cX12_readsLine 41 = .ok (.iastore, 1) := by decide +kernel
theorem dX12_readsLine_42 : decode cX12_readsLine 42 = .ok (.aload_n 0, 1) := by decide +kernel
theorem dX12_readsLine_43 : decode cX12_readsLine 43 = .ok (.iload_n 1, 1) := by decide +kernel
theorem dX12_readsLine_44 : decode cX12_readsLine 44 = .ok (.invokevirtual 137, 3) := by decide +kernel
theorem dX12_readsLine_47 : decode cX12_readsLine 47 = .ok (.ifCond .ne 5, 3) := by decide +kernel
theorem dX12_readsLine_50 : decode cX12_readsLine 50 = .ok (.iconst 0, 1) := by decide +kernel
theorem dX12_readsLine_51 : decode cX12_readsLine 51 = .ok (.ireturn, 1) := by decide +kernel
theorem dX12_readsLine_52 : decode cX12_readsLine 52 = .ok (.aload_n 0, 1) := by decide +kernel
theorem dX12_readsLine_53 : decode cX12_readsLine 53 = .ok (.iload_n 1, 1) := by decide +kernel
theorem dX12_readsLine_54 : decode cX12_readsLine 54 = .ok (.iconst 3, 1) := by decide +kernel
theorem dX12_readsLine_55 : decode cX12_readsLine 55 = .ok (.if_icmp .ne 7, 3) := by decide +kernel
theorem dX12_readsLine_58 : decode cX12_readsLine 58 = .ok (.iconst 0, 1) := by decide +kernel
theorem dX12_readsLine_59 : decode cX12_readsLine 59 = .ok (.goto 35, 3) := by decide +kernel
theorem dX12_readsLine_62 : decode cX12_readsLine 62 = .ok (.iload_n 1, 1) := by decide +kernel
theorem dX12_readsLine_63 : decode cX12_readsLine 63 = .ok (.iconst 1, 1) := by decide +kernel
theorem dX12_readsLine_64 : decode cX12_readsLine 64 = .ok (.if_icmp .ne 12, 3) := by decide +kernel
theorem dX12_readsLine_67 : decode cX12_readsLine 67 = .ok (.aload_n 0, 1) := by decide +kernel
theorem dX12_readsLine_68 : decode cX12_readsLine 68 = .ok (.getfield 131, 3) := by decide +kernel
theorem dX12_readsLine_71 : decode cX12_readsLine 71 = .ok (.iconst 1, 1) := by decide +kernel
theorem dX12_readsLine_72 : decode cX12_readsLine 72 = .ok (.iadd, 1) := by decide +kernel
theorem dX12_readsLine_73 : decode cX12_readsLine 73 = .ok (.goto 21, 3) := by decide +kernel
theorem dX12_readsLine_76 : decode cX12_readsLine 76 = .ok (.iload_n 1, 1) := by decide +kernel
theorem dX12_readsLine_77 : decode cX12_readsLine 77 = .ok (.iconst 2, 1) := by decide +kernel
theorem dX12_readsLine_78 : decode cX12_readsLine 78 = .ok (.if_icmp .ne 12, 3) := by decide +kernel
theorem dX12_readsLine_81 : decode cX12_readsLine 81 = .ok (.aload_n 0, 1) := by decide +kernel
theorem dX12_readsLine_82 : decode cX12_readsLine 82 = .ok (.getfield 131, 3) := by decide +kernel
theorem dX12_readsLine_85 : decode cX12_readsLine 85 = .ok (.iconst 1, 1) := by decide +kernel
theorem dX12_readsLine_86 : decode cX12_readsLine 86 = .ok (.isub, 1) := by decide +kernel
theorem dX12_readsLine_87 : decode cX12_readsLine 87 = .ok (.goto 7, 3) := by decide +kernel
theorem dX12_readsLine_90 : decode cX12_readsLine 90 = .ok (.aload_n 0, 1) := by decide +kernel
theorem dX12_readsLine_91 : decode cX12_readsLine 91 = .ok (.getfield 131, 3) := by decide +kernel
theorem dX12_readsLine_94 : decode cX12_readsLine 94 = .ok (.putfield 131, 3) := by decide +kernel
theorem dX12_readsLine_97 : decode cX12_readsLine 97 = .ok (.aload_n 0, 1) := by decide +kernel
theorem dX12_readsLine_98 : decode cX12_readsLine 98 = .ok (.dup, 1) := by decide +kernel
theorem dX12_readsLine_99 : decode cX12_readsLine 99 = .ok (.getfield 114, 3) := by decide +kernel
theorem dX12_readsLine_102 : decode cX12_readsLine 102 = .ok (.iconst 1, 1) := by decide +kernel
theorem dX12_readsLine_103 : decode cX12_readsLine 103 = .ok (.iadd, 1) := by decide +kernel
theorem dX12_readsLine_104 : decode cX12_readsLine 104 = .ok (.putfield 114, 3) := by decide +kernel
theorem dX12_readsLine_107 : decode cX12_readsLine 107 = .ok (.iconst 1, 1) := by decide +kernel
theorem dX12_readsLine_108 : decode cX12_readsLine 108 = .ok (.ireturn, 1) := by decide +kernel
theorem dX12_fault_0 : decode cX12_fault 0 = .ok (.aload_n 0, 1) := by decide +kernel
theorem dX12_fault_1 : decode cX12_fault 1 = .ok (.iconst 0, 1) := by decide +kernel
theorem dX12_fault_2 : decode cX12_fault 2 = .ok (.putfield 79, 3) := by decide +kernel
theorem dX12_fault_5 : decode cX12_fault 5 = .ok (.aload_n 0, 1) := by decide +kernel
theorem dX12_fault_6 : decode cX12_fault 6 = .ok (.iconst 0, 1) := by decide +kernel
theorem dX12_fault_7 : decode cX12_fault 7 = .ok (.putfield 114, 3) := by decide +kernel
theorem dX12_fault_10 : decode cX12_fault 10 = .ok (.aload_n 0, 1) := by decide +kernel
theorem dX12_fault_11 : decode cX12_fault 11 = .ok (.aload_n 0, 1) := by decide +kernel
theorem dX12_fault_12 : decode cX12_fault 12 = .ok (.invokevirtual 141, 3) := by decide +kernel
theorem dX12_fault_15 : decode cX12_fault 15 = .ok (.putfield 131, 3) := by decide +kernel
theorem dX12_fault_18 : decode cX12_fault 18 = .ok (.aload_n 0, 1) := by decide +kernel
theorem dX12_fault_19 : decode cX12_fault 19 = .ok (.invokevirtual 117, 3) := by decide +kernel
theorem dX12_fault_22 : decode cX12_fault 22 = .ok (.aload_n 0, 1) := by decide +kernel
theorem dX12_fault_23 : decode cX12_fault 23 = .ok (.invokevirtual 144, 3) := by decide +kernel
theorem dX12_fault_26 : decode cX12_fault 26 = .ok (.ifCond .ne 8, 3) := by decide +kernel
theorem dX12_fault_29 : decode cX12_fault 29 = .ok (.aload_n 0, 1) := by decide +kernel
theorem dX12_fault_30 : decode cX12_fault 30 = .ok (.getfield 82, 3) := by decide +kernel
theorem dX12_fault_33 : decode cX12_fault 33 = .ok (.ireturn, 1) := by decide +kernel
theorem dX12_fault_34 : decode cX12_fault 34 = .ok (.aload_n 0, 1) := by decide +kernel
theorem dX12_fault_35 : decode cX12_fault 35 = .ok (.getfield 82, 3) := by decide +kernel
theorem dX12_fault_38 : decode cX12_fault 38 = .ok (.aload_n 0, 1) := by decide +kernel
theorem dX12_fault_39 : decode cX12_fault 39 = .ok (.getfield 73, 3) := by decide +kernel
theorem dX12_fault_42 : decode cX12_fault 42 = .ok (.if_icmp .ge 70, 3) := by decide +kernel
theorem dX12_fault_45 : decode cX12_fault 45 = .ok (.aload_n 0, 1) := by decide +kernel
theorem dX12_fault_46 : decode cX12_fault 46 = .ok (.getfield 89, 3) := by decide +kernel
theorem dX12_fault_49 : decode cX12_fault 49 = .ok (.aload_n 0, 1) := by decide +kernel
theorem dX12_fault_50 : decode cX12_fault 50 = .ok (.getfield 82, 3) := by decide +kernel
theorem dX12_fault_53 : decode cX12_fault 53 = .ok (.isub, 1) := by decide +kernel
theorem dX12_fault_54 : decode cX12_fault 54 = .ok (.iconst 1, 1) := by decide +kernel
theorem dX12_fault_55 : decode cX12_fault 55 = .ok (.if_icmp .ne 30, 3) := by decide +kernel
theorem dX12_fault_58 : decode cX12_fault 58 = .ok (.aload_n 0, 1) := by decide +kernel
theorem dX12_fault_59 : decode cX12_fault 59 = .ok (.getfield 27, 3) := by decide +kernel
theorem dX12_fault_62 : decode cX12_fault 62 = .ok (.aload_n 0, 1) := by decide +kernel
theorem dX12_fault_63 : decode cX12_fault 63 = .ok (.getfield 82, 3) := by decide +kernel
theorem dX12_fault_66 : decode cX12_fault 66 = .ok (.iaload, 1) := by decide +kernel
theorem dX12_fault_67 : decode cX12_fault 67 = .ok (.bipush 59, 2) := by decide +kernel
theorem dX12_fault_69 : decode cX12_fault 69 = .ok (.if_icmp .ne 16, 3) := by decide +kernel
theorem dX12_fault_72 : decode cX12_fault 72 = .ok (.aload_n 0, 1) := by decide +kernel
theorem dX12_fault_73 : decode cX12_fault 73 = .ok (.getfield 114, 3) := by decide +kernel
theorem dX12_fault_76 : decode cX12_fault 76 = .ok (.bipush 10, 2) := by decide +kernel
theorem dX12_fault_78 : decode cX12_fault 78 = .ok (.if_icmp .ge 7, 3) := by decide +kernel
theorem dX12_fault_81 : decode cX12_fault 81 = .ok (.iconst 1, 1) := by decide +kernel
theorem dX12_fault_82 : decode cX12_fault 82 = .ok (.goto 4, 3) := by decide +kernel
theorem dX12_fault_85 : decode cX12_fault 85 = .ok (.iconst 0, 1) := by decide +kernel
theorem dX12_fault_86 : decode cX12_fault 86 = .ok (.istore_n 1, 1) := by decide +kernel
theorem dX12_fault_87 : decode cX12_fault 87 = .ok (.iload_n 1, 1) := by decide +kernel
theorem dX12_fault_88 : decode cX12_fault 88 = .ok (.ifCond .eq 12, 3) := by decide +kernel
theorem dX12_fault_91 : decode cX12_fault 91 = .ok (.aload_n 0, 1) := by decide +kernel
theorem dX12_fault_92 : decode cX12_fault 92 = .ok (.invokevirtual 117, 3) := by decide +kernel
theorem dX12_fault_95 : decode cX12_fault 95 = .ok (.aload_n 0, 1) := by decide +kernel
theorem dX12_fault_96 : decode cX12_fault 96 = .ok (.invokevirtual 144, 3) := by decide +kernel
theorem dX12_fault_99 : decode cX12_fault 99 = .ok (.istore_n 1, 1) := by decide +kernel
theorem dX12_fault_100 : decode cX12_fault 100 = .ok (.iload_n 1, 1) := by decide +kernel
theorem dX12_fault_101 : decode cX12_fault 101 = .ok (.ifCond .ne 8, 3) := by decide +kernel
theorem dX12_fault_104 : decode cX12_fault 104 = .ok (.aload_n 0, 1) := by decide +kernel
theorem dX12_fault_105 : decode cX12_fault 105 = .ok (.getfield 82, 3) := by decide +kernel
theorem dX12_fault_108 : decode cX12_fault 108 = .ok (.ireturn, 1) := by decide +kernel
theorem dX12_fault_109 : decode cX12_fault 109 = .ok (.goto (-75), 3) := by decide +kernel
theorem dX12_fault_112 : decode cX12_fault 112 = .ok (.iconst (-1), 1) := by decide +kernel
theorem dX12_fault_113 : decode cX12_fault 113 = .ok (.ireturn, 1) := by decide +kernel
theorem dX12_away_0 : decode cX12_away 0 = .ok (.aload_n 0, 1) := by decide +kernel
theorem dX12_away_1 : decode cX12_away 1 = .ok (.getfield 17, 3) := by decide +kernel
theorem dX12_away_4 : decode cX12_away 4 = .ok (.iconst 0, 1) := by decide +kernel
theorem dX12_away_5 : decode cX12_away 5 = .ok (.dup2, 1) := by decide +kernel
theorem dX12_away_6 : decode cX12_away 6 = .ok (.iaload, 1) := by decide +kernel
theorem dX12_away_7 : decode cX12_away 7 = .ok (.iconst 1, 1) := by decide +kernel
theorem dX12_away_8 : decode cX12_away 8 = .ok (.isub, 1) := by decide +kernel
theorem dX12_away_9 : decode cX12_away 9 = .ok (.iastore, 1) := by decide +kernel
theorem dX12_away_10 : decode cX12_away 10 = .ok (.iload_n 1, 1) := by decide +kernel
theorem dX12_away_11 : decode cX12_away 11 = .ok (.istore_n 2, 1) := by decide +kernel
theorem dX12_away_12 : decode cX12_away 12 = .ok (.iload_n 2, 1) := by decide +kernel
theorem dX12_away_13 : decode cX12_away 13 = .ok (.aload_n 0, 1) := by decide +kernel
theorem dX12_away_14 : decode cX12_away 14 = .ok (.getfield 17, 3) := by decide +kernel
theorem dX12_away_17 : decode cX12_away 17 = .ok (.iconst 0, 1) := by decide +kernel
theorem dX12_away_18 : decode cX12_away 18 = .ok (.iaload, 1) := by decide +kernel
theorem dX12_away_19 : decode cX12_away 19 = .ok (.if_icmp .ge 58, 3) := by decide +kernel
theorem dX12_away_22 : decode cX12_away 22 = .ok (.aload_n 0, 1) := by decide +kernel
theorem dX12_away_23 : decode cX12_away 23 = .ok (.getfield 7, 3) := by decide +kernel
theorem dX12_away_26 : decode cX12_away 26 = .ok (.iload_n 2, 1) := by decide +kernel
theorem dX12_away_27 : decode cX12_away 27 = .ok (.aload_n 0, 1) := by decide +kernel
theorem dX12_away_28 : decode cX12_away 28 = .ok (.getfield 7, 3) := by decide +kernel
theorem dX12_away_31 : decode cX12_away 31 = .ok (.iload_n 2, 1) := by decide +kernel
theorem dX12_away_32 : decode cX12_away 32 = .ok (.iconst 1, 1) := by decide +kernel
theorem dX12_away_33 : decode cX12_away 33 = .ok (.iadd, 1) := by decide +kernel
theorem dX12_away_34 : decode cX12_away 34 = .ok (.laload, 1) := by decide +kernel
theorem dX12_away_35 : decode cX12_away 35 = .ok (.lastore, 1) := by decide +kernel
theorem dX12_away_36 : decode cX12_away 36 = .ok (.iconst 0, 1) := by decide +kernel
theorem dX12_away_37 : decode cX12_away 37 = .ok (.istore_n 3, 1) := by decide +kernel
theorem dX12_away_38 : decode cX12_away 38 = .ok (.iload_n 3, 1) := by decide +kernel
theorem dX12_away_39 : decode cX12_away 39 = .ok (.iconst 3, 1) := by decide +kernel
theorem dX12_away_40 : decode cX12_away 40 = .ok (.if_icmp .ge 31, 3) := by decide +kernel
theorem dX12_away_43 : decode cX12_away 43 = .ok (.aload_n 0, 1) := by decide +kernel
theorem dX12_away_44 : decode cX12_away 44 = .ok (.getfield 13, 3) := by decide +kernel
theorem dX12_away_47 : decode cX12_away 47 = .ok (.iconst 3, 1) := by decide +kernel
theorem dX12_away_48 : decode cX12_away 48 = .ok (.iload_n 2, 1) := by decide +kernel
theorem dX12_away_49 : decode cX12_away 49 = .ok (.imul, 1) := by decide +kernel
theorem dX12_away_50 : decode cX12_away 50 = .ok (.iload_n 3, 1) := by decide +kernel
theorem dX12_away_51 : decode cX12_away 51 = .ok (.iadd, 1) := by decide +kernel
theorem dX12_away_52 : decode cX12_away 52 = .ok (.aload_n 0, 1) := by decide +kernel
theorem dX12_away_53 : decode cX12_away 53 = .ok (.getfield 13, 3) := by decide +kernel
theorem dX12_away_56 : decode cX12_away 56 = .ok (.iconst 3, 1) := by decide +kernel
theorem dX12_away_57 : decode cX12_away 57 = .ok (.iload_n 2, 1) := by decide +kernel
theorem dX12_away_58 : decode cX12_away 58 = .ok (.imul, 1) := by decide +kernel
theorem dX12_away_59 : decode cX12_away 59 = .ok (.iconst 3, 1) := by decide +kernel
theorem dX12_away_60 : decode cX12_away 60 = .ok (.iadd, 1) := by decide +kernel
theorem dX12_away_61 : decode cX12_away 61 = .ok (.iload_n 3, 1) := by decide +kernel
theorem dX12_away_62 : decode cX12_away 62 = .ok (.iadd, 1) := by decide +kernel
theorem dX12_away_63 : decode cX12_away 63 = .ok (.iaload, 1) := by decide +kernel
theorem dX12_away_64 : decode cX12_away 64 = .ok (.iastore, 1) := by decide +kernel
theorem dX12_away_65 : decode cX12_away 65 = .ok (.iinc 3 1, 3) := by decide +kernel
theorem dX12_away_68 : decode cX12_away 68 = .ok (.goto (-30), 3) := by decide +kernel
theorem dX12_away_71 : decode cX12_away 71 = .ok (.iinc 2 1, 3) := by decide +kernel
theorem dX12_away_74 : decode cX12_away 74 = .ok (.goto (-62), 3) := by decide +kernel
theorem dX12_away_77 : decode cX12_away 77 = .ok (.return_, 1) := by decide +kernel
theorem dX12_tell_0 : decode cX12_tell 0 = .ok (.aload_n 0, 1) := by decide +kernel
theorem dX12_tell_1 : decode cX12_tell 1 = .ok (.getfield 30, 3) := by decide +kernel
theorem dX12_tell_4 : decode cX12_tell 4 = .ok (.iconst 5, 1) := by decide +kernel
theorem dX12_tell_5 : decode cX12_tell 5 = .ok (.iload_n 1, 1) := by decide +kernel
theorem dX12_tell_6 : decode cX12_tell 6 = .ok (.imul, 1) := by decide +kernel
theorem dX12_tell_7 : decode cX12_tell 7 = .ok (.iconst 1, 1) := by decide +kernel
theorem dX12_tell_8 : decode cX12_tell 8 = .ok (.iadd, 1) := by decide +kernel
theorem dX12_tell_9 : decode cX12_tell 9 = .ok (.iaload, 1) := by decide +kernel
theorem dX12_tell_10 : decode cX12_tell 10 = .ok (.istore_n 2, 1) := by decide +kernel
theorem dX12_tell_11 : decode cX12_tell 11 = .ok (.aload_n 0, 1) := by decide +kernel
theorem dX12_tell_12 : decode cX12_tell 12 = .ok (.getfield 30, 3) := by decide +kernel
theorem dX12_tell_15 : decode cX12_tell 15 = .ok (.iconst 5, 1) := by decide +kernel
theorem dX12_tell_16 : decode cX12_tell 16 = .ok (.iload_n 1, 1) := by decide +kernel
theorem dX12_tell_17 : decode cX12_tell 17 = .ok (.imul, 1) := by decide +kernel
theorem dX12_tell_18 : decode cX12_tell 18 = .ok (.iaload, 1) := by decide +kernel
theorem dX12_tell_19 : decode cX12_tell 19 = .ok (.tableswitch 107 0 2 #[25, 33, 101], 25) := by decide +kernel
theorem dX12_tell_44 : decode cX12_tell 44 = .ok (.aload_n 0, 1) := by decide +kernel
theorem dX12_tell_45 : decode cX12_tell 45 = .ok (.getfield 17, 3) := by decide +kernel
theorem dX12_tell_48 : decode cX12_tell 48 = .ok (.iconst 1, 1) := by decide +kernel
theorem dX12_tell_49 : decode cX12_tell 49 = .ok (.iload_n 2, 1) := by decide +kernel
theorem dX12_tell_50 : decode cX12_tell 50 = .ok (.iastore, 1) := by decide +kernel
theorem dX12_tell_51 : decode cX12_tell 51 = .ok (.return_, 1) := by decide +kernel
theorem dX12_tell_52 : decode cX12_tell 52 = .ok (.aload_n 0, 1) := by decide +kernel
theorem dX12_tell_53 : decode cX12_tell 53 = .ok (.getfield 7, 3) := by decide +kernel
theorem dX12_tell_56 : decode cX12_tell 56 = .ok (.aload_n 0, 1) := by decide +kernel
theorem dX12_tell_57 : decode cX12_tell 57 = .ok (.getfield 17, 3) := by decide +kernel
theorem dX12_tell_60 : decode cX12_tell 60 = .ok (.iconst 0, 1) := by decide +kernel
theorem dX12_tell_61 : decode cX12_tell 61 = .ok (.iaload, 1) := by decide +kernel
theorem dX12_tell_62 : decode cX12_tell 62 = .ok (.aload_n 0, 1) := by decide +kernel
theorem dX12_tell_63 : decode cX12_tell 63 = .ok (.getfield 33, 3) := by decide +kernel
theorem dX12_tell_66 : decode cX12_tell 66 = .ok (.iload_n 1, 1) := by decide +kernel
theorem dX12_tell_67 : decode cX12_tell 67 = .ok (.laload, 1) := by decide +kernel
theorem dX12_tell_68 : decode cX12_tell 68 = .ok (.lastore, 1) := by decide +kernel
theorem dX12_tell_69 : decode cX12_tell 69 = .ok (.iconst 0, 1) := by decide +kernel
theorem dX12_tell_70 : decode cX12_tell 70 = .ok (.istore_n 3, 1) := by decide +kernel
theorem dX12_tell_71 : decode cX12_tell 71 = .ok (.iload_n 3, 1) := by decide +kernel
theorem dX12_tell_72 : decode cX12_tell 72 = .ok (.iconst 3, 1) := by decide +kernel
theorem dX12_tell_73 : decode cX12_tell 73 = .ok (.if_icmp .ge 36, 3) := by decide +kernel
theorem dX12_tell_76 : decode cX12_tell 76 = .ok (.aload_n 0, 1) := by decide +kernel
theorem dX12_tell_77 : decode cX12_tell 77 = .ok (.getfield 13, 3) := by decide +kernel
theorem dX12_tell_80 : decode cX12_tell 80 = .ok (.iconst 3, 1) := by decide +kernel
theorem dX12_tell_81 : decode cX12_tell 81 = .ok (.aload_n 0, 1) := by decide +kernel
theorem dX12_tell_82 : decode cX12_tell 82 = .ok (.getfield 17, 3) := by decide +kernel
theorem dX12_tell_85 : decode cX12_tell 85 = .ok (.iconst 0, 1) := by decide +kernel
theorem dX12_tell_86 : decode cX12_tell 86 = .ok (.iaload, 1) := by decide +kernel
theorem dX12_tell_87 : decode cX12_tell 87 = .ok (.imul, 1) := by decide +kernel
theorem dX12_tell_88 : decode cX12_tell 88 = .ok (.iload_n 3, 1) := by decide +kernel
theorem dX12_tell_89 : decode cX12_tell 89 = .ok (.iadd, 1) := by decide +kernel
theorem dX12_tell_90 : decode cX12_tell 90 = .ok (.aload_n 0, 1) := by decide +kernel
theorem dX12_tell_91 : decode cX12_tell 91 = .ok (.getfield 30, 3) := by decide +kernel
theorem dX12_tell_94 : decode cX12_tell 94 = .ok (.iconst 5, 1) := by decide +kernel
theorem dX12_tell_95 : decode cX12_tell 95 = .ok (.iload_n 1, 1) := by decide +kernel
theorem dX12_tell_96 : decode cX12_tell 96 = .ok (.imul, 1) := by decide +kernel
theorem dX12_tell_97 : decode cX12_tell 97 = .ok (.iconst 1, 1) := by decide +kernel
theorem dX12_tell_98 : decode cX12_tell 98 = .ok (.iadd, 1) := by decide +kernel
theorem dX12_tell_99 : decode cX12_tell 99 = .ok (.iload_n 3, 1) := by decide +kernel
theorem dX12_tell_100 : decode cX12_tell 100 = .ok (.iadd, 1) := by decide +kernel
theorem dX12_tell_101 : decode cX12_tell 101 = .ok (.iaload, 1) := by decide +kernel
theorem dX12_tell_102 : decode cX12_tell 102 = .ok (.iastore, 1) := by decide +kernel
theorem dX12_tell_103 : decode cX12_tell 103 = .ok (.iinc 3 1, 3) := by decide +kernel
theorem dX12_tell_106 : decode cX12_tell 106 = .ok (.goto (-35), 3) := by decide +kernel
theorem dX12_tell_109 : decode cX12_tell 109 = .ok (.aload_n 0, 1) := by decide +kernel
theorem dX12_tell_110 : decode cX12_tell 110 = .ok (.getfield 17, 3) := by decide +kernel
theorem dX12_tell_113 : decode cX12_tell 113 = .ok (.iconst 0, 1) := by decide +kernel
theorem dX12_tell_114 : decode cX12_tell 114 = .ok (.dup2, 1) := by decide +kernel
theorem dX12_tell_115 : decode cX12_tell 115 = .ok (.iaload, 1) := by decide +kernel
theorem dX12_tell_116 : decode cX12_tell 116 = .ok (.iconst 1, 1) := by decide +kernel
theorem dX12_tell_117 : decode cX12_tell 117 = .ok (.iadd, 1) := by decide +kernel
theorem dX12_tell_118 : decode cX12_tell 118 = .ok (.iastore, 1) := by decide +kernel
theorem dX12_tell_119 : decode cX12_tell 119 = .ok (.return_, 1) := by decide +kernel
theorem dX12_tell_120 : decode cX12_tell 120 = .ok (.aload_n 0, 1) := by decide +kernel
theorem dX12_tell_121 : decode cX12_tell 121 = .ok (.iload_n 2, 1) := by decide +kernel
theorem dX12_tell_122 : decode cX12_tell 122 = .ok (.invokevirtual 147, 3) := by decide +kernel
theorem dX12_tell_125 : decode cX12_tell 125 = .ok (.return_, 1) := by decide +kernel
theorem dX12_tell_126 : decode cX12_tell 126 = .ok (.aload_n 0, 1) := by decide +kernel
theorem dX12_tell_127 : decode cX12_tell 127 = .ok (.getfield 17, 3) := by decide +kernel
theorem dX12_tell_130 : decode cX12_tell 130 = .ok (.iconst 0, 1) := by decide +kernel
theorem dX12_tell_131 : decode cX12_tell 131 = .ok (.iconst 0, 1) := by decide +kernel
theorem dX12_tell_132 : decode cX12_tell 132 = .ok (.iastore, 1) := by decide +kernel
theorem dX12_tell_133 : decode cX12_tell 133 = .ok (.return_, 1) := by decide +kernel
theorem dX12_market_0 : decode cX12_market 0 = .ok (.aload_n 0, 1) := by decide +kernel
theorem dX12_market_1 : decode cX12_market 1 = .ok (.invokevirtual 151, 3) := by decide +kernel
theorem dX12_market_4 : decode cX12_market 4 = .ok (.iconst (-1), 1) := by decide +kernel
theorem dX12_market_5 : decode cX12_market 5 = .ok (.if_icmp .eq 6, 3) := by decide +kernel
theorem dX12_market_8 : decode cX12_market 8 = .ok (.bipush (-4), 2) := by decide +kernel
theorem dX12_market_10 : decode cX12_market 10 = .ok (.ireturn, 1) := by decide +kernel
theorem dX12_market_11 : decode cX12_market 11 = .ok (.iconst 0, 1) := by decide +kernel
theorem dX12_market_12 : decode cX12_market 12 = .ok (.istore_n 1, 1) := by decide +kernel
theorem dX12_market_13 : decode cX12_market 13 = .ok (.iload_n 1, 1) := by decide +kernel
theorem dX12_market_14 : decode cX12_market 14 = .ok (.aload_n 0, 1) := by decide +kernel
theorem dX12_market_15 : decode cX12_market 15 = .ok (.getfield 114, 3) := by decide +kernel
theorem dX12_market_18 : decode cX12_market 18 = .ok (.if_icmp .ge 14, 3) := by decide +kernel
theorem dX12_market_21 : decode cX12_market 21 = .ok (.aload_n 0, 1) := by decide +kernel
theorem dX12_market_22 : decode cX12_market 22 = .ok (.iload_n 1, 1) := by decide +kernel
theorem dX12_market_23 : decode cX12_market 23 = .ok (.invokevirtual 154, 3) := by decide +kernel
theorem dX12_market_26 : decode cX12_market 26 = .ok (.iinc 1 1, 3) := by decide +kernel
theorem dX12_market_29 : decode cX12_market 29 = .ok (.goto (-16), 3) := by decide +kernel
theorem dX12_market_32 : decode cX12_market 32 = .ok (.aload_n 0, 1) := by decide +kernel
theorem dX12_market_33 : decode cX12_market 33 = .ok (.getfield 17, 3) := by decide +kernel
theorem dX12_market_36 : decode cX12_market 36 = .ok (.iconst 2, 1) := by decide +kernel
theorem dX12_market_37 : decode cX12_market 37 = .ok (.iconst 0, 1) := by decide +kernel
theorem dX12_market_38 : decode cX12_market 38 = .ok (.iastore, 1) := by decide +kernel
theorem dX12_market_39 : decode cX12_market 39 = .ok (.aload_n 0, 1) := by decide +kernel
theorem dX12_market_40 : decode cX12_market 40 = .ok (.getfield 23, 3) := by decide +kernel
theorem dX12_market_43 : decode cX12_market 43 = .ok (.iconst 0, 1) := by decide +kernel
theorem dX12_market_44 : decode cX12_market 44 = .ok (.iconst 0, 1) := by decide +kernel
theorem dX12_market_45 : decode cX12_market 45 = .ok (.bastore, 1) := by decide +kernel
theorem dX12_market_46 : decode cX12_market 46 = .ok (.aload_n 0, 1) := by decide +kernel
theorem dX12_market_47 : decode cX12_market 47 = .ok (.getfield 23, 3) := by decide +kernel
theorem dX12_market_50 : decode cX12_market 50 = .ok (.iconst 1, 1) := by decide +kernel
theorem dX12_market_51 : decode cX12_market 51 = .ok (.iconst 0, 1) := by decide +kernel
theorem dX12_market_52 : decode cX12_market 52 = .ok (.bastore, 1) := by decide +kernel
theorem dX12_market_53 : decode cX12_market 53 = .ok (.aload_n 0, 1) := by decide +kernel
theorem dX12_market_54 : decode cX12_market 54 = .ok (.iconst 0, 1) := by decide +kernel
theorem dX12_market_55 : decode cX12_market 55 = .ok (.putfield 73, 3) := by decide +kernel
theorem dX12_market_58 : decode cX12_market 58 = .ok (.aload_n 0, 1) := by decide +kernel
theorem dX12_market_59 : decode cX12_market 59 = .ok (.getfield 114, 3) := by decide +kernel
theorem dX12_market_62 : decode cX12_market 62 = .ok (.ireturn, 1) := by decide +kernel
theorem dX12_restOf_0 : decode cX12_restOf 0 = .ok (.aload_n 0, 1) := by decide +kernel
theorem dX12_restOf_1 : decode cX12_restOf 1 = .ok (.getfield 7, 3) := by decide +kernel
theorem dX12_restOf_4 : decode cX12_restOf 4 = .ok (.iload_n 1, 1) := by decide +kernel
theorem dX12_restOf_5 : decode cX12_restOf 5 = .ok (.laload, 1) := by decide +kernel
theorem dX12_restOf_6 : decode cX12_restOf 6 = .ok (.aload_n 0, 1) := by decide +kernel
theorem dX12_restOf_7 : decode cX12_restOf 7 = .ok (.invokevirtual 157, 3) := by decide +kernel
theorem dX12_restOf_10 : decode cX12_restOf 10 = .ok (.i2l, 1) := by decide +kernel
theorem dX12_restOf_11 : decode cX12_restOf 11 = .ok (.lrem, 1) := by decide +kernel
theorem dX12_restOf_12 : decode cX12_restOf 12 = .ok (.l2i, 1) := by decide +kernel
theorem dX12_restOf_13 : decode cX12_restOf 13 = .ok (.ireturn, 1) := by decide +kernel
theorem dX12_heap_0 : decode cX12_heap 0 = .ok (.iload_n 1, 1) := by decide +kernel
theorem dX12_heap_1 : decode cX12_heap 1 = .ok (.i2l, 1) := by decide +kernel
theorem dX12_heap_2 : decode cX12_heap 2 = .ok (.lconst 0, 1) := by decide +kernel
theorem dX12_heap_3 : decode cX12_heap 3 = .ok (.aload_n 0, 1) := by decide +kernel
theorem dX12_heap_4 : decode cX12_heap 4 = .ok (.invokevirtual 141, 3) := by decide +kernel
theorem dX12_heap_7 : decode cX12_heap 7 = .ok (.iconst 1, 1) := by decide +kernel
theorem dX12_heap_8 : decode cX12_heap 8 = .ok (.isub, 1) := by decide +kernel
theorem dX12_heap_9 : decode cX12_heap 9 = .ok (.i2l, 1) := by decide +kernel
theorem dX12_heap_10 : decode cX12_heap 10 = .ok (.invokestatic 69, 3) := by decide +kernel
theorem dX12_heap_13 : decode cX12_heap 13 = .ok (.ifCond .ne 7, 3) := by decide +kernel
theorem dX12_heap_16 : decode cX12_heap 16 = .ok (.ldc2_w 160, 3) := by decide +kernel
theorem dX12_heap_19 : decode cX12_heap 19 = .ok (.lreturn, 1) := by decide +kernel
theorem dX12_heap_20 : decode cX12_heap 20 = .ok (.iload_n 2, 1) := by decide +kernel
theorem dX12_heap_21 : decode cX12_heap 21 = .ok (.tableswitch 84 0 5 #[39, 46, 46, 46, 60, 67], 39) := by decide +kernel
theorem dX12_heap_60 : decode cX12_heap 60 = .ok (.aload_n 0, 1) := by decide +kernel
theorem dX12_heap_61 : decode cX12_heap 61 = .ok (.getfield 7, 3) := by decide +kernel
theorem dX12_heap_64 : decode cX12_heap 64 = .ok (.iload_n 1, 1) := by decide +kernel
theorem dX12_heap_65 : decode cX12_heap 65 = .ok (.laload, 1) := by decide +kernel
theorem dX12_heap_66 : decode cX12_heap 66 = .ok (.lreturn, 1) := by decide +kernel
theorem dX12_heap_67 : decode cX12_heap 67 = .ok (.aload_n 0, 1) := by decide +kernel
theorem dX12_heap_68 : decode cX12_heap 68 = .ok (.getfield 13, 3) := by decide +kernel
theorem dX12_heap_71 : decode cX12_heap 71 = .ok (.iconst 3, 1) := by decide +kernel
theorem dX12_heap_72 : decode cX12_heap 72 = .ok (.iload_n 1, 1) := by decide +kernel
theorem dX12_heap_73 : decode cX12_heap 73 = .ok (.imul, 1) := by decide +kernel
theorem dX12_heap_74 : decode cX12_heap 74 = .ok (.iload_n 2, 1) := by decide +kernel
theorem dX12_heap_75 : decode cX12_heap 75 = .ok (.iadd, 1) := by decide +kernel
theorem dX12_heap_76 : decode cX12_heap 76 = .ok (.iconst 1, 1) := by decide +kernel
theorem dX12_heap_77 : decode cX12_heap 77 = .ok (.isub, 1) := by decide +kernel
theorem dX12_heap_78 : decode cX12_heap 78 = .ok (.iaload, 1) := by decide +kernel
theorem dX12_heap_79 : decode cX12_heap 79 = .ok (.i2l, 1) := by decide +kernel
theorem dX12_heap_80 : decode cX12_heap 80 = .ok (.lreturn, 1) := by decide +kernel
theorem dX12_heap_81 : decode cX12_heap 81 = .ok (.aload_n 0, 1) := by decide +kernel
theorem dX12_heap_82 : decode cX12_heap 82 = .ok (.iload_n 1, 1) := by decide +kernel
theorem dX12_heap_83 : decode cX12_heap 83 = .ok (.invokevirtual 162, 3) := by decide +kernel
theorem dX12_heap_86 : decode cX12_heap 86 = .ok (.i2l, 1) := by decide +kernel
theorem dX12_heap_87 : decode cX12_heap 87 = .ok (.lreturn, 1) := by decide +kernel
theorem dX12_heap_88 : decode cX12_heap 88 = .ok (.aload_n 0, 1) := by decide +kernel
theorem dX12_heap_89 : decode cX12_heap 89 = .ok (.getfield 13, 3) := by decide +kernel
theorem dX12_heap_92 : decode cX12_heap 92 = .ok (.iconst 3, 1) := by decide +kernel
theorem dX12_heap_93 : decode cX12_heap 93 = .ok (.iload_n 1, 1) := by decide +kernel
theorem dX12_heap_94 : decode cX12_heap 94 = .ok (.imul, 1) := by decide +kernel
theorem dX12_heap_95 : decode cX12_heap 95 = .ok (.iconst 0, 1) := by decide +kernel
theorem dX12_heap_96 : decode cX12_heap 96 = .ok (.iadd, 1) := by decide +kernel
theorem dX12_heap_97 : decode cX12_heap 97 = .ok (.iaload, 1) := by decide +kernel
theorem dX12_heap_98 : decode cX12_heap 98 = .ok (.aload_n 0, 1) := by decide +kernel
theorem dX12_heap_99 : decode cX12_heap 99 = .ok (.invokevirtual 157, 3) := by decide +kernel
theorem dX12_heap_102 : decode cX12_heap 102 = .ok (.irem, 1) := by decide +kernel
theorem dX12_heap_103 : decode cX12_heap 103 = .ok (.i2l, 1) := by decide +kernel
theorem dX12_heap_104 : decode cX12_heap 104 = .ok (.lreturn, 1) := by decide +kernel
theorem dX12_heap_105 : decode cX12_heap 105 = .ok (.ldc2_w 165, 3) := by decide +kernel
theorem dX12_heap_108 : decode cX12_heap 108 = .ok (.lreturn, 1) := by decide +kernel
theorem dX12_isLot_0 : decode cX12_isLot 0 = .ok (.iload_n 1, 1) := by decide +kernel
theorem dX12_isLot_1 : decode cX12_isLot 1 = .ok (.i2l, 1) := by decide +kernel
theorem dX12_isLot_2 : decode cX12_isLot 2 = .ok (.lconst 0, 1) := by decide +kernel
theorem dX12_isLot_3 : decode cX12_isLot 3 = .ok (.iconst 1, 1) := by decide +kernel
theorem dX12_isLot_4 : decode cX12_isLot 4 = .ok (.aload_n 0, 1) := by decide +kernel
theorem dX12_isLot_5 : decode cX12_isLot 5 = .ok (.invokevirtual 141, 3) := by decide +kernel
theorem dX12_isLot_8 : decode cX12_isLot 8 = .ok (.ishl, 1) := by decide +kernel
theorem dX12_isLot_9 : decode cX12_isLot 9 = .ok (.iconst 1, 1) := by decide +kernel
theorem dX12_isLot_10 : decode cX12_isLot 10 = .ok (.isub, 1) := by decide +kernel
theorem dX12_isLot_11 : decode cX12_isLot 11 = .ok (.i2l, 1) := by decide +kernel
theorem dX12_isLot_12 : decode cX12_isLot 12 = .ok (.invokestatic 69, 3) := by decide +kernel
theorem dX12_isLot_15 : decode cX12_isLot 15 = .ok (.ireturn, 1) := by decide +kernel
theorem dX12_bits_0 : decode cX12_bits 0 = .ok (.iconst 0, 1) := by decide +kernel
theorem dX12_bits_1 : decode cX12_bits 1 = .ok (.istore_n 1, 1) := by decide +kernel
theorem dX12_bits_2 : decode cX12_bits 2 = .ok (.iconst 0, 1) := by decide +kernel
theorem dX12_bits_3 : decode cX12_bits 3 = .ok (.istore_n 2, 1) := by decide +kernel
theorem dX12_bits_4 : decode cX12_bits 4 = .ok (.iload_n 2, 1) := by decide +kernel
theorem dX12_bits_5 : decode cX12_bits 5 = .ok (.bipush 20, 2) := by decide +kernel
theorem dX12_bits_7 : decode cX12_bits 7 = .ok (.if_icmp .ge 17, 3) := by decide +kernel
theorem dX12_bits_10 : decode cX12_bits 10 = .ok (.iload_n 1, 1) := by decide +kernel
theorem dX12_bits_11 : decode cX12_bits 11 = .ok (.iload_n 0, 1) := by decide +kernel
theorem dX12_bits_12 : decode cX12_bits 12 = .ok (.iload_n 2, 1) := by decide +kernel
theorem dX12_bits_13 : decode cX12_bits 13 = .ok (.ishr, 1) := by decide +kernel
theorem dX12_bits_14 : decode cX12_bits 14 = .ok (.iconst 1, 1) := by decide +kernel
theorem dX12_bits_15 : decode cX12_bits 15 = .ok (.iand, 1) := by decide +kernel
theorem dX12_bits_16 : decode cX12_bits 16 = .ok (.iadd, 1) := by decide +kernel
theorem dX12_bits_17 : decode cX12_bits 17 = .ok (.istore_n 1, 1) := by decide +kernel
theorem dX12_bits_18 : decode cX12_bits 18 = .ok (.iinc 2 1, 3) := by decide +kernel
theorem dX12_bits_21 : decode cX12_bits 21 = .ok (.goto (-17), 3) := by decide +kernel
theorem dX12_bits_24 : decode cX12_bits 24 = .ok (.iload_n 1, 1) := by decide +kernel
theorem dX12_bits_25 : decode cX12_bits 25 = .ok (.ireturn, 1) := by decide +kernel
theorem dX12_restOfLot_0 : decode cX12_restOfLot 0 = .ok (.iconst 0, 1) := by decide +kernel
theorem dX12_restOfLot_1 : decode cX12_restOfLot 1 = .ok (.istore_n 3, 1) := by decide +kernel
theorem dX12_restOfLot_2 : decode cX12_restOfLot 2 = .ok (.iconst 0, 1) := by decide +kernel
theorem dX12_restOfLot_3 : decode cX12_restOfLot 3 = .ok (.istore 4, 2) := by decide +kernel
theorem dX12_restOfLot_5 : decode cX12_restOfLot 5 = .ok (.iload 4, 2) := by decide +kernel
theorem dX12_restOfLot_7 : decode cX12_restOfLot 7 = .ok (.aload_n 0, 1) := by decide +kernel
theorem dX12_restOfLot_8 : decode cX12_restOfLot 8 = .ok (.invokevirtual 141, 3) := by decide +kernel
theorem dX12_restOfLot_11 : decode cX12_restOfLot 11 = .ok (.if_icmp .ge 49, 3) := by decide +kernel
theorem dX12_restOfLot_14 : decode cX12_restOfLot 14 = .ok (.iload_n 3, 1) := by decide +kernel
theorem dX12_restOfLot_15 : decode cX12_restOfLot 15 = .ok (.iload_n 1, 1) := by decide +kernel
theorem dX12_restOfLot_16 : decode cX12_restOfLot 16 = .ok (.iload 4, 2) := by decide +kernel
theorem dX12_restOfLot_18 : decode cX12_restOfLot 18 = .ok (.invokestatic 167, 3) := by decide +kernel
theorem dX12_restOfLot_21 : decode cX12_restOfLot 21 = .ok (.ifCond .ne 7, 3) := by decide +kernel
theorem dX12_restOfLot_24 : decode cX12_restOfLot 24 = .ok (.iconst 0, 1) := by decide +kernel
theorem dX12_restOfLot_25 : decode cX12_restOfLot 25 = .ok (.goto 27, 3) := by decide +kernel
theorem dX12_restOfLot_28 : decode cX12_restOfLot 28 = .ok (.iload_n 2, 1) := by decide +kernel
theorem dX12_restOfLot_29 : decode cX12_restOfLot 29 = .ok (.ifCond .eq 17, 3) := by decide +kernel
theorem dX12_restOfLot_32 : decode cX12_restOfLot 32 = .ok (.aload_n 0, 1) := by decide +kernel
theorem dX12_restOfLot_33 : decode cX12_restOfLot 33 = .ok (.getfield 13, 3) := by decide +kernel
theorem dX12_restOfLot_36 : decode cX12_restOfLot 36 = .ok (.iconst 3, 1) := by decide +kernel
theorem dX12_restOfLot_37 : decode cX12_restOfLot 37 = .ok (.iload 4, 2) := by decide +kernel
theorem dX12_restOfLot_39 : decode cX12_restOfLot 39 = .ok (.imul, 1) := by decide +kernel
theorem dX12_restOfLot_40 : decode cX12_restOfLot 40 = .ok (.iconst 0, 1) := by decide +kernel
theorem dX12_restOfLot_41 : decode cX12_restOfLot 41 = .ok (.iadd, 1) := by decide +kernel
theorem dX12_restOfLot_42 : decode cX12_restOfLot 42 = .ok (.iaload, 1) := by decide +kernel
theorem dX12_restOfLot_43 : decode cX12_restOfLot 43 = .ok (.goto 9, 3) := by decide +kernel
theorem dX12_restOfLot_46 : decode cX12_restOfLot 46 = .ok (.aload_n 0, 1) := by decide +kernel
theorem dX12_restOfLot_47 : decode cX12_restOfLot 47 = .ok (.iload 4, 2) := by decide +kernel
theorem dX12_restOfLot_49 : decode cX12_restOfLot 49 = .ok (.invokevirtual 162, 3) := by decide +kernel
theorem dX12_restOfLot_52 : decode cX12_restOfLot 52 = .ok (.iadd, 1) := by decide +kernel
theorem dX12_restOfLot_53 : decode cX12_restOfLot 53 = .ok (.istore_n 3, 1) := by decide +kernel
theorem dX12_restOfLot_54 : decode cX12_restOfLot 54 = .ok (.iinc 4 1, 3) := by decide +kernel
theorem dX12_restOfLot_57 : decode cX12_restOfLot 57 = .ok (.goto (-52), 3) := by decide +kernel
theorem dX12_restOfLot_60 : decode cX12_restOfLot 60 = .ok (.iload_n 3, 1) := by decide +kernel
theorem dX12_restOfLot_61 : decode cX12_restOfLot 61 = .ok (.aload_n 0, 1) := by decide +kernel
theorem dX12_restOfLot_62 : decode cX12_restOfLot 62 = .ok (.invokevirtual 157, 3) := by decide +kernel
theorem dX12_restOfLot_65 : decode cX12_restOfLot 65 = .ok (.irem, 1) := by decide +kernel
theorem dX12_restOfLot_66 : decode cX12_restOfLot 66 = .ok (.ireturn, 1) := by decide +kernel
theorem dX12_rest_0 : decode cX12_rest 0 = .ok (.aload_n 0, 1) := by decide +kernel
theorem dX12_rest_1 : decode cX12_rest 1 = .ok (.iload_n 1, 1) := by decide +kernel
theorem dX12_rest_2 : decode cX12_rest 2 = .ok (.invokevirtual 170, 3) := by decide +kernel
theorem dX12_rest_5 : decode cX12_rest 5 = .ok (.ifCond .ne 6, 3) := by decide +kernel
theorem dX12_rest_8 : decode cX12_rest 8 = .ok (.bipush (-2), 2) := by decide +kernel
theorem dX12_rest_10 : decode cX12_rest 10 = .ok (.ireturn, 1) := by decide +kernel
theorem dX12_rest_11 : decode cX12_rest 11 = .ok (.iload_n 2, 1) := by decide +kernel
theorem dX12_rest_12 : decode cX12_rest 12 = .ok (.ifCond .eq 8, 3) := by decide +kernel
theorem dX12_rest_15 : decode cX12_rest 15 = .ok (.iload_n 2, 1) := by decide +kernel
theorem dX12_rest_16 : decode cX12_rest 16 = .ok (.iconst 1, 1) := by decide +kernel
theorem dX12_rest_17 : decode cX12_rest 17 = .ok (.if_icmp .ne 21, 3) := by decide +kernel
theorem dX12_rest_20 : decode cX12_rest 20 = .ok (.aload_n 0, 1) := by decide +kernel
theorem dX12_rest_21 : decode cX12_rest 21 = .ok (.iload_n 1, 1) := by decide +kernel
theorem dX12_rest_22 : decode cX12_rest 22 = .ok (.iload_n 2, 1) := by decide +kernel
theorem dX12_rest_23 : decode cX12_rest 23 = .ok (.iconst 1, 1) := by decide +kernel
theorem dX12_rest_24 : decode cX12_rest 24 = .ok (.if_icmp .ne 7, 3) := by decide +kernel
theorem dX12_rest_27 : decode cX12_rest 27 = .ok (.iconst 1, 1) := by decide +kernel
theorem dX12_rest_28 : decode cX12_rest 28 = .ok (.goto 4, 3) := by decide +kernel
theorem dX12_rest_31 : decode cX12_rest 31 = .ok (.iconst 0, 1) := by decide +kernel
theorem dX12_rest_32 : decode cX12_rest 32 = .ok (.invokevirtual 173, 3) := by decide +kernel
theorem dX12_rest_35 : decode cX12_rest 35 = .ok (.goto 17, 3) := by decide +kernel
theorem dX12_rest_38 : decode cX12_rest 38 = .ok (.iload_n 2, 1) := by decide +kernel
theorem dX12_rest_39 : decode cX12_rest 39 = .ok (.iconst 2, 1) := by decide +kernel
theorem dX12_rest_40 : decode cX12_rest 40 = .ok (.if_icmp .ne 10, 3) := by decide +kernel
theorem dX12_rest_43 : decode cX12_rest 43 = .ok (.iload_n 1, 1) := by decide +kernel
theorem dX12_rest_44 : decode cX12_rest 44 = .ok (.invokestatic 177, 3) := by decide +kernel
theorem dX12_rest_47 : decode cX12_rest 47 = .ok (.goto 5, 3) := by decide +kernel
theorem dX12_rest_50 : decode cX12_rest 50 = .ok (.bipush (-3), 2) := by decide +kernel
theorem dX12_rest_52 : decode cX12_rest 52 = .ok (.ireturn, 1) := by decide +kernel
theorem dX12_isSize_0 : decode cX12_isSize 0 = .ok (.iload_n 0, 1) := by decide +kernel
theorem dX12_isSize_1 : decode cX12_isSize 1 = .ok (.i2l, 1) := by decide +kernel
theorem dX12_isSize_2 : decode cX12_isSize 2 = .ok (.lconst 1, 1) := by decide +kernel
theorem dX12_isSize_3 : decode cX12_isSize 3 = .ok (.ldc2_w 180, 3) := by decide +kernel
theorem dX12_isSize_6 : decode cX12_isSize 6 = .ok (.invokestatic 69, 3) := by decide +kernel
theorem dX12_isSize_9 : decode cX12_isSize 9 = .ok (.ireturn, 1) := by decide +kernel
theorem dX12_isTen_0 : decode cX12_isTen 0 = .ok (.iload_n 1, 1) := by decide +kernel
theorem dX12_isTen_1 : decode cX12_isTen 1 = .ok (.invokestatic 177, 3) := by decide +kernel
theorem dX12_isTen_4 : decode cX12_isTen 4 = .ok (.iload_n 2, 1) := by decide +kernel
theorem dX12_isTen_5 : decode cX12_isTen 5 = .ok (.if_icmp .ne 16, 3) := by decide +kernel
theorem dX12_isTen_8 : decode cX12_isTen 8 = .ok (.aload_n 0, 1) := by decide +kernel
theorem dX12_isTen_9 : decode cX12_isTen 9 = .ok (.iload_n 1, 1) := by decide +kernel
theorem dX12_isTen_10 : decode cX12_isTen 10 = .ok (.iconst 0, 1) := by decide +kernel
theorem dX12_isTen_11 : decode cX12_isTen 11 = .ok (.invokevirtual 173, 3) := by decide +kernel
theorem dX12_isTen_14 : decode cX12_isTen 14 = .ok (.ifCond .ne 7, 3) := by decide +kernel
theorem dX12_isTen_17 : decode cX12_isTen 17 = .ok (.iconst 1, 1) := by decide +kernel
theorem dX12_isTen_18 : decode cX12_isTen 18 = .ok (.goto 4, 3) := by decide +kernel
theorem dX12_isTen_21 : decode cX12_isTen 21 = .ok (.iconst 0, 1) := by decide +kernel
theorem dX12_isTen_22 : decode cX12_isTen 22 = .ok (.ireturn, 1) := by decide +kernel
theorem dX12_isRow_0 : decode cX12_isRow 0 = .ok (.iload_n 1, 1) := by decide +kernel
theorem dX12_isRow_1 : decode cX12_isRow 1 = .ok (.istore_n 2, 1) := by decide +kernel
theorem dX12_isRow_2 : decode cX12_isRow 2 = .ok (.iload_n 2, 1) := by decide +kernel
theorem dX12_isRow_3 : decode cX12_isRow 3 = .ok (.iconst 2, 1) := by decide +kernel
theorem dX12_isRow_4 : decode cX12_isRow 4 = .ok (.irem, 1) := by decide +kernel
theorem dX12_isRow_5 : decode cX12_isRow 5 = .ok (.ifCond .ne 14, 3) := by decide +kernel
theorem dX12_isRow_8 : decode cX12_isRow 8 = .ok (.iload_n 2, 1) := by decide +kernel
theorem dX12_isRow_9 : decode cX12_isRow 9 = .ok (.ifCond .le 10, 3) := by decide +kernel
theorem dX12_isRow_12 : decode cX12_isRow 12 = .ok (.iload_n 2, 1) := by decide +kernel
theorem dX12_isRow_13 : decode cX12_isRow 13 = .ok (.iconst 2, 1) := by decide +kernel
theorem dX12_isRow_14 : decode cX12_isRow 14 = .ok (.idiv, 1) := by decide +kernel
theorem dX12_isRow_15 : decode cX12_isRow 15 = .ok (.istore_n 2, 1) := by decide +kernel
theorem dX12_isRow_16 : decode cX12_isRow 16 = .ok (.goto (-14), 3) := by decide +kernel
theorem dX12_isRow_19 : decode cX12_isRow 19 = .ok (.iload_n 2, 1) := by decide +kernel
theorem dX12_isRow_20 : decode cX12_isRow 20 = .ok (.iload_n 2, 1) := by decide +kernel
theorem dX12_isRow_21 : decode cX12_isRow 21 = .ok (.iconst 1, 1) := by decide +kernel
theorem dX12_isRow_22 : decode cX12_isRow 22 = .ok (.iadd, 1) := by decide +kernel
theorem dX12_isRow_23 : decode cX12_isRow 23 = .ok (.iand, 1) := by decide +kernel
theorem dX12_isRow_24 : decode cX12_isRow 24 = .ok (.ifCond .ne 7, 3) := by decide +kernel
theorem dX12_isRow_27 : decode cX12_isRow 27 = .ok (.iconst 1, 1) := by decide +kernel
theorem dX12_isRow_28 : decode cX12_isRow 28 = .ok (.goto 4, 3) := by decide +kernel
theorem dX12_isRow_31 : decode cX12_isRow 31 = .ok (.iconst 0, 1) := by decide +kernel
theorem dX12_isRow_32 : decode cX12_isRow 32 = .ok (.ireturn, 1) := by decide +kernel
theorem dX12_hasColour_0 : decode cX12_hasColour 0 = .ok (.iconst 0, 1) := by decide +kernel
theorem dX12_hasColour_1 : decode cX12_hasColour 1 = .ok (.istore_n 3, 1) := by decide +kernel
theorem dX12_hasColour_2 : decode cX12_hasColour 2 = .ok (.iconst 0, 1) := by decide +kernel
theorem dX12_hasColour_3 : decode cX12_hasColour 3 = .ok (.istore 4, 2) := by decide +kernel
theorem dX12_hasColour_5 : decode cX12_hasColour 5 = .ok (.iload 4, 2) := by decide +kernel
theorem dX12_hasColour_7 : decode cX12_hasColour 7 = .ok (.aload_n 0, 1) := by decide +kernel
theorem dX12_hasColour_8 : decode cX12_hasColour 8 = .ok (.invokevirtual 141, 3) := by decide +kernel
theorem dX12_hasColour_11 : decode cX12_hasColour 11 = .ok (.if_icmp .ge 43, 3) := by decide +kernel
theorem dX12_hasColour_14 : decode cX12_hasColour 14 = .ok (.iload_n 3, 1) := by decide +kernel
theorem dX12_hasColour_15 : decode cX12_hasColour 15 = .ok (.ifCond .ne 27, 3) := by decide +kernel
theorem dX12_hasColour_18 : decode cX12_hasColour 18 = .ok (.iload_n 1, 1) := by decide +kernel
theorem dX12_hasColour_19 : decode cX12_hasColour 19 = .ok (.iload 4, 2) := by decide +kernel
theorem dX12_hasColour_21 : decode cX12_hasColour 21 = .ok (.invokestatic 167, 3) := by decide +kernel
theorem dX12_hasColour_24 : decode cX12_hasColour 24 = .ok (.ifCond .eq 22, 3) := by decide +kernel
theorem dX12_hasColour_27 : decode cX12_hasColour 27 = .ok (.aload_n 0, 1) := by decide +kernel
theorem dX12_hasColour_28 : decode cX12_hasColour 28 = .ok (.getfield 13, 3) := by decide +kernel
theorem dX12_hasColour_31 : decode cX12_hasColour 31 = .ok (.iconst 3, 1) := by decide +kernel
theorem dX12_hasColour_32 : decode cX12_hasColour 32 = .ok (.iload 4, 2) := by decide +kernel
theorem dX12_hasColour_34 : decode cX12_hasColour 34 = .ok (.imul, 1) := by decide +kernel
theorem dX12_hasColour_35 : decode cX12_hasColour 35 = .ok (.iconst 1, 1) := by decide +kernel
theorem dX12_hasColour_36 : decode cX12_hasColour 36 = .ok (.iadd, 1) := by decide +kernel
theorem dX12_hasColour_37 : decode cX12_hasColour 37 = .ok (.iaload, 1) := by decide +kernel
theorem dX12_hasColour_38 : decode cX12_hasColour 38 = .ok (.iload_n 2, 1) := by decide +kernel
theorem dX12_hasColour_39 : decode cX12_hasColour 39 = .ok (.if_icmp .ne 7, 3) := by decide +kernel
theorem dX12_hasColour_42 : decode cX12_hasColour 42 = .ok (.iconst 1, 1) := by decide +kernel
theorem dX12_hasColour_43 : decode cX12_hasColour 43 = .ok (.goto 4, 3) := by decide +kernel
theorem dX12_hasColour_46 : decode cX12_hasColour 46 = .ok (.iconst 0, 1) := by decide +kernel
theorem dX12_hasColour_47 : decode cX12_hasColour 47 = .ok (.istore_n 3, 1) := by decide +kernel
theorem dX12_hasColour_48 : decode cX12_hasColour 48 = .ok (.iinc 4 1, 3) := by decide +kernel
theorem dX12_hasColour_51 : decode cX12_hasColour 51 = .ok (.goto (-46), 3) := by decide +kernel
theorem dX12_hasColour_54 : decode cX12_hasColour 54 = .ok (.iload_n 3, 1) := by decide +kernel
theorem dX12_hasColour_55 : decode cX12_hasColour 55 = .ok (.ireturn, 1) := by decide +kernel
theorem dX12_isOf_0 : decode cX12_isOf 0 = .ok (.iload_n 2, 1) := by decide +kernel
theorem dX12_isOf_1 : decode cX12_isOf 1 = .ok (.invokestatic 177, 3) := by decide +kernel
theorem dX12_isOf_4 : decode cX12_isOf 4 = .ok (.istore 4, 2) := by decide +kernel
theorem dX12_isOf_6 : decode cX12_isOf 6 = .ok (.iload_n 1, 1) := by decide +kernel
theorem dX12_isOf_7 : decode cX12_isOf 7 = .ok (.iconst 1, 1) := by decide +kernel
theorem dX12_isOf_8 : decode cX12_isOf 8 = .ok (.if_icmp .eq 8, 3) := by decide +kernel
theorem dX12_isOf_11 : decode cX12_isOf 11 = .ok (.iload_n 1, 1) := by decide +kernel
theorem dX12_isOf_12 : decode cX12_isOf 12 = .ok (.iconst 2, 1) := by decide +kernel
theorem dX12_isOf_13 : decode cX12_isOf 13 = .ok (.if_icmp .ne 43, 3) := by decide +kernel
theorem dX12_isOf_16 : decode cX12_isOf 16 = .ok (.iload 4, 2) := by decide +kernel
theorem dX12_isOf_18 : decode cX12_isOf 18 = .ok (.i2l, 1) := by decide +kernel
theorem dX12_isOf_19 : decode cX12_isOf 19 = .ok (.lconst 1, 1) := by decide +kernel
theorem dX12_isOf_20 : decode cX12_isOf 20 = .ok (.iload_n 3, 1) := by decide +kernel
theorem dX12_isOf_21 : decode cX12_isOf 21 = .ok (.i2l, 1) := by decide +kernel
theorem dX12_isOf_22 : decode cX12_isOf 22 = .ok (.invokestatic 69, 3) := by decide +kernel
theorem dX12_isOf_25 : decode cX12_isOf 25 = .ok (.ifCond .eq 29, 3) := by decide +kernel
theorem dX12_isOf_28 : decode cX12_isOf 28 = .ok (.aload_n 0, 1) := by decide +kernel
theorem dX12_isOf_29 : decode cX12_isOf 29 = .ok (.iload_n 2, 1) := by decide +kernel
theorem dX12_isOf_30 : decode cX12_isOf 30 = .ok (.iconst 0, 1) := by decide +kernel
theorem dX12_isOf_31 : decode cX12_isOf 31 = .ok (.invokevirtual 173, 3) := by decide +kernel
theorem dX12_isOf_34 : decode cX12_isOf 34 = .ok (.ifCond .ne 20, 3) := by decide +kernel
theorem dX12_isOf_37 : decode cX12_isOf 37 = .ok (.iload_n 1, 1) := by decide +kernel
theorem dX12_isOf_38 : decode cX12_isOf 38 = .ok (.iconst 1, 1) := by decide +kernel
theorem dX12_isOf_39 : decode cX12_isOf 39 = .ok (.if_icmp .eq 11, 3) := by decide +kernel
theorem dX12_isOf_42 : decode cX12_isOf 42 = .ok (.aload_n 0, 1) := by decide +kernel
theorem dX12_isOf_43 : decode cX12_isOf 43 = .ok (.iload_n 2, 1) := by decide +kernel
theorem dX12_isOf_44 : decode cX12_isOf 44 = .ok (.invokevirtual 182, 3) := by decide +kernel
theorem dX12_isOf_47 : decode cX12_isOf 47 = .ok (.ifCond .eq 7, 3) := by decide +kernel
theorem dX12_isOf_50 : decode cX12_isOf 50 = .ok (.iconst 1, 1) := by decide +kernel
theorem dX12_isOf_51 : decode cX12_isOf 51 = .ok (.goto 4, 3) := by decide +kernel
theorem dX12_isOf_54 : decode cX12_isOf 54 = .ok (.iconst 0, 1) := by decide +kernel
theorem dX12_isOf_55 : decode cX12_isOf 55 = .ok (.ireturn, 1) := by decide +kernel
theorem dX12_isOf_56 : decode cX12_isOf 56 = .ok (.aload_n 0, 1) := by decide +kernel
theorem dX12_isOf_57 : decode cX12_isOf 57 = .ok (.iload_n 2, 1) := by decide +kernel
theorem dX12_isOf_58 : decode cX12_isOf 58 = .ok (.iload_n 3, 1) := by decide +kernel
theorem dX12_isOf_59 : decode cX12_isOf 59 = .ok (.invokevirtual 185, 3) := by decide +kernel
theorem dX12_isOf_62 : decode cX12_isOf 62 = .ok (.ifCond .eq 37, 3) := by decide +kernel
theorem dX12_isOf_65 : decode cX12_isOf 65 = .ok (.iload_n 1, 1) := by decide +kernel
theorem dX12_isOf_66 : decode cX12_isOf 66 = .ok (.iconst 3, 1) := by decide +kernel
theorem dX12_isOf_67 : decode cX12_isOf 67 = .ok (.if_icmp .ne 12, 3) := by decide +kernel
theorem dX12_isOf_70 : decode cX12_isOf 70 = .ok (.aload_n 0, 1) := by decide +kernel
theorem dX12_isOf_71 : decode cX12_isOf 71 = .ok (.iload_n 2, 1) := by decide +kernel
theorem dX12_isOf_72 : decode cX12_isOf 72 = .ok (.iconst 1, 1) := by decide +kernel
theorem dX12_isOf_73 : decode cX12_isOf 73 = .ok (.invokevirtual 173, 3) := by decide +kernel
theorem dX12_isOf_76 : decode cX12_isOf 76 = .ok (.ifCond .ne 23, 3) := by decide +kernel
theorem dX12_isOf_79 : decode cX12_isOf 79 = .ok (.iload_n 1, 1) := by decide +kernel
theorem dX12_isOf_80 : decode cX12_isOf 80 = .ok (.iconst 4, 1) := by decide +kernel
theorem dX12_isOf_81 : decode cX12_isOf 81 = .ok (.if_icmp .lt 14, 3) := by decide +kernel
theorem dX12_isOf_84 : decode cX12_isOf 84 = .ok (.aload_n 0, 1) := by decide +kernel
theorem dX12_isOf_85 : decode cX12_isOf 85 = .ok (.iload_n 2, 1) := by decide +kernel
theorem dX12_isOf_86 : decode cX12_isOf 86 = .ok (.iload_n 1, 1) := by decide +kernel
theorem dX12_isOf_87 : decode cX12_isOf 87 = .ok (.iconst 4, 1) := by decide +kernel
theorem dX12_isOf_88 : decode cX12_isOf 88 = .ok (.isub, 1) := by decide +kernel
theorem dX12_isOf_89 : decode cX12_isOf 89 = .ok (.invokevirtual 188, 3) := by decide +kernel
theorem dX12_isOf_92 : decode cX12_isOf 92 = .ok (.ifCond .eq 7, 3) := by decide +kernel
theorem dX12_isOf_95 : decode cX12_isOf 95 = .ok (.iconst 1, 1) := by decide +kernel
theorem dX12_isOf_96 : decode cX12_isOf 96 = .ok (.goto 4, 3) := by decide +kernel
theorem dX12_isOf_99 : decode cX12_isOf 99 = .ok (.iconst 0, 1) := by decide +kernel
theorem dX12_isOf_100 : decode cX12_isOf 100 = .ok (.ireturn, 1) := by decide +kernel
theorem dX12_isKind_0 : decode cX12_isKind 0 = .ok (.iload_n 0, 1) := by decide +kernel
theorem dX12_isKind_1 : decode cX12_isKind 1 = .ok (.i2l, 1) := by decide +kernel
theorem dX12_isKind_2 : decode cX12_isKind 2 = .ok (.lconst 0, 1) := by decide +kernel
theorem dX12_isKind_3 : decode cX12_isKind 3 = .ok (.ldc2_w 191, 3) := by decide +kernel
theorem dX12_isKind_6 : decode cX12_isKind 6 = .ok (.invokestatic 69, 3) := by decide +kernel
theorem dX12_isKind_9 : decode cX12_isKind 9 = .ok (.ireturn, 1) := by decide +kernel
theorem dX12_as_0 : decode cX12_as 0 = .ok (.iload_n 1, 1) := by decide +kernel
theorem dX12_as_1 : decode cX12_as 1 = .ok (.invokestatic 193, 3) := by decide +kernel
theorem dX12_as_4 : decode cX12_as 4 = .ok (.ifCond .eq 11, 3) := by decide +kernel
theorem dX12_as_7 : decode cX12_as 7 = .ok (.aload_n 0, 1) := by decide +kernel
theorem dX12_as_8 : decode cX12_as 8 = .ok (.iload_n 3, 1) := by decide +kernel
theorem dX12_as_9 : decode cX12_as 9 = .ok (.invokevirtual 170, 3) := by decide +kernel
theorem dX12_as_12 : decode cX12_as 12 = .ok (.ifCond .ne 6, 3) := by decide +kernel
theorem dX12_as_15 : decode cX12_as 15 = .ok (.bipush (-2), 2) := by decide +kernel
theorem dX12_as_17 : decode cX12_as 17 = .ok (.ireturn, 1) := by decide +kernel
theorem dX12_as_18 : decode cX12_as 18 = .ok (.iload_n 2, 1) := by decide +kernel
theorem dX12_as_19 : decode cX12_as 19 = .ok (.i2l, 1) := by decide +kernel
theorem dX12_as_20 : decode cX12_as 20 = .ok (.lconst 0, 1) := by decide +kernel
theorem dX12_as_21 : decode cX12_as 21 = .ok (.ldc2_w 196, 3) := by decide +kernel
theorem dX12_as_24 : decode cX12_as 24 = .ok (.invokestatic 69, 3) := by decide +kernel
theorem dX12_as_27 : decode cX12_as 27 = .ok (.ifCond .eq 11, 3) := by decide +kernel
theorem dX12_as_30 : decode cX12_as 30 = .ok (.iload 4, 2) := by decide +kernel
theorem dX12_as_32 : decode cX12_as 32 = .ok (.invokestatic 198, 3) := by decide +kernel
theorem dX12_as_35 : decode cX12_as 35 = .ok (.ifCond .ne 6, 3) := by decide +kernel
theorem dX12_as_38 : decode cX12_as 38 = .ok (.bipush (-3), 2) := by decide +kernel
theorem dX12_as_40 : decode cX12_as 40 = .ok (.ireturn, 1) := by decide +kernel
theorem dX12_as_41 : decode cX12_as 41 = .ok (.iload_n 1, 1) := by decide +kernel
theorem dX12_as_42 : decode cX12_as 42 = .ok (.iconst 1, 1) := by decide +kernel
theorem dX12_as_43 : decode cX12_as 43 = .ok (.if_icmp .eq 8, 3) := by decide +kernel
theorem dX12_as_46 : decode cX12_as 46 = .ok (.iload_n 1, 1) := by decide +kernel
theorem dX12_as_47 : decode cX12_as 47 = .ok (.iconst 2, 1) := by decide +kernel
theorem dX12_as_48 : decode cX12_as 48 = .ok (.if_icmp .ne 7, 3) := by decide +kernel
theorem dX12_as_51 : decode cX12_as 51 = .ok (.iconst 1, 1) := by decide +kernel
theorem dX12_as_52 : decode cX12_as 52 = .ok (.goto 4, 3) := by decide +kernel
theorem dX12_as_55 : decode cX12_as 55 = .ok (.iconst 0, 1) := by decide +kernel
theorem dX12_as_56 : decode cX12_as 56 = .ok (.istore 5, 2) := by decide +kernel
theorem dX12_as_58 : decode cX12_as 58 = .ok (.iload_n 2, 1) := by decide +kernel
theorem dX12_as_59 : decode cX12_as 59 = .ok (.ifCond .eq 59, 3) := by decide +kernel
theorem dX12_as_62 : decode cX12_as 62 = .ok (.iload_n 2, 1) := by decide +kernel
theorem dX12_as_63 : decode cX12_as 63 = .ok (.iconst 1, 1) := by decide +kernel
theorem dX12_as_64 : decode cX12_as 64 = .ok (.if_icmp .eq 8, 3) := by decide +kernel
theorem dX12_as_67 : decode cX12_as 67 = .ok (.iload_n 2, 1) := by decide +kernel
theorem dX12_as_68 : decode cX12_as 68 = .ok (.iconst 2, 1) := by decide +kernel
theorem dX12_as_69 : decode cX12_as 69 = .ok (.if_icmp .ne 8, 3) := by decide +kernel
theorem dX12_as_72 : decode cX12_as 72 = .ok (.iload 5, 2) := by decide +kernel
theorem dX12_as_74 : decode cX12_as 74 = .ok (.ifCond .eq 44, 3) := by decide +kernel
theorem dX12_as_77 : decode cX12_as 77 = .ok (.iload_n 2, 1) := by decide +kernel
theorem dX12_as_78 : decode cX12_as 78 = .ok (.iconst 3, 1) := by decide +kernel
theorem dX12_as_79 : decode cX12_as 79 = .ok (.if_icmp .ne 8, 3) := by decide +kernel
theorem dX12_as_82 : decode cX12_as 82 = .ok (.iload 5, 2) := by decide +kernel
theorem dX12_as_84 : decode cX12_as 84 = .ok (.ifCond .ne 34, 3) := by decide +kernel
theorem dX12_as_87 : decode cX12_as 87 = .ok (.iload_n 2, 1) := by decide +kernel
theorem dX12_as_88 : decode cX12_as 88 = .ok (.iconst 4, 1) := by decide +kernel
theorem dX12_as_89 : decode cX12_as 89 = .ok (.if_icmp .ne 8, 3) := by decide +kernel
theorem dX12_as_92 : decode cX12_as 92 = .ok (.iload_n 1, 1) := by decide +kernel
theorem dX12_as_93 : decode cX12_as 93 = .ok (.iconst 2, 1) := by decide +kernel
theorem dX12_as_94 : decode cX12_as 94 = .ok (.if_icmp .eq 24, 3) := by decide +kernel
theorem dX12_as_97 : decode cX12_as 97 = .ok (.iload_n 2, 1) := by decide +kernel
theorem dX12_as_98 : decode cX12_as 98 = .ok (.iconst 5, 1) := by decide +kernel
theorem dX12_as_99 : decode cX12_as 99 = .ok (.if_icmp .ne 8, 3) := by decide +kernel
theorem dX12_as_102 : decode cX12_as 102 = .ok (.iload_n 1, 1) := by decide +kernel
theorem dX12_as_103 : decode cX12_as 103 = .ok (.iconst 3, 1) := by decide +kernel
theorem dX12_as_104 : decode cX12_as 104 = .ok (.if_icmp .eq 14, 3) := by decide +kernel
theorem dX12_as_107 : decode cX12_as 107 = .ok (.iload_n 2, 1) := by decide +kernel
theorem dX12_as_108 : decode cX12_as 108 = .ok (.bipush 6, 2) := by decide +kernel
theorem dX12_as_110 : decode cX12_as 110 = .ok (.if_icmp .ne 12, 3) := by decide +kernel
theorem dX12_as_113 : decode cX12_as 113 = .ok (.iload_n 1, 1) := by decide +kernel
theorem dX12_as_114 : decode cX12_as 114 = .ok (.iconst 4, 1) := by decide +kernel
theorem dX12_as_115 : decode cX12_as 115 = .ok (.if_icmp .lt 7, 3) := by decide +kernel
theorem dX12_as_118 : decode cX12_as 118 = .ok (.iconst 1, 1) := by decide +kernel
theorem dX12_as_119 : decode cX12_as 119 = .ok (.goto 4, 3) := by decide +kernel
theorem dX12_as_122 : decode cX12_as 122 = .ok (.iconst 0, 1) := by decide +kernel
theorem dX12_as_123 : decode cX12_as 123 = .ok (.istore 6, 2) := by decide +kernel
theorem dX12_as_125 : decode cX12_as 125 = .ok (.iload 6, 2) := by decide +kernel
theorem dX12_as_127 : decode cX12_as 127 = .ok (.ifCond .ne 8, 3) := by decide +kernel
theorem dX12_as_130 : decode cX12_as 130 = .ok (.bipush (-4), 2) := by decide +kernel
theorem dX12_as_132 : decode cX12_as 132 = .ok (.goto 19, 3) := by decide +kernel
theorem dX12_as_135 : decode cX12_as 135 = .ok (.aload_n 0, 1) := by decide +kernel
theorem dX12_as_136 : decode cX12_as 136 = .ok (.iload_n 1, 1) := by decide +kernel
theorem dX12_as_137 : decode cX12_as 137 = .ok (.iload_n 3, 1) := by decide +kernel
theorem dX12_as_138 : decode cX12_as 138 = .ok (.iload 4, 2) := by decide +kernel
theorem dX12_as_140 : decode cX12_as 140 = .ok (.invokevirtual 201, 3) := by decide +kernel
theorem dX12_as_143 : decode cX12_as 143 = .ok (.ifCond .eq 7, 3) := by decide +kernel
theorem dX12_as_146 : decode cX12_as 146 = .ok (.iconst 1, 1) := by decide +kernel
theorem dX12_as_147 : decode cX12_as 147 = .ok (.goto 4, 3) := by decide +kernel
theorem dX12_as_150 : decode cX12_as 150 = .ok (.iconst 0, 1) := by decide +kernel
theorem dX12_as_151 : decode cX12_as 151 = .ok (.ireturn, 1) := by decide +kernel
theorem dX12_placeOf_0 : decode cX12_placeOf 0 = .ok (.iload_n 0, 1) := by decide +kernel
theorem dX12_placeOf_1 : decode cX12_placeOf 1 = .ok (.bipush 21, 2) := by decide +kernel
theorem dX12_placeOf_3 : decode cX12_placeOf 3 = .ok (.imul, 1) := by decide +kernel
theorem dX12_placeOf_4 : decode cX12_placeOf 4 = .ok (.iload_n 1, 1) := by decide +kernel
theorem dX12_placeOf_5 : decode cX12_placeOf 5 = .ok (.iadd, 1) := by decide +kernel
theorem dX12_placeOf_6 : decode cX12_placeOf 6 = .ok (.bipush 10, 2) := by decide +kernel
theorem dX12_placeOf_8 : decode cX12_placeOf 8 = .ok (.imul, 1) := by decide +kernel
theorem dX12_placeOf_9 : decode cX12_placeOf 9 = .ok (.iload_n 2, 1) := by decide +kernel
theorem dX12_placeOf_10 : decode cX12_placeOf 10 = .ok (.iadd, 1) := by decide +kernel
theorem dX12_placeOf_11 : decode cX12_placeOf 11 = .ok (.bipush 10, 2) := by decide +kernel
theorem dX12_placeOf_13 : decode cX12_placeOf 13 = .ok (.imul, 1) := by decide +kernel
theorem dX12_placeOf_14 : decode cX12_placeOf 14 = .ok (.iload_n 3, 1) := by decide +kernel
theorem dX12_placeOf_15 : decode cX12_placeOf 15 = .ok (.iadd, 1) := by decide +kernel
theorem dX12_placeOf_16 : decode cX12_placeOf 16 = .ok (.iconst 2, 1) := by decide +kernel
theorem dX12_placeOf_17 : decode cX12_placeOf 17 = .ok (.imul, 1) := by decide +kernel
theorem dX12_placeOf_18 : decode cX12_placeOf 18 = .ok (.iload 4, 2) := by decide +kernel
theorem dX12_placeOf_20 : decode cX12_placeOf 20 = .ok (.iadd, 1) := by decide +kernel
theorem dX12_placeOf_21 : decode cX12_placeOf 21 = .ok (.ireturn, 1) := by decide +kernel
theorem dX12_behind_0 : decode cX12_behind 0 = .ok (.iload_n 3, 1) := by decide +kernel
theorem dX12_behind_1 : decode cX12_behind 1 = .ok (.ifCond .ne 5, 3) := by decide +kernel
theorem dX12_behind_4 : decode cX12_behind 4 = .ok (.iconst (-1), 1) := by decide +kernel
theorem dX12_behind_5 : decode cX12_behind 5 = .ok (.ireturn, 1) := by decide +kernel
theorem dX12_behind_6 : decode cX12_behind 6 = .ok (.aload_n 0, 1) := by decide +kernel
theorem dX12_behind_7 : decode cX12_behind 7 = .ok (.invokevirtual 157, 3) := by decide +kernel
theorem dX12_behind_10 : decode cX12_behind 10 = .ok (.istore 7, 2) := by decide +kernel
theorem dX12_behind_12 : decode cX12_behind 12 = .ok (.iload 4, 2) := by decide +kernel
theorem dX12_behind_14 : decode cX12_behind 14 = .ok (.iload 7, 2) := by decide +kernel
theorem dX12_behind_16 : decode cX12_behind 16 = .ok (.iadd, 1) := by decide +kernel
theorem dX12_behind_17 : decode cX12_behind 17 = .ok (.aload_n 0, 1) := by decide +kernel
theorem dX12_behind_18 : decode cX12_behind 18 = .ok (.iload_n 2, 1) := by decide +kernel
theorem dX12_behind_19 : decode cX12_behind 19 = .ok (.invokevirtual 162, 3) := by decide +kernel
theorem dX12_behind_22 : decode cX12_behind 22 = .ok (.isub, 1) := by decide +kernel
theorem dX12_behind_23 : decode cX12_behind 23 = .ok (.iload 7, 2) := by decide +kernel
theorem dX12_behind_25 : decode cX12_behind 25 = .ok (.irem, 1) := by decide +kernel
theorem dX12_behind_26 : decode cX12_behind 26 = .ok (.istore 8, 2) := by decide +kernel
theorem dX12_behind_28 : decode cX12_behind 28 = .ok (.iload_n 1, 1) := by decide +kernel
theorem dX12_behind_29 : decode cX12_behind 29 = .ok (.iconst 3, 1) := by decide +kernel
theorem dX12_behind_30 : decode cX12_behind 30 = .ok (.if_icmp .ne 28, 3) := by decide +kernel
theorem dX12_behind_33 : decode cX12_behind 33 = .ok (.iload 5, 2) := by decide +kernel
theorem dX12_behind_35 : decode cX12_behind 35 = .ok (.iload 7, 2) := by decide +kernel
theorem dX12_behind_37 : decode cX12_behind 37 = .ok (.iadd, 1) := by decide +kernel
theorem dX12_behind_38 : decode cX12_behind 38 = .ok (.aload_n 0, 1) := by decide +kernel
theorem dX12_behind_39 : decode cX12_behind 39 = .ok (.getfield 13, 3) := by decide +kernel
theorem dX12_behind_42 : decode cX12_behind 42 = .ok (.iconst 3, 1) := by decide +kernel
theorem dX12_behind_43 : decode cX12_behind 43 = .ok (.iload_n 2, 1) := by decide +kernel
theorem dX12_behind_44 : decode cX12_behind 44 = .ok (.imul, 1) := by decide +kernel
theorem dX12_behind_45 : decode cX12_behind 45 = .ok (.iconst 0, 1) := by decide +kernel
theorem dX12_behind_46 : decode cX12_behind 46 = .ok (.iadd, 1) := by decide +kernel
theorem dX12_behind_47 : decode cX12_behind 47 = .ok (.iaload, 1) := by decide +kernel
theorem dX12_behind_48 : decode cX12_behind 48 = .ok (.iload 7, 2) := by decide +kernel
theorem dX12_behind_50 : decode cX12_behind 50 = .ok (.irem, 1) := by decide +kernel
theorem dX12_behind_51 : decode cX12_behind 51 = .ok (.isub, 1) := by decide +kernel
theorem dX12_behind_52 : decode cX12_behind 52 = .ok (.iload 7, 2) := by decide +kernel
theorem dX12_behind_54 : decode cX12_behind 54 = .ok (.irem, 1) := by decide +kernel
theorem dX12_behind_55 : decode cX12_behind 55 = .ok (.goto 4, 3) := by decide +kernel
theorem dX12_behind_58 : decode cX12_behind 58 = .ok (.iconst 0, 1) := by decide +kernel
theorem dX12_behind_59 : decode cX12_behind 59 = .ok (.istore 9, 2) := by decide +kernel
theorem dX12_behind_61 : decode cX12_behind 61 = .ok (.iload 6, 2) := by decide +kernel
theorem dX12_behind_63 : decode cX12_behind 63 = .ok (.iconst 1, 1) := by decide +kernel
theorem dX12_behind_64 : decode cX12_behind 64 = .ok (.if_icmp .ne 23, 3) := by decide +kernel
theorem dX12_behind_67 : decode cX12_behind 67 = .ok (.aload_n 0, 1) := by decide +kernel
theorem dX12_behind_68 : decode cX12_behind 68 = .ok (.getfield 13, 3) := by decide +kernel
theorem dX12_behind_71 : decode cX12_behind 71 = .ok (.iconst 3, 1) := by decide +kernel
theorem dX12_behind_72 : decode cX12_behind 72 = .ok (.iload_n 2, 1) := by decide +kernel
theorem dX12_behind_73 : decode cX12_behind 73 = .ok (.imul, 1) := by decide +kernel
theorem dX12_behind_74 : decode cX12_behind 74 = .ok (.iconst 1, 1) := by decide +kernel
theorem dX12_behind_75 : decode cX12_behind 75 = .ok (.iadd, 1) := by decide +kernel
theorem dX12_behind_76 : decode cX12_behind 76 = .ok (.iaload, 1) := by decide +kernel
theorem dX12_behind_77 : decode cX12_behind 77 = .ok (.iload_n 1, 1) := by decide +kernel
theorem dX12_behind_78 : decode cX12_behind 78 = .ok (.iconst 4, 1) := by decide +kernel
theorem dX12_behind_79 : decode cX12_behind 79 = .ok (.isub, 1) := by decide +kernel
theorem dX12_behind_80 : decode cX12_behind 80 = .ok (.if_icmp .ne 7, 3) := by decide +kernel
theorem dX12_behind_83 : decode cX12_behind 83 = .ok (.iconst 0, 1) := by decide +kernel
