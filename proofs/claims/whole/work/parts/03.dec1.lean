theorem dX6_faultIn_64 : decode cX6_faultIn 64 = .ok (.getfield 33, 3) := by decide +kernel
theorem dX6_faultIn_67 : decode cX6_faultIn 67 = .ok (.aload_n 0, 1) := by decide +kernel
theorem dX6_faultIn_68 : decode cX6_faultIn 68 = .ok (.getfield 24, 3) := by decide +kernel
theorem dX6_faultIn_71 : decode cX6_faultIn 71 = .ok (.invokevirtual 49, 3) := by decide +kernel
theorem dX6_faultIn_74 : decode cX6_faultIn 74 = .ok (.bipush 59, 2) := by decide +kernel
theorem dX6_faultIn_76 : decode cX6_faultIn 76 = .ok (.if_icmp .ne 9, 3) := by decide +kernel
theorem dX6_faultIn_79 : decode cX6_faultIn 79 = .ok (.iload_n 2, 1) := by decide +kernel
theorem dX6_faultIn_80 : decode cX6_faultIn 80 = .ok (.bipush 9, 2) := by decide +kernel
theorem dX6_faultIn_82 : decode cX6_faultIn 82 = .ok (.if_icmp .ne 8, 3) := by decide +kernel
theorem dX6_faultIn_85 : decode cX6_faultIn 85 = .ok (.aload_n 0, 1) := by decide +kernel
theorem dX6_faultIn_86 : decode cX6_faultIn 86 = .ok (.getfield 24, 3) := by decide +kernel
theorem dX6_faultIn_89 : decode cX6_faultIn 89 = .ok (.ireturn, 1) := by decide +kernel
theorem dX6_faultIn_90 : decode cX6_faultIn 90 = .ok (.aload_n 0, 1) := by decide +kernel
theorem dX6_faultIn_91 : decode cX6_faultIn 91 = .ok (.invokevirtual 37, 3) := by decide +kernel
theorem dX6_faultIn_94 : decode cX6_faultIn 94 = .ok (.iinc 2 1, 3) := by decide +kernel
theorem dX6_faultIn_97 : decode cX6_faultIn 97 = .ok (.goto (-76), 3) := by decide +kernel
theorem dX6_faultIn_100 : decode cX6_faultIn 100 = .ok (.aload_n 0, 1) := by decide +kernel
theorem dX6_faultIn_101 : decode cX6_faultIn 101 = .ok (.getfield 24, 3) := by decide +kernel
theorem dX6_faultIn_104 : decode cX6_faultIn 104 = .ok (.ireturn, 1) := by decide +kernel
theorem dX6_readLine_0 : decode cX6_readLine 0 = .ok (.aload_n 0, 1) := by decide +kernel
theorem dX6_readLine_1 : decode cX6_readLine 1 = .ok (.getfield 17, 3) := by decide +kernel
theorem dX6_readLine_4 : decode cX6_readLine 4 = .ok (.iload_n 1, 1) := by decide +kernel
theorem dX6_readLine_5 : decode cX6_readLine 5 = .ok (.aaload, 1) := by decide +kernel
theorem dX6_readLine_6 : decode cX6_readLine 6 = .ok (.lconst 0, 1) := by decide +kernel
theorem dX6_readLine_7 : decode cX6_readLine 7 = .ok (.invokestatic 53, 3) := by decide +kernel
theorem dX6_readLine_10 : decode cX6_readLine 10 = .ok (.aload_n 0, 1) := by decide +kernel
theorem dX6_readLine_11 : decode cX6_readLine 11 = .ok (.getfield 9, 3) := by decide +kernel
theorem dX6_readLine_14 : decode cX6_readLine 14 = .ok (.iload_n 1, 1) := by decide +kernel
theorem dX6_readLine_15 : decode cX6_readLine 15 = .ok (.aload_n 0, 1) := by decide +kernel
theorem dX6_readLine_16 : decode cX6_readLine 16 = .ok (.invokevirtual 59, 3) := by decide +kernel
theorem dX6_readLine_19 : decode cX6_readLine 19 = .ok (.iastore, 1) := by decide +kernel
theorem dX6_readLine_20 : decode cX6_readLine 20 = .ok (.aload_n 0, 1) := by decide +kernel
theorem dX6_readLine_21 : decode cX6_readLine 21 = .ok (.getfield 9, 3) := by decide +kernel
theorem dX6_readLine_24 : decode cX6_readLine 24 = .ok (.iload_n 1, 1) := by decide +kernel
theorem dX6_readLine_25 : decode cX6_readLine 25 = .ok (.iaload, 1) := by decide +kernel
theorem dX6_readLine_26 : decode cX6_readLine 26 = .ok (.tableswitch 93 0 3 #[30, 48, 54, 82], 30) := by decide +kernel
theorem dX6_readLine_56 : decode cX6_readLine 56 = .ok (.aload_n 0, 1) := by decide +kernel
theorem dX6_readLine_57 : decode cX6_readLine 57 = .ok (.invokevirtual 37, 3) := by decide +kernel
theorem dX6_readLine_60 : decode cX6_readLine 60 = .ok (.aload_n 0, 1) := by decide +kernel
theorem dX6_readLine_61 : decode cX6_readLine 61 = .ok (.iload_n 1, 1) := by decide +kernel
theorem dX6_readLine_62 : decode cX6_readLine 62 = .ok (.iconst 0, 1) := by decide +kernel
theorem dX6_readLine_63 : decode cX6_readLine 63 = .ok (.iconst 3, 1) := by decide +kernel
theorem dX6_readLine_64 : decode cX6_readLine 64 = .ok (.ldc2_w 63, 3) := by decide +kernel
theorem dX6_readLine_67 : decode cX6_readLine 67 = .ok (.ldc2_w 65, 3) := by decide +kernel
theorem dX6_readLine_70 : decode cX6_readLine 70 = .ok (.invokevirtual 67, 3) := by decide +kernel
theorem dX6_readLine_73 : decode cX6_readLine 73 = .ok (.ireturn, 1) := by decide +kernel
theorem dX6_readLine_74 : decode cX6_readLine 74 = .ok (.aload_n 0, 1) := by decide +kernel
theorem dX6_readLine_75 : decode cX6_readLine 75 = .ok (.iload_n 1, 1) := by decide +kernel
theorem dX6_readLine_76 : decode cX6_readLine 76 = .ok (.invokevirtual 71, 3) := by decide +kernel
theorem dX6_readLine_79 : decode cX6_readLine 79 = .ok (.ireturn, 1) := by decide +kernel
theorem dX6_readLine_80 : decode cX6_readLine 80 = .ok (.aload_n 0, 1) := by decide +kernel
theorem dX6_readLine_81 : decode cX6_readLine 81 = .ok (.invokevirtual 37, 3) := by decide +kernel
theorem dX6_readLine_84 : decode cX6_readLine 84 = .ok (.aload_n 0, 1) := by decide +kernel
theorem dX6_readLine_85 : decode cX6_readLine 85 = .ok (.dup, 1) := by decide +kernel
theorem dX6_readLine_86 : decode cX6_readLine 86 = .ok (.getfield 30, 3) := by decide +kernel
theorem dX6_readLine_89 : decode cX6_readLine 89 = .ok (.iconst 1, 1) := by decide +kernel
theorem dX6_readLine_90 : decode cX6_readLine 90 = .ok (.isub, 1) := by decide +kernel
theorem dX6_readLine_91 : decode cX6_readLine 91 = .ok (.putfield 30, 3) := by decide +kernel
theorem dX6_readLine_94 : decode cX6_readLine 94 = .ok (.aload_n 0, 1) := by decide +kernel
theorem dX6_readLine_95 : decode cX6_readLine 95 = .ok (.iload_n 1, 1) := by decide +kernel
theorem dX6_readLine_96 : decode cX6_readLine 96 = .ok (.iconst 0, 1) := by decide +kernel
theorem dX6_readLine_97 : decode cX6_readLine 97 = .ok (.iconst 3, 1) := by decide +kernel
theorem dX6_readLine_98 : decode cX6_readLine 98 = .ok (.lconst 0, 1) := by decide +kernel
theorem dX6_readLine_99 : decode cX6_readLine 99 = .ok (.aload_n 0, 1) := by decide +kernel
theorem dX6_readLine_100 : decode cX6_readLine 100 = .ok (.getfield 30, 3) := by decide +kernel
theorem dX6_readLine_103 : decode cX6_readLine 103 = .ok (.i2l, 1) := by decide +kernel
theorem dX6_readLine_104 : decode cX6_readLine 104 = .ok (.invokevirtual 67, 3) := by decide +kernel
theorem dX6_readLine_107 : decode cX6_readLine 107 = .ok (.ireturn, 1) := by decide +kernel
theorem dX6_readLine_108 : decode cX6_readLine 108 = .ok (.aload_n 0, 1) := by decide +kernel
theorem dX6_readLine_109 : decode cX6_readLine 109 = .ok (.invokevirtual 37, 3) := by decide +kernel
theorem dX6_readLine_112 : decode cX6_readLine 112 = .ok (.aload_n 0, 1) := by decide +kernel
theorem dX6_readLine_113 : decode cX6_readLine 113 = .ok (.iconst 0, 1) := by decide +kernel
theorem dX6_readLine_114 : decode cX6_readLine 114 = .ok (.putfield 30, 3) := by decide +kernel
theorem dX6_readLine_117 : decode cX6_readLine 117 = .ok (.iconst 1, 1) := by decide +kernel
theorem dX6_readLine_118 : decode cX6_readLine 118 = .ok (.ireturn, 1) := by decide +kernel
theorem dX6_readLine_119 : decode cX6_readLine 119 = .ok (.iconst 0, 1) := by decide +kernel
theorem dX6_readLine_120 : decode cX6_readLine 120 = .ok (.ireturn, 1) := by decide +kernel
theorem dX6_readHeap_0 : decode cX6_readHeap 0 = .ok (.aload_n 0, 1) := by decide +kernel
theorem dX6_readHeap_1 : decode cX6_readHeap 1 = .ok (.getfield 30, 3) := by decide +kernel
theorem dX6_readHeap_4 : decode cX6_readHeap 4 = .ok (.bipush 20, 2) := by decide +kernel
theorem dX6_readHeap_6 : decode cX6_readHeap 6 = .ok (.if_icmp .lt 5, 3) := by decide +kernel
theorem dX6_readHeap_9 : decode cX6_readHeap 9 = .ok (.iconst 0, 1) := by decide +kernel
theorem dX6_readHeap_10 : decode cX6_readHeap 10 = .ok (.ireturn, 1) := by decide +kernel
theorem dX6_readHeap_11 : decode cX6_readHeap 11 = .ok (.aload_n 0, 1) := by decide +kernel
theorem dX6_readHeap_12 : decode cX6_readHeap 12 = .ok (.dup, 1) := by decide +kernel
theorem dX6_readHeap_13 : decode cX6_readHeap 13 = .ok (.getfield 30, 3) := by decide +kernel
theorem dX6_readHeap_16 : decode cX6_readHeap 16 = .ok (.iconst 1, 1) := by decide +kernel
theorem dX6_readHeap_17 : decode cX6_readHeap 17 = .ok (.iadd, 1) := by decide +kernel
theorem dX6_readHeap_18 : decode cX6_readHeap 18 = .ok (.putfield 30, 3) := by decide +kernel
theorem dX6_readHeap_21 : decode cX6_readHeap 21 = .ok (.aload_n 0, 1) := by decide +kernel
theorem dX6_readHeap_22 : decode cX6_readHeap 22 = .ok (.invokevirtual 37, 3) := by decide +kernel
theorem dX6_readHeap_25 : decode cX6_readHeap 25 = .ok (.aload_n 0, 1) := by decide +kernel
theorem dX6_readHeap_26 : decode cX6_readHeap 26 = .ok (.iload_n 1, 1) := by decide +kernel
theorem dX6_readHeap_27 : decode cX6_readHeap 27 = .ok (.iconst 0, 1) := by decide +kernel
theorem dX6_readHeap_28 : decode cX6_readHeap 28 = .ok (.bipush 15, 2) := by decide +kernel
theorem dX6_readHeap_30 : decode cX6_readHeap 30 = .ok (.lconst 0, 1) := by decide +kernel
theorem dX6_readHeap_31 : decode cX6_readHeap 31 = .ok (.ldc2_w 74, 3) := by decide +kernel
theorem dX6_readHeap_34 : decode cX6_readHeap 34 = .ok (.invokevirtual 67, 3) := by decide +kernel
theorem dX6_readHeap_37 : decode cX6_readHeap 37 = .ok (.ifCond .eq 57, 3) := by decide +kernel
theorem dX6_readHeap_40 : decode cX6_readHeap 40 = .ok (.aload_n 0, 1) := by decide +kernel
theorem dX6_readHeap_41 : decode cX6_readHeap 41 = .ok (.iload_n 1, 1) := by decide +kernel
theorem dX6_readHeap_42 : decode cX6_readHeap 42 = .ok (.invokevirtual 76, 3) := by decide +kernel
theorem dX6_readHeap_45 : decode cX6_readHeap 45 = .ok (.ifCond .eq 49, 3) := by decide +kernel
theorem dX6_readHeap_48 : decode cX6_readHeap 48 = .ok (.aload_n 0, 1) := by decide +kernel
theorem dX6_readHeap_49 : decode cX6_readHeap 49 = .ok (.invokevirtual 79, 3) := by decide +kernel
theorem dX6_readHeap_52 : decode cX6_readHeap 52 = .ok (.ifCond .eq 17, 3) := by decide +kernel
theorem dX6_readHeap_55 : decode cX6_readHeap 55 = .ok (.aload_n 0, 1) := by decide +kernel
theorem dX6_readHeap_56 : decode cX6_readHeap 56 = .ok (.iload_n 1, 1) := by decide +kernel
theorem dX6_readHeap_57 : decode cX6_readHeap 57 = .ok (.iconst 2, 1) := by decide +kernel
theorem dX6_readHeap_58 : decode cX6_readHeap 58 = .ok (.iconst 3, 1) := by decide +kernel
theorem dX6_readHeap_59 : decode cX6_readHeap 59 = .ok (.lconst 0, 1) := by decide +kernel
theorem dX6_readHeap_60 : decode cX6_readHeap 60 = .ok (.ldc2_w 83, 3) := by decide +kernel
theorem dX6_readHeap_63 : decode cX6_readHeap 63 = .ok (.invokevirtual 67, 3) := by decide +kernel
theorem dX6_readHeap_66 : decode cX6_readHeap 66 = .ok (.ifCond .eq 28, 3) := by decide +kernel
theorem dX6_readHeap_69 : decode cX6_readHeap 69 = .ok (.aload_n 0, 1) := by decide +kernel
theorem dX6_readHeap_70 : decode cX6_readHeap 70 = .ok (.invokevirtual 79, 3) := by decide +kernel
theorem dX6_readHeap_73 : decode cX6_readHeap 73 = .ok (.ifCond .eq 17, 3) := by decide +kernel
theorem dX6_readHeap_76 : decode cX6_readHeap 76 = .ok (.aload_n 0, 1) := by decide +kernel
theorem dX6_readHeap_77 : decode cX6_readHeap 77 = .ok (.iload_n 1, 1) := by decide +kernel
theorem dX6_readHeap_78 : decode cX6_readHeap 78 = .ok (.iconst 3, 1) := by decide +kernel
theorem dX6_readHeap_79 : decode cX6_readHeap 79 = .ok (.iconst 3, 1) := by decide +kernel
theorem dX6_readHeap_80 : decode cX6_readHeap 80 = .ok (.lconst 0, 1) := by decide +kernel
theorem dX6_readHeap_81 : decode cX6_readHeap 81 = .ok (.ldc2_w 85, 3) := by decide +kernel
theorem dX6_readHeap_84 : decode cX6_readHeap 84 = .ok (.invokevirtual 67, 3) := by decide +kernel
theorem dX6_readHeap_87 : decode cX6_readHeap 87 = .ok (.ifCond .eq 7, 3) := by decide +kernel
theorem dX6_readHeap_90 : decode cX6_readHeap 90 = .ok (.iconst 1, 1) := by decide +kernel
theorem dX6_readHeap_91 : decode cX6_readHeap 91 = .ok (.goto 4, 3) := by decide +kernel
theorem dX6_readHeap_94 : decode cX6_readHeap 94 = .ok (.iconst 0, 1) := by decide +kernel
theorem dX6_readHeap_95 : decode cX6_readHeap 95 = .ok (.ireturn, 1) := by decide +kernel
theorem dX6_readNumber_0 : decode cX6_readNumber 0 = .ok (.aload_n 0, 1) := by decide +kernel
theorem dX6_readNumber_1 : decode cX6_readNumber 1 = .ok (.invokevirtual 79, 3) := by decide +kernel
theorem dX6_readNumber_4 : decode cX6_readNumber 4 = .ok (.ifCond .eq 16, 3) := by decide +kernel
theorem dX6_readNumber_7 : decode cX6_readNumber 7 = .ok (.aload_n 0, 1) := by decide +kernel
theorem dX6_readNumber_8 : decode cX6_readNumber 8 = .ok (.getfield 27, 3) := by decide +kernel
theorem dX6_readNumber_11 : decode cX6_readNumber 11 = .ok (.aload_n 0, 1) := by decide +kernel
theorem dX6_readNumber_12 : decode cX6_readNumber 12 = .ok (.getfield 24, 3) := by decide +kernel
theorem dX6_readNumber_15 : decode cX6_readNumber 15 = .ok (.isub, 1) := by decide +kernel
theorem dX6_readNumber_16 : decode cX6_readNumber 16 = .ok (.iload_n 3, 1) := by decide +kernel
theorem dX6_readNumber_17 : decode cX6_readNumber 17 = .ok (.if_icmp .le 5, 3) := by decide +kernel
theorem dX6_readNumber_20 : decode cX6_readNumber 20 = .ok (.iconst 0, 1) := by decide +kernel
theorem dX6_readNumber_21 : decode cX6_readNumber 21 = .ok (.ireturn, 1) := by decide +kernel
theorem dX6_readNumber_22 : decode cX6_readNumber 22 = .ok (.lconst 0, 1) := by decide +kernel
theorem dX6_readNumber_23 : decode cX6_readNumber 23 = .ok (.lstore 8, 2) := by decide +kernel
theorem dX6_readNumber_25 : decode cX6_readNumber 25 = .ok (.aload_n 0, 1) := by decide +kernel
theorem dX6_readNumber_26 : decode cX6_readNumber 26 = .ok (.getfield 24, 3) := by decide +kernel
theorem dX6_readNumber_29 : decode cX6_readNumber 29 = .ok (.istore 10, 2) := by decide +kernel
theorem dX6_readNumber_31 : decode cX6_readNumber 31 = .ok (.iload 10, 2) := by decide +kernel
theorem dX6_readNumber_33 : decode cX6_readNumber 33 = .ok (.aload_n 0, 1) := by decide +kernel
theorem dX6_readNumber_34 : decode cX6_readNumber 34 = .ok (.getfield 27, 3) := by decide +kernel
theorem dX6_readNumber_37 : decode cX6_readNumber 37 = .ok (.if_icmp .ge 32, 3) := by decide +kernel
theorem dX6_readNumber_40 : decode cX6_readNumber 40 = .ok (.lload 8, 2) := by decide +kernel
theorem dX6_readNumber_42 : decode cX6_readNumber 42 = .ok (.ldc2_w 65, 3) := by decide +kernel
theorem dX6_readNumber_45 : decode cX6_readNumber 45 = .ok (.lmul, 1) := by decide +kernel
theorem dX6_readNumber_46 : decode cX6_readNumber 46 = .ok (.aload_n 0, 1) := by decide +kernel
theorem dX6_readNumber_47 : decode cX6_readNumber 47 = .ok (.getfield 33, 3) := by decide +kernel
theorem dX6_readNumber_50 : decode cX6_readNumber 50 = .ok (.iload 10, 2) := by decide +kernel
theorem dX6_readNumber_52 : decode cX6_readNumber 52 = .ok (.invokevirtual 49, 3) := by decide +kernel
theorem dX6_readNumber_55 : decode cX6_readNumber 55 = .ok (.i2l, 1) := by decide +kernel
theorem dX6_readNumber_56 : decode cX6_readNumber 56 = .ok (.ladd, 1) := by decide +kernel
theorem dX6_readNumber_57 : decode cX6_readNumber 57 = .ok (.ldc2_w 87, 3) := by decide +kernel
theorem dX6_readNumber_60 : decode cX6_readNumber 60 = .ok (.lsub, 1) := by decide +kernel
theorem dX6_readNumber_61 : decode cX6_readNumber 61 = .ok (.lstore 8, 2) := by decide +kernel
theorem dX6_readNumber_63 : decode cX6_readNumber 63 = .ok (.iinc 10 1, 3) := by decide +kernel
theorem dX6_readNumber_66 : decode cX6_readNumber 66 = .ok (.goto (-35), 3) := by decide +kernel
theorem dX6_readNumber_69 : decode cX6_readNumber 69 = .ok (.lload 8, 2) := by decide +kernel
theorem dX6_readNumber_71 : decode cX6_readNumber 71 = .ok (.lload 4, 2) := by decide +kernel
theorem dX6_readNumber_73 : decode cX6_readNumber 73 = .ok (.lcmp, 1) := by decide +kernel
theorem dX6_readNumber_74 : decode cX6_readNumber 74 = .ok (.ifCond .lt 11, 3) := by decide +kernel
theorem dX6_readNumber_77 : decode cX6_readNumber 77 = .ok (.lload 8, 2) := by decide +kernel
theorem dX6_readNumber_79 : decode cX6_readNumber 79 = .ok (.lload 6, 2) := by decide +kernel
theorem dX6_readNumber_81 : decode cX6_readNumber 81 = .ok (.lcmp, 1) := by decide +kernel
theorem dX6_readNumber_82 : decode cX6_readNumber 82 = .ok (.ifCond .le 5, 3) := by decide +kernel
theorem dX6_readNumber_85 : decode cX6_readNumber 85 = .ok (.iconst 0, 1) := by decide +kernel
theorem dX6_readNumber_86 : decode cX6_readNumber 86 = .ok (.ireturn, 1) := by decide +kernel
theorem dX6_readNumber_87 : decode cX6_readNumber 87 = .ok (.aload_n 0, 1) := by decide +kernel
theorem dX6_readNumber_88 : decode cX6_readNumber 88 = .ok (.getfield 17, 3) := by decide +kernel
theorem dX6_readNumber_91 : decode cX6_readNumber 91 = .ok (.iload_n 1, 1) := by decide +kernel
theorem dX6_readNumber_92 : decode cX6_readNumber 92 = .ok (.aaload, 1) := by decide +kernel
theorem dX6_readNumber_93 : decode cX6_readNumber 93 = .ok (.iload_n 2, 1) := by decide +kernel
theorem dX6_readNumber_94 : decode cX6_readNumber 94 = .ok (.lload 8, 2) := by decide +kernel
theorem dX6_readNumber_96 : decode cX6_readNumber 96 = .ok (.lastore, 1) := by decide +kernel
theorem dX6_readNumber_97 : decode cX6_readNumber 97 = .ok (.aload_n 0, 1) := by decide +kernel
theorem dX6_readNumber_98 : decode cX6_readNumber 98 = .ok (.invokevirtual 37, 3) := by decide +kernel
theorem dX6_readNumber_101 : decode cX6_readNumber 101 = .ok (.iconst 1, 1) := by decide +kernel
theorem dX6_readNumber_102 : decode cX6_readNumber 102 = .ok (.ireturn, 1) := by decide +kernel
theorem dX6_readColour_0 : decode cX6_readColour 0 = .ok (.aload_n 0, 1) := by decide +kernel
theorem dX6_readColour_1 : decode cX6_readColour 1 = .ok (.getfield 27, 3) := by decide +kernel
theorem dX6_readColour_4 : decode cX6_readColour 4 = .ok (.aload_n 0, 1) := by decide +kernel
theorem dX6_readColour_5 : decode cX6_readColour 5 = .ok (.getfield 24, 3) := by decide +kernel
theorem dX6_readColour_8 : decode cX6_readColour 8 = .ok (.isub, 1) := by decide +kernel
theorem dX6_readColour_9 : decode cX6_readColour 9 = .ok (.iconst 1, 1) := by decide +kernel
theorem dX6_readColour_10 : decode cX6_readColour 10 = .ok (.if_icmp .ne 23, 3) := by decide +kernel
theorem dX6_readColour_13 : decode cX6_readColour 13 = .ok (.ldc 89, 2) := by decide +kernel
theorem dX6_readColour_15 : decode cX6_readColour 15 = .ok (.aload_n 0, 1) := by decide +kernel
theorem dX6_readColour_16 : decode cX6_readColour 16 = .ok (.getfield 33, 3) := by decide +kernel
theorem dX6_readColour_19 : decode cX6_readColour 19 = .ok (.aload_n 0, 1) := by decide +kernel
theorem dX6_readColour_20 : decode cX6_readColour 20 = .ok (.getfield 24, 3) := by decide +kernel
theorem dX6_readColour_23 : decode cX6_readColour 23 = .ok (.invokevirtual 49, 3) := by decide +kernel
theorem dX6_readColour_26 : decode cX6_readColour 26 = .ok (.i2c, 1) := by decide +kernel
theorem dX6_readColour_27 : decode cX6_readColour 27 = .ok (.invokevirtual 91, 3) := by decide +kernel
theorem dX6_readColour_30 : decode cX6_readColour 30 = .ok (.goto 4, 3) := by decide +kernel
theorem dX6_readColour_33 : decode cX6_readColour 33 = .ok (.iconst (-1), 1) := by decide +kernel
theorem dX6_readColour_34 : decode cX6_readColour 34 = .ok (.istore_n 2, 1) := by decide +kernel
theorem dX6_readColour_35 : decode cX6_readColour 35 = .ok (.iload_n 2, 1) := by decide +kernel
theorem dX6_readColour_36 : decode cX6_readColour 36 = .ok (.ifCond .ge 5, 3) := by decide +kernel
theorem dX6_readColour_39 : decode cX6_readColour 39 = .ok (.iconst 0, 1) := by decide +kernel
theorem dX6_readColour_40 : decode cX6_readColour 40 = .ok (.ireturn, 1) := by decide +kernel
theorem dX6_readColour_41 : decode cX6_readColour 41 = .ok (.aload_n 0, 1) := by decide +kernel
theorem dX6_readColour_42 : decode cX6_readColour 42 = .ok (.getfield 17, 3) := by decide +kernel
theorem dX6_readColour_45 : decode cX6_readColour 45 = .ok (.iload_n 1, 1) := by decide +kernel
theorem dX6_readColour_46 : decode cX6_readColour 46 = .ok (.aaload, 1) := by decide +kernel
theorem dX6_readColour_47 : decode cX6_readColour 47 = .ok (.iconst 1, 1) := by decide +kernel
theorem dX6_readColour_48 : decode cX6_readColour 48 = .ok (.iload_n 2, 1) := by decide +kernel
theorem dX6_readColour_49 : decode cX6_readColour 49 = .ok (.i2l, 1) := by decide +kernel
theorem dX6_readColour_50 : decode cX6_readColour 50 = .ok (.lastore, 1) := by decide +kernel
theorem dX6_readColour_51 : decode cX6_readColour 51 = .ok (.aload_n 0, 1) := by decide +kernel
theorem dX6_readColour_52 : decode cX6_readColour 52 = .ok (.invokevirtual 37, 3) := by decide +kernel
theorem dX6_readColour_55 : decode cX6_readColour 55 = .ok (.iconst 1, 1) := by decide +kernel
theorem dX6_readColour_56 : decode cX6_readColour 56 = .ok (.ireturn, 1) := by decide +kernel
theorem dX6_wordHere_0 : decode cX6_wordHere 0 = .ok (.aload_n 0, 1) := by decide +kernel
theorem dX6_wordHere_1 : decode cX6_wordHere 1 = .ok (.ldc 96, 2) := by decide +kernel
theorem dX6_wordHere_3 : decode cX6_wordHere 3 = .ok (.invokevirtual 98, 3) := by decide +kernel
theorem dX6_wordHere_6 : decode cX6_wordHere 6 = .ok (.ifCond .eq 5, 3) := by decide +kernel
theorem dX6_wordHere_9 : decode cX6_wordHere 9 = .ok (.iconst 0, 1) := by decide +kernel
theorem dX6_wordHere_10 : decode cX6_wordHere 10 = .ok (.ireturn, 1) := by decide +kernel
theorem dX6_wordHere_11 : decode cX6_wordHere 11 = .ok (.aload_n 0, 1) := by decide +kernel
theorem dX6_wordHere_12 : decode cX6_wordHere 12 = .ok (.ldc 102, 2) := by decide +kernel
theorem dX6_wordHere_14 : decode cX6_wordHere 14 = .ok (.invokevirtual 98, 3) := by decide +kernel
theorem dX6_wordHere_17 : decode cX6_wordHere 17 = .ok (.ifCond .eq 5, 3) := by decide +kernel
theorem dX6_wordHere_20 : decode cX6_wordHere 20 = .ok (.iconst 1, 1) := by decide +kernel
theorem dX6_wordHere_21 : decode cX6_wordHere 21 = .ok (.ireturn, 1) := by decide +kernel
theorem dX6_wordHere_22 : decode cX6_wordHere 22 = .ok (.aload_n 0, 1) := by decide +kernel
theorem dX6_wordHere_23 : decode cX6_wordHere 23 = .ok (.ldc 104, 2) := by decide +kernel
theorem dX6_wordHere_25 : decode cX6_wordHere 25 = .ok (.invokevirtual 98, 3) := by decide +kernel
theorem dX6_wordHere_28 : decode cX6_wordHere 28 = .ok (.ifCond .eq 5, 3) := by decide +kernel
theorem dX6_wordHere_31 : decode cX6_wordHere 31 = .ok (.iconst 2, 1) := by decide +kernel
theorem dX6_wordHere_32 : decode cX6_wordHere 32 = .ok (.ireturn, 1) := by decide +kernel
theorem dX6_wordHere_33 : decode cX6_wordHere 33 = .ok (.aload_n 0, 1) := by decide +kernel
theorem dX6_wordHere_34 : decode cX6_wordHere 34 = .ok (.ldc 106, 2) := by decide +kernel
theorem dX6_wordHere_36 : decode cX6_wordHere 36 = .ok (.invokevirtual 98, 3) := by decide +kernel
theorem dX6_wordHere_39 : decode cX6_wordHere 39 = .ok (.ifCond .eq 7, 3) := by decide +kernel
theorem dX6_wordHere_42 : decode cX6_wordHere 42 = .ok (.iconst 3, 1) := by decide +kernel
theorem dX6_wordHere_43 : decode cX6_wordHere 43 = .ok (.goto 4, 3) := by decide +kernel
theorem dX6_wordHere_46 : decode cX6_wordHere 46 = .ok (.iconst (-1), 1) := by decide +kernel
theorem dX6_wordHere_47 : decode cX6_wordHere 47 = .ok (.ireturn, 1) := by decide +kernel
theorem dX6_isHere_0 : decode cX6_isHere 0 = .ok (.aload_n 0, 1) := by decide +kernel
theorem dX6_isHere_1 : decode cX6_isHere 1 = .ok (.getfield 27, 3) := by decide +kernel
theorem dX6_isHere_4 : decode cX6_isHere 4 = .ok (.aload_n 0, 1) := by decide +kernel
theorem dX6_isHere_5 : decode cX6_isHere 5 = .ok (.getfield 24, 3) := by decide +kernel
theorem dX6_isHere_8 : decode cX6_isHere 8 = .ok (.isub, 1) := by decide +kernel
theorem dX6_isHere_9 : decode cX6_isHere 9 = .ok (.aload_n 1, 1) := by decide +kernel
theorem dX6_isHere_10 : decode cX6_isHere 10 = .ok (.invokevirtual 108, 3) := by decide +kernel
theorem dX6_isHere_13 : decode cX6_isHere 13 = .ok (.if_icmp .eq 5, 3) := by decide +kernel
theorem dX6_isHere_16 : decode cX6_isHere 16 = .ok (.iconst 0, 1) := by decide +kernel
theorem dX6_isHere_17 : decode cX6_isHere 17 = .ok (.ireturn, 1) := by decide +kernel
theorem dX6_isHere_18 : decode cX6_isHere 18 = .ok (.iconst 0, 1) := by decide +kernel
theorem dX6_isHere_19 : decode cX6_isHere 19 = .ok (.istore_n 2, 1) := by decide +kernel
theorem dX6_isHere_20 : decode cX6_isHere 20 = .ok (.iload_n 2, 1) := by decide +kernel
theorem dX6_isHere_21 : decode cX6_isHere 21 = .ok (.aload_n 1, 1) := by decide +kernel
theorem dX6_isHere_22 : decode cX6_isHere 22 = .ok (.invokevirtual 108, 3) := by decide +kernel
theorem dX6_isHere_25 : decode cX6_isHere 25 = .ok (.if_icmp .ge 32, 3) := by decide +kernel
theorem dX6_isHere_28 : decode cX6_isHere 28 = .ok (.aload_n 0, 1) := by decide +kernel
theorem dX6_isHere_29 : decode cX6_isHere 29 = .ok (.getfield 33, 3) := by decide +kernel
theorem dX6_isHere_32 : decode cX6_isHere 32 = .ok (.aload_n 0, 1) := by decide +kernel
theorem dX6_isHere_33 : decode cX6_isHere 33 = .ok (.getfield 24, 3) := by decide +kernel
theorem dX6_isHere_36 : decode cX6_isHere 36 = .ok (.iload_n 2, 1) := by decide +kernel
theorem dX6_isHere_37 : decode cX6_isHere 37 = .ok (.iadd, 1) := by decide +kernel
theorem dX6_isHere_38 : decode cX6_isHere 38 = .ok (.invokevirtual 49, 3) := by decide +kernel
theorem dX6_isHere_41 : decode cX6_isHere 41 = .ok (.aload_n 1, 1) := by decide +kernel
theorem dX6_isHere_42 : decode cX6_isHere 42 = .ok (.iload_n 2, 1) := by decide +kernel
theorem dX6_isHere_43 : decode cX6_isHere 43 = .ok (.invokevirtual 110, 3) := by decide +kernel
theorem dX6_isHere_46 : decode cX6_isHere 46 = .ok (.if_icmp .eq 5, 3) := by decide +kernel
theorem dX6_isHere_49 : decode cX6_isHere 49 = .ok (.iconst 0, 1) := by decide +kernel
theorem dX6_isHere_50 : decode cX6_isHere 50 = .ok (.ireturn, 1) := by decide +kernel
theorem dX6_isHere_51 : decode cX6_isHere 51 = .ok (.iinc 2 1, 3) := by decide +kernel
theorem dX6_isHere_54 : decode cX6_isHere 54 = .ok (.goto (-34), 3) := by decide +kernel
theorem dX6_isHere_57 : decode cX6_isHere 57 = .ok (.iconst 1, 1) := by decide +kernel
theorem dX6_isHere_58 : decode cX6_isHere 58 = .ok (.ireturn, 1) := by decide +kernel
theorem dX6_nextToken_0 : decode cX6_nextToken 0 = .ok (.aload_n 0, 1) := by decide +kernel
theorem dX6_nextToken_1 : decode cX6_nextToken 1 = .ok (.aload_n 0, 1) := by decide +kernel
theorem dX6_nextToken_2 : decode cX6_nextToken 2 = .ok (.getfield 27, 3) := by decide +kernel
theorem dX6_nextToken_5 : decode cX6_nextToken 5 = .ok (.putfield 24, 3) := by decide +kernel
theorem dX6_nextToken_8 : decode cX6_nextToken 8 = .ok (.aload_n 0, 1) := by decide +kernel
theorem dX6_nextToken_9 : decode cX6_nextToken 9 = .ok (.getfield 24, 3) := by decide +kernel
theorem dX6_nextToken_12 : decode cX6_nextToken 12 = .ok (.aload_n 0, 1) := by decide +kernel
theorem dX6_nextToken_13 : decode cX6_nextToken 13 = .ok (.getfield 33, 3) := by decide +kernel
theorem dX6_nextToken_16 : decode cX6_nextToken 16 = .ok (.getfield 44, 3) := by decide +kernel
theorem dX6_nextToken_19 : decode cX6_nextToken 19 = .ok (.if_icmp .ge 32, 3) := by decide +kernel
theorem dX6_nextToken_22 : decode cX6_nextToken 22 = .ok (.aload_n 0, 1) := by decide +kernel
theorem dX6_nextToken_23 : decode cX6_nextToken 23 = .ok (.getfield 33, 3) := by decide +kernel
theorem dX6_nextToken_26 : decode cX6_nextToken 26 = .ok (.aload_n 0, 1) := by decide +kernel
theorem dX6_nextToken_27 : decode cX6_nextToken 27 = .ok (.getfield 24, 3) := by decide +kernel
theorem dX6_nextToken_30 : decode cX6_nextToken 30 = .ok (.invokevirtual 49, 3) := by decide +kernel
theorem dX6_nextToken_33 : decode cX6_nextToken 33 = .ok (.bipush 32, 2) := by decide +kernel
theorem dX6_nextToken_35 : decode cX6_nextToken 35 = .ok (.if_icmp .ne 16, 3) := by decide +kernel
theorem dX6_nextToken_38 : decode cX6_nextToken 38 = .ok (.aload_n 0, 1) := by decide +kernel
theorem dX6_nextToken_39 : decode cX6_nextToken 39 = .ok (.dup, 1) := by decide +kernel
theorem dX6_nextToken_40 : decode cX6_nextToken 40 = .ok (.getfield 24, 3) := by decide +kernel
theorem dX6_nextToken_43 : decode cX6_nextToken 43 = .ok (.iconst 1, 1) := by decide +kernel
theorem dX6_nextToken_44 : decode cX6_nextToken 44 = .ok (.iadd, 1) := by decide +kernel
theorem dX6_nextToken_45 : decode cX6_nextToken 45 = .ok (.putfield 24, 3) := by decide +kernel
theorem dX6_nextToken_48 : decode cX6_nextToken 48 = .ok (.goto (-40), 3) := by decide +kernel
theorem dX6_nextToken_51 : decode cX6_nextToken 51 = .ok (.aload_n 0, 1) := by decide +kernel
theorem dX6_nextToken_52 : decode cX6_nextToken 52 = .ok (.aload_n 0, 1) := by decide +kernel
theorem dX6_nextToken_53 : decode cX6_nextToken 53 = .ok (.getfield 24, 3) := by decide +kernel
theorem dX6_nextToken_56 : decode cX6_nextToken 56 = .ok (.putfield 27, 3) := by decide +kernel
theorem dX6_nextToken_59 : decode cX6_nextToken 59 = .ok (.aload_n 0, 1) := by decide +kernel
theorem dX6_nextToken_60 : decode cX6_nextToken 60 = .ok (.getfield 24, 3) := by decide +kernel
theorem dX6_nextToken_63 : decode cX6_nextToken 63 = .ok (.aload_n 0, 1) := by decide +kernel
theorem dX6_nextToken_64 : decode cX6_nextToken 64 = .ok (.getfield 33, 3) := by decide +kernel
theorem dX6_nextToken_67 : decode cX6_nextToken 67 = .ok (.getfield 44, 3) := by decide +kernel
theorem dX6_nextToken_70 : decode cX6_nextToken 70 = .ok (.if_icmp .lt 4, 3) := by decide +kernel
theorem dX6_nextToken_73 : decode cX6_nextToken 73 = .ok (.return_, 1) := by decide +kernel
theorem dX6_nextToken_74 : decode cX6_nextToken 74 = .ok (.aload_n 0, 1) := by decide +kernel
theorem dX6_nextToken_75 : decode cX6_nextToken 75 = .ok (.dup, 1) := by decide +kernel
theorem dX6_nextToken_76 : decode cX6_nextToken 76 = .ok (.getfield 27, 3) := by decide +kernel
theorem dX6_nextToken_79 : decode cX6_nextToken 79 = .ok (.iconst 1, 1) := by decide +kernel
theorem dX6_nextToken_80 : decode cX6_nextToken 80 = .ok (.iadd, 1) := by decide +kernel
theorem dX6_nextToken_81 : decode cX6_nextToken 81 = .ok (.putfield 27, 3) := by decide +kernel
theorem dX6_nextToken_84 : decode cX6_nextToken 84 = .ok (.aload_n 0, 1) := by decide +kernel
theorem dX6_nextToken_85 : decode cX6_nextToken 85 = .ok (.getfield 33, 3) := by decide +kernel
theorem dX6_nextToken_88 : decode cX6_nextToken 88 = .ok (.aload_n 0, 1) := by decide +kernel
theorem dX6_nextToken_89 : decode cX6_nextToken 89 = .ok (.getfield 24, 3) := by decide +kernel
theorem dX6_nextToken_92 : decode cX6_nextToken 92 = .ok (.invokevirtual 49, 3) := by decide +kernel
theorem dX6_nextToken_95 : decode cX6_nextToken 95 = .ok (.invokestatic 114, 3) := by decide +kernel
theorem dX6_nextToken_98 : decode cX6_nextToken 98 = .ok (.istore_n 1, 1) := by decide +kernel
theorem dX6_nextToken_99 : decode cX6_nextToken 99 = .ok (.iload_n 1, 1) := by decide +kernel
theorem dX6_nextToken_100 : decode cX6_nextToken 100 = .ok (.ifCond .ne 21, 3) := by decide +kernel
theorem dX6_nextToken_103 : decode cX6_nextToken 103 = .ok (.aload_n 0, 1) := by decide +kernel
theorem dX6_nextToken_104 : decode cX6_nextToken 104 = .ok (.getfield 33, 3) := by decide +kernel
theorem dX6_nextToken_107 : decode cX6_nextToken 107 = .ok (.aload_n 0, 1) := by decide +kernel
theorem dX6_nextToken_108 : decode cX6_nextToken 108 = .ok (.getfield 24, 3) := by decide +kernel
theorem dX6_nextToken_111 : decode cX6_nextToken 111 = .ok (.invokevirtual 49, 3) := by decide +kernel
theorem dX6_nextToken_114 : decode cX6_nextToken 114 = .ok (.invokestatic 117, 3) := by decide +kernel
theorem dX6_nextToken_117 : decode cX6_nextToken 117 = .ok (.ifCond .ne 4, 3) := by decide +kernel
theorem dX6_nextToken_120 : decode cX6_nextToken 120 = .ok (.return_, 1) := by decide +kernel
theorem dX6_nextToken_121 : decode cX6_nextToken 121 = .ok (.aload_n 0, 1) := by decide +kernel
theorem dX6_nextToken_122 : decode cX6_nextToken 122 = .ok (.getfield 27, 3) := by decide +kernel
theorem dX6_nextToken_125 : decode cX6_nextToken 125 = .ok (.aload_n 0, 1) := by decide +kernel
theorem dX6_nextToken_126 : decode cX6_nextToken 126 = .ok (.getfield 33, 3) := by decide +kernel
theorem dX6_nextToken_129 : decode cX6_nextToken 129 = .ok (.getfield 44, 3) := by decide +kernel
theorem dX6_nextToken_132 : decode cX6_nextToken 132 = .ok (.if_icmp .ge 57, 3) := by decide +kernel
theorem dX6_nextToken_135 : decode cX6_nextToken 135 = .ok (.iload_n 1, 1) := by decide +kernel
theorem dX6_nextToken_136 : decode cX6_nextToken 136 = .ok (.ifCond .eq 23, 3) := by decide +kernel
theorem dX6_nextToken_139 : decode cX6_nextToken 139 = .ok (.aload_n 0, 1) := by decide +kernel
theorem dX6_nextToken_140 : decode cX6_nextToken 140 = .ok (.getfield 33, 3) := by decide +kernel
theorem dX6_nextToken_143 : decode cX6_nextToken 143 = .ok (.aload_n 0, 1) := by decide +kernel
theorem dX6_nextToken_144 : decode cX6_nextToken 144 = .ok (.getfield 27, 3) := by decide +kernel
theorem dX6_nextToken_147 : decode cX6_nextToken 147 = .ok (.invokevirtual 49, 3) := by decide +kernel
theorem dX6_nextToken_150 : decode cX6_nextToken 150 = .ok (.invokestatic 114, 3) := by decide +kernel
theorem dX6_nextToken_153 : decode cX6_nextToken 153 = .ok (.ifCond .eq 36, 3) := by decide +kernel
theorem dX6_nextToken_156 : decode cX6_nextToken 156 = .ok (.goto 20, 3) := by decide +kernel
theorem dX6_nextToken_159 : decode cX6_nextToken 159 = .ok (.aload_n 0, 1) := by decide +kernel
theorem dX6_nextToken_160 : decode cX6_nextToken 160 = .ok (.getfield 33, 3) := by decide +kernel
theorem dX6_nextToken_163 : decode cX6_nextToken 163 = .ok (.aload_n 0, 1) := by decide +kernel
theorem dX6_nextToken_164 : decode cX6_nextToken 164 = .ok (.getfield 27, 3) := by decide +kernel
theorem dX6_nextToken_167 : decode cX6_nextToken 167 = .ok (.invokevirtual 49, 3) := by decide +kernel
theorem dX6_nextToken_170 : decode cX6_nextToken 170 = .ok (.invokestatic 117, 3) := by decide +kernel
theorem dX6_nextToken_173 : decode cX6_nextToken 173 = .ok (.ifCond .eq 16, 3) := by decide +kernel
theorem dX6_nextToken_176 : decode cX6_nextToken 176 = .ok (.aload_n 0, 1) := by decide +kernel
theorem dX6_nextToken_177 : decode cX6_nextToken 177 = .ok (.dup, 1) := by decide +kernel
theorem dX6_nextToken_178 : decode cX6_nextToken 178 = .ok (.getfield 27, 3) := by decide +kernel
theorem dX6_nextToken_181 : decode cX6_nextToken 181 = .ok (.iconst 1, 1) := by decide +kernel
theorem dX6_nextToken_182 : decode cX6_nextToken 182 = .ok (.iadd, 1) := by decide +kernel
theorem dX6_nextToken_183 : decode cX6_nextToken 183 = .ok (.putfield 27, 3) := by decide +kernel
theorem dX6_nextToken_186 : decode cX6_nextToken 186 = .ok (.goto (-65), 3) := by decide +kernel
theorem dX6_nextToken_189 : decode cX6_nextToken 189 = .ok (.return_, 1) := by decide +kernel
theorem dX6_isDigitHere_0 : decode cX6_isDigitHere 0 = .ok (.aload_n 0, 1) := by decide +kernel
theorem dX6_isDigitHere_1 : decode cX6_isDigitHere 1 = .ok (.getfield 33, 3) := by decide +kernel
theorem dX6_isDigitHere_4 : decode cX6_isDigitHere 4 = .ok (.aload_n 0, 1) := by decide +kernel
theorem dX6_isDigitHere_5 : decode cX6_isDigitHere 5 = .ok (.getfield 24, 3) := by decide +kernel
theorem dX6_isDigitHere_8 : decode cX6_isDigitHere 8 = .ok (.invokevirtual 49, 3) := by decide +kernel
theorem dX6_isDigitHere_11 : decode cX6_isDigitHere 11 = .ok (.invokestatic 117, 3) := by decide +kernel
theorem dX6_isDigitHere_14 : decode cX6_isDigitHere 14 = .ok (.ireturn, 1) := by decide +kernel
theorem dX6_isDigit_0 : decode cX6_isDigit 0 = .ok (.iload_n 0, 1) := by decide +kernel
theorem dX6_isDigit_1 : decode cX6_isDigit 1 = .ok (.bipush 48, 2) := by decide +kernel
theorem dX6_isDigit_3 : decode cX6_isDigit 3 = .ok (.if_icmp .lt 13, 3) := by decide +kernel
theorem dX6_isDigit_6 : decode cX6_isDigit 6 = .ok (.iload_n 0, 1) := by decide +kernel
theorem dX6_isDigit_7 : decode cX6_isDigit 7 = .ok (.bipush 57, 2) := by decide +kernel
theorem dX6_isDigit_9 : decode cX6_isDigit 9 = .ok (.if_icmp .gt 7, 3) := by decide +kernel
theorem dX6_isDigit_12 : decode cX6_isDigit 12 = .ok (.iconst 1, 1) := by decide +kernel
theorem dX6_isDigit_13 : decode cX6_isDigit 13 = .ok (.goto 4, 3) := by decide +kernel
theorem dX6_isDigit_16 : decode cX6_isDigit 16 = .ok (.iconst 0, 1) := by decide +kernel
theorem dX6_isDigit_17 : decode cX6_isDigit 17 = .ok (.ireturn, 1) := by decide +kernel
theorem dX6_isLetter_0 : decode cX6_isLetter 0 = .ok (.iload_n 0, 1) := by decide +kernel
theorem dX6_isLetter_1 : decode cX6_isLetter 1 = .ok (.bipush 97, 2) := by decide +kernel
theorem dX6_isLetter_3 : decode cX6_isLetter 3 = .ok (.if_icmp .lt 13, 3) := by decide +kernel
theorem dX6_isLetter_6 : decode cX6_isLetter 6 = .ok (.iload_n 0, 1) := by decide +kernel
theorem dX6_isLetter_7 : decode cX6_isLetter 7 = .ok (.bipush 122, 2) := by decide +kernel
theorem dX6_isLetter_9 : decode cX6_isLetter 9 = .ok (.if_icmp .gt 7, 3) := by decide +kernel
theorem dX6_isLetter_12 : decode cX6_isLetter 12 = .ok (.iconst 1, 1) := by decide +kernel
theorem dX6_isLetter_13 : decode cX6_isLetter 13 = .ok (.goto 4, 3) := by decide +kernel
theorem dX6_isLetter_16 : decode cX6_isLetter 16 = .ok (.iconst 0, 1) := by decide +kernel
theorem dX6_isLetter_17 : decode cX6_isLetter 17 = .ok (.ireturn, 1) := by decide +kernel
theorem dX7_init_0 : decode cX7_init 0 = .ok (.aload_n 0, 1) := by decide +kernel
theorem dX7_init_1 : decode cX7_init 1 = .ok (.invokespecial 3, 3) := by decide +kernel
theorem dX7_init_4 : decode cX7_init 4 = .ok (.aload_n 0, 1) := by decide +kernel
theorem dX7_init_5 : decode cX7_init 5 = .ok (.bipush 21, 2) := by decide +kernel
theorem dX7_init_7 : decode cX7_init 7 = .ok (.bipush 10, 2) := by decide +kernel
theorem dX7_init_9 : decode cX7_init 9 = .ok (.multianewarray 9 2, 4) := by decide +kernel
theorem dX7_init_13 : decode cX7_init 13 = .ok (.putfield 11, 3) := by decide +kernel
theorem dX7_init_16 : decode cX7_init 16 = .ok (.aload_n 0, 1) := by decide +kernel
theorem dX7_init_17 : decode cX7_init 17 = .ok (.aload_n 1, 1) := by decide +kernel
theorem dX7_init_18 : decode cX7_init 18 = .ok (.putfield 16, 3) := by decide +kernel
theorem dX7_init_21 : decode cX7_init 21 = .ok (.return_, 1) := by decide +kernel
theorem dX7_lotsOf_0 : decode cX7_lotsOf 0 = .ok (.aload_n 0, 1) := by decide +kernel
theorem dX7_lotsOf_1 : decode cX7_lotsOf 1 = .ok (.iload_n 1, 1) := by decide +kernel
theorem dX7_lotsOf_2 : decode cX7_lotsOf 2 = .ok (.iconst (-1), 1) := by decide +kernel
theorem dX7_lotsOf_3 : decode cX7_lotsOf 3 = .ok (.if_icmp .ne 13, 3) := by decide +kernel
theorem dX7_lotsOf_6 : decode cX7_lotsOf 6 = .ok (.aload_n 0, 1) := by decide +kernel
theorem dX7_lotsOf_7 : decode cX7_lotsOf 7 = .ok (.getfield 16, 3) := by decide +kernel
theorem dX7_lotsOf_10 : decode cX7_lotsOf 10 = .ok (.getfield 20, 3) := by decide +kernel
theorem dX7_lotsOf_13 : decode cX7_lotsOf 13 = .ok (.goto 4, 3) := by decide +kernel
theorem dX7_lotsOf_16 : decode cX7_lotsOf 16 = .ok (.iload_n 1, 1) := by decide +kernel
theorem dX7_lotsOf_17 : decode cX7_lotsOf 17 = .ok (.invokevirtual 26, 3) := by decide +kernel
theorem dX7_lotsOf_20 : decode cX7_lotsOf 20 = .ok (.iload_n 1, 1) := by decide +kernel
theorem dX7_lotsOf_21 : decode cX7_lotsOf 21 = .ok (.iconst (-1), 1) := by decide +kernel
theorem dX7_lotsOf_22 : decode cX7_lotsOf 22 = .ok (.if_icmp .eq 12, 3) := by decide +kernel
theorem dX7_lotsOf_25 : decode cX7_lotsOf 25 = .ok (.aload_n 0, 1) := by decide +kernel
theorem dX7_lotsOf_26 : decode cX7_lotsOf 26 = .ok (.getfield 11, 3) := by decide +kernel
theorem dX7_lotsOf_29 : decode cX7_lotsOf 29 = .ok (.iload_n 1, 1) := by decide +kernel
theorem dX7_lotsOf_30 : decode cX7_lotsOf 30 = .ok (.aaload, 1) := by decide +kernel
theorem dX7_lotsOf_31 : decode cX7_lotsOf 31 = .ok (.iload_n 2, 1) := by decide +kernel
theorem dX7_lotsOf_32 : decode cX7_lotsOf 32 = .ok (.iaload, 1) := by decide +kernel
theorem dX7_lotsOf_33 : decode cX7_lotsOf 33 = .ok (.ireturn, 1) := by decide +kernel
theorem dX7_lotsOf_34 : decode cX7_lotsOf 34 = .ok (.iconst 0, 1) := by decide +kernel
theorem dX7_lotsOf_35 : decode cX7_lotsOf 35 = .ok (.istore_n 3, 1) := by decide +kernel
theorem dX7_lotsOf_36 : decode cX7_lotsOf 36 = .ok (.iconst 0, 1) := by decide +kernel
theorem dX7_lotsOf_37 : decode cX7_lotsOf 37 = .ok (.istore 4, 2) := by decide +kernel
theorem dX7_lotsOf_39 : decode cX7_lotsOf 39 = .ok (.iload 4, 2) := by decide +kernel
theorem dX7_lotsOf_41 : decode cX7_lotsOf 41 = .ok (.aload_n 0, 1) := by decide +kernel
theorem dX7_lotsOf_42 : decode cX7_lotsOf 42 = .ok (.getfield 16, 3) := by decide +kernel
theorem dX7_lotsOf_45 : decode cX7_lotsOf 45 = .ok (.getfield 20, 3) := by decide +kernel
theorem dX7_lotsOf_48 : decode cX7_lotsOf 48 = .ok (.if_icmp .gt 21, 3) := by decide +kernel
theorem dX7_lotsOf_51 : decode cX7_lotsOf 51 = .ok (.iload_n 3, 1) := by decide +kernel
theorem dX7_lotsOf_52 : decode cX7_lotsOf 52 = .ok (.aload_n 0, 1) := by decide +kernel
theorem dX7_lotsOf_53 : decode cX7_lotsOf 53 = .ok (.getfield 11, 3) := by decide +kernel
theorem dX7_lotsOf_56 : decode cX7_lotsOf 56 = .ok (.iload 4, 2) := by decide +kernel
theorem dX7_lotsOf_58 : decode cX7_lotsOf 58 = .ok (.aaload, 1) := by decide +kernel
theorem dX7_lotsOf_59 : decode cX7_lotsOf 59 = .ok (.iload_n 2, 1) := by decide +kernel
theorem dX7_lotsOf_60 : decode cX7_lotsOf 60 = .ok (.iaload, 1) := by decide +kernel
theorem dX7_lotsOf_61 : decode cX7_lotsOf 61 = .ok (.iadd, 1) := by decide +kernel
theorem dX7_lotsOf_62 : decode cX7_lotsOf 62 = .ok (.istore_n 3, 1) := by decide +kernel
theorem dX7_lotsOf_63 : decode cX7_lotsOf 63 = .ok (.iinc 4 1, 3) := by decide +kernel
theorem dX7_lotsOf_66 : decode cX7_lotsOf 66 = .ok (.goto (-27), 3) := by decide +kernel
theorem dX7_lotsOf_69 : decode cX7_lotsOf 69 = .ok (.iload_n 3, 1) := by decide +kernel
theorem dX7_lotsOf_70 : decode cX7_lotsOf 70 = .ok (.ireturn, 1) := by decide +kernel
theorem dX7_fillLots_0 : decode cX7_fillLots 0 = .ok (.iconst 0, 1) := by decide +kernel
theorem dX7_fillLots_1 : decode cX7_fillLots 1 = .ok (.istore_n 2, 1) := by decide +kernel
theorem dX7_fillLots_2 : decode cX7_fillLots 2 = .ok (.iload_n 2, 1) := by decide +kernel
theorem dX7_fillLots_3 : decode cX7_fillLots 3 = .ok (.iload_n 1, 1) := by decide +kernel
theorem dX7_fillLots_4 : decode cX7_fillLots 4 = .ok (.if_icmp .gt 19, 3) := by decide +kernel
theorem dX7_fillLots_7 : decode cX7_fillLots 7 = .ok (.aload_n 0, 1) := by decide +kernel
theorem dX7_fillLots_8 : decode cX7_fillLots 8 = .ok (.getfield 11, 3) := by decide +kernel
theorem dX7_fillLots_11 : decode cX7_fillLots 11 = .ok (.iload_n 2, 1) := by decide +kernel
theorem dX7_fillLots_12 : decode cX7_fillLots 12 = .ok (.aaload, 1) := by decide +kernel
theorem dX7_fillLots_13 : decode cX7_fillLots 13 = .ok (.iconst 0, 1) := by decide +kernel
theorem dX7_fillLots_14 : decode cX7_fillLots 14 = .ok (.invokestatic 30, 3) := by decide +kernel
theorem dX7_fillLots_17 : decode cX7_fillLots 17 = .ok (.iinc 2 1, 3) := by decide +kernel
theorem dX7_fillLots_20 : decode cX7_fillLots 20 = .ok (.goto (-18), 3) := by decide +kernel
theorem dX7_fillLots_23 : decode cX7_fillLots 23 = .ok (.aload_n 0, 1) := by decide +kernel
theorem dX7_fillLots_24 : decode cX7_fillLots 24 = .ok (.getfield 11, 3) := by decide +kernel
theorem dX7_fillLots_27 : decode cX7_fillLots 27 = .ok (.iconst 0, 1) := by decide +kernel
theorem dX7_fillLots_28 : decode cX7_fillLots 28 = .ok (.aaload, 1) := by decide +kernel
theorem dX7_fillLots_29 : decode cX7_fillLots 29 = .ok (.iconst 0, 1) := by decide +kernel
theorem dX7_fillLots_30 : decode cX7_fillLots 30 = .ok (.iconst 1, 1) := by decide +kernel
theorem dX7_fillLots_31 : decode cX7_fillLots 31 = .ok (.iastore, 1) := by decide +kernel
theorem dX7_fillLots_32 : decode cX7_fillLots 32 = .ok (.iconst 0, 1) := by decide +kernel
theorem dX7_fillLots_33 : decode cX7_fillLots 33 = .ok (.istore_n 2, 1) := by decide +kernel
theorem dX7_fillLots_34 : decode cX7_fillLots 34 = .ok (.iload_n 2, 1) := by decide +kernel
theorem dX7_fillLots_35 : decode cX7_fillLots 35 = .ok (.aload_n 0, 1) := by decide +kernel
theorem dX7_fillLots_36 : decode cX7_fillLots 36 = .ok (.getfield 16, 3) := by decide +kernel
theorem dX7_fillLots_39 : decode cX7_fillLots 39 = .ok (.getfield 20, 3) := by decide +kernel
theorem dX7_fillLots_42 : decode cX7_fillLots 42 = .ok (.if_icmp .ge 101, 3) := by decide +kernel
theorem dX7_fillLots_45 : decode cX7_fillLots 45 = .ok (.aload_n 0, 1) := by decide +kernel
theorem dX7_fillLots_46 : decode cX7_fillLots 46 = .ok (.getfield 16, 3) := by decide +kernel
theorem dX7_fillLots_49 : decode cX7_fillLots 49 = .ok (.iload_n 2, 1) := by decide +kernel
theorem dX7_fillLots_50 : decode cX7_fillLots 50 = .ok (.invokevirtual 36, 3) := by decide +kernel
theorem dX7_fillLots_53 : decode cX7_fillLots 53 = .ok (.istore_n 3, 1) := by decide +kernel
theorem dX7_fillLots_54 : decode cX7_fillLots 54 = .ok (.iload_n 1, 1) := by decide +kernel
theorem dX7_fillLots_55 : decode cX7_fillLots 55 = .ok (.iload_n 2, 1) := by decide +kernel
theorem dX7_fillLots_56 : decode cX7_fillLots 56 = .ok (.iconst 1, 1) := by decide +kernel
theorem dX7_fillLots_57 : decode cX7_fillLots 57 = .ok (.iadd, 1) := by decide +kernel
theorem dX7_fillLots_58 : decode cX7_fillLots 58 = .ok (.invokestatic 40, 3) := by decide +kernel
theorem dX7_fillLots_61 : decode cX7_fillLots 61 = .ok (.istore 4, 2) := by decide +kernel
theorem dX7_fillLots_63 : decode cX7_fillLots 63 = .ok (.iload 4, 2) := by decide +kernel
theorem dX7_fillLots_65 : decode cX7_fillLots 65 = .ok (.iconst 1, 1) := by decide +kernel
theorem dX7_fillLots_66 : decode cX7_fillLots 66 = .ok (.if_icmp .lt 71, 3) := by decide +kernel
theorem dX7_fillLots_69 : decode cX7_fillLots 69 = .ok (.iconst 0, 1) := by decide +kernel
theorem dX7_fillLots_70 : decode cX7_fillLots 70 = .ok (.istore 5, 2) := by decide +kernel
theorem dX7_fillLots_72 : decode cX7_fillLots 72 = .ok (.iload 5, 2) := by decide +kernel
theorem dX7_fillLots_74 : decode cX7_fillLots 74 = .ok (.aload_n 0, 1) := by decide +kernel
theorem dX7_fillLots_75 : decode cX7_fillLots 75 = .ok (.getfield 16, 3) := by decide +kernel
theorem dX7_fillLots_78 : decode cX7_fillLots 78 = .ok (.getfield 46, 3) := by decide +kernel
theorem dX7_fillLots_81 : decode cX7_fillLots 81 = .ok (.if_icmp .ge 50, 3) := by decide +kernel
theorem dX7_fillLots_84 : decode cX7_fillLots 84 = .ok (.iload 5, 2) := by decide +kernel
theorem dX7_fillLots_86 : decode cX7_fillLots 86 = .ok (.iload_n 3, 1) := by decide +kernel
theorem dX7_fillLots_87 : decode cX7_fillLots 87 = .ok (.iadd, 1) := by decide +kernel
theorem dX7_fillLots_88 : decode cX7_fillLots 88 = .ok (.aload_n 0, 1) := by decide +kernel
theorem dX7_fillLots_89 : decode cX7_fillLots 89 = .ok (.getfield 16, 3) := by decide +kernel
theorem dX7_fillLots_92 : decode cX7_fillLots 92 = .ok (.getfield 46, 3) := by decide +kernel
theorem dX7_fillLots_95 : decode cX7_fillLots 95 = .ok (.invokestatic 49, 3) := by decide +kernel
theorem dX7_fillLots_98 : decode cX7_fillLots 98 = .ok (.istore 6, 2) := by decide +kernel
theorem dX7_fillLots_100 : decode cX7_fillLots 100 = .ok (.aload_n 0, 1) := by decide +kernel
theorem dX7_fillLots_101 : decode cX7_fillLots 101 = .ok (.getfield 11, 3) := by decide +kernel
theorem dX7_fillLots_104 : decode cX7_fillLots 104 = .ok (.iload 4, 2) := by decide +kernel
theorem dX7_fillLots_106 : decode cX7_fillLots 106 = .ok (.aaload, 1) := by decide +kernel
theorem dX7_fillLots_107 : decode cX7_fillLots 107 = .ok (.iload 6, 2) := by decide +kernel
theorem dX7_fillLots_109 : decode cX7_fillLots 109 = .ok (.dup2, 1) := by decide +kernel
theorem dX7_fillLots_110 : decode cX7_fillLots 110 = .ok (.iaload, 1) := by decide +kernel
theorem dX7_fillLots_111 : decode cX7_fillLots 111 = .ok (.aload_n 0, 1) := by decide +kernel
theorem dX7_fillLots_112 : decode cX7_fillLots 112 = .ok (.getfield 11, 3) := by decide +kernel
theorem dX7_fillLots_115 : decode cX7_fillLots 115 = .ok (.iload 4, 2) := by decide +kernel
theorem dX7_fillLots_117 : decode cX7_fillLots 117 = .ok (.iconst 1, 1) := by decide +kernel
theorem dX7_fillLots_118 : decode cX7_fillLots 118 = .ok (.isub, 1) := by decide +kernel
theorem dX7_fillLots_119 : decode cX7_fillLots 119 = .ok (.aaload, 1) := by decide +kernel
theorem dX7_fillLots_120 : decode cX7_fillLots 120 = .ok (.iload 5, 2) := by decide +kernel
theorem dX7_fillLots_122 : decode cX7_fillLots 122 = .ok (.iaload, 1) := by decide +kernel
theorem dX7_fillLots_123 : decode cX7_fillLots 123 = .ok (.iadd, 1) := by decide +kernel
theorem dX7_fillLots_124 : decode cX7_fillLots 124 = .ok (.iastore, 1) := by decide +kernel
theorem dX7_fillLots_125 : decode cX7_fillLots 125 = .ok (.iinc 5 1, 3) := by decide +kernel
theorem dX7_fillLots_128 : decode cX7_fillLots 128 = .ok (.goto (-56), 3) := by decide +kernel
theorem dX7_fillLots_131 : decode cX7_fillLots 131 = .ok (.iinc 4 (-1), 3) := by decide +kernel
theorem dX7_fillLots_134 : decode cX7_fillLots 134 = .ok (.goto (-71), 3) := by decide +kernel
theorem dX7_fillLots_137 : decode cX7_fillLots 137 = .ok (.iinc 2 1, 3) := by decide +kernel
theorem dX7_fillLots_140 : decode cX7_fillLots 140 = .ok (.goto (-106), 3) := by decide +kernel
theorem dX7_fillLots_143 : decode cX7_fillLots 143 = .ok (.return_, 1) := by decide +kernel
theorem dX8_init_0 : decode cX8_init 0 = .ok (.aload_n 0, 1) := by decide +kernel
theorem dX8_init_1 : decode cX8_init 1 = .ok (.invokespecial 3, 3) := by decide +kernel
theorem dX8_init_4 : decode cX8_init 4 = .ok (.aload_n 0, 1) := by decide +kernel
theorem dX8_init_5 : decode cX8_init 5 = .ok (.sipush 200, 3) := by decide +kernel
theorem dX8_init_8 : decode cX8_init 8 = .ok (.newarray .int, 2) := by decide +kernel
theorem dX8_init_10 : decode cX8_init 10 = .ok (.putfield 9, 3) := by decide +kernel
theorem dX8_init_13 : decode cX8_init 13 = .ok (.aload_n 0, 1) := by decide +kernel
theorem dX8_init_14 : decode cX8_init 14 = .ok (.iconst 0, 1) := by decide +kernel
theorem dX8_init_15 : decode cX8_init 15 = .ok (.putfield 15, 3) := by decide +kernel
theorem dX8_init_18 : decode cX8_init 18 = .ok (.return_, 1) := by decide +kernel
theorem dX8_put_0 : decode cX8_put 0 = .ok (.aload_n 0, 1) := by decide +kernel
theorem dX8_put_1 : decode cX8_put 1 = .ok (.getfield 15, 3) := by decide +kernel
theorem dX8_put_4 : decode cX8_put 4 = .ok (.iload_n 3, 1) := by decide +kernel
theorem dX8_put_5 : decode cX8_put 5 = .ok (.iadd, 1) := by decide +kernel
theorem dX8_put_6 : decode cX8_put 6 = .ok (.sipush 200, 3) := by decide +kernel
theorem dX8_put_9 : decode cX8_put 9 = .ok (.if_icmp .le 5, 3) := by decide +kernel
theorem dX8_put_12 : decode cX8_put 12 = .ok (.iconst 0, 1) := by decide +kernel
theorem dX8_put_13 : decode cX8_put 13 = .ok (.ireturn, 1) := by decide +kernel
theorem dX8_put_14 : decode cX8_put 14 = .ok (.iconst 0, 1) := by decide +kernel
theorem dX8_put_15 : decode cX8_put 15 = .ok (.istore 4, 2) := by decide +kernel
theorem dX8_put_17 : decode cX8_put 17 = .ok (.iload 4, 2) := by decide +kernel
theorem dX8_put_19 : decode cX8_put 19 = .ok (.iload_n 3, 1) := by decide +kernel
theorem dX8_put_20 : decode cX8_put 20 = .ok (.if_icmp .ge 33, 3) := by decide +kernel
theorem dX8_put_23 : decode cX8_put 23 = .ok (.aload_n 0, 1) := by decide +kernel
theorem dX8_put_24 : decode cX8_put 24 = .ok (.getfield 9, 3) := by decide +kernel
theorem dX8_put_27 : decode cX8_put 27 = .ok (.aload_n 0, 1) := by decide +kernel
theorem dX8_put_28 : decode cX8_put 28 = .ok (.getfield 15, 3) := by decide +kernel
theorem dX8_put_31 : decode cX8_put 31 = .ok (.iload 4, 2) := by decide +kernel
theorem dX8_put_33 : decode cX8_put 33 = .ok (.iadd, 1) := by decide +kernel
theorem dX8_put_34 : decode cX8_put 34 = .ok (.lload_n 1, 1) := by decide +kernel
theorem dX8_put_35 : decode cX8_put 35 = .ok (.bipush 8, 2) := by decide +kernel
theorem dX8_put_37 : decode cX8_put 37 = .ok (.iload 4, 2) := by decide +kernel
theorem dX8_put_39 : decode cX8_put 39 = .ok (.imul, 1) := by decide +kernel
theorem dX8_put_40 : decode cX8_put 40 = .ok (.lshr, 1) := by decide +kernel
theorem dX8_put_41 : decode cX8_put 41 = .ok (.ldc2_w 19, 3) := by decide +kernel
theorem dX8_put_44 : decode cX8_put 44 = .ok (.land, 1) := by decide +kernel
theorem dX8_put_45 : decode cX8_put 45 = .ok (.l2i, 1) := by decide +kernel
theorem dX8_put_46 : decode cX8_put 46 = .ok (.iastore, 1) := by decide +kernel
theorem dX8_put_47 : decode cX8_put 47 = .ok (.iinc 4 1, 3) := by decide +kernel
theorem dX8_put_50 : decode cX8_put 50 = .ok (.goto (-33), 3) := by decide +kernel
theorem dX8_put_53 : decode cX8_put 53 = .ok (.aload_n 0, 1) := by decide +kernel
theorem dX8_put_54 : decode cX8_put 54 = .ok (.dup, 1) := by decide +kernel
theorem dX8_put_55 : decode cX8_put 55 = .ok (.getfield 15, 3) := by decide +kernel
theorem dX8_put_58 : decode cX8_put 58 = .ok (.iload_n 3, 1) := by decide +kernel
theorem dX8_put_59 : decode cX8_put 59 = .ok (.iadd, 1) := by decide +kernel
theorem dX8_put_60 : decode cX8_put 60 = .ok (.putfield 15, 3) := by decide +kernel
theorem dX8_put_63 : decode cX8_put 63 = .ok (.iconst 1, 1) := by decide +kernel
theorem dX8_put_64 : decode cX8_put 64 = .ok (.ireturn, 1) := by decide +kernel
theorem dX8_at_0 : decode cX8_at 0 = .ok (.iload_n 1, 1) := by decide +kernel
theorem dX8_at_1 : decode cX8_at 1 = .ok (.ifCond .lt 20, 3) := by decide +kernel
theorem dX8_at_4 : decode cX8_at 4 = .ok (.iload_n 1, 1) := by decide +kernel
theorem dX8_at_5 : decode cX8_at 5 = .ok (.aload_n 0, 1) := by decide +kernel
theorem dX8_at_6 : decode cX8_at 6 = .ok (.getfield 15, 3) := by decide +kernel
theorem dX8_at_9 : decode cX8_at 9 = .ok (.if_icmp .ge 12, 3) := by decide +kernel
theorem dX8_at_12 : decode cX8_at 12 = .ok (.aload_n 0, 1) := by decide +kernel
theorem dX8_at_13 : decode cX8_at 13 = .ok (.getfield 9, 3) := by decide +kernel
theorem dX8_at_16 : decode cX8_at 16 = .ok (.iload_n 1, 1) := by decide +kernel
theorem dX8_at_17 : decode cX8_at 17 = .ok (.iaload, 1) := by decide +kernel
theorem dX8_at_18 : decode cX8_at 18 = .ok (.goto 4, 3) := by decide +kernel
theorem dX8_at_21 : decode cX8_at 21 = .ok (.iconst (-1), 1) := by decide +kernel
theorem dX8_at_22 : decode cX8_at 22 = .ok (.ireturn, 1) := by decide +kernel
theorem dX9_init_0 : decode cX9_init 0 = .ok (.aload_n 0, 1) := by decide +kernel
theorem dX9_init_1 : decode cX9_init 1 = .ok (.invokespecial 3, 3) := by decide +kernel
theorem dX9_init_4 : decode cX9_init 4 = .ok (.aload_n 0, 1) := by decide +kernel
theorem dX9_init_5 : decode cX9_init 5 = .ok (.sipush 256, 3) := by decide +kernel
theorem dX9_init_8 : decode cX9_init 8 = .ok (.newarray .boolean, 2) := by decide +kernel
theorem dX9_init_10 : decode cX9_init 10 = .ok (.putfield 9, 3) := by decide +kernel
theorem dX9_init_13 : decode cX9_init 13 = .ok (.aload_n 0, 1) := by decide +kernel
theorem dX9_init_14 : decode cX9_init 14 = .ok (.sipush 256, 3) := by decide +kernel
theorem dX9_init_17 : decode cX9_init 17 = .ok (.newarray .int, 2) := by decide +kernel
theorem dX9_init_19 : decode cX9_init 19 = .ok (.putfield 15, 3) := by decide +kernel
theorem dX9_init_22 : decode cX9_init 22 = .ok (.aload_n 0, 1) := by decide +kernel
theorem dX9_init_23 : decode cX9_init 23 = .ok (.aload_n 1, 1) := by decide +kernel
theorem dX9_init_24 : decode cX9_init 24 = .ok (.putfield 19, 3) := by decide +kernel
theorem dX9_init_27 : decode cX9_init 27 = .ok (.aload_n 0, 1) := by decide +kernel
theorem dX9_init_28 : decode cX9_init 28 = .ok (.aload_n 2, 1) := by decide +kernel
theorem dX9_init_29 : decode cX9_init 29 = .ok (.putfield 23, 3) := by decide +kernel
theorem dX9_init_32 : decode cX9_init 32 = .ok (.return_, 1) := by decide +kernel
theorem dX9_open_0 : decode cX9_open 0 = .ok (.aload_n 0, 1) := by decide +kernel
theorem dX9_open_1 : decode cX9_open 1 = .ok (.getfield 23, 3) := by decide +kernel
theorem dX9_open_4 : decode cX9_open 4 = .ok (.iconst 0, 1) := by decide +kernel
theorem dX9_open_5 : decode cX9_open 5 = .ok (.invokestatic 26, 3) := by decide +kernel
theorem dX9_open_8 : decode cX9_open 8 = .ok (.iconst 1, 1) := by decide +kernel
theorem dX9_open_9 : decode cX9_open 9 = .ok (.aload_n 0, 1) := by decide +kernel
theorem dX9_open_10 : decode cX9_open 10 = .ok (.getfield 19, 3) := by decide +kernel
theorem dX9_open_13 : decode cX9_open 13 = .ok (.getfield 32, 3) := by decide +kernel
theorem dX9_open_16 : decode cX9_open 16 = .ok (.ishl, 1) := by decide +kernel
theorem dX9_open_17 : decode cX9_open 17 = .ok (.istore_n 2, 1) := by decide +kernel
theorem dX9_open_18 : decode cX9_open 18 = .ok (.aload_n 0, 1) := by decide +kernel
theorem dX9_open_19 : decode cX9_open 19 = .ok (.getfield 9, 3) := by decide +kernel
theorem dX9_open_22 : decode cX9_open 22 = .ok (.iconst 0, 1) := by decide +kernel
theorem dX9_open_23 : decode cX9_open 23 = .ok (.iconst 0, 1) := by decide +kernel
theorem dX9_open_24 : decode cX9_open 24 = .ok (.bastore, 1) := by decide +kernel
theorem dX9_open_25 : decode cX9_open 25 = .ok (.aload_n 0, 1) := by decide +kernel
theorem dX9_open_26 : decode cX9_open 26 = .ok (.getfield 15, 3) := by decide +kernel
theorem dX9_open_29 : decode cX9_open 29 = .ok (.iconst 0, 1) := by decide +kernel
theorem dX9_open_30 : decode cX9_open 30 = .ok (.iconst 0, 1) := by decide +kernel
theorem dX9_open_31 : decode cX9_open 31 = .ok (.iastore, 1) := by decide +kernel
theorem dX9_open_32 : decode cX9_open 32 = .ok (.iconst 1, 1) := by decide +kernel
theorem dX9_open_33 : decode cX9_open 33 = .ok (.istore_n 3, 1) := by decide +kernel
theorem dX9_open_34 : decode cX9_open 34 = .ok (.iload_n 3, 1) := by decide +kernel
theorem dX9_open_35 : decode cX9_open 35 = .ok (.iload_n 2, 1) := by decide +kernel
theorem dX9_open_36 : decode cX9_open 36 = .ok (.if_icmp .ge 119, 3) := by decide +kernel
theorem dX9_open_39 : decode cX9_open 39 = .ok (.aload_n 0, 1) := by decide +kernel
theorem dX9_open_40 : decode cX9_open 40 = .ok (.getfield 9, 3) := by decide +kernel
theorem dX9_open_43 : decode cX9_open 43 = .ok (.iload_n 3, 1) := by decide +kernel
theorem dX9_open_44 : decode cX9_open 44 = .ok (.iload_n 3, 1) := by decide +kernel
theorem dX9_open_45 : decode cX9_open 45 = .ok (.invokestatic 38, 3) := by decide +kernel
theorem dX9_open_48 : decode cX9_open 48 = .ok (.iload_n 1, 1) := by decide +kernel
theorem dX9_open_49 : decode cX9_open 49 = .ok (.if_icmp .ne 18, 3) := by decide +kernel
theorem dX9_open_52 : decode cX9_open 52 = .ok (.aload_n 0, 1) := by decide +kernel
theorem dX9_open_53 : decode cX9_open 53 = .ok (.getfield 19, 3) := by decide +kernel
theorem dX9_open_56 : decode cX9_open 56 = .ok (.iload_n 3, 1) := by decide +kernel
theorem dX9_open_57 : decode cX9_open 57 = .ok (.invokevirtual 44, 3) := by decide +kernel
theorem dX9_open_60 : decode cX9_open 60 = .ok (.ifCond .ne 7, 3) := by decide +kernel
theorem dX9_open_63 : decode cX9_open 63 = .ok (.iconst 1, 1) := by decide +kernel
theorem dX9_open_64 : decode cX9_open 64 = .ok (.goto 4, 3) := by decide +kernel
theorem dX9_open_67 : decode cX9_open 67 = .ok (.iconst 0, 1) := by decide +kernel
theorem dX9_open_68 : decode cX9_open 68 = .ok (.bastore, 1) := by decide +kernel
theorem dX9_open_69 : decode cX9_open 69 = .ok (.iconst 1, 1) := by decide +kernel
theorem dX9_open_70 : decode cX9_open 70 = .ok (.istore 4, 2) := by decide +kernel
theorem dX9_open_72 : decode cX9_open 72 = .ok (.iconst 0, 1) := by decide +kernel
theorem dX9_open_73 : decode cX9_open 73 = .ok (.istore 5, 2) := by decide +kernel
theorem dX9_open_75 : decode cX9_open 75 = .ok (.iload 5, 2) := by decide +kernel
theorem dX9_open_77 : decode cX9_open 77 = .ok (.aload_n 0, 1) := by decide +kernel
theorem dX9_open_78 : decode cX9_open 78 = .ok (.getfield 19, 3) := by decide +kernel
theorem dX9_open_81 : decode cX9_open 81 = .ok (.getfield 32, 3) := by decide +kernel
theorem dX9_open_84 : decode cX9_open 84 = .ok (.if_icmp .ge 65, 3) := by decide +kernel
theorem dX9_open_87 : decode cX9_open 87 = .ok (.iload_n 3, 1) := by decide +kernel
theorem dX9_open_88 : decode cX9_open 88 = .ok (.iload 5, 2) := by decide +kernel
theorem dX9_open_90 : decode cX9_open 90 = .ok (.ishr, 1) := by decide +kernel
theorem dX9_open_91 : decode cX9_open 91 = .ok (.iconst 1, 1) := by decide +kernel
theorem dX9_open_92 : decode cX9_open 92 = .ok (.iand, 1) := by decide +kernel
theorem dX9_open_93 : decode cX9_open 93 = .ok (.iconst 1, 1) := by decide +kernel
theorem dX9_open_94 : decode cX9_open 94 = .ok (.if_icmp .ne 43, 3) := by decide +kernel
theorem dX9_open_97 : decode cX9_open 97 = .ok (.aload_n 0, 1) := by decide +kernel
theorem dX9_open_98 : decode cX9_open 98 = .ok (.getfield 9, 3) := by decide +kernel
theorem dX9_open_101 : decode cX9_open 101 = .ok (.iload_n 3, 1) := by decide +kernel
theorem dX9_open_102 : decode cX9_open 102 = .ok (.dup2, 1) := by decide +kernel
theorem dX9_open_103 : decode cX9_open 103 = .ok (.baload, 1) := by decide +kernel
theorem dX9_open_104 : decode cX9_open 104 = .ok (.aload_n 0, 1) := by decide +kernel
theorem dX9_open_105 : decode cX9_open 105 = .ok (.getfield 9, 3) := by decide +kernel
theorem dX9_open_108 : decode cX9_open 108 = .ok (.iload_n 3, 1) := by decide +kernel
theorem dX9_open_109 : decode cX9_open 109 = .ok (.iconst 1, 1) := by decide +kernel
theorem dX9_open_110 : decode cX9_open 110 = .ok (.iload 5, 2) := by decide +kernel
theorem dX9_open_112 : decode cX9_open 112 = .ok (.ishl, 1) := by decide +kernel
theorem dX9_open_113 : decode cX9_open 113 = .ok (.ixor, 1) := by decide +kernel
theorem dX9_open_114 : decode cX9_open 114 = .ok (.baload, 1) := by decide +kernel
theorem dX9_open_115 : decode cX9_open 115 = .ok (.ior, 1) := by decide +kernel
theorem dX9_open_116 : decode cX9_open 116 = .ok (.bastore, 1) := by decide +kernel
theorem dX9_open_117 : decode cX9_open 117 = .ok (.aload_n 0, 1) := by decide +kernel
theorem dX9_open_118 : decode cX9_open 118 = .ok (.getfield 15, 3) := by decide +kernel
theorem dX9_open_121 : decode cX9_open 121 = .ok (.iload_n 3, 1) := by decide +kernel
theorem dX9_open_122 : decode cX9_open 122 = .ok (.aload_n 0, 1) := by decide +kernel
theorem dX9_open_123 : decode cX9_open 123 = .ok (.getfield 15, 3) := by decide +kernel
theorem dX9_open_126 : decode cX9_open 126 = .ok (.iload_n 3, 1) := by decide +kernel
theorem dX9_open_127 : decode cX9_open 127 = .ok (.iconst 1, 1) := by decide +kernel
theorem dX9_open_128 : decode cX9_open 128 = .ok (.iload 5, 2) := by decide +kernel
theorem dX9_open_130 : decode cX9_open 130 = .ok (.ishl, 1) := by decide +kernel
theorem dX9_open_131 : decode cX9_open 131 = .ok (.ixor, 1) := by decide +kernel
theorem dX9_open_132 : decode cX9_open 132 = .ok (.iaload, 1) := by decide +kernel
theorem dX9_open_133 : decode cX9_open 133 = .ok (.iload 4, 2) := by decide +kernel
theorem dX9_open_135 : decode cX9_open 135 = .ok (.iadd, 1) := by decide +kernel
theorem dX9_open_136 : decode cX9_open 136 = .ok (.iastore, 1) := by decide +kernel
theorem dX9_open_137 : decode cX9_open 137 = .ok (.iload 4, 2) := by decide +kernel
theorem dX9_open_139 : decode cX9_open 139 = .ok (.iconst 3, 1) := by decide +kernel
theorem dX9_open_140 : decode cX9_open 140 = .ok (.imul, 1) := by decide +kernel
theorem dX9_open_141 : decode cX9_open 141 = .ok (.istore 4, 2) := by decide +kernel
theorem dX9_open_143 : decode cX9_open 143 = .ok (.iinc 5 1, 3) := by decide +kernel
theorem dX9_open_146 : decode cX9_open 146 = .ok (.goto (-71), 3) := by decide +kernel
theorem dX9_open_149 : decode cX9_open 149 = .ok (.iinc 3 1, 3) := by decide +kernel
theorem dX9_open_152 : decode cX9_open 152 = .ok (.goto (-118), 3) := by decide +kernel
theorem dX9_open_155 : decode cX9_open 155 = .ok (.return_, 1) := by decide +kernel
theorem dX9_firstComesTo_0 : decode cX9_firstComesTo 0 = .ok (.aload_n 0, 1) := by decide +kernel
theorem dX9_firstComesTo_1 : decode cX9_firstComesTo 1 = .ok (.iconst 0, 1) := by decide +kernel
theorem dX9_firstComesTo_2 : decode cX9_firstComesTo 2 = .ok (.iconst 0, 1) := by decide +kernel
theorem dX9_firstComesTo_3 : decode cX9_firstComesTo 3 = .ok (.aload_n 0, 1) := by decide +kernel
theorem dX9_firstComesTo_4 : decode cX9_firstComesTo 4 = .ok (.getfield 19, 3) := by decide +kernel
theorem dX9_firstComesTo_7 : decode cX9_firstComesTo 7 = .ok (.getfield 32, 3) := by decide +kernel
theorem dX9_firstComesTo_10 : decode cX9_firstComesTo 10 = .ok (.invokevirtual 47, 3) := by decide +kernel
theorem dX9_firstComesTo_13 : decode cX9_firstComesTo 13 = .ok (.ireturn, 1) := by decide +kernel
theorem dX9_leastBest_0 : decode cX9_leastBest 0 = .ok (.aload_n 0, 1) := by decide +kernel
theorem dX9_leastBest_1 : decode cX9_leastBest 1 = .ok (.invokevirtual 51, 3) := by decide +kernel
theorem dX9_leastBest_4 : decode cX9_leastBest 4 = .ok (.istore_n 1, 1) := by decide +kernel
theorem dX9_leastBest_5 : decode cX9_leastBest 5 = .ok (.iconst 0, 1) := by decide +kernel
theorem dX9_leastBest_6 : decode cX9_leastBest 6 = .ok (.istore_n 2, 1) := by decide +kernel
theorem dX9_leastBest_7 : decode cX9_leastBest 7 = .ok (.iload_n 2, 1) := by decide +kernel
theorem dX9_leastBest_8 : decode cX9_leastBest 8 = .ok (.aload_n 0, 1) := by decide +kernel
theorem dX9_leastBest_9 : decode cX9_leastBest 9 = .ok (.getfield 19, 3) := by decide +kernel
theorem dX9_leastBest_12 : decode cX9_leastBest 12 = .ok (.getfield 32, 3) := by decide +kernel
theorem dX9_leastBest_15 : decode cX9_leastBest 15 = .ok (.if_icmp .ge 29, 3) := by decide +kernel
theorem dX9_leastBest_18 : decode cX9_leastBest 18 = .ok (.aload_n 0, 1) := by decide +kernel
theorem dX9_leastBest_19 : decode cX9_leastBest 19 = .ok (.iload_n 2, 1) := by decide +kernel
theorem dX9_leastBest_20 : decode cX9_leastBest 20 = .ok (.iconst 0, 1) := by decide +kernel
theorem dX9_leastBest_21 : decode cX9_leastBest 21 = .ok (.iconst 0, 1) := by decide +kernel
theorem dX9_leastBest_22 : decode cX9_leastBest 22 = .ok (.aload_n 0, 1) := by decide +kernel
theorem dX9_leastBest_23 : decode cX9_leastBest 23 = .ok (.getfield 19, 3) := by decide +kernel
theorem dX9_leastBest_26 : decode cX9_leastBest 26 = .ok (.getfield 32, 3) := by decide +kernel
theorem dX9_leastBest_29 : decode cX9_leastBest 29 = .ok (.invokevirtual 55, 3) := by decide +kernel
theorem dX9_leastBest_32 : decode cX9_leastBest 32 = .ok (.iload_n 1, 1) := by decide +kernel
theorem dX9_leastBest_33 : decode cX9_leastBest 33 = .ok (.if_icmp .ne 5, 3) := by decide +kernel
theorem dX9_leastBest_36 : decode cX9_leastBest 36 = .ok (.iload_n 2, 1) := by decide +kernel
theorem dX9_leastBest_37 : decode cX9_leastBest 37 = .ok (.ireturn, 1) := by decide +kernel
theorem dX9_leastBest_38 : decode cX9_leastBest 38 = .ok (.iinc 2 1, 3) := by decide +kernel
theorem dX9_leastBest_41 : decode cX9_leastBest 41 = .ok (.goto (-34), 3) := by decide +kernel
theorem dX9_leastBest_44 : decode cX9_leastBest 44 = .ok (.iconst (-1), 1) := by decide +kernel
theorem dX9_leastBest_45 : decode cX9_leastBest 45 = .ok (.ireturn, 1) := by decide +kernel
theorem dX9_comesTo_0 : decode cX9_comesTo 0 = .ok (.iload_n 3, 1) := by decide +kernel
theorem dX9_comesTo_1 : decode cX9_comesTo 1 = .ok (.iconst 1, 1) := by decide +kernel
theorem dX9_comesTo_2 : decode cX9_comesTo 2 = .ok (.if_icmp .ge 5, 3) := by decide +kernel
theorem dX9_comesTo_5 : decode cX9_comesTo 5 = .ok (.iconst 0, 1) := by decide +kernel
theorem dX9_comesTo_6 : decode cX9_comesTo 6 = .ok (.ireturn, 1) := by decide +kernel
theorem dX9_comesTo_7 : decode cX9_comesTo 7 = .ok (.aload_n 0, 1) := by decide +kernel
theorem dX9_comesTo_8 : decode cX9_comesTo 8 = .ok (.getfield 15, 3) := by decide +kernel
theorem dX9_comesTo_11 : decode cX9_comesTo 11 = .ok (.iload_n 1, 1) := by decide +kernel
theorem dX9_comesTo_12 : decode cX9_comesTo 12 = .ok (.iaload, 1) := by decide +kernel
theorem dX9_comesTo_13 : decode cX9_comesTo 13 = .ok (.iconst 2, 1) := by decide +kernel
theorem dX9_comesTo_14 : decode cX9_comesTo 14 = .ok (.aload_n 0, 1) := by decide +kernel
theorem dX9_comesTo_15 : decode cX9_comesTo 15 = .ok (.getfield 15, 3) := by decide +kernel
theorem dX9_comesTo_18 : decode cX9_comesTo 18 = .ok (.iload_n 2, 1) := by decide +kernel
theorem dX9_comesTo_19 : decode cX9_comesTo 19 = .ok (.iaload, 1) := by decide +kernel
theorem dX9_comesTo_20 : decode cX9_comesTo 20 = .ok (.imul, 1) := by decide +kernel
theorem dX9_comesTo_21 : decode cX9_comesTo 21 = .ok (.iadd, 1) := by decide +kernel
theorem dX9_comesTo_22 : decode cX9_comesTo 22 = .ok (.istore 4, 2) := by decide +kernel
theorem dX9_comesTo_24 : decode cX9_comesTo 24 = .ok (.aload_n 0, 1) := by decide +kernel
theorem dX9_comesTo_25 : decode cX9_comesTo 25 = .ok (.getfield 23, 3) := by decide +kernel
theorem dX9_comesTo_28 : decode cX9_comesTo 28 = .ok (.iload 4, 2) := by decide +kernel
theorem dX9_comesTo_30 : decode cX9_comesTo 30 = .ok (.iaload, 1) := by decide +kernel
theorem dX9_comesTo_31 : decode cX9_comesTo 31 = .ok (.ifCond .ne 19, 3) := by decide +kernel
theorem dX9_comesTo_34 : decode cX9_comesTo 34 = .ok (.aload_n 0, 1) := by decide +kernel
theorem dX9_comesTo_35 : decode cX9_comesTo 35 = .ok (.getfield 23, 3) := by decide +kernel
theorem dX9_comesTo_38 : decode cX9_comesTo 38 = .ok (.iload 4, 2) := by decide +kernel
theorem dX9_comesTo_40 : decode cX9_comesTo 40 = .ok (.iconst 2, 1) := by decide +kernel
theorem dX9_comesTo_41 : decode cX9_comesTo 41 = .ok (.aload_n 0, 1) := by decide +kernel
theorem dX9_comesTo_42 : decode cX9_comesTo 42 = .ok (.iload_n 1, 1) := by decide +kernel
theorem dX9_comesTo_43 : decode cX9_comesTo 43 = .ok (.iload_n 2, 1) := by decide +kernel
theorem dX9_comesTo_44 : decode cX9_comesTo 44 = .ok (.iload_n 3, 1) := by decide +kernel
theorem dX9_comesTo_45 : decode cX9_comesTo 45 = .ok (.invokevirtual 59, 3) := by decide +kernel
theorem dX9_comesTo_48 : decode cX9_comesTo 48 = .ok (.iadd, 1) := by decide +kernel
theorem dX9_comesTo_49 : decode cX9_comesTo 49 = .ok (.iastore, 1) := by decide +kernel
theorem dX9_comesTo_50 : decode cX9_comesTo 50 = .ok (.aload_n 0, 1) := by decide +kernel
theorem dX9_comesTo_51 : decode cX9_comesTo 51 = .ok (.getfield 23, 3) := by decide +kernel
theorem dX9_comesTo_54 : decode cX9_comesTo 54 = .ok (.iload 4, 2) := by decide +kernel
theorem dX9_comesTo_56 : decode cX9_comesTo 56 = .ok (.iaload, 1) := by decide +kernel
theorem dX9_comesTo_57 : decode cX9_comesTo 57 = .ok (.iconst 2, 1) := by decide +kernel
theorem dX9_comesTo_58 : decode cX9_comesTo 58 = .ok (.isub, 1) := by decide +kernel
theorem dX9_comesTo_59 : decode cX9_comesTo 59 = .ok (.ireturn, 1) := by decide +kernel
theorem dX9_bestOf_0 : decode cX9_bestOf 0 = .ok (.iconst (-1), 1) := by decide +kernel
theorem dX9_bestOf_1 : decode cX9_bestOf 1 = .ok (.istore 4, 2) := by decide +kernel
theorem dX9_bestOf_3 : decode cX9_bestOf 3 = .ok (.iconst 0, 1) := by decide +kernel
theorem dX9_bestOf_4 : decode cX9_bestOf 4 = .ok (.istore 5, 2) := by decide +kernel
theorem dX9_bestOf_6 : decode cX9_bestOf 6 = .ok (.iload 5, 2) := by decide +kernel
theorem dX9_bestOf_8 : decode cX9_bestOf 8 = .ok (.aload_n 0, 1) := by decide +kernel
theorem dX9_bestOf_9 : decode cX9_bestOf 9 = .ok (.getfield 19, 3) := by decide +kernel
theorem dX9_bestOf_12 : decode cX9_bestOf 12 = .ok (.getfield 32, 3) := by decide +kernel
theorem dX9_bestOf_15 : decode cX9_bestOf 15 = .ok (.if_icmp .ge 42, 3) := by decide +kernel
theorem dX9_bestOf_18 : decode cX9_bestOf 18 = .ok (.iload 4, 2) := by decide +kernel
theorem dX9_bestOf_20 : decode cX9_bestOf 20 = .ok (.iconst 1, 1) := by decide +kernel
theorem dX9_bestOf_21 : decode cX9_bestOf 21 = .ok (.if_icmp .ge 36, 3) := by decide +kernel
theorem dX9_bestOf_24 : decode cX9_bestOf 24 = .ok (.iload_n 1, 1) := by decide +kernel
theorem dX9_bestOf_25 : decode cX9_bestOf 25 = .ok (.iload_n 2, 1) := by decide +kernel
theorem dX9_bestOf_26 : decode cX9_bestOf 26 = .ok (.ior, 1) := by decide +kernel
theorem dX9_bestOf_27 : decode cX9_bestOf 27 = .ok (.iload 5, 2) := by decide +kernel
theorem dX9_bestOf_29 : decode cX9_bestOf 29 = .ok (.ishr, 1) := by decide +kernel
theorem dX9_bestOf_30 : decode cX9_bestOf 30 = .ok (.iconst 1, 1) := by decide +kernel
theorem dX9_bestOf_31 : decode cX9_bestOf 31 = .ok (.iand, 1) := by decide +kernel
theorem dX9_bestOf_32 : decode cX9_bestOf 32 = .ok (.ifCond .ne 19, 3) := by decide +kernel
theorem dX9_bestOf_35 : decode cX9_bestOf 35 = .ok (.iload 4, 2) := by decide +kernel
theorem dX9_bestOf_37 : decode cX9_bestOf 37 = .ok (.aload_n 0, 1) := by decide +kernel
theorem dX9_bestOf_38 : decode cX9_bestOf 38 = .ok (.iload 5, 2) := by decide +kernel
theorem dX9_bestOf_40 : decode cX9_bestOf 40 = .ok (.iload_n 1, 1) := by decide +kernel
theorem dX9_bestOf_41 : decode cX9_bestOf 41 = .ok (.iload_n 2, 1) := by decide +kernel
theorem dX9_bestOf_42 : decode cX9_bestOf 42 = .ok (.iload_n 3, 1) := by decide +kernel
theorem dX9_bestOf_43 : decode cX9_bestOf 43 = .ok (.invokevirtual 55, 3) := by decide +kernel
theorem dX9_bestOf_46 : decode cX9_bestOf 46 = .ok (.invokestatic 62, 3) := by decide +kernel
theorem dX9_bestOf_49 : decode cX9_bestOf 49 = .ok (.istore 4, 2) := by decide +kernel
theorem dX9_bestOf_51 : decode cX9_bestOf 51 = .ok (.iinc 5 1, 3) := by decide +kernel
theorem dX9_bestOf_54 : decode cX9_bestOf 54 = .ok (.goto (-48), 3) := by decide +kernel
theorem dX9_bestOf_57 : decode cX9_bestOf 57 = .ok (.iload 4, 2) := by decide +kernel
theorem dX9_bestOf_59 : decode cX9_bestOf 59 = .ok (.ireturn, 1) := by decide +kernel
theorem dX9_afterTaking_0 : decode cX9_afterTaking 0 = .ok (.iload_n 2, 1) := by decide +kernel
theorem dX9_afterTaking_1 : decode cX9_afterTaking 1 = .ok (.iconst 1, 1) := by decide +kernel
theorem dX9_afterTaking_2 : decode cX9_afterTaking 2 = .ok (.iload_n 1, 1) := by decide +kernel
theorem dX9_afterTaking_3 : decode cX9_afterTaking 3 = .ok (.ishl, 1) := by decide +kernel
theorem dX9_afterTaking_4 : decode cX9_afterTaking 4 = .ok (.ior, 1) := by decide +kernel
theorem dX9_afterTaking_5 : decode cX9_afterTaking 5 = .ok (.istore 5, 2) := by decide +kernel
theorem dX9_afterTaking_7 : decode cX9_afterTaking 7 = .ok (.aload_n 0, 1) := by decide +kernel
theorem dX9_afterTaking_8 : decode cX9_afterTaking 8 = .ok (.getfield 9, 3) := by decide +kernel
theorem dX9_afterTaking_11 : decode cX9_afterTaking 11 = .ok (.iload 5, 2) := by decide +kernel
theorem dX9_afterTaking_13 : decode cX9_afterTaking 13 = .ok (.baload, 1) := by decide +kernel
theorem dX9_afterTaking_14 : decode cX9_afterTaking 14 = .ok (.ifCond .eq 7, 3) := by decide +kernel
theorem dX9_afterTaking_17 : decode cX9_afterTaking 17 = .ok (.iconst 1, 1) := by decide +kernel
theorem dX9_afterTaking_18 : decode cX9_afterTaking 18 = .ok (.goto 15, 3) := by decide +kernel
theorem dX9_afterTaking_21 : decode cX9_afterTaking 21 = .ok (.aload_n 0, 1) := by decide +kernel
theorem dX9_afterTaking_22 : decode cX9_afterTaking 22 = .ok (.iload_n 3, 1) := by decide +kernel
theorem dX9_afterTaking_23 : decode cX9_afterTaking 23 = .ok (.iload 5, 2) := by decide +kernel
theorem dX9_afterTaking_25 : decode cX9_afterTaking 25 = .ok (.iload 4, 2) := by decide +kernel
theorem dX9_afterTaking_27 : decode cX9_afterTaking 27 = .ok (.iconst 1, 1) := by decide +kernel
theorem dX9_afterTaking_28 : decode cX9_afterTaking 28 = .ok (.isub, 1) := by decide +kernel
theorem dX9_afterTaking_29 : decode cX9_afterTaking 29 = .ok (.invokevirtual 47, 3) := by decide +kernel
theorem dX9_afterTaking_32 : decode cX9_afterTaking 32 = .ok (.ineg, 1) := by decide +kernel
theorem dX9_afterTaking_33 : decode cX9_afterTaking 33 = .ok (.ireturn, 1) := by decide +kernel
theorem dX10_init_0 : decode cX10_init 0 = .ok (.aload_n 0, 1) := by decide +kernel
theorem dX10_init_1 : decode cX10_init 1 = .ok (.invokespecial 3, 3) := by decide +kernel
theorem dX10_init_4 : decode cX10_init 4 = .ok (.aload_n 0, 1) := by decide +kernel
theorem dX10_init_5 : decode cX10_init 5 = .ok (.iconst 5, 1) := by decide +kernel
theorem dX10_init_6 : decode cX10_init 6 = .ok (.newarray .long, 2) := by decide +kernel
theorem dX10_init_8 : decode cX10_init 8 = .ok (.putfield 9, 3) := by decide +kernel
theorem dX10_init_11 : decode cX10_init 11 = .ok (.aload_n 0, 1) := by decide +kernel
theorem dX10_init_12 : decode cX10_init 12 = .ok (.iconst 2, 1) := by decide +kernel
theorem dX10_init_13 : decode cX10_init 13 = .ok (.putfield 15, 3) := by decide +kernel
theorem dX10_init_16 : decode cX10_init 16 = .ok (.aload_n 0, 1) := by decide +kernel
theorem dX10_init_17 : decode cX10_init 17 = .ok (.iconst 1, 1) := by decide +kernel
theorem dX10_init_18 : decode cX10_init 18 = .ok (.putfield 19, 3) := by decide +kernel
theorem dX10_init_21 : decode cX10_init 21 = .ok (.aload_n 0, 1) := by decide +kernel
theorem dX10_init_22 : decode cX10_init 22 = .ok (.iconst 0, 1) := by decide +kernel
theorem dX10_init_23 : decode cX10_init 23 = .ok (.putfield 22, 3) := by decide +kernel
theorem dX10_init_26 : decode cX10_init 26 = .ok (.aload_n 0, 1) := by decide +kernel
theorem dX10_init_27 : decode cX10_init 27 = .ok (.iconst 0, 1) := by decide +kernel
theorem dX10_init_28 : decode cX10_init 28 = .ok (.putfield 25, 3) := by decide +kernel
theorem dX10_init_31 : decode cX10_init 31 = .ok (.aload_n 0, 1) := by decide +kernel
theorem dX10_init_32 : decode cX10_init 32 = .ok (.iconst (-1), 1) := by decide +kernel
theorem dX10_init_33 : decode cX10_init 33 = .ok (.putfield 28, 3) := by decide +kernel
theorem dX10_init_36 : decode cX10_init 36 = .ok (.return_, 1) := by decide +kernel
theorem dX10_isAlways_0 : decode cX10_isAlways 0 = .ok (.aload_n 0, 1) := by decide +kernel
theorem dX10_isAlways_1 : decode cX10_isAlways 1 = .ok (.iload_n 1, 1) := by decide +kernel
theorem dX10_isAlways_2 : decode cX10_isAlways 2 = .ok (.iload_n 2, 1) := by decide +kernel
theorem dX10_isAlways_3 : decode cX10_isAlways 3 = .ok (.iload_n 3, 1) := by decide +kernel
theorem dX10_isAlways_4 : decode cX10_isAlways 4 = .ok (.iconst 0, 1) := by decide +kernel
theorem dX10_isAlways_5 : decode cX10_isAlways 5 = .ok (.invokevirtual 31, 3) := by decide +kernel
theorem dX10_isAlways_8 : decode cX10_isAlways 8 = .ok (.iconst (-1), 1) := by decide +kernel
theorem dX10_isAlways_9 : decode cX10_isAlways 9 = .ok (.if_icmp .ne 7, 3) := by decide +kernel
theorem dX10_isAlways_12 : decode cX10_isAlways 12 = .ok (.iconst 1, 1) := by decide +kernel
theorem dX10_isAlways_13 : decode cX10_isAlways 13 = .ok (.goto 4, 3) := by decide +kernel
theorem dX10_isAlways_16 : decode cX10_isAlways 16 = .ok (.iconst 0, 1) := by decide +kernel
theorem dX10_isAlways_17 : decode cX10_isAlways 17 = .ok (.ireturn, 1) := by decide +kernel
theorem dX10_howMany_0 : decode cX10_howMany 0 = .ok (.aload_n 0, 1) := by decide +kernel
theorem dX10_howMany_1 : decode cX10_howMany 1 = .ok (.iload_n 1, 1) := by decide +kernel
theorem dX10_howMany_2 : decode cX10_howMany 2 = .ok (.iload_n 2, 1) := by decide +kernel
theorem dX10_howMany_3 : decode cX10_howMany 3 = .ok (.iload_n 3, 1) := by decide +kernel
theorem dX10_howMany_4 : decode cX10_howMany 4 = .ok (.ldc 35, 2) := by decide +kernel
theorem dX10_howMany_6 : decode cX10_howMany 6 = .ok (.invokevirtual 31, 3) := by decide +kernel
theorem dX10_howMany_9 : decode cX10_howMany 9 = .ok (.pop, 1) := by decide +kernel
theorem dX10_howMany_10 : decode cX10_howMany 10 = .ok (.aload_n 0, 1) := by decide +kernel
theorem dX10_howMany_11 : decode cX10_howMany 11 = .ok (.getfield 25, 3) := by decide +kernel
theorem dX10_howMany_14 : decode cX10_howMany 14 = .ok (.ireturn, 1) := by decide +kernel
theorem dX10_without_0 : decode cX10_without 0 = .ok (.aload_n 0, 1) := by decide +kernel
theorem dX10_without_1 : decode cX10_without 1 = .ok (.iload_n 1, 1) := by decide +kernel
theorem dX10_without_2 : decode cX10_without 2 = .ok (.putfield 15, 3) := by decide +kernel
theorem dX10_without_5 : decode cX10_without 5 = .ok (.aload_n 0, 1) := by decide +kernel
theorem dX10_without_6 : decode cX10_without 6 = .ok (.iload_n 3, 1) := by decide +kernel
theorem dX10_without_7 : decode cX10_without 7 = .ok (.putfield 19, 3) := by decide +kernel
theorem dX10_without_10 : decode cX10_without 10 = .ok (.aload_n 0, 1) := by decide +kernel
theorem dX10_without_11 : decode cX10_without 11 = .ok (.iload 4, 2) := by decide +kernel
theorem dX10_without_13 : decode cX10_without 13 = .ok (.putfield 22, 3) := by decide +kernel
theorem dX10_without_16 : decode cX10_without 16 = .ok (.aload_n 0, 1) := by decide +kernel
theorem dX10_without_17 : decode cX10_without 17 = .ok (.iconst 0, 1) := by decide +kernel
theorem dX10_without_18 : decode cX10_without 18 = .ok (.putfield 25, 3) := by decide +kernel
theorem dX10_without_21 : decode cX10_without 21 = .ok (.aload_n 0, 1) := by decide +kernel
theorem dX10_without_22 : decode cX10_without 22 = .ok (.iconst (-1), 1) := by decide +kernel
theorem dX10_without_23 : decode cX10_without 23 = .ok (.putfield 28, 3) := by decide +kernel
theorem dX10_without_26 : decode cX10_without 26 = .ok (.aload_n 0, 1) := by decide +kernel
theorem dX10_without_27 : decode cX10_without 27 = .ok (.invokevirtual 36, 3) := by decide +kernel
theorem dX10_without_30 : decode cX10_without 30 = .ok (.aload_n 0, 1) := by decide +kernel
theorem dX10_without_31 : decode cX10_without 31 = .ok (.aload_n 0, 1) := by decide +kernel
theorem dX10_without_32 : decode cX10_without 32 = .ok (.getfield 15, 3) := by decide +kernel
theorem dX10_without_35 : decode cX10_without 35 = .ok (.iconst 1, 1) := by decide +kernel
theorem dX10_without_36 : decode cX10_without 36 = .ok (.isub, 1) := by decide +kernel
theorem dX10_without_37 : decode cX10_without 37 = .ok (.iload_n 2, 1) := by decide +kernel
theorem dX10_without_38 : decode cX10_without 38 = .ok (.iconst 0, 1) := by decide +kernel
theorem dX10_without_39 : decode cX10_without 39 = .ok (.lconst 1, 1) := by decide +kernel
theorem dX10_without_40 : decode cX10_without 40 = .ok (.invokevirtual 39, 3) := by decide +kernel
theorem dX10_without_43 : decode cX10_without 43 = .ok (.aload_n 0, 1) := by decide +kernel
theorem dX10_without_44 : decode cX10_without 44 = .ok (.getfield 28, 3) := by decide +kernel
theorem dX10_without_47 : decode cX10_without 47 = .ok (.ireturn, 1) := by decide +kernel
theorem dX10_fillStaying_0 : decode cX10_fillStaying 0 = .ok (.iconst 0, 1) := by decide +kernel
theorem dX10_fillStaying_1 : decode cX10_fillStaying 1 = .ok (.istore_n 1, 1) := by decide +kernel
theorem dX10_fillStaying_2 : decode cX10_fillStaying 2 = .ok (.iload_n 1, 1) := by decide +kernel
theorem dX10_fillStaying_3 : decode cX10_fillStaying 3 = .ok (.aload_n 0, 1) := by decide +kernel
theorem dX10_fillStaying_4 : decode cX10_fillStaying 4 = .ok (.getfield 15, 3) := by decide +kernel
theorem dX10_fillStaying_7 : decode cX10_fillStaying 7 = .ok (.if_icmp .ge 63, 3) := by decide +kernel
theorem dX10_fillStaying_10 : decode cX10_fillStaying 10 = .ok (.lconst 1, 1) := by decide +kernel
theorem dX10_fillStaying_11 : decode cX10_fillStaying 11 = .ok (.aload_n 0, 1) := by decide +kernel
theorem dX10_fillStaying_12 : decode cX10_fillStaying 12 = .ok (.getfield 15, 3) := by decide +kernel
theorem dX10_fillStaying_15 : decode cX10_fillStaying 15 = .ok (.iload_n 1, 1) := by decide +kernel
theorem dX10_fillStaying_16 : decode cX10_fillStaying 16 = .ok (.isub, 1) := by decide +kernel
theorem dX10_fillStaying_17 : decode cX10_fillStaying 17 = .ok (.lshl, 1) := by decide +kernel
theorem dX10_fillStaying_18 : decode cX10_fillStaying 18 = .ok (.lconst 1, 1) := by decide +kernel
theorem dX10_fillStaying_19 : decode cX10_fillStaying 19 = .ok (.lsub, 1) := by decide +kernel
theorem dX10_fillStaying_20 : decode cX10_fillStaying 20 = .ok (.lstore_n 2, 1) := by decide +kernel
theorem dX10_fillStaying_21 : decode cX10_fillStaying 21 = .ok (.aload_n 0, 1) := by decide +kernel
theorem dX10_fillStaying_22 : decode cX10_fillStaying 22 = .ok (.getfield 9, 3) := by decide +kernel
theorem dX10_fillStaying_25 : decode cX10_fillStaying 25 = .ok (.iload_n 1, 1) := by decide +kernel
theorem dX10_fillStaying_26 : decode cX10_fillStaying 26 = .ok (.lconst 0, 1) := by decide +kernel
theorem dX10_fillStaying_27 : decode cX10_fillStaying 27 = .ok (.lastore, 1) := by decide +kernel
theorem dX10_fillStaying_28 : decode cX10_fillStaying 28 = .ok (.iconst 0, 1) := by decide +kernel
theorem dX10_fillStaying_29 : decode cX10_fillStaying 29 = .ok (.istore 4, 2) := by decide +kernel
theorem dX10_fillStaying_31 : decode cX10_fillStaying 31 = .ok (.iload 4, 2) := by decide +kernel
theorem dX10_fillStaying_33 : decode cX10_fillStaying 33 = .ok (.aload_n 0, 1) := by decide +kernel
theorem dX10_fillStaying_34 : decode cX10_fillStaying 34 = .ok (.getfield 19, 3) := by decide +kernel
theorem dX10_fillStaying_37 : decode cX10_fillStaying 37 = .ok (.if_icmp .gt 27, 3) := by decide +kernel
theorem dX10_fillStaying_40 : decode cX10_fillStaying 40 = .ok (.aload_n 0, 1) := by decide +kernel
theorem dX10_fillStaying_41 : decode cX10_fillStaying 41 = .ok (.getfield 9, 3) := by decide +kernel
theorem dX10_fillStaying_44 : decode cX10_fillStaying 44 = .ok (.iload_n 1, 1) := by decide +kernel
theorem dX10_fillStaying_45 : decode cX10_fillStaying 45 = .ok (.dup2, 1) := by decide +kernel
theorem dX10_fillStaying_46 : decode cX10_fillStaying 46 = .ok (.laload, 1) := by decide +kernel
theorem dX10_fillStaying_47 : decode cX10_fillStaying 47 = .ok (.lload_n 2, 1) := by decide +kernel
theorem dX10_fillStaying_48 : decode cX10_fillStaying 48 = .ok (.iload 4, 2) := by decide +kernel
theorem dX10_fillStaying_50 : decode cX10_fillStaying 50 = .ok (.aload_n 0, 1) := by decide +kernel
theorem dX10_fillStaying_51 : decode cX10_fillStaying 51 = .ok (.getfield 15, 3) := by decide +kernel
theorem dX10_fillStaying_54 : decode cX10_fillStaying 54 = .ok (.imul, 1) := by decide +kernel
theorem dX10_fillStaying_55 : decode cX10_fillStaying 55 = .ok (.lshl, 1) := by decide +kernel
theorem dX10_fillStaying_56 : decode cX10_fillStaying 56 = .ok (.lor, 1) := by decide +kernel
theorem dX10_fillStaying_57 : decode cX10_fillStaying 57 = .ok (.lastore, 1) := by decide +kernel
theorem dX10_fillStaying_58 : decode cX10_fillStaying 58 = .ok (.iinc 4 1, 3) := by decide +kernel
theorem dX10_fillStaying_61 : decode cX10_fillStaying 61 = .ok (.goto (-30), 3) := by decide +kernel
theorem dX10_fillStaying_64 : decode cX10_fillStaying 64 = .ok (.iinc 1 1, 3) := by decide +kernel
theorem dX10_fillStaying_67 : decode cX10_fillStaying 67 = .ok (.goto (-65), 3) := by decide +kernel
theorem dX10_fillStaying_70 : decode cX10_fillStaying 70 = .ok (.return_, 1) := by decide +kernel
theorem dX10_hand_0 : decode cX10_hand 0 = .ok (.aload_n 0, 1) := by decide +kernel
theorem dX10_hand_1 : decode cX10_hand 1 = .ok (.getfield 25, 3) := by decide +kernel
theorem dX10_hand_4 : decode cX10_hand 4 = .ok (.aload_n 0, 1) := by decide +kernel
theorem dX10_hand_5 : decode cX10_hand 5 = .ok (.getfield 22, 3) := by decide +kernel
theorem dX10_hand_8 : decode cX10_hand 8 = .ok (.if_icmp .le 4, 3) := by decide +kernel
theorem dX10_hand_11 : decode cX10_hand 11 = .ok (.return_, 1) := by decide +kernel
theorem dX10_hand_12 : decode cX10_hand 12 = .ok (.iload_n 1, 1) := by decide +kernel
theorem dX10_hand_13 : decode cX10_hand 13 = .ok (.iconst 1, 1) := by decide +kernel
theorem dX10_hand_14 : decode cX10_hand 14 = .ok (.if_icmp .ge 12, 3) := by decide +kernel
theorem dX10_hand_17 : decode cX10_hand 17 = .ok (.aload_n 0, 1) := by decide +kernel
theorem dX10_hand_18 : decode cX10_hand 18 = .ok (.iload_n 2, 1) := by decide +kernel
theorem dX10_hand_19 : decode cX10_hand 19 = .ok (.iload_n 3, 1) := by decide +kernel
theorem dX10_hand_20 : decode cX10_hand 20 = .ok (.lload 4, 2) := by decide +kernel
theorem dX10_hand_22 : decode cX10_hand 22 = .ok (.invokevirtual 43, 3) := by decide +kernel
theorem dX10_hand_25 : decode cX10_hand 25 = .ok (.return_, 1) := by decide +kernel
theorem dX10_hand_26 : decode cX10_hand 26 = .ok (.lload 4, 2) := by decide +kernel
theorem dX10_hand_28 : decode cX10_hand 28 = .ok (.lstore 6, 2) := by decide +kernel
theorem dX10_hand_30 : decode cX10_hand 30 = .ok (.iconst 0, 1) := by decide +kernel
theorem dX10_hand_31 : decode cX10_hand 31 = .ok (.istore 8, 2) := by decide +kernel
theorem dX10_hand_33 : decode cX10_hand 33 = .ok (.iload 8, 2) := by decide +kernel
theorem dX10_hand_35 : decode cX10_hand 35 = .ok (.iload_n 2, 1) := by decide +kernel
theorem dX10_hand_36 : decode cX10_hand 36 = .ok (.if_icmp .gt 47, 3) := by decide +kernel
theorem dX10_hand_39 : decode cX10_hand 39 = .ok (.aload_n 0, 1) := by decide +kernel
theorem dX10_hand_40 : decode cX10_hand 40 = .ok (.lload 6, 2) := by decide +kernel
theorem dX10_hand_42 : decode cX10_hand 42 = .ok (.invokevirtual 47, 3) := by decide +kernel
theorem dX10_hand_45 : decode cX10_hand 45 = .ok (.ifCond .ne 38, 3) := by decide +kernel
theorem dX10_hand_48 : decode cX10_hand 48 = .ok (.aload_n 0, 1) := by decide +kernel
theorem dX10_hand_49 : decode cX10_hand 49 = .ok (.iload_n 1, 1) := by decide +kernel
theorem dX10_hand_50 : decode cX10_hand 50 = .ok (.iconst 1, 1) := by decide +kernel
theorem dX10_hand_51 : decode cX10_hand 51 = .ok (.isub, 1) := by decide +kernel
theorem dX10_hand_52 : decode cX10_hand 52 = .ok (.iload_n 2, 1) := by decide +kernel
theorem dX10_hand_53 : decode cX10_hand 53 = .ok (.iload 8, 2) := by decide +kernel
theorem dX10_hand_55 : decode cX10_hand 55 = .ok (.isub, 1) := by decide +kernel
theorem dX10_hand_56 : decode cX10_hand 56 = .ok (.iload_n 3, 1) := by decide +kernel
theorem dX10_hand_57 : decode cX10_hand 57 = .ok (.bipush 10, 2) := by decide +kernel
theorem dX10_hand_59 : decode cX10_hand 59 = .ok (.imul, 1) := by decide +kernel
theorem dX10_hand_60 : decode cX10_hand 60 = .ok (.iload 8, 2) := by decide +kernel
theorem dX10_hand_62 : decode cX10_hand 62 = .ok (.iadd, 1) := by decide +kernel
theorem dX10_hand_63 : decode cX10_hand 63 = .ok (.lload 6, 2) := by decide +kernel
theorem dX10_hand_65 : decode cX10_hand 65 = .ok (.invokevirtual 39, 3) := by decide +kernel
theorem dX10_hand_68 : decode cX10_hand 68 = .ok (.aload_n 0, 1) := by decide +kernel
theorem dX10_hand_69 : decode cX10_hand 69 = .ok (.lload 6, 2) := by decide +kernel
theorem dX10_hand_71 : decode cX10_hand 71 = .ok (.iload_n 1, 1) := by decide +kernel
theorem dX10_hand_72 : decode cX10_hand 72 = .ok (.invokevirtual 51, 3) := by decide +kernel
theorem dX10_hand_75 : decode cX10_hand 75 = .ok (.lstore 6, 2) := by decide +kernel
theorem dX10_hand_77 : decode cX10_hand 77 = .ok (.iinc 8 1, 3) := by decide +kernel
theorem dX10_hand_80 : decode cX10_hand 80 = .ok (.goto (-47), 3) := by decide +kernel
theorem dX10_hand_83 : decode cX10_hand 83 = .ok (.return_, 1) := by decide +kernel
theorem dX10_handLast_0 : decode cX10_handLast 0 = .ok (.lload_n 3, 1) := by decide +kernel
theorem dX10_handLast_1 : decode cX10_handLast 1 = .ok (.lstore 5, 2) := by decide +kernel
theorem dX10_handLast_3 : decode cX10_handLast 3 = .ok (.iconst 0, 1) := by decide +kernel
theorem dX10_handLast_4 : decode cX10_handLast 4 = .ok (.istore 7, 2) := by decide +kernel
theorem dX10_handLast_6 : decode cX10_handLast 6 = .ok (.iload 7, 2) := by decide +kernel
theorem dX10_handLast_8 : decode cX10_handLast 8 = .ok (.iload_n 1, 1) := by decide +kernel
theorem dX10_handLast_9 : decode cX10_handLast 9 = .ok (.if_icmp .ge 18, 3) := by decide +kernel
theorem dX10_handLast_12 : decode cX10_handLast 12 = .ok (.aload_n 0, 1) := by decide +kernel
theorem dX10_handLast_13 : decode cX10_handLast 13 = .ok (.lload 5, 2) := by decide +kernel
theorem dX10_handLast_15 : decode cX10_handLast 15 = .ok (.iconst 0, 1) := by decide +kernel
theorem dX10_handLast_16 : decode cX10_handLast 16 = .ok (.invokevirtual 51, 3) := by decide +kernel
theorem dX10_handLast_19 : decode cX10_handLast 19 = .ok (.lstore 5, 2) := by decide +kernel
theorem dX10_handLast_21 : decode cX10_handLast 21 = .ok (.iinc 7 1, 3) := by decide +kernel
theorem dX10_handLast_24 : decode cX10_handLast 24 = .ok (.goto (-18), 3) := by decide +kernel
theorem dX10_handLast_27 : decode cX10_handLast 27 = .ok (.aload_n 0, 1) := by decide +kernel
theorem dX10_handLast_28 : decode cX10_handLast 28 = .ok (.lload 5, 2) := by decide +kernel
theorem dX10_handLast_30 : decode cX10_handLast 30 = .ok (.invokevirtual 47, 3) := by decide +kernel
theorem dX10_handLast_33 : decode cX10_handLast 33 = .ok (.ifCond .eq 4, 3) := by decide +kernel
theorem dX10_handLast_36 : decode cX10_handLast 36 = .ok (.return_, 1) := by decide +kernel
theorem dX10_handLast_37 : decode cX10_handLast 37 = .ok (.aload_n 0, 1) := by decide +kernel
theorem dX10_handLast_38 : decode cX10_handLast 38 = .ok (.getfield 25, 3) := by decide +kernel
theorem dX10_handLast_41 : decode cX10_handLast 41 = .ok (.aload_n 0, 1) := by decide +kernel
theorem dX10_handLast_42 : decode cX10_handLast 42 = .ok (.getfield 22, 3) := by decide +kernel
theorem dX10_handLast_45 : decode cX10_handLast 45 = .ok (.if_icmp .ne 13, 3) := by decide +kernel
theorem dX10_handLast_48 : decode cX10_handLast 48 = .ok (.aload_n 0, 1) := by decide +kernel
theorem dX10_handLast_49 : decode cX10_handLast 49 = .ok (.iload_n 2, 1) := by decide +kernel
theorem dX10_handLast_50 : decode cX10_handLast 50 = .ok (.bipush 10, 2) := by decide +kernel
theorem dX10_handLast_52 : decode cX10_handLast 52 = .ok (.imul, 1) := by decide +kernel
theorem dX10_handLast_53 : decode cX10_handLast 53 = .ok (.iload_n 1, 1) := by decide +kernel
theorem dX10_handLast_54 : decode cX10_handLast 54 = .ok (.iadd, 1) := by decide +kernel
theorem dX10_handLast_55 : decode cX10_handLast 55 = .ok (.putfield 28, 3) := by decide +kernel
theorem dX10_handLast_58 : decode cX10_handLast 58 = .ok (.aload_n 0, 1) := by decide +kernel
theorem dX10_handLast_59 : decode cX10_handLast 59 = .ok (.dup, 1) := by decide +kernel
theorem dX10_handLast_60 : decode cX10_handLast 60 = .ok (.getfield 25, 3) := by decide +kernel
theorem dX10_handLast_63 : decode cX10_handLast 63 = .ok (.iconst 1, 1) := by decide +kernel
theorem dX10_handLast_64 : decode cX10_handLast 64 = .ok (.iadd, 1) := by decide +kernel
theorem dX10_handLast_65 : decode cX10_handLast 65 = .ok (.putfield 25, 3) := by decide +kernel
theorem dX10_handLast_68 : decode cX10_handLast 68 = .ok (.return_, 1) := by decide +kernel
theorem dX10_withOneMore_0 : decode cX10_withOneMore 0 = .ok (.lload_n 1, 1) := by decide +kernel
theorem dX10_withOneMore_1 : decode cX10_withOneMore 1 = .ok (.aload_n 0, 1) := by decide +kernel
theorem dX10_withOneMore_2 : decode cX10_withOneMore 2 = .ok (.getfield 9, 3) := by decide +kernel
theorem dX10_withOneMore_5 : decode cX10_withOneMore 5 = .ok (.iload_n 3, 1) := by decide +kernel
theorem dX10_withOneMore_6 : decode cX10_withOneMore 6 = .ok (.laload, 1) := by decide +kernel
theorem dX10_withOneMore_7 : decode cX10_withOneMore 7 = .ok (.land, 1) := by decide +kernel
theorem dX10_withOneMore_8 : decode cX10_withOneMore 8 = .ok (.iload_n 3, 1) := by decide +kernel
theorem dX10_withOneMore_9 : decode cX10_withOneMore 9 = .ok (.lshl, 1) := by decide +kernel
theorem dX10_withOneMore_10 : decode cX10_withOneMore 10 = .ok (.lstore 4, 2) := by decide +kernel
theorem dX10_withOneMore_12 : decode cX10_withOneMore 12 = .ok (.lload_n 1, 1) := by decide +kernel
theorem dX10_withOneMore_13 : decode cX10_withOneMore 13 = .ok (.aload_n 0, 1) := by decide +kernel
theorem dX10_withOneMore_14 : decode cX10_withOneMore 14 = .ok (.getfield 9, 3) := by decide +kernel
theorem dX10_withOneMore_17 : decode cX10_withOneMore 17 = .ok (.iload_n 3, 1) := by decide +kernel
theorem dX10_withOneMore_18 : decode cX10_withOneMore 18 = .ok (.laload, 1) := by decide +kernel
theorem dX10_withOneMore_19 : decode cX10_withOneMore 19 = .ok (.ldc2_w 55, 3) := by decide +kernel
theorem dX10_withOneMore_22 : decode cX10_withOneMore 22 = .ok (.lxor, 1) := by decide +kernel
theorem dX10_withOneMore_23 : decode cX10_withOneMore 23 = .ok (.land, 1) := by decide +kernel
theorem dX10_withOneMore_24 : decode cX10_withOneMore 24 = .ok (.aload_n 0, 1) := by decide +kernel
theorem dX10_withOneMore_25 : decode cX10_withOneMore 25 = .ok (.getfield 15, 3) := by decide +kernel
theorem dX10_withOneMore_28 : decode cX10_withOneMore 28 = .ok (.iload_n 3, 1) := by decide +kernel
theorem dX10_withOneMore_29 : decode cX10_withOneMore 29 = .ok (.isub, 1) := by decide +kernel
theorem dX10_withOneMore_30 : decode cX10_withOneMore 30 = .ok (.lushr, 1) := by decide +kernel
theorem dX10_withOneMore_31 : decode cX10_withOneMore 31 = .ok (.lstore 6, 2) := by decide +kernel
theorem dX10_withOneMore_33 : decode cX10_withOneMore 33 = .ok (.lload_n 1, 1) := by decide +kernel
theorem dX10_withOneMore_34 : decode cX10_withOneMore 34 = .ok (.lload 4, 2) := by decide +kernel
theorem dX10_withOneMore_36 : decode cX10_withOneMore 36 = .ok (.lload 6, 2) := by decide +kernel
theorem dX10_withOneMore_38 : decode cX10_withOneMore 38 = .ok (.lor, 1) := by decide +kernel
theorem dX10_withOneMore_39 : decode cX10_withOneMore 39 = .ok (.aload_n 0, 1) := by decide +kernel
theorem dX10_withOneMore_40 : decode cX10_withOneMore 40 = .ok (.getfield 15, 3) := by decide +kernel
theorem dX10_withOneMore_43 : decode cX10_withOneMore 43 = .ok (.lshl, 1) := by decide +kernel
theorem dX10_withOneMore_44 : decode cX10_withOneMore 44 = .ok (.lor, 1) := by decide +kernel
theorem dX10_withOneMore_45 : decode cX10_withOneMore 45 = .ok (.aload_n 0, 1) := by decide +kernel
theorem dX10_withOneMore_46 : decode cX10_withOneMore 46 = .ok (.getfield 9, 3) := by decide +kernel
theorem dX10_withOneMore_49 : decode cX10_withOneMore 49 = .ok (.iconst 0, 1) := by decide +kernel
theorem dX10_withOneMore_50 : decode cX10_withOneMore 50 = .ok (.laload, 1) := by decide +kernel
theorem dX10_withOneMore_51 : decode cX10_withOneMore 51 = .ok (.land, 1) := by decide +kernel
theorem dX10_withOneMore_52 : decode cX10_withOneMore 52 = .ok (.lreturn, 1) := by decide +kernel
theorem dX10_hasTen_0 : decode cX10_hasTen 0 = .ok (.lload_n 1, 1) := by decide +kernel
theorem dX10_hasTen_1 : decode cX10_hasTen 1 = .ok (.aload_n 0, 1) := by decide +kernel
theorem dX10_hasTen_2 : decode cX10_hasTen 2 = .ok (.getfield 19, 3) := by decide +kernel
theorem dX10_hasTen_5 : decode cX10_hasTen 5 = .ok (.aload_n 0, 1) := by decide +kernel
theorem dX10_hasTen_6 : decode cX10_hasTen 6 = .ok (.getfield 15, 3) := by decide +kernel
theorem dX10_hasTen_9 : decode cX10_hasTen 9 = .ok (.imul, 1) := by decide +kernel
theorem dX10_hasTen_10 : decode cX10_hasTen 10 = .ok (.lshr, 1) := by decide +kernel
theorem dX10_hasTen_11 : decode cX10_hasTen 11 = .ok (.lconst 1, 1) := by decide +kernel
theorem dX10_hasTen_12 : decode cX10_hasTen 12 = .ok (.land, 1) := by decide +kernel
theorem dX10_hasTen_13 : decode cX10_hasTen 13 = .ok (.lconst 1, 1) := by decide +kernel
theorem dX10_hasTen_14 : decode cX10_hasTen 14 = .ok (.lcmp, 1) := by decide +kernel
theorem dX10_hasTen_15 : decode cX10_hasTen 15 = .ok (.ifCond .ne 7, 3) := by decide +kernel
theorem dX10_hasTen_18 : decode cX10_hasTen 18 = .ok (.iconst 1, 1) := by decide +kernel
theorem dX10_hasTen_19 : decode cX10_hasTen 19 = .ok (.goto 4, 3) := by decide +kernel
theorem dX10_hasTen_22 : decode cX10_hasTen 22 = .ok (.iconst 0, 1) := by decide +kernel
theorem dX10_hasTen_23 : decode cX10_hasTen 23 = .ok (.ireturn, 1) := by decide +kernel
theorem dX11_init_0 : decode cX11_init 0 = .ok (.aload_n 0, 1) := by decide +kernel
theorem dX11_init_1 : decode cX11_init 1 = .ok (.invokespecial 1, 3) := by decide +kernel
theorem dX11_init_4 : decode cX11_init 4 = .ok (.aload_n 0, 1) := by decide +kernel
theorem dX11_init_5 : decode cX11_init 5 = .ok (.new 7, 3) := by decide +kernel
theorem dX11_init_8 : decode cX11_init 8 = .ok (.dup, 1) := by decide +kernel
theorem dX11_init_9 : decode cX11_init 9 = .ok (.invokespecial 9, 3) := by decide +kernel
theorem dX11_init_12 : decode cX11_init 12 = .ok (.putfield 10, 3) := by decide +kernel
theorem dX11_init_15 : decode cX11_init 15 = .ok (.aload_n 0, 1) := by decide +kernel
theorem dX11_init_16 : decode cX11_init 16 = .ok (.new 16, 3) := by decide +kernel
theorem dX11_init_19 : decode cX11_init 19 = .ok (.dup, 1) := by decide +kernel
theorem dX11_init_20 : decode cX11_init 20 = .ok (.invokespecial 18, 3) := by decide +kernel
theorem dX11_init_23 : decode cX11_init 23 = .ok (.putfield 19, 3) := by decide +kernel
theorem dX11_init_26 : decode cX11_init 26 = .ok (.aload_n 0, 1) := by decide +kernel
theorem dX11_init_27 : decode cX11_init 27 = .ok (.new 23, 3) := by decide +kernel
theorem dX11_init_30 : decode cX11_init 30 = .ok (.dup, 1) := by decide +kernel
theorem dX11_init_31 : decode cX11_init 31 = .ok (.aload_n 0, 1) := by decide +kernel
theorem dX11_init_32 : decode cX11_init 32 = .ok (.getfield 19, 3) := by decide +kernel
theorem dX11_init_35 : decode cX11_init 35 = .ok (.invokespecial 25, 3) := by decide +kernel
theorem dX11_init_38 : decode cX11_init 38 = .ok (.putfield 28, 3) := by decide +kernel
theorem dX11_init_41 : decode cX11_init 41 = .ok (.aload_n 0, 1) := by decide +kernel
theorem dX11_init_42 : decode cX11_init 42 = .ok (.new 32, 3) := by decide +kernel
theorem dX11_init_45 : decode cX11_init 45 = .ok (.dup, 1) := by decide +kernel
theorem dX11_init_46 : decode cX11_init 46 = .ok (.invokespecial 34, 3) := by decide +kernel
theorem dX11_init_49 : decode cX11_init 49 = .ok (.putfield 35, 3) := by decide +kernel
theorem dX11_init_52 : decode cX11_init 52 = .ok (.sipush 6561, 3) := by decide +kernel
theorem dX11_init_55 : decode cX11_init 55 = .ok (.newarray .int, 2) := by decide +kernel
theorem dX11_init_57 : decode cX11_init 57 = .ok (.astore_n 1, 1) := by decide +kernel
theorem dX11_init_58 : decode cX11_init 58 = .ok (.aload_n 0, 1) := by decide +kernel
theorem dX11_init_59 : decode cX11_init 59 = .ok (.new 39, 3) := by decide +kernel
theorem dX11_init_62 : decode cX11_init 62 = .ok (.dup, 1) := by decide +kernel
theorem dX11_init_63 : decode cX11_init 63 = .ok (.aload_n 0, 1) := by decide +kernel
theorem dX11_init_64 : decode cX11_init 64 = .ok (.getfield 10, 3) := by decide +kernel
theorem dX11_init_67 : decode cX11_init 67 = .ok (.aload_n 1, 1) := by decide +kernel
theorem dX11_init_68 : decode cX11_init 68 = .ok (.invokespecial 41, 3) := by decide +kernel
theorem dX11_init_71 : decode cX11_init 71 = .ok (.putfield 44, 3) := by decide +kernel
theorem dX11_init_74 : decode cX11_init 74 = .ok (.aload_n 0, 1) := by decide +kernel
theorem dX11_init_75 : decode cX11_init 75 = .ok (.new 48, 3) := by decide +kernel
theorem dX11_init_78 : decode cX11_init 78 = .ok (.dup, 1) := by decide +kernel
theorem dX11_init_79 : decode cX11_init 79 = .ok (.aload_n 0, 1) := by decide +kernel
theorem dX11_init_80 : decode cX11_init 80 = .ok (.getfield 10, 3) := by decide +kernel
theorem dX11_init_83 : decode cX11_init 83 = .ok (.invokespecial 50, 3) := by decide +kernel
theorem dX11_init_86 : decode cX11_init 86 = .ok (.putfield 53, 3) := by decide +kernel
theorem dX11_init_89 : decode cX11_init 89 = .ok (.aload_n 0, 1) := by decide +kernel
theorem dX11_init_90 : decode cX11_init 90 = .ok (.new 57, 3) := by decide +kernel
theorem dX11_init_93 : decode cX11_init 93 = .ok (.dup, 1) := by decide +kernel
theorem dX11_init_94 : decode cX11_init 94 = .ok (.aload_n 0, 1) := by decide +kernel
theorem dX11_init_95 : decode cX11_init 95 = .ok (.getfield 10, 3) := by decide +kernel
theorem dX11_init_98 : decode cX11_init 98 = .ok (.invokespecial 59, 3) := by decide +kernel
theorem dX11_init_101 : decode cX11_init 101 = .ok (.putfield 60, 3) := by decide +kernel
theorem dX11_init_104 : decode cX11_init 104 = .ok (.aload_n 0, 1) := by decide +kernel
theorem dX11_init_105 : decode cX11_init 105 = .ok (.new 64, 3) := by decide +kernel
theorem dX11_init_108 : decode cX11_init 108 = .ok (.dup, 1) := by decide +kernel
theorem dX11_init_109 : decode cX11_init 109 = .ok (.invokespecial 66, 3) := by decide +kernel
theorem dX11_init_112 : decode cX11_init 112 = .ok (.putfield 67, 3) := by decide +kernel
theorem dX11_init_115 : decode cX11_init 115 = .ok (.aload_n 0, 1) := by decide +kernel
theorem dX11_init_116 : decode cX11_init 116 = .ok (.new 71, 3) := by decide +kernel
theorem dX11_init_119 : decode cX11_init 119 = .ok (.dup, 1) := by decide +kernel
theorem dX11_init_120 : decode cX11_init 120 = .ok (.aload_n 0, 1) := by decide +kernel
theorem dX11_init_121 : decode cX11_init 121 = .ok (.getfield 10, 3) := by decide +kernel
theorem dX11_init_124 : decode cX11_init 124 = .ok (.invokespecial 73, 3) := by decide +kernel
theorem dX11_init_127 : decode cX11_init 127 = .ok (.putfield 74, 3) := by decide +kernel
theorem dX11_init_130 : decode cX11_init 130 = .ok (.aload_n 0, 1) := by decide +kernel
theorem dX11_init_131 : decode cX11_init 131 = .ok (.new 78, 3) := by decide +kernel
theorem dX11_init_134 : decode cX11_init 134 = .ok (.dup, 1) := by decide +kernel
theorem dX11_init_135 : decode cX11_init 135 = .ok (.aload_n 0, 1) := by decide +kernel
theorem dX11_init_136 : decode cX11_init 136 = .ok (.getfield 10, 3) := by decide +kernel
theorem dX11_init_139 : decode cX11_init 139 = .ok (.aload_n 1, 1) := by decide +kernel
theorem dX11_init_140 : decode cX11_init 140 = .ok (.invokespecial 80, 3) := by decide +kernel
theorem dX11_init_143 : decode cX11_init 143 = .ok (.putfield 81, 3) := by decide +kernel
theorem dX11_init_146 : decode cX11_init 146 = .ok (.aload_n 0, 1) := by decide +kernel
theorem dX11_init_147 : decode cX11_init 147 = .ok (.new 85, 3) := by decide +kernel
theorem dX11_init_150 : decode cX11_init 150 = .ok (.dup, 1) := by decide +kernel
theorem dX11_init_151 : decode cX11_init 151 = .ok (.aload_n 0, 1) := by decide +kernel
theorem dX11_init_152 : decode cX11_init 152 = .ok (.getfield 10, 3) := by decide +kernel
theorem dX11_init_155 : decode cX11_init 155 = .ok (.aload_n 1, 1) := by decide +kernel
theorem dX11_init_156 : decode cX11_init 156 = .ok (.invokespecial 87, 3) := by decide +kernel
theorem dX11_init_159 : decode cX11_init 159 = .ok (.putfield 88, 3) := by decide +kernel
theorem dX11_init_162 : decode cX11_init 162 = .ok (.return_, 1) := by decide +kernel
theorem dX11_write_0 : decode cX11_write 0 = .ok (.iload_n 3, 1) := by decide +kernel
theorem dX11_write_1 : decode cX11_write 1 = .ok (.iconst 1, 1) := by decide +kernel
theorem dX11_write_2 : decode cX11_write 2 = .ok (.bipush 8, 2) := by decide +kernel
theorem dX11_write_4 : decode cX11_write 4 = .ok (.invokestatic 92, 3) := by decide +kernel
theorem dX11_write_7 : decode cX11_write 7 = .ok (.ifCond .ne 6, 3) := by decide +kernel
theorem dX11_write_10 : decode cX11_write 10 = .ok (.bipush (-3), 2) := by decide +kernel
theorem dX11_write_12 : decode cX11_write 12 = .ok (.ireturn, 1) := by decide +kernel
theorem dX11_write_13 : decode cX11_write 13 = .ok (.aload_n 0, 1) := by decide +kernel
theorem dX11_write_14 : decode cX11_write 14 = .ok (.getfield 19, 3) := by decide +kernel
theorem dX11_write_17 : decode cX11_write 17 = .ok (.lload_n 1, 1) := by decide +kernel
theorem dX11_write_18 : decode cX11_write 18 = .ok (.iload_n 3, 1) := by decide +kernel
theorem dX11_write_19 : decode cX11_write 19 = .ok (.invokevirtual 96, 3) := by decide +kernel
theorem dX11_write_22 : decode cX11_write 22 = .ok (.ifCond .eq 13, 3) := by decide +kernel
theorem dX11_write_25 : decode cX11_write 25 = .ok (.aload_n 0, 1) := by decide +kernel
theorem dX11_write_26 : decode cX11_write 26 = .ok (.getfield 19, 3) := by decide +kernel
theorem dX11_write_29 : decode cX11_write 29 = .ok (.getfield 100, 3) := by decide +kernel
theorem dX11_write_32 : decode cX11_write 32 = .ok (.goto 5, 3) := by decide +kernel
theorem dX11_write_35 : decode cX11_write 35 = .ok (.bipush (-5), 2) := by decide +kernel
theorem dX11_write_37 : decode cX11_write 37 = .ok (.ireturn, 1) := by decide +kernel
theorem dX11_erase_0 : decode cX11_erase 0 = .ok (.aload_n 0, 1) := by decide +kernel
theorem dX11_erase_1 : decode cX11_erase 1 = .ok (.getfield 19, 3) := by decide +kernel
theorem dX11_erase_4 : decode cX11_erase 4 = .ok (.getfield 100, 3) := by decide +kernel
theorem dX11_erase_7 : decode cX11_erase 7 = .ok (.istore_n 1, 1) := by decide +kernel
theorem dX11_erase_8 : decode cX11_erase 8 = .ok (.aload_n 0, 1) := by decide +kernel
theorem dX11_erase_9 : decode cX11_erase 9 = .ok (.getfield 19, 3) := by decide +kernel
theorem dX11_erase_12 : decode cX11_erase 12 = .ok (.iconst 0, 1) := by decide +kernel
theorem dX11_erase_13 : decode cX11_erase 13 = .ok (.putfield 100, 3) := by decide +kernel
theorem dX11_erase_16 : decode cX11_erase 16 = .ok (.iload_n 1, 1) := by decide +kernel
theorem dX11_erase_17 : decode cX11_erase 17 = .ok (.ireturn, 1) := by decide +kernel
theorem dX11_fault_0 : decode cX11_fault 0 = .ok (.aload_n 0, 1) := by decide +kernel
theorem dX11_fault_1 : decode cX11_fault 1 = .ok (.getfield 28, 3) := by decide +kernel
theorem dX11_fault_4 : decode cX11_fault 4 = .ok (.aload_n 0, 1) := by decide +kernel
theorem dX11_fault_5 : decode cX11_fault 5 = .ok (.getfield 10, 3) := by decide +kernel
theorem dX11_fault_8 : decode cX11_fault 8 = .ok (.getfield 104, 3) := by decide +kernel
theorem dX11_fault_11 : decode cX11_fault 11 = .ok (.invokevirtual 107, 3) := by decide +kernel
theorem dX11_fault_14 : decode cX11_fault 14 = .ok (.ireturn, 1) := by decide +kernel
theorem dX11_market_0 : decode cX11_market 0 = .ok (.aload_n 0, 1) := by decide +kernel
theorem dX11_market_1 : decode cX11_market 1 = .ok (.getfield 28, 3) := by decide +kernel
theorem dX11_market_4 : decode cX11_market 4 = .ok (.aload_n 0, 1) := by decide +kernel
theorem dX11_market_5 : decode cX11_market 5 = .ok (.getfield 10, 3) := by decide +kernel
theorem dX11_market_8 : decode cX11_market 8 = .ok (.getfield 104, 3) := by decide +kernel
theorem dX11_market_11 : decode cX11_market 11 = .ok (.invokevirtual 107, 3) := by decide +kernel
theorem dX11_market_14 : decode cX11_market 14 = .ok (.iconst (-1), 1) := by decide +kernel
theorem dX11_market_15 : decode cX11_market 15 = .ok (.if_icmp .eq 6, 3) := by decide +kernel
theorem dX11_market_18 : decode cX11_market 18 = .ok (.bipush (-4), 2) := by decide +kernel
theorem dX11_market_20 : decode cX11_market 20 = .ok (.ireturn, 1) := by decide +kernel
theorem dX11_market_21 : decode cX11_market 21 = .ok (.iconst 0, 1) := by decide +kernel
theorem dX11_market_22 : decode cX11_market 22 = .ok (.istore_n 1, 1) := by decide +kernel
theorem dX11_market_23 : decode cX11_market 23 = .ok (.iload_n 1, 1) := by decide +kernel
theorem dX11_market_24 : decode cX11_market 24 = .ok (.aload_n 0, 1) := by decide +kernel
theorem dX11_market_25 : decode cX11_market 25 = .ok (.getfield 28, 3) := by decide +kernel
theorem dX11_market_28 : decode cX11_market 28 = .ok (.getfield 111, 3) := by decide +kernel
theorem dX11_market_31 : decode cX11_market 31 = .ok (.if_icmp .ge 34, 3) := by decide +kernel
theorem dX11_market_34 : decode cX11_market 34 = .ok (.aload_n 0, 1) := by decide +kernel
theorem dX11_market_35 : decode cX11_market 35 = .ok (.getfield 10, 3) := by decide +kernel
theorem dX11_market_38 : decode cX11_market 38 = .ok (.aload_n 0, 1) := by decide +kernel
theorem dX11_market_39 : decode cX11_market 39 = .ok (.getfield 28, 3) := by decide +kernel
theorem dX11_market_42 : decode cX11_market 42 = .ok (.getfield 114, 3) := by decide +kernel
theorem dX11_market_45 : decode cX11_market 45 = .ok (.iload_n 1, 1) := by decide +kernel
theorem dX11_market_46 : decode cX11_market 46 = .ok (.iaload, 1) := by decide +kernel
theorem dX11_market_47 : decode cX11_market 47 = .ok (.aload_n 0, 1) := by decide +kernel
theorem dX11_market_48 : decode cX11_market 48 = .ok (.getfield 28, 3) := by decide +kernel
theorem dX11_market_51 : decode cX11_market 51 = .ok (.getfield 118, 3) := by decide +kernel
theorem dX11_market_54 : decode cX11_market 54 = .ok (.iload_n 1, 1) := by decide +kernel
theorem dX11_market_55 : decode cX11_market 55 = .ok (.aaload, 1) := by decide +kernel
theorem dX11_market_56 : decode cX11_market 56 = .ok (.invokevirtual 122, 3) := by decide +kernel
theorem dX11_market_59 : decode cX11_market 59 = .ok (.iinc 1 1, 3) := by decide +kernel
theorem dX11_market_62 : decode cX11_market 62 = .ok (.goto (-39), 3) := by decide +kernel
theorem dX11_market_65 : decode cX11_market 65 = .ok (.aload_n 0, 1) := by decide +kernel
theorem dX11_market_66 : decode cX11_market 66 = .ok (.getfield 19, 3) := by decide +kernel
theorem dX11_market_69 : decode cX11_market 69 = .ok (.iconst 0, 1) := by decide +kernel
theorem dX11_market_70 : decode cX11_market 70 = .ok (.putfield 100, 3) := by decide +kernel
theorem dX11_market_73 : decode cX11_market 73 = .ok (.aload_n 0, 1) := by decide +kernel
theorem dX11_market_74 : decode cX11_market 74 = .ok (.getfield 35, 3) := by decide +kernel
theorem dX11_market_77 : decode cX11_market 77 = .ok (.invokevirtual 126, 3) := by decide +kernel
theorem dX11_market_80 : decode cX11_market 80 = .ok (.aload_n 0, 1) := by decide +kernel
theorem dX11_market_81 : decode cX11_market 81 = .ok (.getfield 28, 3) := by decide +kernel
theorem dX11_market_84 : decode cX11_market 84 = .ok (.getfield 111, 3) := by decide +kernel
theorem dX11_market_87 : decode cX11_market 87 = .ok (.ireturn, 1) := by decide +kernel
theorem dX11_heap_0 : decode cX11_heap 0 = .ok (.iload_n 1, 1) := by decide +kernel
theorem dX11_heap_1 : decode cX11_heap 1 = .ok (.iconst 0, 1) := by decide +kernel
theorem dX11_heap_2 : decode cX11_heap 2 = .ok (.aload_n 0, 1) := by decide +kernel
theorem dX11_heap_3 : decode cX11_heap 3 = .ok (.getfield 10, 3) := by decide +kernel
theorem dX11_heap_6 : decode cX11_heap 6 = .ok (.getfield 104, 3) := by decide +kernel
theorem dX11_heap_9 : decode cX11_heap 9 = .ok (.iconst 1, 1) := by decide +kernel
theorem dX11_heap_10 : decode cX11_heap 10 = .ok (.isub, 1) := by decide +kernel
theorem dX11_heap_11 : decode cX11_heap 11 = .ok (.invokestatic 92, 3) := by decide +kernel
theorem dX11_heap_14 : decode cX11_heap 14 = .ok (.ifCond .ne 7, 3) := by decide +kernel
theorem dX11_heap_17 : decode cX11_heap 17 = .ok (.ldc2_w 129, 3) := by decide +kernel
theorem dX11_heap_20 : decode cX11_heap 20 = .ok (.lreturn, 1) := by decide +kernel
theorem dX11_heap_21 : decode cX11_heap 21 = .ok (.iload_n 2, 1) := by decide +kernel
theorem dX11_heap_22 : decode cX11_heap 22 = .ok (.tableswitch 98 0 5 #[38, 48, 58, 68, 78, 88], 38) := by decide +kernel
theorem dX11_heap_60 : decode cX11_heap 60 = .ok (.aload_n 0, 1) := by decide +kernel
theorem dX11_heap_61 : decode cX11_heap 61 = .ok (.getfield 10, 3) := by decide +kernel
theorem dX11_heap_64 : decode cX11_heap 64 = .ok (.getfield 131, 3) := by decide +kernel
theorem dX11_heap_67 : decode cX11_heap 67 = .ok (.iload_n 1, 1) := by decide +kernel
theorem dX11_heap_68 : decode cX11_heap 68 = .ok (.laload, 1) := by decide +kernel
theorem dX11_heap_69 : decode cX11_heap 69 = .ok (.lreturn, 1) := by decide +kernel
theorem dX11_heap_70 : decode cX11_heap 70 = .ok (.aload_n 0, 1) := by decide +kernel
theorem dX11_heap_71 : decode cX11_heap 71 = .ok (.getfield 10, 3) := by decide +kernel
theorem dX11_heap_74 : decode cX11_heap 74 = .ok (.getfield 135, 3) := by decide +kernel
theorem dX11_heap_77 : decode cX11_heap 77 = .ok (.iload_n 1, 1) := by decide +kernel
theorem dX11_heap_78 : decode cX11_heap 78 = .ok (.laload, 1) := by decide +kernel
theorem dX11_heap_79 : decode cX11_heap 79 = .ok (.lreturn, 1) := by decide +kernel
theorem dX11_heap_80 : decode cX11_heap 80 = .ok (.aload_n 0, 1) := by decide +kernel
theorem dX11_heap_81 : decode cX11_heap 81 = .ok (.getfield 10, 3) := by decide +kernel
theorem dX11_heap_84 : decode cX11_heap 84 = .ok (.getfield 138, 3) := by decide +kernel
theorem dX11_heap_87 : decode cX11_heap 87 = .ok (.iload_n 1, 1) := by decide +kernel
theorem dX11_heap_88 : decode cX11_heap 88 = .ok (.laload, 1) := by decide +kernel
theorem dX11_heap_89 : decode cX11_heap 89 = .ok (.lreturn, 1) := by decide +kernel
theorem dX11_heap_90 : decode cX11_heap 90 = .ok (.aload_n 0, 1) := by decide +kernel
theorem dX11_heap_91 : decode cX11_heap 91 = .ok (.getfield 10, 3) := by decide +kernel
theorem dX11_heap_94 : decode cX11_heap 94 = .ok (.getfield 141, 3) := by decide +kernel
theorem dX11_heap_97 : decode cX11_heap 97 = .ok (.iload_n 1, 1) := by decide +kernel
theorem dX11_heap_98 : decode cX11_heap 98 = .ok (.laload, 1) := by decide +kernel
theorem dX11_heap_99 : decode cX11_heap 99 = .ok (.lreturn, 1) := by decide +kernel
theorem dX11_heap_100 : decode cX11_heap 100 = .ok (.aload_n 0, 1) := by decide +kernel
theorem dX11_heap_101 : decode cX11_heap 101 = .ok (.getfield 10, 3) := by decide +kernel
theorem dX11_heap_104 : decode cX11_heap 104 = .ok (.iload_n 1, 1) := by decide +kernel
theorem dX11_heap_105 : decode cX11_heap 105 = .ok (.invokevirtual 144, 3) := by decide +kernel
theorem dX11_heap_108 : decode cX11_heap 108 = .ok (.i2l, 1) := by decide +kernel
theorem dX11_heap_109 : decode cX11_heap 109 = .ok (.lreturn, 1) := by decide +kernel
theorem dX11_heap_110 : decode cX11_heap 110 = .ok (.aload_n 0, 1) := by decide +kernel
theorem dX11_heap_111 : decode cX11_heap 111 = .ok (.getfield 10, 3) := by decide +kernel
theorem dX11_heap_114 : decode cX11_heap 114 = .ok (.iload_n 1, 1) := by decide +kernel
theorem dX11_heap_115 : decode cX11_heap 115 = .ok (.invokevirtual 147, 3) := by decide +kernel
theorem dX11_heap_118 : decode cX11_heap 118 = .ok (.i2l, 1) := by decide +kernel
theorem dX11_heap_119 : decode cX11_heap 119 = .ok (.lreturn, 1) := by decide +kernel
theorem dX11_heap_120 : decode cX11_heap 120 = .ok (.ldc2_w 150, 3) := by decide +kernel
theorem dX11_heap_123 : decode cX11_heap 123 = .ok (.lreturn, 1) := by decide +kernel
theorem dX11_rest_0 : decode cX11_rest 0 = .ok (.aload_n 0, 1) := by decide +kernel
theorem dX11_rest_1 : decode cX11_rest 1 = .ok (.getfield 10, 3) := by decide +kernel
theorem dX11_rest_4 : decode cX11_rest 4 = .ok (.iload_n 1, 1) := by decide +kernel
theorem dX11_rest_5 : decode cX11_rest 5 = .ok (.invokevirtual 152, 3) := by decide +kernel
theorem dX11_rest_8 : decode cX11_rest 8 = .ok (.ifCond .ne 6, 3) := by decide +kernel
theorem dX11_rest_11 : decode cX11_rest 11 = .ok (.bipush (-2), 2) := by decide +kernel
theorem dX11_rest_13 : decode cX11_rest 13 = .ok (.ireturn, 1) := by decide +kernel
theorem dX11_rest_14 : decode cX11_rest 14 = .ok (.iload_n 2, 1) := by decide +kernel
theorem dX11_rest_15 : decode cX11_rest 15 = .ok (.tableswitch 48 0 2 #[25, 34, 43], 25) := by decide +kernel
theorem dX11_rest_40 : decode cX11_rest 40 = .ok (.aload_n 0, 1) := by decide +kernel
theorem dX11_rest_41 : decode cX11_rest 41 = .ok (.getfield 10, 3) := by decide +kernel
theorem dX11_rest_44 : decode cX11_rest 44 = .ok (.iload_n 1, 1) := by decide +kernel
theorem dX11_rest_45 : decode cX11_rest 45 = .ok (.invokevirtual 156, 3) := by decide +kernel
theorem dX11_rest_48 : decode cX11_rest 48 = .ok (.ireturn, 1) := by decide +kernel
theorem dX11_rest_49 : decode cX11_rest 49 = .ok (.aload_n 0, 1) := by decide +kernel
theorem dX11_rest_50 : decode cX11_rest 50 = .ok (.getfield 10, 3) := by decide +kernel
theorem dX11_rest_53 : decode cX11_rest 53 = .ok (.iload_n 1, 1) := by decide +kernel
theorem dX11_rest_54 : decode cX11_rest 54 = .ok (.invokevirtual 159, 3) := by decide +kernel
theorem dX11_rest_57 : decode cX11_rest 57 = .ok (.ireturn, 1) := by decide +kernel
theorem dX11_rest_58 : decode cX11_rest 58 = .ok (.iload_n 1, 1) := by decide +kernel
theorem dX11_rest_59 : decode cX11_rest 59 = .ok (.invokestatic 162, 3) := by decide +kernel
theorem dX11_rest_62 : decode cX11_rest 62 = .ok (.ireturn, 1) := by decide +kernel
theorem dX11_rest_63 : decode cX11_rest 63 = .ok (.bipush (-3), 2) := by decide +kernel
theorem dX11_rest_65 : decode cX11_rest 65 = .ok (.ireturn, 1) := by decide +kernel
theorem dX11_as_0 : decode cX11_as 0 = .ok (.iload_n 1, 1) := by decide +kernel
theorem dX11_as_1 : decode cX11_as 1 = .ok (.iconst 0, 1) := by decide +kernel
theorem dX11_as_2 : decode cX11_as 2 = .ok (.bipush 7, 2) := by decide +kernel
theorem dX11_as_4 : decode cX11_as 4 = .ok (.invokestatic 92, 3) := by decide +kernel
theorem dX11_as_7 : decode cX11_as 7 = .ok (.ifCond .eq 14, 3) := by decide +kernel
theorem dX11_as_10 : decode cX11_as 10 = .ok (.aload_n 0, 1) := by decide +kernel
theorem dX11_as_11 : decode cX11_as 11 = .ok (.getfield 10, 3) := by decide +kernel
theorem dX11_as_14 : decode cX11_as 14 = .ok (.iload_n 3, 1) := by decide +kernel
theorem dX11_as_15 : decode cX11_as 15 = .ok (.invokevirtual 152, 3) := by decide +kernel
theorem dX11_as_18 : decode cX11_as 18 = .ok (.ifCond .ne 6, 3) := by decide +kernel
theorem dX11_as_21 : decode cX11_as 21 = .ok (.bipush (-2), 2) := by decide +kernel
theorem dX11_as_23 : decode cX11_as 23 = .ok (.ireturn, 1) := by decide +kernel
theorem dX11_as_24 : decode cX11_as 24 = .ok (.iload_n 2, 1) := by decide +kernel
theorem dX11_as_25 : decode cX11_as 25 = .ok (.iconst 0, 1) := by decide +kernel
theorem dX11_as_26 : decode cX11_as 26 = .ok (.bipush 6, 2) := by decide +kernel
theorem dX11_as_28 : decode cX11_as 28 = .ok (.invokestatic 92, 3) := by decide +kernel
theorem dX11_as_31 : decode cX11_as 31 = .ok (.ifCond .eq 11, 3) := by decide +kernel
theorem dX11_as_34 : decode cX11_as 34 = .ok (.iload 4, 2) := by decide +kernel
theorem dX11_as_36 : decode cX11_as 36 = .ok (.invokestatic 167, 3) := by decide +kernel
theorem dX11_as_39 : decode cX11_as 39 = .ok (.ifCond .ne 6, 3) := by decide +kernel
theorem dX11_as_42 : decode cX11_as 42 = .ok (.bipush (-3), 2) := by decide +kernel
theorem dX11_as_44 : decode cX11_as 44 = .ok (.ireturn, 1) := by decide +kernel
theorem dX11_as_45 : decode cX11_as 45 = .ok (.getstatic 170, 3) := by decide +kernel
theorem dX11_as_48 : decode cX11_as 48 = .ok (.iload_n 1, 1) := by decide +kernel
theorem dX11_as_49 : decode cX11_as 49 = .ok (.iaload, 1) := by decide +kernel
theorem dX11_as_50 : decode cX11_as 50 = .ok (.iload_n 2, 1) := by decide +kernel
theorem dX11_as_51 : decode cX11_as 51 = .ok (.ishr, 1) := by decide +kernel
theorem dX11_as_52 : decode cX11_as 52 = .ok (.iconst 1, 1) := by decide +kernel
theorem dX11_as_53 : decode cX11_as 53 = .ok (.iand, 1) := by decide +kernel
theorem dX11_as_54 : decode cX11_as 54 = .ok (.ifCond .ne 6, 3) := by decide +kernel
theorem dX11_as_57 : decode cX11_as 57 = .ok (.bipush (-4), 2) := by decide +kernel
theorem dX11_as_59 : decode cX11_as 59 = .ok (.ireturn, 1) := by decide +kernel
theorem dX11_as_60 : decode cX11_as 60 = .ok (.aload_n 0, 1) := by decide +kernel
theorem dX11_as_61 : decode cX11_as 61 = .ok (.getfield 44, 3) := by decide +kernel
theorem dX11_as_64 : decode cX11_as 64 = .ok (.iload_n 1, 1) := by decide +kernel
theorem dX11_as_65 : decode cX11_as 65 = .ok (.iload_n 3, 1) := by decide +kernel
theorem dX11_as_66 : decode cX11_as 66 = .ok (.iload 4, 2) := by decide +kernel
theorem dX11_as_68 : decode cX11_as 68 = .ok (.invokevirtual 173, 3) := by decide +kernel
theorem dX11_as_71 : decode cX11_as 71 = .ok (.ifCond .eq 7, 3) := by decide +kernel
theorem dX11_as_74 : decode cX11_as 74 = .ok (.iconst 1, 1) := by decide +kernel
theorem dX11_as_75 : decode cX11_as 75 = .ok (.goto 4, 3) := by decide +kernel
theorem dX11_as_78 : decode cX11_as 78 = .ok (.iconst 0, 1) := by decide +kernel
theorem dX11_as_79 : decode cX11_as 79 = .ok (.ireturn, 1) := by decide +kernel
theorem dX11_find_0 : decode cX11_find 0 = .ok (.iload_n 1, 1) := by decide +kernel
theorem dX11_find_1 : decode cX11_find 1 = .ok (.iconst 0, 1) := by decide +kernel
theorem dX11_find_2 : decode cX11_find 2 = .ok (.bipush 7, 2) := by decide +kernel
theorem dX11_find_4 : decode cX11_find 4 = .ok (.invokestatic 92, 3) := by decide +kernel
theorem dX11_find_7 : decode cX11_find 7 = .ok (.ifCond .ne 6, 3) := by decide +kernel
theorem dX11_find_10 : decode cX11_find 10 = .ok (.bipush (-2), 2) := by decide +kernel
theorem dX11_find_12 : decode cX11_find 12 = .ok (.ireturn, 1) := by decide +kernel
theorem dX11_find_13 : decode cX11_find 13 = .ok (.iload_n 2, 1) := by decide +kernel
theorem dX11_find_14 : decode cX11_find 14 = .ok (.invokestatic 167, 3) := by decide +kernel
theorem dX11_find_17 : decode cX11_find 17 = .ok (.ifCond .eq 15, 3) := by decide +kernel
theorem dX11_find_20 : decode cX11_find 20 = .ok (.aload_n 0, 1) := by decide +kernel
theorem dX11_find_21 : decode cX11_find 21 = .ok (.getfield 44, 3) := by decide +kernel
theorem dX11_find_24 : decode cX11_find 24 = .ok (.iload_n 1, 1) := by decide +kernel
theorem dX11_find_25 : decode cX11_find 25 = .ok (.iload_n 2, 1) := by decide +kernel
theorem dX11_find_26 : decode cX11_find 26 = .ok (.invokevirtual 176, 3) := by decide +kernel
theorem dX11_find_29 : decode cX11_find 29 = .ok (.goto 5, 3) := by decide +kernel
theorem dX11_find_32 : decode cX11_find 32 = .ok (.bipush (-3), 2) := by decide +kernel
theorem dX11_find_34 : decode cX11_find 34 = .ok (.ireturn, 1) := by decide +kernel
theorem dX11_many_0 : decode cX11_many 0 = .ok (.iload_n 1, 1) := by decide +kernel
theorem dX11_many_1 : decode cX11_many 1 = .ok (.iconst (-1), 1) := by decide +kernel
theorem dX11_many_2 : decode cX11_many 2 = .ok (.bipush 20, 2) := by decide +kernel
theorem dX11_many_4 : decode cX11_many 4 = .ok (.invokestatic 92, 3) := by decide +kernel
theorem dX11_many_7 : decode cX11_many 7 = .ok (.ifCond .eq 20, 3) := by decide +kernel
theorem dX11_many_10 : decode cX11_many 10 = .ok (.iload_n 2, 1) := by decide +kernel
theorem dX11_many_11 : decode cX11_many 11 = .ok (.iconst 0, 1) := by decide +kernel
theorem dX11_many_12 : decode cX11_many 12 = .ok (.aload_n 0, 1) := by decide +kernel
theorem dX11_many_13 : decode cX11_many 13 = .ok (.getfield 10, 3) := by decide +kernel
theorem dX11_many_16 : decode cX11_many 16 = .ok (.getfield 180, 3) := by decide +kernel
theorem dX11_many_19 : decode cX11_many 19 = .ok (.iconst 1, 1) := by decide +kernel
theorem dX11_many_20 : decode cX11_many 20 = .ok (.isub, 1) := by decide +kernel
theorem dX11_many_21 : decode cX11_many 21 = .ok (.invokestatic 92, 3) := by decide +kernel
theorem dX11_many_24 : decode cX11_many 24 = .ok (.ifCond .ne 6, 3) := by decide +kernel
theorem dX11_many_27 : decode cX11_many 27 = .ok (.bipush (-3), 2) := by decide +kernel
theorem dX11_many_29 : decode cX11_many 29 = .ok (.ireturn, 1) := by decide +kernel
theorem dX11_many_30 : decode cX11_many 30 = .ok (.aload_n 0, 1) := by decide +kernel
theorem dX11_many_31 : decode cX11_many 31 = .ok (.getfield 53, 3) := by decide +kernel
theorem dX11_many_34 : decode cX11_many 34 = .ok (.iload_n 1, 1) := by decide +kernel
theorem dX11_many_35 : decode cX11_many 35 = .ok (.iload_n 2, 1) := by decide +kernel
theorem dX11_many_36 : decode cX11_many 36 = .ok (.invokevirtual 183, 3) := by decide +kernel
theorem dX11_many_39 : decode cX11_many 39 = .ok (.ireturn, 1) := by decide +kernel
theorem dX11_light_0 : decode cX11_light 0 = .ok (.iload_n 1, 1) := by decide +kernel
theorem dX11_light_1 : decode cX11_light 1 = .ok (.invokestatic 167, 3) := by decide +kernel
theorem dX11_light_4 : decode cX11_light 4 = .ok (.ifCond .eq 12, 3) := by decide +kernel
theorem dX11_light_7 : decode cX11_light 7 = .ok (.iload_n 2, 1) := by decide +kernel
theorem dX11_light_8 : decode cX11_light 8 = .ok (.iconst 0, 1) := by decide +kernel
theorem dX11_light_9 : decode cX11_light 9 = .ok (.iconst 1, 1) := by decide +kernel
theorem dX11_light_10 : decode cX11_light 10 = .ok (.invokestatic 92, 3) := by decide +kernel
theorem dX11_light_13 : decode cX11_light 13 = .ok (.ifCond .ne 7, 3) := by decide +kernel
theorem dX11_light_16 : decode cX11_light 16 = .ok (.ldc2_w 150, 3) := by decide +kernel
theorem dX11_light_19 : decode cX11_light 19 = .ok (.lreturn, 1) := by decide +kernel
theorem dX11_light_20 : decode cX11_light 20 = .ok (.aload_n 0, 1) := by decide +kernel
theorem dX11_light_21 : decode cX11_light 21 = .ok (.getfield 60, 3) := by decide +kernel
theorem dX11_light_24 : decode cX11_light 24 = .ok (.aload_n 0, 1) := by decide +kernel
theorem dX11_light_25 : decode cX11_light 25 = .ok (.getfield 10, 3) := by decide +kernel
theorem dX11_light_28 : decode cX11_light 28 = .ok (.getfield 131, 3) := by decide +kernel
theorem dX11_light_31 : decode cX11_light 31 = .ok (.iload_n 1, 1) := by decide +kernel
theorem dX11_light_32 : decode cX11_light 32 = .ok (.iload_n 2, 1) := by decide +kernel
theorem dX11_light_33 : decode cX11_light 33 = .ok (.invokevirtual 186, 3) := by decide +kernel
theorem dX11_light_36 : decode cX11_light 36 = .ok (.lreturn, 1) := by decide +kernel
theorem dX11_cheap_0 : decode cX11_cheap 0 = .ok (.iload_n 1, 1) := by decide +kernel
theorem dX11_cheap_1 : decode cX11_cheap 1 = .ok (.invokestatic 167, 3) := by decide +kernel
theorem dX11_cheap_4 : decode cX11_cheap 4 = .ok (.ifCond .eq 12, 3) := by decide +kernel
theorem dX11_cheap_7 : decode cX11_cheap 7 = .ok (.iload_n 2, 1) := by decide +kernel
theorem dX11_cheap_8 : decode cX11_cheap 8 = .ok (.iconst 0, 1) := by decide +kernel
theorem dX11_cheap_9 : decode cX11_cheap 9 = .ok (.iconst 1, 1) := by decide +kernel
theorem dX11_cheap_10 : decode cX11_cheap 10 = .ok (.invokestatic 92, 3) := by decide +kernel
theorem dX11_cheap_13 : decode cX11_cheap 13 = .ok (.ifCond .ne 6, 3) := by decide +kernel
theorem dX11_cheap_16 : decode cX11_cheap 16 = .ok (.bipush (-3), 2) := by decide +kernel
theorem dX11_cheap_18 : decode cX11_cheap 18 = .ok (.ireturn, 1) := by decide +kernel
theorem dX11_cheap_19 : decode cX11_cheap 19 = .ok (.aload_n 0, 1) := by decide +kernel
theorem dX11_cheap_20 : decode cX11_cheap 20 = .ok (.getfield 60, 3) := by decide +kernel
theorem dX11_cheap_23 : decode cX11_cheap 23 = .ok (.aload_n 0, 1) := by decide +kernel
theorem dX11_cheap_24 : decode cX11_cheap 24 = .ok (.getfield 10, 3) := by decide +kernel
theorem dX11_cheap_27 : decode cX11_cheap 27 = .ok (.getfield 141, 3) := by decide +kernel
theorem dX11_cheap_30 : decode cX11_cheap 30 = .ok (.iload_n 1, 1) := by decide +kernel
theorem dX11_cheap_31 : decode cX11_cheap 31 = .ok (.iload_n 2, 1) := by decide +kernel
theorem dX11_cheap_32 : decode cX11_cheap 32 = .ok (.invokevirtual 186, 3) := by decide +kernel
theorem dX11_cheap_35 : decode cX11_cheap 35 = .ok (.l2i, 1) := by decide +kernel
theorem dX11_cheap_36 : decode cX11_cheap 36 = .ok (.ireturn, 1) := by decide +kernel
theorem dX11_mends_0 : decode cX11_mends 0 = .ok (.aload_n 0, 1) := by decide +kernel
theorem dX11_mends_1 : decode cX11_mends 1 = .ok (.getfield 10, 3) := by decide +kernel
theorem dX11_mends_4 : decode cX11_mends 4 = .ok (.iload_n 1, 1) := by decide +kernel
theorem dX11_mends_5 : decode cX11_mends 5 = .ok (.invokevirtual 152, 3) := by decide +kernel
theorem dX11_mends_8 : decode cX11_mends 8 = .ok (.ifCond .ne 6, 3) := by decide +kernel
theorem dX11_mends_11 : decode cX11_mends 11 = .ok (.bipush (-2), 2) := by decide +kernel
theorem dX11_mends_13 : decode cX11_mends 13 = .ok (.ireturn, 1) := by decide +kernel
theorem dX11_mends_14 : decode cX11_mends 14 = .ok (.aload_n 0, 1) := by decide +kernel
theorem dX11_mends_15 : decode cX11_mends 15 = .ok (.getfield 10, 3) := by decide +kernel
theorem dX11_mends_18 : decode cX11_mends 18 = .ok (.getfield 180, 3) := by decide +kernel
theorem dX11_mends_21 : decode cX11_mends 21 = .ok (.aload_n 0, 1) := by decide +kernel
theorem dX11_mends_22 : decode cX11_mends 22 = .ok (.getfield 10, 3) := by decide +kernel
theorem dX11_mends_25 : decode cX11_mends 25 = .ok (.iload_n 1, 1) := by decide +kernel
theorem dX11_mends_26 : decode cX11_mends 26 = .ok (.invokevirtual 156, 3) := by decide +kernel
theorem dX11_mends_29 : decode cX11_mends 29 = .ok (.isub, 1) := by decide +kernel
theorem dX11_mends_30 : decode cX11_mends 30 = .ok (.aload_n 0, 1) := by decide +kernel
theorem dX11_mends_31 : decode cX11_mends 31 = .ok (.getfield 10, 3) := by decide +kernel
theorem dX11_mends_34 : decode cX11_mends 34 = .ok (.getfield 180, 3) := by decide +kernel
theorem dX11_mends_37 : decode cX11_mends 37 = .ok (.invokestatic 190, 3) := by decide +kernel
theorem dX11_mends_40 : decode cX11_mends 40 = .ok (.ireturn, 1) := by decide +kernel
theorem dX11_swap_0 : decode cX11_swap 0 = .ok (.aload_n 0, 1) := by decide +kernel
theorem dX11_swap_1 : decode cX11_swap 1 = .ok (.getfield 10, 3) := by decide +kernel
theorem dX11_swap_4 : decode cX11_swap 4 = .ok (.iload_n 1, 1) := by decide +kernel
theorem dX11_swap_5 : decode cX11_swap 5 = .ok (.invokevirtual 152, 3) := by decide +kernel
theorem dX11_swap_8 : decode cX11_swap 8 = .ok (.ifCond .ne 6, 3) := by decide +kernel
theorem dX11_swap_11 : decode cX11_swap 11 = .ok (.bipush (-2), 2) := by decide +kernel
theorem dX11_swap_13 : decode cX11_swap 13 = .ok (.ireturn, 1) := by decide +kernel
theorem dX11_swap_14 : decode cX11_swap 14 = .ok (.iload_n 2, 1) := by decide +kernel
theorem dX11_swap_15 : decode cX11_swap 15 = .ok (.iconst 0, 1) := by decide +kernel
theorem dX11_swap_16 : decode cX11_swap 16 = .ok (.iconst 1, 1) := by decide +kernel
theorem dX11_swap_17 : decode cX11_swap 17 = .ok (.invokestatic 92, 3) := by decide +kernel
theorem dX11_swap_20 : decode cX11_swap 20 = .ok (.ifCond .ne 6, 3) := by decide +kernel
theorem dX11_swap_23 : decode cX11_swap 23 = .ok (.bipush (-3), 2) := by decide +kernel
theorem dX11_swap_25 : decode cX11_swap 25 = .ok (.ireturn, 1) := by decide +kernel
theorem dX11_swap_26 : decode cX11_swap 26 = .ok (.aload_n 0, 1) := by decide +kernel
theorem dX11_swap_27 : decode cX11_swap 27 = .ok (.getfield 10, 3) := by decide +kernel
theorem dX11_swap_30 : decode cX11_swap 30 = .ok (.getfield 180, 3) := by decide +kernel
theorem dX11_swap_33 : decode cX11_swap 33 = .ok (.aload_n 0, 1) := by decide +kernel
theorem dX11_swap_34 : decode cX11_swap 34 = .ok (.getfield 10, 3) := by decide +kernel
theorem dX11_swap_37 : decode cX11_swap 37 = .ok (.iload_n 1, 1) := by decide +kernel
theorem dX11_swap_38 : decode cX11_swap 38 = .ok (.invokevirtual 156, 3) := by decide +kernel
theorem dX11_swap_41 : decode cX11_swap 41 = .ok (.isub, 1) := by decide +kernel
theorem dX11_swap_42 : decode cX11_swap 42 = .ok (.aload_n 0, 1) := by decide +kernel
theorem dX11_swap_43 : decode cX11_swap 43 = .ok (.getfield 10, 3) := by decide +kernel
theorem dX11_swap_46 : decode cX11_swap 46 = .ok (.getfield 180, 3) := by decide +kernel
theorem dX11_swap_49 : decode cX11_swap 49 = .ok (.invokestatic 190, 3) := by decide +kernel
theorem dX11_swap_52 : decode cX11_swap 52 = .ok (.istore_n 3, 1) := by decide +kernel
theorem dX11_swap_53 : decode cX11_swap 53 = .ok (.iload_n 3, 1) := by decide +kernel
theorem dX11_swap_54 : decode cX11_swap 54 = .ok (.ifCond .ne 5, 3) := by decide +kernel
theorem dX11_swap_57 : decode cX11_swap 57 = .ok (.iconst (-1), 1) := by decide +kernel
theorem dX11_swap_58 : decode cX11_swap 58 = .ok (.ireturn, 1) := by decide +kernel
theorem dX11_swap_59 : decode cX11_swap 59 = .ok (.iconst 0, 1) := by decide +kernel
theorem dX11_swap_60 : decode cX11_swap 60 = .ok (.istore 4, 2) := by decide +kernel
theorem dX11_swap_62 : decode cX11_swap 62 = .ok (.iload 4, 2) := by decide +kernel
theorem dX11_swap_64 : decode cX11_swap 64 = .ok (.aload_n 0, 1) := by decide +kernel
theorem dX11_swap_65 : decode cX11_swap 65 = .ok (.getfield 10, 3) := by decide +kernel
theorem dX11_swap_68 : decode cX11_swap 68 = .ok (.getfield 104, 3) := by decide +kernel
theorem dX11_swap_71 : decode cX11_swap 71 = .ok (.if_icmp .ge 54, 3) := by decide +kernel
theorem dX11_swap_74 : decode cX11_swap 74 = .ok (.iload_n 1, 1) := by decide +kernel
theorem dX11_swap_75 : decode cX11_swap 75 = .ok (.iload 4, 2) := by decide +kernel
theorem dX11_swap_77 : decode cX11_swap 77 = .ok (.ishr, 1) := by decide +kernel
theorem dX11_swap_78 : decode cX11_swap 78 = .ok (.iconst 1, 1) := by decide +kernel
theorem dX11_swap_79 : decode cX11_swap 79 = .ok (.iand, 1) := by decide +kernel
theorem dX11_swap_80 : decode cX11_swap 80 = .ok (.iconst 1, 1) := by decide +kernel
theorem dX11_swap_81 : decode cX11_swap 81 = .ok (.if_icmp .ne 17, 3) := by decide +kernel
theorem dX11_swap_84 : decode cX11_swap 84 = .ok (.aload_n 0, 1) := by decide +kernel
theorem dX11_swap_85 : decode cX11_swap 85 = .ok (.getfield 10, 3) := by decide +kernel
theorem dX11_swap_88 : decode cX11_swap 88 = .ok (.iload_n 1, 1) := by decide +kernel
theorem dX11_swap_89 : decode cX11_swap 89 = .ok (.iload 4, 2) := by decide +kernel
theorem dX11_swap_91 : decode cX11_swap 91 = .ok (.iload_n 3, 1) := by decide +kernel
theorem dX11_swap_92 : decode cX11_swap 92 = .ok (.invokevirtual 193, 3) := by decide +kernel
theorem dX11_swap_95 : decode cX11_swap 95 = .ok (.goto 4, 3) := by decide +kernel
theorem dX11_swap_98 : decode cX11_swap 98 = .ok (.iconst (-1), 1) := by decide +kernel
theorem dX11_swap_99 : decode cX11_swap 99 = .ok (.istore 5, 2) := by decide +kernel
theorem dX11_swap_101 : decode cX11_swap 101 = .ok (.iload 5, 2) := by decide +kernel
theorem dX11_swap_103 : decode cX11_swap 103 = .ok (.iconst (-1), 1) := by decide +kernel
theorem dX11_swap_104 : decode cX11_swap 104 = .ok (.if_icmp .eq 15, 3) := by decide +kernel
theorem dX11_swap_107 : decode cX11_swap 107 = .ok (.iload_n 2, 1) := by decide +kernel
theorem dX11_swap_108 : decode cX11_swap 108 = .ok (.ifCond .ne 8, 3) := by decide +kernel
theorem dX11_swap_111 : decode cX11_swap 111 = .ok (.iload 4, 2) := by decide +kernel
theorem dX11_swap_113 : decode cX11_swap 113 = .ok (.goto 5, 3) := by decide +kernel
theorem dX11_swap_116 : decode cX11_swap 116 = .ok (.iload 5, 2) := by decide +kernel
theorem dX11_swap_118 : decode cX11_swap 118 = .ok (.ireturn, 1) := by decide +kernel
theorem dX11_swap_119 : decode cX11_swap 119 = .ok (.iinc 4 1, 3) := by decide +kernel
theorem dX11_swap_122 : decode cX11_swap 122 = .ok (.goto (-60), 3) := by decide +kernel
theorem dX11_swap_125 : decode cX11_swap 125 = .ok (.iconst (-1), 1) := by decide +kernel
theorem dX11_swap_126 : decode cX11_swap 126 = .ok (.ireturn, 1) := by decide +kernel
theorem dX11_always_0 : decode cX11_always 0 = .ok (.iload_n 1, 1) := by decide +kernel
theorem dX11_always_1 : decode cX11_always 1 = .ok (.iload_n 3, 1) := by decide +kernel
theorem dX11_always_2 : decode cX11_always 2 = .ok (.invokestatic 197, 3) := by decide +kernel
theorem dX11_always_5 : decode cX11_always 5 = .ok (.ifCond .eq 13, 3) := by decide +kernel
theorem dX11_always_8 : decode cX11_always 8 = .ok (.iload_n 2, 1) := by decide +kernel
theorem dX11_always_9 : decode cX11_always 9 = .ok (.iconst 0, 1) := by decide +kernel
theorem dX11_always_10 : decode cX11_always 10 = .ok (.bipush 9, 2) := by decide +kernel
theorem dX11_always_12 : decode cX11_always 12 = .ok (.invokestatic 92, 3) := by decide +kernel
theorem dX11_always_15 : decode cX11_always 15 = .ok (.ifCond .ne 6, 3) := by decide +kernel
theorem dX11_always_18 : decode cX11_always 18 = .ok (.bipush (-3), 2) := by decide +kernel
theorem dX11_always_20 : decode cX11_always 20 = .ok (.ireturn, 1) := by decide +kernel
theorem dX11_always_21 : decode cX11_always 21 = .ok (.aload_n 0, 1) := by decide +kernel
theorem dX11_always_22 : decode cX11_always 22 = .ok (.getfield 67, 3) := by decide +kernel
theorem dX11_always_25 : decode cX11_always 25 = .ok (.iload_n 1, 1) := by decide +kernel
theorem dX11_always_26 : decode cX11_always 26 = .ok (.iload_n 2, 1) := by decide +kernel
theorem dX11_always_27 : decode cX11_always 27 = .ok (.iload_n 3, 1) := by decide +kernel
theorem dX11_always_28 : decode cX11_always 28 = .ok (.invokevirtual 201, 3) := by decide +kernel
theorem dX11_always_31 : decode cX11_always 31 = .ok (.ifCond .eq 7, 3) := by decide +kernel
theorem dX11_always_34 : decode cX11_always 34 = .ok (.iconst 1, 1) := by decide +kernel
theorem dX11_always_35 : decode cX11_always 35 = .ok (.goto 4, 3) := by decide +kernel
theorem dX11_always_38 : decode cX11_always 38 = .ok (.iconst 0, 1) := by decide +kernel
theorem dX11_always_39 : decode cX11_always 39 = .ok (.ireturn, 1) := by decide +kernel
theorem dX11_need_0 : decode cX11_need 0 = .ok (.iload_n 1, 1) := by decide +kernel
theorem dX11_need_1 : decode cX11_need 1 = .ok (.iload_n 2, 1) := by decide +kernel
theorem dX11_need_2 : decode cX11_need 2 = .ok (.invokestatic 197, 3) := by decide +kernel
theorem dX11_need_5 : decode cX11_need 5 = .ok (.ifCond .ne 6, 3) := by decide +kernel
theorem dX11_need_8 : decode cX11_need 8 = .ok (.bipush (-3), 2) := by decide +kernel
theorem dX11_need_10 : decode cX11_need 10 = .ok (.ireturn, 1) := by decide +kernel
theorem dX11_need_11 : decode cX11_need 11 = .ok (.iconst 0, 1) := by decide +kernel
theorem dX11_need_12 : decode cX11_need 12 = .ok (.istore_n 3, 1) := by decide +kernel
theorem dX11_need_13 : decode cX11_need 13 = .ok (.iload_n 3, 1) := by decide +kernel
theorem dX11_need_14 : decode cX11_need 14 = .ok (.bipush 9, 2) := by decide +kernel
theorem dX11_need_16 : decode cX11_need 16 = .ok (.if_icmp .gt 24, 3) := by decide +kernel
theorem dX11_need_19 : decode cX11_need 19 = .ok (.aload_n 0, 1) := by decide +kernel
theorem dX11_need_20 : decode cX11_need 20 = .ok (.getfield 67, 3) := by decide +kernel
theorem dX11_need_23 : decode cX11_need 23 = .ok (.iload_n 1, 1) := by decide +kernel
theorem dX11_need_24 : decode cX11_need 24 = .ok (.iload_n 3, 1) := by decide +kernel
theorem dX11_need_25 : decode cX11_need 25 = .ok (.iload_n 2, 1) := by decide +kernel
theorem dX11_need_26 : decode cX11_need 26 = .ok (.invokevirtual 201, 3) := by decide +kernel
theorem dX11_need_29 : decode cX11_need 29 = .ok (.ifCond .eq 5, 3) := by decide +kernel
theorem dX11_need_32 : decode cX11_need 32 = .ok (.iload_n 3, 1) := by decide +kernel
theorem dX11_need_33 : decode cX11_need 33 = .ok (.ireturn, 1) := by decide +kernel
theorem dX11_need_34 : decode cX11_need 34 = .ok (.iinc 3 1, 3) := by decide +kernel
theorem dX11_need_37 : decode cX11_need 37 = .ok (.goto (-24), 3) := by decide +kernel
theorem dX11_need_40 : decode cX11_need 40 = .ok (.iconst (-1), 1) := by decide +kernel
theorem dX11_need_41 : decode cX11_need 41 = .ok (.ireturn, 1) := by decide +kernel
theorem dX11_worst_0 : decode cX11_worst 0 = .ok (.iload_n 1, 1) := by decide +kernel
theorem dX11_worst_1 : decode cX11_worst 1 = .ok (.iload_n 3, 1) := by decide +kernel
theorem dX11_worst_2 : decode cX11_worst 2 = .ok (.invokestatic 197, 3) := by decide +kernel
theorem dX11_worst_5 : decode cX11_worst 5 = .ok (.ifCond .eq 19, 3) := by decide +kernel
theorem dX11_worst_8 : decode cX11_worst 8 = .ok (.iload_n 2, 1) := by decide +kernel
theorem dX11_worst_9 : decode cX11_worst 9 = .ok (.iconst 0, 1) := by decide +kernel
theorem dX11_worst_10 : decode cX11_worst 10 = .ok (.bipush 9, 2) := by decide +kernel
theorem dX11_worst_12 : decode cX11_worst 12 = .ok (.invokestatic 92, 3) := by decide +kernel
theorem dX11_worst_15 : decode cX11_worst 15 = .ok (.ifCond .eq 9, 3) := by decide +kernel
theorem dX11_worst_18 : decode cX11_worst 18 = .ok (.iload 4, 2) := by decide +kernel
theorem dX11_worst_20 : decode cX11_worst 20 = .ok (.iconst (-1), 1) := by decide +kernel
theorem dX11_worst_21 : decode cX11_worst 21 = .ok (.if_icmp .ge 6, 3) := by decide +kernel
theorem dX11_worst_24 : decode cX11_worst 24 = .ok (.bipush (-3), 2) := by decide +kernel
theorem dX11_worst_26 : decode cX11_worst 26 = .ok (.ireturn, 1) := by decide +kernel
theorem dX11_worst_27 : decode cX11_worst 27 = .ok (.iload 4, 2) := by decide +kernel
theorem dX11_worst_29 : decode cX11_worst 29 = .ok (.iconst (-1), 1) := by decide +kernel
theorem dX11_worst_30 : decode cX11_worst 30 = .ok (.if_icmp .ne 16, 3) := by decide +kernel
theorem dX11_worst_33 : decode cX11_worst 33 = .ok (.aload_n 0, 1) := by decide +kernel
theorem dX11_worst_34 : decode cX11_worst 34 = .ok (.getfield 67, 3) := by decide +kernel
theorem dX11_worst_37 : decode cX11_worst 37 = .ok (.iload_n 1, 1) := by decide +kernel
theorem dX11_worst_38 : decode cX11_worst 38 = .ok (.iload_n 2, 1) := by decide +kernel
theorem dX11_worst_39 : decode cX11_worst 39 = .ok (.iload_n 3, 1) := by decide +kernel
theorem dX11_worst_40 : decode cX11_worst 40 = .ok (.invokevirtual 204, 3) := by decide +kernel
theorem dX11_worst_43 : decode cX11_worst 43 = .ok (.goto 15, 3) := by decide +kernel
theorem dX11_worst_46 : decode cX11_worst 46 = .ok (.aload_n 0, 1) := by decide +kernel
theorem dX11_worst_47 : decode cX11_worst 47 = .ok (.getfield 67, 3) := by decide +kernel
theorem dX11_worst_50 : decode cX11_worst 50 = .ok (.iload_n 1, 1) := by decide +kernel
theorem dX11_worst_51 : decode cX11_worst 51 = .ok (.iload_n 2, 1) := by decide +kernel
theorem dX11_worst_52 : decode cX11_worst 52 = .ok (.iload_n 3, 1) := by decide +kernel
theorem dX11_worst_53 : decode cX11_worst 53 = .ok (.iload 4, 2) := by decide +kernel
theorem dX11_worst_55 : decode cX11_worst 55 = .ok (.invokevirtual 207, 3) := by decide +kernel
theorem dX11_worst_58 : decode cX11_worst 58 = .ok (.ireturn, 1) := by decide +kernel
theorem dX11_come_0 : decode cX11_come 0 = .ok (.iload_n 1, 1) := by decide +kernel
theorem dX11_come_1 : decode cX11_come 1 = .ok (.invokestatic 167, 3) := by decide +kernel
theorem dX11_come_4 : decode cX11_come 4 = .ok (.ifCond .eq 14, 3) := by decide +kernel
theorem dX11_come_7 : decode cX11_come 7 = .ok (.aload_n 0, 1) := by decide +kernel
theorem dX11_come_8 : decode cX11_come 8 = .ok (.getfield 74, 3) := by decide +kernel
theorem dX11_come_11 : decode cX11_come 11 = .ok (.iload_n 1, 1) := by decide +kernel
theorem dX11_come_12 : decode cX11_come 12 = .ok (.invokevirtual 211, 3) := by decide +kernel
theorem dX11_come_15 : decode cX11_come 15 = .ok (.goto 5, 3) := by decide +kernel
theorem dX11_come_18 : decode cX11_come 18 = .ok (.bipush (-3), 2) := by decide +kernel
theorem dX11_come_20 : decode cX11_come 20 = .ok (.ireturn, 1) := by decide +kernel
