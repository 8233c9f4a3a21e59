theorem dX0_init_0 : decode cX0_init 0 = .ok (.aload_n 0, 1) := by decide +kernel
theorem dX0_init_1 : decode cX0_init 1 = .ok (.invokespecial 3, 3) := by decide +kernel
theorem dX0_init_4 : decode cX0_init 4 = .ok (.aload_n 0, 1) := by decide +kernel
theorem dX0_init_5 : decode cX0_init 5 = .ok (.bipush 12, 2) := by decide +kernel
theorem dX0_init_7 : decode cX0_init 7 = .ok (.newarray .int, 2) := by decide +kernel
theorem dX0_init_9 : decode cX0_init 9 = .ok (.putfield 9, 3) := by decide +kernel
theorem dX0_init_12 : decode cX0_init 12 = .ok (.aload_n 0, 1) := by decide +kernel
theorem dX0_init_13 : decode cX0_init 13 = .ok (.aload_n 1, 1) := by decide +kernel
theorem dX0_init_14 : decode cX0_init 14 = .ok (.putfield 15, 3) := by decide +kernel
theorem dX0_init_17 : decode cX0_init 17 = .ok (.aload_n 0, 1) := by decide +kernel
theorem dX0_init_18 : decode cX0_init 18 = .ok (.aload_n 2, 1) := by decide +kernel
theorem dX0_init_19 : decode cX0_init 19 = .ok (.putfield 19, 3) := by decide +kernel
theorem dX0_init_22 : decode cX0_init 22 = .ok (.return_, 1) := by decide +kernel
theorem dX0_mostOf_0 : decode cX0_mostOf 0 = .ok (.iconst 0, 1) := by decide +kernel
theorem dX0_mostOf_1 : decode cX0_mostOf 1 = .ok (.istore_n 2, 1) := by decide +kernel
theorem dX0_mostOf_2 : decode cX0_mostOf 2 = .ok (.iload_n 2, 1) := by decide +kernel
theorem dX0_mostOf_3 : decode cX0_mostOf 3 = .ok (.aload_n 0, 1) := by decide +kernel
theorem dX0_mostOf_4 : decode cX0_mostOf 4 = .ok (.getfield 15, 3) := by decide +kernel
theorem dX0_mostOf_7 : decode cX0_mostOf 7 = .ok (.getfield 22, 3) := by decide +kernel
theorem dX0_mostOf_10 : decode cX0_mostOf 10 = .ok (.if_icmp .ge 33, 3) := by decide +kernel
theorem dX0_mostOf_13 : decode cX0_mostOf 13 = .ok (.aload_n 0, 1) := by decide +kernel
theorem dX0_mostOf_14 : decode cX0_mostOf 14 = .ok (.getfield 9, 3) := by decide +kernel
theorem dX0_mostOf_17 : decode cX0_mostOf 17 = .ok (.iload_n 2, 1) := by decide +kernel
theorem dX0_mostOf_18 : decode cX0_mostOf 18 = .ok (.aload_n 0, 1) := by decide +kernel
theorem dX0_mostOf_19 : decode cX0_mostOf 19 = .ok (.getfield 15, 3) := by decide +kernel
theorem dX0_mostOf_22 : decode cX0_mostOf 22 = .ok (.aload_n 0, 1) := by decide +kernel
theorem dX0_mostOf_23 : decode cX0_mostOf 23 = .ok (.getfield 15, 3) := by decide +kernel
theorem dX0_mostOf_26 : decode cX0_mostOf 26 = .ok (.getfield 22, 3) := by decide +kernel
theorem dX0_mostOf_29 : decode cX0_mostOf 29 = .ok (.iconst 1, 1) := by decide +kernel
theorem dX0_mostOf_30 : decode cX0_mostOf 30 = .ok (.isub, 1) := by decide +kernel
theorem dX0_mostOf_31 : decode cX0_mostOf 31 = .ok (.iload_n 2, 1) := by decide +kernel
theorem dX0_mostOf_32 : decode cX0_mostOf 32 = .ok (.isub, 1) := by decide +kernel
theorem dX0_mostOf_33 : decode cX0_mostOf 33 = .ok (.invokevirtual 28, 3) := by decide +kernel
theorem dX0_mostOf_36 : decode cX0_mostOf 36 = .ok (.iastore, 1) := by decide +kernel
theorem dX0_mostOf_37 : decode cX0_mostOf 37 = .ok (.iinc 2 1, 3) := by decide +kernel
theorem dX0_mostOf_40 : decode cX0_mostOf 40 = .ok (.goto (-38), 3) := by decide +kernel
theorem dX0_mostOf_43 : decode cX0_mostOf 43 = .ok (.aload_n 0, 1) := by decide +kernel
theorem dX0_mostOf_44 : decode cX0_mostOf 44 = .ok (.getfield 19, 3) := by decide +kernel
theorem dX0_mostOf_47 : decode cX0_mostOf 47 = .ok (.iconst 0, 1) := by decide +kernel
theorem dX0_mostOf_48 : decode cX0_mostOf 48 = .ok (.iconst 1, 1) := by decide +kernel
theorem dX0_mostOf_49 : decode cX0_mostOf 49 = .ok (.iastore, 1) := by decide +kernel
theorem dX0_mostOf_50 : decode cX0_mostOf 50 = .ok (.iconst 1, 1) := by decide +kernel
theorem dX0_mostOf_51 : decode cX0_mostOf 51 = .ok (.aload_n 0, 1) := by decide +kernel
theorem dX0_mostOf_52 : decode cX0_mostOf 52 = .ok (.getfield 15, 3) := by decide +kernel
theorem dX0_mostOf_55 : decode cX0_mostOf 55 = .ok (.getfield 22, 3) := by decide +kernel
theorem dX0_mostOf_58 : decode cX0_mostOf 58 = .ok (.ishl, 1) := by decide +kernel
theorem dX0_mostOf_59 : decode cX0_mostOf 59 = .ok (.istore_n 2, 1) := by decide +kernel
theorem dX0_mostOf_60 : decode cX0_mostOf 60 = .ok (.iconst 1, 1) := by decide +kernel
theorem dX0_mostOf_61 : decode cX0_mostOf 61 = .ok (.istore_n 3, 1) := by decide +kernel
theorem dX0_mostOf_62 : decode cX0_mostOf 62 = .ok (.iload_n 3, 1) := by decide +kernel
theorem dX0_mostOf_63 : decode cX0_mostOf 63 = .ok (.iload_n 2, 1) := by decide +kernel
theorem dX0_mostOf_64 : decode cX0_mostOf 64 = .ok (.if_icmp .ge 21, 3) := by decide +kernel
theorem dX0_mostOf_67 : decode cX0_mostOf 67 = .ok (.aload_n 0, 1) := by decide +kernel
theorem dX0_mostOf_68 : decode cX0_mostOf 68 = .ok (.getfield 19, 3) := by decide +kernel
theorem dX0_mostOf_71 : decode cX0_mostOf 71 = .ok (.iload_n 3, 1) := by decide +kernel
theorem dX0_mostOf_72 : decode cX0_mostOf 72 = .ok (.aload_n 0, 1) := by decide +kernel
theorem dX0_mostOf_73 : decode cX0_mostOf 73 = .ok (.iload_n 3, 1) := by decide +kernel
theorem dX0_mostOf_74 : decode cX0_mostOf 74 = .ok (.iload_n 1, 1) := by decide +kernel
theorem dX0_mostOf_75 : decode cX0_mostOf 75 = .ok (.invokevirtual 32, 3) := by decide +kernel
theorem dX0_mostOf_78 : decode cX0_mostOf 78 = .ok (.iastore, 1) := by decide +kernel
theorem dX0_mostOf_79 : decode cX0_mostOf 79 = .ok (.iinc 3 1, 3) := by decide +kernel
theorem dX0_mostOf_82 : decode cX0_mostOf 82 = .ok (.goto (-20), 3) := by decide +kernel
theorem dX0_mostOf_85 : decode cX0_mostOf 85 = .ok (.aload_n 0, 1) := by decide +kernel
theorem dX0_mostOf_86 : decode cX0_mostOf 86 = .ok (.getfield 19, 3) := by decide +kernel
theorem dX0_mostOf_89 : decode cX0_mostOf 89 = .ok (.iload_n 2, 1) := by decide +kernel
theorem dX0_mostOf_90 : decode cX0_mostOf 90 = .ok (.iconst 1, 1) := by decide +kernel
theorem dX0_mostOf_91 : decode cX0_mostOf 91 = .ok (.isub, 1) := by decide +kernel
theorem dX0_mostOf_92 : decode cX0_mostOf 92 = .ok (.iaload, 1) := by decide +kernel
theorem dX0_mostOf_93 : decode cX0_mostOf 93 = .ok (.iconst 1, 1) := by decide +kernel
theorem dX0_mostOf_94 : decode cX0_mostOf 94 = .ok (.ishr, 1) := by decide +kernel
theorem dX0_mostOf_95 : decode cX0_mostOf 95 = .ok (.ireturn, 1) := by decide +kernel
theorem dX0_lotOfRow_0 : decode cX0_lotOfRow 0 = .ok (.iconst 1, 1) := by decide +kernel
theorem dX0_lotOfRow_1 : decode cX0_lotOfRow 1 = .ok (.aload_n 0, 1) := by decide +kernel
theorem dX0_lotOfRow_2 : decode cX0_lotOfRow 2 = .ok (.getfield 15, 3) := by decide +kernel
theorem dX0_lotOfRow_5 : decode cX0_lotOfRow 5 = .ok (.getfield 22, 3) := by decide +kernel
theorem dX0_lotOfRow_8 : decode cX0_lotOfRow 8 = .ok (.ishl, 1) := by decide +kernel
theorem dX0_lotOfRow_9 : decode cX0_lotOfRow 9 = .ok (.iconst 1, 1) := by decide +kernel
theorem dX0_lotOfRow_10 : decode cX0_lotOfRow 10 = .ok (.isub, 1) := by decide +kernel
theorem dX0_lotOfRow_11 : decode cX0_lotOfRow 11 = .ok (.istore_n 3, 1) := by decide +kernel
theorem dX0_lotOfRow_12 : decode cX0_lotOfRow 12 = .ok (.aload_n 0, 1) := by decide +kernel
theorem dX0_lotOfRow_13 : decode cX0_lotOfRow 13 = .ok (.getfield 19, 3) := by decide +kernel
theorem dX0_lotOfRow_16 : decode cX0_lotOfRow 16 = .ok (.iload_n 3, 1) := by decide +kernel
theorem dX0_lotOfRow_17 : decode cX0_lotOfRow 17 = .ok (.iaload, 1) := by decide +kernel
theorem dX0_lotOfRow_18 : decode cX0_lotOfRow 18 = .ok (.iconst 1, 1) := by decide +kernel
theorem dX0_lotOfRow_19 : decode cX0_lotOfRow 19 = .ok (.ishr, 1) := by decide +kernel
theorem dX0_lotOfRow_20 : decode cX0_lotOfRow 20 = .ok (.istore 4, 2) := by decide +kernel
theorem dX0_lotOfRow_22 : decode cX0_lotOfRow 22 = .ok (.iconst 0, 1) := by decide +kernel
theorem dX0_lotOfRow_23 : decode cX0_lotOfRow 23 = .ok (.istore 5, 2) := by decide +kernel
theorem dX0_lotOfRow_25 : decode cX0_lotOfRow 25 = .ok (.iload_n 3, 1) := by decide +kernel
theorem dX0_lotOfRow_26 : decode cX0_lotOfRow 26 = .ok (.istore 6, 2) := by decide +kernel
theorem dX0_lotOfRow_28 : decode cX0_lotOfRow 28 = .ok (.iload 6, 2) := by decide +kernel
theorem dX0_lotOfRow_30 : decode cX0_lotOfRow 30 = .ok (.ifCond .le 78, 3) := by decide +kernel
theorem dX0_lotOfRow_33 : decode cX0_lotOfRow 33 = .ok (.iload 6, 2) := by decide +kernel
theorem dX0_lotOfRow_35 : decode cX0_lotOfRow 35 = .ok (.iload_n 3, 1) := by decide +kernel
theorem dX0_lotOfRow_36 : decode cX0_lotOfRow 36 = .ok (.iconst (-1), 1) := by decide +kernel
theorem dX0_lotOfRow_37 : decode cX0_lotOfRow 37 = .ok (.ixor, 1) := by decide +kernel
theorem dX0_lotOfRow_38 : decode cX0_lotOfRow 38 = .ok (.iand, 1) := by decide +kernel
theorem dX0_lotOfRow_39 : decode cX0_lotOfRow 39 = .ok (.ifCond .ne 63, 3) := by decide +kernel
theorem dX0_lotOfRow_42 : decode cX0_lotOfRow 42 = .ok (.iload 6, 2) := by decide +kernel
theorem dX0_lotOfRow_44 : decode cX0_lotOfRow 44 = .ok (.invokestatic 36, 3) := by decide +kernel
theorem dX0_lotOfRow_47 : decode cX0_lotOfRow 47 = .ok (.iload_n 1, 1) := by decide +kernel
theorem dX0_lotOfRow_48 : decode cX0_lotOfRow 48 = .ok (.if_icmp .ne 54, 3) := by decide +kernel
theorem dX0_lotOfRow_51 : decode cX0_lotOfRow 51 = .ok (.aload_n 0, 1) := by decide +kernel
theorem dX0_lotOfRow_52 : decode cX0_lotOfRow 52 = .ok (.getfield 19, 3) := by decide +kernel
theorem dX0_lotOfRow_55 : decode cX0_lotOfRow 55 = .ok (.iload_n 3, 1) := by decide +kernel
theorem dX0_lotOfRow_56 : decode cX0_lotOfRow 56 = .ok (.iload 6, 2) := by decide +kernel
theorem dX0_lotOfRow_58 : decode cX0_lotOfRow 58 = .ok (.ixor, 1) := by decide +kernel
theorem dX0_lotOfRow_59 : decode cX0_lotOfRow 59 = .ok (.iaload, 1) := by decide +kernel
theorem dX0_lotOfRow_60 : decode cX0_lotOfRow 60 = .ok (.iconst 1, 1) := by decide +kernel
theorem dX0_lotOfRow_61 : decode cX0_lotOfRow 61 = .ok (.ishr, 1) := by decide +kernel
theorem dX0_lotOfRow_62 : decode cX0_lotOfRow 62 = .ok (.iload 4, 2) := by decide +kernel
theorem dX0_lotOfRow_64 : decode cX0_lotOfRow 64 = .ok (.iconst 1, 1) := by decide +kernel
theorem dX0_lotOfRow_65 : decode cX0_lotOfRow 65 = .ok (.isub, 1) := by decide +kernel
theorem dX0_lotOfRow_66 : decode cX0_lotOfRow 66 = .ok (.if_icmp .ne 36, 3) := by decide +kernel
theorem dX0_lotOfRow_69 : decode cX0_lotOfRow 69 = .ok (.aload_n 0, 1) := by decide +kernel
theorem dX0_lotOfRow_70 : decode cX0_lotOfRow 70 = .ok (.iload 6, 2) := by decide +kernel
theorem dX0_lotOfRow_72 : decode cX0_lotOfRow 72 = .ok (.invokevirtual 41, 3) := by decide +kernel
theorem dX0_lotOfRow_75 : decode cX0_lotOfRow 75 = .ok (.ifCond .ne 27, 3) := by decide +kernel
theorem dX0_lotOfRow_78 : decode cX0_lotOfRow 78 = .ok (.iload 5, 2) := by decide +kernel
theorem dX0_lotOfRow_80 : decode cX0_lotOfRow 80 = .ok (.iload_n 2, 1) := by decide +kernel
theorem dX0_lotOfRow_81 : decode cX0_lotOfRow 81 = .ok (.if_icmp .ne 10, 3) := by decide +kernel
theorem dX0_lotOfRow_84 : decode cX0_lotOfRow 84 = .ok (.aload_n 0, 1) := by decide +kernel
theorem dX0_lotOfRow_85 : decode cX0_lotOfRow 85 = .ok (.iload 6, 2) := by decide +kernel
theorem dX0_lotOfRow_87 : decode cX0_lotOfRow 87 = .ok (.invokevirtual 44, 3) := by decide +kernel
theorem dX0_lotOfRow_90 : decode cX0_lotOfRow 90 = .ok (.ireturn, 1) := by decide +kernel
theorem dX0_lotOfRow_91 : decode cX0_lotOfRow 91 = .ok (.iinc 5 1, 3) := by decide +kernel
theorem dX0_lotOfRow_94 : decode cX0_lotOfRow 94 = .ok (.iinc 4 (-1), 3) := by decide +kernel
theorem dX0_lotOfRow_97 : decode cX0_lotOfRow 97 = .ok (.iload_n 3, 1) := by decide +kernel
theorem dX0_lotOfRow_98 : decode cX0_lotOfRow 98 = .ok (.iload 6, 2) := by decide +kernel
theorem dX0_lotOfRow_100 : decode cX0_lotOfRow 100 = .ok (.ixor, 1) := by decide +kernel
theorem dX0_lotOfRow_101 : decode cX0_lotOfRow 101 = .ok (.istore_n 3, 1) := by decide +kernel
theorem dX0_lotOfRow_102 : decode cX0_lotOfRow 102 = .ok (.iinc 6 (-1), 3) := by decide +kernel
theorem dX0_lotOfRow_105 : decode cX0_lotOfRow 105 = .ok (.goto (-77), 3) := by decide +kernel
theorem dX0_lotOfRow_108 : decode cX0_lotOfRow 108 = .ok (.iconst (-1), 1) := by decide +kernel
theorem dX0_lotOfRow_109 : decode cX0_lotOfRow 109 = .ok (.ireturn, 1) := by decide +kernel
theorem dX0_pack_0 : decode cX0_pack 0 = .ok (.iconst 0, 1) := by decide +kernel
theorem dX0_pack_1 : decode cX0_pack 1 = .ok (.istore_n 3, 1) := by decide +kernel
theorem dX0_pack_2 : decode cX0_pack 2 = .ok (.iconst 0, 1) := by decide +kernel
theorem dX0_pack_3 : decode cX0_pack 3 = .ok (.istore 4, 2) := by decide +kernel
theorem dX0_pack_5 : decode cX0_pack 5 = .ok (.iconst 0, 1) := by decide +kernel
theorem dX0_pack_6 : decode cX0_pack 6 = .ok (.istore 5, 2) := by decide +kernel
theorem dX0_pack_8 : decode cX0_pack 8 = .ok (.iload 5, 2) := by decide +kernel
theorem dX0_pack_10 : decode cX0_pack 10 = .ok (.aload_n 0, 1) := by decide +kernel
theorem dX0_pack_11 : decode cX0_pack 11 = .ok (.getfield 15, 3) := by decide +kernel
theorem dX0_pack_14 : decode cX0_pack 14 = .ok (.getfield 22, 3) := by decide +kernel
theorem dX0_pack_17 : decode cX0_pack 17 = .ok (.if_icmp .ge 50, 3) := by decide +kernel
theorem dX0_pack_20 : decode cX0_pack 20 = .ok (.iload_n 1, 1) := by decide +kernel
theorem dX0_pack_21 : decode cX0_pack 21 = .ok (.iload 5, 2) := by decide +kernel
theorem dX0_pack_23 : decode cX0_pack 23 = .ok (.ishr, 1) := by decide +kernel
theorem dX0_pack_24 : decode cX0_pack 24 = .ok (.iconst 1, 1) := by decide +kernel
theorem dX0_pack_25 : decode cX0_pack 25 = .ok (.iand, 1) := by decide +kernel
theorem dX0_pack_26 : decode cX0_pack 26 = .ok (.iconst 1, 1) := by decide +kernel
theorem dX0_pack_27 : decode cX0_pack 27 = .ok (.if_icmp .ne 34, 3) := by decide +kernel
theorem dX0_pack_30 : decode cX0_pack 30 = .ok (.aload_n 0, 1) := by decide +kernel
theorem dX0_pack_31 : decode cX0_pack 31 = .ok (.getfield 19, 3) := by decide +kernel
theorem dX0_pack_34 : decode cX0_pack 34 = .ok (.iload_n 1, 1) := by decide +kernel
theorem dX0_pack_35 : decode cX0_pack 35 = .ok (.iconst 1, 1) := by decide +kernel
theorem dX0_pack_36 : decode cX0_pack 36 = .ok (.iload 5, 2) := by decide +kernel
theorem dX0_pack_38 : decode cX0_pack 38 = .ok (.ishl, 1) := by decide +kernel
theorem dX0_pack_39 : decode cX0_pack 39 = .ok (.ixor, 1) := by decide +kernel
theorem dX0_pack_40 : decode cX0_pack 40 = .ok (.iaload, 1) := by decide +kernel
theorem dX0_pack_41 : decode cX0_pack 41 = .ok (.istore 6, 2) := by decide +kernel
theorem dX0_pack_43 : decode cX0_pack 43 = .ok (.iload_n 3, 1) := by decide +kernel
theorem dX0_pack_44 : decode cX0_pack 44 = .ok (.iload 6, 2) := by decide +kernel
theorem dX0_pack_46 : decode cX0_pack 46 = .ok (.iconst 1, 1) := by decide +kernel
theorem dX0_pack_47 : decode cX0_pack 47 = .ok (.ishr, 1) := by decide +kernel
theorem dX0_pack_48 : decode cX0_pack 48 = .ok (.invokestatic 47, 3) := by decide +kernel
theorem dX0_pack_51 : decode cX0_pack 51 = .ok (.istore_n 3, 1) := by decide +kernel
theorem dX0_pack_52 : decode cX0_pack 52 = .ok (.iload 4, 2) := by decide +kernel
theorem dX0_pack_54 : decode cX0_pack 54 = .ok (.iload 6, 2) := by decide +kernel
theorem dX0_pack_56 : decode cX0_pack 56 = .ok (.iconst 1, 1) := by decide +kernel
theorem dX0_pack_57 : decode cX0_pack 57 = .ok (.iand, 1) := by decide +kernel
theorem dX0_pack_58 : decode cX0_pack 58 = .ok (.ior, 1) := by decide +kernel
theorem dX0_pack_59 : decode cX0_pack 59 = .ok (.istore 4, 2) := by decide +kernel
theorem dX0_pack_61 : decode cX0_pack 61 = .ok (.iinc 5 1, 3) := by decide +kernel
theorem dX0_pack_64 : decode cX0_pack 64 = .ok (.goto (-56), 3) := by decide +kernel
theorem dX0_pack_67 : decode cX0_pack 67 = .ok (.iload_n 1, 1) := by decide +kernel
theorem dX0_pack_68 : decode cX0_pack 68 = .ok (.invokestatic 36, 3) := by decide +kernel
theorem dX0_pack_71 : decode cX0_pack 71 = .ok (.istore 5, 2) := by decide +kernel
theorem dX0_pack_73 : decode cX0_pack 73 = .ok (.iload 4, 2) := by decide +kernel
theorem dX0_pack_75 : decode cX0_pack 75 = .ok (.ifCond .eq 15, 3) := by decide +kernel
theorem dX0_pack_78 : decode cX0_pack 78 = .ok (.iload_n 2, 1) := by decide +kernel
theorem dX0_pack_79 : decode cX0_pack 79 = .ok (.iconst 1, 1) := by decide +kernel
theorem dX0_pack_80 : decode cX0_pack 80 = .ok (.if_icmp .lt 10, 3) := by decide +kernel
theorem dX0_pack_83 : decode cX0_pack 83 = .ok (.iload 5, 2) := by decide +kernel
theorem dX0_pack_85 : decode cX0_pack 85 = .ok (.iload_n 2, 1) := by decide +kernel
theorem dX0_pack_86 : decode cX0_pack 86 = .ok (.irem, 1) := by decide +kernel
theorem dX0_pack_87 : decode cX0_pack 87 = .ok (.ifCond .eq 10, 3) := by decide +kernel
theorem dX0_pack_90 : decode cX0_pack 90 = .ok (.iload_n 3, 1) := by decide +kernel
theorem dX0_pack_91 : decode cX0_pack 91 = .ok (.iconst 1, 1) := by decide +kernel
theorem dX0_pack_92 : decode cX0_pack 92 = .ok (.ishl, 1) := by decide +kernel
theorem dX0_pack_93 : decode cX0_pack 93 = .ok (.iload 4, 2) := by decide +kernel
theorem dX0_pack_95 : decode cX0_pack 95 = .ok (.ior, 1) := by decide +kernel
theorem dX0_pack_96 : decode cX0_pack 96 = .ok (.ireturn, 1) := by decide +kernel
theorem dX0_pack_97 : decode cX0_pack 97 = .ok (.aload_n 0, 1) := by decide +kernel
theorem dX0_pack_98 : decode cX0_pack 98 = .ok (.iload_n 1, 1) := by decide +kernel
theorem dX0_pack_99 : decode cX0_pack 99 = .ok (.invokevirtual 41, 3) := by decide +kernel
theorem dX0_pack_102 : decode cX0_pack 102 = .ok (.ifCond .ne 14, 3) := by decide +kernel
theorem dX0_pack_105 : decode cX0_pack 105 = .ok (.iload 5, 2) := by decide +kernel
theorem dX0_pack_107 : decode cX0_pack 107 = .ok (.iload_n 2, 1) := by decide +kernel
theorem dX0_pack_108 : decode cX0_pack 108 = .ok (.idiv, 1) := by decide +kernel
theorem dX0_pack_109 : decode cX0_pack 109 = .ok (.iconst 1, 1) := by decide +kernel
theorem dX0_pack_110 : decode cX0_pack 110 = .ok (.ishl, 1) := by decide +kernel
theorem dX0_pack_111 : decode cX0_pack 111 = .ok (.iconst 1, 1) := by decide +kernel
theorem dX0_pack_112 : decode cX0_pack 112 = .ok (.ior, 1) := by decide +kernel
theorem dX0_pack_113 : decode cX0_pack 113 = .ok (.goto 6, 3) := by decide +kernel
theorem dX0_pack_116 : decode cX0_pack 116 = .ok (.iload_n 3, 1) := by decide +kernel
theorem dX0_pack_117 : decode cX0_pack 117 = .ok (.iconst 1, 1) := by decide +kernel
theorem dX0_pack_118 : decode cX0_pack 118 = .ok (.ishl, 1) := by decide +kernel
theorem dX0_pack_119 : decode cX0_pack 119 = .ok (.ireturn, 1) := by decide +kernel
theorem dX0_restOf_0 : decode cX0_restOf 0 = .ok (.iconst 0, 1) := by decide +kernel
theorem dX0_restOf_1 : decode cX0_restOf 1 = .ok (.istore_n 2, 1) := by decide +kernel
theorem dX0_restOf_2 : decode cX0_restOf 2 = .ok (.iconst 0, 1) := by decide +kernel
theorem dX0_restOf_3 : decode cX0_restOf 3 = .ok (.istore_n 3, 1) := by decide +kernel
theorem dX0_restOf_4 : decode cX0_restOf 4 = .ok (.iload_n 3, 1) := by decide +kernel
theorem dX0_restOf_5 : decode cX0_restOf 5 = .ok (.aload_n 0, 1) := by decide +kernel
theorem dX0_restOf_6 : decode cX0_restOf 6 = .ok (.getfield 15, 3) := by decide +kernel
theorem dX0_restOf_9 : decode cX0_restOf 9 = .ok (.getfield 22, 3) := by decide +kernel
theorem dX0_restOf_12 : decode cX0_restOf 12 = .ok (.if_icmp .ge 37, 3) := by decide +kernel
theorem dX0_restOf_15 : decode cX0_restOf 15 = .ok (.iload_n 1, 1) := by decide +kernel
theorem dX0_restOf_16 : decode cX0_restOf 16 = .ok (.iload_n 3, 1) := by decide +kernel
theorem dX0_restOf_17 : decode cX0_restOf 17 = .ok (.ishr, 1) := by decide +kernel
theorem dX0_restOf_18 : decode cX0_restOf 18 = .ok (.iconst 1, 1) := by decide +kernel
theorem dX0_restOf_19 : decode cX0_restOf 19 = .ok (.iand, 1) := by decide +kernel
theorem dX0_restOf_20 : decode cX0_restOf 20 = .ok (.iconst 1, 1) := by decide +kernel
theorem dX0_restOf_21 : decode cX0_restOf 21 = .ok (.if_icmp .ne 22, 3) := by decide +kernel
theorem dX0_restOf_24 : decode cX0_restOf 24 = .ok (.iload_n 2, 1) := by decide +kernel
theorem dX0_restOf_25 : decode cX0_restOf 25 = .ok (.aload_n 0, 1) := by decide +kernel
theorem dX0_restOf_26 : decode cX0_restOf 26 = .ok (.getfield 9, 3) := by decide +kernel
theorem dX0_restOf_29 : decode cX0_restOf 29 = .ok (.iload_n 3, 1) := by decide +kernel
theorem dX0_restOf_30 : decode cX0_restOf 30 = .ok (.iaload, 1) := by decide +kernel
theorem dX0_restOf_31 : decode cX0_restOf 31 = .ok (.iadd, 1) := by decide +kernel
theorem dX0_restOf_32 : decode cX0_restOf 32 = .ok (.aload_n 0, 1) := by decide +kernel
theorem dX0_restOf_33 : decode cX0_restOf 33 = .ok (.getfield 15, 3) := by decide +kernel
theorem dX0_restOf_36 : decode cX0_restOf 36 = .ok (.getfield 52, 3) := by decide +kernel
theorem dX0_restOf_39 : decode cX0_restOf 39 = .ok (.invokestatic 55, 3) := by decide +kernel
theorem dX0_restOf_42 : decode cX0_restOf 42 = .ok (.istore_n 2, 1) := by decide +kernel
theorem dX0_restOf_43 : decode cX0_restOf 43 = .ok (.iinc 3 1, 3) := by decide +kernel
theorem dX0_restOf_46 : decode cX0_restOf 46 = .ok (.goto (-42), 3) := by decide +kernel
theorem dX0_restOf_49 : decode cX0_restOf 49 = .ok (.iload_n 2, 1) := by decide +kernel
theorem dX0_restOf_50 : decode cX0_restOf 50 = .ok (.ireturn, 1) := by decide +kernel
theorem dX0_asLot_0 : decode cX0_asLot 0 = .ok (.iconst 0, 1) := by decide +kernel
theorem dX0_asLot_1 : decode cX0_asLot 1 = .ok (.istore_n 2, 1) := by decide +kernel
theorem dX0_asLot_2 : decode cX0_asLot 2 = .ok (.iconst 0, 1) := by decide +kernel
theorem dX0_asLot_3 : decode cX0_asLot 3 = .ok (.istore_n 3, 1) := by decide +kernel
theorem dX0_asLot_4 : decode cX0_asLot 4 = .ok (.iload_n 3, 1) := by decide +kernel
theorem dX0_asLot_5 : decode cX0_asLot 5 = .ok (.aload_n 0, 1) := by decide +kernel
theorem dX0_asLot_6 : decode cX0_asLot 6 = .ok (.getfield 15, 3) := by decide +kernel
theorem dX0_asLot_9 : decode cX0_asLot 9 = .ok (.getfield 22, 3) := by decide +kernel
theorem dX0_asLot_12 : decode cX0_asLot 12 = .ok (.if_icmp .ge 29, 3) := by decide +kernel
theorem dX0_asLot_15 : decode cX0_asLot 15 = .ok (.iload_n 2, 1) := by decide +kernel
theorem dX0_asLot_16 : decode cX0_asLot 16 = .ok (.iload_n 1, 1) := by decide +kernel
theorem dX0_asLot_17 : decode cX0_asLot 17 = .ok (.iload_n 3, 1) := by decide +kernel
theorem dX0_asLot_18 : decode cX0_asLot 18 = .ok (.ishr, 1) := by decide +kernel
theorem dX0_asLot_19 : decode cX0_asLot 19 = .ok (.iconst 1, 1) := by decide +kernel
theorem dX0_asLot_20 : decode cX0_asLot 20 = .ok (.iand, 1) := by decide +kernel
theorem dX0_asLot_21 : decode cX0_asLot 21 = .ok (.aload_n 0, 1) := by decide +kernel
theorem dX0_asLot_22 : decode cX0_asLot 22 = .ok (.getfield 15, 3) := by decide +kernel
theorem dX0_asLot_25 : decode cX0_asLot 25 = .ok (.getfield 22, 3) := by decide +kernel
theorem dX0_asLot_28 : decode cX0_asLot 28 = .ok (.iconst 1, 1) := by decide +kernel
theorem dX0_asLot_29 : decode cX0_asLot 29 = .ok (.isub, 1) := by decide +kernel
theorem dX0_asLot_30 : decode cX0_asLot 30 = .ok (.iload_n 3, 1) := by decide +kernel
theorem dX0_asLot_31 : decode cX0_asLot 31 = .ok (.isub, 1) := by decide +kernel
theorem dX0_asLot_32 : decode cX0_asLot 32 = .ok (.ishl, 1) := by decide +kernel
theorem dX0_asLot_33 : decode cX0_asLot 33 = .ok (.ior, 1) := by decide +kernel
theorem dX0_asLot_34 : decode cX0_asLot 34 = .ok (.istore_n 2, 1) := by decide +kernel
theorem dX0_asLot_35 : decode cX0_asLot 35 = .ok (.iinc 3 1, 3) := by decide +kernel
theorem dX0_asLot_38 : decode cX0_asLot 38 = .ok (.goto (-34), 3) := by decide +kernel
theorem dX0_asLot_41 : decode cX0_asLot 41 = .ok (.iload_n 2, 1) := by decide +kernel
theorem dX0_asLot_42 : decode cX0_asLot 42 = .ok (.ireturn, 1) := by decide +kernel
theorem dX1_init_0 : decode cX1_init 0 = .ok (.aload_n 0, 1) := by decide +kernel
theorem dX1_init_1 : decode cX1_init 1 = .ok (.invokespecial 3, 3) := by decide +kernel
theorem dX1_init_4 : decode cX1_init 4 = .ok (.aload_n 0, 1) := by decide +kernel
theorem dX1_init_5 : decode cX1_init 5 = .ok (.bipush 12, 2) := by decide +kernel
theorem dX1_init_7 : decode cX1_init 7 = .ok (.newarray .int, 2) := by decide +kernel
theorem dX1_init_9 : decode cX1_init 9 = .ok (.putfield 9, 3) := by decide +kernel
theorem dX1_init_12 : decode cX1_init 12 = .ok (.aload_n 0, 1) := by decide +kernel
theorem dX1_init_13 : decode cX1_init 13 = .ok (.iconst 0, 1) := by decide +kernel
theorem dX1_init_14 : decode cX1_init 14 = .ok (.putfield 15, 3) := by decide +kernel
theorem dX1_init_17 : decode cX1_init 17 = .ok (.aload_n 0, 1) := by decide +kernel
theorem dX1_init_18 : decode cX1_init 18 = .ok (.iconst 2, 1) := by decide +kernel
theorem dX1_init_19 : decode cX1_init 19 = .ok (.bipush 12, 2) := by decide +kernel
theorem dX1_init_21 : decode cX1_init 21 = .ok (.multianewarray 19 2, 4) := by decide +kernel
theorem dX1_init_25 : decode cX1_init 25 = .ok (.putfield 21, 3) := by decide +kernel
theorem dX1_init_28 : decode cX1_init 28 = .ok (.aload_n 0, 1) := by decide +kernel
theorem dX1_init_29 : decode cX1_init 29 = .ok (.iconst 2, 1) := by decide +kernel
theorem dX1_init_30 : decode cX1_init 30 = .ok (.newarray .int, 2) := by decide +kernel
theorem dX1_init_32 : decode cX1_init 32 = .ok (.dup, 1) := by decide +kernel
theorem dX1_init_33 : decode cX1_init 33 = .ok (.iconst 0, 1) := by decide +kernel
theorem dX1_init_34 : decode cX1_init 34 = .ok (.iconst (-1), 1) := by decide +kernel
theorem dX1_init_35 : decode cX1_init 35 = .ok (.iastore, 1) := by decide +kernel
theorem dX1_init_36 : decode cX1_init 36 = .ok (.dup, 1) := by decide +kernel
theorem dX1_init_37 : decode cX1_init 37 = .ok (.iconst 1, 1) := by decide +kernel
theorem dX1_init_38 : decode cX1_init 38 = .ok (.iconst (-1), 1) := by decide +kernel
theorem dX1_init_39 : decode cX1_init 39 = .ok (.iastore, 1) := by decide +kernel
theorem dX1_init_40 : decode cX1_init 40 = .ok (.putfield 24, 3) := by decide +kernel
theorem dX1_init_43 : decode cX1_init 43 = .ok (.return_, 1) := by decide +kernel
theorem dX1_enter_0 : decode cX1_enter 0 = .ok (.aload_n 0, 1) := by decide +kernel
theorem dX1_enter_1 : decode cX1_enter 1 = .ok (.getfield 15, 3) := by decide +kernel
theorem dX1_enter_4 : decode cX1_enter 4 = .ok (.bipush 12, 2) := by decide +kernel
theorem dX1_enter_6 : decode cX1_enter 6 = .ok (.if_icmp .lt 5, 3) := by decide +kernel
theorem dX1_enter_9 : decode cX1_enter 9 = .ok (.iconst 0, 1) := by decide +kernel
theorem dX1_enter_10 : decode cX1_enter 10 = .ok (.ireturn, 1) := by decide +kernel
theorem dX1_enter_11 : decode cX1_enter 11 = .ok (.aload_n 0, 1) := by decide +kernel
theorem dX1_enter_12 : decode cX1_enter 12 = .ok (.getfield 9, 3) := by decide +kernel
theorem dX1_enter_15 : decode cX1_enter 15 = .ok (.aload_n 0, 1) := by decide +kernel
theorem dX1_enter_16 : decode cX1_enter 16 = .ok (.getfield 15, 3) := by decide +kernel
theorem dX1_enter_19 : decode cX1_enter 19 = .ok (.iload_n 1, 1) := by decide +kernel
theorem dX1_enter_20 : decode cX1_enter 20 = .ok (.iastore, 1) := by decide +kernel
theorem dX1_enter_21 : decode cX1_enter 21 = .ok (.aload_n 0, 1) := by decide +kernel
theorem dX1_enter_22 : decode cX1_enter 22 = .ok (.dup, 1) := by decide +kernel
theorem dX1_enter_23 : decode cX1_enter 23 = .ok (.getfield 15, 3) := by decide +kernel
theorem dX1_enter_26 : decode cX1_enter 26 = .ok (.iconst 1, 1) := by decide +kernel
theorem dX1_enter_27 : decode cX1_enter 27 = .ok (.iadd, 1) := by decide +kernel
theorem dX1_enter_28 : decode cX1_enter 28 = .ok (.putfield 15, 3) := by decide +kernel
theorem dX1_enter_31 : decode cX1_enter 31 = .ok (.iconst 1, 1) := by decide +kernel
theorem dX1_enter_32 : decode cX1_enter 32 = .ok (.ireturn, 1) := by decide +kernel
theorem dX1_save_0 : decode cX1_save 0 = .ok (.aload_n 0, 1) := by decide +kernel
theorem dX1_save_1 : decode cX1_save 1 = .ok (.getfield 9, 3) := by decide +kernel
theorem dX1_save_4 : decode cX1_save 4 = .ok (.iconst 0, 1) := by decide +kernel
theorem dX1_save_5 : decode cX1_save 5 = .ok (.aload_n 0, 1) := by decide +kernel
theorem dX1_save_6 : decode cX1_save 6 = .ok (.getfield 21, 3) := by decide +kernel
theorem dX1_save_9 : decode cX1_save 9 = .ok (.iload_n 1, 1) := by decide +kernel
theorem dX1_save_10 : decode cX1_save 10 = .ok (.aaload, 1) := by decide +kernel
theorem dX1_save_11 : decode cX1_save 11 = .ok (.iconst 0, 1) := by decide +kernel
theorem dX1_save_12 : decode cX1_save 12 = .ok (.aload_n 0, 1) := by decide +kernel
theorem dX1_save_13 : decode cX1_save 13 = .ok (.getfield 15, 3) := by decide +kernel
theorem dX1_save_16 : decode cX1_save 16 = .ok (.invokestatic 27, 3) := by decide +kernel
theorem dX1_save_19 : decode cX1_save 19 = .ok (.aload_n 0, 1) := by decide +kernel
theorem dX1_save_20 : decode cX1_save 20 = .ok (.getfield 24, 3) := by decide +kernel
theorem dX1_save_23 : decode cX1_save 23 = .ok (.iload_n 1, 1) := by decide +kernel
theorem dX1_save_24 : decode cX1_save 24 = .ok (.aload_n 0, 1) := by decide +kernel
theorem dX1_save_25 : decode cX1_save 25 = .ok (.getfield 15, 3) := by decide +kernel
theorem dX1_save_28 : decode cX1_save 28 = .ok (.iastore, 1) := by decide +kernel
theorem dX1_save_29 : decode cX1_save 29 = .ok (.return_, 1) := by decide +kernel
theorem dX1_restore_0 : decode cX1_restore 0 = .ok (.aload_n 0, 1) := by decide +kernel
theorem dX1_restore_1 : decode cX1_restore 1 = .ok (.getfield 24, 3) := by decide +kernel
theorem dX1_restore_4 : decode cX1_restore 4 = .ok (.iload_n 1, 1) := by decide +kernel
theorem dX1_restore_5 : decode cX1_restore 5 = .ok (.iaload, 1) := by decide +kernel
theorem dX1_restore_6 : decode cX1_restore 6 = .ok (.iconst (-1), 1) := by decide +kernel
theorem dX1_restore_7 : decode cX1_restore 7 = .ok (.if_icmp .ne 5, 3) := by decide +kernel
theorem dX1_restore_10 : decode cX1_restore 10 = .ok (.iconst 0, 1) := by decide +kernel
theorem dX1_restore_11 : decode cX1_restore 11 = .ok (.ireturn, 1) := by decide +kernel
theorem dX1_restore_12 : decode cX1_restore 12 = .ok (.aload_n 0, 1) := by decide +kernel
theorem dX1_restore_13 : decode cX1_restore 13 = .ok (.aload_n 0, 1) := by decide +kernel
theorem dX1_restore_14 : decode cX1_restore 14 = .ok (.getfield 24, 3) := by decide +kernel
theorem dX1_restore_17 : decode cX1_restore 17 = .ok (.iload_n 1, 1) := by decide +kernel
theorem dX1_restore_18 : decode cX1_restore 18 = .ok (.iaload, 1) := by decide +kernel
theorem dX1_restore_19 : decode cX1_restore 19 = .ok (.putfield 15, 3) := by decide +kernel
theorem dX1_restore_22 : decode cX1_restore 22 = .ok (.aload_n 0, 1) := by decide +kernel
theorem dX1_restore_23 : decode cX1_restore 23 = .ok (.getfield 21, 3) := by decide +kernel
theorem dX1_restore_26 : decode cX1_restore 26 = .ok (.iload_n 1, 1) := by decide +kernel
theorem dX1_restore_27 : decode cX1_restore 27 = .ok (.aaload, 1) := by decide +kernel
theorem dX1_restore_28 : decode cX1_restore 28 = .ok (.iconst 0, 1) := by decide +kernel
theorem dX1_restore_29 : decode cX1_restore 29 = .ok (.aload_n 0, 1) := by decide +kernel
theorem dX1_restore_30 : decode cX1_restore 30 = .ok (.getfield 9, 3) := by decide +kernel
theorem dX1_restore_33 : decode cX1_restore 33 = .ok (.iconst 0, 1) := by decide +kernel
theorem dX1_restore_34 : decode cX1_restore 34 = .ok (.aload_n 0, 1) := by decide +kernel
theorem dX1_restore_35 : decode cX1_restore 35 = .ok (.getfield 15, 3) := by decide +kernel
theorem dX1_restore_38 : decode cX1_restore 38 = .ok (.invokestatic 27, 3) := by decide +kernel
theorem dX1_restore_41 : decode cX1_restore 41 = .ok (.iconst 1, 1) := by decide +kernel
theorem dX1_restore_42 : decode cX1_restore 42 = .ok (.ireturn, 1) := by decide +kernel
theorem dX1_forget_0 : decode cX1_forget 0 = .ok (.aload_n 0, 1) := by decide +kernel
theorem dX1_forget_1 : decode cX1_forget 1 = .ok (.iconst 0, 1) := by decide +kernel
theorem dX1_forget_2 : decode cX1_forget 2 = .ok (.putfield 15, 3) := by decide +kernel
theorem dX1_forget_5 : decode cX1_forget 5 = .ok (.aload_n 0, 1) := by decide +kernel
theorem dX1_forget_6 : decode cX1_forget 6 = .ok (.getfield 24, 3) := by decide +kernel
theorem dX1_forget_9 : decode cX1_forget 9 = .ok (.iconst (-1), 1) := by decide +kernel
theorem dX1_forget_10 : decode cX1_forget 10 = .ok (.invokestatic 33, 3) := by decide +kernel
theorem dX1_forget_13 : decode cX1_forget 13 = .ok (.return_, 1) := by decide +kernel
theorem dX2_init_0 : decode cX2_init 0 = .ok (.aload_n 0, 1) := by decide +kernel
theorem dX2_init_1 : decode cX2_init 1 = .ok (.invokespecial 3, 3) := by decide +kernel
theorem dX2_init_4 : decode cX2_init 4 = .ok (.aload_n 0, 1) := by decide +kernel
theorem dX2_init_5 : decode cX2_init 5 = .ok (.bipush 21, 2) := by decide +kernel
theorem dX2_init_7 : decode cX2_init 7 = .ok (.bipush 10, 2) := by decide +kernel
theorem dX2_init_9 : decode cX2_init 9 = .ok (.multianewarray 9 2, 4) := by decide +kernel
theorem dX2_init_13 : decode cX2_init 13 = .ok (.putfield 11, 3) := by decide +kernel
theorem dX2_init_16 : decode cX2_init 16 = .ok (.aload_n 0, 1) := by decide +kernel
theorem dX2_init_17 : decode cX2_init 17 = .ok (.bipush 10, 2) := by decide +kernel
theorem dX2_init_19 : decode cX2_init 19 = .ok (.newarray .int, 2) := by decide +kernel
theorem dX2_init_21 : decode cX2_init 21 = .ok (.putfield 16, 3) := by decide +kernel
theorem dX2_init_24 : decode cX2_init 24 = .ok (.aload_n 0, 1) := by decide +kernel
theorem dX2_init_25 : decode cX2_init 25 = .ok (.iconst 0, 1) := by decide +kernel
theorem dX2_init_26 : decode cX2_init 26 = .ok (.putfield 20, 3) := by decide +kernel
theorem dX2_init_29 : decode cX2_init 29 = .ok (.aload_n 0, 1) := by decide +kernel
theorem dX2_init_30 : decode cX2_init 30 = .ok (.aload_n 1, 1) := by decide +kernel
theorem dX2_init_31 : decode cX2_init 31 = .ok (.putfield 24, 3) := by decide +kernel
theorem dX2_init_34 : decode cX2_init 34 = .ok (.aload_n 0, 1) := by decide +kernel
theorem dX2_init_35 : decode cX2_init 35 = .ok (.getfield 11, 3) := by decide +kernel
theorem dX2_init_38 : decode cX2_init 38 = .ok (.iconst 0, 1) := by decide +kernel
theorem dX2_init_39 : decode cX2_init 39 = .ok (.aaload, 1) := by decide +kernel
theorem dX2_init_40 : decode cX2_init 40 = .ok (.iconst 0, 1) := by decide +kernel
theorem dX2_init_41 : decode cX2_init 41 = .ok (.iconst 1, 1) := by decide +kernel
theorem dX2_init_42 : decode cX2_init 42 = .ok (.iastore, 1) := by decide +kernel
theorem dX2_init_43 : decode cX2_init 43 = .ok (.return_, 1) := by decide +kernel
theorem dX2_firstWith_0 : decode cX2_firstWith 0 = .ok (.iconst 0, 1) := by decide +kernel
theorem dX2_firstWith_1 : decode cX2_firstWith 1 = .ok (.istore_n 2, 1) := by decide +kernel
theorem dX2_firstWith_2 : decode cX2_firstWith 2 = .ok (.iload_n 2, 1) := by decide +kernel
theorem dX2_firstWith_3 : decode cX2_firstWith 3 = .ok (.aload_n 0, 1) := by decide +kernel
theorem dX2_firstWith_4 : decode cX2_firstWith 4 = .ok (.getfield 24, 3) := by decide +kernel
theorem dX2_firstWith_7 : decode cX2_firstWith 7 = .ok (.getfield 28, 3) := by decide +kernel
theorem dX2_firstWith_10 : decode cX2_firstWith 10 = .ok (.if_icmp .ge 37, 3) := by decide +kernel
theorem dX2_firstWith_13 : decode cX2_firstWith 13 = .ok (.aload_n 0, 1) := by decide +kernel
theorem dX2_firstWith_14 : decode cX2_firstWith 14 = .ok (.iload_n 2, 1) := by decide +kernel
theorem dX2_firstWith_15 : decode cX2_firstWith 15 = .ok (.aload_n 0, 1) := by decide +kernel
theorem dX2_firstWith_16 : decode cX2_firstWith 16 = .ok (.getfield 24, 3) := by decide +kernel
theorem dX2_firstWith_19 : decode cX2_firstWith 19 = .ok (.iload_n 2, 1) := by decide +kernel
theorem dX2_firstWith_20 : decode cX2_firstWith 20 = .ok (.invokevirtual 33, 3) := by decide +kernel
theorem dX2_firstWith_23 : decode cX2_firstWith 23 = .ok (.invokevirtual 37, 3) := by decide +kernel
theorem dX2_firstWith_26 : decode cX2_firstWith 26 = .ok (.aload_n 0, 1) := by decide +kernel
theorem dX2_firstWith_27 : decode cX2_firstWith 27 = .ok (.iload_n 2, 1) := by decide +kernel
theorem dX2_firstWith_28 : decode cX2_firstWith 28 = .ok (.iconst 1, 1) := by decide +kernel
theorem dX2_firstWith_29 : decode cX2_firstWith 29 = .ok (.iadd, 1) := by decide +kernel
theorem dX2_firstWith_30 : decode cX2_firstWith 30 = .ok (.iload_n 1, 1) := by decide +kernel
theorem dX2_firstWith_31 : decode cX2_firstWith 31 = .ok (.invokevirtual 41, 3) := by decide +kernel
theorem dX2_firstWith_34 : decode cX2_firstWith 34 = .ok (.ifCond .eq 7, 3) := by decide +kernel
theorem dX2_firstWith_37 : decode cX2_firstWith 37 = .ok (.iload_n 2, 1) := by decide +kernel
theorem dX2_firstWith_38 : decode cX2_firstWith 38 = .ok (.iconst 1, 1) := by decide +kernel
theorem dX2_firstWith_39 : decode cX2_firstWith 39 = .ok (.iadd, 1) := by decide +kernel
theorem dX2_firstWith_40 : decode cX2_firstWith 40 = .ok (.ireturn, 1) := by decide +kernel
theorem dX2_firstWith_41 : decode cX2_firstWith 41 = .ok (.iinc 2 1, 3) := by decide +kernel
theorem dX2_firstWith_44 : decode cX2_firstWith 44 = .ok (.goto (-42), 3) := by decide +kernel
theorem dX2_firstWith_47 : decode cX2_firstWith 47 = .ok (.iconst (-1), 1) := by decide +kernel
theorem dX2_firstWith_48 : decode cX2_firstWith 48 = .ok (.ireturn, 1) := by decide +kernel
theorem dX2_mostWithout_0 : decode cX2_mostWithout 0 = .ok (.aload_n 0, 1) := by decide +kernel
theorem dX2_mostWithout_1 : decode cX2_mostWithout 1 = .ok (.getfield 16, 3) := by decide +kernel
theorem dX2_mostWithout_4 : decode cX2_mostWithout 4 = .ok (.iconst 0, 1) := by decide +kernel
theorem dX2_mostWithout_5 : decode cX2_mostWithout 5 = .ok (.invokestatic 45, 3) := by decide +kernel
theorem dX2_mostWithout_8 : decode cX2_mostWithout 8 = .ok (.iconst 0, 1) := by decide +kernel
theorem dX2_mostWithout_9 : decode cX2_mostWithout 9 = .ok (.istore_n 2, 1) := by decide +kernel
theorem dX2_mostWithout_10 : decode cX2_mostWithout 10 = .ok (.iload_n 2, 1) := by decide +kernel
theorem dX2_mostWithout_11 : decode cX2_mostWithout 11 = .ok (.aload_n 0, 1) := by decide +kernel
theorem dX2_mostWithout_12 : decode cX2_mostWithout 12 = .ok (.getfield 24, 3) := by decide +kernel
theorem dX2_mostWithout_15 : decode cX2_mostWithout 15 = .ok (.getfield 28, 3) := by decide +kernel
theorem dX2_mostWithout_18 : decode cX2_mostWithout 18 = .ok (.if_icmp .ge 26, 3) := by decide +kernel
theorem dX2_mostWithout_21 : decode cX2_mostWithout 21 = .ok (.aload_n 0, 1) := by decide +kernel
theorem dX2_mostWithout_22 : decode cX2_mostWithout 22 = .ok (.getfield 16, 3) := by decide +kernel
theorem dX2_mostWithout_25 : decode cX2_mostWithout 25 = .ok (.aload_n 0, 1) := by decide +kernel
theorem dX2_mostWithout_26 : decode cX2_mostWithout 26 = .ok (.getfield 24, 3) := by decide +kernel
theorem dX2_mostWithout_29 : decode cX2_mostWithout 29 = .ok (.iload_n 2, 1) := by decide +kernel
theorem dX2_mostWithout_30 : decode cX2_mostWithout 30 = .ok (.invokevirtual 33, 3) := by decide +kernel
theorem dX2_mostWithout_33 : decode cX2_mostWithout 33 = .ok (.dup2, 1) := by decide +kernel
theorem dX2_mostWithout_34 : decode cX2_mostWithout 34 = .ok (.iaload, 1) := by decide +kernel
theorem dX2_mostWithout_35 : decode cX2_mostWithout 35 = .ok (.iconst 1, 1) := by decide +kernel
theorem dX2_mostWithout_36 : decode cX2_mostWithout 36 = .ok (.iadd, 1) := by decide +kernel
theorem dX2_mostWithout_37 : decode cX2_mostWithout 37 = .ok (.iastore, 1) := by decide +kernel
theorem dX2_mostWithout_38 : decode cX2_mostWithout 38 = .ok (.iinc 2 1, 3) := by decide +kernel
theorem dX2_mostWithout_41 : decode cX2_mostWithout 41 = .ok (.goto (-31), 3) := by decide +kernel
theorem dX2_mostWithout_44 : decode cX2_mostWithout 44 = .ok (.aload_n 0, 1) := by decide +kernel
theorem dX2_mostWithout_45 : decode cX2_mostWithout 45 = .ok (.iconst 0, 1) := by decide +kernel
theorem dX2_mostWithout_46 : decode cX2_mostWithout 46 = .ok (.putfield 20, 3) := by decide +kernel
theorem dX2_mostWithout_49 : decode cX2_mostWithout 49 = .ok (.aload_n 0, 1) := by decide +kernel
theorem dX2_mostWithout_50 : decode cX2_mostWithout 50 = .ok (.iload_n 1, 1) := by decide +kernel
theorem dX2_mostWithout_51 : decode cX2_mostWithout 51 = .ok (.iconst 0, 1) := by decide +kernel
theorem dX2_mostWithout_52 : decode cX2_mostWithout 52 = .ok (.iconst 0, 1) := by decide +kernel
theorem dX2_mostWithout_53 : decode cX2_mostWithout 53 = .ok (.aload_n 0, 1) := by decide +kernel
theorem dX2_mostWithout_54 : decode cX2_mostWithout 54 = .ok (.getfield 24, 3) := by decide +kernel
theorem dX2_mostWithout_57 : decode cX2_mostWithout 57 = .ok (.getfield 28, 3) := by decide +kernel
theorem dX2_mostWithout_60 : decode cX2_mostWithout 60 = .ok (.invokevirtual 51, 3) := by decide +kernel
theorem dX2_mostWithout_63 : decode cX2_mostWithout 63 = .ok (.aload_n 0, 1) := by decide +kernel
theorem dX2_mostWithout_64 : decode cX2_mostWithout 64 = .ok (.getfield 20, 3) := by decide +kernel
theorem dX2_mostWithout_67 : decode cX2_mostWithout 67 = .ok (.ireturn, 1) := by decide +kernel
theorem dX2_hand_0 : decode cX2_hand 0 = .ok (.aload_n 0, 1) := by decide +kernel
theorem dX2_hand_1 : decode cX2_hand 1 = .ok (.aload_n 0, 1) := by decide +kernel
theorem dX2_hand_2 : decode cX2_hand 2 = .ok (.getfield 20, 3) := by decide +kernel
theorem dX2_hand_5 : decode cX2_hand 5 = .ok (.iload_n 3, 1) := by decide +kernel
theorem dX2_hand_6 : decode cX2_hand 6 = .ok (.invokestatic 55, 3) := by decide +kernel
theorem dX2_hand_9 : decode cX2_hand 9 = .ok (.putfield 20, 3) := by decide +kernel
theorem dX2_hand_12 : decode cX2_hand 12 = .ok (.iload_n 3, 1) := by decide +kernel
theorem dX2_hand_13 : decode cX2_hand 13 = .ok (.bipush 20, 2) := by decide +kernel
theorem dX2_hand_15 : decode cX2_hand 15 = .ok (.if_icmp .lt 4, 3) := by decide +kernel
theorem dX2_hand_18 : decode cX2_hand 18 = .ok (.return_, 1) := by decide +kernel
theorem dX2_hand_19 : decode cX2_hand 19 = .ok (.iload 4, 2) := by decide +kernel
theorem dX2_hand_21 : decode cX2_hand 21 = .ok (.istore 5, 2) := by decide +kernel
theorem dX2_hand_23 : decode cX2_hand 23 = .ok (.iload 4, 2) := by decide +kernel
theorem dX2_hand_25 : decode cX2_hand 25 = .ok (.aload_n 0, 1) := by decide +kernel
theorem dX2_hand_26 : decode cX2_hand 26 = .ok (.iload_n 2, 1) := by decide +kernel
theorem dX2_hand_27 : decode cX2_hand 27 = .ok (.invokevirtual 61, 3) := by decide +kernel
theorem dX2_hand_30 : decode cX2_hand 30 = .ok (.isub, 1) := by decide +kernel
theorem dX2_hand_31 : decode cX2_hand 31 = .ok (.istore 6, 2) := by decide +kernel
theorem dX2_hand_33 : decode cX2_hand 33 = .ok (.iload_n 2, 1) := by decide +kernel
theorem dX2_hand_34 : decode cX2_hand 34 = .ok (.istore 7, 2) := by decide +kernel
theorem dX2_hand_36 : decode cX2_hand 36 = .ok (.iload 7, 2) := by decide +kernel
theorem dX2_hand_38 : decode cX2_hand 38 = .ok (.aload_n 0, 1) := by decide +kernel
theorem dX2_hand_39 : decode cX2_hand 39 = .ok (.getfield 24, 3) := by decide +kernel
theorem dX2_hand_42 : decode cX2_hand 42 = .ok (.getfield 64, 3) := by decide +kernel
theorem dX2_hand_45 : decode cX2_hand 45 = .ok (.if_icmp .ge 93, 3) := by decide +kernel
theorem dX2_hand_48 : decode cX2_hand 48 = .ok (.iload_n 3, 1) := by decide +kernel
theorem dX2_hand_49 : decode cX2_hand 49 = .ok (.iload 5, 2) := by decide +kernel
theorem dX2_hand_51 : decode cX2_hand 51 = .ok (.iadd, 1) := by decide +kernel
theorem dX2_hand_52 : decode cX2_hand 52 = .ok (.aload_n 0, 1) := by decide +kernel
theorem dX2_hand_53 : decode cX2_hand 53 = .ok (.getfield 20, 3) := by decide +kernel
theorem dX2_hand_56 : decode cX2_hand 56 = .ok (.if_icmp .le 82, 3) := by decide +kernel
theorem dX2_hand_59 : decode cX2_hand 59 = .ok (.iload 6, 2) := by decide +kernel
theorem dX2_hand_61 : decode cX2_hand 61 = .ok (.ifCond .le 35, 3) := by decide +kernel
theorem dX2_hand_64 : decode cX2_hand 64 = .ok (.aload_n 0, 1) := by decide +kernel
theorem dX2_hand_65 : decode cX2_hand 65 = .ok (.iload_n 3, 1) := by decide +kernel
theorem dX2_hand_66 : decode cX2_hand 66 = .ok (.iload 7, 2) := by decide +kernel
theorem dX2_hand_68 : decode cX2_hand 68 = .ok (.invokevirtual 37, 3) := by decide +kernel
theorem dX2_hand_71 : decode cX2_hand 71 = .ok (.aload_n 0, 1) := by decide +kernel
theorem dX2_hand_72 : decode cX2_hand 72 = .ok (.iload_n 3, 1) := by decide +kernel
theorem dX2_hand_73 : decode cX2_hand 73 = .ok (.iconst 1, 1) := by decide +kernel
theorem dX2_hand_74 : decode cX2_hand 74 = .ok (.iadd, 1) := by decide +kernel
theorem dX2_hand_75 : decode cX2_hand 75 = .ok (.iload_n 1, 1) := by decide +kernel
theorem dX2_hand_76 : decode cX2_hand 76 = .ok (.invokevirtual 41, 3) := by decide +kernel
theorem dX2_hand_79 : decode cX2_hand 79 = .ok (.ifCond .ne 17, 3) := by decide +kernel
theorem dX2_hand_82 : decode cX2_hand 82 = .ok (.aload_n 0, 1) := by decide +kernel
theorem dX2_hand_83 : decode cX2_hand 83 = .ok (.iload_n 1, 1) := by decide +kernel
theorem dX2_hand_84 : decode cX2_hand 84 = .ok (.iload 7, 2) := by decide +kernel
theorem dX2_hand_86 : decode cX2_hand 86 = .ok (.iload_n 3, 1) := by decide +kernel
theorem dX2_hand_87 : decode cX2_hand 87 = .ok (.iconst 1, 1) := by decide +kernel
theorem dX2_hand_88 : decode cX2_hand 88 = .ok (.iadd, 1) := by decide +kernel
theorem dX2_hand_89 : decode cX2_hand 89 = .ok (.iload 5, 2) := by decide +kernel
theorem dX2_hand_91 : decode cX2_hand 91 = .ok (.iconst 1, 1) := by decide +kernel
theorem dX2_hand_92 : decode cX2_hand 92 = .ok (.isub, 1) := by decide +kernel
theorem dX2_hand_93 : decode cX2_hand 93 = .ok (.invokevirtual 51, 3) := by decide +kernel
theorem dX2_hand_96 : decode cX2_hand 96 = .ok (.iload 5, 2) := by decide +kernel
theorem dX2_hand_98 : decode cX2_hand 98 = .ok (.iload 6, 2) := by decide +kernel
theorem dX2_hand_100 : decode cX2_hand 100 = .ok (.isub, 1) := by decide +kernel
theorem dX2_hand_101 : decode cX2_hand 101 = .ok (.istore 5, 2) := by decide +kernel
theorem dX2_hand_103 : decode cX2_hand 103 = .ok (.iload 7, 2) := by decide +kernel
theorem dX2_hand_105 : decode cX2_hand 105 = .ok (.iconst 1, 1) := by decide +kernel
theorem dX2_hand_106 : decode cX2_hand 106 = .ok (.iadd, 1) := by decide +kernel
theorem dX2_hand_107 : decode cX2_hand 107 = .ok (.aload_n 0, 1) := by decide +kernel
theorem dX2_hand_108 : decode cX2_hand 108 = .ok (.getfield 24, 3) := by decide +kernel
theorem dX2_hand_111 : decode cX2_hand 111 = .ok (.getfield 64, 3) := by decide +kernel
theorem dX2_hand_114 : decode cX2_hand 114 = .ok (.if_icmp .ge 15, 3) := by decide +kernel
theorem dX2_hand_117 : decode cX2_hand 117 = .ok (.aload_n 0, 1) := by decide +kernel
theorem dX2_hand_118 : decode cX2_hand 118 = .ok (.getfield 16, 3) := by decide +kernel
theorem dX2_hand_121 : decode cX2_hand 121 = .ok (.iload 7, 2) := by decide +kernel
theorem dX2_hand_123 : decode cX2_hand 123 = .ok (.iconst 1, 1) := by decide +kernel
theorem dX2_hand_124 : decode cX2_hand 124 = .ok (.iadd, 1) := by decide +kernel
theorem dX2_hand_125 : decode cX2_hand 125 = .ok (.iaload, 1) := by decide +kernel
theorem dX2_hand_126 : decode cX2_hand 126 = .ok (.goto 4, 3) := by decide +kernel
theorem dX2_hand_129 : decode cX2_hand 129 = .ok (.iconst 0, 1) := by decide +kernel
theorem dX2_hand_130 : decode cX2_hand 130 = .ok (.istore 6, 2) := by decide +kernel
theorem dX2_hand_132 : decode cX2_hand 132 = .ok (.iinc 7 1, 3) := by decide +kernel
theorem dX2_hand_135 : decode cX2_hand 135 = .ok (.goto (-99), 3) := by decide +kernel
theorem dX2_hand_138 : decode cX2_hand 138 = .ok (.return_, 1) := by decide +kernel
theorem dX2_supplyAbove_0 : decode cX2_supplyAbove 0 = .ok (.iconst 0, 1) := by decide +kernel
theorem dX2_supplyAbove_1 : decode cX2_supplyAbove 1 = .ok (.istore_n 2, 1) := by decide +kernel
theorem dX2_supplyAbove_2 : decode cX2_supplyAbove 2 = .ok (.iload_n 1, 1) := by decide +kernel
theorem dX2_supplyAbove_3 : decode cX2_supplyAbove 3 = .ok (.iconst 1, 1) := by decide +kernel
theorem dX2_supplyAbove_4 : decode cX2_supplyAbove 4 = .ok (.iadd, 1) := by decide +kernel
theorem dX2_supplyAbove_5 : decode cX2_supplyAbove 5 = .ok (.istore_n 3, 1) := by decide +kernel
theorem dX2_supplyAbove_6 : decode cX2_supplyAbove 6 = .ok (.iload_n 3, 1) := by decide +kernel
theorem dX2_supplyAbove_7 : decode cX2_supplyAbove 7 = .ok (.aload_n 0, 1) := by decide +kernel
theorem dX2_supplyAbove_8 : decode cX2_supplyAbove 8 = .ok (.getfield 24, 3) := by decide +kernel
theorem dX2_supplyAbove_11 : decode cX2_supplyAbove 11 = .ok (.getfield 64, 3) := by decide +kernel
theorem dX2_supplyAbove_14 : decode cX2_supplyAbove 14 = .ok (.if_icmp .ge 18, 3) := by decide +kernel
theorem dX2_supplyAbove_17 : decode cX2_supplyAbove 17 = .ok (.iload_n 2, 1) := by decide +kernel
theorem dX2_supplyAbove_18 : decode cX2_supplyAbove 18 = .ok (.aload_n 0, 1) := by decide +kernel
theorem dX2_supplyAbove_19 : decode cX2_supplyAbove 19 = .ok (.getfield 16, 3) := by decide +kernel
theorem dX2_supplyAbove_22 : decode cX2_supplyAbove 22 = .ok (.iload_n 3, 1) := by decide +kernel
theorem dX2_supplyAbove_23 : decode cX2_supplyAbove 23 = .ok (.iaload, 1) := by decide +kernel
theorem dX2_supplyAbove_24 : decode cX2_supplyAbove 24 = .ok (.iadd, 1) := by decide +kernel
theorem dX2_supplyAbove_25 : decode cX2_supplyAbove 25 = .ok (.istore_n 2, 1) := by decide +kernel
theorem dX2_supplyAbove_26 : decode cX2_supplyAbove 26 = .ok (.iinc 3 1, 3) := by decide +kernel
theorem dX2_supplyAbove_29 : decode cX2_supplyAbove 29 = .ok (.goto (-23), 3) := by decide +kernel
theorem dX2_supplyAbove_32 : decode cX2_supplyAbove 32 = .ok (.iload_n 2, 1) := by decide +kernel
theorem dX2_supplyAbove_33 : decode cX2_supplyAbove 33 = .ok (.ireturn, 1) := by decide +kernel
theorem dX2_addOne_0 : decode cX2_addOne 0 = .ok (.aload_n 0, 1) := by decide +kernel
theorem dX2_addOne_1 : decode cX2_addOne 1 = .ok (.getfield 11, 3) := by decide +kernel
theorem dX2_addOne_4 : decode cX2_addOne 4 = .ok (.iload_n 1, 1) := by decide +kernel
theorem dX2_addOne_5 : decode cX2_addOne 5 = .ok (.aaload, 1) := by decide +kernel
theorem dX2_addOne_6 : decode cX2_addOne 6 = .ok (.astore_n 3, 1) := by decide +kernel
theorem dX2_addOne_7 : decode cX2_addOne 7 = .ok (.aload_n 0, 1) := by decide +kernel
theorem dX2_addOne_8 : decode cX2_addOne 8 = .ok (.getfield 11, 3) := by decide +kernel
theorem dX2_addOne_11 : decode cX2_addOne 11 = .ok (.iload_n 1, 1) := by decide +kernel
theorem dX2_addOne_12 : decode cX2_addOne 12 = .ok (.iconst 1, 1) := by decide +kernel
theorem dX2_addOne_13 : decode cX2_addOne 13 = .ok (.iadd, 1) := by decide +kernel
theorem dX2_addOne_14 : decode cX2_addOne 14 = .ok (.aaload, 1) := by decide +kernel
theorem dX2_addOne_15 : decode cX2_addOne 15 = .ok (.astore 4, 2) := by decide +kernel
theorem dX2_addOne_17 : decode cX2_addOne 17 = .ok (.iconst 0, 1) := by decide +kernel
theorem dX2_addOne_18 : decode cX2_addOne 18 = .ok (.istore 5, 2) := by decide +kernel
theorem dX2_addOne_20 : decode cX2_addOne 20 = .ok (.iload 5, 2) := by decide +kernel
theorem dX2_addOne_22 : decode cX2_addOne 22 = .ok (.aload_n 0, 1) := by decide +kernel
theorem dX2_addOne_23 : decode cX2_addOne 23 = .ok (.getfield 24, 3) := by decide +kernel
theorem dX2_addOne_26 : decode cX2_addOne 26 = .ok (.getfield 64, 3) := by decide +kernel
theorem dX2_addOne_29 : decode cX2_addOne 29 = .ok (.if_icmp .ge 49, 3) := by decide +kernel
theorem dX2_addOne_32 : decode cX2_addOne 32 = .ok (.iload 5, 2) := by decide +kernel
theorem dX2_addOne_34 : decode cX2_addOne 34 = .ok (.iload_n 2, 1) := by decide +kernel
theorem dX2_addOne_35 : decode cX2_addOne 35 = .ok (.isub, 1) := by decide +kernel
theorem dX2_addOne_36 : decode cX2_addOne 36 = .ok (.aload_n 0, 1) := by decide +kernel
theorem dX2_addOne_37 : decode cX2_addOne 37 = .ok (.getfield 24, 3) := by decide +kernel
theorem dX2_addOne_40 : decode cX2_addOne 40 = .ok (.getfield 64, 3) := by decide +kernel
theorem dX2_addOne_43 : decode cX2_addOne 43 = .ok (.iadd, 1) := by decide +kernel
theorem dX2_addOne_44 : decode cX2_addOne 44 = .ok (.aload_n 0, 1) := by decide +kernel
theorem dX2_addOne_45 : decode cX2_addOne 45 = .ok (.getfield 24, 3) := by decide +kernel
theorem dX2_addOne_48 : decode cX2_addOne 48 = .ok (.getfield 64, 3) := by decide +kernel
theorem dX2_addOne_51 : decode cX2_addOne 51 = .ok (.invokestatic 67, 3) := by decide +kernel
theorem dX2_addOne_54 : decode cX2_addOne 54 = .ok (.istore 6, 2) := by decide +kernel
theorem dX2_addOne_56 : decode cX2_addOne 56 = .ok (.aload 4, 2) := by decide +kernel
theorem dX2_addOne_58 : decode cX2_addOne 58 = .ok (.iload 5, 2) := by decide +kernel
theorem dX2_addOne_60 : decode cX2_addOne 60 = .ok (.aload_n 3, 1) := by decide +kernel
theorem dX2_addOne_61 : decode cX2_addOne 61 = .ok (.iload 5, 2) := by decide +kernel
theorem dX2_addOne_63 : decode cX2_addOne 63 = .ok (.iaload, 1) := by decide +kernel
theorem dX2_addOne_64 : decode cX2_addOne 64 = .ok (.aload_n 3, 1) := by decide +kernel
theorem dX2_addOne_65 : decode cX2_addOne 65 = .ok (.iload 6, 2) := by decide +kernel
theorem dX2_addOne_67 : decode cX2_addOne 67 = .ok (.iaload, 1) := by decide +kernel
theorem dX2_addOne_68 : decode cX2_addOne 68 = .ok (.iconst 1, 1) := by decide +kernel
theorem dX2_addOne_69 : decode cX2_addOne 69 = .ok (.ishl, 1) := by decide +kernel
theorem dX2_addOne_70 : decode cX2_addOne 70 = .ok (.ior, 1) := by decide +kernel
theorem dX2_addOne_71 : decode cX2_addOne 71 = .ok (.iastore, 1) := by decide +kernel
theorem dX2_addOne_72 : decode cX2_addOne 72 = .ok (.iinc 5 1, 3) := by decide +kernel
theorem dX2_addOne_75 : decode cX2_addOne 75 = .ok (.goto (-55), 3) := by decide +kernel
theorem dX2_addOne_78 : decode cX2_addOne 78 = .ok (.return_, 1) := by decide +kernel
theorem dX2_hasTen_0 : decode cX2_hasTen 0 = .ok (.aload_n 0, 1) := by decide +kernel
theorem dX2_hasTen_1 : decode cX2_hasTen 1 = .ok (.getfield 11, 3) := by decide +kernel
theorem dX2_hasTen_4 : decode cX2_hasTen 4 = .ok (.iload_n 1, 1) := by decide +kernel
theorem dX2_hasTen_5 : decode cX2_hasTen 5 = .ok (.aaload, 1) := by decide +kernel
theorem dX2_hasTen_6 : decode cX2_hasTen 6 = .ok (.iconst 0, 1) := by decide +kernel
theorem dX2_hasTen_7 : decode cX2_hasTen 7 = .ok (.iaload, 1) := by decide +kernel
theorem dX2_hasTen_8 : decode cX2_hasTen 8 = .ok (.iload_n 2, 1) := by decide +kernel
theorem dX2_hasTen_9 : decode cX2_hasTen 9 = .ok (.ishr, 1) := by decide +kernel
theorem dX2_hasTen_10 : decode cX2_hasTen 10 = .ok (.iconst 1, 1) := by decide +kernel
theorem dX2_hasTen_11 : decode cX2_hasTen 11 = .ok (.iand, 1) := by decide +kernel
theorem dX2_hasTen_12 : decode cX2_hasTen 12 = .ok (.iconst 1, 1) := by decide +kernel
theorem dX2_hasTen_13 : decode cX2_hasTen 13 = .ok (.if_icmp .ne 7, 3) := by decide +kernel
theorem dX2_hasTen_16 : decode cX2_hasTen 16 = .ok (.iconst 1, 1) := by decide +kernel
theorem dX2_hasTen_17 : decode cX2_hasTen 17 = .ok (.goto 4, 3) := by decide +kernel
theorem dX2_hasTen_20 : decode cX2_hasTen 20 = .ok (.iconst 0, 1) := by decide +kernel
theorem dX2_hasTen_21 : decode cX2_hasTen 21 = .ok (.ireturn, 1) := by decide +kernel
theorem dX3_init_0 : decode cX3_init 0 = .ok (.aload_n 0, 1) := by decide +kernel
theorem dX3_init_1 : decode cX3_init 1 = .ok (.invokespecial 3, 3) := by decide +kernel
theorem dX3_init_4 : decode cX3_init 4 = .ok (.aload_n 0, 1) := by decide +kernel
theorem dX3_init_5 : decode cX3_init 5 = .ok (.iconst 0, 1) := by decide +kernel
theorem dX3_init_6 : decode cX3_init 6 = .ok (.putfield 9, 3) := by decide +kernel
theorem dX3_init_9 : decode cX3_init 9 = .ok (.aload_n 0, 1) := by decide +kernel
theorem dX3_init_10 : decode cX3_init 10 = .ok (.iconst 1, 1) := by decide +kernel
theorem dX3_init_11 : decode cX3_init 11 = .ok (.putfield 15, 3) := by decide +kernel
theorem dX3_init_14 : decode cX3_init 14 = .ok (.aload_n 0, 1) := by decide +kernel
theorem dX3_init_15 : decode cX3_init 15 = .ok (.aload_n 1, 1) := by decide +kernel
theorem dX3_init_16 : decode cX3_init 16 = .ok (.putfield 18, 3) := by decide +kernel
theorem dX3_init_19 : decode cX3_init 19 = .ok (.aload_n 0, 1) := by decide +kernel
theorem dX3_init_20 : decode cX3_init 20 = .ok (.aload_n 2, 1) := by decide +kernel
theorem dX3_init_21 : decode cX3_init 21 = .ok (.putfield 22, 3) := by decide +kernel
theorem dX3_init_24 : decode cX3_init 24 = .ok (.return_, 1) := by decide +kernel
theorem dX3_fits_0 : decode cX3_fits 0 = .ok (.aload_n 0, 1) := by decide +kernel
theorem dX3_fits_1 : decode cX3_fits 1 = .ok (.getfield 18, 3) := by decide +kernel
theorem dX3_fits_4 : decode cX3_fits 4 = .ok (.iload_n 2, 1) := by decide +kernel
theorem dX3_fits_5 : decode cX3_fits 5 = .ok (.invokevirtual 26, 3) := by decide +kernel
theorem dX3_fits_8 : decode cX3_fits 8 = .ok (.ifCond .eq 5, 3) := by decide +kernel
theorem dX3_fits_11 : decode cX3_fits 11 = .ok (.iconst 0, 1) := by decide +kernel
theorem dX3_fits_12 : decode cX3_fits 12 = .ok (.ireturn, 1) := by decide +kernel
theorem dX3_fits_13 : decode cX3_fits 13 = .ok (.iload_n 2, 1) := by decide +kernel
theorem dX3_fits_14 : decode cX3_fits 14 = .ok (.invokestatic 32, 3) := by decide +kernel
theorem dX3_fits_17 : decode cX3_fits 17 = .ok (.istore 4, 2) := by decide +kernel
theorem dX3_fits_19 : decode cX3_fits 19 = .ok (.iload_n 1, 1) := by decide +kernel
theorem dX3_fits_20 : decode cX3_fits 20 = .ok (.tableswitch 98 0 3 #[32, 44, 52, 75], 32) := by decide +kernel
theorem dX3_fits_52 : decode cX3_fits 52 = .ok (.iload 4, 2) := by decide +kernel
theorem dX3_fits_54 : decode cX3_fits 54 = .ok (.iload_n 3, 1) := by decide +kernel
theorem dX3_fits_55 : decode cX3_fits 55 = .ok (.if_icmp .ne 7, 3) := by decide +kernel
theorem dX3_fits_58 : decode cX3_fits 58 = .ok (.iconst 1, 1) := by decide +kernel
theorem dX3_fits_59 : decode cX3_fits 59 = .ok (.goto 4, 3) := by decide +kernel
theorem dX3_fits_62 : decode cX3_fits 62 = .ok (.iconst 0, 1) := by decide +kernel
theorem dX3_fits_63 : decode cX3_fits 63 = .ok (.ireturn, 1) := by decide +kernel
theorem dX3_fits_64 : decode cX3_fits 64 = .ok (.iload 4, 2) := by decide +kernel
theorem dX3_fits_66 : decode cX3_fits 66 = .ok (.iconst 1, 1) := by decide +kernel
theorem dX3_fits_67 : decode cX3_fits 67 = .ok (.iload_n 3, 1) := by decide +kernel
theorem dX3_fits_68 : decode cX3_fits 68 = .ok (.invokestatic 37, 3) := by decide +kernel
theorem dX3_fits_71 : decode cX3_fits 71 = .ok (.ireturn, 1) := by decide +kernel
theorem dX3_fits_72 : decode cX3_fits 72 = .ok (.iload 4, 2) := by decide +kernel
theorem dX3_fits_74 : decode cX3_fits 74 = .ok (.iconst 1, 1) := by decide +kernel
theorem dX3_fits_75 : decode cX3_fits 75 = .ok (.iload_n 3, 1) := by decide +kernel
theorem dX3_fits_76 : decode cX3_fits 76 = .ok (.invokestatic 37, 3) := by decide +kernel
theorem dX3_fits_79 : decode cX3_fits 79 = .ok (.ifCond .eq 14, 3) := by decide +kernel
theorem dX3_fits_82 : decode cX3_fits 82 = .ok (.iload_n 2, 1) := by decide +kernel
theorem dX3_fits_83 : decode cX3_fits 83 = .ok (.invokestatic 41, 3) := by decide +kernel
theorem dX3_fits_86 : decode cX3_fits 86 = .ok (.ifCond .eq 7, 3) := by decide +kernel
theorem dX3_fits_89 : decode cX3_fits 89 = .ok (.iconst 1, 1) := by decide +kernel
theorem dX3_fits_90 : decode cX3_fits 90 = .ok (.goto 4, 3) := by decide +kernel
theorem dX3_fits_93 : decode cX3_fits 93 = .ok (.iconst 0, 1) := by decide +kernel
theorem dX3_fits_94 : decode cX3_fits 94 = .ok (.ireturn, 1) := by decide +kernel
theorem dX3_fits_95 : decode cX3_fits 95 = .ok (.iload 4, 2) := by decide +kernel
theorem dX3_fits_97 : decode cX3_fits 97 = .ok (.iload_n 3, 1) := by decide +kernel
theorem dX3_fits_98 : decode cX3_fits 98 = .ok (.if_icmp .ne 18, 3) := by decide +kernel
theorem dX3_fits_101 : decode cX3_fits 101 = .ok (.aload_n 0, 1) := by decide +kernel
theorem dX3_fits_102 : decode cX3_fits 102 = .ok (.getfield 18, 3) := by decide +kernel
theorem dX3_fits_105 : decode cX3_fits 105 = .ok (.iload_n 2, 1) := by decide +kernel
theorem dX3_fits_106 : decode cX3_fits 106 = .ok (.invokevirtual 45, 3) := by decide +kernel
theorem dX3_fits_109 : decode cX3_fits 109 = .ok (.ifCond .ne 7, 3) := by decide +kernel
theorem dX3_fits_112 : decode cX3_fits 112 = .ok (.iconst 1, 1) := by decide +kernel
theorem dX3_fits_113 : decode cX3_fits 113 = .ok (.goto 4, 3) := by decide +kernel
theorem dX3_fits_116 : decode cX3_fits 116 = .ok (.iconst 0, 1) := by decide +kernel
theorem dX3_fits_117 : decode cX3_fits 117 = .ok (.ireturn, 1) := by decide +kernel
theorem dX3_fits_118 : decode cX3_fits 118 = .ok (.iload 4, 2) := by decide +kernel
theorem dX3_fits_120 : decode cX3_fits 120 = .ok (.iload_n 3, 1) := by decide +kernel
theorem dX3_fits_121 : decode cX3_fits 121 = .ok (.if_icmp .ne 21, 3) := by decide +kernel
theorem dX3_fits_124 : decode cX3_fits 124 = .ok (.aload_n 0, 1) := by decide +kernel
theorem dX3_fits_125 : decode cX3_fits 125 = .ok (.getfield 18, 3) := by decide +kernel
theorem dX3_fits_128 : decode cX3_fits 128 = .ok (.iload_n 2, 1) := by decide +kernel
theorem dX3_fits_129 : decode cX3_fits 129 = .ok (.iload_n 1, 1) := by decide +kernel
theorem dX3_fits_130 : decode cX3_fits 130 = .ok (.iconst 4, 1) := by decide +kernel
theorem dX3_fits_131 : decode cX3_fits 131 = .ok (.isub, 1) := by decide +kernel
theorem dX3_fits_132 : decode cX3_fits 132 = .ok (.invokevirtual 48, 3) := by decide +kernel
theorem dX3_fits_135 : decode cX3_fits 135 = .ok (.ifCond .eq 7, 3) := by decide +kernel
theorem dX3_fits_138 : decode cX3_fits 138 = .ok (.iconst 1, 1) := by decide +kernel
theorem dX3_fits_139 : decode cX3_fits 139 = .ok (.goto 4, 3) := by decide +kernel
theorem dX3_fits_142 : decode cX3_fits 142 = .ok (.iconst 0, 1) := by decide +kernel
theorem dX3_fits_143 : decode cX3_fits 143 = .ok (.ireturn, 1) := by decide +kernel
theorem dX3_firstOf_0 : decode cX3_firstOf 0 = .ok (.iload_n 1, 1) := by decide +kernel
theorem dX3_firstOf_1 : decode cX3_firstOf 1 = .ok (.iconst 2, 1) := by decide +kernel
theorem dX3_firstOf_2 : decode cX3_firstOf 2 = .ok (.if_icmp .ne 9, 3) := by decide +kernel
theorem dX3_firstOf_5 : decode cX3_firstOf 5 = .ok (.aload_n 0, 1) := by decide +kernel
theorem dX3_firstOf_6 : decode cX3_firstOf 6 = .ok (.iload_n 2, 1) := by decide +kernel
theorem dX3_firstOf_7 : decode cX3_firstOf 7 = .ok (.invokevirtual 52, 3) := by decide +kernel
theorem dX3_firstOf_10 : decode cX3_firstOf 10 = .ok (.ireturn, 1) := by decide +kernel
theorem dX3_firstOf_11 : decode cX3_firstOf 11 = .ok (.aload_n 0, 1) := by decide +kernel
theorem dX3_firstOf_12 : decode cX3_firstOf 12 = .ok (.iload_n 1, 1) := by decide +kernel
theorem dX3_firstOf_13 : decode cX3_firstOf 13 = .ok (.putfield 9, 3) := by decide +kernel
theorem dX3_firstOf_16 : decode cX3_firstOf 16 = .ok (.aload_n 0, 1) := by decide +kernel
theorem dX3_firstOf_17 : decode cX3_firstOf 17 = .ok (.aload_n 0, 1) := by decide +kernel
theorem dX3_firstOf_18 : decode cX3_firstOf 18 = .ok (.getfield 9, 3) := by decide +kernel
theorem dX3_firstOf_21 : decode cX3_firstOf 21 = .ok (.iconst 3, 1) := by decide +kernel
theorem dX3_firstOf_22 : decode cX3_firstOf 22 = .ok (.if_icmp .ne 13, 3) := by decide +kernel
theorem dX3_firstOf_25 : decode cX3_firstOf 25 = .ok (.aload_n 0, 1) := by decide +kernel
theorem dX3_firstOf_26 : decode cX3_firstOf 26 = .ok (.getfield 18, 3) := by decide +kernel
theorem dX3_firstOf_29 : decode cX3_firstOf 29 = .ok (.getfield 55, 3) := by decide +kernel
theorem dX3_firstOf_32 : decode cX3_firstOf 32 = .ok (.goto 16, 3) := by decide +kernel
theorem dX3_firstOf_35 : decode cX3_firstOf 35 = .ok (.aload_n 0, 1) := by decide +kernel
theorem dX3_firstOf_36 : decode cX3_firstOf 36 = .ok (.getfield 9, 3) := by decide +kernel
theorem dX3_firstOf_39 : decode cX3_firstOf 39 = .ok (.iconst 4, 1) := by decide +kernel
theorem dX3_firstOf_40 : decode cX3_firstOf 40 = .ok (.if_icmp .lt 7, 3) := by decide +kernel
theorem dX3_firstOf_43 : decode cX3_firstOf 43 = .ok (.iconst 2, 1) := by decide +kernel
theorem dX3_firstOf_44 : decode cX3_firstOf 44 = .ok (.goto 4, 3) := by decide +kernel
theorem dX3_firstOf_47 : decode cX3_firstOf 47 = .ok (.iconst 1, 1) := by decide +kernel
theorem dX3_firstOf_48 : decode cX3_firstOf 48 = .ok (.putfield 15, 3) := by decide +kernel
theorem dX3_firstOf_51 : decode cX3_firstOf 51 = .ok (.aload_n 0, 1) := by decide +kernel
theorem dX3_firstOf_52 : decode cX3_firstOf 52 = .ok (.invokevirtual 58, 3) := by decide +kernel
theorem dX3_firstOf_55 : decode cX3_firstOf 55 = .ok (.aload_n 0, 1) := by decide +kernel
theorem dX3_firstOf_56 : decode cX3_firstOf 56 = .ok (.aload_n 0, 1) := by decide +kernel
theorem dX3_firstOf_57 : decode cX3_firstOf 57 = .ok (.getfield 9, 3) := by decide +kernel
theorem dX3_firstOf_60 : decode cX3_firstOf 60 = .ok (.iconst 1, 1) := by decide +kernel
theorem dX3_firstOf_61 : decode cX3_firstOf 61 = .ok (.if_icmp .ne 11, 3) := by decide +kernel
theorem dX3_firstOf_64 : decode cX3_firstOf 64 = .ok (.iconst 2, 1) := by decide +kernel
theorem dX3_firstOf_65 : decode cX3_firstOf 65 = .ok (.iload_n 2, 1) := by decide +kernel
theorem dX3_firstOf_66 : decode cX3_firstOf 66 = .ok (.ishl, 1) := by decide +kernel
theorem dX3_firstOf_67 : decode cX3_firstOf 67 = .ok (.iconst 2, 1) := by decide +kernel
theorem dX3_firstOf_68 : decode cX3_firstOf 68 = .ok (.isub, 1) := by decide +kernel
theorem dX3_firstOf_69 : decode cX3_firstOf 69 = .ok (.goto 6, 3) := by decide +kernel
theorem dX3_firstOf_72 : decode cX3_firstOf 72 = .ok (.iconst 1, 1) := by decide +kernel
theorem dX3_firstOf_73 : decode cX3_firstOf 73 = .ok (.iload_n 2, 1) := by decide +kernel
theorem dX3_firstOf_74 : decode cX3_firstOf 74 = .ok (.ishl, 1) := by decide +kernel
theorem dX3_firstOf_75 : decode cX3_firstOf 75 = .ok (.invokevirtual 61, 3) := by decide +kernel
theorem dX3_firstOf_78 : decode cX3_firstOf 78 = .ok (.ireturn, 1) := by decide +kernel
theorem dX3_isUnbroken_0 : decode cX3_isUnbroken 0 = .ok (.iload_n 0, 1) := by decide +kernel
theorem dX3_isUnbroken_1 : decode cX3_isUnbroken 1 = .ok (.iload_n 0, 1) := by decide +kernel
theorem dX3_isUnbroken_2 : decode cX3_isUnbroken 2 = .ok (.iload_n 0, 1) := by decide +kernel
theorem dX3_isUnbroken_3 : decode cX3_isUnbroken 3 = .ok (.ineg, 1) := by decide +kernel
theorem dX3_isUnbroken_4 : decode cX3_isUnbroken 4 = .ok (.iand, 1) := by decide +kernel
theorem dX3_isUnbroken_5 : decode cX3_isUnbroken 5 = .ok (.iadd, 1) := by decide +kernel
theorem dX3_isUnbroken_6 : decode cX3_isUnbroken 6 = .ok (.iload_n 0, 1) := by decide +kernel
theorem dX3_isUnbroken_7 : decode cX3_isUnbroken 7 = .ok (.iand, 1) := by decide +kernel
theorem dX3_isUnbroken_8 : decode cX3_isUnbroken 8 = .ok (.ifCond .ne 7, 3) := by decide +kernel
theorem dX3_isUnbroken_11 : decode cX3_isUnbroken 11 = .ok (.iconst 1, 1) := by decide +kernel
theorem dX3_isUnbroken_12 : decode cX3_isUnbroken 12 = .ok (.goto 4, 3) := by decide +kernel
theorem dX3_isUnbroken_15 : decode cX3_isUnbroken 15 = .ok (.iconst 0, 1) := by decide +kernel
theorem dX3_isUnbroken_16 : decode cX3_isUnbroken 16 = .ok (.ireturn, 1) := by decide +kernel
theorem dX3_firstRun_0 : decode cX3_firstRun 0 = .ok (.iconst 0, 1) := by decide +kernel
theorem dX3_firstRun_1 : decode cX3_firstRun 1 = .ok (.istore_n 2, 1) := by decide +kernel
theorem dX3_firstRun_2 : decode cX3_firstRun 2 = .ok (.iload_n 2, 1) := by decide +kernel
theorem dX3_firstRun_3 : decode cX3_firstRun 3 = .ok (.aload_n 0, 1) := by decide +kernel
theorem dX3_firstRun_4 : decode cX3_firstRun 4 = .ok (.getfield 18, 3) := by decide +kernel
theorem dX3_firstRun_7 : decode cX3_firstRun 7 = .ok (.getfield 64, 3) := by decide +kernel
theorem dX3_firstRun_10 : decode cX3_firstRun 10 = .ok (.if_icmp .ge 95, 3) := by decide +kernel
theorem dX3_firstRun_13 : decode cX3_firstRun 13 = .ok (.iconst 0, 1) := by decide +kernel
theorem dX3_firstRun_14 : decode cX3_firstRun 14 = .ok (.istore_n 3, 1) := by decide +kernel
theorem dX3_firstRun_15 : decode cX3_firstRun 15 = .ok (.iconst 0, 1) := by decide +kernel
theorem dX3_firstRun_16 : decode cX3_firstRun 16 = .ok (.istore 4, 2) := by decide +kernel
theorem dX3_firstRun_18 : decode cX3_firstRun 18 = .ok (.iload_n 2, 1) := by decide +kernel
theorem dX3_firstRun_19 : decode cX3_firstRun 19 = .ok (.istore 5, 2) := by decide +kernel
theorem dX3_firstRun_21 : decode cX3_firstRun 21 = .ok (.iload 5, 2) := by decide +kernel
theorem dX3_firstRun_23 : decode cX3_firstRun 23 = .ok (.aload_n 0, 1) := by decide +kernel
theorem dX3_firstRun_24 : decode cX3_firstRun 24 = .ok (.getfield 18, 3) := by decide +kernel
theorem dX3_firstRun_27 : decode cX3_firstRun 27 = .ok (.getfield 64, 3) := by decide +kernel
theorem dX3_firstRun_30 : decode cX3_firstRun 30 = .ok (.if_icmp .ge 57, 3) := by decide +kernel
theorem dX3_firstRun_33 : decode cX3_firstRun 33 = .ok (.iload 5, 2) := by decide +kernel
theorem dX3_firstRun_35 : decode cX3_firstRun 35 = .ok (.iload_n 2, 1) := by decide +kernel
theorem dX3_firstRun_36 : decode cX3_firstRun 36 = .ok (.isub, 1) := by decide +kernel
theorem dX3_firstRun_37 : decode cX3_firstRun 37 = .ok (.iload_n 1, 1) := by decide +kernel
theorem dX3_firstRun_38 : decode cX3_firstRun 38 = .ok (.if_icmp .ge 49, 3) := by decide +kernel
theorem dX3_firstRun_41 : decode cX3_firstRun 41 = .ok (.iload 4, 2) := by decide +kernel
theorem dX3_firstRun_43 : decode cX3_firstRun 43 = .ok (.aload_n 0, 1) := by decide +kernel
theorem dX3_firstRun_44 : decode cX3_firstRun 44 = .ok (.getfield 18, 3) := by decide +kernel
theorem dX3_firstRun_47 : decode cX3_firstRun 47 = .ok (.iload 5, 2) := by decide +kernel
theorem dX3_firstRun_49 : decode cX3_firstRun 49 = .ok (.invokevirtual 67, 3) := by decide +kernel
theorem dX3_firstRun_52 : decode cX3_firstRun 52 = .ok (.iadd, 1) := by decide +kernel
theorem dX3_firstRun_53 : decode cX3_firstRun 53 = .ok (.aload_n 0, 1) := by decide +kernel
theorem dX3_firstRun_54 : decode cX3_firstRun 54 = .ok (.getfield 18, 3) := by decide +kernel
theorem dX3_firstRun_57 : decode cX3_firstRun 57 = .ok (.getfield 55, 3) := by decide +kernel
theorem dX3_firstRun_60 : decode cX3_firstRun 60 = .ok (.invokestatic 70, 3) := by decide +kernel
theorem dX3_firstRun_63 : decode cX3_firstRun 63 = .ok (.istore 4, 2) := by decide +kernel
theorem dX3_firstRun_65 : decode cX3_firstRun 65 = .ok (.iload 4, 2) := by decide +kernel
theorem dX3_firstRun_67 : decode cX3_firstRun 67 = .ok (.ifCond .ne 12, 3) := by decide +kernel
theorem dX3_firstRun_70 : decode cX3_firstRun 70 = .ok (.iload 5, 2) := by decide +kernel
theorem dX3_firstRun_72 : decode cX3_firstRun 72 = .ok (.iload_n 2, 1) := by decide +kernel
theorem dX3_firstRun_73 : decode cX3_firstRun 73 = .ok (.isub, 1) := by decide +kernel
theorem dX3_firstRun_74 : decode cX3_firstRun 74 = .ok (.iconst 1, 1) := by decide +kernel
theorem dX3_firstRun_75 : decode cX3_firstRun 75 = .ok (.iadd, 1) := by decide +kernel
theorem dX3_firstRun_76 : decode cX3_firstRun 76 = .ok (.goto 4, 3) := by decide +kernel
theorem dX3_firstRun_79 : decode cX3_firstRun 79 = .ok (.iload_n 3, 1) := by decide +kernel
theorem dX3_firstRun_80 : decode cX3_firstRun 80 = .ok (.istore_n 3, 1) := by decide +kernel
theorem dX3_firstRun_81 : decode cX3_firstRun 81 = .ok (.iinc 5 1, 3) := by decide +kernel
theorem dX3_firstRun_84 : decode cX3_firstRun 84 = .ok (.goto (-63), 3) := by decide +kernel
theorem dX3_firstRun_87 : decode cX3_firstRun 87 = .ok (.iload_n 3, 1) := by decide +kernel
theorem dX3_firstRun_88 : decode cX3_firstRun 88 = .ok (.ifCond .le 11, 3) := by decide +kernel
theorem dX3_firstRun_91 : decode cX3_firstRun 91 = .ok (.iconst 1, 1) := by decide +kernel
theorem dX3_firstRun_92 : decode cX3_firstRun 92 = .ok (.iload_n 3, 1) := by decide +kernel
theorem dX3_firstRun_93 : decode cX3_firstRun 93 = .ok (.ishl, 1) := by decide +kernel
theorem dX3_firstRun_94 : decode cX3_firstRun 94 = .ok (.iconst 1, 1) := by decide +kernel
theorem dX3_firstRun_95 : decode cX3_firstRun 95 = .ok (.isub, 1) := by decide +kernel
theorem dX3_firstRun_96 : decode cX3_firstRun 96 = .ok (.iload_n 2, 1) := by decide +kernel
theorem dX3_firstRun_97 : decode cX3_firstRun 97 = .ok (.ishl, 1) := by decide +kernel
theorem dX3_firstRun_98 : decode cX3_firstRun 98 = .ok (.ireturn, 1) := by decide +kernel
theorem dX3_firstRun_99 : decode cX3_firstRun 99 = .ok (.iinc 2 1, 3) := by decide +kernel
theorem dX3_firstRun_102 : decode cX3_firstRun 102 = .ok (.goto (-100), 3) := by decide +kernel
theorem dX3_firstRun_105 : decode cX3_firstRun 105 = .ok (.iconst (-1), 1) := by decide +kernel
theorem dX3_firstRun_106 : decode cX3_firstRun 106 = .ok (.ireturn, 1) := by decide +kernel
theorem dX3_fillSizes_0 : decode cX3_fillSizes 0 = .ok (.aload_n 0, 1) := by decide +kernel
theorem dX3_fillSizes_1 : decode cX3_fillSizes 1 = .ok (.getfield 18, 3) := by decide +kernel
theorem dX3_fillSizes_4 : decode cX3_fillSizes 4 = .ok (.getfield 64, 3) := by decide +kernel
theorem dX3_fillSizes_7 : decode cX3_fillSizes 7 = .ok (.bipush 100, 2) := by decide +kernel
theorem dX3_fillSizes_9 : decode cX3_fillSizes 9 = .ok (.imul, 1) := by decide +kernel
theorem dX3_fillSizes_10 : decode cX3_fillSizes 10 = .ok (.istore_n 1, 1) := by decide +kernel
theorem dX3_fillSizes_11 : decode cX3_fillSizes 11 = .ok (.aload_n 0, 1) := by decide +kernel
theorem dX3_fillSizes_12 : decode cX3_fillSizes 12 = .ok (.getfield 22, 3) := by decide +kernel
theorem dX3_fillSizes_15 : decode cX3_fillSizes 15 = .ok (.iload_n 1, 1) := by decide +kernel
theorem dX3_fillSizes_16 : decode cX3_fillSizes 16 = .ok (.iload_n 1, 1) := by decide +kernel
theorem dX3_fillSizes_17 : decode cX3_fillSizes 17 = .ok (.bipush 100, 2) := by decide +kernel
theorem dX3_fillSizes_19 : decode cX3_fillSizes 19 = .ok (.iadd, 1) := by decide +kernel
theorem dX3_fillSizes_20 : decode cX3_fillSizes 20 = .ok (.iconst 0, 1) := by decide +kernel
theorem dX3_fillSizes_21 : decode cX3_fillSizes 21 = .ok (.invokestatic 74, 3) := by decide +kernel
theorem dX3_fillSizes_24 : decode cX3_fillSizes 24 = .ok (.aload_n 0, 1) := by decide +kernel
theorem dX3_fillSizes_25 : decode cX3_fillSizes 25 = .ok (.getfield 22, 3) := by decide +kernel
theorem dX3_fillSizes_28 : decode cX3_fillSizes 28 = .ok (.iload_n 1, 1) := by decide +kernel
theorem dX3_fillSizes_29 : decode cX3_fillSizes 29 = .ok (.aload_n 0, 1) := by decide +kernel
theorem dX3_fillSizes_30 : decode cX3_fillSizes 30 = .ok (.getfield 9, 3) := by decide +kernel
theorem dX3_fillSizes_33 : decode cX3_fillSizes 33 = .ok (.iconst 4, 1) := by decide +kernel
theorem dX3_fillSizes_34 : decode cX3_fillSizes 34 = .ok (.if_icmp .lt 7, 3) := by decide +kernel
theorem dX3_fillSizes_37 : decode cX3_fillSizes 37 = .ok (.iconst 1, 1) := by decide +kernel
theorem dX3_fillSizes_38 : decode cX3_fillSizes 38 = .ok (.goto 4, 3) := by decide +kernel
theorem dX3_fillSizes_41 : decode cX3_fillSizes 41 = .ok (.iconst 0, 1) := by decide +kernel
theorem dX3_fillSizes_42 : decode cX3_fillSizes 42 = .ok (.iadd, 1) := by decide +kernel
theorem dX3_fillSizes_43 : decode cX3_fillSizes 43 = .ok (.iconst 1, 1) := by decide +kernel
theorem dX3_fillSizes_44 : decode cX3_fillSizes 44 = .ok (.iastore, 1) := by decide +kernel
theorem dX3_fillSizes_45 : decode cX3_fillSizes 45 = .ok (.aload_n 0, 1) := by decide +kernel
theorem dX3_fillSizes_46 : decode cX3_fillSizes 46 = .ok (.getfield 18, 3) := by decide +kernel
theorem dX3_fillSizes_49 : decode cX3_fillSizes 49 = .ok (.getfield 64, 3) := by decide +kernel
theorem dX3_fillSizes_52 : decode cX3_fillSizes 52 = .ok (.iconst 1, 1) := by decide +kernel
theorem dX3_fillSizes_53 : decode cX3_fillSizes 53 = .ok (.isub, 1) := by decide +kernel
theorem dX3_fillSizes_54 : decode cX3_fillSizes 54 = .ok (.istore_n 2, 1) := by decide +kernel
theorem dX3_fillSizes_55 : decode cX3_fillSizes 55 = .ok (.iload_n 2, 1) := by decide +kernel
theorem dX3_fillSizes_56 : decode cX3_fillSizes 56 = .ok (.ifCond .lt 128, 3) := by decide +kernel
theorem dX3_fillSizes_59 : decode cX3_fillSizes 59 = .ok (.iconst 0, 1) := by decide +kernel
theorem dX3_fillSizes_60 : decode cX3_fillSizes 60 = .ok (.istore_n 3, 1) := by decide +kernel
theorem dX3_fillSizes_61 : decode cX3_fillSizes 61 = .ok (.iload_n 3, 1) := by decide +kernel
theorem dX3_fillSizes_62 : decode cX3_fillSizes 62 = .ok (.aload_n 0, 1) := by decide +kernel
theorem dX3_fillSizes_63 : decode cX3_fillSizes 63 = .ok (.getfield 18, 3) := by decide +kernel
theorem dX3_fillSizes_66 : decode cX3_fillSizes 66 = .ok (.getfield 55, 3) := by decide +kernel
theorem dX3_fillSizes_69 : decode cX3_fillSizes 69 = .ok (.if_icmp .ge 109, 3) := by decide +kernel
theorem dX3_fillSizes_72 : decode cX3_fillSizes 72 = .ok (.iload_n 3, 1) := by decide +kernel
theorem dX3_fillSizes_73 : decode cX3_fillSizes 73 = .ok (.aload_n 0, 1) := by decide +kernel
theorem dX3_fillSizes_74 : decode cX3_fillSizes 74 = .ok (.getfield 18, 3) := by decide +kernel
theorem dX3_fillSizes_77 : decode cX3_fillSizes 77 = .ok (.iload_n 2, 1) := by decide +kernel
theorem dX3_fillSizes_78 : decode cX3_fillSizes 78 = .ok (.invokevirtual 67, 3) := by decide +kernel
theorem dX3_fillSizes_81 : decode cX3_fillSizes 81 = .ok (.iadd, 1) := by decide +kernel
theorem dX3_fillSizes_82 : decode cX3_fillSizes 82 = .ok (.aload_n 0, 1) := by decide +kernel
theorem dX3_fillSizes_83 : decode cX3_fillSizes 83 = .ok (.getfield 18, 3) := by decide +kernel
theorem dX3_fillSizes_86 : decode cX3_fillSizes 86 = .ok (.getfield 55, 3) := by decide +kernel
theorem dX3_fillSizes_89 : decode cX3_fillSizes 89 = .ok (.invokestatic 70, 3) := by decide +kernel
theorem dX3_fillSizes_92 : decode cX3_fillSizes 92 = .ok (.istore 4, 2) := by decide +kernel
theorem dX3_fillSizes_94 : decode cX3_fillSizes 94 = .ok (.iconst 0, 1) := by decide +kernel
theorem dX3_fillSizes_95 : decode cX3_fillSizes 95 = .ok (.istore 5, 2) := by decide +kernel
theorem dX3_fillSizes_97 : decode cX3_fillSizes 97 = .ok (.iload 5, 2) := by decide +kernel
theorem dX3_fillSizes_99 : decode cX3_fillSizes 99 = .ok (.aload_n 0, 1) := by decide +kernel
theorem dX3_fillSizes_100 : decode cX3_fillSizes 100 = .ok (.getfield 15, 3) := by decide +kernel
theorem dX3_fillSizes_103 : decode cX3_fillSizes 103 = .ok (.if_icmp .ge 69, 3) := by decide +kernel
theorem dX3_fillSizes_106 : decode cX3_fillSizes 106 = .ok (.aload_n 0, 1) := by decide +kernel
theorem dX3_fillSizes_107 : decode cX3_fillSizes 107 = .ok (.getfield 22, 3) := by decide +kernel
theorem dX3_fillSizes_110 : decode cX3_fillSizes 110 = .ok (.aload_n 0, 1) := by decide +kernel
theorem dX3_fillSizes_111 : decode cX3_fillSizes 111 = .ok (.iload_n 2, 1) := by decide +kernel
theorem dX3_fillSizes_112 : decode cX3_fillSizes 112 = .ok (.iconst 1, 1) := by decide +kernel
theorem dX3_fillSizes_113 : decode cX3_fillSizes 113 = .ok (.iadd, 1) := by decide +kernel
theorem dX3_fillSizes_114 : decode cX3_fillSizes 114 = .ok (.iload_n 3, 1) := by decide +kernel
theorem dX3_fillSizes_115 : decode cX3_fillSizes 115 = .ok (.iload 5, 2) := by decide +kernel
theorem dX3_fillSizes_117 : decode cX3_fillSizes 117 = .ok (.invokevirtual 80, 3) := by decide +kernel
theorem dX3_fillSizes_120 : decode cX3_fillSizes 120 = .ok (.iaload, 1) := by decide +kernel
theorem dX3_fillSizes_121 : decode cX3_fillSizes 121 = .ok (.istore 6, 2) := by decide +kernel
theorem dX3_fillSizes_123 : decode cX3_fillSizes 123 = .ok (.aload_n 0, 1) := by decide +kernel
theorem dX3_fillSizes_124 : decode cX3_fillSizes 124 = .ok (.getfield 22, 3) := by decide +kernel
theorem dX3_fillSizes_127 : decode cX3_fillSizes 127 = .ok (.aload_n 0, 1) := by decide +kernel
theorem dX3_fillSizes_128 : decode cX3_fillSizes 128 = .ok (.iload_n 2, 1) := by decide +kernel
theorem dX3_fillSizes_129 : decode cX3_fillSizes 129 = .ok (.iconst 1, 1) := by decide +kernel
theorem dX3_fillSizes_130 : decode cX3_fillSizes 130 = .ok (.iadd, 1) := by decide +kernel
theorem dX3_fillSizes_131 : decode cX3_fillSizes 131 = .ok (.iload 4, 2) := by decide +kernel
theorem dX3_fillSizes_133 : decode cX3_fillSizes 133 = .ok (.aload_n 0, 1) := by decide +kernel
theorem dX3_fillSizes_134 : decode cX3_fillSizes 134 = .ok (.iload 5, 2) := by decide +kernel
theorem dX3_fillSizes_136 : decode cX3_fillSizes 136 = .ok (.iload_n 2, 1) := by decide +kernel
theorem dX3_fillSizes_137 : decode cX3_fillSizes 137 = .ok (.invokevirtual 84, 3) := by decide +kernel
theorem dX3_fillSizes_140 : decode cX3_fillSizes 140 = .ok (.invokevirtual 80, 3) := by decide +kernel
theorem dX3_fillSizes_143 : decode cX3_fillSizes 143 = .ok (.iaload, 1) := by decide +kernel
theorem dX3_fillSizes_144 : decode cX3_fillSizes 144 = .ok (.istore 7, 2) := by decide +kernel
theorem dX3_fillSizes_146 : decode cX3_fillSizes 146 = .ok (.aload_n 0, 1) := by decide +kernel
theorem dX3_fillSizes_147 : decode cX3_fillSizes 147 = .ok (.getfield 22, 3) := by decide +kernel
theorem dX3_fillSizes_150 : decode cX3_fillSizes 150 = .ok (.aload_n 0, 1) := by decide +kernel
theorem dX3_fillSizes_151 : decode cX3_fillSizes 151 = .ok (.iload_n 2, 1) := by decide +kernel
theorem dX3_fillSizes_152 : decode cX3_fillSizes 152 = .ok (.iload_n 3, 1) := by decide +kernel
theorem dX3_fillSizes_153 : decode cX3_fillSizes 153 = .ok (.iload 5, 2) := by decide +kernel
theorem dX3_fillSizes_155 : decode cX3_fillSizes 155 = .ok (.invokevirtual 80, 3) := by decide +kernel
theorem dX3_fillSizes_158 : decode cX3_fillSizes 158 = .ok (.iload 6, 2) := by decide +kernel
theorem dX3_fillSizes_160 : decode cX3_fillSizes 160 = .ok (.iload 7, 2) := by decide +kernel
theorem dX3_fillSizes_162 : decode cX3_fillSizes 162 = .ok (.iconst 1, 1) := by decide +kernel
theorem dX3_fillSizes_163 : decode cX3_fillSizes 163 = .ok (.ishl, 1) := by decide +kernel
theorem dX3_fillSizes_164 : decode cX3_fillSizes 164 = .ok (.ior, 1) := by decide +kernel
theorem dX3_fillSizes_165 : decode cX3_fillSizes 165 = .ok (.iastore, 1) := by decide +kernel
theorem dX3_fillSizes_166 : decode cX3_fillSizes 166 = .ok (.iinc 5 1, 3) := by decide +kernel
theorem dX3_fillSizes_169 : decode cX3_fillSizes 169 = .ok (.goto (-72), 3) := by decide +kernel
theorem dX3_fillSizes_172 : decode cX3_fillSizes 172 = .ok (.iinc 3 1, 3) := by decide +kernel
theorem dX3_fillSizes_175 : decode cX3_fillSizes 175 = .ok (.goto (-114), 3) := by decide +kernel
theorem dX3_fillSizes_178 : decode cX3_fillSizes 178 = .ok (.iinc 2 (-1), 3) := by decide +kernel
theorem dX3_fillSizes_181 : decode cX3_fillSizes 181 = .ok (.goto (-126), 3) := by decide +kernel
theorem dX3_fillSizes_184 : decode cX3_fillSizes 184 = .ok (.return_, 1) := by decide +kernel
theorem dX3_pick_0 : decode cX3_pick 0 = .ok (.aload_n 0, 1) := by decide +kernel
theorem dX3_pick_1 : decode cX3_pick 1 = .ok (.getfield 22, 3) := by decide +kernel
theorem dX3_pick_4 : decode cX3_pick 4 = .ok (.aload_n 0, 1) := by decide +kernel
theorem dX3_pick_5 : decode cX3_pick 5 = .ok (.iconst 0, 1) := by decide +kernel
theorem dX3_pick_6 : decode cX3_pick 6 = .ok (.iconst 0, 1) := by decide +kernel
theorem dX3_pick_7 : decode cX3_pick 7 = .ok (.iconst 0, 1) := by decide +kernel
theorem dX3_pick_8 : decode cX3_pick 8 = .ok (.invokevirtual 80, 3) := by decide +kernel
theorem dX3_pick_11 : decode cX3_pick 11 = .ok (.iaload, 1) := by decide +kernel
theorem dX3_pick_12 : decode cX3_pick 12 = .ok (.iload_n 1, 1) := by decide +kernel
theorem dX3_pick_13 : decode cX3_pick 13 = .ok (.iand, 1) := by decide +kernel
theorem dX3_pick_14 : decode cX3_pick 14 = .ok (.ifCond .ne 5, 3) := by decide +kernel
theorem dX3_pick_17 : decode cX3_pick 17 = .ok (.iconst (-1), 1) := by decide +kernel
theorem dX3_pick_18 : decode cX3_pick 18 = .ok (.ireturn, 1) := by decide +kernel
theorem dX3_pick_19 : decode cX3_pick 19 = .ok (.iload_n 1, 1) := by decide +kernel
theorem dX3_pick_20 : decode cX3_pick 20 = .ok (.istore_n 2, 1) := by decide +kernel
theorem dX3_pick_21 : decode cX3_pick 21 = .ok (.iconst 0, 1) := by decide +kernel
theorem dX3_pick_22 : decode cX3_pick 22 = .ok (.istore_n 3, 1) := by decide +kernel
theorem dX3_pick_23 : decode cX3_pick 23 = .ok (.iconst 0, 1) := by decide +kernel
theorem dX3_pick_24 : decode cX3_pick 24 = .ok (.istore 4, 2) := by decide +kernel
theorem dX3_pick_26 : decode cX3_pick 26 = .ok (.iconst 0, 1) := by decide +kernel
theorem dX3_pick_27 : decode cX3_pick 27 = .ok (.istore 5, 2) := by decide +kernel
theorem dX3_pick_29 : decode cX3_pick 29 = .ok (.iconst 0, 1) := by decide +kernel
theorem dX3_pick_30 : decode cX3_pick 30 = .ok (.istore 6, 2) := by decide +kernel
theorem dX3_pick_32 : decode cX3_pick 32 = .ok (.iload 6, 2) := by decide +kernel
theorem dX3_pick_34 : decode cX3_pick 34 = .ok (.aload_n 0, 1) := by decide +kernel
theorem dX3_pick_35 : decode cX3_pick 35 = .ok (.getfield 18, 3) := by decide +kernel
theorem dX3_pick_38 : decode cX3_pick 38 = .ok (.getfield 64, 3) := by decide +kernel
theorem dX3_pick_41 : decode cX3_pick 41 = .ok (.if_icmp .ge 86, 3) := by decide +kernel
theorem dX3_pick_44 : decode cX3_pick 44 = .ok (.iload 4, 2) := by decide +kernel
theorem dX3_pick_46 : decode cX3_pick 46 = .ok (.aload_n 0, 1) := by decide +kernel
theorem dX3_pick_47 : decode cX3_pick 47 = .ok (.getfield 18, 3) := by decide +kernel
theorem dX3_pick_50 : decode cX3_pick 50 = .ok (.iload 6, 2) := by decide +kernel
theorem dX3_pick_52 : decode cX3_pick 52 = .ok (.invokevirtual 67, 3) := by decide +kernel
theorem dX3_pick_55 : decode cX3_pick 55 = .ok (.iadd, 1) := by decide +kernel
theorem dX3_pick_56 : decode cX3_pick 56 = .ok (.aload_n 0, 1) := by decide +kernel
theorem dX3_pick_57 : decode cX3_pick 57 = .ok (.getfield 18, 3) := by decide +kernel
theorem dX3_pick_60 : decode cX3_pick 60 = .ok (.getfield 55, 3) := by decide +kernel
theorem dX3_pick_63 : decode cX3_pick 63 = .ok (.invokestatic 70, 3) := by decide +kernel
theorem dX3_pick_66 : decode cX3_pick 66 = .ok (.istore 7, 2) := by decide +kernel
theorem dX3_pick_68 : decode cX3_pick 68 = .ok (.aload_n 0, 1) := by decide +kernel
theorem dX3_pick_69 : decode cX3_pick 69 = .ok (.iload 5, 2) := by decide +kernel
theorem dX3_pick_71 : decode cX3_pick 71 = .ok (.iload 6, 2) := by decide +kernel
theorem dX3_pick_73 : decode cX3_pick 73 = .ok (.invokevirtual 84, 3) := by decide +kernel
theorem dX3_pick_76 : decode cX3_pick 76 = .ok (.istore 8, 2) := by decide +kernel
theorem dX3_pick_78 : decode cX3_pick 78 = .ok (.aload_n 0, 1) := by decide +kernel
theorem dX3_pick_79 : decode cX3_pick 79 = .ok (.getfield 22, 3) := by decide +kernel
theorem dX3_pick_82 : decode cX3_pick 82 = .ok (.aload_n 0, 1) := by decide +kernel
theorem dX3_pick_83 : decode cX3_pick 83 = .ok (.iload 6, 2) := by decide +kernel
theorem dX3_pick_85 : decode cX3_pick 85 = .ok (.iconst 1, 1) := by decide +kernel
theorem dX3_pick_86 : decode cX3_pick 86 = .ok (.iadd, 1) := by decide +kernel
theorem dX3_pick_87 : decode cX3_pick 87 = .ok (.iload 7, 2) := by decide +kernel
theorem dX3_pick_89 : decode cX3_pick 89 = .ok (.iload 8, 2) := by decide +kernel
theorem dX3_pick_91 : decode cX3_pick 91 = .ok (.invokevirtual 80, 3) := by decide +kernel
theorem dX3_pick_94 : decode cX3_pick 94 = .ok (.iaload, 1) := by decide +kernel
theorem dX3_pick_95 : decode cX3_pick 95 = .ok (.iconst 1, 1) := by decide +kernel
theorem dX3_pick_96 : decode cX3_pick 96 = .ok (.ishl, 1) := by decide +kernel
theorem dX3_pick_97 : decode cX3_pick 97 = .ok (.iload_n 2, 1) := by decide +kernel
theorem dX3_pick_98 : decode cX3_pick 98 = .ok (.iand, 1) := by decide +kernel
theorem dX3_pick_99 : decode cX3_pick 99 = .ok (.ifCond .eq 22, 3) := by decide +kernel
theorem dX3_pick_102 : decode cX3_pick 102 = .ok (.iload_n 3, 1) := by decide +kernel
theorem dX3_pick_103 : decode cX3_pick 103 = .ok (.iconst 1, 1) := by decide +kernel
theorem dX3_pick_104 : decode cX3_pick 104 = .ok (.iload 6, 2) := by decide +kernel
theorem dX3_pick_106 : decode cX3_pick 106 = .ok (.ishl, 1) := by decide +kernel
theorem dX3_pick_107 : decode cX3_pick 107 = .ok (.ior, 1) := by decide +kernel
theorem dX3_pick_108 : decode cX3_pick 108 = .ok (.istore_n 3, 1) := by decide +kernel
theorem dX3_pick_109 : decode cX3_pick 109 = .ok (.iload_n 2, 1) := by decide +kernel
theorem dX3_pick_110 : decode cX3_pick 110 = .ok (.iconst 1, 1) := by decide +kernel
theorem dX3_pick_111 : decode cX3_pick 111 = .ok (.ishr, 1) := by decide +kernel
theorem dX3_pick_112 : decode cX3_pick 112 = .ok (.istore_n 2, 1) := by decide +kernel
theorem dX3_pick_113 : decode cX3_pick 113 = .ok (.iload 7, 2) := by decide +kernel
theorem dX3_pick_115 : decode cX3_pick 115 = .ok (.istore 4, 2) := by decide +kernel
theorem dX3_pick_117 : decode cX3_pick 117 = .ok (.iload 8, 2) := by decide +kernel
theorem dX3_pick_119 : decode cX3_pick 119 = .ok (.istore 5, 2) := by decide +kernel
theorem dX3_pick_121 : decode cX3_pick 121 = .ok (.iinc 6 1, 3) := by decide +kernel
theorem dX3_pick_124 : decode cX3_pick 124 = .ok (.goto (-92), 3) := by decide +kernel
theorem dX3_pick_127 : decode cX3_pick 127 = .ok (.iload_n 3, 1) := by decide +kernel
theorem dX3_pick_128 : decode cX3_pick 128 = .ok (.ireturn, 1) := by decide +kernel
theorem dX3_place_0 : decode cX3_place 0 = .ok (.iload_n 1, 1) := by decide +kernel
theorem dX3_place_1 : decode cX3_place 1 = .ok (.bipush 100, 2) := by decide +kernel
theorem dX3_place_3 : decode cX3_place 3 = .ok (.imul, 1) := by decide +kernel
theorem dX3_place_4 : decode cX3_place 4 = .ok (.iload_n 2, 1) := by decide +kernel
theorem dX3_place_5 : decode cX3_place 5 = .ok (.aload_n 0, 1) := by decide +kernel
theorem dX3_place_6 : decode cX3_place 6 = .ok (.getfield 15, 3) := by decide +kernel
theorem dX3_place_9 : decode cX3_place 9 = .ok (.imul, 1) := by decide +kernel
theorem dX3_place_10 : decode cX3_place 10 = .ok (.iadd, 1) := by decide +kernel
theorem dX3_place_11 : decode cX3_place 11 = .ok (.iload_n 3, 1) := by decide +kernel
theorem dX3_place_12 : decode cX3_place 12 = .ok (.iadd, 1) := by decide +kernel
theorem dX3_place_13 : decode cX3_place 13 = .ok (.ireturn, 1) := by decide +kernel
theorem dX3_sideWith_0 : decode cX3_sideWith 0 = .ok (.aload_n 0, 1) := by decide +kernel
theorem dX3_sideWith_1 : decode cX3_sideWith 1 = .ok (.getfield 9, 3) := by decide +kernel
theorem dX3_sideWith_4 : decode cX3_sideWith 4 = .ok (.iconst 3, 1) := by decide +kernel
theorem dX3_sideWith_5 : decode cX3_sideWith 5 = .ok (.if_icmp .ne 24, 3) := by decide +kernel
theorem dX3_sideWith_8 : decode cX3_sideWith 8 = .ok (.iload_n 1, 1) := by decide +kernel
theorem dX3_sideWith_9 : decode cX3_sideWith 9 = .ok (.aload_n 0, 1) := by decide +kernel
theorem dX3_sideWith_10 : decode cX3_sideWith 10 = .ok (.getfield 18, 3) := by decide +kernel
theorem dX3_sideWith_13 : decode cX3_sideWith 13 = .ok (.iload_n 2, 1) := by decide +kernel
theorem dX3_sideWith_14 : decode cX3_sideWith 14 = .ok (.invokevirtual 87, 3) := by decide +kernel
theorem dX3_sideWith_17 : decode cX3_sideWith 17 = .ok (.iadd, 1) := by decide +kernel
theorem dX3_sideWith_18 : decode cX3_sideWith 18 = .ok (.aload_n 0, 1) := by decide +kernel
theorem dX3_sideWith_19 : decode cX3_sideWith 19 = .ok (.getfield 18, 3) := by decide +kernel
theorem dX3_sideWith_22 : decode cX3_sideWith 22 = .ok (.getfield 55, 3) := by decide +kernel
theorem dX3_sideWith_25 : decode cX3_sideWith 25 = .ok (.invokestatic 70, 3) := by decide +kernel
theorem dX3_sideWith_28 : decode cX3_sideWith 28 = .ok (.ireturn, 1) := by decide +kernel
theorem dX3_sideWith_29 : decode cX3_sideWith 29 = .ok (.aload_n 0, 1) := by decide +kernel
theorem dX3_sideWith_30 : decode cX3_sideWith 30 = .ok (.getfield 9, 3) := by decide +kernel
theorem dX3_sideWith_33 : decode cX3_sideWith 33 = .ok (.iconst 4, 1) := by decide +kernel
theorem dX3_sideWith_34 : decode cX3_sideWith 34 = .ok (.if_icmp .lt 27, 3) := by decide +kernel
theorem dX3_sideWith_37 : decode cX3_sideWith 37 = .ok (.aload_n 0, 1) := by decide +kernel
theorem dX3_sideWith_38 : decode cX3_sideWith 38 = .ok (.getfield 18, 3) := by decide +kernel
theorem dX3_sideWith_41 : decode cX3_sideWith 41 = .ok (.getfield 90, 3) := by decide +kernel
theorem dX3_sideWith_44 : decode cX3_sideWith 44 = .ok (.iload_n 2, 1) := by decide +kernel
theorem dX3_sideWith_45 : decode cX3_sideWith 45 = .ok (.laload, 1) := by decide +kernel
theorem dX3_sideWith_46 : decode cX3_sideWith 46 = .ok (.aload_n 0, 1) := by decide +kernel
theorem dX3_sideWith_47 : decode cX3_sideWith 47 = .ok (.getfield 9, 3) := by decide +kernel
theorem dX3_sideWith_50 : decode cX3_sideWith 50 = .ok (.iconst 4, 1) := by decide +kernel
theorem dX3_sideWith_51 : decode cX3_sideWith 51 = .ok (.isub, 1) := by decide +kernel
theorem dX3_sideWith_52 : decode cX3_sideWith 52 = .ok (.i2l, 1) := by decide +kernel
theorem dX3_sideWith_53 : decode cX3_sideWith 53 = .ok (.lcmp, 1) := by decide +kernel
theorem dX3_sideWith_54 : decode cX3_sideWith 54 = .ok (.ifCond .ne 7, 3) := by decide +kernel
theorem dX3_sideWith_57 : decode cX3_sideWith 57 = .ok (.iconst 1, 1) := by decide +kernel
theorem dX3_sideWith_58 : decode cX3_sideWith 58 = .ok (.goto 4, 3) := by decide +kernel
theorem dX3_sideWith_61 : decode cX3_sideWith 61 = .ok (.iload_n 1, 1) := by decide +kernel
theorem dX3_sideWith_62 : decode cX3_sideWith 62 = .ok (.ireturn, 1) := by decide +kernel
theorem dX4_init_0 : decode cX4_init 0 = .ok (.aload_n 0, 1) := by decide +kernel
theorem dX4_init_1 : decode cX4_init 1 = .ok (.invokespecial 3, 3) := by decide +kernel
theorem dX4_init_4 : decode cX4_init 4 = .ok (.aload_n 0, 1) := by decide +kernel
theorem dX4_init_5 : decode cX4_init 5 = .ok (.bipush 20, 2) := by decide +kernel
theorem dX4_init_7 : decode cX4_init 7 = .ok (.newarray .long, 2) := by decide +kernel
theorem dX4_init_9 : decode cX4_init 9 = .ok (.putfield 9, 3) := by decide +kernel
theorem dX4_init_12 : decode cX4_init 12 = .ok (.aload_n 0, 1) := by decide +kernel
theorem dX4_init_13 : decode cX4_init 13 = .ok (.bipush 20, 2) := by decide +kernel
theorem dX4_init_15 : decode cX4_init 15 = .ok (.newarray .long, 2) := by decide +kernel
theorem dX4_init_17 : decode cX4_init 17 = .ok (.putfield 15, 3) := by decide +kernel
theorem dX4_init_20 : decode cX4_init 20 = .ok (.aload_n 0, 1) := by decide +kernel
theorem dX4_init_21 : decode cX4_init 21 = .ok (.bipush 20, 2) := by decide +kernel
theorem dX4_init_23 : decode cX4_init 23 = .ok (.newarray .long, 2) := by decide +kernel
theorem dX4_init_25 : decode cX4_init 25 = .ok (.putfield 18, 3) := by decide +kernel
theorem dX4_init_28 : decode cX4_init 28 = .ok (.aload_n 0, 1) := by decide +kernel
theorem dX4_init_29 : decode cX4_init 29 = .ok (.bipush 20, 2) := by decide +kernel
theorem dX4_init_31 : decode cX4_init 31 = .ok (.newarray .long, 2) := by decide +kernel
theorem dX4_init_33 : decode cX4_init 33 = .ok (.putfield 21, 3) := by decide +kernel
theorem dX4_init_36 : decode cX4_init 36 = .ok (.aload_n 0, 1) := by decide +kernel
theorem dX4_init_37 : decode cX4_init 37 = .ok (.iconst 0, 1) := by decide +kernel
theorem dX4_init_38 : decode cX4_init 38 = .ok (.putfield 24, 3) := by decide +kernel
theorem dX4_init_41 : decode cX4_init 41 = .ok (.aload_n 0, 1) := by decide +kernel
theorem dX4_init_42 : decode cX4_init 42 = .ok (.bipush 10, 2) := by decide +kernel
theorem dX4_init_44 : decode cX4_init 44 = .ok (.putfield 28, 3) := by decide +kernel
theorem dX4_init_47 : decode cX4_init 47 = .ok (.return_, 1) := by decide +kernel
theorem dX4_know_0 : decode cX4_know 0 = .ok (.iload_n 1, 1) := by decide +kernel
theorem dX4_know_1 : decode cX4_know 1 = .ok (.aload_n 0, 1) := by decide +kernel
theorem dX4_know_2 : decode cX4_know 2 = .ok (.getfield 24, 3) := by decide +kernel
theorem dX4_know_5 : decode cX4_know 5 = .ok (.iushr, 1) := by decide +kernel
theorem dX4_know_6 : decode cX4_know 6 = .ok (.ifCond .ne 7, 3) := by decide +kernel
theorem dX4_know_9 : decode cX4_know 9 = .ok (.iconst 1, 1) := by decide +kernel
theorem dX4_know_10 : decode cX4_know 10 = .ok (.goto 4, 3) := by decide +kernel
theorem dX4_know_13 : decode cX4_know 13 = .ok (.iconst 0, 1) := by decide +kernel
theorem dX4_know_14 : decode cX4_know 14 = .ok (.ireturn, 1) := by decide +kernel
theorem dX4_restOfNumber_0 : decode cX4_restOfNumber 0 = .ok (.aload_n 0, 1) := by decide +kernel
theorem dX4_restOfNumber_1 : decode cX4_restOfNumber 1 = .ok (.aload_n 0, 1) := by decide +kernel
theorem dX4_restOfNumber_2 : decode cX4_restOfNumber 2 = .ok (.getfield 9, 3) := by decide +kernel
theorem dX4_restOfNumber_5 : decode cX4_restOfNumber 5 = .ok (.iload_n 1, 1) := by decide +kernel
theorem dX4_restOfNumber_6 : decode cX4_restOfNumber 6 = .ok (.laload, 1) := by decide +kernel
theorem dX4_restOfNumber_7 : decode cX4_restOfNumber 7 = .ok (.invokevirtual 31, 3) := by decide +kernel
theorem dX4_restOfNumber_10 : decode cX4_restOfNumber 10 = .ok (.ireturn, 1) := by decide +kernel
theorem dX4_restOfSecond_0 : decode cX4_restOfSecond 0 = .ok (.aload_n 0, 1) := by decide +kernel
theorem dX4_restOfSecond_1 : decode cX4_restOfSecond 1 = .ok (.aload_n 0, 1) := by decide +kernel
theorem dX4_restOfSecond_2 : decode cX4_restOfSecond 2 = .ok (.getfield 15, 3) := by decide +kernel
theorem dX4_restOfSecond_5 : decode cX4_restOfSecond 5 = .ok (.iload_n 1, 1) := by decide +kernel
theorem dX4_restOfSecond_6 : decode cX4_restOfSecond 6 = .ok (.laload, 1) := by decide +kernel
theorem dX4_restOfSecond_7 : decode cX4_restOfSecond 7 = .ok (.invokevirtual 31, 3) := by decide +kernel
theorem dX4_restOfSecond_10 : decode cX4_restOfSecond 10 = .ok (.ireturn, 1) := by decide +kernel
theorem dX4_restOfNumbers_0 : decode cX4_restOfNumbers 0 = .ok (.aload_n 0, 1) := by decide +kernel
theorem dX4_restOfNumbers_1 : decode cX4_restOfNumbers 1 = .ok (.aload_n 0, 1) := by decide +kernel
theorem dX4_restOfNumbers_2 : decode cX4_restOfNumbers 2 = .ok (.aload_n 0, 1) := by decide +kernel
theorem dX4_restOfNumbers_3 : decode cX4_restOfNumbers 3 = .ok (.getfield 9, 3) := by decide +kernel
theorem dX4_restOfNumbers_6 : decode cX4_restOfNumbers 6 = .ok (.iload_n 1, 1) := by decide +kernel
theorem dX4_restOfNumbers_7 : decode cX4_restOfNumbers 7 = .ok (.invokevirtual 35, 3) := by decide +kernel
theorem dX4_restOfNumbers_10 : decode cX4_restOfNumbers 10 = .ok (.invokevirtual 31, 3) := by decide +kernel
theorem dX4_restOfNumbers_13 : decode cX4_restOfNumbers 13 = .ok (.ireturn, 1) := by decide +kernel
theorem dX4_restOfSeconds_0 : decode cX4_restOfSeconds 0 = .ok (.aload_n 0, 1) := by decide +kernel
theorem dX4_restOfSeconds_1 : decode cX4_restOfSeconds 1 = .ok (.aload_n 0, 1) := by decide +kernel
theorem dX4_restOfSeconds_2 : decode cX4_restOfSeconds 2 = .ok (.aload_n 0, 1) := by decide +kernel
theorem dX4_restOfSeconds_3 : decode cX4_restOfSeconds 3 = .ok (.getfield 15, 3) := by decide +kernel
theorem dX4_restOfSeconds_6 : decode cX4_restOfSeconds 6 = .ok (.iload_n 1, 1) := by decide +kernel
theorem dX4_restOfSeconds_7 : decode cX4_restOfSeconds 7 = .ok (.invokevirtual 35, 3) := by decide +kernel
theorem dX4_restOfSeconds_10 : decode cX4_restOfSeconds 10 = .ok (.invokevirtual 31, 3) := by decide +kernel
theorem dX4_restOfSeconds_13 : decode cX4_restOfSeconds 13 = .ok (.ireturn, 1) := by decide +kernel
theorem dX4_hasColour_0 : decode cX4_hasColour 0 = .ok (.iconst 0, 1) := by decide +kernel
theorem dX4_hasColour_1 : decode cX4_hasColour 1 = .ok (.istore_n 3, 1) := by decide +kernel
theorem dX4_hasColour_2 : decode cX4_hasColour 2 = .ok (.iload_n 3, 1) := by decide +kernel
theorem dX4_hasColour_3 : decode cX4_hasColour 3 = .ok (.aload_n 0, 1) := by decide +kernel
theorem dX4_hasColour_4 : decode cX4_hasColour 4 = .ok (.getfield 24, 3) := by decide +kernel
theorem dX4_hasColour_7 : decode cX4_hasColour 7 = .ok (.if_icmp .ge 32, 3) := by decide +kernel
theorem dX4_hasColour_10 : decode cX4_hasColour 10 = .ok (.iload_n 1, 1) := by decide +kernel
theorem dX4_hasColour_11 : decode cX4_hasColour 11 = .ok (.iload_n 3, 1) := by decide +kernel
theorem dX4_hasColour_12 : decode cX4_hasColour 12 = .ok (.ishr, 1) := by decide +kernel
theorem dX4_hasColour_13 : decode cX4_hasColour 13 = .ok (.iconst 1, 1) := by decide +kernel
theorem dX4_hasColour_14 : decode cX4_hasColour 14 = .ok (.iand, 1) := by decide +kernel
theorem dX4_hasColour_15 : decode cX4_hasColour 15 = .ok (.iconst 1, 1) := by decide +kernel
theorem dX4_hasColour_16 : decode cX4_hasColour 16 = .ok (.if_icmp .ne 17, 3) := by decide +kernel
theorem dX4_hasColour_19 : decode cX4_hasColour 19 = .ok (.aload_n 0, 1) := by decide +kernel
theorem dX4_hasColour_20 : decode cX4_hasColour 20 = .ok (.getfield 18, 3) := by decide +kernel
theorem dX4_hasColour_23 : decode cX4_hasColour 23 = .ok (.iload_n 3, 1) := by decide +kernel
theorem dX4_hasColour_24 : decode cX4_hasColour 24 = .ok (.laload, 1) := by decide +kernel
theorem dX4_hasColour_25 : decode cX4_hasColour 25 = .ok (.iload_n 2, 1) := by decide +kernel
theorem dX4_hasColour_26 : decode cX4_hasColour 26 = .ok (.i2l, 1) := by decide +kernel
theorem dX4_hasColour_27 : decode cX4_hasColour 27 = .ok (.lcmp, 1) := by decide +kernel
theorem dX4_hasColour_28 : decode cX4_hasColour 28 = .ok (.ifCond .ne 5, 3) := by decide +kernel
theorem dX4_hasColour_31 : decode cX4_hasColour 31 = .ok (.iconst 1, 1) := by decide +kernel
theorem dX4_hasColour_32 : decode cX4_hasColour 32 = .ok (.ireturn, 1) := by decide +kernel
theorem dX4_hasColour_33 : decode cX4_hasColour 33 = .ok (.iinc 3 1, 3) := by decide +kernel
theorem dX4_hasColour_36 : decode cX4_hasColour 36 = .ok (.goto (-34), 3) := by decide +kernel
theorem dX4_hasColour_39 : decode cX4_hasColour 39 = .ok (.iconst 0, 1) := by decide +kernel
theorem dX4_hasColour_40 : decode cX4_hasColour 40 = .ok (.ireturn, 1) := by decide +kernel
theorem dX4_firstInstead_0 : decode cX4_firstInstead 0 = .ok (.aload_n 0, 1) := by decide +kernel
theorem dX4_firstInstead_1 : decode cX4_firstInstead 1 = .ok (.iload_n 2, 1) := by decide +kernel
theorem dX4_firstInstead_2 : decode cX4_firstInstead 2 = .ok (.invokevirtual 39, 3) := by decide +kernel
theorem dX4_firstInstead_5 : decode cX4_firstInstead 5 = .ok (.iload_n 3, 1) := by decide +kernel
theorem dX4_firstInstead_6 : decode cX4_firstInstead 6 = .ok (.iadd, 1) := by decide +kernel
theorem dX4_firstInstead_7 : decode cX4_firstInstead 7 = .ok (.aload_n 0, 1) := by decide +kernel
theorem dX4_firstInstead_8 : decode cX4_firstInstead 8 = .ok (.getfield 28, 3) := by decide +kernel
theorem dX4_firstInstead_11 : decode cX4_firstInstead 11 = .ok (.invokestatic 43, 3) := by decide +kernel
theorem dX4_firstInstead_14 : decode cX4_firstInstead 14 = .ok (.istore 4, 2) := by decide +kernel
theorem dX4_firstInstead_16 : decode cX4_firstInstead 16 = .ok (.iconst 0, 1) := by decide +kernel
theorem dX4_firstInstead_17 : decode cX4_firstInstead 17 = .ok (.istore 5, 2) := by decide +kernel
theorem dX4_firstInstead_19 : decode cX4_firstInstead 19 = .ok (.iload 5, 2) := by decide +kernel
theorem dX4_firstInstead_21 : decode cX4_firstInstead 21 = .ok (.aload_n 0, 1) := by decide +kernel
theorem dX4_firstInstead_22 : decode cX4_firstInstead 22 = .ok (.getfield 24, 3) := by decide +kernel
theorem dX4_firstInstead_25 : decode cX4_firstInstead 25 = .ok (.if_icmp .ge 32, 3) := by decide +kernel
theorem dX4_firstInstead_28 : decode cX4_firstInstead 28 = .ok (.iload_n 1, 1) := by decide +kernel
theorem dX4_firstInstead_29 : decode cX4_firstInstead 29 = .ok (.iload 5, 2) := by decide +kernel
theorem dX4_firstInstead_31 : decode cX4_firstInstead 31 = .ok (.ishr, 1) := by decide +kernel
theorem dX4_firstInstead_32 : decode cX4_firstInstead 32 = .ok (.iconst 1, 1) := by decide +kernel
theorem dX4_firstInstead_33 : decode cX4_firstInstead 33 = .ok (.iand, 1) := by decide +kernel
theorem dX4_firstInstead_34 : decode cX4_firstInstead 34 = .ok (.ifCond .ne 17, 3) := by decide +kernel
theorem dX4_firstInstead_37 : decode cX4_firstInstead 37 = .ok (.aload_n 0, 1) := by decide +kernel
theorem dX4_firstInstead_38 : decode cX4_firstInstead 38 = .ok (.iload 5, 2) := by decide +kernel
theorem dX4_firstInstead_40 : decode cX4_firstInstead 40 = .ok (.invokevirtual 39, 3) := by decide +kernel
theorem dX4_firstInstead_43 : decode cX4_firstInstead 43 = .ok (.iload 4, 2) := by decide +kernel
theorem dX4_firstInstead_45 : decode cX4_firstInstead 45 = .ok (.if_icmp .ne 6, 3) := by decide +kernel
theorem dX4_firstInstead_48 : decode cX4_firstInstead 48 = .ok (.iload 5, 2) := by decide +kernel
theorem dX4_firstInstead_50 : decode cX4_firstInstead 50 = .ok (.ireturn, 1) := by decide +kernel
theorem dX4_firstInstead_51 : decode cX4_firstInstead 51 = .ok (.iinc 5 1, 3) := by decide +kernel
theorem dX4_firstInstead_54 : decode cX4_firstInstead 54 = .ok (.goto (-35), 3) := by decide +kernel
theorem dX4_firstInstead_57 : decode cX4_firstInstead 57 = .ok (.iconst (-1), 1) := by decide +kernel
theorem dX4_firstInstead_58 : decode cX4_firstInstead 58 = .ok (.ireturn, 1) := by decide +kernel
theorem dX4_obey_0 : decode cX4_obey 0 = .ok (.iload_n 1, 1) := by decide +kernel
theorem dX4_obey_1 : decode cX4_obey 1 = .ok (.tableswitch 57 0 2 #[27, 38, 46], 27) := by decide +kernel
theorem dX4_obey_28 : decode cX4_obey 28 = .ok (.aload_n 0, 1) := by decide +kernel
theorem dX4_obey_29 : decode cX4_obey 29 = .ok (.aload_n 2, 1) := by decide +kernel
theorem dX4_obey_30 : decode cX4_obey 30 = .ok (.iconst 0, 1) := by decide +kernel
theorem dX4_obey_31 : decode cX4_obey 31 = .ok (.laload, 1) := by decide +kernel
theorem dX4_obey_32 : decode cX4_obey 32 = .ok (.l2i, 1) := by decide +kernel
theorem dX4_obey_33 : decode cX4_obey 33 = .ok (.putfield 28, 3) := by decide +kernel
theorem dX4_obey_36 : decode cX4_obey 36 = .ok (.goto 27, 3) := by decide +kernel
theorem dX4_obey_39 : decode cX4_obey 39 = .ok (.aload_n 0, 1) := by decide +kernel
theorem dX4_obey_40 : decode cX4_obey 40 = .ok (.aload_n 2, 1) := by decide +kernel
theorem dX4_obey_41 : decode cX4_obey 41 = .ok (.invokevirtual 47, 3) := by decide +kernel
theorem dX4_obey_44 : decode cX4_obey 44 = .ok (.goto 19, 3) := by decide +kernel
theorem dX4_obey_47 : decode cX4_obey 47 = .ok (.aload_n 0, 1) := by decide +kernel
theorem dX4_obey_48 : decode cX4_obey 48 = .ok (.aload_n 2, 1) := by decide +kernel
theorem dX4_obey_49 : decode cX4_obey 49 = .ok (.iconst 0, 1) := by decide +kernel
theorem dX4_obey_50 : decode cX4_obey 50 = .ok (.laload, 1) := by decide +kernel
theorem dX4_obey_51 : decode cX4_obey 51 = .ok (.l2i, 1) := by decide +kernel
theorem dX4_obey_52 : decode cX4_obey 52 = .ok (.invokevirtual 51, 3) := by decide +kernel
theorem dX4_obey_55 : decode cX4_obey 55 = .ok (.goto 8, 3) := by decide +kernel
theorem dX4_obey_58 : decode cX4_obey 58 = .ok (.aload_n 0, 1) := by decide +kernel
theorem dX4_obey_59 : decode cX4_obey 59 = .ok (.iconst 0, 1) := by decide +kernel
theorem dX4_obey_60 : decode cX4_obey 60 = .ok (.putfield 24, 3) := by decide +kernel
theorem dX4_obey_63 : decode cX4_obey 63 = .ok (.return_, 1) := by decide +kernel
theorem dX4_add_0 : decode cX4_add 0 = .ok (.aload_n 0, 1) := by decide +kernel
theorem dX4_add_1 : decode cX4_add 1 = .ok (.getfield 24, 3) := by decide +kernel
theorem dX4_add_4 : decode cX4_add 4 = .ok (.bipush 20, 2) := by decide +kernel
theorem dX4_add_6 : decode cX4_add 6 = .ok (.if_icmp .lt 4, 3) := by decide +kernel
theorem dX4_add_9 : decode cX4_add 9 = .ok (.return_, 1) := by decide +kernel
theorem dX4_add_10 : decode cX4_add 10 = .ok (.aload_n 0, 1) := by decide +kernel
theorem dX4_add_11 : decode cX4_add 11 = .ok (.getfield 9, 3) := by decide +kernel
theorem dX4_add_14 : decode cX4_add 14 = .ok (.aload_n 0, 1) := by decide +kernel
theorem dX4_add_15 : decode cX4_add 15 = .ok (.getfield 24, 3) := by decide +kernel
theorem dX4_add_18 : decode cX4_add 18 = .ok (.aload_n 1, 1) := by decide +kernel
theorem dX4_add_19 : decode cX4_add 19 = .ok (.iconst 0, 1) := by decide +kernel
theorem dX4_add_20 : decode cX4_add 20 = .ok (.laload, 1) := by decide +kernel
theorem dX4_add_21 : decode cX4_add 21 = .ok (.lastore, 1) := by decide +kernel
theorem dX4_add_22 : decode cX4_add 22 = .ok (.aload_n 0, 1) := by decide +kernel
theorem dX4_add_23 : decode cX4_add 23 = .ok (.getfield 18, 3) := by decide +kernel
theorem dX4_add_26 : decode cX4_add 26 = .ok (.aload_n 0, 1) := by decide +kernel
theorem dX4_add_27 : decode cX4_add 27 = .ok (.getfield 24, 3) := by decide +kernel
theorem dX4_add_30 : decode cX4_add 30 = .ok (.aload_n 1, 1) := by decide +kernel
theorem dX4_add_31 : decode cX4_add 31 = .ok (.iconst 1, 1) := by decide +kernel
theorem dX4_add_32 : decode cX4_add 32 = .ok (.laload, 1) := by decide +kernel
theorem dX4_add_33 : decode cX4_add 33 = .ok (.lastore, 1) := by decide +kernel
theorem dX4_add_34 : decode cX4_add 34 = .ok (.aload_n 0, 1) := by decide +kernel
theorem dX4_add_35 : decode cX4_add 35 = .ok (.getfield 15, 3) := by decide +kernel
theorem dX4_add_38 : decode cX4_add 38 = .ok (.aload_n 0, 1) := by decide +kernel
theorem dX4_add_39 : decode cX4_add 39 = .ok (.getfield 24, 3) := by decide +kernel
theorem dX4_add_42 : decode cX4_add 42 = .ok (.aload_n 1, 1) := by decide +kernel
theorem dX4_add_43 : decode cX4_add 43 = .ok (.iconst 2, 1) := by decide +kernel
theorem dX4_add_44 : decode cX4_add 44 = .ok (.laload, 1) := by decide +kernel
theorem dX4_add_45 : decode cX4_add 45 = .ok (.lastore, 1) := by decide +kernel
theorem dX4_add_46 : decode cX4_add 46 = .ok (.aload_n 0, 1) := by decide +kernel
theorem dX4_add_47 : decode cX4_add 47 = .ok (.getfield 21, 3) := by decide +kernel
theorem dX4_add_50 : decode cX4_add 50 = .ok (.aload_n 0, 1) := by decide +kernel
theorem dX4_add_51 : decode cX4_add 51 = .ok (.getfield 24, 3) := by decide +kernel
theorem dX4_add_54 : decode cX4_add 54 = .ok (.aload_n 1, 1) := by decide +kernel
theorem dX4_add_55 : decode cX4_add 55 = .ok (.iconst 3, 1) := by decide +kernel
theorem dX4_add_56 : decode cX4_add 56 = .ok (.laload, 1) := by decide +kernel
theorem dX4_add_57 : decode cX4_add 57 = .ok (.lastore, 1) := by decide +kernel
theorem dX4_add_58 : decode cX4_add 58 = .ok (.aload_n 0, 1) := by decide +kernel
theorem dX4_add_59 : decode cX4_add 59 = .ok (.dup, 1) := by decide +kernel
theorem dX4_add_60 : decode cX4_add 60 = .ok (.getfield 24, 3) := by decide +kernel
theorem dX4_add_63 : decode cX4_add 63 = .ok (.iconst 1, 1) := by decide +kernel
theorem dX4_add_64 : decode cX4_add 64 = .ok (.iadd, 1) := by decide +kernel
theorem dX4_add_65 : decode cX4_add 65 = .ok (.putfield 24, 3) := by decide +kernel
theorem dX4_add_68 : decode cX4_add 68 = .ok (.return_, 1) := by decide +kernel
theorem dX4_takeAway_0 : decode cX4_takeAway 0 = .ok (.iload_n 1, 1) := by decide +kernel
theorem dX4_takeAway_1 : decode cX4_takeAway 1 = .ok (.ifCond .lt 11, 3) := by decide +kernel
theorem dX4_takeAway_4 : decode cX4_takeAway 4 = .ok (.iload_n 1, 1) := by decide +kernel
theorem dX4_takeAway_5 : decode cX4_takeAway 5 = .ok (.aload_n 0, 1) := by decide +kernel
theorem dX4_takeAway_6 : decode cX4_takeAway 6 = .ok (.getfield 24, 3) := by decide +kernel
theorem dX4_takeAway_9 : decode cX4_takeAway 9 = .ok (.if_icmp .lt 4, 3) := by decide +kernel
theorem dX4_takeAway_12 : decode cX4_takeAway 12 = .ok (.return_, 1) := by decide +kernel
theorem dX4_takeAway_13 : decode cX4_takeAway 13 = .ok (.aload_n 0, 1) := by decide +kernel
theorem dX4_takeAway_14 : decode cX4_takeAway 14 = .ok (.getfield 24, 3) := by decide +kernel
theorem dX4_takeAway_17 : decode cX4_takeAway 17 = .ok (.iload_n 1, 1) := by decide +kernel
theorem dX4_takeAway_18 : decode cX4_takeAway 18 = .ok (.isub, 1) := by decide +kernel
theorem dX4_takeAway_19 : decode cX4_takeAway 19 = .ok (.iconst 1, 1) := by decide +kernel
theorem dX4_takeAway_20 : decode cX4_takeAway 20 = .ok (.isub, 1) := by decide +kernel
theorem dX4_takeAway_21 : decode cX4_takeAway 21 = .ok (.istore_n 2, 1) := by decide +kernel
theorem dX4_takeAway_22 : decode cX4_takeAway 22 = .ok (.aload_n 0, 1) := by decide +kernel
theorem dX4_takeAway_23 : decode cX4_takeAway 23 = .ok (.getfield 9, 3) := by decide +kernel
theorem dX4_takeAway_26 : decode cX4_takeAway 26 = .ok (.iload_n 1, 1) := by decide +kernel
theorem dX4_takeAway_27 : decode cX4_takeAway 27 = .ok (.iconst 1, 1) := by decide +kernel
theorem dX4_takeAway_28 : decode cX4_takeAway 28 = .ok (.iadd, 1) := by decide +kernel
theorem dX4_takeAway_29 : decode cX4_takeAway 29 = .ok (.aload_n 0, 1) := by decide +kernel
theorem dX4_takeAway_30 : decode cX4_takeAway 30 = .ok (.getfield 9, 3) := by decide +kernel
theorem dX4_takeAway_33 : decode cX4_takeAway 33 = .ok (.iload_n 1, 1) := by decide +kernel
theorem dX4_takeAway_34 : decode cX4_takeAway 34 = .ok (.iload_n 2, 1) := by decide +kernel
theorem dX4_takeAway_35 : decode cX4_takeAway 35 = .ok (.invokestatic 55, 3) := by decide +kernel
theorem dX4_takeAway_38 : decode cX4_takeAway 38 = .ok (.aload_n 0, 1) := by decide +kernel
theorem dX4_takeAway_39 : decode cX4_takeAway 39 = .ok (.getfield 18, 3) := by decide +kernel
theorem dX4_takeAway_42 : decode cX4_takeAway 42 = .ok (.iload_n 1, 1) := by decide +kernel
theorem dX4_takeAway_43 : decode cX4_takeAway 43 = .ok (.iconst 1, 1) := by decide +kernel
theorem dX4_takeAway_44 : decode cX4_takeAway 44 = .ok (.iadd, 1) := by decide +kernel
theorem dX4_takeAway_45 : decode cX4_takeAway 45 = .ok (.aload_n 0, 1) := by decide +kernel
theorem dX4_takeAway_46 : decode cX4_takeAway 46 = .ok (.getfield 18, 3) := by decide +kernel
theorem dX4_takeAway_49 : decode cX4_takeAway 49 = .ok (.iload_n 1, 1) := by decide +kernel
theorem dX4_takeAway_50 : decode cX4_takeAway 50 = .ok (.iload_n 2, 1) := by decide +kernel
theorem dX4_takeAway_51 : decode cX4_takeAway 51 = .ok (.invokestatic 55, 3) := by decide +kernel
theorem dX4_takeAway_54 : decode cX4_takeAway 54 = .ok (.aload_n 0, 1) := by decide +kernel
theorem dX4_takeAway_55 : decode cX4_takeAway 55 = .ok (.getfield 15, 3) := by decide +kernel
theorem dX4_takeAway_58 : decode cX4_takeAway 58 = .ok (.iload_n 1, 1) := by decide +kernel
theorem dX4_takeAway_59 : decode cX4_takeAway 59 = .ok (.iconst 1, 1) := by decide +kernel
theorem dX4_takeAway_60 : decode cX4_takeAway 60 = .ok (.iadd, 1) := by decide +kernel
theorem dX4_takeAway_61 : decode cX4_takeAway 61 = .ok (.aload_n 0, 1) := by decide +kernel
theorem dX4_takeAway_62 : decode cX4_takeAway 62 = .ok (.getfield 15, 3) := by decide +kernel
theorem dX4_takeAway_65 : decode cX4_takeAway 65 = .ok (.iload_n 1, 1) := by decide +kernel
theorem dX4_takeAway_66 : decode cX4_takeAway 66 = .ok (.iload_n 2, 1) := by decide +kernel
theorem dX4_takeAway_67 : decode cX4_takeAway 67 = .ok (.invokestatic 55, 3) := by decide +kernel
theorem dX4_takeAway_70 : decode cX4_takeAway 70 = .ok (.aload_n 0, 1) := by decide +kernel
theorem dX4_takeAway_71 : decode cX4_takeAway 71 = .ok (.getfield 21, 3) := by decide +kernel
theorem dX4_takeAway_74 : decode cX4_takeAway 74 = .ok (.iload_n 1, 1) := by decide +kernel
theorem dX4_takeAway_75 : decode cX4_takeAway 75 = .ok (.iconst 1, 1) := by decide +kernel
theorem dX4_takeAway_76 : decode cX4_takeAway 76 = .ok (.iadd, 1) := by decide +kernel
theorem dX4_takeAway_77 : decode cX4_takeAway 77 = .ok (.aload_n 0, 1) := by decide +kernel
theorem dX4_takeAway_78 : decode cX4_takeAway 78 = .ok (.getfield 21, 3) := by decide +kernel
theorem dX4_takeAway_81 : decode cX4_takeAway 81 = .ok (.iload_n 1, 1) := by decide +kernel
theorem dX4_takeAway_82 : decode cX4_takeAway 82 = .ok (.iload_n 2, 1) := by decide +kernel
theorem dX4_takeAway_83 : decode cX4_takeAway 83 = .ok (.invokestatic 55, 3) := by decide +kernel
theorem dX4_takeAway_86 : decode cX4_takeAway 86 = .ok (.aload_n 0, 1) := by decide +kernel
theorem dX4_takeAway_87 : decode cX4_takeAway 87 = .ok (.dup, 1) := by decide +kernel
theorem dX4_takeAway_88 : decode cX4_takeAway 88 = .ok (.getfield 24, 3) := by decide +kernel
theorem dX4_takeAway_91 : decode cX4_takeAway 91 = .ok (.iconst 1, 1) := by decide +kernel
theorem dX4_takeAway_92 : decode cX4_takeAway 92 = .ok (.isub, 1) := by decide +kernel
theorem dX4_takeAway_93 : decode cX4_takeAway 93 = .ok (.putfield 24, 3) := by decide +kernel
theorem dX4_takeAway_96 : decode cX4_takeAway 96 = .ok (.return_, 1) := by decide +kernel
theorem dX4_together_0 : decode cX4_together 0 = .ok (.lconst 0, 1) := by decide +kernel
theorem dX4_together_1 : decode cX4_together 1 = .ok (.lstore_n 3, 1) := by decide +kernel
theorem dX4_together_2 : decode cX4_together 2 = .ok (.iconst 0, 1) := by decide +kernel
theorem dX4_together_3 : decode cX4_together 3 = .ok (.istore 5, 2) := by decide +kernel
theorem dX4_together_5 : decode cX4_together 5 = .ok (.iload 5, 2) := by decide +kernel
theorem dX4_together_7 : decode cX4_together 7 = .ok (.aload_n 0, 1) := by decide +kernel
theorem dX4_together_8 : decode cX4_together 8 = .ok (.getfield 24, 3) := by decide +kernel
theorem dX4_together_11 : decode cX4_together 11 = .ok (.if_icmp .ge 26, 3) := by decide +kernel
theorem dX4_together_14 : decode cX4_together 14 = .ok (.iload_n 2, 1) := by decide +kernel
theorem dX4_together_15 : decode cX4_together 15 = .ok (.iload 5, 2) := by decide +kernel
theorem dX4_together_17 : decode cX4_together 17 = .ok (.ishr, 1) := by decide +kernel
theorem dX4_together_18 : decode cX4_together 18 = .ok (.iconst 1, 1) := by decide +kernel
theorem dX4_together_19 : decode cX4_together 19 = .ok (.iand, 1) := by decide +kernel
theorem dX4_together_20 : decode cX4_together 20 = .ok (.iconst 1, 1) := by decide +kernel
theorem dX4_together_21 : decode cX4_together 21 = .ok (.if_icmp .ne 10, 3) := by decide +kernel
theorem dX4_together_24 : decode cX4_together 24 = .ok (.lload_n 3, 1) := by decide +kernel
theorem dX4_together_25 : decode cX4_together 25 = .ok (.aload_n 1, 1) := by decide +kernel
theorem dX4_together_26 : decode cX4_together 26 = .ok (.iload 5, 2) := by decide +kernel
theorem dX4_together_28 : decode cX4_together 28 = .ok (.laload, 1) := by decide +kernel
theorem dX4_together_29 : decode cX4_together 29 = .ok (.ladd, 1) := by decide +kernel
theorem dX4_together_30 : decode cX4_together 30 = .ok (.lstore_n 3, 1) := by decide +kernel
theorem dX4_together_31 : decode cX4_together 31 = .ok (.iinc 5 1, 3) := by decide +kernel
theorem dX4_together_34 : decode cX4_together 34 = .ok (.goto (-29), 3) := by decide +kernel
theorem dX4_together_37 : decode cX4_together 37 = .ok (.lload_n 3, 1) := by decide +kernel
theorem dX4_together_38 : decode cX4_together 38 = .ok (.lreturn, 1) := by decide +kernel
theorem dX4_restOf_0 : decode cX4_restOf 0 = .ok (.aload_n 0, 1) := by decide +kernel
theorem dX4_restOf_1 : decode cX4_restOf 1 = .ok (.getfield 28, 3) := by decide +kernel
theorem dX4_restOf_4 : decode cX4_restOf 4 = .ok (.iconst 1, 1) := by decide +kernel
theorem dX4_restOf_5 : decode cX4_restOf 5 = .ok (.if_icmp .ge 7, 3) := by decide +kernel
theorem dX4_restOf_8 : decode cX4_restOf 8 = .ok (.iconst 0, 1) := by decide +kernel
theorem dX4_restOf_9 : decode cX4_restOf 9 = .ok (.goto 11, 3) := by decide +kernel
theorem dX4_restOf_12 : decode cX4_restOf 12 = .ok (.lload_n 1, 1) := by decide +kernel
theorem dX4_restOf_13 : decode cX4_restOf 13 = .ok (.aload_n 0, 1) := by decide +kernel
theorem dX4_restOf_14 : decode cX4_restOf 14 = .ok (.getfield 28, 3) := by decide +kernel
theorem dX4_restOf_17 : decode cX4_restOf 17 = .ok (.i2l, 1) := by decide +kernel
theorem dX4_restOf_18 : decode cX4_restOf 18 = .ok (.lrem, 1) := by decide +kernel
theorem dX4_restOf_19 : decode cX4_restOf 19 = .ok (.l2i, 1) := by decide +kernel
theorem dX4_restOf_20 : decode cX4_restOf 20 = .ok (.ireturn, 1) := by decide +kernel
theorem dX5_init_0 : decode cX5_init 0 = .ok (.aload_n 0, 1) := by decide +kernel
theorem dX5_init_1 : decode cX5_init 1 = .ok (.invokespecial 3, 3) := by decide +kernel
theorem dX5_init_4 : decode cX5_init 4 = .ok (.aload_n 0, 1) := by decide +kernel
theorem dX5_init_5 : decode cX5_init 5 = .ok (.bipush 21, 2) := by decide +kernel
theorem dX5_init_7 : decode cX5_init 7 = .ok (.bipush 10, 2) := by decide +kernel
theorem dX5_init_9 : decode cX5_init 9 = .ok (.multianewarray 9 2, 4) := by decide +kernel
theorem dX5_init_13 : decode cX5_init 13 = .ok (.putfield 11, 3) := by decide +kernel
theorem dX5_init_16 : decode cX5_init 16 = .ok (.aload_n 0, 1) := by decide +kernel
theorem dX5_init_17 : decode cX5_init 17 = .ok (.bipush 21, 2) := by decide +kernel
theorem dX5_init_19 : decode cX5_init 19 = .ok (.bipush 10, 2) := by decide +kernel
theorem dX5_init_21 : decode cX5_init 21 = .ok (.multianewarray 16 2, 4) := by decide +kernel
theorem dX5_init_25 : decode cX5_init 25 = .ok (.putfield 18, 3) := by decide +kernel
theorem dX5_init_28 : decode cX5_init 28 = .ok (.aload_n 0, 1) := by decide +kernel
theorem dX5_init_29 : decode cX5_init 29 = .ok (.aload_n 1, 1) := by decide +kernel
theorem dX5_init_30 : decode cX5_init 30 = .ok (.putfield 21, 3) := by decide +kernel
theorem dX5_init_33 : decode cX5_init 33 = .ok (.return_, 1) := by decide +kernel
theorem dX5_answer_0 : decode cX5_answer 0 = .ok (.aload_n 0, 1) := by decide +kernel
theorem dX5_answer_1 : decode cX5_answer 1 = .ok (.aload_n 1, 1) := by decide +kernel
theorem dX5_answer_2 : decode cX5_answer 2 = .ok (.iload_n 2, 1) := by decide +kernel
theorem dX5_answer_3 : decode cX5_answer 3 = .ok (.invokevirtual 25, 3) := by decide +kernel
theorem dX5_answer_6 : decode cX5_answer 6 = .ok (.aload_n 0, 1) := by decide +kernel
theorem dX5_answer_7 : decode cX5_answer 7 = .ok (.getfield 11, 3) := by decide +kernel
theorem dX5_answer_10 : decode cX5_answer 10 = .ok (.iload_n 2, 1) := by decide +kernel
theorem dX5_answer_11 : decode cX5_answer 11 = .ok (.aaload, 1) := by decide +kernel
theorem dX5_answer_12 : decode cX5_answer 12 = .ok (.iconst 0, 1) := by decide +kernel
theorem dX5_answer_13 : decode cX5_answer 13 = .ok (.iaload, 1) := by decide +kernel
theorem dX5_answer_14 : decode cX5_answer 14 = .ok (.iconst (-1), 1) := by decide +kernel
theorem dX5_answer_15 : decode cX5_answer 15 = .ok (.if_icmp .ne 7, 3) := by decide +kernel
theorem dX5_answer_18 : decode cX5_answer 18 = .ok (.ldc2_w 29, 3) := by decide +kernel
theorem dX5_answer_21 : decode cX5_answer 21 = .ok (.lreturn, 1) := by decide +kernel
theorem dX5_answer_22 : decode cX5_answer 22 = .ok (.iload_n 3, 1) := by decide +kernel
theorem dX5_answer_23 : decode cX5_answer 23 = .ok (.ifCond .ne 15, 3) := by decide +kernel
theorem dX5_answer_26 : decode cX5_answer 26 = .ok (.aload_n 0, 1) := by decide +kernel
theorem dX5_answer_27 : decode cX5_answer 27 = .ok (.getfield 11, 3) := by decide +kernel
theorem dX5_answer_30 : decode cX5_answer 30 = .ok (.iload_n 2, 1) := by decide +kernel
theorem dX5_answer_31 : decode cX5_answer 31 = .ok (.aaload, 1) := by decide +kernel
theorem dX5_answer_32 : decode cX5_answer 32 = .ok (.iconst 0, 1) := by decide +kernel
theorem dX5_answer_33 : decode cX5_answer 33 = .ok (.iaload, 1) := by decide +kernel
theorem dX5_answer_34 : decode cX5_answer 34 = .ok (.i2l, 1) := by decide +kernel
theorem dX5_answer_35 : decode cX5_answer 35 = .ok (.goto 11, 3) := by decide +kernel
theorem dX5_answer_38 : decode cX5_answer 38 = .ok (.aload_n 0, 1) := by decide +kernel
theorem dX5_answer_39 : decode cX5_answer 39 = .ok (.getfield 18, 3) := by decide +kernel
theorem dX5_answer_42 : decode cX5_answer 42 = .ok (.iload_n 2, 1) := by decide +kernel
theorem dX5_answer_43 : decode cX5_answer 43 = .ok (.aaload, 1) := by decide +kernel
theorem dX5_answer_44 : decode cX5_answer 44 = .ok (.iconst 0, 1) := by decide +kernel
theorem dX5_answer_45 : decode cX5_answer 45 = .ok (.laload, 1) := by decide +kernel
theorem dX5_answer_46 : decode cX5_answer 46 = .ok (.lreturn, 1) := by decide +kernel
theorem dX5_fillLots_0 : decode cX5_fillLots 0 = .ok (.iconst 0, 1) := by decide +kernel
theorem dX5_fillLots_1 : decode cX5_fillLots 1 = .ok (.istore_n 3, 1) := by decide +kernel
theorem dX5_fillLots_2 : decode cX5_fillLots 2 = .ok (.iload_n 3, 1) := by decide +kernel
theorem dX5_fillLots_3 : decode cX5_fillLots 3 = .ok (.iload_n 2, 1) := by decide +kernel
theorem dX5_fillLots_4 : decode cX5_fillLots 4 = .ok (.if_icmp .gt 19, 3) := by decide +kernel
theorem dX5_fillLots_7 : decode cX5_fillLots 7 = .ok (.aload_n 0, 1) := by decide +kernel
theorem dX5_fillLots_8 : decode cX5_fillLots 8 = .ok (.getfield 11, 3) := by decide +kernel
theorem dX5_fillLots_11 : decode cX5_fillLots 11 = .ok (.iload_n 3, 1) := by decide +kernel
theorem dX5_fillLots_12 : decode cX5_fillLots 12 = .ok (.aaload, 1) := by decide +kernel
theorem dX5_fillLots_13 : decode cX5_fillLots 13 = .ok (.iconst (-1), 1) := by decide +kernel
theorem dX5_fillLots_14 : decode cX5_fillLots 14 = .ok (.invokestatic 31, 3) := by decide +kernel
theorem dX5_fillLots_17 : decode cX5_fillLots 17 = .ok (.iinc 3 1, 3) := by decide +kernel
theorem dX5_fillLots_20 : decode cX5_fillLots 20 = .ok (.goto (-18), 3) := by decide +kernel
theorem dX5_fillLots_23 : decode cX5_fillLots 23 = .ok (.aload_n 0, 1) := by decide +kernel
theorem dX5_fillLots_24 : decode cX5_fillLots 24 = .ok (.getfield 11, 3) := by decide +kernel
theorem dX5_fillLots_27 : decode cX5_fillLots 27 = .ok (.iconst 0, 1) := by decide +kernel
theorem dX5_fillLots_28 : decode cX5_fillLots 28 = .ok (.aaload, 1) := by decide +kernel
theorem dX5_fillLots_29 : decode cX5_fillLots 29 = .ok (.iconst 0, 1) := by decide +kernel
theorem dX5_fillLots_30 : decode cX5_fillLots 30 = .ok (.iconst 0, 1) := by decide +kernel
theorem dX5_fillLots_31 : decode cX5_fillLots 31 = .ok (.iastore, 1) := by decide +kernel
theorem dX5_fillLots_32 : decode cX5_fillLots 32 = .ok (.aload_n 0, 1) := by decide +kernel
theorem dX5_fillLots_33 : decode cX5_fillLots 33 = .ok (.getfield 18, 3) := by decide +kernel
theorem dX5_fillLots_36 : decode cX5_fillLots 36 = .ok (.iconst 0, 1) := by decide +kernel
theorem dX5_fillLots_37 : decode cX5_fillLots 37 = .ok (.aaload, 1) := by decide +kernel
theorem dX5_fillLots_38 : decode cX5_fillLots 38 = .ok (.iconst 0, 1) := by decide +kernel
theorem dX5_fillLots_39 : decode cX5_fillLots 39 = .ok (.lconst 0, 1) := by decide +kernel
theorem dX5_fillLots_40 : decode cX5_fillLots 40 = .ok (.lastore, 1) := by decide +kernel
theorem dX5_fillLots_41 : decode cX5_fillLots 41 = .ok (.iconst 0, 1) := by decide +kernel
theorem dX5_fillLots_42 : decode cX5_fillLots 42 = .ok (.istore_n 3, 1) := by decide +kernel
theorem dX5_fillLots_43 : decode cX5_fillLots 43 = .ok (.iload_n 3, 1) := by decide +kernel
theorem dX5_fillLots_44 : decode cX5_fillLots 44 = .ok (.aload_n 0, 1) := by decide +kernel
theorem dX5_fillLots_45 : decode cX5_fillLots 45 = .ok (.getfield 21, 3) := by decide +kernel
theorem dX5_fillLots_48 : decode cX5_fillLots 48 = .ok (.getfield 37, 3) := by decide +kernel
theorem dX5_fillLots_51 : decode cX5_fillLots 51 = .ok (.if_icmp .ge 40, 3) := by decide +kernel
theorem dX5_fillLots_54 : decode cX5_fillLots 54 = .ok (.iload_n 2, 1) := by decide +kernel
theorem dX5_fillLots_55 : decode cX5_fillLots 55 = .ok (.iload_n 3, 1) := by decide +kernel
theorem dX5_fillLots_56 : decode cX5_fillLots 56 = .ok (.iconst 1, 1) := by decide +kernel
theorem dX5_fillLots_57 : decode cX5_fillLots 57 = .ok (.iadd, 1) := by decide +kernel
theorem dX5_fillLots_58 : decode cX5_fillLots 58 = .ok (.invokestatic 43, 3) := by decide +kernel
theorem dX5_fillLots_61 : decode cX5_fillLots 61 = .ok (.istore 4, 2) := by decide +kernel
theorem dX5_fillLots_63 : decode cX5_fillLots 63 = .ok (.iload 4, 2) := by decide +kernel
theorem dX5_fillLots_65 : decode cX5_fillLots 65 = .ok (.iconst 1, 1) := by decide +kernel
theorem dX5_fillLots_66 : decode cX5_fillLots 66 = .ok (.if_icmp .lt 19, 3) := by decide +kernel
theorem dX5_fillLots_69 : decode cX5_fillLots 69 = .ok (.aload_n 0, 1) := by decide +kernel
theorem dX5_fillLots_70 : decode cX5_fillLots 70 = .ok (.iload 4, 2) := by decide +kernel
theorem dX5_fillLots_72 : decode cX5_fillLots 72 = .ok (.iload_n 3, 1) := by decide +kernel
theorem dX5_fillLots_73 : decode cX5_fillLots 73 = .ok (.aload_n 1, 1) := by decide +kernel
theorem dX5_fillLots_74 : decode cX5_fillLots 74 = .ok (.iload_n 3, 1) := by decide +kernel
theorem dX5_fillLots_75 : decode cX5_fillLots 75 = .ok (.laload, 1) := by decide +kernel
theorem dX5_fillLots_76 : decode cX5_fillLots 76 = .ok (.invokevirtual 49, 3) := by decide +kernel
theorem dX5_fillLots_79 : decode cX5_fillLots 79 = .ok (.iinc 4 (-1), 3) := by decide +kernel
theorem dX5_fillLots_82 : decode cX5_fillLots 82 = .ok (.goto (-19), 3) := by decide +kernel
theorem dX5_fillLots_85 : decode cX5_fillLots 85 = .ok (.iinc 3 1, 3) := by decide +kernel
theorem dX5_fillLots_88 : decode cX5_fillLots 88 = .ok (.goto (-45), 3) := by decide +kernel
theorem dX5_fillLots_91 : decode cX5_fillLots 91 = .ok (.return_, 1) := by decide +kernel
theorem dX5_extend_0 : decode cX5_extend 0 = .ok (.aload_n 0, 1) := by decide +kernel
theorem dX5_extend_1 : decode cX5_extend 1 = .ok (.getfield 21, 3) := by decide +kernel
theorem dX5_extend_4 : decode cX5_extend 4 = .ok (.iload_n 2, 1) := by decide +kernel
theorem dX5_extend_5 : decode cX5_extend 5 = .ok (.invokevirtual 53, 3) := by decide +kernel
theorem dX5_extend_8 : decode cX5_extend 8 = .ok (.istore 5, 2) := by decide +kernel
theorem dX5_extend_10 : decode cX5_extend 10 = .ok (.iconst 0, 1) := by decide +kernel
theorem dX5_extend_11 : decode cX5_extend 11 = .ok (.istore 6, 2) := by decide +kernel
theorem dX5_extend_13 : decode cX5_extend 13 = .ok (.iload 6, 2) := by decide +kernel
theorem dX5_extend_15 : decode cX5_extend 15 = .ok (.aload_n 0, 1) := by decide +kernel
theorem dX5_extend_16 : decode cX5_extend 16 = .ok (.getfield 21, 3) := by decide +kernel
theorem dX5_extend_19 : decode cX5_extend 19 = .ok (.getfield 57, 3) := by decide +kernel
theorem dX5_extend_22 : decode cX5_extend 22 = .ok (.if_icmp .ge 71, 3) := by decide +kernel
theorem dX5_extend_25 : decode cX5_extend 25 = .ok (.aload_n 0, 1) := by decide +kernel
theorem dX5_extend_26 : decode cX5_extend 26 = .ok (.getfield 11, 3) := by decide +kernel
theorem dX5_extend_29 : decode cX5_extend 29 = .ok (.iload_n 1, 1) := by decide +kernel
theorem dX5_extend_30 : decode cX5_extend 30 = .ok (.iconst 1, 1) := by decide +kernel
theorem dX5_extend_31 : decode cX5_extend 31 = .ok (.isub, 1) := by decide +kernel
theorem dX5_extend_32 : decode cX5_extend 32 = .ok (.aaload, 1) := by decide +kernel
theorem dX5_extend_33 : decode cX5_extend 33 = .ok (.iload 6, 2) := by decide +kernel
theorem dX5_extend_35 : decode cX5_extend 35 = .ok (.iaload, 1) := by decide +kernel
theorem dX5_extend_36 : decode cX5_extend 36 = .ok (.istore 7, 2) := by decide +kernel
theorem dX5_extend_38 : decode cX5_extend 38 = .ok (.iload 6, 2) := by decide +kernel
theorem dX5_extend_40 : decode cX5_extend 40 = .ok (.iload 5, 2) := by decide +kernel
theorem dX5_extend_42 : decode cX5_extend 42 = .ok (.iadd, 1) := by decide +kernel
theorem dX5_extend_43 : decode cX5_extend 43 = .ok (.aload_n 0, 1) := by decide +kernel
theorem dX5_extend_44 : decode cX5_extend 44 = .ok (.getfield 21, 3) := by decide +kernel
theorem dX5_extend_47 : decode cX5_extend 47 = .ok (.getfield 57, 3) := by decide +kernel
theorem dX5_extend_50 : decode cX5_extend 50 = .ok (.invokestatic 60, 3) := by decide +kernel
theorem dX5_extend_53 : decode cX5_extend 53 = .ok (.istore 8, 2) := by decide +kernel
theorem dX5_extend_55 : decode cX5_extend 55 = .ok (.iload 7, 2) := by decide +kernel
theorem dX5_extend_57 : decode cX5_extend 57 = .ok (.iconst (-1), 1) := by decide +kernel
theorem dX5_extend_58 : decode cX5_extend 58 = .ok (.if_icmp .eq 29, 3) := by decide +kernel
theorem dX5_extend_61 : decode cX5_extend 61 = .ok (.aload_n 0, 1) := by decide +kernel
theorem dX5_extend_62 : decode cX5_extend 62 = .ok (.iload_n 1, 1) := by decide +kernel
theorem dX5_extend_63 : decode cX5_extend 63 = .ok (.iload 8, 2) := by decide +kernel
theorem dX5_extend_65 : decode cX5_extend 65 = .ok (.iload 7, 2) := by decide +kernel
theorem dX5_extend_67 : decode cX5_extend 67 = .ok (.iconst 1, 1) := by decide +kernel
theorem dX5_extend_68 : decode cX5_extend 68 = .ok (.iload_n 2, 1) := by decide +kernel
theorem dX5_extend_69 : decode cX5_extend 69 = .ok (.ishl, 1) := by decide +kernel
theorem dX5_extend_70 : decode cX5_extend 70 = .ok (.ior, 1) := by decide +kernel
theorem dX5_extend_71 : decode cX5_extend 71 = .ok (.aload_n 0, 1) := by decide +kernel
theorem dX5_extend_72 : decode cX5_extend 72 = .ok (.getfield 18, 3) := by decide +kernel
theorem dX5_extend_75 : decode cX5_extend 75 = .ok (.iload_n 1, 1) := by decide +kernel
theorem dX5_extend_76 : decode cX5_extend 76 = .ok (.iconst 1, 1) := by decide +kernel
theorem dX5_extend_77 : decode cX5_extend 77 = .ok (.isub, 1) := by decide +kernel
theorem dX5_extend_78 : decode cX5_extend 78 = .ok (.aaload, 1) := by decide +kernel
theorem dX5_extend_79 : decode cX5_extend 79 = .ok (.iload 6, 2) := by decide +kernel
theorem dX5_extend_81 : decode cX5_extend 81 = .ok (.laload, 1) := by decide +kernel
theorem dX5_extend_82 : decode cX5_extend 82 = .ok (.lload_n 3, 1) := by decide +kernel
theorem dX5_extend_83 : decode cX5_extend 83 = .ok (.ladd, 1) := by decide +kernel
theorem dX5_extend_84 : decode cX5_extend 84 = .ok (.invokevirtual 63, 3) := by decide +kernel
theorem dX5_extend_87 : decode cX5_extend 87 = .ok (.iinc 6 1, 3) := by decide +kernel
theorem dX5_extend_90 : decode cX5_extend 90 = .ok (.goto (-77), 3) := by decide +kernel
theorem dX5_extend_93 : decode cX5_extend 93 = .ok (.return_, 1) := by decide +kernel
theorem dX5_offer_0 : decode cX5_offer 0 = .ok (.aload_n 0, 1) := by decide +kernel
theorem dX5_offer_1 : decode cX5_offer 1 = .ok (.getfield 11, 3) := by decide +kernel
theorem dX5_offer_4 : decode cX5_offer 4 = .ok (.iload_n 1, 1) := by decide +kernel
theorem dX5_offer_5 : decode cX5_offer 5 = .ok (.aaload, 1) := by decide +kernel
theorem dX5_offer_6 : decode cX5_offer 6 = .ok (.iload_n 2, 1) := by decide +kernel
theorem dX5_offer_7 : decode cX5_offer 7 = .ok (.iaload, 1) := by decide +kernel
theorem dX5_offer_8 : decode cX5_offer 8 = .ok (.istore 6, 2) := by decide +kernel
theorem dX5_offer_10 : decode cX5_offer 10 = .ok (.aload_n 0, 1) := by decide +kernel
theorem dX5_offer_11 : decode cX5_offer 11 = .ok (.getfield 18, 3) := by decide +kernel
theorem dX5_offer_14 : decode cX5_offer 14 = .ok (.iload_n 1, 1) := by decide +kernel
theorem dX5_offer_15 : decode cX5_offer 15 = .ok (.aaload, 1) := by decide +kernel
theorem dX5_offer_16 : decode cX5_offer 16 = .ok (.iload_n 2, 1) := by decide +kernel
theorem dX5_offer_17 : decode cX5_offer 17 = .ok (.laload, 1) := by decide +kernel
theorem dX5_offer_18 : decode cX5_offer 18 = .ok (.lstore 7, 2) := by decide +kernel
theorem dX5_offer_20 : decode cX5_offer 20 = .ok (.iload 6, 2) := by decide +kernel
theorem dX5_offer_22 : decode cX5_offer 22 = .ok (.iconst (-1), 1) := by decide +kernel
theorem dX5_offer_23 : decode cX5_offer 23 = .ok (.if_icmp .eq 28, 3) := by decide +kernel
theorem dX5_offer_26 : decode cX5_offer 26 = .ok (.lload 4, 2) := by decide +kernel
theorem dX5_offer_28 : decode cX5_offer 28 = .ok (.lload 7, 2) := by decide +kernel
theorem dX5_offer_30 : decode cX5_offer 30 = .ok (.lcmp, 1) := by decide +kernel
theorem dX5_offer_31 : decode cX5_offer 31 = .ok (.ifCond .lt 20, 3) := by decide +kernel
theorem dX5_offer_34 : decode cX5_offer 34 = .ok (.lload 4, 2) := by decide +kernel
theorem dX5_offer_36 : decode cX5_offer 36 = .ok (.lload 7, 2) := by decide +kernel
theorem dX5_offer_38 : decode cX5_offer 38 = .ok (.lcmp, 1) := by decide +kernel
theorem dX5_offer_39 : decode cX5_offer 39 = .ok (.ifCond .ne 31, 3) := by decide +kernel
theorem dX5_offer_42 : decode cX5_offer 42 = .ok (.iload_n 3, 1) := by decide +kernel
theorem dX5_offer_43 : decode cX5_offer 43 = .ok (.iload 6, 2) := by decide +kernel
theorem dX5_offer_45 : decode cX5_offer 45 = .ok (.invokestatic 67, 3) := by decide +kernel
theorem dX5_offer_48 : decode cX5_offer 48 = .ok (.ifCond .eq 22, 3) := by decide +kernel
theorem dX5_offer_51 : decode cX5_offer 51 = .ok (.aload_n 0, 1) := by decide +kernel
theorem dX5_offer_52 : decode cX5_offer 52 = .ok (.getfield 11, 3) := by decide +kernel
theorem dX5_offer_55 : decode cX5_offer 55 = .ok (.iload_n 1, 1) := by decide +kernel
theorem dX5_offer_56 : decode cX5_offer 56 = .ok (.aaload, 1) := by decide +kernel
theorem dX5_offer_57 : decode cX5_offer 57 = .ok (.iload_n 2, 1) := by decide +kernel
theorem dX5_offer_58 : decode cX5_offer 58 = .ok (.iload_n 3, 1) := by decide +kernel
theorem dX5_offer_59 : decode cX5_offer 59 = .ok (.iastore, 1) := by decide +kernel
theorem dX5_offer_60 : decode cX5_offer 60 = .ok (.aload_n 0, 1) := by decide +kernel
theorem dX5_offer_61 : decode cX5_offer 61 = .ok (.getfield 18, 3) := by decide +kernel
theorem dX5_offer_64 : decode cX5_offer 64 = .ok (.iload_n 1, 1) := by decide +kernel
theorem dX5_offer_65 : decode cX5_offer 65 = .ok (.aaload, 1) := by decide +kernel
theorem dX5_offer_66 : decode cX5_offer 66 = .ok (.iload_n 2, 1) := by decide +kernel
theorem dX5_offer_67 : decode cX5_offer 67 = .ok (.lload 4, 2) := by decide +kernel
theorem dX5_offer_69 : decode cX5_offer 69 = .ok (.lastore, 1) := by decide +kernel
theorem dX5_offer_70 : decode cX5_offer 70 = .ok (.return_, 1) := by decide +kernel
theorem dX6_init_0 : decode cX6_init 0 = .ok (.aload_n 0, 1) := by decide +kernel
theorem dX6_init_1 : decode cX6_init 1 = .ok (.invokespecial 3, 3) := by decide +kernel
theorem dX6_init_4 : decode cX6_init 4 = .ok (.aload_n 0, 1) := by decide +kernel
theorem dX6_init_5 : decode cX6_init 5 = .ok (.bipush 10, 2) := by decide +kernel
theorem dX6_init_7 : decode cX6_init 7 = .ok (.newarray .int, 2) := by decide +kernel
theorem dX6_init_9 : decode cX6_init 9 = .ok (.putfield 9, 3) := by decide +kernel
theorem dX6_init_12 : decode cX6_init 12 = .ok (.aload_n 0, 1) := by decide +kernel
theorem dX6_init_13 : decode cX6_init 13 = .ok (.bipush 10, 2) := by decide +kernel
theorem dX6_init_15 : decode cX6_init 15 = .ok (.iconst 4, 1) := by decide +kernel
theorem dX6_init_16 : decode cX6_init 16 = .ok (.multianewarray 15 2, 4) := by decide +kernel
theorem dX6_init_20 : decode cX6_init 20 = .ok (.putfield 17, 3) := by decide +kernel
theorem dX6_init_23 : decode cX6_init 23 = .ok (.aload_n 0, 1) := by decide +kernel
theorem dX6_init_24 : decode cX6_init 24 = .ok (.iconst 0, 1) := by decide +kernel
theorem dX6_init_25 : decode cX6_init 25 = .ok (.putfield 20, 3) := by decide +kernel
theorem dX6_init_28 : decode cX6_init 28 = .ok (.aload_n 0, 1) := by decide +kernel
theorem dX6_init_29 : decode cX6_init 29 = .ok (.iconst 0, 1) := by decide +kernel
theorem dX6_init_30 : decode cX6_init 30 = .ok (.putfield 24, 3) := by decide +kernel
theorem dX6_init_33 : decode cX6_init 33 = .ok (.aload_n 0, 1) := by decide +kernel
theorem dX6_init_34 : decode cX6_init 34 = .ok (.iconst 0, 1) := by decide +kernel
theorem dX6_init_35 : decode cX6_init 35 = .ok (.putfield 27, 3) := by decide +kernel
theorem dX6_init_38 : decode cX6_init 38 = .ok (.aload_n 0, 1) := by decide +kernel
theorem dX6_init_39 : decode cX6_init 39 = .ok (.iconst 0, 1) := by decide +kernel
theorem dX6_init_40 : decode cX6_init 40 = .ok (.putfield 30, 3) := by decide +kernel
theorem dX6_init_43 : decode cX6_init 43 = .ok (.aload_n 0, 1) := by decide +kernel
theorem dX6_init_44 : decode cX6_init 44 = .ok (.aload_n 1, 1) := by decide +kernel
theorem dX6_init_45 : decode cX6_init 45 = .ok (.putfield 33, 3) := by decide +kernel
theorem dX6_init_48 : decode cX6_init 48 = .ok (.return_, 1) := by decide +kernel
theorem dX6_faultIn_0 : decode cX6_faultIn 0 = .ok (.aload_n 0, 1) := by decide +kernel
theorem dX6_faultIn_1 : decode cX6_faultIn 1 = .ok (.iload_n 1, 1) := by decide +kernel
theorem dX6_faultIn_2 : decode cX6_faultIn 2 = .ok (.putfield 30, 3) := by decide +kernel
theorem dX6_faultIn_5 : decode cX6_faultIn 5 = .ok (.aload_n 0, 1) := by decide +kernel
theorem dX6_faultIn_6 : decode cX6_faultIn 6 = .ok (.iconst 0, 1) := by decide +kernel
theorem dX6_faultIn_7 : decode cX6_faultIn 7 = .ok (.putfield 20, 3) := by decide +kernel
theorem dX6_faultIn_10 : decode cX6_faultIn 10 = .ok (.aload_n 0, 1) := by decide +kernel
theorem dX6_faultIn_11 : decode cX6_faultIn 11 = .ok (.iconst 0, 1) := by decide +kernel
theorem dX6_faultIn_12 : decode cX6_faultIn 12 = .ok (.putfield 27, 3) := by decide +kernel
theorem dX6_faultIn_15 : decode cX6_faultIn 15 = .ok (.aload_n 0, 1) := by decide +kernel
theorem dX6_faultIn_16 : decode cX6_faultIn 16 = .ok (.invokevirtual 37, 3) := by decide +kernel
theorem dX6_faultIn_19 : decode cX6_faultIn 19 = .ok (.iconst 0, 1) := by decide +kernel
theorem dX6_faultIn_20 : decode cX6_faultIn 20 = .ok (.istore_n 2, 1) := by decide +kernel
theorem dX6_faultIn_21 : decode cX6_faultIn 21 = .ok (.iload_n 2, 1) := by decide +kernel
theorem dX6_faultIn_22 : decode cX6_faultIn 22 = .ok (.bipush 10, 2) := by decide +kernel
theorem dX6_faultIn_24 : decode cX6_faultIn 24 = .ok (.if_icmp .ge 76, 3) := by decide +kernel
theorem dX6_faultIn_27 : decode cX6_faultIn 27 = .ok (.aload_n 0, 1) := by decide +kernel
theorem dX6_faultIn_28 : decode cX6_faultIn 28 = .ok (.iload_n 2, 1) := by decide +kernel
theorem dX6_faultIn_29 : decode cX6_faultIn 29 = .ok (.invokevirtual 40, 3) := by decide +kernel
theorem dX6_faultIn_32 : decode cX6_faultIn 32 = .ok (.ifCond .ne 8, 3) := by decide +kernel
theorem dX6_faultIn_35 : decode cX6_faultIn 35 = .ok (.aload_n 0, 1) := by decide +kernel
theorem dX6_faultIn_36 : decode cX6_faultIn 36 = .ok (.getfield 24, 3) := by decide +kernel
theorem dX6_faultIn_39 : decode cX6_faultIn 39 = .ok (.ireturn, 1) := by decide +kernel
theorem dX6_faultIn_40 : decode cX6_faultIn 40 = .ok (.aload_n 0, 1) := by decide +kernel
theorem dX6_faultIn_41 : decode cX6_faultIn 41 = .ok (.getfield 24, 3) := by decide +kernel
theorem dX6_faultIn_44 : decode cX6_faultIn 44 = .ok (.aload_n 0, 1) := by decide +kernel
theorem dX6_faultIn_45 : decode cX6_faultIn 45 = .ok (.getfield 33, 3) := by decide +kernel
theorem dX6_faultIn_48 : decode cX6_faultIn 48 = .ok (.getfield 44, 3) := by decide +kernel
theorem dX6_faultIn_51 : decode cX6_faultIn 51 = .ok (.if_icmp .lt 12, 3) := by decide +kernel
theorem dX6_faultIn_54 : decode cX6_faultIn 54 = .ok (.aload_n 0, 1) := by decide +kernel
theorem dX6_faultIn_55 : decode cX6_faultIn 55 = .ok (.iload_n 2, 1) := by decide +kernel
theorem dX6_faultIn_56 : decode cX6_faultIn 56 = .ok (.iconst 1, 1) := by decide +kernel
theorem dX6_faultIn_57 : decode cX6_faultIn 57 = .ok (.iadd, 1) := by decide +kernel
theorem dX6_faultIn_58 : decode cX6_faultIn 58 = .ok (.putfield 20, 3) := by decide +kernel
theorem dX6_faultIn_61 : decode cX6_faultIn 61 = .ok (.iconst (-1), 1) := by decide +kernel
theorem dX6_faultIn_62 : decode cX6_faultIn 62 = .ok (.ireturn, 1) := by decide +kernel
theorem dX6_faultIn_63 : decode cX6_faultIn 63 = .ok (.aload_n 0, 1) := by decide +kernel
