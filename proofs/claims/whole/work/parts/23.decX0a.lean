theorem dX0_init_0 : decode cX0_init 0 = .ok (.aload_n 0, 1) := by decide +kernel
theorem dX0_init_1 : decode cX0_init 1 = .ok (.invokespecial 3, 3) := by decide +kernel
theorem dX0_init_4 : decode cX0_init 4 = .ok (.return_, 1) := by decide +kernel
theorem dX0_compile_0 : decode cX0_compile 0 = .ok (.aload_n 0, 1) := by decide +kernel
theorem dX0_compile_1 : decode cX0_compile 1 = .ok (.aload_n 1, 1) := by decide +kernel
theorem dX0_compile_2 : decode cX0_compile 2 = .ok (.putfield 9, 3) := by decide +kernel
theorem dX0_compile_5 : decode cX0_compile 5 = .ok (.aload_n 0, 1) := by decide +kernel
theorem dX0_compile_6 : decode cX0_compile 6 = .ok (.iload_n 2, 1) := by decide +kernel
theorem dX0_compile_7 : decode cX0_compile 7 = .ok (.putfield 15, 3) := by decide +kernel
theorem dX0_compile_10 : decode cX0_compile 10 = .ok (.aload_n 0, 1) := by decide +kernel
theorem dX0_compile_11 : decode cX0_compile 11 = .ok (.iconst 0, 1) := by decide +kernel
theorem dX0_compile_12 : decode cX0_compile 12 = .ok (.putfield 19, 3) := by decide +kernel
theorem dX0_compile_15 : decode cX0_compile 15 = .ok (.aload_n 0, 1) := by decide +kernel
theorem dX0_compile_16 : decode cX0_compile 16 = .ok (.aload_n 3, 1) := by decide +kernel
theorem dX0_compile_17 : decode cX0_compile 17 = .ok (.putfield 22, 3) := by decide +kernel
theorem dX0_compile_20 : decode cX0_compile 20 = .ok (.aload_n 0, 1) := by decide +kernel
theorem dX0_compile_21 : decode cX0_compile 21 = .ok (.getfield 22, 3) := by decide +kernel
theorem dX0_compile_24 : decode cX0_compile 24 = .ok (.iconst 0, 1) := by decide +kernel
theorem dX0_compile_25 : decode cX0_compile 25 = .ok (.putfield 26, 3) := by decide +kernel
theorem dX0_compile_28 : decode cX0_compile 28 = .ok (.aload_n 0, 1) := by decide +kernel
theorem dX0_compile_29 : decode cX0_compile 29 = .ok (.getfield 22, 3) := by decide +kernel
theorem dX0_compile_32 : decode cX0_compile 32 = .ok (.iconst 0, 1) := by decide +kernel
theorem dX0_compile_33 : decode cX0_compile 33 = .ok (.putfield 31, 3) := by decide +kernel
theorem dX0_compile_36 : decode cX0_compile 36 = .ok (.aload_n 0, 1) := by decide +kernel
theorem dX0_compile_37 : decode cX0_compile 37 = .ok (.iconst 0, 1) := by decide +kernel
theorem dX0_compile_38 : decode cX0_compile 38 = .ok (.putfield 34, 3) := by decide +kernel
theorem dX0_compile_41 : decode cX0_compile 41 = .ok (.aload_n 0, 1) := by decide +kernel
theorem dX0_compile_42 : decode cX0_compile 42 = .ok (.iconst 0, 1) := by decide +kernel
theorem dX0_compile_43 : decode cX0_compile 43 = .ok (.putfield 38, 3) := by decide +kernel
theorem dX0_compile_46 : decode cX0_compile 46 = .ok (.aload_n 0, 1) := by decide +kernel
theorem dX0_compile_47 : decode cX0_compile 47 = .ok (.invokevirtual 41, 3) := by decide +kernel
theorem dX0_compile_50 : decode cX0_compile 50 = .ok (.iconst 0, 1) := by decide +kernel
theorem dX0_compile_51 : decode cX0_compile 51 = .ok (.istore 4, 2) := by decide +kernel
theorem dX0_compile_53 : decode cX0_compile 53 = .ok (.iload 4, 2) := by decide +kernel
theorem dX0_compile_55 : decode cX0_compile 55 = .ok (.aload_n 0, 1) := by decide +kernel
theorem dX0_compile_56 : decode cX0_compile 56 = .ok (.getfield 22, 3) := by decide +kernel
theorem dX0_compile_59 : decode cX0_compile 59 = .ok (.getfield 26, 3) := by decide +kernel
theorem dX0_compile_62 : decode cX0_compile 62 = .ok (.if_icmp .ge 47, 3) := by decide +kernel
theorem dX0_compile_65 : decode cX0_compile 65 = .ok (.aload_n 0, 1) := by decide +kernel
theorem dX0_compile_66 : decode cX0_compile 66 = .ok (.getfield 34, 3) := by decide +kernel
theorem dX0_compile_69 : decode cX0_compile 69 = .ok (.ifCond .ne 40, 3) := by decide +kernel
theorem dX0_compile_72 : decode cX0_compile 72 = .ok (.aload_n 0, 1) := by decide +kernel
theorem dX0_compile_73 : decode cX0_compile 73 = .ok (.getfield 22, 3) := by decide +kernel
theorem dX0_compile_76 : decode cX0_compile 76 = .ok (.getfield 44, 3) := by decide +kernel
theorem dX0_compile_79 : decode cX0_compile 79 = .ok (.iload 4, 2) := by decide +kernel
theorem dX0_compile_81 : decode cX0_compile 81 = .ok (.aaload, 1) := by decide +kernel
theorem dX0_compile_82 : decode cX0_compile 82 = .ok (.getfield 48, 3) := by decide +kernel
theorem dX0_compile_85 : decode cX0_compile 85 = .ok (.iconst (-1), 1) := by decide +kernel
theorem dX0_compile_86 : decode cX0_compile 86 = .ok (.if_icmp .ne 17, 3) := by decide +kernel
theorem dX0_compile_89 : decode cX0_compile 89 = .ok (.aload_n 0, 1) := by decide +kernel
theorem dX0_compile_90 : decode cX0_compile 90 = .ok (.aload_n 0, 1) := by decide +kernel
theorem dX0_compile_91 : decode cX0_compile 91 = .ok (.getfield 22, 3) := by decide +kernel
theorem dX0_compile_94 : decode cX0_compile 94 = .ok (.getfield 44, 3) := by decide +kernel
theorem dX0_compile_97 : decode cX0_compile 97 = .ok (.iload 4, 2) := by decide +kernel
theorem dX0_compile_99 : decode cX0_compile 99 = .ok (.aaload, 1) := by decide +kernel
theorem dX0_compile_100 : decode cX0_compile 100 = .ok (.invokevirtual 53, 3) := by decide +kernel
theorem dX0_compile_103 : decode cX0_compile 103 = .ok (.iinc 4 1, 3) := by decide +kernel
theorem dX0_compile_106 : decode cX0_compile 106 = .ok (.goto (-53), 3) := by decide +kernel
theorem dX0_compile_109 : decode cX0_compile 109 = .ok (.aload_n 0, 1) := by decide +kernel
theorem dX0_compile_110 : decode cX0_compile 110 = .ok (.getfield 34, 3) := by decide +kernel
theorem dX0_compile_113 : decode cX0_compile 113 = .ok (.ifCond .eq 5, 3) := by decide +kernel
theorem dX0_compile_116 : decode cX0_compile 116 = .ok (.iconst 1, 1) := by decide +kernel
theorem dX0_compile_117 : decode cX0_compile 117 = .ok (.ireturn, 1) := by decide +kernel
theorem dX0_compile_118 : decode cX0_compile 118 = .ok (.aload_n 0, 1) := by decide +kernel
theorem dX0_compile_119 : decode cX0_compile 119 = .ok (.getfield 38, 3) := by decide +kernel
theorem dX0_compile_122 : decode cX0_compile 122 = .ok (.ifCond .eq 7, 3) := by decide +kernel
theorem dX0_compile_125 : decode cX0_compile 125 = .ok (.iconst 2, 1) := by decide +kernel
theorem dX0_compile_126 : decode cX0_compile 126 = .ok (.goto 4, 3) := by decide +kernel
theorem dX0_compile_129 : decode cX0_compile 129 = .ok (.iconst 0, 1) := by decide +kernel
theorem dX0_compile_130 : decode cX0_compile 130 = .ok (.ireturn, 1) := by decide +kernel
theorem dX0_readHeads_0 : decode cX0_readHeads 0 = .ok (.aload_n 0, 1) := by decide +kernel
theorem dX0_readHeads_1 : decode cX0_readHeads 1 = .ok (.getfield 22, 3) := by decide +kernel
theorem dX0_readHeads_4 : decode cX0_readHeads 4 = .ok (.aload_n 0, 1) := by decide +kernel
theorem dX0_readHeads_5 : decode cX0_readHeads 5 = .ok (.bipush 65, 2) := by decide +kernel
theorem dX0_readHeads_7 : decode cX0_readHeads 7 = .ok (.bipush 70, 2) := by decide +kernel
theorem dX0_readHeads_9 : decode cX0_readHeads 9 = .ok (.invokevirtual 57, 3) := by decide +kernel
theorem dX0_readHeads_12 : decode cX0_readHeads 12 = .ok (.putfield 61, 3) := by decide +kernel
theorem dX0_readHeads_15 : decode cX0_readHeads 15 = .ok (.iconst 0, 1) := by decide +kernel
theorem dX0_readHeads_16 : decode cX0_readHeads 16 = .ok (.istore_n 1, 1) := by decide +kernel
theorem dX0_readHeads_17 : decode cX0_readHeads 17 = .ok (.iload_n 1, 1) := by decide +kernel
theorem dX0_readHeads_18 : decode cX0_readHeads 18 = .ok (.bipush 6, 2) := by decide +kernel
theorem dX0_readHeads_20 : decode cX0_readHeads 20 = .ok (.if_icmp .ge 51, 3) := by decide +kernel
theorem dX0_readHeads_23 : decode cX0_readHeads 23 = .ok (.iload_n 1, 1) := by decide +kernel
theorem dX0_readHeads_24 : decode cX0_readHeads 24 = .ok (.ifCond .eq 12, 3) := by decide +kernel
theorem dX0_readHeads_27 : decode cX0_readHeads 27 = .ok (.aload_n 0, 1) := by decide +kernel
theorem dX0_readHeads_28 : decode cX0_readHeads 28 = .ok (.invokevirtual 64, 3) := by decide +kernel
theorem dX0_readHeads_31 : decode cX0_readHeads 31 = .ok (.bipush 59, 2) := by decide +kernel
theorem dX0_readHeads_33 : decode cX0_readHeads 33 = .ok (.if_icmp .ne 38, 3) := by decide +kernel
theorem dX0_readHeads_36 : decode cX0_readHeads 36 = .ok (.aload_n 0, 1) := by decide +kernel
theorem dX0_readHeads_37 : decode cX0_readHeads 37 = .ok (.bipush 59, 2) := by decide +kernel
theorem dX0_readHeads_39 : decode cX0_readHeads 39 = .ok (.invokevirtual 68, 3) := by decide +kernel
theorem dX0_readHeads_42 : decode cX0_readHeads 42 = .ok (.aload_n 0, 1) := by decide +kernel
theorem dX0_readHeads_43 : decode cX0_readHeads 43 = .ok (.aload_n 0, 1) := by decide +kernel
theorem dX0_readHeads_44 : decode cX0_readHeads 44 = .ok (.getfield 22, 3) := by decide +kernel
theorem dX0_readHeads_47 : decode cX0_readHeads 47 = .ok (.getfield 44, 3) := by decide +kernel
theorem dX0_readHeads_50 : decode cX0_readHeads 50 = .ok (.iload_n 1, 1) := by decide +kernel
theorem dX0_readHeads_51 : decode cX0_readHeads 51 = .ok (.aaload, 1) := by decide +kernel
theorem dX0_readHeads_52 : decode cX0_readHeads 52 = .ok (.invokevirtual 72, 3) := by decide +kernel
theorem dX0_readHeads_55 : decode cX0_readHeads 55 = .ok (.aload_n 0, 1) := by decide +kernel
theorem dX0_readHeads_56 : decode cX0_readHeads 56 = .ok (.getfield 22, 3) := by decide +kernel
theorem dX0_readHeads_59 : decode cX0_readHeads 59 = .ok (.iload_n 1, 1) := by decide +kernel
theorem dX0_readHeads_60 : decode cX0_readHeads 60 = .ok (.iconst 1, 1) := by decide +kernel
theorem dX0_readHeads_61 : decode cX0_readHeads 61 = .ok (.iadd, 1) := by decide +kernel
theorem dX0_readHeads_62 : decode cX0_readHeads 62 = .ok (.putfield 26, 3) := by decide +kernel
theorem dX0_readHeads_65 : decode cX0_readHeads 65 = .ok (.iinc 1 1, 3) := by decide +kernel
theorem dX0_readHeads_68 : decode cX0_readHeads 68 = .ok (.goto (-51), 3) := by decide +kernel
theorem dX0_readHeads_71 : decode cX0_readHeads 71 = .ok (.aload_n 0, 1) := by decide +kernel
theorem dX0_readHeads_72 : decode cX0_readHeads 72 = .ok (.invokevirtual 64, 3) := by decide +kernel
theorem dX0_readHeads_75 : decode cX0_readHeads 75 = .ok (.ifCond .eq 8, 3) := by decide +kernel
theorem dX0_readHeads_78 : decode cX0_readHeads 78 = .ok (.aload_n 0, 1) := by decide +kernel
theorem dX0_readHeads_79 : decode cX0_readHeads 79 = .ok (.invokevirtual 75, 3) := by decide +kernel
theorem dX0_readHeads_82 : decode cX0_readHeads 82 = .ok (.pop, 1) := by decide +kernel
theorem dX0_readHeads_83 : decode cX0_readHeads 83 = .ok (.return_, 1) := by decide +kernel
theorem dX0_readHead_0 : decode cX0_readHead 0 = .ok (.aload_n 1, 1) := by decide +kernel
theorem dX0_readHead_1 : decode cX0_readHead 1 = .ok (.iconst (-1), 1) := by decide +kernel
theorem dX0_readHead_2 : decode cX0_readHead 2 = .ok (.putfield 48, 3) := by decide +kernel
theorem dX0_readHead_5 : decode cX0_readHead 5 = .ok (.aload_n 1, 1) := by decide +kernel
theorem dX0_readHead_6 : decode cX0_readHead 6 = .ok (.iconst 0, 1) := by decide +kernel
theorem dX0_readHead_7 : decode cX0_readHead 7 = .ok (.putfield 79, 3) := by decide +kernel
theorem dX0_readHead_10 : decode cX0_readHead 10 = .ok (.aload_n 0, 1) := by decide +kernel
theorem dX0_readHead_11 : decode cX0_readHead 11 = .ok (.bipush 63, 2) := by decide +kernel
theorem dX0_readHead_13 : decode cX0_readHead 13 = .ok (.invokevirtual 82, 3) := by decide +kernel
theorem dX0_readHead_16 : decode cX0_readHead 16 = .ok (.ifCond .eq 24, 3) := by decide +kernel
theorem dX0_readHead_19 : decode cX0_readHead 19 = .ok (.aload_n 1, 1) := by decide +kernel
theorem dX0_readHead_20 : decode cX0_readHead 20 = .ok (.aload_n 0, 1) := by decide +kernel
theorem dX0_readHead_21 : decode cX0_readHead 21 = .ok (.bipush 65, 2) := by decide +kernel
theorem dX0_readHead_23 : decode cX0_readHead 23 = .ok (.bipush 70, 2) := by decide +kernel
theorem dX0_readHead_25 : decode cX0_readHead 25 = .ok (.invokevirtual 57, 3) := by decide +kernel
theorem dX0_readHead_28 : decode cX0_readHead 28 = .ok (.putfield 48, 3) := by decide +kernel
theorem dX0_readHead_31 : decode cX0_readHead 31 = .ok (.aload_n 0, 1) := by decide +kernel
theorem dX0_readHead_32 : decode cX0_readHead 32 = .ok (.bipush 46, 2) := by decide +kernel
theorem dX0_readHead_34 : decode cX0_readHead 34 = .ok (.invokevirtual 68, 3) := by decide +kernel
theorem dX0_readHead_37 : decode cX0_readHead 37 = .ok (.goto 13, 3) := by decide +kernel
theorem dX0_readHead_40 : decode cX0_readHead 40 = .ok (.aload_n 1, 1) := by decide +kernel
theorem dX0_readHead_41 : decode cX0_readHead 41 = .ok (.aload_n 0, 1) := by decide +kernel
theorem dX0_readHead_42 : decode cX0_readHead 42 = .ok (.bipush 43, 2) := by decide +kernel
theorem dX0_readHead_44 : decode cX0_readHead 44 = .ok (.invokevirtual 82, 3) := by decide +kernel
theorem dX0_readHead_47 : decode cX0_readHead 47 = .ok (.putfield 79, 3) := by decide +kernel
theorem dX0_readHead_50 : decode cX0_readHead 50 = .ok (.aload_n 1, 1) := by decide +kernel
theorem dX0_readHead_51 : decode cX0_readHead 51 = .ok (.aload_n 0, 1) := by decide +kernel
theorem dX0_readHead_52 : decode cX0_readHead 52 = .ok (.bipush 97, 2) := by decide +kernel
theorem dX0_readHead_54 : decode cX0_readHead 54 = .ok (.bipush 122, 2) := by decide +kernel
theorem dX0_readHead_56 : decode cX0_readHead 56 = .ok (.invokevirtual 57, 3) := by decide +kernel
theorem dX0_readHead_59 : decode cX0_readHead 59 = .ok (.putfield 86, 3) := by decide +kernel
theorem dX0_readHead_62 : decode cX0_readHead 62 = .ok (.aload_n 0, 1) := by decide +kernel
theorem dX0_readHead_63 : decode cX0_readHead 63 = .ok (.getfield 22, 3) := by decide +kernel
theorem dX0_readHead_66 : decode cX0_readHead 66 = .ok (.aload_n 1, 1) := by decide +kernel
theorem dX0_readHead_67 : decode cX0_readHead 67 = .ok (.getfield 48, 3) := by decide +kernel
theorem dX0_readHead_70 : decode cX0_readHead 70 = .ok (.aload_n 1, 1) := by decide +kernel
theorem dX0_readHead_71 : decode cX0_readHead 71 = .ok (.getfield 86, 3) := by decide +kernel
theorem dX0_readHead_74 : decode cX0_readHead 74 = .ok (.invokevirtual 87, 3) := by decide +kernel
theorem dX0_readHead_77 : decode cX0_readHead 77 = .ok (.ifnull 8, 3) := by decide +kernel
theorem dX0_readHead_80 : decode cX0_readHead 80 = .ok (.aload_n 0, 1) := by decide +kernel
theorem dX0_readHead_81 : decode cX0_readHead 81 = .ok (.invokevirtual 75, 3) := by decide +kernel
theorem dX0_readHead_84 : decode cX0_readHead 84 = .ok (.pop, 1) := by decide +kernel
theorem dX0_readHead_85 : decode cX0_readHead 85 = .ok (.aload_n 1, 1) := by decide +kernel
theorem dX0_readHead_86 : decode cX0_readHead 86 = .ok (.aload_n 0, 1) := by decide +kernel
theorem dX0_readHead_87 : decode cX0_readHead 87 = .ok (.invokevirtual 91, 3) := by decide +kernel
theorem dX0_readHead_90 : decode cX0_readHead 90 = .ok (.putfield 94, 3) := by decide +kernel
theorem dX0_readHead_93 : decode cX0_readHead 93 = .ok (.aload_n 1, 1) := by decide +kernel
theorem dX0_readHead_94 : decode cX0_readHead 94 = .ok (.aload_n 1, 1) := by decide +kernel
theorem dX0_readHead_95 : decode cX0_readHead 95 = .ok (.getfield 94, 3) := by decide +kernel
theorem dX0_readHead_98 : decode cX0_readHead 98 = .ok (.iconst 4, 1) := by decide +kernel
theorem dX0_readHead_99 : decode cX0_readHead 99 = .ok (.invokestatic 97, 3) := by decide +kernel
theorem dX0_readHead_102 : decode cX0_readHead 102 = .ok (.putfield 101, 3) := by decide +kernel
theorem dX0_readHead_105 : decode cX0_readHead 105 = .ok (.aload_n 1, 1) := by decide +kernel
theorem dX0_readHead_106 : decode cX0_readHead 106 = .ok (.getfield 48, 3) := by decide +kernel
theorem dX0_readHead_109 : decode cX0_readHead 109 = .ok (.iconst (-1), 1) := by decide +kernel
theorem dX0_readHead_110 : decode cX0_readHead 110 = .ok (.if_icmp .ne 21, 3) := by decide +kernel
theorem dX0_readHead_113 : decode cX0_readHead 113 = .ok (.aload_n 0, 1) := by decide +kernel
theorem dX0_readHead_114 : decode cX0_readHead 114 = .ok (.bipush 61, 2) := by decide +kernel
theorem dX0_readHead_116 : decode cX0_readHead 116 = .ok (.invokevirtual 68, 3) := by decide +kernel
theorem dX0_readHead_119 : decode cX0_readHead 119 = .ok (.aload_n 1, 1) := by decide +kernel
theorem dX0_readHead_120 : decode cX0_readHead 120 = .ok (.aload_n 0, 1) := by decide +kernel
theorem dX0_readHead_121 : decode cX0_readHead 121 = .ok (.getfield 19, 3) := by decide +kernel
theorem dX0_readHead_124 : decode cX0_readHead 124 = .ok (.putfield 104, 3) := by decide +kernel
theorem dX0_readHead_127 : decode cX0_readHead 127 = .ok (.aload_n 0, 1) := by decide +kernel
theorem dX0_readHead_128 : decode cX0_readHead 128 = .ok (.invokevirtual 107, 3) := by decide +kernel
theorem dX0_readHead_131 : decode cX0_readHead 131 = .ok (.return_, 1) := by decide +kernel
theorem dX0_skipBody_0 : decode cX0_skipBody 0 = .ok (.aload_n 0, 1) := by decide +kernel
theorem dX0_skipBody_1 : decode cX0_skipBody 1 = .ok (.getfield 19, 3) := by decide +kernel
theorem dX0_skipBody_4 : decode cX0_skipBody 4 = .ok (.istore_n 1, 1) := by decide +kernel
theorem dX0_skipBody_5 : decode cX0_skipBody 5 = .ok (.iload_n 1, 1) := by decide +kernel
theorem dX0_skipBody_6 : decode cX0_skipBody 6 = .ok (.aload_n 0, 1) := by decide +kernel
theorem dX0_skipBody_7 : decode cX0_skipBody 7 = .ok (.getfield 15, 3) := by decide +kernel
theorem dX0_skipBody_10 : decode cX0_skipBody 10 = .ok (.if_icmp .ge 27, 3) := by decide +kernel
theorem dX0_skipBody_13 : decode cX0_skipBody 13 = .ok (.aload_n 0, 1) := by decide +kernel
theorem dX0_skipBody_14 : decode cX0_skipBody 14 = .ok (.getfield 9, 3) := by decide +kernel
theorem dX0_skipBody_17 : decode cX0_skipBody 17 = .ok (.iload_n 1, 1) := by decide +kernel
theorem dX0_skipBody_18 : decode cX0_skipBody 18 = .ok (.caload, 1) := by decide +kernel
theorem dX0_skipBody_19 : decode cX0_skipBody 19 = .ok (.bipush 59, 2) := by decide +kernel
theorem dX0_skipBody_21 : decode cX0_skipBody 21 = .ok (.if_icmp .eq 16, 3) := by decide +kernel
theorem dX0_skipBody_24 : decode cX0_skipBody 24 = .ok (.aload_n 0, 1) := by decide +kernel
theorem dX0_skipBody_25 : decode cX0_skipBody 25 = .ok (.iload_n 1, 1) := by decide +kernel
theorem dX0_skipBody_26 : decode cX0_skipBody 26 = .ok (.iconst 1, 1) := by decide +kernel
theorem dX0_skipBody_27 : decode cX0_skipBody 27 = .ok (.iadd, 1) := by decide +kernel
theorem dX0_skipBody_28 : decode cX0_skipBody 28 = .ok (.putfield 19, 3) := by decide +kernel
theorem dX0_skipBody_31 : decode cX0_skipBody 31 = .ok (.iinc 1 1, 3) := by decide +kernel
theorem dX0_skipBody_34 : decode cX0_skipBody 34 = .ok (.goto (-29), 3) := by decide +kernel
theorem dX0_skipBody_37 : decode cX0_skipBody 37 = .ok (.return_, 1) := by decide +kernel
theorem dX0_readSignature_0 : decode cX0_readSignature 0 = .ok (.iconst 0, 1) := by decide +kernel
theorem dX0_readSignature_1 : decode cX0_readSignature 1 = .ok (.istore_n 1, 1) := by decide +kernel
theorem dX0_readSignature_2 : decode cX0_readSignature 2 = .ok (.aload_n 0, 1) := by decide +kernel
theorem dX0_readSignature_3 : decode cX0_readSignature 3 = .ok (.bipush 40, 2) := by decide +kernel
theorem dX0_readSignature_5 : decode cX0_readSignature 5 = .ok (.invokevirtual 68, 3) := by decide +kernel
theorem dX0_readSignature_8 : decode cX0_readSignature 8 = .ok (.iconst 1, 1) := by decide +kernel
theorem dX0_readSignature_9 : decode cX0_readSignature 9 = .ok (.istore_n 2, 1) := by decide +kernel
theorem dX0_readSignature_10 : decode cX0_readSignature 10 = .ok (.iload_n 2, 1) := by decide +kernel
theorem dX0_readSignature_11 : decode cX0_readSignature 11 = .ok (.iconst 3, 1) := by decide +kernel
theorem dX0_readSignature_12 : decode cX0_readSignature 12 = .ok (.if_icmp .gt 29, 3) := by decide +kernel
theorem dX0_readSignature_15 : decode cX0_readSignature 15 = .ok (.aload_n 0, 1) := by decide +kernel
theorem dX0_readSignature_16 : decode cX0_readSignature 16 = .ok (.invokevirtual 64, 3) := by decide +kernel
theorem dX0_readSignature_19 : decode cX0_readSignature 19 = .ok (.bipush 41, 2) := by decide +kernel
theorem dX0_readSignature_21 : decode cX0_readSignature 21 = .ok (.if_icmp .eq 20, 3) := by decide +kernel
theorem dX0_readSignature_24 : decode cX0_readSignature 24 = .ok (.iload_n 1, 1) := by decide +kernel
theorem dX0_readSignature_25 : decode cX0_readSignature 25 = .ok (.aload_n 0, 1) := by decide +kernel
theorem dX0_readSignature_26 : decode cX0_readSignature 26 = .ok (.invokevirtual 110, 3) := by decide +kernel
theorem dX0_readSignature_29 : decode cX0_readSignature 29 = .ok (.iconst 2, 1) := by decide +kernel
theorem dX0_readSignature_30 : decode cX0_readSignature 30 = .ok (.iload_n 2, 1) := by decide +kernel
theorem dX0_readSignature_31 : decode cX0_readSignature 31 = .ok (.imul, 1) := by decide +kernel
theorem dX0_readSignature_32 : decode cX0_readSignature 32 = .ok (.ishl, 1) := by decide +kernel
theorem dX0_readSignature_33 : decode cX0_readSignature 33 = .ok (.ior, 1) := by decide +kernel
theorem dX0_readSignature_34 : decode cX0_readSignature 34 = .ok (.istore_n 1, 1) := by decide +kernel
theorem dX0_readSignature_35 : decode cX0_readSignature 35 = .ok (.iinc 2 1, 3) := by decide +kernel
theorem dX0_readSignature_38 : decode cX0_readSignature 38 = .ok (.goto (-28), 3) := by decide +kernel
theorem dX0_readSignature_41 : decode cX0_readSignature 41 = .ok (.aload_n 0, 1) := by decide +kernel
theorem dX0_readSignature_42 : decode cX0_readSignature 42 = .ok (.bipush 41, 2) := by decide +kernel
theorem dX0_readSignature_44 : decode cX0_readSignature 44 = .ok (.invokevirtual 68, 3) := by decide +kernel
theorem dX0_readSignature_47 : decode cX0_readSignature 47 = .ok (.iload_n 1, 1) := by decide +kernel
theorem dX0_readSignature_48 : decode cX0_readSignature 48 = .ok (.aload_n 0, 1) := by decide +kernel
theorem dX0_readSignature_49 : decode cX0_readSignature 49 = .ok (.invokevirtual 110, 3) := by decide +kernel
theorem dX0_readSignature_52 : decode cX0_readSignature 52 = .ok (.ior, 1) := by decide +kernel
theorem dX0_readSignature_53 : decode cX0_readSignature 53 = .ok (.ireturn, 1) := by decide +kernel
theorem dX0_readType_0 : decode cX0_readType 0 = .ok (.aload_n 0, 1) := by decide +kernel
theorem dX0_readType_1 : decode cX0_readType 1 = .ok (.bipush 80, 2) := by decide +kernel
theorem dX0_readType_3 : decode cX0_readType 3 = .ok (.invokevirtual 82, 3) := by decide +kernel
theorem dX0_readType_6 : decode cX0_readType 6 = .ok (.ifCond .eq 5, 3) := by decide +kernel
theorem dX0_readType_9 : decode cX0_readType 9 = .ok (.iconst 2, 1) := by decide +kernel
theorem dX0_readType_10 : decode cX0_readType 10 = .ok (.ireturn, 1) := by decide +kernel
theorem dX0_readType_11 : decode cX0_readType 11 = .ok (.aload_n 0, 1) := by decide +kernel
theorem dX0_readType_12 : decode cX0_readType 12 = .ok (.bipush 73, 2) := by decide +kernel
theorem dX0_readType_14 : decode cX0_readType 14 = .ok (.invokevirtual 68, 3) := by decide +kernel
theorem dX0_readType_17 : decode cX0_readType 17 = .ok (.iconst 1, 1) := by decide +kernel
theorem dX0_readType_18 : decode cX0_readType 18 = .ok (.ireturn, 1) := by decide +kernel
theorem dX0_readBody_0 : decode cX0_readBody 0 = .ok (.aload_n 0, 1) := by decide +kernel
theorem dX0_readBody_1 : decode cX0_readBody 1 = .ok (.aload_n 1, 1) := by decide +kernel
theorem dX0_readBody_2 : decode cX0_readBody 2 = .ok (.getfield 104, 3) := by decide +kernel
theorem dX0_readBody_5 : decode cX0_readBody 5 = .ok (.putfield 19, 3) := by decide +kernel
theorem dX0_readBody_8 : decode cX0_readBody 8 = .ok (.aload_n 1, 1) := by decide +kernel
theorem dX0_readBody_9 : decode cX0_readBody 9 = .ok (.aload_n 0, 1) := by decide +kernel
theorem dX0_readBody_10 : decode cX0_readBody 10 = .ok (.getfield 22, 3) := by decide +kernel
theorem dX0_readBody_13 : decode cX0_readBody 13 = .ok (.getfield 31, 3) := by decide +kernel
theorem dX0_readBody_16 : decode cX0_readBody 16 = .ok (.putfield 104, 3) := by decide +kernel
theorem dX0_readBody_19 : decode cX0_readBody 19 = .ok (.aload_n 0, 1) := by decide +kernel
theorem dX0_readBody_20 : decode cX0_readBody 20 = .ok (.aload_n 1, 1) := by decide +kernel
theorem dX0_readBody_21 : decode cX0_readBody 21 = .ok (.getfield 94, 3) := by decide +kernel
theorem dX0_readBody_24 : decode cX0_readBody 24 = .ok (.putfield 113, 3) := by decide +kernel
theorem dX0_readBody_27 : decode cX0_readBody 27 = .ok (.aload_n 0, 1) := by decide +kernel
theorem dX0_readBody_28 : decode cX0_readBody 28 = .ok (.iconst 0, 1) := by decide +kernel
theorem dX0_readBody_29 : decode cX0_readBody 29 = .ok (.putfield 114, 3) := by decide +kernel
theorem dX0_readBody_32 : decode cX0_readBody 32 = .ok (.aload_n 0, 1) := by decide +kernel
theorem dX0_readBody_33 : decode cX0_readBody 33 = .ok (.iconst 0, 1) := by decide +kernel
theorem dX0_readBody_34 : decode cX0_readBody 34 = .ok (.putfield 117, 3) := by decide +kernel
theorem dX0_readBody_37 : decode cX0_readBody 37 = .ok (.aload_n 0, 1) := by decide +kernel
theorem dX0_readBody_38 : decode cX0_readBody 38 = .ok (.aload_n 0, 1) := by decide +kernel
theorem dX0_readBody_39 : decode cX0_readBody 39 = .ok (.getfield 113, 3) := by decide +kernel
theorem dX0_readBody_42 : decode cX0_readBody 42 = .ok (.iconst 0, 1) := by decide +kernel
theorem dX0_readBody_43 : decode cX0_readBody 43 = .ok (.invokestatic 120, 3) := by decide +kernel
theorem dX0_readBody_46 : decode cX0_readBody 46 = .ok (.aload_n 0, 1) := by decide +kernel
theorem dX0_readBody_47 : decode cX0_readBody 47 = .ok (.iconst 0, 1) := by decide +kernel
theorem dX0_readBody_48 : decode cX0_readBody 48 = .ok (.invokevirtual 123, 3) := by decide +kernel
theorem dX0_readBody_51 : decode cX0_readBody 51 = .ok (.invokevirtual 127, 3) := by decide +kernel
theorem dX0_readBody_54 : decode cX0_readBody 54 = .ok (.aload_n 0, 1) := by decide +kernel
theorem dX0_readBody_55 : decode cX0_readBody 55 = .ok (.invokevirtual 64, 3) := by decide +kernel
theorem dX0_readBody_58 : decode cX0_readBody 58 = .ok (.ifCond .eq 17, 3) := by decide +kernel
theorem dX0_readBody_61 : decode cX0_readBody 61 = .ok (.aload_n 0, 1) := by decide +kernel
theorem dX0_readBody_62 : decode cX0_readBody 62 = .ok (.invokevirtual 64, 3) := by decide +kernel
theorem dX0_readBody_65 : decode cX0_readBody 65 = .ok (.bipush 59, 2) := by decide +kernel
theorem dX0_readBody_67 : decode cX0_readBody 67 = .ok (.if_icmp .eq 8, 3) := by decide +kernel
theorem dX0_readBody_70 : decode cX0_readBody 70 = .ok (.aload_n 0, 1) := by decide +kernel
theorem dX0_readBody_71 : decode cX0_readBody 71 = .ok (.invokevirtual 75, 3) := by decide +kernel
theorem dX0_readBody_74 : decode cX0_readBody 74 = .ok (.pop, 1) := by decide +kernel
theorem dX0_readBody_75 : decode cX0_readBody 75 = .ok (.aload_n 0, 1) := by decide +kernel
theorem dX0_readBody_76 : decode cX0_readBody 76 = .ok (.getfield 22, 3) := by decide +kernel
theorem dX0_readBody_79 : decode cX0_readBody 79 = .ok (.bipush 13, 2) := by decide +kernel
theorem dX0_readBody_81 : decode cX0_readBody 81 = .ok (.iconst 0, 1) := by decide +kernel
theorem dX0_readBody_82 : decode cX0_readBody 82 = .ok (.invokevirtual 131, 3) := by decide +kernel
theorem dX0_readBody_85 : decode cX0_readBody 85 = .ok (.pop, 1) := by decide +kernel
theorem dX0_readBody_86 : decode cX0_readBody 86 = .ok (.aload_n 1, 1) := by decide +kernel
theorem dX0_readBody_87 : decode cX0_readBody 87 = .ok (.aload_n 0, 1) := by decide +kernel
theorem dX0_readBody_88 : decode cX0_readBody 88 = .ok (.getfield 117, 3) := by decide +kernel
theorem dX0_readBody_91 : decode cX0_readBody 91 = .ok (.putfield 134, 3) := by decide +kernel
theorem dX0_readBody_94 : decode cX0_readBody 94 = .ok (.return_, 1) := by decide +kernel
theorem dX0_readExpression_0 : decode cX0_readExpression 0 = .ok (.aload_n 0, 1) := by decide +kernel
theorem dX0_readExpression_1 : decode cX0_readExpression 1 = .ok (.iload_n 1, 1) := by decide +kernel
theorem dX0_readExpression_2 : decode cX0_readExpression 2 = .ok (.invokevirtual 135, 3) := by decide +kernel
theorem dX0_readExpression_5 : decode cX0_readExpression 5 = .ok (.istore_n 2, 1) := by decide +kernel
theorem dX0_readExpression_6 : decode cX0_readExpression 6 = .ok (.iconst 0, 1) := by decide +kernel
theorem dX0_readExpression_7 : decode cX0_readExpression 7 = .ok (.istore_n 3, 1) := by decide +kernel
theorem dX0_readExpression_8 : decode cX0_readExpression 8 = .ok (.iload_n 3, 1) := by decide +kernel
theorem dX0_readExpression_9 : decode cX0_readExpression 9 = .ok (.bipush 120, 2) := by decide +kernel
theorem dX0_readExpression_11 : decode cX0_readExpression 11 = .ok (.if_icmp .ge 93, 3) := by decide +kernel
theorem dX0_readExpression_14 : decode cX0_readExpression 14 = .ok (.aload_n 0, 1) := by decide +kernel
theorem dX0_readExpression_15 : decode cX0_readExpression 15 = .ok (.invokevirtual 64, 3) := by decide +kernel
theorem dX0_readExpression_18 : decode cX0_readExpression 18 = .ok (.bipush 43, 2) := by decide +kernel
theorem dX0_readExpression_20 : decode cX0_readExpression 20 = .ok (.if_icmp .eq 12, 3) := by decide +kernel
theorem dX0_readExpression_23 : decode cX0_readExpression 23 = .ok (.aload_n 0, 1) := by decide +kernel
theorem dX0_readExpression_24 : decode cX0_readExpression 24 = .ok (.invokevirtual 64, 3) := by decide +kernel
theorem dX0_readExpression_27 : decode cX0_readExpression 27 = .ok (.bipush 45, 2) := by decide +kernel
theorem dX0_readExpression_29 : decode cX0_readExpression 29 = .ok (.if_icmp .ne 75, 3) := by decide +kernel
theorem dX0_readExpression_32 : decode cX0_readExpression 32 = .ok (.aload_n 0, 1) := by decide +kernel
theorem dX0_readExpression_33 : decode cX0_readExpression 33 = .ok (.invokevirtual 64, 3) := by decide +kernel
theorem dX0_readExpression_36 : decode cX0_readExpression 36 = .ok (.bipush 43, 2) := by decide +kernel
theorem dX0_readExpression_38 : decode cX0_readExpression 38 = .ok (.if_icmp .ne 7, 3) := by decide +kernel
theorem dX0_readExpression_41 : decode cX0_readExpression 41 = .ok (.iconst 5, 1) := by decide +kernel
theorem dX0_readExpression_42 : decode cX0_readExpression 42 = .ok (.goto 5, 3) := by decide +kernel
theorem dX0_readExpression_45 : decode cX0_readExpression 45 = .ok (.bipush 6, 2) := by decide +kernel
theorem dX0_readExpression_47 : decode cX0_readExpression 47 = .ok (.istore 4, 2) := by decide +kernel
theorem dX0_readExpression_49 : decode cX0_readExpression 49 = .ok (.aload_n 0, 1) := by decide +kernel
theorem dX0_readExpression_50 : decode cX0_readExpression 50 = .ok (.dup, 1) := by decide +kernel
theorem dX0_readExpression_51 : decode cX0_readExpression 51 = .ok (.getfield 19, 3) := by decide +kernel
theorem dX0_readExpression_54 : decode cX0_readExpression 54 = .ok (.iconst 1, 1) := by decide +kernel
theorem dX0_readExpression_55 : decode cX0_readExpression 55 = .ok (.iadd, 1) := by decide +kernel
theorem dX0_readExpression_56 : decode cX0_readExpression 56 = .ok (.putfield 19, 3) := by decide +kernel
theorem dX0_readExpression_59 : decode cX0_readExpression 59 = .ok (.aload_n 0, 1) := by decide +kernel
theorem dX0_readExpression_60 : decode cX0_readExpression 60 = .ok (.iconst 1, 1) := by decide +kernel
theorem dX0_readExpression_61 : decode cX0_readExpression 61 = .ok (.iload_n 2, 1) := by decide +kernel
theorem dX0_readExpression_62 : decode cX0_readExpression 62 = .ok (.invokevirtual 127, 3) := by decide +kernel
theorem dX0_readExpression_65 : decode cX0_readExpression 65 = .ok (.aload_n 0, 1) := by decide +kernel
theorem dX0_readExpression_66 : decode cX0_readExpression 66 = .ok (.iconst 1, 1) := by decide +kernel
theorem dX0_readExpression_67 : decode cX0_readExpression 67 = .ok (.invokevirtual 138, 3) := by decide +kernel
theorem dX0_readExpression_70 : decode cX0_readExpression 70 = .ok (.aload_n 0, 1) := by decide +kernel
theorem dX0_readExpression_71 : decode cX0_readExpression 71 = .ok (.iload_n 1, 1) := by decide +kernel
theorem dX0_readExpression_72 : decode cX0_readExpression 72 = .ok (.invokevirtual 135, 3) := by decide +kernel
theorem dX0_readExpression_75 : decode cX0_readExpression 75 = .ok (.istore_n 2, 1) := by decide +kernel
theorem dX0_readExpression_76 : decode cX0_readExpression 76 = .ok (.aload_n 0, 1) := by decide +kernel
theorem dX0_readExpression_77 : decode cX0_readExpression 77 = .ok (.iconst 1, 1) := by decide +kernel
theorem dX0_readExpression_78 : decode cX0_readExpression 78 = .ok (.iload_n 2, 1) := by decide +kernel
theorem dX0_readExpression_79 : decode cX0_readExpression 79 = .ok (.invokevirtual 127, 3) := by decide +kernel
theorem dX0_readExpression_82 : decode cX0_readExpression 82 = .ok (.aload_n 0, 1) := by decide +kernel
theorem dX0_readExpression_83 : decode cX0_readExpression 83 = .ok (.iconst 1, 1) := by decide +kernel
theorem dX0_readExpression_84 : decode cX0_readExpression 84 = .ok (.invokevirtual 142, 3) := by decide +kernel
theorem dX0_readExpression_87 : decode cX0_readExpression 87 = .ok (.aload_n 0, 1) := by decide +kernel
theorem dX0_readExpression_88 : decode cX0_readExpression 88 = .ok (.getfield 22, 3) := by decide +kernel
theorem dX0_readExpression_91 : decode cX0_readExpression 91 = .ok (.iload 4, 2) := by decide +kernel
theorem dX0_readExpression_93 : decode cX0_readExpression 93 = .ok (.iconst 0, 1) := by decide +kernel
theorem dX0_readExpression_94 : decode cX0_readExpression 94 = .ok (.invokevirtual 131, 3) := by decide +kernel
theorem dX0_readExpression_97 : decode cX0_readExpression 97 = .ok (.pop, 1) := by decide +kernel
theorem dX0_readExpression_98 : decode cX0_readExpression 98 = .ok (.iinc 3 1, 3) := by decide +kernel
theorem dX0_readExpression_101 : decode cX0_readExpression 101 = .ok (.goto (-93), 3) := by decide +kernel
theorem dX0_readExpression_104 : decode cX0_readExpression 104 = .ok (.iload_n 2, 1) := by decide +kernel
theorem dX0_readExpression_105 : decode cX0_readExpression 105 = .ok (.ireturn, 1) := by decide +kernel
theorem dX0_readProduct_0 : decode cX0_readProduct 0 = .ok (.aload_n 0, 1) := by decide +kernel
theorem dX0_readProduct_1 : decode cX0_readProduct 1 = .ok (.iload_n 1, 1) := by decide +kernel
theorem dX0_readProduct_2 : decode cX0_readProduct 2 = .ok (.invokevirtual 145, 3) := by decide +kernel
theorem dX0_readProduct_5 : decode cX0_readProduct 5 = .ok (.istore_n 2, 1) := by decide +kernel
theorem dX0_readProduct_6 : decode cX0_readProduct 6 = .ok (.iconst 0, 1) := by decide +kernel
theorem dX0_readProduct_7 : decode cX0_readProduct 7 = .ok (.istore_n 3, 1) := by decide +kernel
theorem dX0_readProduct_8 : decode cX0_readProduct 8 = .ok (.iload_n 3, 1) := by decide +kernel
theorem dX0_readProduct_9 : decode cX0_readProduct 9 = .ok (.bipush 120, 2) := by decide +kernel
theorem dX0_readProduct_11 : decode cX0_readProduct 11 = .ok (.if_icmp .ge 57, 3) := by decide +kernel
theorem dX0_readProduct_14 : decode cX0_readProduct 14 = .ok (.aload_n 0, 1) := by decide +kernel
theorem dX0_readProduct_15 : decode cX0_readProduct 15 = .ok (.bipush 42, 2) := by decide +kernel
theorem dX0_readProduct_17 : decode cX0_readProduct 17 = .ok (.invokevirtual 82, 3) := by decide +kernel
theorem dX0_readProduct_20 : decode cX0_readProduct 20 = .ok (.ifCond .eq 48, 3) := by decide +kernel
theorem dX0_readProduct_23 : decode cX0_readProduct 23 = .ok (.aload_n 0, 1) := by decide +kernel
theorem dX0_readProduct_24 : decode cX0_readProduct 24 = .ok (.iconst 1, 1) := by decide +kernel
theorem dX0_readProduct_25 : decode cX0_readProduct 25 = .ok (.iload_n 2, 1) := by decide +kernel
theorem dX0_readProduct_26 : decode cX0_readProduct 26 = .ok (.invokevirtual 127, 3) := by decide +kernel
theorem dX0_readProduct_29 : decode cX0_readProduct 29 = .ok (.aload_n 0, 1) := by decide +kernel
theorem dX0_readProduct_30 : decode cX0_readProduct 30 = .ok (.iconst 1, 1) := by decide +kernel
theorem dX0_readProduct_31 : decode cX0_readProduct 31 = .ok (.invokevirtual 138, 3) := by decide +kernel
theorem dX0_readProduct_34 : decode cX0_readProduct 34 = .ok (.aload_n 0, 1) := by decide +kernel
theorem dX0_readProduct_35 : decode cX0_readProduct 35 = .ok (.iload_n 1, 1) := by decide +kernel
theorem dX0_readProduct_36 : decode cX0_readProduct 36 = .ok (.invokevirtual 145, 3) := by decide +kernel
theorem dX0_readProduct_39 : decode cX0_readProduct 39 = .ok (.istore_n 2, 1) := by decide +kernel
theorem dX0_readProduct_40 : decode cX0_readProduct 40 = .ok (.aload_n 0, 1) := by decide +kernel
theorem dX0_readProduct_41 : decode cX0_readProduct 41 = .ok (.iconst 1, 1) := by decide +kernel
theorem dX0_readProduct_42 : decode cX0_readProduct 42 = .ok (.iload_n 2, 1) := by decide +kernel
theorem dX0_readProduct_43 : decode cX0_readProduct 43 = .ok (.invokevirtual 127, 3) := by decide +kernel
theorem dX0_readProduct_46 : decode cX0_readProduct 46 = .ok (.aload_n 0, 1) := by decide +kernel
theorem dX0_readProduct_47 : decode cX0_readProduct 47 = .ok (.iconst 1, 1) := by decide +kernel
theorem dX0_readProduct_48 : decode cX0_readProduct 48 = .ok (.invokevirtual 142, 3) := by decide +kernel
theorem dX0_readProduct_51 : decode cX0_readProduct 51 = .ok (.aload_n 0, 1) := by decide +kernel
theorem dX0_readProduct_52 : decode cX0_readProduct 52 = .ok (.getfield 22, 3) := by decide +kernel
theorem dX0_readProduct_55 : decode cX0_readProduct 55 = .ok (.bipush 7, 2) := by decide +kernel
theorem dX0_readProduct_57 : decode cX0_readProduct 57 = .ok (.iconst 0, 1) := by decide +kernel
theorem dX0_readProduct_58 : decode cX0_readProduct 58 = .ok (.invokevirtual 131, 3) := by decide +kernel
theorem dX0_readProduct_61 : decode cX0_readProduct 61 = .ok (.pop, 1) := by decide +kernel
theorem dX0_readProduct_62 : decode cX0_readProduct 62 = .ok (.iinc 3 1, 3) := by decide +kernel
theorem dX0_readProduct_65 : decode cX0_readProduct 65 = .ok (.goto (-57), 3) := by decide +kernel
theorem dX0_readProduct_68 : decode cX0_readProduct 68 = .ok (.iload_n 2, 1) := by decide +kernel
theorem dX0_readProduct_69 : decode cX0_readProduct 69 = .ok (.ireturn, 1) := by decide +kernel
theorem dX0_readFactor_0 : decode cX0_readFactor 0 = .ok (.aload_n 0, 1) := by decide +kernel
theorem dX0_readFactor_1 : decode cX0_readFactor 1 = .ok (.iload_n 1, 1) := by decide +kernel
theorem dX0_readFactor_2 : decode cX0_readFactor 2 = .ok (.invokevirtual 148, 3) := by decide +kernel
theorem dX0_readFactor_5 : decode cX0_readFactor 5 = .ok (.istore_n 2, 1) := by decide +kernel
theorem dX0_readFactor_6 : decode cX0_readFactor 6 = .ok (.aload_n 0, 1) := by decide +kernel
theorem dX0_readFactor_7 : decode cX0_readFactor 7 = .ok (.bipush 46, 2) := by decide +kernel
theorem dX0_readFactor_9 : decode cX0_readFactor 9 = .ok (.invokevirtual 82, 3) := by decide +kernel
theorem dX0_readFactor_12 : decode cX0_readFactor 12 = .ok (.ifCond .ne 5, 3) := by decide +kernel
theorem dX0_readFactor_15 : decode cX0_readFactor 15 = .ok (.iload_n 2, 1) := by decide +kernel
theorem dX0_readFactor_16 : decode cX0_readFactor 16 = .ok (.ireturn, 1) := by decide +kernel
theorem dX0_readFactor_17 : decode cX0_readFactor 17 = .ok (.aload_n 0, 1) := by decide +kernel
theorem dX0_readFactor_18 : decode cX0_readFactor 18 = .ok (.iconst 2, 1) := by decide +kernel
theorem dX0_readFactor_19 : decode cX0_readFactor 19 = .ok (.iload_n 2, 1) := by decide +kernel
theorem dX0_readFactor_20 : decode cX0_readFactor 20 = .ok (.invokevirtual 127, 3) := by decide +kernel
theorem dX0_readFactor_23 : decode cX0_readFactor 23 = .ok (.aload_n 0, 1) := by decide +kernel
theorem dX0_readFactor_24 : decode cX0_readFactor 24 = .ok (.bipush 48, 2) := by decide +kernel
theorem dX0_readFactor_26 : decode cX0_readFactor 26 = .ok (.invokevirtual 82, 3) := by decide +kernel
theorem dX0_readFactor_29 : decode cX0_readFactor 29 = .ok (.ifCond .ne 20, 3) := by decide +kernel
theorem dX0_readFactor_32 : decode cX0_readFactor 32 = .ok (.aload_n 0, 1) := by decide +kernel
theorem dX0_readFactor_33 : decode cX0_readFactor 33 = .ok (.bipush 49, 2) := by decide +kernel
theorem dX0_readFactor_35 : decode cX0_readFactor 35 = .ok (.invokevirtual 68, 3) := by decide +kernel
theorem dX0_readFactor_38 : decode cX0_readFactor 38 = .ok (.aload_n 0, 1) := by decide +kernel
theorem dX0_readFactor_39 : decode cX0_readFactor 39 = .ok (.getfield 22, 3) := by decide +kernel
theorem dX0_readFactor_42 : decode cX0_readFactor 42 = .ok (.bipush 9, 2) := by decide +kernel
theorem dX0_readFactor_44 : decode cX0_readFactor 44 = .ok (.iconst 0, 1) := by decide +kernel
theorem dX0_readFactor_45 : decode cX0_readFactor 45 = .ok (.invokevirtual 131, 3) := by decide +kernel
theorem dX0_readFactor_48 : decode cX0_readFactor 48 = .ok (.pop, 1) := by decide +kernel
theorem dX0_readFactor_49 : decode cX0_readFactor 49 = .ok (.iconst 1, 1) := by decide +kernel
theorem dX0_readFactor_50 : decode cX0_readFactor 50 = .ok (.ireturn, 1) := by decide +kernel
theorem dX0_readWhole_0 : decode cX0_readWhole 0 = .ok (.aload_n 0, 1) := by decide +kernel
theorem dX0_readWhole_1 : decode cX0_readWhole 1 = .ok (.invokevirtual 64, 3) := by decide +kernel
theorem dX0_readWhole_4 : decode cX0_readWhole 4 = .ok (.istore_n 2, 1) := by decide +kernel
theorem dX0_readWhole_5 : decode cX0_readWhole 5 = .ok (.iload_n 2, 1) := by decide +kernel
theorem dX0_readWhole_6 : decode cX0_readWhole 6 = .ok (.bipush 48, 2) := by decide +kernel
theorem dX0_readWhole_8 : decode cX0_readWhole 8 = .ok (.bipush 57, 2) := by decide +kernel
theorem dX0_readWhole_10 : decode cX0_readWhole 10 = .ok (.invokestatic 151, 3) := by decide +kernel
theorem dX0_readWhole_13 : decode cX0_readWhole 13 = .ok (.ifCond .eq 8, 3) := by decide +kernel
theorem dX0_readWhole_16 : decode cX0_readWhole 16 = .ok (.aload_n 0, 1) := by decide +kernel
theorem dX0_readWhole_17 : decode cX0_readWhole 17 = .ok (.invokevirtual 155, 3) := by decide +kernel
theorem dX0_readWhole_20 : decode cX0_readWhole 20 = .ok (.ireturn, 1) := by decide +kernel
theorem dX0_readWhole_21 : decode cX0_readWhole 21 = .ok (.iload_n 2, 1) := by decide +kernel
theorem dX0_readWhole_22 : decode cX0_readWhole 22 = .ok (.bipush 36, 2) := by decide +kernel
theorem dX0_readWhole_24 : decode cX0_readWhole 24 = .ok (.if_icmp .ne 8, 3) := by decide +kernel
theorem dX0_readWhole_27 : decode cX0_readWhole 27 = .ok (.aload_n 0, 1) := by decide +kernel
theorem dX0_readWhole_28 : decode cX0_readWhole 28 = .ok (.invokevirtual 158, 3) := by decide +kernel
theorem dX0_readWhole_31 : decode cX0_readWhole 31 = .ok (.ireturn, 1) := by decide +kernel
theorem dX0_readWhole_32 : decode cX0_readWhole 32 = .ok (.iload_n 1, 1) := by decide +kernel
theorem dX0_readWhole_33 : decode cX0_readWhole 33 = .ok (.bipush 8, 2) := by decide +kernel
theorem dX0_readWhole_35 : decode cX0_readWhole 35 = .ok (.if_icmp .lt 8, 3) := by decide +kernel
theorem dX0_readWhole_38 : decode cX0_readWhole 38 = .ok (.aload_n 0, 1) := by decide +kernel
theorem dX0_readWhole_39 : decode cX0_readWhole 39 = .ok (.invokevirtual 75, 3) := by decide +kernel
theorem dX0_readWhole_42 : decode cX0_readWhole 42 = .ok (.ireturn, 1) := by decide +kernel
theorem dX0_readWhole_43 : decode cX0_readWhole 43 = .ok (.iload_n 2, 1) := by decide +kernel
theorem dX0_readWhole_44 : decode cX0_readWhole 44 = .ok (.bipush 97, 2) := by decide +kernel
theorem dX0_readWhole_46 : decode cX0_readWhole 46 = .ok (.bipush 122, 2) := by decide +kernel
theorem dX0_readWhole_48 : decode cX0_readWhole 48 = .ok (.invokestatic 151, 3) := by decide +kernel
theorem dX0_readWhole_51 : decode cX0_readWhole 51 = .ok (.ifCond .eq 12, 3) := by decide +kernel
theorem dX0_readWhole_54 : decode cX0_readWhole 54 = .ok (.aload_n 0, 1) := by decide +kernel
theorem dX0_readWhole_55 : decode cX0_readWhole 55 = .ok (.iconst (-1), 1) := by decide +kernel
theorem dX0_readWhole_56 : decode cX0_readWhole 56 = .ok (.iload_n 1, 1) := by decide +kernel
theorem dX0_readWhole_57 : decode cX0_readWhole 57 = .ok (.iconst 1, 1) := by decide +kernel
theorem dX0_readWhole_58 : decode cX0_readWhole 58 = .ok (.iadd, 1) := by decide +kernel
theorem dX0_readWhole_59 : decode cX0_readWhole 59 = .ok (.invokevirtual 161, 3) := by decide +kernel
theorem dX0_readWhole_62 : decode cX0_readWhole 62 = .ok (.ireturn, 1) := by decide +kernel
theorem dX0_readWhole_63 : decode cX0_readWhole 63 = .ok (.iload_n 2, 1) := by decide +kernel
theorem dX0_readWhole_64 : decode cX0_readWhole 64 = .ok (.bipush 65, 2) := by decide +kernel
theorem dX0_readWhole_66 : decode cX0_readWhole 66 = .ok (.bipush 70, 2) := by decide +kernel
theorem dX0_readWhole_68 : decode cX0_readWhole 68 = .ok (.invokestatic 151, 3) := by decide +kernel
theorem dX0_readWhole_71 : decode cX0_readWhole 71 = .ok (.ifCond .eq 27, 3) := by decide +kernel
theorem dX0_readWhole_74 : decode cX0_readWhole 74 = .ok (.aload_n 0, 1) := by decide +kernel
theorem dX0_readWhole_75 : decode cX0_readWhole 75 = .ok (.bipush 65, 2) := by decide +kernel
theorem dX0_readWhole_77 : decode cX0_readWhole 77 = .ok (.bipush 70, 2) := by decide +kernel
theorem dX0_readWhole_79 : decode cX0_readWhole 79 = .ok (.invokevirtual 57, 3) := by decide +kernel
theorem dX0_readWhole_82 : decode cX0_readWhole 82 = .ok (.istore_n 3, 1) := by decide +kernel
theorem dX0_readWhole_83 : decode cX0_readWhole 83 = .ok (.aload_n 0, 1) := by decide +kernel
theorem dX0_readWhole_84 : decode cX0_readWhole 84 = .ok (.bipush 46, 2) := by decide +kernel
theorem dX0_readWhole_86 : decode cX0_readWhole 86 = .ok (.invokevirtual 68, 3) := by decide +kernel
theorem dX0_readWhole_89 : decode cX0_readWhole 89 = .ok (.aload_n 0, 1) := by decide +kernel
theorem dX0_readWhole_90 : decode cX0_readWhole 90 = .ok (.iload_n 3, 1) := by decide +kernel
theorem dX0_readWhole_91 : decode cX0_readWhole 91 = .ok (.iload_n 1, 1) := by decide +kernel
theorem dX0_readWhole_92 : decode cX0_readWhole 92 = .ok (.iconst 1, 1) := by decide +kernel
theorem dX0_readWhole_93 : decode cX0_readWhole 93 = .ok (.iadd, 1) := by decide +kernel
theorem dX0_readWhole_94 : decode cX0_readWhole 94 = .ok (.invokevirtual 161, 3) := by decide +kernel
theorem dX0_readWhole_97 : decode cX0_readWhole 97 = .ok (.ireturn, 1) := by decide +kernel
theorem dX0_readWhole_98 : decode cX0_readWhole 98 = .ok (.iload_n 2, 1) := by decide +kernel
theorem dX0_readWhole_99 : decode cX0_readWhole 99 = .ok (.lookupswitch 57 #[(40, 33), (91, 49), (123, 41)], 33) := by decide +kernel
theorem dX0_readWhole_132 : decode cX0_readWhole 132 = .ok (.aload_n 0, 1) := by decide +kernel
theorem dX0_readWhole_133 : decode cX0_readWhole 133 = .ok (.iload_n 1, 1) := by decide +kernel
theorem dX0_readWhole_134 : decode cX0_readWhole 134 = .ok (.iconst 1, 1) := by decide +kernel
theorem dX0_readWhole_135 : decode cX0_readWhole 135 = .ok (.iadd, 1) := by decide +kernel
theorem dX0_readWhole_136 : decode cX0_readWhole 136 = .ok (.invokevirtual 164, 3) := by decide +kernel
theorem dX0_readWhole_139 : decode cX0_readWhole 139 = .ok (.ireturn, 1) := by decide +kernel
theorem dX0_readWhole_140 : decode cX0_readWhole 140 = .ok (.aload_n 0, 1) := by decide +kernel
theorem dX0_readWhole_141 : decode cX0_readWhole 141 = .ok (.iload_n 1, 1) := by decide +kernel
theorem dX0_readWhole_142 : decode cX0_readWhole 142 = .ok (.iconst 1, 1) := by decide +kernel
theorem dX0_readWhole_143 : decode cX0_readWhole 143 = .ok (.iadd, 1) := by decide +kernel
theorem dX0_readWhole_144 : decode cX0_readWhole 144 = .ok (.invokevirtual 167, 3) := by decide +kernel
theorem dX0_readWhole_147 : decode cX0_readWhole 147 = .ok (.ireturn, 1) := by decide +kernel
theorem dX0_readWhole_148 : decode cX0_readWhole 148 = .ok (.aload_n 0, 1) := by decide +kernel
theorem dX0_readWhole_149 : decode cX0_readWhole 149 = .ok (.iload_n 1, 1) := by decide +kernel
theorem dX0_readWhole_150 : decode cX0_readWhole 150 = .ok (.iconst 1, 1) := by decide +kernel
theorem dX0_readWhole_151 : decode cX0_readWhole 151 = .ok (.iadd, 1) := by decide +kernel
theorem dX0_readWhole_152 : decode cX0_readWhole 152 = .ok (.invokevirtual 170, 3) := by decide +kernel
theorem dX0_readWhole_155 : decode cX0_readWhole 155 = .ok (.ireturn, 1) := by decide +kernel
theorem dX0_readWhole_156 : decode cX0_readWhole 156 = .ok (.aload_n 0, 1) := by decide +kernel
theorem dX0_readWhole_157 : decode cX0_readWhole 157 = .ok (.invokevirtual 75, 3) := by decide +kernel
theorem dX0_readWhole_160 : decode cX0_readWhole 160 = .ok (.ireturn, 1) := by decide +kernel
theorem dX0_readNumber_0 : decode cX0_readNumber 0 = .ok (.iconst 0, 1) := by decide +kernel
theorem dX0_readNumber_1 : decode cX0_readNumber 1 = .ok (.istore_n 1, 1) := by decide +kernel
theorem dX0_readNumber_2 : decode cX0_readNumber 2 = .ok (.iconst 0, 1) := by decide +kernel
theorem dX0_readNumber_3 : decode cX0_readNumber 3 = .ok (.istore_n 2, 1) := by decide +kernel
theorem dX0_readNumber_4 : decode cX0_readNumber 4 = .ok (.iload_n 2, 1) := by decide +kernel
theorem dX0_readNumber_5 : decode cX0_readNumber 5 = .ok (.iconst 4, 1) := by decide +kernel
theorem dX0_readNumber_6 : decode cX0_readNumber 6 = .ok (.if_icmp .ge 37, 3) := by decide +kernel
theorem dX0_readNumber_9 : decode cX0_readNumber 9 = .ok (.aload_n 0, 1) := by decide +kernel
theorem dX0_readNumber_10 : decode cX0_readNumber 10 = .ok (.invokevirtual 64, 3) := by decide +kernel
theorem dX0_readNumber_13 : decode cX0_readNumber 13 = .ok (.bipush 48, 2) := by decide +kernel
theorem dX0_readNumber_15 : decode cX0_readNumber 15 = .ok (.bipush 57, 2) := by decide +kernel
theorem dX0_readNumber_17 : decode cX0_readNumber 17 = .ok (.invokestatic 151, 3) := by decide +kernel
theorem dX0_readNumber_20 : decode cX0_readNumber 20 = .ok (.ifCond .eq 23, 3) := by decide +kernel
theorem dX0_readNumber_23 : decode cX0_readNumber 23 = .ok (.bipush 10, 2) := by decide +kernel
theorem dX0_readNumber_25 : decode cX0_readNumber 25 = .ok (.iload_n 1, 1) := by decide +kernel
theorem dX0_readNumber_26 : decode cX0_readNumber 26 = .ok (.imul, 1) := by decide +kernel
theorem dX0_readNumber_27 : decode cX0_readNumber 27 = .ok (.aload_n 0, 1) := by decide +kernel
theorem dX0_readNumber_28 : decode cX0_readNumber 28 = .ok (.bipush 48, 2) := by decide +kernel
theorem dX0_readNumber_30 : decode cX0_readNumber 30 = .ok (.bipush 57, 2) := by decide +kernel
theorem dX0_readNumber_32 : decode cX0_readNumber 32 = .ok (.invokevirtual 57, 3) := by decide +kernel
theorem dX0_readNumber_35 : decode cX0_readNumber 35 = .ok (.iadd, 1) := by decide +kernel
theorem dX0_readNumber_36 : decode cX0_readNumber 36 = .ok (.istore_n 1, 1) := by decide +kernel
theorem dX0_readNumber_37 : decode cX0_readNumber 37 = .ok (.iinc 2 1, 3) := by decide +kernel
theorem dX0_readNumber_40 : decode cX0_readNumber 40 = .ok (.goto (-36), 3) := by decide +kernel
theorem dX0_readNumber_43 : decode cX0_readNumber 43 = .ok (.aload_n 0, 1) := by decide +kernel
theorem dX0_readNumber_44 : decode cX0_readNumber 44 = .ok (.getfield 22, 3) := by decide +kernel
theorem dX0_readNumber_47 : decode cX0_readNumber 47 = .ok (.iconst 0, 1) := by decide +kernel
theorem dX0_readNumber_48 : decode cX0_readNumber 48 = .ok (.iload_n 1, 1) := by decide +kernel
theorem dX0_readNumber_49 : decode cX0_readNumber 49 = .ok (.invokevirtual 131, 3) := by decide +kernel
theorem dX0_readNumber_52 : decode cX0_readNumber 52 = .ok (.pop, 1) := by decide +kernel
theorem dX0_readNumber_53 : decode cX0_readNumber 53 = .ok (.iconst 1, 1) := by decide +kernel
theorem dX0_readNumber_54 : decode cX0_readNumber 54 = .ok (.ireturn, 1) := by decide +kernel
theorem dX0_readParameter_0 : decode cX0_readParameter 0 = .ok (.aload_n 0, 1) := by decide +kernel
theorem dX0_readParameter_1 : decode cX0_readParameter 1 = .ok (.bipush 36, 2) := by decide +kernel
theorem dX0_readParameter_3 : decode cX0_readParameter 3 = .ok (.invokevirtual 68, 3) := by decide +kernel
theorem dX0_readParameter_6 : decode cX0_readParameter 6 = .ok (.iconst 1, 1) := by decide +kernel
theorem dX0_readParameter_7 : decode cX0_readParameter 7 = .ok (.aload_n 0, 1) := by decide +kernel
theorem dX0_readParameter_8 : decode cX0_readParameter 8 = .ok (.bipush 49, 2) := by decide +kernel
theorem dX0_readParameter_10 : decode cX0_readParameter 10 = .ok (.bipush 51, 2) := by decide +kernel
theorem dX0_readParameter_12 : decode cX0_readParameter 12 = .ok (.invokevirtual 57, 3) := by decide +kernel
theorem dX0_readParameter_15 : decode cX0_readParameter 15 = .ok (.iadd, 1) := by decide +kernel
theorem dX0_readParameter_16 : decode cX0_readParameter 16 = .ok (.istore_n 1, 1) := by decide +kernel
theorem dX0_readParameter_17 : decode cX0_readParameter 17 = .ok (.aload_n 0, 1) := by decide +kernel
theorem dX0_readParameter_18 : decode cX0_readParameter 18 = .ok (.getfield 113, 3) := by decide +kernel
theorem dX0_readParameter_21 : decode cX0_readParameter 21 = .ok (.iload_n 1, 1) := by decide +kernel
theorem dX0_readParameter_22 : decode cX0_readParameter 22 = .ok (.invokestatic 120, 3) := by decide +kernel
theorem dX0_readParameter_25 : decode cX0_readParameter 25 = .ok (.istore_n 2, 1) := by decide +kernel
theorem dX0_readParameter_26 : decode cX0_readParameter 26 = .ok (.iload_n 2, 1) := by decide +kernel
theorem dX0_readParameter_27 : decode cX0_readParameter 27 = .ok (.ifCond .ne 10, 3) := by decide +kernel
theorem dX0_readParameter_30 : decode cX0_readParameter 30 = .ok (.aload_n 0, 1) := by decide +kernel
theorem dX0_readParameter_31 : decode cX0_readParameter 31 = .ok (.iconst 1, 1) := by decide +kernel
theorem dX0_readParameter_32 : decode cX0_readParameter 32 = .ok (.putfield 38, 3) := by decide +kernel
theorem dX0_readParameter_35 : decode cX0_readParameter 35 = .ok (.iconst 1, 1) := by decide +kernel
theorem dX0_readParameter_36 : decode cX0_readParameter 36 = .ok (.ireturn, 1) := by decide +kernel
theorem dX0_readParameter_37 : decode cX0_readParameter 37 = .ok (.aload_n 0, 1) := by decide +kernel
theorem dX0_readParameter_38 : decode cX0_readParameter 38 = .ok (.getfield 22, 3) := by decide +kernel
theorem dX0_readParameter_41 : decode cX0_readParameter 41 = .ok (.iload_n 2, 1) := by decide +kernel
theorem dX0_readParameter_42 : decode cX0_readParameter 42 = .ok (.iconst 2, 1) := by decide +kernel
theorem dX0_readParameter_43 : decode cX0_readParameter 43 = .ok (.if_icmp .ne 7, 3) := by decide +kernel
theorem dX0_readParameter_46 : decode cX0_readParameter 46 = .ok (.iconst 2, 1) := by decide +kernel
theorem dX0_readParameter_47 : decode cX0_readParameter 47 = .ok (.goto 4, 3) := by decide +kernel
theorem dX0_readParameter_50 : decode cX0_readParameter 50 = .ok (.iconst 1, 1) := by decide +kernel
theorem dX0_readParameter_51 : decode cX0_readParameter 51 = .ok (.aload_n 0, 1) := by decide +kernel
theorem dX0_readParameter_52 : decode cX0_readParameter 52 = .ok (.getfield 113, 3) := by decide +kernel
theorem dX0_readParameter_55 : decode cX0_readParameter 55 = .ok (.iload_n 1, 1) := by decide +kernel
theorem dX0_readParameter_56 : decode cX0_readParameter 56 = .ok (.invokestatic 97, 3) := by decide +kernel
theorem dX0_readParameter_59 : decode cX0_readParameter 59 = .ok (.invokevirtual 131, 3) := by decide +kernel
theorem dX0_readParameter_62 : decode cX0_readParameter 62 = .ok (.pop, 1) := by decide +kernel
theorem dX0_readParameter_63 : decode cX0_readParameter 63 = .ok (.iload_n 2, 1) := by decide +kernel
theorem dX0_readParameter_64 : decode cX0_readParameter 64 = .ok (.ireturn, 1) := by decide +kernel
theorem dX0_readGroup_0 : decode cX0_readGroup 0 = .ok (.aload_n 0, 1) := by decide +kernel
theorem dX0_readGroup_1 : decode cX0_readGroup 1 = .ok (.bipush 40, 2) := by decide +kernel
theorem dX0_readGroup_3 : decode cX0_readGroup 3 = .ok (.invokevirtual 68, 3) := by decide +kernel
theorem dX0_readGroup_6 : decode cX0_readGroup 6 = .ok (.aload_n 0, 1) := by decide +kernel
theorem dX0_readGroup_7 : decode cX0_readGroup 7 = .ok (.iload_n 1, 1) := by decide +kernel
theorem dX0_readGroup_8 : decode cX0_readGroup 8 = .ok (.invokevirtual 123, 3) := by decide +kernel
theorem dX0_readGroup_11 : decode cX0_readGroup 11 = .ok (.istore_n 2, 1) := by decide +kernel
theorem dX0_readGroup_12 : decode cX0_readGroup 12 = .ok (.aload_n 0, 1) := by decide +kernel
theorem dX0_readGroup_13 : decode cX0_readGroup 13 = .ok (.bipush 41, 2) := by decide +kernel
theorem dX0_readGroup_15 : decode cX0_readGroup 15 = .ok (.invokevirtual 68, 3) := by decide +kernel
theorem dX0_readGroup_18 : decode cX0_readGroup 18 = .ok (.iload_n 2, 1) := by decide +kernel
theorem dX0_readGroup_19 : decode cX0_readGroup 19 = .ok (.ireturn, 1) := by decide +kernel
theorem dX0_readPair_0 : decode cX0_readPair 0 = .ok (.aload_n 0, 1) := by decide +kernel
theorem dX0_readPair_1 : decode cX0_readPair 1 = .ok (.bipush 123, 2) := by decide +kernel
theorem dX0_readPair_3 : decode cX0_readPair 3 = .ok (.invokevirtual 68, 3) := by decide +kernel
theorem dX0_readPair_6 : decode cX0_readPair 6 = .ok (.aload_n 0, 1) := by decide +kernel
theorem dX0_readPair_7 : decode cX0_readPair 7 = .ok (.iconst 1, 1) := by decide +kernel
theorem dX0_readPair_8 : decode cX0_readPair 8 = .ok (.aload_n 0, 1) := by decide +kernel
theorem dX0_readPair_9 : decode cX0_readPair 9 = .ok (.iload_n 1, 1) := by decide +kernel
theorem dX0_readPair_10 : decode cX0_readPair 10 = .ok (.invokevirtual 123, 3) := by decide +kernel
theorem dX0_readPair_13 : decode cX0_readPair 13 = .ok (.invokevirtual 127, 3) := by decide +kernel
theorem dX0_readPair_16 : decode cX0_readPair 16 = .ok (.aload_n 0, 1) := by decide +kernel
theorem dX0_readPair_17 : decode cX0_readPair 17 = .ok (.iconst 1, 1) := by decide +kernel
theorem dX0_readPair_18 : decode cX0_readPair 18 = .ok (.invokevirtual 138, 3) := by decide +kernel
theorem dX0_readPair_21 : decode cX0_readPair 21 = .ok (.aload_n 0, 1) := by decide +kernel
theorem dX0_readPair_22 : decode cX0_readPair 22 = .ok (.bipush 44, 2) := by decide +kernel
theorem dX0_readPair_24 : decode cX0_readPair 24 = .ok (.invokevirtual 68, 3) := by decide +kernel
theorem dX0_readPair_27 : decode cX0_readPair 27 = .ok (.aload_n 0, 1) := by decide +kernel
theorem dX0_readPair_28 : decode cX0_readPair 28 = .ok (.iconst 1, 1) := by decide +kernel
theorem dX0_readPair_29 : decode cX0_readPair 29 = .ok (.aload_n 0, 1) := by decide +kernel
theorem dX0_readPair_30 : decode cX0_readPair 30 = .ok (.iload_n 1, 1) := by decide +kernel
theorem dX0_readPair_31 : decode cX0_readPair 31 = .ok (.invokevirtual 123, 3) := by decide +kernel
theorem dX0_readPair_34 : decode cX0_readPair 34 = .ok (.invokevirtual 127, 3) := by decide +kernel
theorem dX0_readPair_37 : decode cX0_readPair 37 = .ok (.aload_n 0, 1) := by decide +kernel
theorem dX0_readPair_38 : decode cX0_readPair 38 = .ok (.iconst 1, 1) := by decide +kernel
theorem dX0_readPair_39 : decode cX0_readPair 39 = .ok (.invokevirtual 142, 3) := by decide +kernel
theorem dX0_readPair_42 : decode cX0_readPair 42 = .ok (.aload_n 0, 1) := by decide +kernel
theorem dX0_readPair_43 : decode cX0_readPair 43 = .ok (.bipush 125, 2) := by decide +kernel
theorem dX0_readPair_45 : decode cX0_readPair 45 = .ok (.invokevirtual 68, 3) := by decide +kernel
theorem dX0_readPair_48 : decode cX0_readPair 48 = .ok (.aload_n 0, 1) := by decide +kernel
theorem dX0_readPair_49 : decode cX0_readPair 49 = .ok (.getfield 22, 3) := by decide +kernel
theorem dX0_readPair_52 : decode cX0_readPair 52 = .ok (.bipush 8, 2) := by decide +kernel
theorem dX0_readPair_54 : decode cX0_readPair 54 = .ok (.iconst 0, 1) := by decide +kernel
theorem dX0_readPair_55 : decode cX0_readPair 55 = .ok (.invokevirtual 131, 3) := by decide +kernel
theorem dX0_readPair_58 : decode cX0_readPair 58 = .ok (.pop, 1) := by decide +kernel
theorem dX0_readPair_59 : decode cX0_readPair 59 = .ok (.iconst 2, 1) := by decide +kernel
theorem dX0_readPair_60 : decode cX0_readPair 60 = .ok (.ireturn, 1) := by decide +kernel
theorem dX0_readChoice_0 : decode cX0_readChoice 0 = .ok (.aload_n 0, 1) := by decide +kernel
theorem dX0_readChoice_1 : decode cX0_readChoice 1 = .ok (.bipush 91, 2) := by decide +kernel
theorem dX0_readChoice_3 : decode cX0_readChoice 3 = .ok (.invokevirtual 68, 3) := by decide +kernel
theorem dX0_readChoice_6 : decode cX0_readChoice 6 = .ok (.aload_n 0, 1) := by decide +kernel
theorem dX0_readChoice_7 : decode cX0_readChoice 7 = .ok (.iconst 1, 1) := by decide +kernel
theorem dX0_readChoice_8 : decode cX0_readChoice 8 = .ok (.aload_n 0, 1) := by decide +kernel
theorem dX0_readChoice_9 : decode cX0_readChoice 9 = .ok (.iload_n 1, 1) := by decide +kernel
theorem dX0_readChoice_10 : decode cX0_readChoice 10 = .ok (.invokevirtual 123, 3) := by decide +kernel
theorem dX0_readChoice_13 : decode cX0_readChoice 13 = .ok (.invokevirtual 127, 3) := by decide +kernel
theorem dX0_readChoice_16 : decode cX0_readChoice 16 = .ok (.aload_n 0, 1) := by decide +kernel
theorem dX0_readChoice_17 : decode cX0_readChoice 17 = .ok (.getfield 22, 3) := by decide +kernel
theorem dX0_readChoice_20 : decode cX0_readChoice 20 = .ok (.bipush 10, 2) := by decide +kernel
theorem dX0_readChoice_22 : decode cX0_readChoice 22 = .ok (.iconst 0, 1) := by decide +kernel
theorem dX0_readChoice_23 : decode cX0_readChoice 23 = .ok (.invokevirtual 131, 3) := by decide +kernel
theorem dX0_readChoice_26 : decode cX0_readChoice 26 = .ok (.istore_n 2, 1) := by decide +kernel
theorem dX0_readChoice_27 : decode cX0_readChoice 27 = .ok (.aload_n 0, 1) := by decide +kernel
theorem dX0_readChoice_28 : decode cX0_readChoice 28 = .ok (.bipush 63, 2) := by decide +kernel
theorem dX0_readChoice_30 : decode cX0_readChoice 30 = .ok (.invokevirtual 68, 3) := by decide +kernel
theorem dX0_readChoice_33 : decode cX0_readChoice 33 = .ok (.aload_n 0, 1) := by decide +kernel
theorem dX0_readChoice_34 : decode cX0_readChoice 34 = .ok (.iload_n 1, 1) := by decide +kernel
theorem dX0_readChoice_35 : decode cX0_readChoice 35 = .ok (.invokevirtual 123, 3) := by decide +kernel
theorem dX0_readChoice_38 : decode cX0_readChoice 38 = .ok (.istore_n 3, 1) := by decide +kernel
theorem dX0_readChoice_39 : decode cX0_readChoice 39 = .ok (.aload_n 0, 1) := by decide +kernel
theorem dX0_readChoice_40 : decode cX0_readChoice 40 = .ok (.getfield 22, 3) := by decide +kernel
theorem dX0_readChoice_43 : decode cX0_readChoice 43 = .ok (.bipush 11, 2) := by decide +kernel
theorem dX0_readChoice_45 : decode cX0_readChoice 45 = .ok (.iconst 0, 1) := by decide +kernel
theorem dX0_readChoice_46 : decode cX0_readChoice 46 = .ok (.invokevirtual 131, 3) := by decide +kernel
theorem dX0_readChoice_49 : decode cX0_readChoice 49 = .ok (.istore 4, 2) := by decide +kernel
theorem dX0_readChoice_51 : decode cX0_readChoice 51 = .ok (.aload_n 0, 1) := by decide +kernel
theorem dX0_readChoice_52 : decode cX0_readChoice 52 = .ok (.bipush 58, 2) := by decide +kernel
theorem dX0_readChoice_54 : decode cX0_readChoice 54 = .ok (.invokevirtual 68, 3) := by decide +kernel
theorem dX0_readChoice_57 : decode cX0_readChoice 57 = .ok (.aload_n 0, 1) := by decide +kernel
theorem dX0_readChoice_58 : decode cX0_readChoice 58 = .ok (.getfield 22, 3) := by decide +kernel
theorem dX0_readChoice_61 : decode cX0_readChoice 61 = .ok (.iload_n 2, 1) := by decide +kernel
theorem dX0_readChoice_62 : decode cX0_readChoice 62 = .ok (.invokevirtual 173, 3) := by decide +kernel
theorem dX0_readChoice_65 : decode cX0_readChoice 65 = .ok (.aload_n 0, 1) := by decide +kernel
theorem dX0_readChoice_66 : decode cX0_readChoice 66 = .ok (.iload_n 3, 1) := by decide +kernel
theorem dX0_readChoice_67 : decode cX0_readChoice 67 = .ok (.aload_n 0, 1) := by decide +kernel
theorem dX0_readChoice_68 : decode cX0_readChoice 68 = .ok (.iload_n 1, 1) := by decide +kernel
theorem dX0_readChoice_69 : decode cX0_readChoice 69 = .ok (.invokevirtual 123, 3) := by decide +kernel
theorem dX0_readChoice_72 : decode cX0_readChoice 72 = .ok (.invokevirtual 127, 3) := by decide +kernel
theorem dX0_readChoice_75 : decode cX0_readChoice 75 = .ok (.aload_n 0, 1) := by decide +kernel
theorem dX0_readChoice_76 : decode cX0_readChoice 76 = .ok (.getfield 22, 3) := by decide +kernel
theorem dX0_readChoice_79 : decode cX0_readChoice 79 = .ok (.iload 4, 2) := by decide +kernel
theorem dX0_readChoice_81 : decode cX0_readChoice 81 = .ok (.invokevirtual 173, 3) := by decide +kernel
theorem dX0_readChoice_84 : decode cX0_readChoice 84 = .ok (.aload_n 0, 1) := by decide +kernel
theorem dX0_readChoice_85 : decode cX0_readChoice 85 = .ok (.bipush 93, 2) := by decide +kernel
theorem dX0_readChoice_87 : decode cX0_readChoice 87 = .ok (.invokevirtual 68, 3) := by decide +kernel
theorem dX0_readChoice_90 : decode cX0_readChoice 90 = .ok (.iload_n 3, 1) := by decide +kernel
theorem dX0_readChoice_91 : decode cX0_readChoice 91 = .ok (.ireturn, 1) := by decide +kernel
theorem dX0_readCall_0 : decode cX0_readCall 0 = .ok (.aload_n 0, 1) := by decide +kernel
theorem dX0_readCall_1 : decode cX0_readCall 1 = .ok (.bipush 97, 2) := by decide +kernel
theorem dX0_readCall_3 : decode cX0_readCall 3 = .ok (.bipush 122, 2) := by decide +kernel
theorem dX0_readCall_5 : decode cX0_readCall 5 = .ok (.invokevirtual 57, 3) := by decide +kernel
theorem dX0_readCall_8 : decode cX0_readCall 8 = .ok (.istore_n 3, 1) := by decide +kernel
theorem dX0_readCall_9 : decode cX0_readCall 9 = .ok (.aload_n 0, 1) := by decide +kernel
theorem dX0_readCall_10 : decode cX0_readCall 10 = .ok (.getfield 22, 3) := by decide +kernel
theorem dX0_readCall_13 : decode cX0_readCall 13 = .ok (.iload_n 1, 1) := by decide +kernel
theorem dX0_readCall_14 : decode cX0_readCall 14 = .ok (.iload_n 3, 1) := by decide +kernel
theorem dX0_readCall_15 : decode cX0_readCall 15 = .ok (.invokevirtual 87, 3) := by decide +kernel
theorem dX0_readCall_18 : decode cX0_readCall 18 = .ok (.astore 4, 2) := by decide +kernel
theorem dX0_readCall_20 : decode cX0_readCall 20 = .ok (.aload 4, 2) := by decide +kernel
theorem dX0_readCall_22 : decode cX0_readCall 22 = .ok (.ifnonnull 7, 3) := by decide +kernel
theorem dX0_readCall_25 : decode cX0_readCall 25 = .ok (.iconst 0, 1) := by decide +kernel
theorem dX0_readCall_26 : decode cX0_readCall 26 = .ok (.goto 8, 3) := by decide +kernel
theorem dX0_readCall_29 : decode cX0_readCall 29 = .ok (.aload 4, 2) := by decide +kernel
theorem dX0_readCall_31 : decode cX0_readCall 31 = .ok (.getfield 94, 3) := by decide +kernel
theorem dX0_readCall_34 : decode cX0_readCall 34 = .ok (.istore 5, 2) := by decide +kernel
theorem dX0_readCall_36 : decode cX0_readCall 36 = .ok (.aload_n 0, 1) := by decide +kernel
theorem dX0_readCall_37 : decode cX0_readCall 37 = .ok (.bipush 40, 2) := by decide +kernel
theorem dX0_readCall_39 : decode cX0_readCall 39 = .ok (.invokevirtual 68, 3) := by decide +kernel
theorem dX0_readCall_42 : decode cX0_readCall 42 = .ok (.aload_n 0, 1) := by decide +kernel
theorem dX0_readCall_43 : decode cX0_readCall 43 = .ok (.iload 5, 2) := by decide +kernel
theorem dX0_readCall_45 : decode cX0_readCall 45 = .ok (.iload_n 2, 1) := by decide +kernel
theorem dX0_readCall_46 : decode cX0_readCall 46 = .ok (.invokevirtual 176, 3) := by decide +kernel
theorem dX0_readCall_49 : decode cX0_readCall 49 = .ok (.aload_n 0, 1) := by decide +kernel
theorem dX0_readCall_50 : decode cX0_readCall 50 = .ok (.bipush 41, 2) := by decide +kernel
theorem dX0_readCall_52 : decode cX0_readCall 52 = .ok (.invokevirtual 68, 3) := by decide +kernel
theorem dX0_readCall_55 : decode cX0_readCall 55 = .ok (.aload_n 0, 1) := by decide +kernel
theorem dX0_readCall_56 : decode cX0_readCall 56 = .ok (.getfield 22, 3) := by decide +kernel
theorem dX0_readCall_59 : decode cX0_readCall 59 = .ok (.bipush 12, 2) := by decide +kernel
theorem dX0_readCall_61 : decode cX0_readCall 61 = .ok (.iload_n 1, 1) := by decide +kernel
theorem dX0_readCall_62 : decode cX0_readCall 62 = .ok (.iconst (-1), 1) := by decide +kernel
