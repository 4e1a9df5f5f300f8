theorem dX5_readItem_28 : decode cX5_readItem 28 = .ok (.istore 4, 2) := by decide +kernel
theorem dX5_readItem_30 : decode cX5_readItem 30 = .ok (.iload_n 3, 1) := by decide +kernel
theorem dX5_readItem_31 : decode cX5_readItem 31 = .ok (.ifCond .eq 9, 3) := by decide +kernel
theorem dX5_readItem_34 : decode cX5_readItem 34 = .ok (.aload_n 0, 1) := by decide +kernel
theorem dX5_readItem_35 : decode cX5_readItem 35 = .ok (.bipush 46, 2) := by decide +kernel
theorem dX5_readItem_37 : decode cX5_readItem 37 = .ok (.invokevirtual 175, 3) := by decide +kernel
theorem dX5_readItem_40 : decode cX5_readItem 40 = .ok (.iload_n 3, 1) := by decide +kernel
theorem dX5_readItem_41 : decode cX5_readItem 41 = .ok (.ifCond .ne 16, 3) := by decide +kernel
theorem dX5_readItem_44 : decode cX5_readItem 44 = .ok (.aload_n 0, 1) := by decide +kernel
theorem dX5_readItem_45 : decode cX5_readItem 45 = .ok (.bipush 43, 2) := by decide +kernel
theorem dX5_readItem_47 : decode cX5_readItem 47 = .ok (.invokevirtual 127, 3) := by decide +kernel
theorem dX5_readItem_50 : decode cX5_readItem 50 = .ok (.ifCond .eq 7, 3) := by decide +kernel
theorem dX5_readItem_53 : decode cX5_readItem 53 = .ok (.iconst 1, 1) := by decide +kernel
theorem dX5_readItem_54 : decode cX5_readItem 54 = .ok (.goto 4, 3) := by decide +kernel
theorem dX5_readItem_57 : decode cX5_readItem 57 = .ok (.iconst 0, 1) := by decide +kernel
theorem dX5_readItem_58 : decode cX5_readItem 58 = .ok (.istore 5, 2) := by decide +kernel
theorem dX5_readItem_60 : decode cX5_readItem 60 = .ok (.aload_n 0, 1) := by decide +kernel
theorem dX5_readItem_61 : decode cX5_readItem 61 = .ok (.bipush 97, 2) := by decide +kernel
theorem dX5_readItem_63 : decode cX5_readItem 63 = .ok (.bipush 122, 2) := by decide +kernel
theorem dX5_readItem_65 : decode cX5_readItem 65 = .ok (.invokevirtual 165, 3) := by decide +kernel
theorem dX5_readItem_68 : decode cX5_readItem 68 = .ok (.istore 6, 2) := by decide +kernel
theorem dX5_readItem_70 : decode cX5_readItem 70 = .ok (.aload_n 0, 1) := by decide +kernel
theorem dX5_readItem_71 : decode cX5_readItem 71 = .ok (.getfield 135, 3) := by decide +kernel
theorem dX5_readItem_74 : decode cX5_readItem 74 = .ok (.ifCond .eq 57, 3) := by decide +kernel
theorem dX5_readItem_77 : decode cX5_readItem 77 = .ok (.aload_n 0, 1) := by decide +kernel
theorem dX5_readItem_78 : decode cX5_readItem 78 = .ok (.aload_n 0, 1) := by decide +kernel
theorem dX5_readItem_79 : decode cX5_readItem 79 = .ok (.getfield 116, 3) := by decide +kernel
theorem dX5_readItem_82 : decode cX5_readItem 82 = .ok (.ifCond .eq 21, 3) := by decide +kernel
theorem dX5_readItem_85 : decode cX5_readItem 85 = .ok (.aload_n 0, 1) := by decide +kernel
theorem dX5_readItem_86 : decode cX5_readItem 86 = .ok (.bipush 6, 2) := by decide +kernel
theorem dX5_readItem_88 : decode cX5_readItem 88 = .ok (.iload 6, 2) := by decide +kernel
theorem dX5_readItem_90 : decode cX5_readItem 90 = .ok (.iload 4, 2) := by decide +kernel
theorem dX5_readItem_92 : decode cX5_readItem 92 = .ok (.invokevirtual 183, 3) := by decide +kernel
theorem dX5_readItem_95 : decode cX5_readItem 95 = .ok (.iconst (-1), 1) := by decide +kernel
theorem dX5_readItem_96 : decode cX5_readItem 96 = .ok (.if_icmp .ne 7, 3) := by decide +kernel
theorem dX5_readItem_99 : decode cX5_readItem 99 = .ok (.iconst 1, 1) := by decide +kernel
theorem dX5_readItem_100 : decode cX5_readItem 100 = .ok (.goto 4, 3) := by decide +kernel
theorem dX5_readItem_103 : decode cX5_readItem 103 = .ok (.iconst 0, 1) := by decide +kernel
theorem dX5_readItem_104 : decode cX5_readItem 104 = .ok (.invokevirtual 131, 3) := by decide +kernel
theorem dX5_readItem_107 : decode cX5_readItem 107 = .ok (.aload_n 0, 1) := by decide +kernel
theorem dX5_readItem_108 : decode cX5_readItem 108 = .ok (.getfield 21, 3) := by decide +kernel
theorem dX5_readItem_111 : decode cX5_readItem 111 = .ok (.iload_n 2, 1) := by decide +kernel
theorem dX5_readItem_112 : decode cX5_readItem 112 = .ok (.iload 6, 2) := by decide +kernel
theorem dX5_readItem_114 : decode cX5_readItem 114 = .ok (.iastore, 1) := by decide +kernel
theorem dX5_readItem_115 : decode cX5_readItem 115 = .ok (.aload_n 0, 1) := by decide +kernel
theorem dX5_readItem_116 : decode cX5_readItem 116 = .ok (.getfield 24, 3) := by decide +kernel
theorem dX5_readItem_119 : decode cX5_readItem 119 = .ok (.iload_n 2, 1) := by decide +kernel
theorem dX5_readItem_120 : decode cX5_readItem 120 = .ok (.iload 4, 2) := by decide +kernel
theorem dX5_readItem_122 : decode cX5_readItem 122 = .ok (.iastore, 1) := by decide +kernel
theorem dX5_readItem_123 : decode cX5_readItem 123 = .ok (.aload_n 0, 1) := by decide +kernel
theorem dX5_readItem_124 : decode cX5_readItem 124 = .ok (.getfield 27, 3) := by decide +kernel
theorem dX5_readItem_127 : decode cX5_readItem 127 = .ok (.iload_n 2, 1) := by decide +kernel
theorem dX5_readItem_128 : decode cX5_readItem 128 = .ok (.iload 5, 2) := by decide +kernel
theorem dX5_readItem_130 : decode cX5_readItem 130 = .ok (.bastore, 1) := by decide +kernel
theorem dX5_readItem_131 : decode cX5_readItem 131 = .ok (.aload_n 0, 1) := by decide +kernel
theorem dX5_readItem_132 : decode cX5_readItem 132 = .ok (.getfield 116, 3) := by decide +kernel
theorem dX5_readItem_135 : decode cX5_readItem 135 = .ok (.ifCond .eq 8, 3) := by decide +kernel
theorem dX5_readItem_138 : decode cX5_readItem 138 = .ok (.aload_n 0, 1) := by decide +kernel
theorem dX5_readItem_139 : decode cX5_readItem 139 = .ok (.iload_n 2, 1) := by decide +kernel
theorem dX5_readItem_140 : decode cX5_readItem 140 = .ok (.invokevirtual 231, 3) := by decide +kernel
theorem dX5_readItem_143 : decode cX5_readItem 143 = .ok (.aload_n 0, 1) := by decide +kernel
theorem dX5_readItem_144 : decode cX5_readItem 144 = .ok (.getfield 135, 3) := by decide +kernel
theorem dX5_readItem_147 : decode cX5_readItem 147 = .ok (.ifCond .eq 13, 3) := by decide +kernel
theorem dX5_readItem_150 : decode cX5_readItem 150 = .ok (.aload_n 0, 1) := by decide +kernel
theorem dX5_readItem_151 : decode cX5_readItem 151 = .ok (.getfield 17, 3) := by decide +kernel
theorem dX5_readItem_154 : decode cX5_readItem 154 = .ok (.bipush 6, 2) := by decide +kernel
theorem dX5_readItem_156 : decode cX5_readItem 156 = .ok (.iload_n 1, 1) := by decide +kernel
theorem dX5_readItem_157 : decode cX5_readItem 157 = .ok (.iconst 1, 1) := by decide +kernel
theorem dX5_readItem_158 : decode cX5_readItem 158 = .ok (.iadd, 1) := by decide +kernel
theorem dX5_readItem_159 : decode cX5_readItem 159 = .ok (.iastore, 1) := by decide +kernel
theorem dX5_readItem_160 : decode cX5_readItem 160 = .ok (.iload_n 3, 1) := by decide +kernel
theorem dX5_readItem_161 : decode cX5_readItem 161 = .ok (.ifCond .ne 10, 3) := by decide +kernel
theorem dX5_readItem_164 : decode cX5_readItem 164 = .ok (.aload_n 0, 1) := by decide +kernel
theorem dX5_readItem_165 : decode cX5_readItem 165 = .ok (.getfield 116, 3) := by decide +kernel
theorem dX5_readItem_168 : decode cX5_readItem 168 = .ok (.ifCond .ne 4, 3) := by decide +kernel
theorem dX5_readItem_171 : decode cX5_readItem 171 = .ok (.return_, 1) := by decide +kernel
theorem dX5_readItem_172 : decode cX5_readItem 172 = .ok (.aload_n 0, 1) := by decide +kernel
theorem dX5_readItem_173 : decode cX5_readItem 173 = .ok (.bipush 61, 2) := by decide +kernel
theorem dX5_readItem_175 : decode cX5_readItem 175 = .ok (.invokevirtual 175, 3) := by decide +kernel
theorem dX5_readItem_178 : decode cX5_readItem 178 = .ok (.aload_n 0, 1) := by decide +kernel
theorem dX5_readItem_179 : decode cX5_readItem 179 = .ok (.getfield 116, 3) := by decide +kernel
theorem dX5_readItem_182 : decode cX5_readItem 182 = .ok (.ifCond .eq 8, 3) := by decide +kernel
theorem dX5_readItem_185 : decode cX5_readItem 185 = .ok (.aload_n 0, 1) := by decide +kernel
theorem dX5_readItem_186 : decode cX5_readItem 186 = .ok (.iload_n 2, 1) := by decide +kernel
theorem dX5_readItem_187 : decode cX5_readItem 187 = .ok (.invokevirtual 234, 3) := by decide +kernel
theorem dX5_readItem_190 : decode cX5_readItem 190 = .ok (.return_, 1) := by decide +kernel
theorem dX5_readItems_0 : decode cX5_readItems 0 = .ok (.aload_n 0, 1) := by decide +kernel
theorem dX5_readItems_1 : decode cX5_readItems 1 = .ok (.iload_n 1, 1) := by decide +kernel
theorem dX5_readItems_2 : decode cX5_readItems 2 = .ok (.putfield 135, 3) := by decide +kernel
theorem dX5_readItems_5 : decode cX5_readItems 5 = .ok (.aload_n 0, 1) := by decide +kernel
theorem dX5_readItems_6 : decode cX5_readItems 6 = .ok (.iconst 0, 1) := by decide +kernel
theorem dX5_readItems_7 : decode cX5_readItems 7 = .ok (.putfield 138, 3) := by decide +kernel
theorem dX5_readItems_10 : decode cX5_readItems 10 = .ok (.aload_n 0, 1) := by decide +kernel
theorem dX5_readItems_11 : decode cX5_readItems 11 = .ok (.iconst 1, 1) := by decide +kernel
theorem dX5_readItems_12 : decode cX5_readItems 12 = .ok (.putfield 113, 3) := by decide +kernel
theorem dX5_readItems_15 : decode cX5_readItems 15 = .ok (.iconst 0, 1) := by decide +kernel
theorem dX5_readItems_16 : decode cX5_readItems 16 = .ok (.istore_n 2, 1) := by decide +kernel
theorem dX5_readItems_17 : decode cX5_readItems 17 = .ok (.aload_n 0, 1) := by decide +kernel
theorem dX5_readItems_18 : decode cX5_readItems 18 = .ok (.getfield 116, 3) := by decide +kernel
theorem dX5_readItems_21 : decode cX5_readItems 21 = .ok (.ifCond .eq 45, 3) := by decide +kernel
theorem dX5_readItems_24 : decode cX5_readItems 24 = .ok (.aload_n 0, 1) := by decide +kernel
theorem dX5_readItems_25 : decode cX5_readItems 25 = .ok (.bipush 59, 2) := by decide +kernel
theorem dX5_readItems_27 : decode cX5_readItems 27 = .ok (.invokevirtual 127, 3) := by decide +kernel
theorem dX5_readItems_30 : decode cX5_readItems 30 = .ok (.ifCond .eq 36, 3) := by decide +kernel
theorem dX5_readItems_33 : decode cX5_readItems 33 = .ok (.aload_n 0, 1) := by decide +kernel
theorem dX5_readItems_34 : decode cX5_readItems 34 = .ok (.iload_n 2, 1) := by decide +kernel
theorem dX5_readItems_35 : decode cX5_readItems 35 = .ok (.bipush 6, 2) := by decide +kernel
theorem dX5_readItems_37 : decode cX5_readItems 37 = .ok (.if_icmp .ge 7, 3) := by decide +kernel
theorem dX5_readItems_40 : decode cX5_readItems 40 = .ok (.iconst 1, 1) := by decide +kernel
theorem dX5_readItems_41 : decode cX5_readItems 41 = .ok (.goto 4, 3) := by decide +kernel
theorem dX5_readItems_44 : decode cX5_readItems 44 = .ok (.iconst 0, 1) := by decide +kernel
theorem dX5_readItems_45 : decode cX5_readItems 45 = .ok (.invokevirtual 131, 3) := by decide +kernel
theorem dX5_readItems_48 : decode cX5_readItems 48 = .ok (.aload_n 0, 1) := by decide +kernel
theorem dX5_readItems_49 : decode cX5_readItems 49 = .ok (.getfield 116, 3) := by decide +kernel
theorem dX5_readItems_52 : decode cX5_readItems 52 = .ok (.ifCond .eq 8, 3) := by decide +kernel
theorem dX5_readItems_55 : decode cX5_readItems 55 = .ok (.aload_n 0, 1) := by decide +kernel
theorem dX5_readItems_56 : decode cX5_readItems 56 = .ok (.iload_n 2, 1) := by decide +kernel
theorem dX5_readItems_57 : decode cX5_readItems 57 = .ok (.invokevirtual 237, 3) := by decide +kernel
theorem dX5_readItems_60 : decode cX5_readItems 60 = .ok (.iinc 2 1, 3) := by decide +kernel
theorem dX5_readItems_63 : decode cX5_readItems 63 = .ok (.goto (-46), 3) := by decide +kernel
theorem dX5_readItems_66 : decode cX5_readItems 66 = .ok (.aload_n 0, 1) := by decide +kernel
theorem dX5_readItems_67 : decode cX5_readItems 67 = .ok (.iload_n 2, 1) := by decide +kernel
theorem dX5_readItems_68 : decode cX5_readItems 68 = .ok (.ifCond .le 18, 3) := by decide +kernel
theorem dX5_readItems_71 : decode cX5_readItems 71 = .ok (.aload_n 0, 1) := by decide +kernel
theorem dX5_readItems_72 : decode cX5_readItems 72 = .ok (.getfield 113, 3) := by decide +kernel
theorem dX5_readItems_75 : decode cX5_readItems 75 = .ok (.aload_n 0, 1) := by decide +kernel
theorem dX5_readItems_76 : decode cX5_readItems 76 = .ok (.getfield 110, 3) := by decide +kernel
theorem dX5_readItems_79 : decode cX5_readItems 79 = .ok (.if_icmp .ne 7, 3) := by decide +kernel
theorem dX5_readItems_82 : decode cX5_readItems 82 = .ok (.iconst 1, 1) := by decide +kernel
theorem dX5_readItems_83 : decode cX5_readItems 83 = .ok (.goto 4, 3) := by decide +kernel
theorem dX5_readItems_86 : decode cX5_readItems 86 = .ok (.iconst 0, 1) := by decide +kernel
theorem dX5_readItems_87 : decode cX5_readItems 87 = .ok (.invokevirtual 131, 3) := by decide +kernel
theorem dX5_readItems_90 : decode cX5_readItems 90 = .ok (.return_, 1) := by decide +kernel
theorem dX5_accept_0 : decode cX5_accept 0 = .ok (.aload_n 0, 1) := by decide +kernel
theorem dX5_accept_1 : decode cX5_accept 1 = .ok (.getfield 13, 3) := by decide +kernel
theorem dX5_accept_4 : decode cX5_accept 4 = .ok (.iload_n 1, 1) := by decide +kernel
theorem dX5_accept_5 : decode cX5_accept 5 = .ok (.iconst 1, 1) := by decide +kernel
theorem dX5_accept_6 : decode cX5_accept 6 = .ok (.bastore, 1) := by decide +kernel
theorem dX5_accept_7 : decode cX5_accept 7 = .ok (.aload_n 0, 1) := by decide +kernel
theorem dX5_accept_8 : decode cX5_accept 8 = .ok (.getfield 17, 3) := by decide +kernel
theorem dX5_accept_11 : decode cX5_accept 11 = .ok (.iload_n 1, 1) := by decide +kernel
theorem dX5_accept_12 : decode cX5_accept 12 = .ok (.aload_n 0, 1) := by decide +kernel
theorem dX5_accept_13 : decode cX5_accept 13 = .ok (.getfield 17, 3) := by decide +kernel
theorem dX5_accept_16 : decode cX5_accept 16 = .ok (.bipush 6, 2) := by decide +kernel
theorem dX5_accept_18 : decode cX5_accept 18 = .ok (.iaload, 1) := by decide +kernel
theorem dX5_accept_19 : decode cX5_accept 19 = .ok (.iastore, 1) := by decide +kernel
theorem dX5_accept_20 : decode cX5_accept 20 = .ok (.iconst 0, 1) := by decide +kernel
theorem dX5_accept_21 : decode cX5_accept 21 = .ok (.istore_n 2, 1) := by decide +kernel
theorem dX5_accept_22 : decode cX5_accept 22 = .ok (.iload_n 2, 1) := by decide +kernel
theorem dX5_accept_23 : decode cX5_accept 23 = .ok (.bipush 6, 2) := by decide +kernel
theorem dX5_accept_25 : decode cX5_accept 25 = .ok (.if_icmp .ge 151, 3) := by decide +kernel
theorem dX5_accept_28 : decode cX5_accept 28 = .ok (.bipush 36, 2) := by decide +kernel
theorem dX5_accept_30 : decode cX5_accept 30 = .ok (.iload_n 2, 1) := by decide +kernel
theorem dX5_accept_31 : decode cX5_accept 31 = .ok (.iadd, 1) := by decide +kernel
theorem dX5_accept_32 : decode cX5_accept 32 = .ok (.istore_n 3, 1) := by decide +kernel
theorem dX5_accept_33 : decode cX5_accept 33 = .ok (.bipush 6, 2) := by decide +kernel
theorem dX5_accept_35 : decode cX5_accept 35 = .ok (.iload_n 1, 1) := by decide +kernel
theorem dX5_accept_36 : decode cX5_accept 36 = .ok (.imul, 1) := by decide +kernel
theorem dX5_accept_37 : decode cX5_accept 37 = .ok (.iload_n 2, 1) := by decide +kernel
theorem dX5_accept_38 : decode cX5_accept 38 = .ok (.iadd, 1) := by decide +kernel
theorem dX5_accept_39 : decode cX5_accept 39 = .ok (.istore 4, 2) := by decide +kernel
theorem dX5_accept_41 : decode cX5_accept 41 = .ok (.aload_n 0, 1) := by decide +kernel
theorem dX5_accept_42 : decode cX5_accept 42 = .ok (.getfield 21, 3) := by decide +kernel
theorem dX5_accept_45 : decode cX5_accept 45 = .ok (.iload 4, 2) := by decide +kernel
theorem dX5_accept_47 : decode cX5_accept 47 = .ok (.aload_n 0, 1) := by decide +kernel
theorem dX5_accept_48 : decode cX5_accept 48 = .ok (.getfield 21, 3) := by decide +kernel
theorem dX5_accept_51 : decode cX5_accept 51 = .ok (.iload_n 3, 1) := by decide +kernel
theorem dX5_accept_52 : decode cX5_accept 52 = .ok (.iaload, 1) := by decide +kernel
theorem dX5_accept_53 : decode cX5_accept 53 = .ok (.iastore, 1) := by decide +kernel
theorem dX5_accept_54 : decode cX5_accept 54 = .ok (.aload_n 0, 1) := by decide +kernel
theorem dX5_accept_55 : decode cX5_accept 55 = .ok (.getfield 24, 3) := by decide +kernel
theorem dX5_accept_58 : decode cX5_accept 58 = .ok (.iload 4, 2) := by decide +kernel
theorem dX5_accept_60 : decode cX5_accept 60 = .ok (.aload_n 0, 1) := by decide +kernel
theorem dX5_accept_61 : decode cX5_accept 61 = .ok (.getfield 24, 3) := by decide +kernel
theorem dX5_accept_64 : decode cX5_accept 64 = .ok (.iload_n 3, 1) := by decide +kernel
theorem dX5_accept_65 : decode cX5_accept 65 = .ok (.iaload, 1) := by decide +kernel
theorem dX5_accept_66 : decode cX5_accept 66 = .ok (.iastore, 1) := by decide +kernel
theorem dX5_accept_67 : decode cX5_accept 67 = .ok (.aload_n 0, 1) := by decide +kernel
theorem dX5_accept_68 : decode cX5_accept 68 = .ok (.getfield 27, 3) := by decide +kernel
theorem dX5_accept_71 : decode cX5_accept 71 = .ok (.iload 4, 2) := by decide +kernel
theorem dX5_accept_73 : decode cX5_accept 73 = .ok (.aload_n 0, 1) := by decide +kernel
theorem dX5_accept_74 : decode cX5_accept 74 = .ok (.getfield 27, 3) := by decide +kernel
theorem dX5_accept_77 : decode cX5_accept 77 = .ok (.iload_n 3, 1) := by decide +kernel
theorem dX5_accept_78 : decode cX5_accept 78 = .ok (.baload, 1) := by decide +kernel
theorem dX5_accept_79 : decode cX5_accept 79 = .ok (.bastore, 1) := by decide +kernel
theorem dX5_accept_80 : decode cX5_accept 80 = .ok (.aload_n 0, 1) := by decide +kernel
theorem dX5_accept_81 : decode cX5_accept 81 = .ok (.getfield 30, 3) := by decide +kernel
theorem dX5_accept_84 : decode cX5_accept 84 = .ok (.iload 4, 2) := by decide +kernel
theorem dX5_accept_86 : decode cX5_accept 86 = .ok (.aload_n 0, 1) := by decide +kernel
theorem dX5_accept_87 : decode cX5_accept 87 = .ok (.getfield 30, 3) := by decide +kernel
theorem dX5_accept_90 : decode cX5_accept 90 = .ok (.iload_n 3, 1) := by decide +kernel
theorem dX5_accept_91 : decode cX5_accept 91 = .ok (.iaload, 1) := by decide +kernel
theorem dX5_accept_92 : decode cX5_accept 92 = .ok (.iastore, 1) := by decide +kernel
theorem dX5_accept_93 : decode cX5_accept 93 = .ok (.aload_n 0, 1) := by decide +kernel
theorem dX5_accept_94 : decode cX5_accept 94 = .ok (.getfield 36, 3) := by decide +kernel
theorem dX5_accept_97 : decode cX5_accept 97 = .ok (.iload 4, 2) := by decide +kernel
theorem dX5_accept_99 : decode cX5_accept 99 = .ok (.aload_n 0, 1) := by decide +kernel
theorem dX5_accept_100 : decode cX5_accept 100 = .ok (.getfield 36, 3) := by decide +kernel
theorem dX5_accept_103 : decode cX5_accept 103 = .ok (.iload_n 3, 1) := by decide +kernel
theorem dX5_accept_104 : decode cX5_accept 104 = .ok (.baload, 1) := by decide +kernel
theorem dX5_accept_105 : decode cX5_accept 105 = .ok (.bastore, 1) := by decide +kernel
theorem dX5_accept_106 : decode cX5_accept 106 = .ok (.aload_n 0, 1) := by decide +kernel
theorem dX5_accept_107 : decode cX5_accept 107 = .ok (.getfield 39, 3) := by decide +kernel
theorem dX5_accept_110 : decode cX5_accept 110 = .ok (.iload 4, 2) := by decide +kernel
theorem dX5_accept_112 : decode cX5_accept 112 = .ok (.aload_n 0, 1) := by decide +kernel
theorem dX5_accept_113 : decode cX5_accept 113 = .ok (.getfield 39, 3) := by decide +kernel
theorem dX5_accept_116 : decode cX5_accept 116 = .ok (.iload_n 3, 1) := by decide +kernel
theorem dX5_accept_117 : decode cX5_accept 117 = .ok (.iaload, 1) := by decide +kernel
theorem dX5_accept_118 : decode cX5_accept 118 = .ok (.iastore, 1) := by decide +kernel
theorem dX5_accept_119 : decode cX5_accept 119 = .ok (.aload_n 0, 1) := by decide +kernel
theorem dX5_accept_120 : decode cX5_accept 120 = .ok (.getfield 42, 3) := by decide +kernel
theorem dX5_accept_123 : decode cX5_accept 123 = .ok (.iload 4, 2) := by decide +kernel
theorem dX5_accept_125 : decode cX5_accept 125 = .ok (.aload_n 0, 1) := by decide +kernel
theorem dX5_accept_126 : decode cX5_accept 126 = .ok (.getfield 42, 3) := by decide +kernel
theorem dX5_accept_129 : decode cX5_accept 129 = .ok (.iload_n 3, 1) := by decide +kernel
theorem dX5_accept_130 : decode cX5_accept 130 = .ok (.iaload, 1) := by decide +kernel
theorem dX5_accept_131 : decode cX5_accept 131 = .ok (.iastore, 1) := by decide +kernel
theorem dX5_accept_132 : decode cX5_accept 132 = .ok (.iconst 0, 1) := by decide +kernel
theorem dX5_accept_133 : decode cX5_accept 133 = .ok (.istore 5, 2) := by decide +kernel
theorem dX5_accept_135 : decode cX5_accept 135 = .ok (.iload 5, 2) := by decide +kernel
theorem dX5_accept_137 : decode cX5_accept 137 = .ok (.iconst 3, 1) := by decide +kernel
theorem dX5_accept_138 : decode cX5_accept 138 = .ok (.if_icmp .ge 32, 3) := by decide +kernel
theorem dX5_accept_141 : decode cX5_accept 141 = .ok (.aload_n 0, 1) := by decide +kernel
theorem dX5_accept_142 : decode cX5_accept 142 = .ok (.getfield 33, 3) := by decide +kernel
theorem dX5_accept_145 : decode cX5_accept 145 = .ok (.iconst 3, 1) := by decide +kernel
theorem dX5_accept_146 : decode cX5_accept 146 = .ok (.iload 4, 2) := by decide +kernel
theorem dX5_accept_148 : decode cX5_accept 148 = .ok (.imul, 1) := by decide +kernel
theorem dX5_accept_149 : decode cX5_accept 149 = .ok (.iload 5, 2) := by decide +kernel
theorem dX5_accept_151 : decode cX5_accept 151 = .ok (.iadd, 1) := by decide +kernel
theorem dX5_accept_152 : decode cX5_accept 152 = .ok (.aload_n 0, 1) := by decide +kernel
theorem dX5_accept_153 : decode cX5_accept 153 = .ok (.getfield 33, 3) := by decide +kernel
theorem dX5_accept_156 : decode cX5_accept 156 = .ok (.iconst 3, 1) := by decide +kernel
theorem dX5_accept_157 : decode cX5_accept 157 = .ok (.iload_n 3, 1) := by decide +kernel
theorem dX5_accept_158 : decode cX5_accept 158 = .ok (.imul, 1) := by decide +kernel
theorem dX5_accept_159 : decode cX5_accept 159 = .ok (.iload 5, 2) := by decide +kernel
theorem dX5_accept_161 : decode cX5_accept 161 = .ok (.iadd, 1) := by decide +kernel
theorem dX5_accept_162 : decode cX5_accept 162 = .ok (.baload, 1) := by decide +kernel
theorem dX5_accept_163 : decode cX5_accept 163 = .ok (.bastore, 1) := by decide +kernel
theorem dX5_accept_164 : decode cX5_accept 164 = .ok (.iinc 5 1, 3) := by decide +kernel
theorem dX5_accept_167 : decode cX5_accept 167 = .ok (.goto (-32), 3) := by decide +kernel
theorem dX5_accept_170 : decode cX5_accept 170 = .ok (.iinc 2 1, 3) := by decide +kernel
theorem dX5_accept_173 : decode cX5_accept 173 = .ok (.goto (-151), 3) := by decide +kernel
theorem dX5_accept_176 : decode cX5_accept 176 = .ok (.iconst 0, 1) := by decide +kernel
theorem dX5_accept_177 : decode cX5_accept 177 = .ok (.istore_n 2, 1) := by decide +kernel
theorem dX5_accept_178 : decode cX5_accept 178 = .ok (.iload_n 2, 1) := by decide +kernel
theorem dX5_accept_179 : decode cX5_accept 179 = .ok (.aload_n 0, 1) := by decide +kernel
theorem dX5_accept_180 : decode cX5_accept 180 = .ok (.getfield 138, 3) := by decide +kernel
theorem dX5_accept_183 : decode cX5_accept 183 = .ok (.if_icmp .ge 75, 3) := by decide +kernel
theorem dX5_accept_186 : decode cX5_accept 186 = .ok (.aload_n 0, 1) := by decide +kernel
theorem dX5_accept_187 : decode cX5_accept 187 = .ok (.getfield 45, 3) := by decide +kernel
theorem dX5_accept_190 : decode cX5_accept 190 = .ok (.sipush 130, 3) := by decide +kernel
theorem dX5_accept_193 : decode cX5_accept 193 = .ok (.iload_n 1, 1) := by decide +kernel
theorem dX5_accept_194 : decode cX5_accept 194 = .ok (.imul, 1) := by decide +kernel
theorem dX5_accept_195 : decode cX5_accept 195 = .ok (.iload_n 2, 1) := by decide +kernel
theorem dX5_accept_196 : decode cX5_accept 196 = .ok (.iadd, 1) := by decide +kernel
theorem dX5_accept_197 : decode cX5_accept 197 = .ok (.aload_n 0, 1) := by decide +kernel
theorem dX5_accept_198 : decode cX5_accept 198 = .ok (.getfield 45, 3) := by decide +kernel
theorem dX5_accept_201 : decode cX5_accept 201 = .ok (.sipush 780, 3) := by decide +kernel
theorem dX5_accept_204 : decode cX5_accept 204 = .ok (.iload_n 2, 1) := by decide +kernel
theorem dX5_accept_205 : decode cX5_accept 205 = .ok (.iadd, 1) := by decide +kernel
theorem dX5_accept_206 : decode cX5_accept 206 = .ok (.iaload, 1) := by decide +kernel
theorem dX5_accept_207 : decode cX5_accept 207 = .ok (.iastore, 1) := by decide +kernel
theorem dX5_accept_208 : decode cX5_accept 208 = .ok (.aload_n 0, 1) := by decide +kernel
theorem dX5_accept_209 : decode cX5_accept 209 = .ok (.getfield 48, 3) := by decide +kernel
theorem dX5_accept_212 : decode cX5_accept 212 = .ok (.sipush 130, 3) := by decide +kernel
theorem dX5_accept_215 : decode cX5_accept 215 = .ok (.iload_n 1, 1) := by decide +kernel
theorem dX5_accept_216 : decode cX5_accept 216 = .ok (.imul, 1) := by decide +kernel
theorem dX5_accept_217 : decode cX5_accept 217 = .ok (.iload_n 2, 1) := by decide +kernel
theorem dX5_accept_218 : decode cX5_accept 218 = .ok (.iadd, 1) := by decide +kernel
theorem dX5_accept_219 : decode cX5_accept 219 = .ok (.aload_n 0, 1) := by decide +kernel
theorem dX5_accept_220 : decode cX5_accept 220 = .ok (.getfield 48, 3) := by decide +kernel
theorem dX5_accept_223 : decode cX5_accept 223 = .ok (.sipush 780, 3) := by decide +kernel
theorem dX5_accept_226 : decode cX5_accept 226 = .ok (.iload_n 2, 1) := by decide +kernel
theorem dX5_accept_227 : decode cX5_accept 227 = .ok (.iadd, 1) := by decide +kernel
theorem dX5_accept_228 : decode cX5_accept 228 = .ok (.iaload, 1) := by decide +kernel
theorem dX5_accept_229 : decode cX5_accept 229 = .ok (.iastore, 1) := by decide +kernel
theorem dX5_accept_230 : decode cX5_accept 230 = .ok (.aload_n 0, 1) := by decide +kernel
theorem dX5_accept_231 : decode cX5_accept 231 = .ok (.getfield 51, 3) := by decide +kernel
theorem dX5_accept_234 : decode cX5_accept 234 = .ok (.sipush 130, 3) := by decide +kernel
theorem dX5_accept_237 : decode cX5_accept 237 = .ok (.iload_n 1, 1) := by decide +kernel
theorem dX5_accept_238 : decode cX5_accept 238 = .ok (.imul, 1) := by decide +kernel
theorem dX5_accept_239 : decode cX5_accept 239 = .ok (.iload_n 2, 1) := by decide +kernel
theorem dX5_accept_240 : decode cX5_accept 240 = .ok (.iadd, 1) := by decide +kernel
theorem dX5_accept_241 : decode cX5_accept 241 = .ok (.aload_n 0, 1) := by decide +kernel
theorem dX5_accept_242 : decode cX5_accept 242 = .ok (.getfield 51, 3) := by decide +kernel
theorem dX5_accept_245 : decode cX5_accept 245 = .ok (.sipush 780, 3) := by decide +kernel
theorem dX5_accept_248 : decode cX5_accept 248 = .ok (.iload_n 2, 1) := by decide +kernel
theorem dX5_accept_249 : decode cX5_accept 249 = .ok (.iadd, 1) := by decide +kernel
theorem dX5_accept_250 : decode cX5_accept 250 = .ok (.iaload, 1) := by decide +kernel
theorem dX5_accept_251 : decode cX5_accept 251 = .ok (.iastore, 1) := by decide +kernel
theorem dX5_accept_252 : decode cX5_accept 252 = .ok (.iinc 2 1, 3) := by decide +kernel
theorem dX5_accept_255 : decode cX5_accept 255 = .ok (.goto (-77), 3) := by decide +kernel
theorem dX5_accept_258 : decode cX5_accept 258 = .ok (.return_, 1) := by decide +kernel
theorem dX5_module_0 : decode cX5_module 0 = .ok (.aload_n 0, 1) := by decide +kernel
theorem dX5_module_1 : decode cX5_module 1 = .ok (.iconst 1, 1) := by decide +kernel
theorem dX5_module_2 : decode cX5_module 2 = .ok (.putfield 116, 3) := by decide +kernel
theorem dX5_module_5 : decode cX5_module 5 = .ok (.aload_n 0, 1) := by decide +kernel
theorem dX5_module_6 : decode cX5_module 6 = .ok (.iconst 0, 1) := by decide +kernel
theorem dX5_module_7 : decode cX5_module 7 = .ok (.putfield 113, 3) := by decide +kernel
theorem dX5_module_10 : decode cX5_module 10 = .ok (.aload_n 0, 1) := by decide +kernel
theorem dX5_module_11 : decode cX5_module 11 = .ok (.getfield 17, 3) := by decide +kernel
theorem dX5_module_14 : decode cX5_module 14 = .ok (.bipush 6, 2) := by decide +kernel
theorem dX5_module_16 : decode cX5_module 16 = .ok (.iconst 0, 1) := by decide +kernel
theorem dX5_module_17 : decode cX5_module 17 = .ok (.iastore, 1) := by decide +kernel
theorem dX5_module_18 : decode cX5_module 18 = .ok (.aload_n 0, 1) := by decide +kernel
theorem dX5_module_19 : decode cX5_module 19 = .ok (.bipush 65, 2) := by decide +kernel
theorem dX5_module_21 : decode cX5_module 21 = .ok (.bipush 70, 2) := by decide +kernel
theorem dX5_module_23 : decode cX5_module 23 = .ok (.invokevirtual 165, 3) := by decide +kernel
theorem dX5_module_26 : decode cX5_module 26 = .ok (.istore_n 1, 1) := by decide +kernel
theorem dX5_module_27 : decode cX5_module 27 = .ok (.aload_n 0, 1) := by decide +kernel
theorem dX5_module_28 : decode cX5_module 28 = .ok (.getfield 116, 3) := by decide +kernel
theorem dX5_module_31 : decode cX5_module 31 = .ok (.ifCond .eq 8, 3) := by decide +kernel
theorem dX5_module_34 : decode cX5_module 34 = .ok (.aload_n 0, 1) := by decide +kernel
theorem dX5_module_35 : decode cX5_module 35 = .ok (.iconst 1, 1) := by decide +kernel
theorem dX5_module_36 : decode cX5_module 36 = .ok (.invokevirtual 240, 3) := by decide +kernel
theorem dX5_module_39 : decode cX5_module 39 = .ok (.aload_n 0, 1) := by decide +kernel
theorem dX5_module_40 : decode cX5_module 40 = .ok (.iconst 1, 1) := by decide +kernel
theorem dX5_module_41 : decode cX5_module 41 = .ok (.putfield 120, 3) := by decide +kernel
theorem dX5_module_44 : decode cX5_module 44 = .ok (.aload_n 0, 1) := by decide +kernel
theorem dX5_module_45 : decode cX5_module 45 = .ok (.getfield 116, 3) := by decide +kernel
theorem dX5_module_48 : decode cX5_module 48 = .ok (.ifCond .eq 8, 3) := by decide +kernel
theorem dX5_module_51 : decode cX5_module 51 = .ok (.aload_n 0, 1) := by decide +kernel
theorem dX5_module_52 : decode cX5_module 52 = .ok (.iconst 0, 1) := by decide +kernel
theorem dX5_module_53 : decode cX5_module 53 = .ok (.invokevirtual 240, 3) := by decide +kernel
theorem dX5_module_56 : decode cX5_module 56 = .ok (.aload_n 0, 1) := by decide +kernel
theorem dX5_module_57 : decode cX5_module 57 = .ok (.iconst 0, 1) := by decide +kernel
theorem dX5_module_58 : decode cX5_module 58 = .ok (.putfield 110, 3) := by decide +kernel
theorem dX5_module_61 : decode cX5_module 61 = .ok (.aload_n 0, 1) := by decide +kernel
theorem dX5_module_62 : decode cX5_module 62 = .ok (.aload_n 0, 1) := by decide +kernel
theorem dX5_module_63 : decode cX5_module 63 = .ok (.getfield 116, 3) := by decide +kernel
theorem dX5_module_66 : decode cX5_module 66 = .ok (.ifCond .ne 7, 3) := by decide +kernel
theorem dX5_module_69 : decode cX5_module 69 = .ok (.iconst 1, 1) := by decide +kernel
theorem dX5_module_70 : decode cX5_module 70 = .ok (.goto 15, 3) := by decide +kernel
theorem dX5_module_73 : decode cX5_module 73 = .ok (.aload_n 0, 1) := by decide +kernel
theorem dX5_module_74 : decode cX5_module 74 = .ok (.getfield 120, 3) := by decide +kernel
theorem dX5_module_77 : decode cX5_module 77 = .ok (.ifCond .eq 7, 3) := by decide +kernel
theorem dX5_module_80 : decode cX5_module 80 = .ok (.iconst 0, 1) := by decide +kernel
theorem dX5_module_81 : decode cX5_module 81 = .ok (.goto 4, 3) := by decide +kernel
theorem dX5_module_84 : decode cX5_module 84 = .ok (.iconst 2, 1) := by decide +kernel
theorem dX5_module_85 : decode cX5_module 85 = .ok (.putfield 243, 3) := by decide +kernel
theorem dX5_module_88 : decode cX5_module 88 = .ok (.aload_n 0, 1) := by decide +kernel
theorem dX5_module_89 : decode cX5_module 89 = .ok (.getfield 243, 3) := by decide +kernel
theorem dX5_module_92 : decode cX5_module 92 = .ok (.ifCond .le 9, 3) := by decide +kernel
theorem dX5_module_95 : decode cX5_module 95 = .ok (.aload_n 0, 1) := by decide +kernel
theorem dX5_module_96 : decode cX5_module 96 = .ok (.iconst 1, 1) := by decide +kernel
theorem dX5_module_97 : decode cX5_module 97 = .ok (.invokevirtual 246, 3) := by decide +kernel
theorem dX5_module_100 : decode cX5_module 100 = .ok (.ireturn, 1) := by decide +kernel
theorem dX5_module_101 : decode cX5_module 101 = .ok (.aload_n 0, 1) := by decide +kernel
theorem dX5_module_102 : decode cX5_module 102 = .ok (.iconst 0, 1) := by decide +kernel
theorem dX5_module_103 : decode cX5_module 103 = .ok (.putfield 103, 3) := by decide +kernel
theorem dX5_module_106 : decode cX5_module 106 = .ok (.aload_n 0, 1) := by decide +kernel
theorem dX5_module_107 : decode cX5_module 107 = .ok (.iload_n 1, 1) := by decide +kernel
theorem dX5_module_108 : decode cX5_module 108 = .ok (.invokevirtual 250, 3) := by decide +kernel
theorem dX5_module_111 : decode cX5_module 111 = .ok (.aload_n 0, 1) := by decide +kernel
theorem dX5_module_112 : decode cX5_module 112 = .ok (.iconst 0, 1) := by decide +kernel
theorem dX5_module_113 : decode cX5_module 113 = .ok (.putfield 253, 3) := by decide +kernel
theorem dX5_module_116 : decode cX5_module 116 = .ok (.iload_n 1, 1) := by decide +kernel
theorem dX5_module_117 : decode cX5_module 117 = .ok (.ireturn, 1) := by decide +kernel
theorem dX5_fault_0 : decode cX5_fault 0 = .ok (.aload_n 0, 1) := by decide +kernel
theorem dX5_fault_1 : decode cX5_fault 1 = .ok (.iconst 0, 1) := by decide +kernel
theorem dX5_fault_2 : decode cX5_fault 2 = .ok (.putfield 103, 3) := by decide +kernel
theorem dX5_fault_5 : decode cX5_fault 5 = .ok (.aload_n 0, 1) := by decide +kernel
theorem dX5_fault_6 : decode cX5_fault 6 = .ok (.getfield 243, 3) := by decide +kernel
theorem dX5_fault_9 : decode cX5_fault 9 = .ok (.ireturn, 1) := by decide +kernel
theorem dX5_isModule_0 : decode cX5_isModule 0 = .ok (.iload_n 1, 1) := by decide +kernel
theorem dX5_isModule_1 : decode cX5_isModule 1 = .ok (.iconst 0, 1) := by decide +kernel
theorem dX5_isModule_2 : decode cX5_isModule 2 = .ok (.iconst 5, 1) := by decide +kernel
theorem dX5_isModule_3 : decode cX5_isModule 3 = .ok (.invokestatic 106, 3) := by decide +kernel
theorem dX5_isModule_6 : decode cX5_isModule 6 = .ok (.ifCond .ne 16, 3) := by decide +kernel
theorem dX5_isModule_9 : decode cX5_isModule 9 = .ok (.aload_n 0, 1) := by decide +kernel
theorem dX5_isModule_10 : decode cX5_isModule 10 = .ok (.getfield 13, 3) := by decide +kernel
theorem dX5_isModule_13 : decode cX5_isModule 13 = .ok (.iload_n 1, 1) := by decide +kernel
theorem dX5_isModule_14 : decode cX5_isModule 14 = .ok (.baload, 1) := by decide +kernel
theorem dX5_isModule_15 : decode cX5_isModule 15 = .ok (.ifCond .eq 7, 3) := by decide +kernel
theorem dX5_isModule_18 : decode cX5_isModule 18 = .ok (.iconst 1, 1) := by decide +kernel
theorem dX5_isModule_19 : decode cX5_isModule 19 = .ok (.goto 4, 3) := by decide +kernel
theorem dX5_isModule_22 : decode cX5_isModule 22 = .ok (.iconst 0, 1) := by decide +kernel
theorem dX5_isModule_23 : decode cX5_isModule 23 = .ok (.ireturn, 1) := by decide +kernel
theorem dX5_drop_0 : decode cX5_drop 0 = .ok (.aload_n 0, 1) := by decide +kernel
theorem dX5_drop_1 : decode cX5_drop 1 = .ok (.aload_n 0, 1) := by decide +kernel
theorem dX5_drop_2 : decode cX5_drop 2 = .ok (.iload_n 1, 1) := by decide +kernel
theorem dX5_drop_3 : decode cX5_drop 3 = .ok (.invokevirtual 256, 3) := by decide +kernel
theorem dX5_drop_6 : decode cX5_drop 6 = .ok (.ifCond .eq 7, 3) := by decide +kernel
theorem dX5_drop_9 : decode cX5_drop 9 = .ok (.iconst 0, 1) := by decide +kernel
theorem dX5_drop_10 : decode cX5_drop 10 = .ok (.goto 4, 3) := by decide +kernel
theorem dX5_drop_13 : decode cX5_drop 13 = .ok (.iconst 1, 1) := by decide +kernel
theorem dX5_drop_14 : decode cX5_drop 14 = .ok (.putfield 103, 3) := by decide +kernel
theorem dX5_drop_17 : decode cX5_drop 17 = .ok (.aload_n 0, 1) := by decide +kernel
theorem dX5_drop_18 : decode cX5_drop 18 = .ok (.getfield 103, 3) := by decide +kernel
theorem dX5_drop_21 : decode cX5_drop 21 = .ok (.ifCond .le 4, 3) := by decide +kernel
theorem dX5_drop_24 : decode cX5_drop 24 = .ok (.return_, 1) := by decide +kernel
theorem dX5_drop_25 : decode cX5_drop 25 = .ok (.aload_n 0, 1) := by decide +kernel
theorem dX5_drop_26 : decode cX5_drop 26 = .ok (.getfield 13, 3) := by decide +kernel
theorem dX5_drop_29 : decode cX5_drop 29 = .ok (.iload_n 1, 1) := by decide +kernel
theorem dX5_drop_30 : decode cX5_drop 30 = .ok (.iconst 0, 1) := by decide +kernel
theorem dX5_drop_31 : decode cX5_drop 31 = .ok (.bastore, 1) := by decide +kernel
theorem dX5_drop_32 : decode cX5_drop 32 = .ok (.aload_n 0, 1) := by decide +kernel
theorem dX5_drop_33 : decode cX5_drop 33 = .ok (.iconst 0, 1) := by decide +kernel
theorem dX5_drop_34 : decode cX5_drop 34 = .ok (.putfield 253, 3) := by decide +kernel
theorem dX5_drop_37 : decode cX5_drop 37 = .ok (.return_, 1) := by decide +kernel
theorem dX5_meant_0 : decode cX5_meant 0 = .ok (.aload_n 0, 1) := by decide +kernel
theorem dX5_meant_1 : decode cX5_meant 1 = .ok (.getfield 13, 3) := by decide +kernel
theorem dX5_meant_4 : decode cX5_meant 4 = .ok (.aload_n 0, 1) := by decide +kernel
theorem dX5_meant_5 : decode cX5_meant 5 = .ok (.getfield 24, 3) := by decide +kernel
theorem dX5_meant_8 : decode cX5_meant 8 = .ok (.iload_n 1, 1) := by decide +kernel
theorem dX5_meant_9 : decode cX5_meant 9 = .ok (.iaload, 1) := by decide +kernel
theorem dX5_meant_10 : decode cX5_meant 10 = .ok (.baload, 1) := by decide +kernel
theorem dX5_meant_11 : decode cX5_meant 11 = .ok (.ifCond .eq 23, 3) := by decide +kernel
theorem dX5_meant_14 : decode cX5_meant 14 = .ok (.aload_n 0, 1) := by decide +kernel
theorem dX5_meant_15 : decode cX5_meant 15 = .ok (.aload_n 0, 1) := by decide +kernel
theorem dX5_meant_16 : decode cX5_meant 16 = .ok (.getfield 24, 3) := by decide +kernel
theorem dX5_meant_19 : decode cX5_meant 19 = .ok (.iload_n 1, 1) := by decide +kernel
theorem dX5_meant_20 : decode cX5_meant 20 = .ok (.iaload, 1) := by decide +kernel
theorem dX5_meant_21 : decode cX5_meant 21 = .ok (.aload_n 0, 1) := by decide +kernel
theorem dX5_meant_22 : decode cX5_meant 22 = .ok (.getfield 21, 3) := by decide +kernel
theorem dX5_meant_25 : decode cX5_meant 25 = .ok (.iload_n 1, 1) := by decide +kernel
theorem dX5_meant_26 : decode cX5_meant 26 = .ok (.iaload, 1) := by decide +kernel
theorem dX5_meant_27 : decode cX5_meant 27 = .ok (.iconst (-1), 1) := by decide +kernel
theorem dX5_meant_28 : decode cX5_meant 28 = .ok (.invokevirtual 183, 3) := by decide +kernel
theorem dX5_meant_31 : decode cX5_meant 31 = .ok (.goto 4, 3) := by decide +kernel
theorem dX5_meant_34 : decode cX5_meant 34 = .ok (.iconst (-1), 1) := by decide +kernel
theorem dX5_meant_35 : decode cX5_meant 35 = .ok (.istore_n 2, 1) := by decide +kernel
theorem dX5_meant_36 : decode cX5_meant 36 = .ok (.iload_n 2, 1) := by decide +kernel
theorem dX5_meant_37 : decode cX5_meant 37 = .ok (.iconst (-1), 1) := by decide +kernel
theorem dX5_meant_38 : decode cX5_meant 38 = .ok (.if_icmp .eq 42, 3) := by decide +kernel
theorem dX5_meant_41 : decode cX5_meant 41 = .ok (.aload_n 0, 1) := by decide +kernel
theorem dX5_meant_42 : decode cX5_meant 42 = .ok (.getfield 27, 3) := by decide +kernel
theorem dX5_meant_45 : decode cX5_meant 45 = .ok (.iload_n 2, 1) := by decide +kernel
theorem dX5_meant_46 : decode cX5_meant 46 = .ok (.baload, 1) := by decide +kernel
theorem dX5_meant_47 : decode cX5_meant 47 = .ok (.ifCond .eq 33, 3) := by decide +kernel
theorem dX5_meant_50 : decode cX5_meant 50 = .ok (.aload_n 0, 1) := by decide +kernel
theorem dX5_meant_51 : decode cX5_meant 51 = .ok (.getfield 30, 3) := by decide +kernel
theorem dX5_meant_54 : decode cX5_meant 54 = .ok (.iload_n 2, 1) := by decide +kernel
theorem dX5_meant_55 : decode cX5_meant 55 = .ok (.iaload, 1) := by decide +kernel
theorem dX5_meant_56 : decode cX5_meant 56 = .ok (.aload_n 0, 1) := by decide +kernel
theorem dX5_meant_57 : decode cX5_meant 57 = .ok (.getfield 30, 3) := by decide +kernel
theorem dX5_meant_60 : decode cX5_meant 60 = .ok (.iload_n 1, 1) := by decide +kernel
theorem dX5_meant_61 : decode cX5_meant 61 = .ok (.iaload, 1) := by decide +kernel
theorem dX5_meant_62 : decode cX5_meant 62 = .ok (.if_icmp .ne 18, 3) := by decide +kernel
theorem dX5_meant_65 : decode cX5_meant 65 = .ok (.aload_n 0, 1) := by decide +kernel
theorem dX5_meant_66 : decode cX5_meant 66 = .ok (.getfield 36, 3) := by decide +kernel
theorem dX5_meant_69 : decode cX5_meant 69 = .ok (.iload_n 2, 1) := by decide +kernel
theorem dX5_meant_70 : decode cX5_meant 70 = .ok (.baload, 1) := by decide +kernel
theorem dX5_meant_71 : decode cX5_meant 71 = .ok (.aload_n 0, 1) := by decide +kernel
theorem dX5_meant_72 : decode cX5_meant 72 = .ok (.getfield 36, 3) := by decide +kernel
theorem dX5_meant_75 : decode cX5_meant 75 = .ok (.iload_n 1, 1) := by decide +kernel
theorem dX5_meant_76 : decode cX5_meant 76 = .ok (.baload, 1) := by decide +kernel
theorem dX5_meant_77 : decode cX5_meant 77 = .ok (.if_icmp .eq 5, 3) := by decide +kernel
theorem dX5_meant_80 : decode cX5_meant 80 = .ok (.iconst (-1), 1) := by decide +kernel
theorem dX5_meant_81 : decode cX5_meant 81 = .ok (.ireturn, 1) := by decide +kernel
theorem dX5_meant_82 : decode cX5_meant 82 = .ok (.iconst 1, 1) := by decide +kernel
theorem dX5_meant_83 : decode cX5_meant 83 = .ok (.istore_n 3, 1) := by decide +kernel
theorem dX5_meant_84 : decode cX5_meant 84 = .ok (.iconst 0, 1) := by decide +kernel
theorem dX5_meant_85 : decode cX5_meant 85 = .ok (.istore 4, 2) := by decide +kernel
theorem dX5_meant_87 : decode cX5_meant 87 = .ok (.iload 4, 2) := by decide +kernel
theorem dX5_meant_89 : decode cX5_meant 89 = .ok (.aload_n 0, 1) := by decide +kernel
theorem dX5_meant_90 : decode cX5_meant 90 = .ok (.getfield 30, 3) := by decide +kernel
theorem dX5_meant_93 : decode cX5_meant 93 = .ok (.iload_n 1, 1) := by decide +kernel
theorem dX5_meant_94 : decode cX5_meant 94 = .ok (.iaload, 1) := by decide +kernel
theorem dX5_meant_95 : decode cX5_meant 95 = .ok (.if_icmp .ge 44, 3) := by decide +kernel
theorem dX5_meant_98 : decode cX5_meant 98 = .ok (.iload_n 3, 1) := by decide +kernel
theorem dX5_meant_99 : decode cX5_meant 99 = .ok (.ifCond .eq 32, 3) := by decide +kernel
theorem dX5_meant_102 : decode cX5_meant 102 = .ok (.aload_n 0, 1) := by decide +kernel
theorem dX5_meant_103 : decode cX5_meant 103 = .ok (.getfield 33, 3) := by decide +kernel
theorem dX5_meant_106 : decode cX5_meant 106 = .ok (.iconst 3, 1) := by decide +kernel
theorem dX5_meant_107 : decode cX5_meant 107 = .ok (.iload_n 2, 1) := by decide +kernel
theorem dX5_meant_108 : decode cX5_meant 108 = .ok (.imul, 1) := by decide +kernel
theorem dX5_meant_109 : decode cX5_meant 109 = .ok (.iload 4, 2) := by decide +kernel
theorem dX5_meant_111 : decode cX5_meant 111 = .ok (.iadd, 1) := by decide +kernel
theorem dX5_meant_112 : decode cX5_meant 112 = .ok (.baload, 1) := by decide +kernel
theorem dX5_meant_113 : decode cX5_meant 113 = .ok (.aload_n 0, 1) := by decide +kernel
theorem dX5_meant_114 : decode cX5_meant 114 = .ok (.getfield 33, 3) := by decide +kernel
theorem dX5_meant_117 : decode cX5_meant 117 = .ok (.iconst 3, 1) := by decide +kernel
theorem dX5_meant_118 : decode cX5_meant 118 = .ok (.iload_n 1, 1) := by decide +kernel
theorem dX5_meant_119 : decode cX5_meant 119 = .ok (.imul, 1) := by decide +kernel
theorem dX5_meant_120 : decode cX5_meant 120 = .ok (.iload 4, 2) := by decide +kernel
theorem dX5_meant_122 : decode cX5_meant 122 = .ok (.iadd, 1) := by decide +kernel
theorem dX5_meant_123 : decode cX5_meant 123 = .ok (.baload, 1) := by decide +kernel
theorem dX5_meant_124 : decode cX5_meant 124 = .ok (.if_icmp .ne 7, 3) := by decide +kernel
theorem dX5_meant_127 : decode cX5_meant 127 = .ok (.iconst 1, 1) := by decide +kernel
theorem dX5_meant_128 : decode cX5_meant 128 = .ok (.goto 4, 3) := by decide +kernel
theorem dX5_meant_131 : decode cX5_meant 131 = .ok (.iconst 0, 1) := by decide +kernel
theorem dX5_meant_132 : decode cX5_meant 132 = .ok (.istore_n 3, 1) := by decide +kernel
theorem dX5_meant_133 : decode cX5_meant 133 = .ok (.iinc 4 1, 3) := by decide +kernel
theorem dX5_meant_136 : decode cX5_meant 136 = .ok (.goto (-49), 3) := by decide +kernel
theorem dX5_meant_139 : decode cX5_meant 139 = .ok (.iload_n 3, 1) := by decide +kernel
theorem dX5_meant_140 : decode cX5_meant 140 = .ok (.ifCond .eq 7, 3) := by decide +kernel
theorem dX5_meant_143 : decode cX5_meant 143 = .ok (.iload_n 2, 1) := by decide +kernel
theorem dX5_meant_144 : decode cX5_meant 144 = .ok (.goto 4, 3) := by decide +kernel
theorem dX5_meant_147 : decode cX5_meant 147 = .ok (.iconst (-1), 1) := by decide +kernel
theorem dX5_meant_148 : decode cX5_meant 148 = .ok (.ireturn, 1) := by decide +kernel
theorem dX5_link_0 : decode cX5_link 0 = .ok (.iconst 0, 1) := by decide +kernel
theorem dX5_link_1 : decode cX5_link 1 = .ok (.istore_n 1, 1) := by decide +kernel
theorem dX5_link_2 : decode cX5_link 2 = .ok (.iconst 0, 1) := by decide +kernel
theorem dX5_link_3 : decode cX5_link 3 = .ok (.istore_n 2, 1) := by decide +kernel
theorem dX5_link_4 : decode cX5_link 4 = .ok (.iconst 0, 1) := by decide +kernel
theorem dX5_link_5 : decode cX5_link 5 = .ok (.istore_n 3, 1) := by decide +kernel
theorem dX5_link_6 : decode cX5_link 6 = .ok (.iload_n 3, 1) := by decide +kernel
theorem dX5_link_7 : decode cX5_link 7 = .ok (.bipush 6, 2) := by decide +kernel
theorem dX5_link_9 : decode cX5_link 9 = .ok (.if_icmp .ge 26, 3) := by decide +kernel
theorem dX5_link_12 : decode cX5_link 12 = .ok (.aload_n 0, 1) := by decide +kernel
theorem dX5_link_13 : decode cX5_link 13 = .ok (.getfield 13, 3) := by decide +kernel
theorem dX5_link_16 : decode cX5_link 16 = .ok (.iload_n 3, 1) := by decide +kernel
theorem dX5_link_17 : decode cX5_link 17 = .ok (.baload, 1) := by decide +kernel
theorem dX5_link_18 : decode cX5_link 18 = .ok (.ifCond .eq 9, 3) := by decide +kernel
theorem dX5_link_21 : decode cX5_link 21 = .ok (.iload_n 1, 1) := by decide +kernel
theorem dX5_link_22 : decode cX5_link 22 = .ok (.iconst 1, 1) := by decide +kernel
theorem dX5_link_23 : decode cX5_link 23 = .ok (.iadd, 1) := by decide +kernel
theorem dX5_link_24 : decode cX5_link 24 = .ok (.goto 4, 3) := by decide +kernel
theorem dX5_link_27 : decode cX5_link 27 = .ok (.iload_n 1, 1) := by decide +kernel
theorem dX5_link_28 : decode cX5_link 28 = .ok (.istore_n 1, 1) := by decide +kernel
theorem dX5_link_29 : decode cX5_link 29 = .ok (.iinc 3 1, 3) := by decide +kernel
theorem dX5_link_32 : decode cX5_link 32 = .ok (.goto (-26), 3) := by decide +kernel
theorem dX5_link_35 : decode cX5_link 35 = .ok (.iload_n 1, 1) := by decide +kernel
theorem dX5_link_36 : decode cX5_link 36 = .ok (.ifCond .ne 9, 3) := by decide +kernel
theorem dX5_link_39 : decode cX5_link 39 = .ok (.aload_n 0, 1) := by decide +kernel
theorem dX5_link_40 : decode cX5_link 40 = .ok (.iconst 1, 1) := by decide +kernel
theorem dX5_link_41 : decode cX5_link 41 = .ok (.invokevirtual 246, 3) := by decide +kernel
theorem dX5_link_44 : decode cX5_link 44 = .ok (.ireturn, 1) := by decide +kernel
theorem dX5_link_45 : decode cX5_link 45 = .ok (.aload_n 0, 1) := by decide +kernel
theorem dX5_link_46 : decode cX5_link 46 = .ok (.iconst (-1), 1) := by decide +kernel
theorem dX5_link_47 : decode cX5_link 47 = .ok (.putfield 75, 3) := by decide +kernel
theorem dX5_link_50 : decode cX5_link 50 = .ok (.aload_n 0, 1) := by decide +kernel
theorem dX5_link_51 : decode cX5_link 51 = .ok (.iconst (-1), 1) := by decide +kernel
theorem dX5_link_52 : decode cX5_link 52 = .ok (.putfield 79, 3) := by decide +kernel
theorem dX5_link_55 : decode cX5_link 55 = .ok (.iconst 0, 1) := by decide +kernel
theorem dX5_link_56 : decode cX5_link 56 = .ok (.istore_n 3, 1) := by decide +kernel
theorem dX5_link_57 : decode cX5_link 57 = .ok (.iload_n 3, 1) := by decide +kernel
theorem dX5_link_58 : decode cX5_link 58 = .ok (.bipush 36, 2) := by decide +kernel
theorem dX5_link_60 : decode cX5_link 60 = .ok (.if_icmp .ge 137, 3) := by decide +kernel
theorem dX5_link_63 : decode cX5_link 63 = .ok (.aload_n 0, 1) := by decide +kernel
theorem dX5_link_64 : decode cX5_link 64 = .ok (.getfield 13, 3) := by decide +kernel
theorem dX5_link_67 : decode cX5_link 67 = .ok (.iload_n 3, 1) := by decide +kernel
theorem dX5_link_68 : decode cX5_link 68 = .ok (.bipush 6, 2) := by decide +kernel
theorem dX5_link_70 : decode cX5_link 70 = .ok (.idiv, 1) := by decide +kernel
theorem dX5_link_71 : decode cX5_link 71 = .ok (.baload, 1) := by decide +kernel
theorem dX5_link_72 : decode cX5_link 72 = .ok (.ifCond .eq 119, 3) := by decide +kernel
theorem dX5_link_75 : decode cX5_link 75 = .ok (.iload_n 3, 1) := by decide +kernel
theorem dX5_link_76 : decode cX5_link 76 = .ok (.bipush 6, 2) := by decide +kernel
theorem dX5_link_78 : decode cX5_link 78 = .ok (.irem, 1) := by decide +kernel
theorem dX5_link_79 : decode cX5_link 79 = .ok (.aload_n 0, 1) := by decide +kernel
theorem dX5_link_80 : decode cX5_link 80 = .ok (.getfield 17, 3) := by decide +kernel
theorem dX5_link_83 : decode cX5_link 83 = .ok (.iload_n 3, 1) := by decide +kernel
theorem dX5_link_84 : decode cX5_link 84 = .ok (.bipush 6, 2) := by decide +kernel
theorem dX5_link_86 : decode cX5_link 86 = .ok (.idiv, 1) := by decide +kernel
theorem dX5_link_87 : decode cX5_link 87 = .ok (.iaload, 1) := by decide +kernel
theorem dX5_link_88 : decode cX5_link 88 = .ok (.if_icmp .ge 103, 3) := by decide +kernel
theorem dX5_link_91 : decode cX5_link 91 = .ok (.aload_n 0, 1) := by decide +kernel
theorem dX5_link_92 : decode cX5_link 92 = .ok (.getfield 24, 3) := by decide +kernel
theorem dX5_link_95 : decode cX5_link 95 = .ok (.iload_n 3, 1) := by decide +kernel
theorem dX5_link_96 : decode cX5_link 96 = .ok (.iaload, 1) := by decide +kernel
theorem dX5_link_97 : decode cX5_link 97 = .ok (.iconst (-1), 1) := by decide +kernel
theorem dX5_link_98 : decode cX5_link 98 = .ok (.if_icmp .eq 16, 3) := by decide +kernel
theorem dX5_link_101 : decode cX5_link 101 = .ok (.aload_n 0, 1) := by decide +kernel
theorem dX5_link_102 : decode cX5_link 102 = .ok (.iload_n 3, 1) := by decide +kernel
theorem dX5_link_103 : decode cX5_link 103 = .ok (.invokevirtual 260, 3) := by decide +kernel
theorem dX5_link_106 : decode cX5_link 106 = .ok (.iconst (-1), 1) := by decide +kernel
theorem dX5_link_107 : decode cX5_link 107 = .ok (.if_icmp .ne 7, 3) := by decide +kernel
theorem dX5_link_110 : decode cX5_link 110 = .ok (.iconst 1, 1) := by decide +kernel
theorem dX5_link_111 : decode cX5_link 111 = .ok (.goto 4, 3) := by decide +kernel
theorem dX5_link_114 : decode cX5_link 114 = .ok (.iconst 0, 1) := by decide +kernel
theorem dX5_link_115 : decode cX5_link 115 = .ok (.istore 4, 2) := by decide +kernel
theorem dX5_link_117 : decode cX5_link 117 = .ok (.aload_n 0, 1) := by decide +kernel
theorem dX5_link_118 : decode cX5_link 118 = .ok (.getfield 24, 3) := by decide +kernel
theorem dX5_link_121 : decode cX5_link 121 = .ok (.iload_n 3, 1) := by decide +kernel
theorem dX5_link_122 : decode cX5_link 122 = .ok (.iaload, 1) := by decide +kernel
theorem dX5_link_123 : decode cX5_link 123 = .ok (.iconst (-1), 1) := by decide +kernel
theorem dX5_link_124 : decode cX5_link 124 = .ok (.if_icmp .ne 9, 3) := by decide +kernel
theorem dX5_link_127 : decode cX5_link 127 = .ok (.iload_n 2, 1) := by decide +kernel
theorem dX5_link_128 : decode cX5_link 128 = .ok (.iconst 1, 1) := by decide +kernel
theorem dX5_link_129 : decode cX5_link 129 = .ok (.iadd, 1) := by decide +kernel
theorem dX5_link_130 : decode cX5_link 130 = .ok (.goto 4, 3) := by decide +kernel
theorem dX5_link_133 : decode cX5_link 133 = .ok (.iload_n 2, 1) := by decide +kernel
theorem dX5_link_134 : decode cX5_link 134 = .ok (.istore_n 2, 1) := by decide +kernel
theorem dX5_link_135 : decode cX5_link 135 = .ok (.aload_n 0, 1) := by decide +kernel
theorem dX5_link_136 : decode cX5_link 136 = .ok (.iload 4, 2) := by decide +kernel
theorem dX5_link_138 : decode cX5_link 138 = .ok (.ifCond .eq 18, 3) := by decide +kernel
theorem dX5_link_141 : decode cX5_link 141 = .ok (.aload_n 0, 1) := by decide +kernel
theorem dX5_link_142 : decode cX5_link 142 = .ok (.getfield 75, 3) := by decide +kernel
theorem dX5_link_145 : decode cX5_link 145 = .ok (.iconst (-1), 1) := by decide +kernel
theorem dX5_link_146 : decode cX5_link 146 = .ok (.if_icmp .ne 10, 3) := by decide +kernel
theorem dX5_link_149 : decode cX5_link 149 = .ok (.iload_n 3, 1) := by decide +kernel
theorem dX5_link_150 : decode cX5_link 150 = .ok (.bipush 6, 2) := by decide +kernel
theorem dX5_link_152 : decode cX5_link 152 = .ok (.irem, 1) := by decide +kernel
theorem dX5_link_153 : decode cX5_link 153 = .ok (.goto 7, 3) := by decide +kernel
theorem dX5_link_156 : decode cX5_link 156 = .ok (.aload_n 0, 1) := by decide +kernel
theorem dX5_link_157 : decode cX5_link 157 = .ok (.getfield 79, 3) := by decide +kernel
theorem dX5_link_160 : decode cX5_link 160 = .ok (.putfield 79, 3) := by decide +kernel
theorem dX5_link_163 : decode cX5_link 163 = .ok (.aload_n 0, 1) := by decide +kernel
theorem dX5_link_164 : decode cX5_link 164 = .ok (.iload 4, 2) := by decide +kernel
theorem dX5_link_166 : decode cX5_link 166 = .ok (.ifCond .eq 18, 3) := by decide +kernel
theorem dX5_link_169 : decode cX5_link 169 = .ok (.aload_n 0, 1) := by decide +kernel
theorem dX5_link_170 : decode cX5_link 170 = .ok (.getfield 75, 3) := by decide +kernel
theorem dX5_link_173 : decode cX5_link 173 = .ok (.iconst (-1), 1) := by decide +kernel
theorem dX5_link_174 : decode cX5_link 174 = .ok (.if_icmp .ne 10, 3) := by decide +kernel
theorem dX5_link_177 : decode cX5_link 177 = .ok (.iload_n 3, 1) := by decide +kernel
theorem dX5_link_178 : decode cX5_link 178 = .ok (.bipush 6, 2) := by decide +kernel
theorem dX5_link_180 : decode cX5_link 180 = .ok (.idiv, 1) := by decide +kernel
theorem dX5_link_181 : decode cX5_link 181 = .ok (.goto 7, 3) := by decide +kernel
theorem dX5_link_184 : decode cX5_link 184 = .ok (.aload_n 0, 1) := by decide +kernel
theorem dX5_link_185 : decode cX5_link 185 = .ok (.getfield 75, 3) := by decide +kernel
theorem dX5_link_188 : decode cX5_link 188 = .ok (.putfield 75, 3) := by decide +kernel
theorem dX5_link_191 : decode cX5_link 191 = .ok (.iinc 3 1, 3) := by decide +kernel
theorem dX5_link_194 : decode cX5_link 194 = .ok (.goto (-137), 3) := by decide +kernel
theorem dX5_link_197 : decode cX5_link 197 = .ok (.aload_n 0, 1) := by decide +kernel
theorem dX5_link_198 : decode cX5_link 198 = .ok (.aload_n 0, 1) := by decide +kernel
theorem dX5_link_199 : decode cX5_link 199 = .ok (.getfield 75, 3) := by decide +kernel
theorem dX5_link_202 : decode cX5_link 202 = .ok (.iconst (-1), 1) := by decide +kernel
theorem dX5_link_203 : decode cX5_link 203 = .ok (.if_icmp .ne 7, 3) := by decide +kernel
theorem dX5_link_206 : decode cX5_link 206 = .ok (.iconst 1, 1) := by decide +kernel
theorem dX5_link_207 : decode cX5_link 207 = .ok (.goto 4, 3) := by decide +kernel
theorem dX5_link_210 : decode cX5_link 210 = .ok (.iconst 0, 1) := by decide +kernel
theorem dX5_link_211 : decode cX5_link 211 = .ok (.putfield 253, 3) := by decide +kernel
theorem dX5_link_214 : decode cX5_link 214 = .ok (.aload_n 0, 1) := by decide +kernel
theorem dX5_link_215 : decode cX5_link 215 = .ok (.getfield 253, 3) := by decide +kernel
theorem dX5_link_218 : decode cX5_link 218 = .ok (.ifCond .ne 9, 3) := by decide +kernel
theorem dX5_link_221 : decode cX5_link 221 = .ok (.aload_n 0, 1) := by decide +kernel
theorem dX5_link_222 : decode cX5_link 222 = .ok (.iconst 2, 1) := by decide +kernel
theorem dX5_link_223 : decode cX5_link 223 = .ok (.invokevirtual 246, 3) := by decide +kernel
theorem dX5_link_226 : decode cX5_link 226 = .ok (.ireturn, 1) := by decide +kernel
theorem dX5_link_227 : decode cX5_link 227 = .ok (.aload_n 0, 1) := by decide +kernel
theorem dX5_link_228 : decode cX5_link 228 = .ok (.iconst 0, 1) := by decide +kernel
theorem dX5_link_229 : decode cX5_link 229 = .ok (.putfield 103, 3) := by decide +kernel
theorem dX5_link_232 : decode cX5_link 232 = .ok (.iload_n 2, 1) := by decide +kernel
theorem dX5_link_233 : decode cX5_link 233 = .ok (.ireturn, 1) := by decide +kernel
theorem dX5_unfit_0 : decode cX5_unfit 0 = .ok (.aload_n 0, 1) := by decide +kernel
theorem dX5_unfit_1 : decode cX5_unfit 1 = .ok (.iconst 0, 1) := by decide +kernel
theorem dX5_unfit_2 : decode cX5_unfit 2 = .ok (.putfield 103, 3) := by decide +kernel
theorem dX5_unfit_5 : decode cX5_unfit 5 = .ok (.iload_n 1, 1) := by decide +kernel
theorem dX5_unfit_6 : decode cX5_unfit 6 = .ok (.ifCond .ne 10, 3) := by decide +kernel
theorem dX5_unfit_9 : decode cX5_unfit 9 = .ok (.aload_n 0, 1) := by decide +kernel
theorem dX5_unfit_10 : decode cX5_unfit 10 = .ok (.getfield 75, 3) := by decide +kernel
theorem dX5_unfit_13 : decode cX5_unfit 13 = .ok (.goto 16, 3) := by decide +kernel
theorem dX5_unfit_16 : decode cX5_unfit 16 = .ok (.iload_n 1, 1) := by decide +kernel
theorem dX5_unfit_17 : decode cX5_unfit 17 = .ok (.iconst 1, 1) := by decide +kernel
theorem dX5_unfit_18 : decode cX5_unfit 18 = .ok (.if_icmp .ne 10, 3) := by decide +kernel
theorem dX5_unfit_21 : decode cX5_unfit 21 = .ok (.aload_n 0, 1) := by decide +kernel
theorem dX5_unfit_22 : decode cX5_unfit 22 = .ok (.getfield 79, 3) := by decide +kernel
theorem dX5_unfit_25 : decode cX5_unfit 25 = .ok (.goto 4, 3) := by decide +kernel
theorem dX5_unfit_28 : decode cX5_unfit 28 = .ok (.iconst (-1), 1) := by decide +kernel
theorem dX5_unfit_29 : decode cX5_unfit 29 = .ok (.ireturn, 1) := by decide +kernel
theorem dX5_about_0 : decode cX5_about 0 = .ok (.aload_n 0, 1) := by decide +kernel
theorem dX5_about_1 : decode cX5_about 1 = .ok (.iload_n 1, 1) := by decide +kernel
theorem dX5_about_2 : decode cX5_about 2 = .ok (.invokevirtual 256, 3) := by decide +kernel
theorem dX5_about_5 : decode cX5_about 5 = .ok (.ifCond .eq 13, 3) := by decide +kernel
theorem dX5_about_8 : decode cX5_about 8 = .ok (.aload_n 0, 1) := by decide +kernel
theorem dX5_about_9 : decode cX5_about 9 = .ok (.iload_n 1, 1) := by decide +kernel
theorem dX5_about_10 : decode cX5_about 10 = .ok (.iload_n 2, 1) := by decide +kernel
theorem dX5_about_11 : decode cX5_about 11 = .ok (.iconst (-1), 1) := by decide +kernel
theorem dX5_about_12 : decode cX5_about 12 = .ok (.invokevirtual 183, 3) := by decide +kernel
theorem dX5_about_15 : decode cX5_about 15 = .ok (.goto 4, 3) := by decide +kernel
theorem dX5_about_18 : decode cX5_about 18 = .ok (.iconst (-1), 1) := by decide +kernel
theorem dX5_about_19 : decode cX5_about 19 = .ok (.istore 4, 2) := by decide +kernel
theorem dX5_about_21 : decode cX5_about 21 = .ok (.iload 4, 2) := by decide +kernel
theorem dX5_about_23 : decode cX5_about 23 = .ok (.iconst (-1), 1) := by decide +kernel
theorem dX5_about_24 : decode cX5_about 24 = .ok (.if_icmp .eq 12, 3) := by decide +kernel
theorem dX5_about_27 : decode cX5_about 27 = .ok (.iload_n 3, 1) := by decide +kernel
theorem dX5_about_28 : decode cX5_about 28 = .ok (.iconst 0, 1) := by decide +kernel
theorem dX5_about_29 : decode cX5_about 29 = .ok (.iconst 3, 1) := by decide +kernel
theorem dX5_about_30 : decode cX5_about 30 = .ok (.invokestatic 106, 3) := by decide +kernel
theorem dX5_about_33 : decode cX5_about 33 = .ok (.ifCond .eq 9, 3) := by decide +kernel
theorem dX5_about_36 : decode cX5_about 36 = .ok (.aload_n 0, 1) := by decide +kernel
theorem dX5_about_37 : decode cX5_about 37 = .ok (.iconst 1, 1) := by decide +kernel
theorem dX5_about_38 : decode cX5_about 38 = .ok (.invokevirtual 246, 3) := by decide +kernel
theorem dX5_about_41 : decode cX5_about 41 = .ok (.ireturn, 1) := by decide +kernel
theorem dX5_about_42 : decode cX5_about 42 = .ok (.aload_n 0, 1) := by decide +kernel
theorem dX5_about_43 : decode cX5_about 43 = .ok (.iconst 0, 1) := by decide +kernel
theorem dX5_about_44 : decode cX5_about 44 = .ok (.putfield 103, 3) := by decide +kernel
theorem dX5_about_47 : decode cX5_about 47 = .ok (.iload_n 3, 1) := by decide +kernel
theorem dX5_about_48 : decode cX5_about 48 = .ok (.ifCond .ne 13, 3) := by decide +kernel
theorem dX5_about_51 : decode cX5_about 51 = .ok (.aload_n 0, 1) := by decide +kernel
theorem dX5_about_52 : decode cX5_about 52 = .ok (.getfield 39, 3) := by decide +kernel
theorem dX5_about_55 : decode cX5_about 55 = .ok (.iload 4, 2) := by decide +kernel
theorem dX5_about_57 : decode cX5_about 57 = .ok (.iaload, 1) := by decide +kernel
theorem dX5_about_58 : decode cX5_about 58 = .ok (.goto 55, 3) := by decide +kernel
theorem dX5_about_61 : decode cX5_about 61 = .ok (.iload_n 3, 1) := by decide +kernel
theorem dX5_about_62 : decode cX5_about 62 = .ok (.iconst 1, 1) := by decide +kernel
theorem dX5_about_63 : decode cX5_about 63 = .ok (.if_icmp .ne 21, 3) := by decide +kernel
theorem dX5_about_66 : decode cX5_about 66 = .ok (.aload_n 0, 1) := by decide +kernel
theorem dX5_about_67 : decode cX5_about 67 = .ok (.getfield 27, 3) := by decide +kernel
theorem dX5_about_70 : decode cX5_about 70 = .ok (.iload 4, 2) := by decide +kernel
theorem dX5_about_72 : decode cX5_about 72 = .ok (.baload, 1) := by decide +kernel
theorem dX5_about_73 : decode cX5_about 73 = .ok (.ifCond .eq 7, 3) := by decide +kernel
theorem dX5_about_76 : decode cX5_about 76 = .ok (.iconst 1, 1) := by decide +kernel
theorem dX5_about_77 : decode cX5_about 77 = .ok (.goto 36, 3) := by decide +kernel
theorem dX5_about_80 : decode cX5_about 80 = .ok (.iconst 0, 1) := by decide +kernel
theorem dX5_about_81 : decode cX5_about 81 = .ok (.goto 32, 3) := by decide +kernel
theorem dX5_about_84 : decode cX5_about 84 = .ok (.iload_n 3, 1) := by decide +kernel
theorem dX5_about_85 : decode cX5_about 85 = .ok (.iconst 2, 1) := by decide +kernel
theorem dX5_about_86 : decode cX5_about 86 = .ok (.if_icmp .ne 12, 3) := by decide +kernel
theorem dX5_about_89 : decode cX5_about 89 = .ok (.aload_n 0, 1) := by decide +kernel
theorem dX5_about_90 : decode cX5_about 90 = .ok (.iload 4, 2) := by decide +kernel
theorem dX5_about_92 : decode cX5_about 92 = .ok (.invokevirtual 263, 3) := by decide +kernel
theorem dX5_about_95 : decode cX5_about 95 = .ok (.goto 18, 3) := by decide +kernel
theorem dX5_about_98 : decode cX5_about 98 = .ok (.aload_n 0, 1) := by decide +kernel
theorem dX5_about_99 : decode cX5_about 99 = .ok (.getfield 36, 3) := by decide +kernel
theorem dX5_about_102 : decode cX5_about 102 = .ok (.iload 4, 2) := by decide +kernel
theorem dX5_about_104 : decode cX5_about 104 = .ok (.baload, 1) := by decide +kernel
theorem dX5_about_105 : decode cX5_about 105 = .ok (.ifCond .eq 7, 3) := by decide +kernel
theorem dX5_about_108 : decode cX5_about 108 = .ok (.iconst 2, 1) := by decide +kernel
