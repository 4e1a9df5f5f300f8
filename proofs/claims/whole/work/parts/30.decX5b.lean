theorem dX5_endCall_7 : decode cX5_endCall 7 = .ok (.getfield 135, 3) := by decide +kernel
theorem dX5_endCall_10 : decode cX5_endCall 10 = .ok (.ifCond .ne 28, 3) := by decide +kernel
theorem dX5_endCall_13 : decode cX5_endCall 13 = .ok (.iload_n 1, 1) := by decide +kernel
theorem dX5_endCall_14 : decode cX5_endCall 14 = .ok (.iconst (-1), 1) := by decide +kernel
theorem dX5_endCall_15 : decode cX5_endCall 15 = .ok (.if_icmp .eq 27, 3) := by decide +kernel
theorem dX5_endCall_18 : decode cX5_endCall 18 = .ok (.aload_n 0, 1) := by decide +kernel
theorem dX5_endCall_19 : decode cX5_endCall 19 = .ok (.getfield 57, 3) := by decide +kernel
theorem dX5_endCall_22 : decode cX5_endCall 22 = .ok (.aload_n 0, 1) := by decide +kernel
theorem dX5_endCall_23 : decode cX5_endCall 23 = .ok (.getfield 151, 3) := by decide +kernel
theorem dX5_endCall_26 : decode cX5_endCall 26 = .ok (.iconst 1, 1) := by decide +kernel
theorem dX5_endCall_27 : decode cX5_endCall 27 = .ok (.isub, 1) := by decide +kernel
theorem dX5_endCall_28 : decode cX5_endCall 28 = .ok (.iaload, 1) := by decide +kernel
theorem dX5_endCall_29 : decode cX5_endCall 29 = .ok (.aload_n 0, 1) := by decide +kernel
theorem dX5_endCall_30 : decode cX5_endCall 30 = .ok (.getfield 30, 3) := by decide +kernel
theorem dX5_endCall_33 : decode cX5_endCall 33 = .ok (.iload_n 1, 1) := by decide +kernel
theorem dX5_endCall_34 : decode cX5_endCall 34 = .ok (.iaload, 1) := by decide +kernel
theorem dX5_endCall_35 : decode cX5_endCall 35 = .ok (.if_icmp .ne 7, 3) := by decide +kernel
theorem dX5_endCall_38 : decode cX5_endCall 38 = .ok (.iconst 1, 1) := by decide +kernel
theorem dX5_endCall_39 : decode cX5_endCall 39 = .ok (.goto 4, 3) := by decide +kernel
theorem dX5_endCall_42 : decode cX5_endCall 42 = .ok (.iconst 0, 1) := by decide +kernel
theorem dX5_endCall_43 : decode cX5_endCall 43 = .ok (.invokevirtual 172, 3) := by decide +kernel
theorem dX5_endCall_46 : decode cX5_endCall 46 = .ok (.aload_n 0, 1) := by decide +kernel
theorem dX5_endCall_47 : decode cX5_endCall 47 = .ok (.bipush 10, 2) := by decide +kernel
theorem dX5_endCall_49 : decode cX5_endCall 49 = .ok (.aload_n 0, 1) := by decide +kernel
theorem dX5_endCall_50 : decode cX5_endCall 50 = .ok (.getfield 72, 3) := by decide +kernel
theorem dX5_endCall_53 : decode cX5_endCall 53 = .ok (.aload_n 0, 1) := by decide +kernel
theorem dX5_endCall_54 : decode cX5_endCall 54 = .ok (.getfield 151, 3) := by decide +kernel
theorem dX5_endCall_57 : decode cX5_endCall 57 = .ok (.iconst 1, 1) := by decide +kernel
theorem dX5_endCall_58 : decode cX5_endCall 58 = .ok (.isub, 1) := by decide +kernel
theorem dX5_endCall_59 : decode cX5_endCall 59 = .ok (.iaload, 1) := by decide +kernel
theorem dX5_endCall_60 : decode cX5_endCall 60 = .ok (.invokevirtual 158, 3) := by decide +kernel
theorem dX5_endCall_63 : decode cX5_endCall 63 = .ok (.aload_n 0, 1) := by decide +kernel
theorem dX5_endCall_64 : decode cX5_endCall 64 = .ok (.aload_n 0, 1) := by decide +kernel
theorem dX5_endCall_65 : decode cX5_endCall 65 = .ok (.getfield 69, 3) := by decide +kernel
theorem dX5_endCall_68 : decode cX5_endCall 68 = .ok (.aload_n 0, 1) := by decide +kernel
theorem dX5_endCall_69 : decode cX5_endCall 69 = .ok (.getfield 151, 3) := by decide +kernel
theorem dX5_endCall_72 : decode cX5_endCall 72 = .ok (.iconst 1, 1) := by decide +kernel
theorem dX5_endCall_73 : decode cX5_endCall 73 = .ok (.isub, 1) := by decide +kernel
theorem dX5_endCall_74 : decode cX5_endCall 74 = .ok (.iaload, 1) := by decide +kernel
theorem dX5_endCall_75 : decode cX5_endCall 75 = .ok (.putfield 141, 3) := by decide +kernel
theorem dX5_endCall_78 : decode cX5_endCall 78 = .ok (.aload_n 0, 1) := by decide +kernel
theorem dX5_endCall_79 : decode cX5_endCall 79 = .ok (.iload_n 1, 1) := by decide +kernel
theorem dX5_endCall_80 : decode cX5_endCall 80 = .ok (.iconst (-1), 1) := by decide +kernel
theorem dX5_endCall_81 : decode cX5_endCall 81 = .ok (.if_icmp .eq 16, 3) := by decide +kernel
theorem dX5_endCall_84 : decode cX5_endCall 84 = .ok (.aload_n 0, 1) := by decide +kernel
theorem dX5_endCall_85 : decode cX5_endCall 85 = .ok (.getfield 36, 3) := by decide +kernel
theorem dX5_endCall_88 : decode cX5_endCall 88 = .ok (.iload_n 1, 1) := by decide +kernel
theorem dX5_endCall_89 : decode cX5_endCall 89 = .ok (.baload, 1) := by decide +kernel
theorem dX5_endCall_90 : decode cX5_endCall 90 = .ok (.ifCond .eq 7, 3) := by decide +kernel
theorem dX5_endCall_93 : decode cX5_endCall 93 = .ok (.iconst 1, 1) := by decide +kernel
theorem dX5_endCall_94 : decode cX5_endCall 94 = .ok (.goto 4, 3) := by decide +kernel
theorem dX5_endCall_97 : decode cX5_endCall 97 = .ok (.iconst 0, 1) := by decide +kernel
theorem dX5_endCall_98 : decode cX5_endCall 98 = .ok (.putfield 162, 3) := by decide +kernel
theorem dX5_endCall_101 : decode cX5_endCall 101 = .ok (.aload_n 0, 1) := by decide +kernel
theorem dX5_endCall_102 : decode cX5_endCall 102 = .ok (.dup, 1) := by decide +kernel
theorem dX5_endCall_103 : decode cX5_endCall 103 = .ok (.getfield 151, 3) := by decide +kernel
theorem dX5_endCall_106 : decode cX5_endCall 106 = .ok (.iconst 1, 1) := by decide +kernel
theorem dX5_endCall_107 : decode cX5_endCall 107 = .ok (.isub, 1) := by decide +kernel
theorem dX5_endCall_108 : decode cX5_endCall 108 = .ok (.putfield 151, 3) := by decide +kernel
theorem dX5_endCall_111 : decode cX5_endCall 111 = .ok (.return_, 1) := by decide +kernel
theorem dX5_beginFactor_0 : decode cX5_beginFactor 0 = .ok (.aload_n 0, 1) := by decide +kernel
theorem dX5_beginFactor_1 : decode cX5_beginFactor 1 = .ok (.invokevirtual 154, 3) := by decide +kernel
theorem dX5_beginFactor_4 : decode cX5_beginFactor 4 = .ok (.ifCond .eq 9, 3) := by decide +kernel
theorem dX5_beginFactor_7 : decode cX5_beginFactor 7 = .ok (.aload_n 0, 1) := by decide +kernel
theorem dX5_beginFactor_8 : decode cX5_beginFactor 8 = .ok (.invokevirtual 191, 3) := by decide +kernel
theorem dX5_beginFactor_11 : decode cX5_beginFactor 11 = .ok (.iconst 1, 1) := by decide +kernel
theorem dX5_beginFactor_12 : decode cX5_beginFactor 12 = .ok (.ireturn, 1) := by decide +kernel
theorem dX5_beginFactor_13 : decode cX5_beginFactor 13 = .ok (.aload_n 0, 1) := by decide +kernel
theorem dX5_beginFactor_14 : decode cX5_beginFactor 14 = .ok (.bipush 36, 2) := by decide +kernel
theorem dX5_beginFactor_16 : decode cX5_beginFactor 16 = .ok (.invokevirtual 127, 3) := by decide +kernel
theorem dX5_beginFactor_19 : decode cX5_beginFactor 19 = .ok (.ifCond .eq 9, 3) := by decide +kernel
theorem dX5_beginFactor_22 : decode cX5_beginFactor 22 = .ok (.aload_n 0, 1) := by decide +kernel
theorem dX5_beginFactor_23 : decode cX5_beginFactor 23 = .ok (.invokevirtual 194, 3) := by decide +kernel
theorem dX5_beginFactor_26 : decode cX5_beginFactor 26 = .ok (.iconst 1, 1) := by decide +kernel
theorem dX5_beginFactor_27 : decode cX5_beginFactor 27 = .ok (.ireturn, 1) := by decide +kernel
theorem dX5_beginFactor_28 : decode cX5_beginFactor 28 = .ok (.aload_n 0, 1) := by decide +kernel
theorem dX5_beginFactor_29 : decode cX5_beginFactor 29 = .ok (.invokevirtual 123, 3) := by decide +kernel
theorem dX5_beginFactor_32 : decode cX5_beginFactor 32 = .ok (.bipush 40, 2) := by decide +kernel
theorem dX5_beginFactor_34 : decode cX5_beginFactor 34 = .ok (.if_icmp .eq 21, 3) := by decide +kernel
theorem dX5_beginFactor_37 : decode cX5_beginFactor 37 = .ok (.aload_n 0, 1) := by decide +kernel
theorem dX5_beginFactor_38 : decode cX5_beginFactor 38 = .ok (.invokevirtual 123, 3) := by decide +kernel
theorem dX5_beginFactor_41 : decode cX5_beginFactor 41 = .ok (.bipush 123, 2) := by decide +kernel
theorem dX5_beginFactor_43 : decode cX5_beginFactor 43 = .ok (.if_icmp .eq 12, 3) := by decide +kernel
theorem dX5_beginFactor_46 : decode cX5_beginFactor 46 = .ok (.aload_n 0, 1) := by decide +kernel
theorem dX5_beginFactor_47 : decode cX5_beginFactor 47 = .ok (.invokevirtual 123, 3) := by decide +kernel
theorem dX5_beginFactor_50 : decode cX5_beginFactor 50 = .ok (.bipush 91, 2) := by decide +kernel
theorem dX5_beginFactor_52 : decode cX5_beginFactor 52 = .ok (.if_icmp .ne 7, 3) := by decide +kernel
theorem dX5_beginFactor_55 : decode cX5_beginFactor 55 = .ok (.iconst 1, 1) := by decide +kernel
theorem dX5_beginFactor_56 : decode cX5_beginFactor 56 = .ok (.goto 4, 3) := by decide +kernel
theorem dX5_beginFactor_59 : decode cX5_beginFactor 59 = .ok (.iconst 0, 1) := by decide +kernel
theorem dX5_beginFactor_60 : decode cX5_beginFactor 60 = .ok (.istore_n 1, 1) := by decide +kernel
theorem dX5_beginFactor_61 : decode cX5_beginFactor 61 = .ok (.iload_n 1, 1) := by decide +kernel
theorem dX5_beginFactor_62 : decode cX5_beginFactor 62 = .ok (.ifCond .ne 25, 3) := by decide +kernel
theorem dX5_beginFactor_65 : decode cX5_beginFactor 65 = .ok (.aload_n 0, 1) := by decide +kernel
theorem dX5_beginFactor_66 : decode cX5_beginFactor 66 = .ok (.invokevirtual 197, 3) := by decide +kernel
theorem dX5_beginFactor_69 : decode cX5_beginFactor 69 = .ok (.istore_n 2, 1) := by decide +kernel
theorem dX5_beginFactor_70 : decode cX5_beginFactor 70 = .ok (.iload_n 2, 1) := by decide +kernel
theorem dX5_beginFactor_71 : decode cX5_beginFactor 71 = .ok (.ifCond .eq 14, 3) := by decide +kernel
theorem dX5_beginFactor_74 : decode cX5_beginFactor 74 = .ok (.aload_n 0, 1) := by decide +kernel
theorem dX5_beginFactor_75 : decode cX5_beginFactor 75 = .ok (.getfield 116, 3) := by decide +kernel
theorem dX5_beginFactor_78 : decode cX5_beginFactor 78 = .ok (.ifCond .eq 7, 3) := by decide +kernel
theorem dX5_beginFactor_81 : decode cX5_beginFactor 81 = .ok (.aload_n 0, 1) := by decide +kernel
theorem dX5_beginFactor_82 : decode cX5_beginFactor 82 = .ok (.invokevirtual 200, 3) := by decide +kernel
theorem dX5_beginFactor_85 : decode cX5_beginFactor 85 = .ok (.iload_n 2, 1) := by decide +kernel
theorem dX5_beginFactor_86 : decode cX5_beginFactor 86 = .ok (.ireturn, 1) := by decide +kernel
theorem dX5_beginFactor_87 : decode cX5_beginFactor 87 = .ok (.aload_n 0, 1) := by decide +kernel
theorem dX5_beginFactor_88 : decode cX5_beginFactor 88 = .ok (.aload_n 0, 1) := by decide +kernel
theorem dX5_beginFactor_89 : decode cX5_beginFactor 89 = .ok (.invokevirtual 123, 3) := by decide +kernel
theorem dX5_beginFactor_92 : decode cX5_beginFactor 92 = .ok (.bipush 40, 2) := by decide +kernel
theorem dX5_beginFactor_94 : decode cX5_beginFactor 94 = .ok (.if_icmp .ne 7, 3) := by decide +kernel
theorem dX5_beginFactor_97 : decode cX5_beginFactor 97 = .ok (.iconst 1, 1) := by decide +kernel
theorem dX5_beginFactor_98 : decode cX5_beginFactor 98 = .ok (.goto 17, 3) := by decide +kernel
theorem dX5_beginFactor_101 : decode cX5_beginFactor 101 = .ok (.aload_n 0, 1) := by decide +kernel
theorem dX5_beginFactor_102 : decode cX5_beginFactor 102 = .ok (.invokevirtual 123, 3) := by decide +kernel
theorem dX5_beginFactor_105 : decode cX5_beginFactor 105 = .ok (.bipush 123, 2) := by decide +kernel
theorem dX5_beginFactor_107 : decode cX5_beginFactor 107 = .ok (.if_icmp .ne 7, 3) := by decide +kernel
theorem dX5_beginFactor_110 : decode cX5_beginFactor 110 = .ok (.iconst 2, 1) := by decide +kernel
theorem dX5_beginFactor_111 : decode cX5_beginFactor 111 = .ok (.goto 4, 3) := by decide +kernel
theorem dX5_beginFactor_114 : decode cX5_beginFactor 114 = .ok (.iconst 3, 1) := by decide +kernel
theorem dX5_beginFactor_115 : decode cX5_beginFactor 115 = .ok (.invokevirtual 179, 3) := by decide +kernel
theorem dX5_beginFactor_118 : decode cX5_beginFactor 118 = .ok (.aload_n 0, 1) := by decide +kernel
theorem dX5_beginFactor_119 : decode cX5_beginFactor 119 = .ok (.dup, 1) := by decide +kernel
theorem dX5_beginFactor_120 : decode cX5_beginFactor 120 = .ok (.getfield 113, 3) := by decide +kernel
theorem dX5_beginFactor_123 : decode cX5_beginFactor 123 = .ok (.iconst 1, 1) := by decide +kernel
theorem dX5_beginFactor_124 : decode cX5_beginFactor 124 = .ok (.iadd, 1) := by decide +kernel
theorem dX5_beginFactor_125 : decode cX5_beginFactor 125 = .ok (.putfield 113, 3) := by decide +kernel
theorem dX5_beginFactor_128 : decode cX5_beginFactor 128 = .ok (.iconst 0, 1) := by decide +kernel
theorem dX5_beginFactor_129 : decode cX5_beginFactor 129 = .ok (.ireturn, 1) := by decide +kernel
theorem dX5_project_0 : decode cX5_project 0 = .ok (.aload_n 0, 1) := by decide +kernel
theorem dX5_project_1 : decode cX5_project 1 = .ok (.bipush 46, 2) := by decide +kernel
theorem dX5_project_3 : decode cX5_project 3 = .ok (.invokevirtual 127, 3) := by decide +kernel
theorem dX5_project_6 : decode cX5_project 6 = .ok (.ifCond .ne 4, 3) := by decide +kernel
theorem dX5_project_9 : decode cX5_project 9 = .ok (.return_, 1) := by decide +kernel
theorem dX5_project_10 : decode cX5_project 10 = .ok (.aload_n 0, 1) := by decide +kernel
theorem dX5_project_11 : decode cX5_project 11 = .ok (.aload_n 0, 1) := by decide +kernel
theorem dX5_project_12 : decode cX5_project 12 = .ok (.getfield 162, 3) := by decide +kernel
theorem dX5_project_15 : decode cX5_project 15 = .ok (.invokevirtual 172, 3) := by decide +kernel
theorem dX5_project_18 : decode cX5_project 18 = .ok (.aload_n 0, 1) := by decide +kernel
theorem dX5_project_19 : decode cX5_project 19 = .ok (.aload_n 0, 1) := by decide +kernel
theorem dX5_project_20 : decode cX5_project 20 = .ok (.invokevirtual 123, 3) := by decide +kernel
theorem dX5_project_23 : decode cX5_project 23 = .ok (.bipush 48, 2) := by decide +kernel
theorem dX5_project_25 : decode cX5_project 25 = .ok (.if_icmp .eq 12, 3) := by decide +kernel
theorem dX5_project_28 : decode cX5_project 28 = .ok (.aload_n 0, 1) := by decide +kernel
theorem dX5_project_29 : decode cX5_project 29 = .ok (.invokevirtual 123, 3) := by decide +kernel
theorem dX5_project_32 : decode cX5_project 32 = .ok (.bipush 49, 2) := by decide +kernel
theorem dX5_project_34 : decode cX5_project 34 = .ok (.if_icmp .ne 7, 3) := by decide +kernel
theorem dX5_project_37 : decode cX5_project 37 = .ok (.iconst 1, 1) := by decide +kernel
theorem dX5_project_38 : decode cX5_project 38 = .ok (.goto 4, 3) := by decide +kernel
theorem dX5_project_41 : decode cX5_project 41 = .ok (.iconst 0, 1) := by decide +kernel
theorem dX5_project_42 : decode cX5_project 42 = .ok (.invokevirtual 131, 3) := by decide +kernel
theorem dX5_project_45 : decode cX5_project 45 = .ok (.aload_n 0, 1) := by decide +kernel
theorem dX5_project_46 : decode cX5_project 46 = .ok (.aload_n 0, 1) := by decide +kernel
theorem dX5_project_47 : decode cX5_project 47 = .ok (.invokevirtual 123, 3) := by decide +kernel
theorem dX5_project_50 : decode cX5_project 50 = .ok (.bipush 49, 2) := by decide +kernel
theorem dX5_project_52 : decode cX5_project 52 = .ok (.if_icmp .ne 8, 3) := by decide +kernel
theorem dX5_project_55 : decode cX5_project 55 = .ok (.bipush 7, 2) := by decide +kernel
theorem dX5_project_57 : decode cX5_project 57 = .ok (.goto 5, 3) := by decide +kernel
theorem dX5_project_60 : decode cX5_project 60 = .ok (.bipush 6, 2) := by decide +kernel
theorem dX5_project_62 : decode cX5_project 62 = .ok (.iconst 0, 1) := by decide +kernel
theorem dX5_project_63 : decode cX5_project 63 = .ok (.invokevirtual 158, 3) := by decide +kernel
theorem dX5_project_66 : decode cX5_project 66 = .ok (.aload_n 0, 1) := by decide +kernel
theorem dX5_project_67 : decode cX5_project 67 = .ok (.dup, 1) := by decide +kernel
theorem dX5_project_68 : decode cX5_project 68 = .ok (.getfield 113, 3) := by decide +kernel
theorem dX5_project_71 : decode cX5_project 71 = .ok (.iconst 1, 1) := by decide +kernel
theorem dX5_project_72 : decode cX5_project 72 = .ok (.iadd, 1) := by decide +kernel
theorem dX5_project_73 : decode cX5_project 73 = .ok (.putfield 113, 3) := by decide +kernel
theorem dX5_project_76 : decode cX5_project 76 = .ok (.aload_n 0, 1) := by decide +kernel
theorem dX5_project_77 : decode cX5_project 77 = .ok (.iconst 0, 1) := by decide +kernel
theorem dX5_project_78 : decode cX5_project 78 = .ok (.putfield 162, 3) := by decide +kernel
theorem dX5_project_81 : decode cX5_project 81 = .ok (.return_, 1) := by decide +kernel
theorem dX5_endFactor_0 : decode cX5_endFactor 0 = .ok (.aload_n 0, 1) := by decide +kernel
theorem dX5_endFactor_1 : decode cX5_endFactor 1 = .ok (.getfield 151, 3) := by decide +kernel
theorem dX5_endFactor_4 : decode cX5_endFactor 4 = .ok (.iconst 1, 1) := by decide +kernel
theorem dX5_endFactor_5 : decode cX5_endFactor 5 = .ok (.isub, 1) := by decide +kernel
theorem dX5_endFactor_6 : decode cX5_endFactor 6 = .ok (.istore_n 1, 1) := by decide +kernel
theorem dX5_endFactor_7 : decode cX5_endFactor 7 = .ok (.aload_n 0, 1) := by decide +kernel
theorem dX5_endFactor_8 : decode cX5_endFactor 8 = .ok (.invokevirtual 203, 3) := by decide +kernel
theorem dX5_endFactor_11 : decode cX5_endFactor 11 = .ok (.aload_n 0, 1) := by decide +kernel
theorem dX5_endFactor_12 : decode cX5_endFactor 12 = .ok (.getfield 63, 3) := by decide +kernel
theorem dX5_endFactor_15 : decode cX5_endFactor 15 = .ok (.iload_n 1, 1) := by decide +kernel
theorem dX5_endFactor_16 : decode cX5_endFactor 16 = .ok (.baload, 1) := by decide +kernel
theorem dX5_endFactor_17 : decode cX5_endFactor 17 = .ok (.ifCond .eq 8, 3) := by decide +kernel
theorem dX5_endFactor_20 : decode cX5_endFactor 20 = .ok (.aload_n 0, 1) := by decide +kernel
theorem dX5_endFactor_21 : decode cX5_endFactor 21 = .ok (.iconst 5, 1) := by decide +kernel
theorem dX5_endFactor_22 : decode cX5_endFactor 22 = .ok (.invokevirtual 206, 3) := by decide +kernel
theorem dX5_endFactor_25 : decode cX5_endFactor 25 = .ok (.aload_n 0, 1) := by decide +kernel
theorem dX5_endFactor_26 : decode cX5_endFactor 26 = .ok (.getfield 63, 3) := by decide +kernel
theorem dX5_endFactor_29 : decode cX5_endFactor 29 = .ok (.iload_n 1, 1) := by decide +kernel
theorem dX5_endFactor_30 : decode cX5_endFactor 30 = .ok (.aload_n 0, 1) := by decide +kernel
theorem dX5_endFactor_31 : decode cX5_endFactor 31 = .ok (.bipush 42, 2) := by decide +kernel
theorem dX5_endFactor_33 : decode cX5_endFactor 33 = .ok (.invokevirtual 127, 3) := by decide +kernel
theorem dX5_endFactor_36 : decode cX5_endFactor 36 = .ok (.bastore, 1) := by decide +kernel
theorem dX5_endFactor_37 : decode cX5_endFactor 37 = .ok (.aload_n 0, 1) := by decide +kernel
theorem dX5_endFactor_38 : decode cX5_endFactor 38 = .ok (.getfield 63, 3) := by decide +kernel
theorem dX5_endFactor_41 : decode cX5_endFactor 41 = .ok (.iload_n 1, 1) := by decide +kernel
theorem dX5_endFactor_42 : decode cX5_endFactor 42 = .ok (.baload, 1) := by decide +kernel
theorem dX5_endFactor_43 : decode cX5_endFactor 43 = .ok (.ifCond .eq 9, 3) := by decide +kernel
theorem dX5_endFactor_46 : decode cX5_endFactor 46 = .ok (.aload_n 0, 1) := by decide +kernel
theorem dX5_endFactor_47 : decode cX5_endFactor 47 = .ok (.invokevirtual 209, 3) := by decide +kernel
theorem dX5_endFactor_50 : decode cX5_endFactor 50 = .ok (.iconst 1, 1) := by decide +kernel
theorem dX5_endFactor_51 : decode cX5_endFactor 51 = .ok (.ireturn, 1) := by decide +kernel
theorem dX5_endFactor_52 : decode cX5_endFactor 52 = .ok (.aload_n 0, 1) := by decide +kernel
theorem dX5_endFactor_53 : decode cX5_endFactor 53 = .ok (.getfield 60, 3) := by decide +kernel
theorem dX5_endFactor_56 : decode cX5_endFactor 56 = .ok (.iload_n 1, 1) := by decide +kernel
theorem dX5_endFactor_57 : decode cX5_endFactor 57 = .ok (.iaload, 1) := by decide +kernel
theorem dX5_endFactor_58 : decode cX5_endFactor 58 = .ok (.ifCond .eq 13, 3) := by decide +kernel
theorem dX5_endFactor_61 : decode cX5_endFactor 61 = .ok (.aload_n 0, 1) := by decide +kernel
theorem dX5_endFactor_62 : decode cX5_endFactor 62 = .ok (.aload_n 0, 1) := by decide +kernel
theorem dX5_endFactor_63 : decode cX5_endFactor 63 = .ok (.getfield 60, 3) := by decide +kernel
theorem dX5_endFactor_66 : decode cX5_endFactor 66 = .ok (.iload_n 1, 1) := by decide +kernel
theorem dX5_endFactor_67 : decode cX5_endFactor 67 = .ok (.iaload, 1) := by decide +kernel
theorem dX5_endFactor_68 : decode cX5_endFactor 68 = .ok (.invokevirtual 206, 3) := by decide +kernel
theorem dX5_endFactor_71 : decode cX5_endFactor 71 = .ok (.aload_n 0, 1) := by decide +kernel
theorem dX5_endFactor_72 : decode cX5_endFactor 72 = .ok (.getfield 60, 3) := by decide +kernel
theorem dX5_endFactor_75 : decode cX5_endFactor 75 = .ok (.iload_n 1, 1) := by decide +kernel
theorem dX5_endFactor_76 : decode cX5_endFactor 76 = .ok (.aload_n 0, 1) := by decide +kernel
theorem dX5_endFactor_77 : decode cX5_endFactor 77 = .ok (.bipush 43, 2) := by decide +kernel
theorem dX5_endFactor_79 : decode cX5_endFactor 79 = .ok (.invokevirtual 127, 3) := by decide +kernel
theorem dX5_endFactor_82 : decode cX5_endFactor 82 = .ok (.ifCond .eq 7, 3) := by decide +kernel
theorem dX5_endFactor_85 : decode cX5_endFactor 85 = .ok (.iconst 3, 1) := by decide +kernel
theorem dX5_endFactor_86 : decode cX5_endFactor 86 = .ok (.goto 17, 3) := by decide +kernel
theorem dX5_endFactor_89 : decode cX5_endFactor 89 = .ok (.aload_n 0, 1) := by decide +kernel
theorem dX5_endFactor_90 : decode cX5_endFactor 90 = .ok (.bipush 45, 2) := by decide +kernel
theorem dX5_endFactor_92 : decode cX5_endFactor 92 = .ok (.invokevirtual 127, 3) := by decide +kernel
theorem dX5_endFactor_95 : decode cX5_endFactor 95 = .ok (.ifCond .eq 7, 3) := by decide +kernel
theorem dX5_endFactor_98 : decode cX5_endFactor 98 = .ok (.iconst 4, 1) := by decide +kernel
theorem dX5_endFactor_99 : decode cX5_endFactor 99 = .ok (.goto 4, 3) := by decide +kernel
theorem dX5_endFactor_102 : decode cX5_endFactor 102 = .ok (.iconst 0, 1) := by decide +kernel
theorem dX5_endFactor_103 : decode cX5_endFactor 103 = .ok (.iastore, 1) := by decide +kernel
theorem dX5_endFactor_104 : decode cX5_endFactor 104 = .ok (.aload_n 0, 1) := by decide +kernel
theorem dX5_endFactor_105 : decode cX5_endFactor 105 = .ok (.getfield 60, 3) := by decide +kernel
theorem dX5_endFactor_108 : decode cX5_endFactor 108 = .ok (.iload_n 1, 1) := by decide +kernel
theorem dX5_endFactor_109 : decode cX5_endFactor 109 = .ok (.iaload, 1) := by decide +kernel
theorem dX5_endFactor_110 : decode cX5_endFactor 110 = .ok (.ifCond .eq 7, 3) := by decide +kernel
theorem dX5_endFactor_113 : decode cX5_endFactor 113 = .ok (.aload_n 0, 1) := by decide +kernel
theorem dX5_endFactor_114 : decode cX5_endFactor 114 = .ok (.invokevirtual 209, 3) := by decide +kernel
theorem dX5_endFactor_117 : decode cX5_endFactor 117 = .ok (.aload_n 0, 1) := by decide +kernel
theorem dX5_endFactor_118 : decode cX5_endFactor 118 = .ok (.getfield 60, 3) := by decide +kernel
theorem dX5_endFactor_121 : decode cX5_endFactor 121 = .ok (.iload_n 1, 1) := by decide +kernel
theorem dX5_endFactor_122 : decode cX5_endFactor 122 = .ok (.iaload, 1) := by decide +kernel
theorem dX5_endFactor_123 : decode cX5_endFactor 123 = .ok (.ifCond .eq 7, 3) := by decide +kernel
theorem dX5_endFactor_126 : decode cX5_endFactor 126 = .ok (.iconst 1, 1) := by decide +kernel
theorem dX5_endFactor_127 : decode cX5_endFactor 127 = .ok (.goto 4, 3) := by decide +kernel
theorem dX5_endFactor_130 : decode cX5_endFactor 130 = .ok (.iconst 0, 1) := by decide +kernel
theorem dX5_endFactor_131 : decode cX5_endFactor 131 = .ok (.ireturn, 1) := by decide +kernel
theorem dX5_keep_0 : decode cX5_keep 0 = .ok (.aload_n 0, 1) := by decide +kernel
theorem dX5_keep_1 : decode cX5_keep 1 = .ok (.aload_n 0, 1) := by decide +kernel
theorem dX5_keep_2 : decode cX5_keep 2 = .ok (.getfield 162, 3) := by decide +kernel
theorem dX5_keep_5 : decode cX5_keep 5 = .ok (.ifCond .ne 7, 3) := by decide +kernel
theorem dX5_keep_8 : decode cX5_keep 8 = .ok (.iconst 1, 1) := by decide +kernel
theorem dX5_keep_9 : decode cX5_keep 9 = .ok (.goto 4, 3) := by decide +kernel
theorem dX5_keep_12 : decode cX5_keep 12 = .ok (.iconst 0, 1) := by decide +kernel
theorem dX5_keep_13 : decode cX5_keep 13 = .ok (.invokevirtual 172, 3) := by decide +kernel
theorem dX5_keep_16 : decode cX5_keep 16 = .ok (.aload_n 0, 1) := by decide +kernel
theorem dX5_keep_17 : decode cX5_keep 17 = .ok (.iconst 1, 1) := by decide +kernel
theorem dX5_keep_18 : decode cX5_keep 18 = .ok (.invokevirtual 212, 3) := by decide +kernel
theorem dX5_keep_21 : decode cX5_keep 21 = .ok (.return_, 1) := by decide +kernel
theorem dX5_operate_0 : decode cX5_operate 0 = .ok (.aload_n 0, 1) := by decide +kernel
theorem dX5_operate_1 : decode cX5_operate 1 = .ok (.aload_n 0, 1) := by decide +kernel
theorem dX5_operate_2 : decode cX5_operate 2 = .ok (.getfield 162, 3) := by decide +kernel
theorem dX5_operate_5 : decode cX5_operate 5 = .ok (.ifCond .ne 7, 3) := by decide +kernel
theorem dX5_operate_8 : decode cX5_operate 8 = .ok (.iconst 1, 1) := by decide +kernel
theorem dX5_operate_9 : decode cX5_operate 9 = .ok (.goto 4, 3) := by decide +kernel
theorem dX5_operate_12 : decode cX5_operate 12 = .ok (.iconst 0, 1) := by decide +kernel
theorem dX5_operate_13 : decode cX5_operate 13 = .ok (.invokevirtual 172, 3) := by decide +kernel
theorem dX5_operate_16 : decode cX5_operate 16 = .ok (.aload_n 0, 1) := by decide +kernel
theorem dX5_operate_17 : decode cX5_operate 17 = .ok (.dup, 1) := by decide +kernel
theorem dX5_operate_18 : decode cX5_operate 18 = .ok (.getfield 141, 3) := by decide +kernel
theorem dX5_operate_21 : decode cX5_operate 21 = .ok (.iconst 1, 1) := by decide +kernel
theorem dX5_operate_22 : decode cX5_operate 22 = .ok (.isub, 1) := by decide +kernel
theorem dX5_operate_23 : decode cX5_operate 23 = .ok (.putfield 141, 3) := by decide +kernel
theorem dX5_operate_26 : decode cX5_operate 26 = .ok (.aload_n 0, 1) := by decide +kernel
theorem dX5_operate_27 : decode cX5_operate 27 = .ok (.iload_n 1, 1) := by decide +kernel
theorem dX5_operate_28 : decode cX5_operate 28 = .ok (.iconst 0, 1) := by decide +kernel
theorem dX5_operate_29 : decode cX5_operate 29 = .ok (.invokevirtual 158, 3) := by decide +kernel
theorem dX5_operate_32 : decode cX5_operate 32 = .ok (.aload_n 0, 1) := by decide +kernel
theorem dX5_operate_33 : decode cX5_operate 33 = .ok (.iconst 0, 1) := by decide +kernel
theorem dX5_operate_34 : decode cX5_operate 34 = .ok (.putfield 162, 3) := by decide +kernel
theorem dX5_operate_37 : decode cX5_operate 37 = .ok (.return_, 1) := by decide +kernel
theorem dX5_endSum_0 : decode cX5_endSum 0 = .ok (.aload_n 0, 1) := by decide +kernel
theorem dX5_endSum_1 : decode cX5_endSum 1 = .ok (.getfield 151, 3) := by decide +kernel
theorem dX5_endSum_4 : decode cX5_endSum 4 = .ok (.iconst 1, 1) := by decide +kernel
theorem dX5_endSum_5 : decode cX5_endSum 5 = .ok (.isub, 1) := by decide +kernel
theorem dX5_endSum_6 : decode cX5_endSum 6 = .ok (.istore_n 1, 1) := by decide +kernel
theorem dX5_endSum_7 : decode cX5_endSum 7 = .ok (.aload_n 0, 1) := by decide +kernel
theorem dX5_endSum_8 : decode cX5_endSum 8 = .ok (.getfield 57, 3) := by decide +kernel
theorem dX5_endSum_11 : decode cX5_endSum 11 = .ok (.iload_n 1, 1) := by decide +kernel
theorem dX5_endSum_12 : decode cX5_endSum 12 = .ok (.iaload, 1) := by decide +kernel
theorem dX5_endSum_13 : decode cX5_endSum 13 = .ok (.istore_n 2, 1) := by decide +kernel
theorem dX5_endSum_14 : decode cX5_endSum 14 = .ok (.aload_n 0, 1) := by decide +kernel
theorem dX5_endSum_15 : decode cX5_endSum 15 = .ok (.getfield 57, 3) := by decide +kernel
theorem dX5_endSum_18 : decode cX5_endSum 18 = .ok (.iload_n 1, 1) := by decide +kernel
theorem dX5_endSum_19 : decode cX5_endSum 19 = .ok (.iload_n 2, 1) := by decide +kernel
theorem dX5_endSum_20 : decode cX5_endSum 20 = .ok (.iconst 1, 1) := by decide +kernel
theorem dX5_endSum_21 : decode cX5_endSum 21 = .ok (.iadd, 1) := by decide +kernel
theorem dX5_endSum_22 : decode cX5_endSum 22 = .ok (.iastore, 1) := by decide +kernel
theorem dX5_endSum_23 : decode cX5_endSum 23 = .ok (.aload_n 0, 1) := by decide +kernel
theorem dX5_endSum_24 : decode cX5_endSum 24 = .ok (.getfield 54, 3) := by decide +kernel
theorem dX5_endSum_27 : decode cX5_endSum 27 = .ok (.iload_n 1, 1) := by decide +kernel
theorem dX5_endSum_28 : decode cX5_endSum 28 = .ok (.iaload, 1) := by decide +kernel
theorem dX5_endSum_29 : decode cX5_endSum 29 = .ok (.tableswitch 144 1 3 #[27, 45, 137], 27) := by decide +kernel
theorem dX5_endSum_56 : decode cX5_endSum 56 = .ok (.aload_n 0, 1) := by decide +kernel
theorem dX5_endSum_57 : decode cX5_endSum 57 = .ok (.bipush 41, 2) := by decide +kernel
theorem dX5_endSum_59 : decode cX5_endSum 59 = .ok (.invokevirtual 175, 3) := by decide +kernel
theorem dX5_endSum_62 : decode cX5_endSum 62 = .ok (.aload_n 0, 1) := by decide +kernel
theorem dX5_endSum_63 : decode cX5_endSum 63 = .ok (.dup, 1) := by decide +kernel
theorem dX5_endSum_64 : decode cX5_endSum 64 = .ok (.getfield 151, 3) := by decide +kernel
theorem dX5_endSum_67 : decode cX5_endSum 67 = .ok (.iconst 1, 1) := by decide +kernel
theorem dX5_endSum_68 : decode cX5_endSum 68 = .ok (.isub, 1) := by decide +kernel
theorem dX5_endSum_69 : decode cX5_endSum 69 = .ok (.putfield 151, 3) := by decide +kernel
theorem dX5_endSum_72 : decode cX5_endSum 72 = .ok (.iconst 0, 1) := by decide +kernel
theorem dX5_endSum_73 : decode cX5_endSum 73 = .ok (.ireturn, 1) := by decide +kernel
theorem dX5_endSum_74 : decode cX5_endSum 74 = .ok (.aload_n 0, 1) := by decide +kernel
theorem dX5_endSum_75 : decode cX5_endSum 75 = .ok (.aload_n 0, 1) := by decide +kernel
theorem dX5_endSum_76 : decode cX5_endSum 76 = .ok (.getfield 162, 3) := by decide +kernel
theorem dX5_endSum_79 : decode cX5_endSum 79 = .ok (.ifCond .ne 7, 3) := by decide +kernel
theorem dX5_endSum_82 : decode cX5_endSum 82 = .ok (.iconst 1, 1) := by decide +kernel
theorem dX5_endSum_83 : decode cX5_endSum 83 = .ok (.goto 4, 3) := by decide +kernel
theorem dX5_endSum_86 : decode cX5_endSum 86 = .ok (.iconst 0, 1) := by decide +kernel
theorem dX5_endSum_87 : decode cX5_endSum 87 = .ok (.invokevirtual 172, 3) := by decide +kernel
theorem dX5_endSum_90 : decode cX5_endSum 90 = .ok (.iload_n 2, 1) := by decide +kernel
theorem dX5_endSum_91 : decode cX5_endSum 91 = .ok (.ifCond .ne 11, 3) := by decide +kernel
theorem dX5_endSum_94 : decode cX5_endSum 94 = .ok (.aload_n 0, 1) := by decide +kernel
theorem dX5_endSum_95 : decode cX5_endSum 95 = .ok (.iconst 1, 1) := by decide +kernel
theorem dX5_endSum_96 : decode cX5_endSum 96 = .ok (.invokevirtual 212, 3) := by decide +kernel
theorem dX5_endSum_99 : decode cX5_endSum 99 = .ok (.goto 13, 3) := by decide +kernel
theorem dX5_endSum_102 : decode cX5_endSum 102 = .ok (.aload_n 0, 1) := by decide +kernel
theorem dX5_endSum_103 : decode cX5_endSum 103 = .ok (.dup, 1) := by decide +kernel
theorem dX5_endSum_104 : decode cX5_endSum 104 = .ok (.getfield 141, 3) := by decide +kernel
theorem dX5_endSum_107 : decode cX5_endSum 107 = .ok (.iconst 1, 1) := by decide +kernel
theorem dX5_endSum_108 : decode cX5_endSum 108 = .ok (.isub, 1) := by decide +kernel
theorem dX5_endSum_109 : decode cX5_endSum 109 = .ok (.putfield 141, 3) := by decide +kernel
theorem dX5_endSum_112 : decode cX5_endSum 112 = .ok (.aload_n 0, 1) := by decide +kernel
theorem dX5_endSum_113 : decode cX5_endSum 113 = .ok (.iload_n 2, 1) := by decide +kernel
theorem dX5_endSum_114 : decode cX5_endSum 114 = .ok (.ifCond .ne 8, 3) := by decide +kernel
theorem dX5_endSum_117 : decode cX5_endSum 117 = .ok (.bipush 44, 2) := by decide +kernel
theorem dX5_endSum_119 : decode cX5_endSum 119 = .ok (.goto 5, 3) := by decide +kernel
theorem dX5_endSum_122 : decode cX5_endSum 122 = .ok (.bipush 125, 2) := by decide +kernel
theorem dX5_endSum_124 : decode cX5_endSum 124 = .ok (.invokevirtual 175, 3) := by decide +kernel
theorem dX5_endSum_127 : decode cX5_endSum 127 = .ok (.aload_n 0, 1) := by decide +kernel
theorem dX5_endSum_128 : decode cX5_endSum 128 = .ok (.iload_n 2, 1) := by decide +kernel
theorem dX5_endSum_129 : decode cX5_endSum 129 = .ok (.ifCond .le 7, 3) := by decide +kernel
theorem dX5_endSum_132 : decode cX5_endSum 132 = .ok (.iconst 1, 1) := by decide +kernel
theorem dX5_endSum_133 : decode cX5_endSum 133 = .ok (.goto 4, 3) := by decide +kernel
theorem dX5_endSum_136 : decode cX5_endSum 136 = .ok (.iconst 0, 1) := by decide +kernel
theorem dX5_endSum_137 : decode cX5_endSum 137 = .ok (.putfield 162, 3) := by decide +kernel
theorem dX5_endSum_140 : decode cX5_endSum 140 = .ok (.aload_n 0, 1) := by decide +kernel
theorem dX5_endSum_141 : decode cX5_endSum 141 = .ok (.iload_n 2, 1) := by decide +kernel
theorem dX5_endSum_142 : decode cX5_endSum 142 = .ok (.ifCond .ne 10, 3) := by decide +kernel
theorem dX5_endSum_145 : decode cX5_endSum 145 = .ok (.aload_n 0, 1) := by decide +kernel
theorem dX5_endSum_146 : decode cX5_endSum 146 = .ok (.getfield 151, 3) := by decide +kernel
theorem dX5_endSum_149 : decode cX5_endSum 149 = .ok (.goto 4, 3) := by decide +kernel
theorem dX5_endSum_152 : decode cX5_endSum 152 = .ok (.iload_n 1, 1) := by decide +kernel
theorem dX5_endSum_153 : decode cX5_endSum 153 = .ok (.putfield 151, 3) := by decide +kernel
theorem dX5_endSum_156 : decode cX5_endSum 156 = .ok (.iload_n 2, 1) := by decide +kernel
theorem dX5_endSum_157 : decode cX5_endSum 157 = .ok (.ifCond .ne 7, 3) := by decide +kernel
theorem dX5_endSum_160 : decode cX5_endSum 160 = .ok (.iconst 1, 1) := by decide +kernel
theorem dX5_endSum_161 : decode cX5_endSum 161 = .ok (.goto 4, 3) := by decide +kernel
theorem dX5_endSum_164 : decode cX5_endSum 164 = .ok (.iconst 0, 1) := by decide +kernel
theorem dX5_endSum_165 : decode cX5_endSum 165 = .ok (.ireturn, 1) := by decide +kernel
theorem dX5_endSum_166 : decode cX5_endSum 166 = .ok (.aload_n 0, 1) := by decide +kernel
theorem dX5_endSum_167 : decode cX5_endSum 167 = .ok (.iload_n 1, 1) := by decide +kernel
theorem dX5_endSum_168 : decode cX5_endSum 168 = .ok (.iload_n 2, 1) := by decide +kernel
theorem dX5_endSum_169 : decode cX5_endSum 169 = .ok (.invokevirtual 215, 3) := by decide +kernel
theorem dX5_endSum_172 : decode cX5_endSum 172 = .ok (.ireturn, 1) := by decide +kernel
theorem dX5_endSum_173 : decode cX5_endSum 173 = .ok (.aload_n 0, 1) := by decide +kernel
theorem dX5_endSum_174 : decode cX5_endSum 174 = .ok (.invokevirtual 187, 3) := by decide +kernel
theorem dX5_endSum_177 : decode cX5_endSum 177 = .ok (.istore_n 3, 1) := by decide +kernel
theorem dX5_endSum_178 : decode cX5_endSum 178 = .ok (.aload_n 0, 1) := by decide +kernel
theorem dX5_endSum_179 : decode cX5_endSum 179 = .ok (.aload_n 0, 1) := by decide +kernel
theorem dX5_endSum_180 : decode cX5_endSum 180 = .ok (.getfield 135, 3) := by decide +kernel
theorem dX5_endSum_183 : decode cX5_endSum 183 = .ok (.ifCond .ne 35, 3) := by decide +kernel
theorem dX5_endSum_186 : decode cX5_endSum 186 = .ok (.iload_n 3, 1) := by decide +kernel
theorem dX5_endSum_187 : decode cX5_endSum 187 = .ok (.iconst (-1), 1) := by decide +kernel
theorem dX5_endSum_188 : decode cX5_endSum 188 = .ok (.if_icmp .eq 34, 3) := by decide +kernel
theorem dX5_endSum_191 : decode cX5_endSum 191 = .ok (.iload_n 2, 1) := by decide +kernel
theorem dX5_endSum_192 : decode cX5_endSum 192 = .ok (.aload_n 0, 1) := by decide +kernel
theorem dX5_endSum_193 : decode cX5_endSum 193 = .ok (.getfield 30, 3) := by decide +kernel
theorem dX5_endSum_196 : decode cX5_endSum 196 = .ok (.iload_n 3, 1) := by decide +kernel
theorem dX5_endSum_197 : decode cX5_endSum 197 = .ok (.iaload, 1) := by decide +kernel
theorem dX5_endSum_198 : decode cX5_endSum 198 = .ok (.if_icmp .ge 24, 3) := by decide +kernel
theorem dX5_endSum_201 : decode cX5_endSum 201 = .ok (.aload_n 0, 1) := by decide +kernel
theorem dX5_endSum_202 : decode cX5_endSum 202 = .ok (.getfield 33, 3) := by decide +kernel
theorem dX5_endSum_205 : decode cX5_endSum 205 = .ok (.iconst 3, 1) := by decide +kernel
theorem dX5_endSum_206 : decode cX5_endSum 206 = .ok (.iload_n 3, 1) := by decide +kernel
theorem dX5_endSum_207 : decode cX5_endSum 207 = .ok (.imul, 1) := by decide +kernel
theorem dX5_endSum_208 : decode cX5_endSum 208 = .ok (.iload_n 2, 1) := by decide +kernel
theorem dX5_endSum_209 : decode cX5_endSum 209 = .ok (.iadd, 1) := by decide +kernel
theorem dX5_endSum_210 : decode cX5_endSum 210 = .ok (.baload, 1) := by decide +kernel
theorem dX5_endSum_211 : decode cX5_endSum 211 = .ok (.aload_n 0, 1) := by decide +kernel
theorem dX5_endSum_212 : decode cX5_endSum 212 = .ok (.getfield 162, 3) := by decide +kernel
theorem dX5_endSum_215 : decode cX5_endSum 215 = .ok (.if_icmp .ne 7, 3) := by decide +kernel
theorem dX5_endSum_218 : decode cX5_endSum 218 = .ok (.iconst 1, 1) := by decide +kernel
theorem dX5_endSum_219 : decode cX5_endSum 219 = .ok (.goto 4, 3) := by decide +kernel
theorem dX5_endSum_222 : decode cX5_endSum 222 = .ok (.iconst 0, 1) := by decide +kernel
theorem dX5_endSum_223 : decode cX5_endSum 223 = .ok (.invokevirtual 172, 3) := by decide +kernel
theorem dX5_endSum_226 : decode cX5_endSum 226 = .ok (.aload_n 0, 1) := by decide +kernel
theorem dX5_endSum_227 : decode cX5_endSum 227 = .ok (.aload_n 0, 1) := by decide +kernel
theorem dX5_endSum_228 : decode cX5_endSum 228 = .ok (.getfield 162, 3) := by decide +kernel
theorem dX5_endSum_231 : decode cX5_endSum 231 = .ok (.ifCond .eq 7, 3) := by decide +kernel
theorem dX5_endSum_234 : decode cX5_endSum 234 = .ok (.iconst 2, 1) := by decide +kernel
theorem dX5_endSum_235 : decode cX5_endSum 235 = .ok (.goto 4, 3) := by decide +kernel
theorem dX5_endSum_238 : decode cX5_endSum 238 = .ok (.iconst 1, 1) := by decide +kernel
theorem dX5_endSum_239 : decode cX5_endSum 239 = .ok (.invokevirtual 212, 3) := by decide +kernel
theorem dX5_endSum_242 : decode cX5_endSum 242 = .ok (.aload_n 0, 1) := by decide +kernel
theorem dX5_endSum_243 : decode cX5_endSum 243 = .ok (.bipush 41, 2) := by decide +kernel
theorem dX5_endSum_245 : decode cX5_endSum 245 = .ok (.invokevirtual 127, 3) := by decide +kernel
theorem dX5_endSum_248 : decode cX5_endSum 248 = .ok (.ifCond .eq 9, 3) := by decide +kernel
theorem dX5_endSum_251 : decode cX5_endSum 251 = .ok (.aload_n 0, 1) := by decide +kernel
theorem dX5_endSum_252 : decode cX5_endSum 252 = .ok (.invokevirtual 200, 3) := by decide +kernel
theorem dX5_endSum_255 : decode cX5_endSum 255 = .ok (.iconst 0, 1) := by decide +kernel
theorem dX5_endSum_256 : decode cX5_endSum 256 = .ok (.ireturn, 1) := by decide +kernel
theorem dX5_endSum_257 : decode cX5_endSum 257 = .ok (.aload_n 0, 1) := by decide +kernel
theorem dX5_endSum_258 : decode cX5_endSum 258 = .ok (.bipush 44, 2) := by decide +kernel
theorem dX5_endSum_260 : decode cX5_endSum 260 = .ok (.invokevirtual 175, 3) := by decide +kernel
theorem dX5_endSum_263 : decode cX5_endSum 263 = .ok (.iconst 1, 1) := by decide +kernel
theorem dX5_endSum_264 : decode cX5_endSum 264 = .ok (.ireturn, 1) := by decide +kernel
theorem dX5_choose_0 : decode cX5_choose 0 = .ok (.iload_n 2, 1) := by decide +kernel
theorem dX5_choose_1 : decode cX5_choose 1 = .ok (.ifCond .ne 44, 3) := by decide +kernel
theorem dX5_choose_4 : decode cX5_choose 4 = .ok (.aload_n 0, 1) := by decide +kernel
theorem dX5_choose_5 : decode cX5_choose 5 = .ok (.aload_n 0, 1) := by decide +kernel
theorem dX5_choose_6 : decode cX5_choose 6 = .ok (.getfield 162, 3) := by decide +kernel
theorem dX5_choose_9 : decode cX5_choose 9 = .ok (.ifCond .ne 7, 3) := by decide +kernel
theorem dX5_choose_12 : decode cX5_choose 12 = .ok (.iconst 1, 1) := by decide +kernel
theorem dX5_choose_13 : decode cX5_choose 13 = .ok (.goto 4, 3) := by decide +kernel
theorem dX5_choose_16 : decode cX5_choose 16 = .ok (.iconst 0, 1) := by decide +kernel
theorem dX5_choose_17 : decode cX5_choose 17 = .ok (.invokevirtual 172, 3) := by decide +kernel
theorem dX5_choose_20 : decode cX5_choose 20 = .ok (.aload_n 0, 1) := by decide +kernel
theorem dX5_choose_21 : decode cX5_choose 21 = .ok (.bipush 63, 2) := by decide +kernel
theorem dX5_choose_23 : decode cX5_choose 23 = .ok (.invokevirtual 175, 3) := by decide +kernel
theorem dX5_choose_26 : decode cX5_choose 26 = .ok (.aload_n 0, 1) := by decide +kernel
theorem dX5_choose_27 : decode cX5_choose 27 = .ok (.getfield 69, 3) := by decide +kernel
theorem dX5_choose_30 : decode cX5_choose 30 = .ok (.iload_n 1, 1) := by decide +kernel
theorem dX5_choose_31 : decode cX5_choose 31 = .ok (.aload_n 0, 1) := by decide +kernel
theorem dX5_choose_32 : decode cX5_choose 32 = .ok (.getfield 138, 3) := by decide +kernel
theorem dX5_choose_35 : decode cX5_choose 35 = .ok (.iastore, 1) := by decide +kernel
theorem dX5_choose_36 : decode cX5_choose 36 = .ok (.aload_n 0, 1) := by decide +kernel
theorem dX5_choose_37 : decode cX5_choose 37 = .ok (.bipush 8, 2) := by decide +kernel
theorem dX5_choose_39 : decode cX5_choose 39 = .ok (.iconst 0, 1) := by decide +kernel
theorem dX5_choose_40 : decode cX5_choose 40 = .ok (.invokevirtual 158, 3) := by decide +kernel
theorem dX5_choose_43 : decode cX5_choose 43 = .ok (.iconst 1, 1) := by decide +kernel
theorem dX5_choose_44 : decode cX5_choose 44 = .ok (.ireturn, 1) := by decide +kernel
theorem dX5_choose_45 : decode cX5_choose 45 = .ok (.iload_n 2, 1) := by decide +kernel
theorem dX5_choose_46 : decode cX5_choose 46 = .ok (.iconst 1, 1) := by decide +kernel
theorem dX5_choose_47 : decode cX5_choose 47 = .ok (.if_icmp .ne 66, 3) := by decide +kernel
theorem dX5_choose_50 : decode cX5_choose 50 = .ok (.aload_n 0, 1) := by decide +kernel
theorem dX5_choose_51 : decode cX5_choose 51 = .ok (.bipush 58, 2) := by decide +kernel
theorem dX5_choose_53 : decode cX5_choose 53 = .ok (.invokevirtual 175, 3) := by decide +kernel
theorem dX5_choose_56 : decode cX5_choose 56 = .ok (.aload_n 0, 1) := by decide +kernel
theorem dX5_choose_57 : decode cX5_choose 57 = .ok (.getfield 66, 3) := by decide +kernel
theorem dX5_choose_60 : decode cX5_choose 60 = .ok (.iload_n 1, 1) := by decide +kernel
theorem dX5_choose_61 : decode cX5_choose 61 = .ok (.aload_n 0, 1) := by decide +kernel
theorem dX5_choose_62 : decode cX5_choose 62 = .ok (.getfield 162, 3) := by decide +kernel
theorem dX5_choose_65 : decode cX5_choose 65 = .ok (.bastore, 1) := by decide +kernel
theorem dX5_choose_66 : decode cX5_choose 66 = .ok (.aload_n 0, 1) := by decide +kernel
theorem dX5_choose_67 : decode cX5_choose 67 = .ok (.getfield 135, 3) := by decide +kernel
theorem dX5_choose_70 : decode cX5_choose 70 = .ok (.ifCond .ne 24, 3) := by decide +kernel
theorem dX5_choose_73 : decode cX5_choose 73 = .ok (.aload_n 0, 1) := by decide +kernel
theorem dX5_choose_74 : decode cX5_choose 74 = .ok (.getfield 48, 3) := by decide +kernel
theorem dX5_choose_77 : decode cX5_choose 77 = .ok (.sipush 780, 3) := by decide +kernel
theorem dX5_choose_80 : decode cX5_choose 80 = .ok (.aload_n 0, 1) := by decide +kernel
theorem dX5_choose_81 : decode cX5_choose 81 = .ok (.getfield 69, 3) := by decide +kernel
theorem dX5_choose_84 : decode cX5_choose 84 = .ok (.iload_n 1, 1) := by decide +kernel
theorem dX5_choose_85 : decode cX5_choose 85 = .ok (.iaload, 1) := by decide +kernel
theorem dX5_choose_86 : decode cX5_choose 86 = .ok (.iadd, 1) := by decide +kernel
theorem dX5_choose_87 : decode cX5_choose 87 = .ok (.aload_n 0, 1) := by decide +kernel
theorem dX5_choose_88 : decode cX5_choose 88 = .ok (.getfield 138, 3) := by decide +kernel
theorem dX5_choose_91 : decode cX5_choose 91 = .ok (.iconst 1, 1) := by decide +kernel
theorem dX5_choose_92 : decode cX5_choose 92 = .ok (.iadd, 1) := by decide +kernel
theorem dX5_choose_93 : decode cX5_choose 93 = .ok (.iastore, 1) := by decide +kernel
theorem dX5_choose_94 : decode cX5_choose 94 = .ok (.aload_n 0, 1) := by decide +kernel
theorem dX5_choose_95 : decode cX5_choose 95 = .ok (.getfield 69, 3) := by decide +kernel
theorem dX5_choose_98 : decode cX5_choose 98 = .ok (.iload_n 1, 1) := by decide +kernel
theorem dX5_choose_99 : decode cX5_choose 99 = .ok (.aload_n 0, 1) := by decide +kernel
theorem dX5_choose_100 : decode cX5_choose 100 = .ok (.getfield 138, 3) := by decide +kernel
theorem dX5_choose_103 : decode cX5_choose 103 = .ok (.iastore, 1) := by decide +kernel
theorem dX5_choose_104 : decode cX5_choose 104 = .ok (.aload_n 0, 1) := by decide +kernel
theorem dX5_choose_105 : decode cX5_choose 105 = .ok (.bipush 9, 2) := by decide +kernel
theorem dX5_choose_107 : decode cX5_choose 107 = .ok (.iconst 0, 1) := by decide +kernel
theorem dX5_choose_108 : decode cX5_choose 108 = .ok (.invokevirtual 158, 3) := by decide +kernel
theorem dX5_choose_111 : decode cX5_choose 111 = .ok (.iconst 1, 1) := by decide +kernel
theorem dX5_choose_112 : decode cX5_choose 112 = .ok (.ireturn, 1) := by decide +kernel
theorem dX5_choose_113 : decode cX5_choose 113 = .ok (.aload_n 0, 1) := by decide +kernel
theorem dX5_choose_114 : decode cX5_choose 114 = .ok (.aload_n 0, 1) := by decide +kernel
theorem dX5_choose_115 : decode cX5_choose 115 = .ok (.getfield 162, 3) := by decide +kernel
theorem dX5_choose_118 : decode cX5_choose 118 = .ok (.aload_n 0, 1) := by decide +kernel
theorem dX5_choose_119 : decode cX5_choose 119 = .ok (.getfield 66, 3) := by decide +kernel
theorem dX5_choose_122 : decode cX5_choose 122 = .ok (.iload_n 1, 1) := by decide +kernel
theorem dX5_choose_123 : decode cX5_choose 123 = .ok (.baload, 1) := by decide +kernel
theorem dX5_choose_124 : decode cX5_choose 124 = .ok (.if_icmp .ne 7, 3) := by decide +kernel
theorem dX5_choose_127 : decode cX5_choose 127 = .ok (.iconst 1, 1) := by decide +kernel
theorem dX5_choose_128 : decode cX5_choose 128 = .ok (.goto 4, 3) := by decide +kernel
theorem dX5_choose_131 : decode cX5_choose 131 = .ok (.iconst 0, 1) := by decide +kernel
theorem dX5_choose_132 : decode cX5_choose 132 = .ok (.invokevirtual 172, 3) := by decide +kernel
theorem dX5_choose_135 : decode cX5_choose 135 = .ok (.aload_n 0, 1) := by decide +kernel
theorem dX5_choose_136 : decode cX5_choose 136 = .ok (.aload_n 0, 1) := by decide +kernel
theorem dX5_choose_137 : decode cX5_choose 137 = .ok (.getfield 66, 3) := by decide +kernel
theorem dX5_choose_140 : decode cX5_choose 140 = .ok (.iload_n 1, 1) := by decide +kernel
theorem dX5_choose_141 : decode cX5_choose 141 = .ok (.baload, 1) := by decide +kernel
theorem dX5_choose_142 : decode cX5_choose 142 = .ok (.putfield 162, 3) := by decide +kernel
theorem dX5_choose_145 : decode cX5_choose 145 = .ok (.aload_n 0, 1) := by decide +kernel
theorem dX5_choose_146 : decode cX5_choose 146 = .ok (.bipush 93, 2) := by decide +kernel
theorem dX5_choose_148 : decode cX5_choose 148 = .ok (.invokevirtual 175, 3) := by decide +kernel
theorem dX5_choose_151 : decode cX5_choose 151 = .ok (.aload_n 0, 1) := by decide +kernel
theorem dX5_choose_152 : decode cX5_choose 152 = .ok (.getfield 135, 3) := by decide +kernel
theorem dX5_choose_155 : decode cX5_choose 155 = .ok (.ifCond .ne 22, 3) := by decide +kernel
theorem dX5_choose_158 : decode cX5_choose 158 = .ok (.aload_n 0, 1) := by decide +kernel
theorem dX5_choose_159 : decode cX5_choose 159 = .ok (.getfield 48, 3) := by decide +kernel
theorem dX5_choose_162 : decode cX5_choose 162 = .ok (.sipush 780, 3) := by decide +kernel
theorem dX5_choose_165 : decode cX5_choose 165 = .ok (.aload_n 0, 1) := by decide +kernel
theorem dX5_choose_166 : decode cX5_choose 166 = .ok (.getfield 69, 3) := by decide +kernel
theorem dX5_choose_169 : decode cX5_choose 169 = .ok (.iload_n 1, 1) := by decide +kernel
theorem dX5_choose_170 : decode cX5_choose 170 = .ok (.iaload, 1) := by decide +kernel
theorem dX5_choose_171 : decode cX5_choose 171 = .ok (.iadd, 1) := by decide +kernel
theorem dX5_choose_172 : decode cX5_choose 172 = .ok (.aload_n 0, 1) := by decide +kernel
theorem dX5_choose_173 : decode cX5_choose 173 = .ok (.getfield 138, 3) := by decide +kernel
theorem dX5_choose_176 : decode cX5_choose 176 = .ok (.iastore, 1) := by decide +kernel
theorem dX5_choose_177 : decode cX5_choose 177 = .ok (.aload_n 0, 1) := by decide +kernel
theorem dX5_choose_178 : decode cX5_choose 178 = .ok (.dup, 1) := by decide +kernel
theorem dX5_choose_179 : decode cX5_choose 179 = .ok (.getfield 151, 3) := by decide +kernel
theorem dX5_choose_182 : decode cX5_choose 182 = .ok (.iconst 1, 1) := by decide +kernel
theorem dX5_choose_183 : decode cX5_choose 183 = .ok (.isub, 1) := by decide +kernel
theorem dX5_choose_184 : decode cX5_choose 184 = .ok (.putfield 151, 3) := by decide +kernel
theorem dX5_choose_187 : decode cX5_choose 187 = .ok (.iconst 0, 1) := by decide +kernel
theorem dX5_choose_188 : decode cX5_choose 188 = .ok (.ireturn, 1) := by decide +kernel
theorem dX5_readExpression_0 : decode cX5_readExpression 0 = .ok (.aload_n 0, 1) := by decide +kernel
theorem dX5_readExpression_1 : decode cX5_readExpression 1 = .ok (.iload_n 1, 1) := by decide +kernel
theorem dX5_readExpression_2 : decode cX5_readExpression 2 = .ok (.putfield 169, 3) := by decide +kernel
theorem dX5_readExpression_5 : decode cX5_readExpression 5 = .ok (.aload_n 0, 1) := by decide +kernel
theorem dX5_readExpression_6 : decode cX5_readExpression 6 = .ok (.iconst 0, 1) := by decide +kernel
theorem dX5_readExpression_7 : decode cX5_readExpression 7 = .ok (.putfield 151, 3) := by decide +kernel
theorem dX5_readExpression_10 : decode cX5_readExpression 10 = .ok (.aload_n 0, 1) := by decide +kernel
theorem dX5_readExpression_11 : decode cX5_readExpression 11 = .ok (.iconst 0, 1) := by decide +kernel
theorem dX5_readExpression_12 : decode cX5_readExpression 12 = .ok (.putfield 141, 3) := by decide +kernel
theorem dX5_readExpression_15 : decode cX5_readExpression 15 = .ok (.aload_n 0, 1) := by decide +kernel
theorem dX5_readExpression_16 : decode cX5_readExpression 16 = .ok (.iconst 0, 1) := by decide +kernel
theorem dX5_readExpression_17 : decode cX5_readExpression 17 = .ok (.putfield 144, 3) := by decide +kernel
theorem dX5_readExpression_20 : decode cX5_readExpression 20 = .ok (.aload_n 0, 1) := by decide +kernel
theorem dX5_readExpression_21 : decode cX5_readExpression 21 = .ok (.iconst 0, 1) := by decide +kernel
theorem dX5_readExpression_22 : decode cX5_readExpression 22 = .ok (.invokevirtual 179, 3) := by decide +kernel
theorem dX5_readExpression_25 : decode cX5_readExpression 25 = .ok (.aload_n 0, 1) := by decide +kernel
theorem dX5_readExpression_26 : decode cX5_readExpression 26 = .ok (.getfield 42, 3) := by decide +kernel
theorem dX5_readExpression_29 : decode cX5_readExpression 29 = .ok (.iload_n 1, 1) := by decide +kernel
theorem dX5_readExpression_30 : decode cX5_readExpression 30 = .ok (.aload_n 0, 1) := by decide +kernel
theorem dX5_readExpression_31 : decode cX5_readExpression 31 = .ok (.getfield 138, 3) := by decide +kernel
theorem dX5_readExpression_34 : decode cX5_readExpression 34 = .ok (.iastore, 1) := by decide +kernel
theorem dX5_readExpression_35 : decode cX5_readExpression 35 = .ok (.iconst 0, 1) := by decide +kernel
theorem dX5_readExpression_36 : decode cX5_readExpression 36 = .ok (.istore_n 2, 1) := by decide +kernel
theorem dX5_readExpression_37 : decode cX5_readExpression 37 = .ok (.aload_n 0, 1) := by decide +kernel
theorem dX5_readExpression_38 : decode cX5_readExpression 38 = .ok (.getfield 116, 3) := by decide +kernel
theorem dX5_readExpression_41 : decode cX5_readExpression 41 = .ok (.ifCond .eq 71, 3) := by decide +kernel
theorem dX5_readExpression_44 : decode cX5_readExpression 44 = .ok (.iload_n 2, 1) := by decide +kernel
theorem dX5_readExpression_45 : decode cX5_readExpression 45 = .ok (.ifCond .ne 67, 3) := by decide +kernel
theorem dX5_readExpression_48 : decode cX5_readExpression 48 = .ok (.aload_n 0, 1) := by decide +kernel
theorem dX5_readExpression_49 : decode cX5_readExpression 49 = .ok (.invokevirtual 219, 3) := by decide +kernel
theorem dX5_readExpression_52 : decode cX5_readExpression 52 = .ok (.istore_n 3, 1) := by decide +kernel
theorem dX5_readExpression_53 : decode cX5_readExpression 53 = .ok (.aload_n 0, 1) := by decide +kernel
theorem dX5_readExpression_54 : decode cX5_readExpression 54 = .ok (.getfield 116, 3) := by decide +kernel
theorem dX5_readExpression_57 : decode cX5_readExpression 57 = .ok (.ifCond .eq 52, 3) := by decide +kernel
theorem dX5_readExpression_60 : decode cX5_readExpression 60 = .ok (.iload_n 3, 1) := by decide +kernel
theorem dX5_readExpression_61 : decode cX5_readExpression 61 = .ok (.ifCond .eq 48, 3) := by decide +kernel
theorem dX5_readExpression_64 : decode cX5_readExpression 64 = .ok (.iload_n 2, 1) := by decide +kernel
theorem dX5_readExpression_65 : decode cX5_readExpression 65 = .ok (.ifCond .ne 44, 3) := by decide +kernel
theorem dX5_readExpression_68 : decode cX5_readExpression 68 = .ok (.aload_n 0, 1) := by decide +kernel
theorem dX5_readExpression_69 : decode cX5_readExpression 69 = .ok (.invokevirtual 222, 3) := by decide +kernel
theorem dX5_readExpression_72 : decode cX5_readExpression 72 = .ok (.ifCond .eq 8, 3) := by decide +kernel
theorem dX5_readExpression_75 : decode cX5_readExpression 75 = .ok (.iconst 0, 1) := by decide +kernel
theorem dX5_readExpression_76 : decode cX5_readExpression 76 = .ok (.istore_n 3, 1) := by decide +kernel
theorem dX5_readExpression_77 : decode cX5_readExpression 77 = .ok (.goto (-24), 3) := by decide +kernel
theorem dX5_readExpression_80 : decode cX5_readExpression 80 = .ok (.aload_n 0, 1) := by decide +kernel
theorem dX5_readExpression_81 : decode cX5_readExpression 81 = .ok (.getfield 151, 3) := by decide +kernel
theorem dX5_readExpression_84 : decode cX5_readExpression 84 = .ok (.iconst 1, 1) := by decide +kernel
theorem dX5_readExpression_85 : decode cX5_readExpression 85 = .ok (.if_icmp .ne 8, 3) := by decide +kernel
theorem dX5_readExpression_88 : decode cX5_readExpression 88 = .ok (.iconst 1, 1) := by decide +kernel
theorem dX5_readExpression_89 : decode cX5_readExpression 89 = .ok (.istore_n 2, 1) := by decide +kernel
theorem dX5_readExpression_90 : decode cX5_readExpression 90 = .ok (.goto (-37), 3) := by decide +kernel
theorem dX5_readExpression_93 : decode cX5_readExpression 93 = .ok (.aload_n 0, 1) := by decide +kernel
theorem dX5_readExpression_94 : decode cX5_readExpression 94 = .ok (.invokevirtual 225, 3) := by decide +kernel
theorem dX5_readExpression_97 : decode cX5_readExpression 97 = .ok (.ifCond .ne 7, 3) := by decide +kernel
theorem dX5_readExpression_100 : decode cX5_readExpression 100 = .ok (.iconst 1, 1) := by decide +kernel
theorem dX5_readExpression_101 : decode cX5_readExpression 101 = .ok (.goto 4, 3) := by decide +kernel
theorem dX5_readExpression_104 : decode cX5_readExpression 104 = .ok (.iconst 0, 1) := by decide +kernel
theorem dX5_readExpression_105 : decode cX5_readExpression 105 = .ok (.istore_n 3, 1) := by decide +kernel
theorem dX5_readExpression_106 : decode cX5_readExpression 106 = .ok (.goto (-53), 3) := by decide +kernel
theorem dX5_readExpression_109 : decode cX5_readExpression 109 = .ok (.goto (-72), 3) := by decide +kernel
theorem dX5_readExpression_112 : decode cX5_readExpression 112 = .ok (.aload_n 0, 1) := by decide +kernel
theorem dX5_readExpression_113 : decode cX5_readExpression 113 = .ok (.aload_n 0, 1) := by decide +kernel
theorem dX5_readExpression_114 : decode cX5_readExpression 114 = .ok (.getfield 162, 3) := by decide +kernel
theorem dX5_readExpression_117 : decode cX5_readExpression 117 = .ok (.aload_n 0, 1) := by decide +kernel
theorem dX5_readExpression_118 : decode cX5_readExpression 118 = .ok (.getfield 36, 3) := by decide +kernel
theorem dX5_readExpression_121 : decode cX5_readExpression 121 = .ok (.iload_n 1, 1) := by decide +kernel
theorem dX5_readExpression_122 : decode cX5_readExpression 122 = .ok (.baload, 1) := by decide +kernel
theorem dX5_readExpression_123 : decode cX5_readExpression 123 = .ok (.if_icmp .ne 7, 3) := by decide +kernel
theorem dX5_readExpression_126 : decode cX5_readExpression 126 = .ok (.iconst 1, 1) := by decide +kernel
theorem dX5_readExpression_127 : decode cX5_readExpression 127 = .ok (.goto 4, 3) := by decide +kernel
theorem dX5_readExpression_130 : decode cX5_readExpression 130 = .ok (.iconst 0, 1) := by decide +kernel
theorem dX5_readExpression_131 : decode cX5_readExpression 131 = .ok (.invokevirtual 172, 3) := by decide +kernel
theorem dX5_readExpression_134 : decode cX5_readExpression 134 = .ok (.aload_n 0, 1) := by decide +kernel
theorem dX5_readExpression_135 : decode cX5_readExpression 135 = .ok (.bipush 11, 2) := by decide +kernel
theorem dX5_readExpression_137 : decode cX5_readExpression 137 = .ok (.iconst 0, 1) := by decide +kernel
theorem dX5_readExpression_138 : decode cX5_readExpression 138 = .ok (.invokevirtual 158, 3) := by decide +kernel
theorem dX5_readExpression_141 : decode cX5_readExpression 141 = .ok (.aload_n 0, 1) := by decide +kernel
theorem dX5_readExpression_142 : decode cX5_readExpression 142 = .ok (.getfield 39, 3) := by decide +kernel
theorem dX5_readExpression_145 : decode cX5_readExpression 145 = .ok (.iload_n 1, 1) := by decide +kernel
theorem dX5_readExpression_146 : decode cX5_readExpression 146 = .ok (.aload_n 0, 1) := by decide +kernel
theorem dX5_readExpression_147 : decode cX5_readExpression 147 = .ok (.getfield 144, 3) := by decide +kernel
theorem dX5_readExpression_150 : decode cX5_readExpression 150 = .ok (.iastore, 1) := by decide +kernel
theorem dX5_readExpression_151 : decode cX5_readExpression 151 = .ok (.return_, 1) := by decide +kernel
theorem dX5_readSignature_0 : decode cX5_readSignature 0 = .ok (.aload_n 0, 1) := by decide +kernel
theorem dX5_readSignature_1 : decode cX5_readSignature 1 = .ok (.getfield 30, 3) := by decide +kernel
theorem dX5_readSignature_4 : decode cX5_readSignature 4 = .ok (.iload_n 1, 1) := by decide +kernel
theorem dX5_readSignature_5 : decode cX5_readSignature 5 = .ok (.iconst 0, 1) := by decide +kernel
theorem dX5_readSignature_6 : decode cX5_readSignature 6 = .ok (.iastore, 1) := by decide +kernel
theorem dX5_readSignature_7 : decode cX5_readSignature 7 = .ok (.aload_n 0, 1) := by decide +kernel
theorem dX5_readSignature_8 : decode cX5_readSignature 8 = .ok (.bipush 40, 2) := by decide +kernel
theorem dX5_readSignature_10 : decode cX5_readSignature 10 = .ok (.invokevirtual 175, 3) := by decide +kernel
theorem dX5_readSignature_13 : decode cX5_readSignature 13 = .ok (.aload_n 0, 1) := by decide +kernel
theorem dX5_readSignature_14 : decode cX5_readSignature 14 = .ok (.getfield 116, 3) := by decide +kernel
theorem dX5_readSignature_17 : decode cX5_readSignature 17 = .ok (.ifCond .eq 70, 3) := by decide +kernel
theorem dX5_readSignature_20 : decode cX5_readSignature 20 = .ok (.aload_n 0, 1) := by decide +kernel
theorem dX5_readSignature_21 : decode cX5_readSignature 21 = .ok (.bipush 41, 2) := by decide +kernel
theorem dX5_readSignature_23 : decode cX5_readSignature 23 = .ok (.invokevirtual 127, 3) := by decide +kernel
theorem dX5_readSignature_26 : decode cX5_readSignature 26 = .ok (.ifCond .ne 61, 3) := by decide +kernel
theorem dX5_readSignature_29 : decode cX5_readSignature 29 = .ok (.aload_n 0, 1) := by decide +kernel
theorem dX5_readSignature_30 : decode cX5_readSignature 30 = .ok (.aload_n 0, 1) := by decide +kernel
theorem dX5_readSignature_31 : decode cX5_readSignature 31 = .ok (.getfield 30, 3) := by decide +kernel
theorem dX5_readSignature_34 : decode cX5_readSignature 34 = .ok (.iload_n 1, 1) := by decide +kernel
theorem dX5_readSignature_35 : decode cX5_readSignature 35 = .ok (.iaload, 1) := by decide +kernel
theorem dX5_readSignature_36 : decode cX5_readSignature 36 = .ok (.iconst 3, 1) := by decide +kernel
theorem dX5_readSignature_37 : decode cX5_readSignature 37 = .ok (.if_icmp .ge 7, 3) := by decide +kernel
theorem dX5_readSignature_40 : decode cX5_readSignature 40 = .ok (.iconst 1, 1) := by decide +kernel
theorem dX5_readSignature_41 : decode cX5_readSignature 41 = .ok (.goto 4, 3) := by decide +kernel
theorem dX5_readSignature_44 : decode cX5_readSignature 44 = .ok (.iconst 0, 1) := by decide +kernel
theorem dX5_readSignature_45 : decode cX5_readSignature 45 = .ok (.invokevirtual 131, 3) := by decide +kernel
theorem dX5_readSignature_48 : decode cX5_readSignature 48 = .ok (.aload_n 0, 1) := by decide +kernel
theorem dX5_readSignature_49 : decode cX5_readSignature 49 = .ok (.getfield 116, 3) := by decide +kernel
theorem dX5_readSignature_52 : decode cX5_readSignature 52 = .ok (.ifCond .eq 22, 3) := by decide +kernel
theorem dX5_readSignature_55 : decode cX5_readSignature 55 = .ok (.aload_n 0, 1) := by decide +kernel
theorem dX5_readSignature_56 : decode cX5_readSignature 56 = .ok (.getfield 33, 3) := by decide +kernel
theorem dX5_readSignature_59 : decode cX5_readSignature 59 = .ok (.iconst 3, 1) := by decide +kernel
theorem dX5_readSignature_60 : decode cX5_readSignature 60 = .ok (.iload_n 1, 1) := by decide +kernel
theorem dX5_readSignature_61 : decode cX5_readSignature 61 = .ok (.imul, 1) := by decide +kernel
theorem dX5_readSignature_62 : decode cX5_readSignature 62 = .ok (.aload_n 0, 1) := by decide +kernel
theorem dX5_readSignature_63 : decode cX5_readSignature 63 = .ok (.getfield 30, 3) := by decide +kernel
theorem dX5_readSignature_66 : decode cX5_readSignature 66 = .ok (.iload_n 1, 1) := by decide +kernel
theorem dX5_readSignature_67 : decode cX5_readSignature 67 = .ok (.iaload, 1) := by decide +kernel
theorem dX5_readSignature_68 : decode cX5_readSignature 68 = .ok (.iadd, 1) := by decide +kernel
theorem dX5_readSignature_69 : decode cX5_readSignature 69 = .ok (.aload_n 0, 1) := by decide +kernel
theorem dX5_readSignature_70 : decode cX5_readSignature 70 = .ok (.invokevirtual 228, 3) := by decide +kernel
theorem dX5_readSignature_73 : decode cX5_readSignature 73 = .ok (.bastore, 1) := by decide +kernel
theorem dX5_readSignature_74 : decode cX5_readSignature 74 = .ok (.aload_n 0, 1) := by decide +kernel
theorem dX5_readSignature_75 : decode cX5_readSignature 75 = .ok (.getfield 30, 3) := by decide +kernel
theorem dX5_readSignature_78 : decode cX5_readSignature 78 = .ok (.iload_n 1, 1) := by decide +kernel
theorem dX5_readSignature_79 : decode cX5_readSignature 79 = .ok (.dup2, 1) := by decide +kernel
theorem dX5_readSignature_80 : decode cX5_readSignature 80 = .ok (.iaload, 1) := by decide +kernel
theorem dX5_readSignature_81 : decode cX5_readSignature 81 = .ok (.iconst 1, 1) := by decide +kernel
theorem dX5_readSignature_82 : decode cX5_readSignature 82 = .ok (.iadd, 1) := by decide +kernel
theorem dX5_readSignature_83 : decode cX5_readSignature 83 = .ok (.iastore, 1) := by decide +kernel
theorem dX5_readSignature_84 : decode cX5_readSignature 84 = .ok (.goto (-71), 3) := by decide +kernel
theorem dX5_readSignature_87 : decode cX5_readSignature 87 = .ok (.aload_n 0, 1) := by decide +kernel
theorem dX5_readSignature_88 : decode cX5_readSignature 88 = .ok (.getfield 36, 3) := by decide +kernel
theorem dX5_readSignature_91 : decode cX5_readSignature 91 = .ok (.iload_n 1, 1) := by decide +kernel
theorem dX5_readSignature_92 : decode cX5_readSignature 92 = .ok (.aload_n 0, 1) := by decide +kernel
theorem dX5_readSignature_93 : decode cX5_readSignature 93 = .ok (.getfield 116, 3) := by decide +kernel
theorem dX5_readSignature_96 : decode cX5_readSignature 96 = .ok (.ifCond .eq 14, 3) := by decide +kernel
theorem dX5_readSignature_99 : decode cX5_readSignature 99 = .ok (.aload_n 0, 1) := by decide +kernel
theorem dX5_readSignature_100 : decode cX5_readSignature 100 = .ok (.invokevirtual 228, 3) := by decide +kernel
theorem dX5_readSignature_103 : decode cX5_readSignature 103 = .ok (.ifCond .eq 7, 3) := by decide +kernel
theorem dX5_readSignature_106 : decode cX5_readSignature 106 = .ok (.iconst 1, 1) := by decide +kernel
theorem dX5_readSignature_107 : decode cX5_readSignature 107 = .ok (.goto 4, 3) := by decide +kernel
theorem dX5_readSignature_110 : decode cX5_readSignature 110 = .ok (.iconst 0, 1) := by decide +kernel
theorem dX5_readSignature_111 : decode cX5_readSignature 111 = .ok (.bastore, 1) := by decide +kernel
theorem dX5_readSignature_112 : decode cX5_readSignature 112 = .ok (.return_, 1) := by decide +kernel
theorem dX5_readType_0 : decode cX5_readType 0 = .ok (.aload_n 0, 1) := by decide +kernel
theorem dX5_readType_1 : decode cX5_readType 1 = .ok (.bipush 80, 2) := by decide +kernel
theorem dX5_readType_3 : decode cX5_readType 3 = .ok (.invokevirtual 127, 3) := by decide +kernel
theorem dX5_readType_6 : decode cX5_readType 6 = .ok (.istore_n 1, 1) := by decide +kernel
theorem dX5_readType_7 : decode cX5_readType 7 = .ok (.iload_n 1, 1) := by decide +kernel
theorem dX5_readType_8 : decode cX5_readType 8 = .ok (.ifCond .ne 9, 3) := by decide +kernel
theorem dX5_readType_11 : decode cX5_readType 11 = .ok (.aload_n 0, 1) := by decide +kernel
theorem dX5_readType_12 : decode cX5_readType 12 = .ok (.bipush 73, 2) := by decide +kernel
theorem dX5_readType_14 : decode cX5_readType 14 = .ok (.invokevirtual 175, 3) := by decide +kernel
theorem dX5_readType_17 : decode cX5_readType 17 = .ok (.iload_n 1, 1) := by decide +kernel
theorem dX5_readType_18 : decode cX5_readType 18 = .ok (.ireturn, 1) := by decide +kernel
theorem dX5_readItem_0 : decode cX5_readItem 0 = .ok (.bipush 36, 2) := by decide +kernel
theorem dX5_readItem_2 : decode cX5_readItem 2 = .ok (.iload_n 1, 1) := by decide +kernel
theorem dX5_readItem_3 : decode cX5_readItem 3 = .ok (.iadd, 1) := by decide +kernel
theorem dX5_readItem_4 : decode cX5_readItem 4 = .ok (.istore_n 2, 1) := by decide +kernel
theorem dX5_readItem_5 : decode cX5_readItem 5 = .ok (.aload_n 0, 1) := by decide +kernel
theorem dX5_readItem_6 : decode cX5_readItem 6 = .ok (.bipush 63, 2) := by decide +kernel
theorem dX5_readItem_8 : decode cX5_readItem 8 = .ok (.invokevirtual 127, 3) := by decide +kernel
theorem dX5_readItem_11 : decode cX5_readItem 11 = .ok (.istore_n 3, 1) := by decide +kernel
theorem dX5_readItem_12 : decode cX5_readItem 12 = .ok (.iload_n 3, 1) := by decide +kernel
theorem dX5_readItem_13 : decode cX5_readItem 13 = .ok (.ifCond .eq 14, 3) := by decide +kernel
theorem dX5_readItem_16 : decode cX5_readItem 16 = .ok (.aload_n 0, 1) := by decide +kernel
theorem dX5_readItem_17 : decode cX5_readItem 17 = .ok (.bipush 65, 2) := by decide +kernel
theorem dX5_readItem_19 : decode cX5_readItem 19 = .ok (.bipush 70, 2) := by decide +kernel
theorem dX5_readItem_21 : decode cX5_readItem 21 = .ok (.invokevirtual 165, 3) := by decide +kernel
theorem dX5_readItem_24 : decode cX5_readItem 24 = .ok (.goto 4, 3) := by decide +kernel
theorem dX5_readItem_27 : decode cX5_readItem 27 = .ok (.iconst (-1), 1) := by decide +kernel
