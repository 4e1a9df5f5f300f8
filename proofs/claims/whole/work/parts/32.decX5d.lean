theorem dX5_about_109 : decode cX5_about 109 = .ok (.goto 4, 3) := by decide +kernel
theorem dX5_about_112 : decode cX5_about 112 = .ok (.iconst 1, 1) := by decide +kernel
theorem dX5_about_113 : decode cX5_about 113 = .ok (.ireturn, 1) := by decide +kernel
theorem dX5_push_0 : decode cX5_push 0 = .ok (.aload_n 0, 1) := by decide +kernel
theorem dX5_push_1 : decode cX5_push 1 = .ok (.getfield 82, 3) := by decide +kernel
theorem dX5_push_4 : decode cX5_push 4 = .ok (.aload_n 0, 1) := by decide +kernel
theorem dX5_push_5 : decode cX5_push 5 = .ok (.getfield 266, 3) := by decide +kernel
theorem dX5_push_8 : decode cX5_push 8 = .ok (.iload_n 1, 1) := by decide +kernel
theorem dX5_push_9 : decode cX5_push 9 = .ok (.iastore, 1) := by decide +kernel
theorem dX5_push_10 : decode cX5_push 10 = .ok (.aload_n 0, 1) := by decide +kernel
theorem dX5_push_11 : decode cX5_push 11 = .ok (.dup, 1) := by decide +kernel
theorem dX5_push_12 : decode cX5_push 12 = .ok (.getfield 266, 3) := by decide +kernel
theorem dX5_push_15 : decode cX5_push 15 = .ok (.iconst 1, 1) := by decide +kernel
theorem dX5_push_16 : decode cX5_push 16 = .ok (.iadd, 1) := by decide +kernel
theorem dX5_push_17 : decode cX5_push 17 = .ok (.putfield 266, 3) := by decide +kernel
theorem dX5_push_20 : decode cX5_push 20 = .ok (.return_, 1) := by decide +kernel
theorem dX5_pop_0 : decode cX5_pop 0 = .ok (.aload_n 0, 1) := by decide +kernel
theorem dX5_pop_1 : decode cX5_pop 1 = .ok (.dup, 1) := by decide +kernel
theorem dX5_pop_2 : decode cX5_pop 2 = .ok (.getfield 266, 3) := by decide +kernel
theorem dX5_pop_5 : decode cX5_pop 5 = .ok (.iconst 1, 1) := by decide +kernel
theorem dX5_pop_6 : decode cX5_pop 6 = .ok (.isub, 1) := by decide +kernel
theorem dX5_pop_7 : decode cX5_pop 7 = .ok (.putfield 266, 3) := by decide +kernel
theorem dX5_pop_10 : decode cX5_pop 10 = .ok (.aload_n 0, 1) := by decide +kernel
theorem dX5_pop_11 : decode cX5_pop 11 = .ok (.getfield 82, 3) := by decide +kernel
theorem dX5_pop_14 : decode cX5_pop 14 = .ok (.aload_n 0, 1) := by decide +kernel
theorem dX5_pop_15 : decode cX5_pop 15 = .ok (.getfield 266, 3) := by decide +kernel
theorem dX5_pop_18 : decode cX5_pop 18 = .ok (.iaload, 1) := by decide +kernel
theorem dX5_pop_19 : decode cX5_pop 19 = .ok (.ireturn, 1) := by decide +kernel
theorem dX5_enter_0 : decode cX5_enter 0 = .ok (.aload_n 0, 1) := by decide +kernel
theorem dX5_enter_1 : decode cX5_enter 1 = .ok (.getfield 269, 3) := by decide +kernel
theorem dX5_enter_4 : decode cX5_enter 4 = .ok (.ifCond .ne 5, 3) := by decide +kernel
theorem dX5_enter_7 : decode cX5_enter 7 = .ok (.iconst 2, 1) := by decide +kernel
theorem dX5_enter_8 : decode cX5_enter 8 = .ok (.ireturn, 1) := by decide +kernel
theorem dX5_enter_9 : decode cX5_enter 9 = .ok (.aload_n 0, 1) := by decide +kernel
theorem dX5_enter_10 : decode cX5_enter 10 = .ok (.dup, 1) := by decide +kernel
theorem dX5_enter_11 : decode cX5_enter 11 = .ok (.getfield 269, 3) := by decide +kernel
theorem dX5_enter_14 : decode cX5_enter 14 = .ok (.iconst 1, 1) := by decide +kernel
theorem dX5_enter_15 : decode cX5_enter 15 = .ok (.isub, 1) := by decide +kernel
theorem dX5_enter_16 : decode cX5_enter 16 = .ok (.putfield 269, 3) := by decide +kernel
theorem dX5_enter_19 : decode cX5_enter 19 = .ok (.aload_n 0, 1) := by decide +kernel
theorem dX5_enter_20 : decode cX5_enter 20 = .ok (.dup, 1) := by decide +kernel
theorem dX5_enter_21 : decode cX5_enter 21 = .ok (.getfield 272, 3) := by decide +kernel
theorem dX5_enter_24 : decode cX5_enter 24 = .ok (.iconst 1, 1) := by decide +kernel
theorem dX5_enter_25 : decode cX5_enter 25 = .ok (.iadd, 1) := by decide +kernel
theorem dX5_enter_26 : decode cX5_enter 26 = .ok (.putfield 272, 3) := by decide +kernel
theorem dX5_enter_29 : decode cX5_enter 29 = .ok (.iload_n 2, 1) := by decide +kernel
theorem dX5_enter_30 : decode cX5_enter 30 = .ok (.iconst 2, 1) := by decide +kernel
theorem dX5_enter_31 : decode cX5_enter 31 = .ok (.iadd, 1) := by decide +kernel
theorem dX5_enter_32 : decode cX5_enter 32 = .ok (.aload_n 0, 1) := by decide +kernel
theorem dX5_enter_33 : decode cX5_enter 33 = .ok (.getfield 39, 3) := by decide +kernel
theorem dX5_enter_36 : decode cX5_enter 36 = .ok (.iload_n 1, 1) := by decide +kernel
theorem dX5_enter_37 : decode cX5_enter 37 = .ok (.iaload, 1) := by decide +kernel
theorem dX5_enter_38 : decode cX5_enter 38 = .ok (.iadd, 1) := by decide +kernel
theorem dX5_enter_39 : decode cX5_enter 39 = .ok (.istore_n 3, 1) := by decide +kernel
theorem dX5_enter_40 : decode cX5_enter 40 = .ok (.iload_n 3, 1) := by decide +kernel
theorem dX5_enter_41 : decode cX5_enter 41 = .ok (.aload_n 0, 1) := by decide +kernel
theorem dX5_enter_42 : decode cX5_enter 42 = .ok (.getfield 100, 3) := by decide +kernel
theorem dX5_enter_45 : decode cX5_enter 45 = .ok (.if_icmp .le 5, 3) := by decide +kernel
theorem dX5_enter_48 : decode cX5_enter 48 = .ok (.iconst 1, 1) := by decide +kernel
theorem dX5_enter_49 : decode cX5_enter 49 = .ok (.ireturn, 1) := by decide +kernel
theorem dX5_enter_50 : decode cX5_enter 50 = .ok (.aload_n 0, 1) := by decide +kernel
theorem dX5_enter_51 : decode cX5_enter 51 = .ok (.iload_n 3, 1) := by decide +kernel
theorem dX5_enter_52 : decode cX5_enter 52 = .ok (.aload_n 0, 1) := by decide +kernel
theorem dX5_enter_53 : decode cX5_enter 53 = .ok (.getfield 275, 3) := by decide +kernel
theorem dX5_enter_56 : decode cX5_enter 56 = .ok (.if_icmp .le 7, 3) := by decide +kernel
theorem dX5_enter_59 : decode cX5_enter 59 = .ok (.iload_n 3, 1) := by decide +kernel
theorem dX5_enter_60 : decode cX5_enter 60 = .ok (.goto 7, 3) := by decide +kernel
theorem dX5_enter_63 : decode cX5_enter 63 = .ok (.aload_n 0, 1) := by decide +kernel
theorem dX5_enter_64 : decode cX5_enter 64 = .ok (.getfield 275, 3) := by decide +kernel
theorem dX5_enter_67 : decode cX5_enter 67 = .ok (.putfield 275, 3) := by decide +kernel
theorem dX5_enter_70 : decode cX5_enter 70 = .ok (.aload_n 0, 1) := by decide +kernel
theorem dX5_enter_71 : decode cX5_enter 71 = .ok (.getfield 85, 3) := by decide +kernel
theorem dX5_enter_74 : decode cX5_enter 74 = .ok (.aload_n 0, 1) := by decide +kernel
theorem dX5_enter_75 : decode cX5_enter 75 = .ok (.getfield 278, 3) := by decide +kernel
theorem dX5_enter_78 : decode cX5_enter 78 = .ok (.iload_n 1, 1) := by decide +kernel
theorem dX5_enter_79 : decode cX5_enter 79 = .ok (.bipush 6, 2) := by decide +kernel
theorem dX5_enter_81 : decode cX5_enter 81 = .ok (.idiv, 1) := by decide +kernel
theorem dX5_enter_82 : decode cX5_enter 82 = .ok (.iastore, 1) := by decide +kernel
theorem dX5_enter_83 : decode cX5_enter 83 = .ok (.aload_n 0, 1) := by decide +kernel
theorem dX5_enter_84 : decode cX5_enter 84 = .ok (.getfield 88, 3) := by decide +kernel
theorem dX5_enter_87 : decode cX5_enter 87 = .ok (.aload_n 0, 1) := by decide +kernel
theorem dX5_enter_88 : decode cX5_enter 88 = .ok (.getfield 278, 3) := by decide +kernel
theorem dX5_enter_91 : decode cX5_enter 91 = .ok (.iload_n 1, 1) := by decide +kernel
theorem dX5_enter_92 : decode cX5_enter 92 = .ok (.iastore, 1) := by decide +kernel
theorem dX5_enter_93 : decode cX5_enter 93 = .ok (.aload_n 0, 1) := by decide +kernel
theorem dX5_enter_94 : decode cX5_enter 94 = .ok (.getfield 91, 3) := by decide +kernel
theorem dX5_enter_97 : decode cX5_enter 97 = .ok (.aload_n 0, 1) := by decide +kernel
theorem dX5_enter_98 : decode cX5_enter 98 = .ok (.getfield 278, 3) := by decide +kernel
theorem dX5_enter_101 : decode cX5_enter 101 = .ok (.aload_n 0, 1) := by decide +kernel
theorem dX5_enter_102 : decode cX5_enter 102 = .ok (.getfield 42, 3) := by decide +kernel
theorem dX5_enter_105 : decode cX5_enter 105 = .ok (.iload_n 1, 1) := by decide +kernel
theorem dX5_enter_106 : decode cX5_enter 106 = .ok (.iaload, 1) := by decide +kernel
theorem dX5_enter_107 : decode cX5_enter 107 = .ok (.iastore, 1) := by decide +kernel
theorem dX5_enter_108 : decode cX5_enter 108 = .ok (.aload_n 0, 1) := by decide +kernel
theorem dX5_enter_109 : decode cX5_enter 109 = .ok (.getfield 94, 3) := by decide +kernel
theorem dX5_enter_112 : decode cX5_enter 112 = .ok (.aload_n 0, 1) := by decide +kernel
theorem dX5_enter_113 : decode cX5_enter 113 = .ok (.getfield 278, 3) := by decide +kernel
theorem dX5_enter_116 : decode cX5_enter 116 = .ok (.aload_n 0, 1) := by decide +kernel
theorem dX5_enter_117 : decode cX5_enter 117 = .ok (.getfield 266, 3) := by decide +kernel
theorem dX5_enter_120 : decode cX5_enter 120 = .ok (.aload_n 0, 1) := by decide +kernel
theorem dX5_enter_121 : decode cX5_enter 121 = .ok (.iload_n 1, 1) := by decide +kernel
theorem dX5_enter_122 : decode cX5_enter 122 = .ok (.invokevirtual 263, 3) := by decide +kernel
theorem dX5_enter_125 : decode cX5_enter 125 = .ok (.isub, 1) := by decide +kernel
theorem dX5_enter_126 : decode cX5_enter 126 = .ok (.iastore, 1) := by decide +kernel
theorem dX5_enter_127 : decode cX5_enter 127 = .ok (.aload_n 0, 1) := by decide +kernel
theorem dX5_enter_128 : decode cX5_enter 128 = .ok (.getfield 97, 3) := by decide +kernel
theorem dX5_enter_131 : decode cX5_enter 131 = .ok (.aload_n 0, 1) := by decide +kernel
theorem dX5_enter_132 : decode cX5_enter 132 = .ok (.getfield 278, 3) := by decide +kernel
theorem dX5_enter_135 : decode cX5_enter 135 = .ok (.iload_n 2, 1) := by decide +kernel
theorem dX5_enter_136 : decode cX5_enter 136 = .ok (.iconst 2, 1) := by decide +kernel
theorem dX5_enter_137 : decode cX5_enter 137 = .ok (.iadd, 1) := by decide +kernel
theorem dX5_enter_138 : decode cX5_enter 138 = .ok (.iastore, 1) := by decide +kernel
theorem dX5_enter_139 : decode cX5_enter 139 = .ok (.aload_n 0, 1) := by decide +kernel
theorem dX5_enter_140 : decode cX5_enter 140 = .ok (.dup, 1) := by decide +kernel
theorem dX5_enter_141 : decode cX5_enter 141 = .ok (.getfield 278, 3) := by decide +kernel
theorem dX5_enter_144 : decode cX5_enter 144 = .ok (.iconst 1, 1) := by decide +kernel
theorem dX5_enter_145 : decode cX5_enter 145 = .ok (.iadd, 1) := by decide +kernel
theorem dX5_enter_146 : decode cX5_enter 146 = .ok (.putfield 278, 3) := by decide +kernel
theorem dX5_enter_149 : decode cX5_enter 149 = .ok (.iconst 0, 1) := by decide +kernel
theorem dX5_enter_150 : decode cX5_enter 150 = .ok (.ireturn, 1) := by decide +kernel
theorem dX5_leave_0 : decode cX5_leave 0 = .ok (.aload_n 0, 1) := by decide +kernel
theorem dX5_leave_1 : decode cX5_leave 1 = .ok (.dup, 1) := by decide +kernel
theorem dX5_leave_2 : decode cX5_leave 2 = .ok (.getfield 278, 3) := by decide +kernel
theorem dX5_leave_5 : decode cX5_leave 5 = .ok (.iconst 1, 1) := by decide +kernel
theorem dX5_leave_6 : decode cX5_leave 6 = .ok (.isub, 1) := by decide +kernel
theorem dX5_leave_7 : decode cX5_leave 7 = .ok (.putfield 278, 3) := by decide +kernel
theorem dX5_leave_10 : decode cX5_leave 10 = .ok (.aload_n 0, 1) := by decide +kernel
theorem dX5_leave_11 : decode cX5_leave 11 = .ok (.getfield 36, 3) := by decide +kernel
theorem dX5_leave_14 : decode cX5_leave 14 = .ok (.aload_n 0, 1) := by decide +kernel
theorem dX5_leave_15 : decode cX5_leave 15 = .ok (.getfield 88, 3) := by decide +kernel
theorem dX5_leave_18 : decode cX5_leave 18 = .ok (.aload_n 0, 1) := by decide +kernel
theorem dX5_leave_19 : decode cX5_leave 19 = .ok (.getfield 278, 3) := by decide +kernel
theorem dX5_leave_22 : decode cX5_leave 22 = .ok (.iaload, 1) := by decide +kernel
theorem dX5_leave_23 : decode cX5_leave 23 = .ok (.baload, 1) := by decide +kernel
theorem dX5_leave_24 : decode cX5_leave 24 = .ok (.istore_n 1, 1) := by decide +kernel
theorem dX5_leave_25 : decode cX5_leave 25 = .ok (.iload_n 1, 1) := by decide +kernel
theorem dX5_leave_26 : decode cX5_leave 26 = .ok (.ifCond .eq 10, 3) := by decide +kernel
theorem dX5_leave_29 : decode cX5_leave 29 = .ok (.aload_n 0, 1) := by decide +kernel
theorem dX5_leave_30 : decode cX5_leave 30 = .ok (.invokevirtual 281, 3) := by decide +kernel
theorem dX5_leave_33 : decode cX5_leave 33 = .ok (.goto 4, 3) := by decide +kernel
theorem dX5_leave_36 : decode cX5_leave 36 = .ok (.iconst 0, 1) := by decide +kernel
theorem dX5_leave_37 : decode cX5_leave 37 = .ok (.istore_n 2, 1) := by decide +kernel
theorem dX5_leave_38 : decode cX5_leave 38 = .ok (.aload_n 0, 1) := by decide +kernel
theorem dX5_leave_39 : decode cX5_leave 39 = .ok (.invokevirtual 281, 3) := by decide +kernel
theorem dX5_leave_42 : decode cX5_leave 42 = .ok (.istore_n 3, 1) := by decide +kernel
theorem dX5_leave_43 : decode cX5_leave 43 = .ok (.aload_n 0, 1) := by decide +kernel
theorem dX5_leave_44 : decode cX5_leave 44 = .ok (.aload_n 0, 1) := by decide +kernel
theorem dX5_leave_45 : decode cX5_leave 45 = .ok (.getfield 94, 3) := by decide +kernel
theorem dX5_leave_48 : decode cX5_leave 48 = .ok (.aload_n 0, 1) := by decide +kernel
theorem dX5_leave_49 : decode cX5_leave 49 = .ok (.getfield 278, 3) := by decide +kernel
theorem dX5_leave_52 : decode cX5_leave 52 = .ok (.iaload, 1) := by decide +kernel
theorem dX5_leave_53 : decode cX5_leave 53 = .ok (.putfield 266, 3) := by decide +kernel
theorem dX5_leave_56 : decode cX5_leave 56 = .ok (.aload_n 0, 1) := by decide +kernel
theorem dX5_leave_57 : decode cX5_leave 57 = .ok (.iload_n 3, 1) := by decide +kernel
theorem dX5_leave_58 : decode cX5_leave 58 = .ok (.invokevirtual 284, 3) := by decide +kernel
theorem dX5_leave_61 : decode cX5_leave 61 = .ok (.iload_n 1, 1) := by decide +kernel
theorem dX5_leave_62 : decode cX5_leave 62 = .ok (.ifCond .eq 8, 3) := by decide +kernel
theorem dX5_leave_65 : decode cX5_leave 65 = .ok (.aload_n 0, 1) := by decide +kernel
theorem dX5_leave_66 : decode cX5_leave 66 = .ok (.iload_n 2, 1) := by decide +kernel
theorem dX5_leave_67 : decode cX5_leave 67 = .ok (.invokevirtual 284, 3) := by decide +kernel
theorem dX5_leave_70 : decode cX5_leave 70 = .ok (.return_, 1) := by decide +kernel
theorem dX5_invoke_0 : decode cX5_invoke 0 = .ok (.aload_n 0, 1) := by decide +kernel
theorem dX5_invoke_1 : decode cX5_invoke 1 = .ok (.iload_n 1, 1) := by decide +kernel
theorem dX5_invoke_2 : decode cX5_invoke 2 = .ok (.iload_n 2, 1) := by decide +kernel
theorem dX5_invoke_3 : decode cX5_invoke 3 = .ok (.bipush 26, 2) := by decide +kernel
theorem dX5_invoke_5 : decode cX5_invoke 5 = .ok (.irem, 1) := by decide +kernel
theorem dX5_invoke_6 : decode cX5_invoke 6 = .ok (.iload_n 2, 1) := by decide +kernel
theorem dX5_invoke_7 : decode cX5_invoke 7 = .ok (.bipush 26, 2) := by decide +kernel
theorem dX5_invoke_9 : decode cX5_invoke 9 = .ok (.idiv, 1) := by decide +kernel
theorem dX5_invoke_10 : decode cX5_invoke 10 = .ok (.iconst 1, 1) := by decide +kernel
theorem dX5_invoke_11 : decode cX5_invoke 11 = .ok (.isub, 1) := by decide +kernel
theorem dX5_invoke_12 : decode cX5_invoke 12 = .ok (.invokevirtual 183, 3) := by decide +kernel
theorem dX5_invoke_15 : decode cX5_invoke 15 = .ok (.istore 4, 2) := by decide +kernel
theorem dX5_invoke_17 : decode cX5_invoke 17 = .ok (.aload_n 0, 1) := by decide +kernel
theorem dX5_invoke_18 : decode cX5_invoke 18 = .ok (.iload_n 2, 1) := by decide +kernel
theorem dX5_invoke_19 : decode cX5_invoke 19 = .ok (.bipush 26, 2) := by decide +kernel
theorem dX5_invoke_21 : decode cX5_invoke 21 = .ok (.idiv, 1) := by decide +kernel
theorem dX5_invoke_22 : decode cX5_invoke 22 = .ok (.ifCond .ne 8, 3) := by decide +kernel
theorem dX5_invoke_25 : decode cX5_invoke 25 = .ok (.iload 4, 2) := by decide +kernel
theorem dX5_invoke_27 : decode cX5_invoke 27 = .ok (.goto 9, 3) := by decide +kernel
theorem dX5_invoke_30 : decode cX5_invoke 30 = .ok (.aload_n 0, 1) := by decide +kernel
theorem dX5_invoke_31 : decode cX5_invoke 31 = .ok (.iload 4, 2) := by decide +kernel
theorem dX5_invoke_33 : decode cX5_invoke 33 = .ok (.invokevirtual 260, 3) := by decide +kernel
theorem dX5_invoke_36 : decode cX5_invoke 36 = .ok (.iload_n 3, 1) := by decide +kernel
theorem dX5_invoke_37 : decode cX5_invoke 37 = .ok (.invokevirtual 287, 3) := by decide +kernel
theorem dX5_invoke_40 : decode cX5_invoke 40 = .ok (.ireturn, 1) := by decide +kernel
theorem dX5_work_0 : decode cX5_work 0 = .ok (.iload_n 1, 1) := by decide +kernel
theorem dX5_work_1 : decode cX5_work 1 = .ok (.iconst 3, 1) := by decide +kernel
theorem dX5_work_2 : decode cX5_work 2 = .ok (.if_icmp .lt 8, 3) := by decide +kernel
theorem dX5_work_5 : decode cX5_work 5 = .ok (.iload_n 1, 1) := by decide +kernel
theorem dX5_work_6 : decode cX5_work 6 = .ok (.iconst 5, 1) := by decide +kernel
theorem dX5_work_7 : decode cX5_work 7 = .ok (.if_icmp .le 7, 3) := by decide +kernel
theorem dX5_work_10 : decode cX5_work 10 = .ok (.iconst 0, 1) := by decide +kernel
theorem dX5_work_11 : decode cX5_work 11 = .ok (.goto 7, 3) := by decide +kernel
theorem dX5_work_14 : decode cX5_work 14 = .ok (.aload_n 0, 1) := by decide +kernel
theorem dX5_work_15 : decode cX5_work 15 = .ok (.invokevirtual 281, 3) := by decide +kernel
theorem dX5_work_18 : decode cX5_work 18 = .ok (.istore 4, 2) := by decide +kernel
theorem dX5_work_20 : decode cX5_work 20 = .ok (.iload_n 1, 1) := by decide +kernel
theorem dX5_work_21 : decode cX5_work 21 = .ok (.tableswitch 150 0 6 #[43, 51, 66, 95, 109, 123, 137], 43) := by decide +kernel
theorem dX5_work_64 : decode cX5_work 64 = .ok (.aload_n 0, 1) := by decide +kernel
theorem dX5_work_65 : decode cX5_work 65 = .ok (.iload_n 2, 1) := by decide +kernel
theorem dX5_work_66 : decode cX5_work 66 = .ok (.invokevirtual 284, 3) := by decide +kernel
theorem dX5_work_69 : decode cX5_work 69 = .ok (.goto 134, 3) := by decide +kernel
theorem dX5_work_72 : decode cX5_work 72 = .ok (.aload_n 0, 1) := by decide +kernel
theorem dX5_work_73 : decode cX5_work 73 = .ok (.aload_n 0, 1) := by decide +kernel
theorem dX5_work_74 : decode cX5_work 74 = .ok (.getfield 82, 3) := by decide +kernel
theorem dX5_work_77 : decode cX5_work 77 = .ok (.iload_n 3, 1) := by decide +kernel
theorem dX5_work_78 : decode cX5_work 78 = .ok (.iload_n 2, 1) := by decide +kernel
theorem dX5_work_79 : decode cX5_work 79 = .ok (.iadd, 1) := by decide +kernel
theorem dX5_work_80 : decode cX5_work 80 = .ok (.iaload, 1) := by decide +kernel
theorem dX5_work_81 : decode cX5_work 81 = .ok (.invokevirtual 284, 3) := by decide +kernel
theorem dX5_work_84 : decode cX5_work 84 = .ok (.goto 119, 3) := by decide +kernel
theorem dX5_work_87 : decode cX5_work 87 = .ok (.aload_n 0, 1) := by decide +kernel
theorem dX5_work_88 : decode cX5_work 88 = .ok (.aload_n 0, 1) := by decide +kernel
theorem dX5_work_89 : decode cX5_work 89 = .ok (.getfield 82, 3) := by decide +kernel
theorem dX5_work_92 : decode cX5_work 92 = .ok (.iload_n 3, 1) := by decide +kernel
theorem dX5_work_93 : decode cX5_work 93 = .ok (.iload_n 2, 1) := by decide +kernel
theorem dX5_work_94 : decode cX5_work 94 = .ok (.iadd, 1) := by decide +kernel
theorem dX5_work_95 : decode cX5_work 95 = .ok (.iaload, 1) := by decide +kernel
theorem dX5_work_96 : decode cX5_work 96 = .ok (.invokevirtual 284, 3) := by decide +kernel
theorem dX5_work_99 : decode cX5_work 99 = .ok (.aload_n 0, 1) := by decide +kernel
theorem dX5_work_100 : decode cX5_work 100 = .ok (.aload_n 0, 1) := by decide +kernel
theorem dX5_work_101 : decode cX5_work 101 = .ok (.getfield 82, 3) := by decide +kernel
theorem dX5_work_104 : decode cX5_work 104 = .ok (.iload_n 3, 1) := by decide +kernel
theorem dX5_work_105 : decode cX5_work 105 = .ok (.iload_n 2, 1) := by decide +kernel
theorem dX5_work_106 : decode cX5_work 106 = .ok (.iadd, 1) := by decide +kernel
theorem dX5_work_107 : decode cX5_work 107 = .ok (.iconst 1, 1) := by decide +kernel
theorem dX5_work_108 : decode cX5_work 108 = .ok (.iadd, 1) := by decide +kernel
theorem dX5_work_109 : decode cX5_work 109 = .ok (.iaload, 1) := by decide +kernel
theorem dX5_work_110 : decode cX5_work 110 = .ok (.invokevirtual 284, 3) := by decide +kernel
theorem dX5_work_113 : decode cX5_work 113 = .ok (.goto 90, 3) := by decide +kernel
theorem dX5_work_116 : decode cX5_work 116 = .ok (.aload_n 0, 1) := by decide +kernel
theorem dX5_work_117 : decode cX5_work 117 = .ok (.aload_n 0, 1) := by decide +kernel
theorem dX5_work_118 : decode cX5_work 118 = .ok (.invokevirtual 281, 3) := by decide +kernel
theorem dX5_work_121 : decode cX5_work 121 = .ok (.iload 4, 2) := by decide +kernel
theorem dX5_work_123 : decode cX5_work 123 = .ok (.iadd, 1) := by decide +kernel
theorem dX5_work_124 : decode cX5_work 124 = .ok (.invokevirtual 284, 3) := by decide +kernel
theorem dX5_work_127 : decode cX5_work 127 = .ok (.goto 76, 3) := by decide +kernel
theorem dX5_work_130 : decode cX5_work 130 = .ok (.aload_n 0, 1) := by decide +kernel
theorem dX5_work_131 : decode cX5_work 131 = .ok (.aload_n 0, 1) := by decide +kernel
theorem dX5_work_132 : decode cX5_work 132 = .ok (.invokevirtual 281, 3) := by decide +kernel
theorem dX5_work_135 : decode cX5_work 135 = .ok (.iload 4, 2) := by decide +kernel
theorem dX5_work_137 : decode cX5_work 137 = .ok (.isub, 1) := by decide +kernel
theorem dX5_work_138 : decode cX5_work 138 = .ok (.invokevirtual 284, 3) := by decide +kernel
theorem dX5_work_141 : decode cX5_work 141 = .ok (.goto 62, 3) := by decide +kernel
theorem dX5_work_144 : decode cX5_work 144 = .ok (.aload_n 0, 1) := by decide +kernel
theorem dX5_work_145 : decode cX5_work 145 = .ok (.aload_n 0, 1) := by decide +kernel
theorem dX5_work_146 : decode cX5_work 146 = .ok (.invokevirtual 281, 3) := by decide +kernel
theorem dX5_work_149 : decode cX5_work 149 = .ok (.iload 4, 2) := by decide +kernel
theorem dX5_work_151 : decode cX5_work 151 = .ok (.imul, 1) := by decide +kernel
theorem dX5_work_152 : decode cX5_work 152 = .ok (.invokevirtual 284, 3) := by decide +kernel
theorem dX5_work_155 : decode cX5_work 155 = .ok (.goto 48, 3) := by decide +kernel
theorem dX5_work_158 : decode cX5_work 158 = .ok (.aload_n 0, 1) := by decide +kernel
theorem dX5_work_159 : decode cX5_work 159 = .ok (.dup, 1) := by decide +kernel
theorem dX5_work_160 : decode cX5_work 160 = .ok (.getfield 266, 3) := by decide +kernel
theorem dX5_work_163 : decode cX5_work 163 = .ok (.iconst 1, 1) := by decide +kernel
theorem dX5_work_164 : decode cX5_work 164 = .ok (.isub, 1) := by decide +kernel
theorem dX5_work_165 : decode cX5_work 165 = .ok (.putfield 266, 3) := by decide +kernel
theorem dX5_work_168 : decode cX5_work 168 = .ok (.goto 35, 3) := by decide +kernel
theorem dX5_work_171 : decode cX5_work 171 = .ok (.aload_n 0, 1) := by decide +kernel
theorem dX5_work_172 : decode cX5_work 172 = .ok (.getfield 82, 3) := by decide +kernel
theorem dX5_work_175 : decode cX5_work 175 = .ok (.aload_n 0, 1) := by decide +kernel
theorem dX5_work_176 : decode cX5_work 176 = .ok (.getfield 266, 3) := by decide +kernel
theorem dX5_work_179 : decode cX5_work 179 = .ok (.iconst 2, 1) := by decide +kernel
theorem dX5_work_180 : decode cX5_work 180 = .ok (.isub, 1) := by decide +kernel
theorem dX5_work_181 : decode cX5_work 181 = .ok (.aload_n 0, 1) := by decide +kernel
theorem dX5_work_182 : decode cX5_work 182 = .ok (.getfield 82, 3) := by decide +kernel
theorem dX5_work_185 : decode cX5_work 185 = .ok (.aload_n 0, 1) := by decide +kernel
theorem dX5_work_186 : decode cX5_work 186 = .ok (.getfield 266, 3) := by decide +kernel
theorem dX5_work_189 : decode cX5_work 189 = .ok (.iconst 1, 1) := by decide +kernel
theorem dX5_work_190 : decode cX5_work 190 = .ok (.isub, 1) := by decide +kernel
theorem dX5_work_191 : decode cX5_work 191 = .ok (.iaload, 1) := by decide +kernel
theorem dX5_work_192 : decode cX5_work 192 = .ok (.iastore, 1) := by decide +kernel
theorem dX5_work_193 : decode cX5_work 193 = .ok (.aload_n 0, 1) := by decide +kernel
theorem dX5_work_194 : decode cX5_work 194 = .ok (.dup, 1) := by decide +kernel
theorem dX5_work_195 : decode cX5_work 195 = .ok (.getfield 266, 3) := by decide +kernel
theorem dX5_work_198 : decode cX5_work 198 = .ok (.iconst 1, 1) := by decide +kernel
theorem dX5_work_199 : decode cX5_work 199 = .ok (.isub, 1) := by decide +kernel
theorem dX5_work_200 : decode cX5_work 200 = .ok (.putfield 266, 3) := by decide +kernel
theorem dX5_work_203 : decode cX5_work 203 = .ok (.return_, 1) := by decide +kernel
theorem dX5_go_0 : decode cX5_go 0 = .ok (.iconst 0, 1) := by decide +kernel
theorem dX5_go_1 : decode cX5_go 1 = .ok (.istore_n 1, 1) := by decide +kernel
theorem dX5_go_2 : decode cX5_go 2 = .ok (.aload_n 0, 1) := by decide +kernel
theorem dX5_go_3 : decode cX5_go 3 = .ok (.getfield 278, 3) := by decide +kernel
theorem dX5_go_6 : decode cX5_go 6 = .ok (.ifCond .le 171, 3) := by decide +kernel
theorem dX5_go_9 : decode cX5_go 9 = .ok (.iload_n 1, 1) := by decide +kernel
theorem dX5_go_10 : decode cX5_go 10 = .ok (.ifCond .ne 167, 3) := by decide +kernel
theorem dX5_go_13 : decode cX5_go 13 = .ok (.aload_n 0, 1) := by decide +kernel
theorem dX5_go_14 : decode cX5_go 14 = .ok (.getfield 278, 3) := by decide +kernel
theorem dX5_go_17 : decode cX5_go 17 = .ok (.iconst 1, 1) := by decide +kernel
theorem dX5_go_18 : decode cX5_go 18 = .ok (.isub, 1) := by decide +kernel
theorem dX5_go_19 : decode cX5_go 19 = .ok (.istore_n 2, 1) := by decide +kernel
theorem dX5_go_20 : decode cX5_go 20 = .ok (.aload_n 0, 1) := by decide +kernel
theorem dX5_go_21 : decode cX5_go 21 = .ok (.getfield 85, 3) := by decide +kernel
theorem dX5_go_24 : decode cX5_go 24 = .ok (.iload_n 2, 1) := by decide +kernel
theorem dX5_go_25 : decode cX5_go 25 = .ok (.iaload, 1) := by decide +kernel
theorem dX5_go_26 : decode cX5_go 26 = .ok (.istore_n 3, 1) := by decide +kernel
theorem dX5_go_27 : decode cX5_go 27 = .ok (.sipush 130, 3) := by decide +kernel
theorem dX5_go_30 : decode cX5_go 30 = .ok (.iload_n 3, 1) := by decide +kernel
theorem dX5_go_31 : decode cX5_go 31 = .ok (.imul, 1) := by decide +kernel
theorem dX5_go_32 : decode cX5_go 32 = .ok (.aload_n 0, 1) := by decide +kernel
theorem dX5_go_33 : decode cX5_go 33 = .ok (.getfield 91, 3) := by decide +kernel
theorem dX5_go_36 : decode cX5_go 36 = .ok (.iload_n 2, 1) := by decide +kernel
theorem dX5_go_37 : decode cX5_go 37 = .ok (.iaload, 1) := by decide +kernel
theorem dX5_go_38 : decode cX5_go 38 = .ok (.iadd, 1) := by decide +kernel
theorem dX5_go_39 : decode cX5_go 39 = .ok (.istore 4, 2) := by decide +kernel
theorem dX5_go_41 : decode cX5_go 41 = .ok (.aload_n 0, 1) := by decide +kernel
theorem dX5_go_42 : decode cX5_go 42 = .ok (.getfield 91, 3) := by decide +kernel
theorem dX5_go_45 : decode cX5_go 45 = .ok (.iload_n 2, 1) := by decide +kernel
theorem dX5_go_46 : decode cX5_go 46 = .ok (.dup2, 1) := by decide +kernel
theorem dX5_go_47 : decode cX5_go 47 = .ok (.iaload, 1) := by decide +kernel
theorem dX5_go_48 : decode cX5_go 48 = .ok (.iconst 1, 1) := by decide +kernel
theorem dX5_go_49 : decode cX5_go 49 = .ok (.iadd, 1) := by decide +kernel
theorem dX5_go_50 : decode cX5_go 50 = .ok (.iastore, 1) := by decide +kernel
theorem dX5_go_51 : decode cX5_go 51 = .ok (.aload_n 0, 1) := by decide +kernel
theorem dX5_go_52 : decode cX5_go 52 = .ok (.getfield 45, 3) := by decide +kernel
theorem dX5_go_55 : decode cX5_go 55 = .ok (.iload 4, 2) := by decide +kernel
theorem dX5_go_57 : decode cX5_go 57 = .ok (.iaload, 1) := by decide +kernel
theorem dX5_go_58 : decode cX5_go 58 = .ok (.istore 5, 2) := by decide +kernel
theorem dX5_go_60 : decode cX5_go 60 = .ok (.iload 5, 2) := by decide +kernel
theorem dX5_go_62 : decode cX5_go 62 = .ok (.bipush 10, 2) := by decide +kernel
theorem dX5_go_64 : decode cX5_go 64 = .ok (.if_icmp .ne 33, 3) := by decide +kernel
theorem dX5_go_67 : decode cX5_go 67 = .ok (.aload_n 0, 1) := by decide +kernel
theorem dX5_go_68 : decode cX5_go 68 = .ok (.iload_n 3, 1) := by decide +kernel
theorem dX5_go_69 : decode cX5_go 69 = .ok (.aload_n 0, 1) := by decide +kernel
theorem dX5_go_70 : decode cX5_go 70 = .ok (.getfield 48, 3) := by decide +kernel
theorem dX5_go_73 : decode cX5_go 73 = .ok (.iload 4, 2) := by decide +kernel
theorem dX5_go_75 : decode cX5_go 75 = .ok (.iaload, 1) := by decide +kernel
theorem dX5_go_76 : decode cX5_go 76 = .ok (.aload_n 0, 1) := by decide +kernel
theorem dX5_go_77 : decode cX5_go 77 = .ok (.getfield 97, 3) := by decide +kernel
theorem dX5_go_80 : decode cX5_go 80 = .ok (.iload_n 2, 1) := by decide +kernel
theorem dX5_go_81 : decode cX5_go 81 = .ok (.iaload, 1) := by decide +kernel
theorem dX5_go_82 : decode cX5_go 82 = .ok (.aload_n 0, 1) := by decide +kernel
theorem dX5_go_83 : decode cX5_go 83 = .ok (.getfield 51, 3) := by decide +kernel
theorem dX5_go_86 : decode cX5_go 86 = .ok (.iload 4, 2) := by decide +kernel
theorem dX5_go_88 : decode cX5_go 88 = .ok (.iaload, 1) := by decide +kernel
theorem dX5_go_89 : decode cX5_go 89 = .ok (.iadd, 1) := by decide +kernel
theorem dX5_go_90 : decode cX5_go 90 = .ok (.invokevirtual 290, 3) := by decide +kernel
theorem dX5_go_93 : decode cX5_go 93 = .ok (.istore_n 1, 1) := by decide +kernel
theorem dX5_go_94 : decode cX5_go 94 = .ok (.goto 80, 3) := by decide +kernel
theorem dX5_go_97 : decode cX5_go 97 = .ok (.iload 5, 2) := by decide +kernel
theorem dX5_go_99 : decode cX5_go 99 = .ok (.bipush 11, 2) := by decide +kernel
theorem dX5_go_101 : decode cX5_go 101 = .ok (.if_icmp .ne 10, 3) := by decide +kernel
theorem dX5_go_104 : decode cX5_go 104 = .ok (.aload_n 0, 1) := by decide +kernel
theorem dX5_go_105 : decode cX5_go 105 = .ok (.invokevirtual 293, 3) := by decide +kernel
theorem dX5_go_108 : decode cX5_go 108 = .ok (.goto 66, 3) := by decide +kernel
theorem dX5_go_111 : decode cX5_go 111 = .ok (.iload 5, 2) := by decide +kernel
theorem dX5_go_113 : decode cX5_go 113 = .ok (.bipush 9, 2) := by decide +kernel
theorem dX5_go_115 : decode cX5_go 115 = .ok (.if_icmp .eq 17, 3) := by decide +kernel
theorem dX5_go_118 : decode cX5_go 118 = .ok (.iload 5, 2) := by decide +kernel
theorem dX5_go_120 : decode cX5_go 120 = .ok (.bipush 8, 2) := by decide +kernel
theorem dX5_go_122 : decode cX5_go 122 = .ok (.if_icmp .ne 26, 3) := by decide +kernel
theorem dX5_go_125 : decode cX5_go 125 = .ok (.aload_n 0, 1) := by decide +kernel
theorem dX5_go_126 : decode cX5_go 126 = .ok (.invokevirtual 281, 3) := by decide +kernel
theorem dX5_go_129 : decode cX5_go 129 = .ok (.ifCond .ne 19, 3) := by decide +kernel
theorem dX5_go_132 : decode cX5_go 132 = .ok (.aload_n 0, 1) := by decide +kernel
theorem dX5_go_133 : decode cX5_go 133 = .ok (.getfield 91, 3) := by decide +kernel
theorem dX5_go_136 : decode cX5_go 136 = .ok (.iload_n 2, 1) := by decide +kernel
theorem dX5_go_137 : decode cX5_go 137 = .ok (.aload_n 0, 1) := by decide +kernel
theorem dX5_go_138 : decode cX5_go 138 = .ok (.getfield 48, 3) := by decide +kernel
theorem dX5_go_141 : decode cX5_go 141 = .ok (.iload 4, 2) := by decide +kernel
theorem dX5_go_143 : decode cX5_go 143 = .ok (.iaload, 1) := by decide +kernel
theorem dX5_go_144 : decode cX5_go 144 = .ok (.iastore, 1) := by decide +kernel
theorem dX5_go_145 : decode cX5_go 145 = .ok (.goto 29, 3) := by decide +kernel
theorem dX5_go_148 : decode cX5_go 148 = .ok (.iload 5, 2) := by decide +kernel
theorem dX5_go_150 : decode cX5_go 150 = .ok (.bipush 8, 2) := by decide +kernel
theorem dX5_go_152 : decode cX5_go 152 = .ok (.if_icmp .eq 22, 3) := by decide +kernel
theorem dX5_go_155 : decode cX5_go 155 = .ok (.aload_n 0, 1) := by decide +kernel
theorem dX5_go_156 : decode cX5_go 156 = .ok (.iload 5, 2) := by decide +kernel
theorem dX5_go_158 : decode cX5_go 158 = .ok (.aload_n 0, 1) := by decide +kernel
theorem dX5_go_159 : decode cX5_go 159 = .ok (.getfield 48, 3) := by decide +kernel
theorem dX5_go_162 : decode cX5_go 162 = .ok (.iload 4, 2) := by decide +kernel
theorem dX5_go_164 : decode cX5_go 164 = .ok (.iaload, 1) := by decide +kernel
theorem dX5_go_165 : decode cX5_go 165 = .ok (.aload_n 0, 1) := by decide +kernel
theorem dX5_go_166 : decode cX5_go 166 = .ok (.getfield 94, 3) := by decide +kernel
theorem dX5_go_169 : decode cX5_go 169 = .ok (.iload_n 2, 1) := by decide +kernel
theorem dX5_go_170 : decode cX5_go 170 = .ok (.iaload, 1) := by decide +kernel
theorem dX5_go_171 : decode cX5_go 171 = .ok (.invokevirtual 296, 3) := by decide +kernel
theorem dX5_go_174 : decode cX5_go 174 = .ok (.goto (-172), 3) := by decide +kernel
theorem dX5_go_177 : decode cX5_go 177 = .ok (.iload_n 1, 1) := by decide +kernel
theorem dX5_go_178 : decode cX5_go 178 = .ok (.ireturn, 1) := by decide +kernel
theorem dX5_callable_0 : decode cX5_callable 0 = .ok (.aload_n 0, 1) := by decide +kernel
theorem dX5_callable_1 : decode cX5_callable 1 = .ok (.getfield 253, 3) := by decide +kernel
theorem dX5_callable_4 : decode cX5_callable 4 = .ok (.ifCond .ne 5, 3) := by decide +kernel
theorem dX5_callable_7 : decode cX5_callable 7 = .ok (.iconst 1, 1) := by decide +kernel
theorem dX5_callable_8 : decode cX5_callable 8 = .ok (.ireturn, 1) := by decide +kernel
theorem dX5_callable_9 : decode cX5_callable 9 = .ok (.aload_n 0, 1) := by decide +kernel
theorem dX5_callable_10 : decode cX5_callable 10 = .ok (.iload_n 1, 1) := by decide +kernel
theorem dX5_callable_11 : decode cX5_callable 11 = .ok (.invokevirtual 256, 3) := by decide +kernel
theorem dX5_callable_14 : decode cX5_callable 14 = .ok (.ifCond .eq 13, 3) := by decide +kernel
theorem dX5_callable_17 : decode cX5_callable 17 = .ok (.aload_n 0, 1) := by decide +kernel
theorem dX5_callable_18 : decode cX5_callable 18 = .ok (.iload_n 1, 1) := by decide +kernel
theorem dX5_callable_19 : decode cX5_callable 19 = .ok (.iload_n 2, 1) := by decide +kernel
theorem dX5_callable_20 : decode cX5_callable 20 = .ok (.iconst (-1), 1) := by decide +kernel
theorem dX5_callable_21 : decode cX5_callable 21 = .ok (.invokevirtual 183, 3) := by decide +kernel
theorem dX5_callable_24 : decode cX5_callable 24 = .ok (.goto 4, 3) := by decide +kernel
theorem dX5_callable_27 : decode cX5_callable 27 = .ok (.iconst (-1), 1) := by decide +kernel
theorem dX5_callable_28 : decode cX5_callable 28 = .ok (.istore_n 3, 1) := by decide +kernel
theorem dX5_callable_29 : decode cX5_callable 29 = .ok (.iload_n 3, 1) := by decide +kernel
theorem dX5_callable_30 : decode cX5_callable 30 = .ok (.iconst (-1), 1) := by decide +kernel
theorem dX5_callable_31 : decode cX5_callable 31 = .ok (.if_icmp .eq 12, 3) := by decide +kernel
theorem dX5_callable_34 : decode cX5_callable 34 = .ok (.aload_n 0, 1) := by decide +kernel
theorem dX5_callable_35 : decode cX5_callable 35 = .ok (.getfield 27, 3) := by decide +kernel
theorem dX5_callable_38 : decode cX5_callable 38 = .ok (.iload_n 3, 1) := by decide +kernel
theorem dX5_callable_39 : decode cX5_callable 39 = .ok (.baload, 1) := by decide +kernel
theorem dX5_callable_40 : decode cX5_callable 40 = .ok (.ifCond .ne 7, 3) := by decide +kernel
theorem dX5_callable_43 : decode cX5_callable 43 = .ok (.iconst 2, 1) := by decide +kernel
theorem dX5_callable_44 : decode cX5_callable 44 = .ok (.goto 17, 3) := by decide +kernel
theorem dX5_callable_47 : decode cX5_callable 47 = .ok (.aload_n 0, 1) := by decide +kernel
theorem dX5_callable_48 : decode cX5_callable 48 = .ok (.iload_n 3, 1) := by decide +kernel
theorem dX5_callable_49 : decode cX5_callable 49 = .ok (.invokevirtual 263, 3) := by decide +kernel
theorem dX5_callable_52 : decode cX5_callable 52 = .ok (.iconst 4, 1) := by decide +kernel
theorem dX5_callable_53 : decode cX5_callable 53 = .ok (.if_icmp .le 7, 3) := by decide +kernel
theorem dX5_callable_56 : decode cX5_callable 56 = .ok (.iconst 3, 1) := by decide +kernel
theorem dX5_callable_57 : decode cX5_callable 57 = .ok (.goto 4, 3) := by decide +kernel
theorem dX5_callable_60 : decode cX5_callable 60 = .ok (.iconst 0, 1) := by decide +kernel
theorem dX5_callable_61 : decode cX5_callable 61 = .ok (.ireturn, 1) := by decide +kernel
theorem dX5_call_0 : decode cX5_call 0 = .ok (.aload_n 0, 1) := by decide +kernel
theorem dX5_call_1 : decode cX5_call 1 = .ok (.aload_n 0, 1) := by decide +kernel
theorem dX5_call_2 : decode cX5_call 2 = .ok (.iload_n 1, 1) := by decide +kernel
theorem dX5_call_3 : decode cX5_call 3 = .ok (.iload_n 2, 1) := by decide +kernel
theorem dX5_call_4 : decode cX5_call 4 = .ok (.invokevirtual 300, 3) := by decide +kernel
theorem dX5_call_7 : decode cX5_call 7 = .ok (.putfield 103, 3) := by decide +kernel
theorem dX5_call_10 : decode cX5_call 10 = .ok (.aload_n 0, 1) := by decide +kernel
theorem dX5_call_11 : decode cX5_call 11 = .ok (.getfield 103, 3) := by decide +kernel
theorem dX5_call_14 : decode cX5_call 14 = .ok (.ifCond .le 5, 3) := by decide +kernel
theorem dX5_call_17 : decode cX5_call 17 = .ok (.iconst 0, 1) := by decide +kernel
theorem dX5_call_18 : decode cX5_call 18 = .ok (.ireturn, 1) := by decide +kernel
theorem dX5_call_19 : decode cX5_call 19 = .ok (.aload_n 0, 1) := by decide +kernel
theorem dX5_call_20 : decode cX5_call 20 = .ok (.iload_n 1, 1) := by decide +kernel
theorem dX5_call_21 : decode cX5_call 21 = .ok (.iload_n 2, 1) := by decide +kernel
theorem dX5_call_22 : decode cX5_call 22 = .ok (.iconst (-1), 1) := by decide +kernel
theorem dX5_call_23 : decode cX5_call 23 = .ok (.invokevirtual 183, 3) := by decide +kernel
theorem dX5_call_26 : decode cX5_call 26 = .ok (.istore 8, 2) := by decide +kernel
theorem dX5_call_28 : decode cX5_call 28 = .ok (.aload_n 0, 1) := by decide +kernel
theorem dX5_call_29 : decode cX5_call 29 = .ok (.iload 8, 2) := by decide +kernel
theorem dX5_call_31 : decode cX5_call 31 = .ok (.invokevirtual 263, 3) := by decide +kernel
theorem dX5_call_34 : decode cX5_call 34 = .ok (.istore 9, 2) := by decide +kernel
theorem dX5_call_36 : decode cX5_call 36 = .ok (.aload_n 0, 1) := by decide +kernel
theorem dX5_call_37 : decode cX5_call 37 = .ok (.iload 7, 2) := by decide +kernel
theorem dX5_call_39 : decode cX5_call 39 = .ok (.ifCond .ge 7, 3) := by decide +kernel
theorem dX5_call_42 : decode cX5_call 42 = .ok (.iconst 0, 1) := by decide +kernel
theorem dX5_call_43 : decode cX5_call 43 = .ok (.goto 19, 3) := by decide +kernel
theorem dX5_call_46 : decode cX5_call 46 = .ok (.iload 7, 2) := by decide +kernel
theorem dX5_call_48 : decode cX5_call 48 = .ok (.sipush 3000, 3) := by decide +kernel
theorem dX5_call_51 : decode cX5_call 51 = .ok (.if_icmp .le 9, 3) := by decide +kernel
theorem dX5_call_54 : decode cX5_call 54 = .ok (.sipush 3000, 3) := by decide +kernel
theorem dX5_call_57 : decode cX5_call 57 = .ok (.goto 5, 3) := by decide +kernel
theorem dX5_call_60 : decode cX5_call 60 = .ok (.iload 7, 2) := by decide +kernel
theorem dX5_call_62 : decode cX5_call 62 = .ok (.putfield 269, 3) := by decide +kernel
theorem dX5_call_65 : decode cX5_call 65 = .ok (.aload_n 0, 1) := by decide +kernel
theorem dX5_call_66 : decode cX5_call 66 = .ok (.iconst 0, 1) := by decide +kernel
theorem dX5_call_67 : decode cX5_call 67 = .ok (.putfield 272, 3) := by decide +kernel
theorem dX5_call_70 : decode cX5_call 70 = .ok (.aload_n 0, 1) := by decide +kernel
theorem dX5_call_71 : decode cX5_call 71 = .ok (.iconst 0, 1) := by decide +kernel
theorem dX5_call_72 : decode cX5_call 72 = .ok (.putfield 275, 3) := by decide +kernel
theorem dX5_call_75 : decode cX5_call 75 = .ok (.aload_n 0, 1) := by decide +kernel
theorem dX5_call_76 : decode cX5_call 76 = .ok (.iconst 0, 1) := by decide +kernel
theorem dX5_call_77 : decode cX5_call 77 = .ok (.putfield 278, 3) := by decide +kernel
theorem dX5_call_80 : decode cX5_call 80 = .ok (.aload_n 0, 1) := by decide +kernel
theorem dX5_call_81 : decode cX5_call 81 = .ok (.iconst 0, 1) := by decide +kernel
theorem dX5_call_82 : decode cX5_call 82 = .ok (.putfield 266, 3) := by decide +kernel
theorem dX5_call_85 : decode cX5_call 85 = .ok (.iload 9, 2) := by decide +kernel
theorem dX5_call_87 : decode cX5_call 87 = .ok (.ifCond .le 8, 3) := by decide +kernel
theorem dX5_call_90 : decode cX5_call 90 = .ok (.aload_n 0, 1) := by decide +kernel
theorem dX5_call_91 : decode cX5_call 91 = .ok (.iload_n 3, 1) := by decide +kernel
theorem dX5_call_92 : decode cX5_call 92 = .ok (.invokevirtual 284, 3) := by decide +kernel
theorem dX5_call_95 : decode cX5_call 95 = .ok (.iload 9, 2) := by decide +kernel
theorem dX5_call_97 : decode cX5_call 97 = .ok (.iconst 1, 1) := by decide +kernel
theorem dX5_call_98 : decode cX5_call 98 = .ok (.if_icmp .le 9, 3) := by decide +kernel
theorem dX5_call_101 : decode cX5_call 101 = .ok (.aload_n 0, 1) := by decide +kernel
theorem dX5_call_102 : decode cX5_call 102 = .ok (.iload 4, 2) := by decide +kernel
theorem dX5_call_104 : decode cX5_call 104 = .ok (.invokevirtual 284, 3) := by decide +kernel
theorem dX5_call_107 : decode cX5_call 107 = .ok (.iload 9, 2) := by decide +kernel
theorem dX5_call_109 : decode cX5_call 109 = .ok (.iconst 2, 1) := by decide +kernel
theorem dX5_call_110 : decode cX5_call 110 = .ok (.if_icmp .le 9, 3) := by decide +kernel
theorem dX5_call_113 : decode cX5_call 113 = .ok (.aload_n 0, 1) := by decide +kernel
theorem dX5_call_114 : decode cX5_call 114 = .ok (.iload 5, 2) := by decide +kernel
theorem dX5_call_116 : decode cX5_call 116 = .ok (.invokevirtual 284, 3) := by decide +kernel
theorem dX5_call_119 : decode cX5_call 119 = .ok (.iload 9, 2) := by decide +kernel
theorem dX5_call_121 : decode cX5_call 121 = .ok (.iconst 3, 1) := by decide +kernel
theorem dX5_call_122 : decode cX5_call 122 = .ok (.if_icmp .le 9, 3) := by decide +kernel
theorem dX5_call_125 : decode cX5_call 125 = .ok (.aload_n 0, 1) := by decide +kernel
theorem dX5_call_126 : decode cX5_call 126 = .ok (.iload 6, 2) := by decide +kernel
theorem dX5_call_128 : decode cX5_call 128 = .ok (.invokevirtual 284, 3) := by decide +kernel
theorem dX5_call_131 : decode cX5_call 131 = .ok (.aload_n 0, 1) := by decide +kernel
theorem dX5_call_132 : decode cX5_call 132 = .ok (.iload 8, 2) := by decide +kernel
theorem dX5_call_134 : decode cX5_call 134 = .ok (.iload 9, 2) := by decide +kernel
theorem dX5_call_136 : decode cX5_call 136 = .ok (.invokevirtual 287, 3) := by decide +kernel
theorem dX5_call_139 : decode cX5_call 139 = .ok (.istore 10, 2) := by decide +kernel
theorem dX5_call_141 : decode cX5_call 141 = .ok (.iload 10, 2) := by decide +kernel
theorem dX5_call_143 : decode cX5_call 143 = .ok (.ifCond .ne 10, 3) := by decide +kernel
theorem dX5_call_146 : decode cX5_call 146 = .ok (.aload_n 0, 1) := by decide +kernel
theorem dX5_call_147 : decode cX5_call 147 = .ok (.invokevirtual 303, 3) := by decide +kernel
theorem dX5_call_150 : decode cX5_call 150 = .ok (.goto 5, 3) := by decide +kernel
theorem dX5_call_153 : decode cX5_call 153 = .ok (.iload 10, 2) := by decide +kernel
theorem dX5_call_155 : decode cX5_call 155 = .ok (.istore 10, 2) := by decide +kernel
theorem dX5_call_157 : decode cX5_call 157 = .ok (.aload_n 0, 1) := by decide +kernel
theorem dX5_call_158 : decode cX5_call 158 = .ok (.iload 10, 2) := by decide +kernel
theorem dX5_call_160 : decode cX5_call 160 = .ok (.ifCond .ne 20, 3) := by decide +kernel
theorem dX5_call_163 : decode cX5_call 163 = .ok (.aload_n 0, 1) := by decide +kernel
theorem dX5_call_164 : decode cX5_call 164 = .ok (.getfield 36, 3) := by decide +kernel
theorem dX5_call_167 : decode cX5_call 167 = .ok (.iload 8, 2) := by decide +kernel
theorem dX5_call_169 : decode cX5_call 169 = .ok (.baload, 1) := by decide +kernel
theorem dX5_call_170 : decode cX5_call 170 = .ok (.ifCond .eq 10, 3) := by decide +kernel
theorem dX5_call_173 : decode cX5_call 173 = .ok (.aload_n 0, 1) := by decide +kernel
theorem dX5_call_174 : decode cX5_call 174 = .ok (.invokevirtual 281, 3) := by decide +kernel
theorem dX5_call_177 : decode cX5_call 177 = .ok (.goto 4, 3) := by decide +kernel
theorem dX5_call_180 : decode cX5_call 180 = .ok (.iconst 0, 1) := by decide +kernel
theorem dX5_call_181 : decode cX5_call 181 = .ok (.putfield 306, 3) := by decide +kernel
theorem dX5_call_184 : decode cX5_call 184 = .ok (.aload_n 0, 1) := by decide +kernel
theorem dX5_call_185 : decode cX5_call 185 = .ok (.iload 10, 2) := by decide +kernel
theorem dX5_call_187 : decode cX5_call 187 = .ok (.ifCond .ne 10, 3) := by decide +kernel
theorem dX5_call_190 : decode cX5_call 190 = .ok (.aload_n 0, 1) := by decide +kernel
theorem dX5_call_191 : decode cX5_call 191 = .ok (.invokevirtual 281, 3) := by decide +kernel
theorem dX5_call_194 : decode cX5_call 194 = .ok (.goto 4, 3) := by decide +kernel
theorem dX5_call_197 : decode cX5_call 197 = .ok (.iconst 0, 1) := by decide +kernel
theorem dX5_call_198 : decode cX5_call 198 = .ok (.putfield 309, 3) := by decide +kernel
theorem dX5_call_201 : decode cX5_call 201 = .ok (.iload 10, 2) := by decide +kernel
theorem dX5_call_203 : decode cX5_call 203 = .ok (.ireturn, 1) := by decide +kernel
theorem dX5_result_0 : decode cX5_result 0 = .ok (.aload_n 0, 1) := by decide +kernel
theorem dX5_result_1 : decode cX5_result 1 = .ok (.iconst 0, 1) := by decide +kernel
theorem dX5_result_2 : decode cX5_result 2 = .ok (.putfield 103, 3) := by decide +kernel
theorem dX5_result_5 : decode cX5_result 5 = .ok (.iload_n 1, 1) := by decide +kernel
theorem dX5_result_6 : decode cX5_result 6 = .ok (.ifCond .ne 10, 3) := by decide +kernel
theorem dX5_result_9 : decode cX5_result 9 = .ok (.aload_n 0, 1) := by decide +kernel
theorem dX5_result_10 : decode cX5_result 10 = .ok (.getfield 309, 3) := by decide +kernel
theorem dX5_result_13 : decode cX5_result 13 = .ok (.goto 16, 3) := by decide +kernel
theorem dX5_result_16 : decode cX5_result 16 = .ok (.iload_n 1, 1) := by decide +kernel
theorem dX5_result_17 : decode cX5_result 17 = .ok (.iconst 1, 1) := by decide +kernel
theorem dX5_result_18 : decode cX5_result 18 = .ok (.if_icmp .ne 10, 3) := by decide +kernel
theorem dX5_result_21 : decode cX5_result 21 = .ok (.aload_n 0, 1) := by decide +kernel
theorem dX5_result_22 : decode cX5_result 22 = .ok (.getfield 306, 3) := by decide +kernel
theorem dX5_result_25 : decode cX5_result 25 = .ok (.goto 4, 3) := by decide +kernel
theorem dX5_result_28 : decode cX5_result 28 = .ok (.iconst 0, 1) := by decide +kernel
theorem dX5_result_29 : decode cX5_result 29 = .ok (.ireturn, 1) := by decide +kernel
theorem dX5_took_0 : decode cX5_took 0 = .ok (.aload_n 0, 1) := by decide +kernel
theorem dX5_took_1 : decode cX5_took 1 = .ok (.iconst 0, 1) := by decide +kernel
theorem dX5_took_2 : decode cX5_took 2 = .ok (.putfield 103, 3) := by decide +kernel
theorem dX5_took_5 : decode cX5_took 5 = .ok (.iload_n 1, 1) := by decide +kernel
theorem dX5_took_6 : decode cX5_took 6 = .ok (.ifCond .ne 10, 3) := by decide +kernel
theorem dX5_took_9 : decode cX5_took 9 = .ok (.aload_n 0, 1) := by decide +kernel
theorem dX5_took_10 : decode cX5_took 10 = .ok (.getfield 275, 3) := by decide +kernel
theorem dX5_took_13 : decode cX5_took 13 = .ok (.goto 16, 3) := by decide +kernel
theorem dX5_took_16 : decode cX5_took 16 = .ok (.iload_n 1, 1) := by decide +kernel
theorem dX5_took_17 : decode cX5_took 17 = .ok (.iconst 1, 1) := by decide +kernel
theorem dX5_took_18 : decode cX5_took 18 = .ok (.if_icmp .ne 10, 3) := by decide +kernel
theorem dX5_took_21 : decode cX5_took 21 = .ok (.aload_n 0, 1) := by decide +kernel
theorem dX5_took_22 : decode cX5_took 22 = .ok (.getfield 272, 3) := by decide +kernel
theorem dX5_took_25 : decode cX5_took 25 = .ok (.goto 4, 3) := by decide +kernel
theorem dX5_took_28 : decode cX5_took 28 = .ok (.iconst (-1), 1) := by decide +kernel
theorem dX5_took_29 : decode cX5_took 29 = .ok (.ireturn, 1) := by decide +kernel
