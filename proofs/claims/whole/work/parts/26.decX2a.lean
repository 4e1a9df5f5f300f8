theorem dX2_init_0 : decode cX2_init 0 = .ok (.aload_n 0, 1) := by decide +kernel
theorem dX2_init_1 : decode cX2_init 1 = .ok (.invokespecial 3, 3) := by decide +kernel
theorem dX2_init_4 : decode cX2_init 4 = .ok (.aload_n 0, 1) := by decide +kernel
theorem dX2_init_5 : decode cX2_init 5 = .ok (.sipush 500, 3) := by decide +kernel
theorem dX2_init_8 : decode cX2_init 8 = .ok (.newarray .int, 2) := by decide +kernel
theorem dX2_init_10 : decode cX2_init 10 = .ok (.putfield 9, 3) := by decide +kernel
theorem dX2_init_13 : decode cX2_init 13 = .ok (.aload_n 0, 1) := by decide +kernel
theorem dX2_init_14 : decode cX2_init 14 = .ok (.iload_n 1, 1) := by decide +kernel
theorem dX2_init_15 : decode cX2_init 15 = .ok (.putfield 15, 3) := by decide +kernel
theorem dX2_init_18 : decode cX2_init 18 = .ok (.return_, 1) := by decide +kernel
theorem dX2_load_0 : decode cX2_load 0 = .ok (.aload_n 0, 1) := by decide +kernel
theorem dX2_load_1 : decode cX2_load 1 = .ok (.getfield 9, 3) := by decide +kernel
theorem dX2_load_4 : decode cX2_load 4 = .ok (.iconst 0, 1) := by decide +kernel
theorem dX2_load_5 : decode cX2_load 5 = .ok (.iload_n 1, 1) := by decide +kernel
theorem dX2_load_6 : decode cX2_load 6 = .ok (.iastore, 1) := by decide +kernel
theorem dX2_load_7 : decode cX2_load 7 = .ok (.aload_n 0, 1) := by decide +kernel
theorem dX2_load_8 : decode cX2_load 8 = .ok (.getfield 9, 3) := by decide +kernel
theorem dX2_load_11 : decode cX2_load 11 = .ok (.iconst 1, 1) := by decide +kernel
theorem dX2_load_12 : decode cX2_load 12 = .ok (.iload_n 2, 1) := by decide +kernel
theorem dX2_load_13 : decode cX2_load 13 = .ok (.iastore, 1) := by decide +kernel
theorem dX2_load_14 : decode cX2_load 14 = .ok (.aload_n 0, 1) := by decide +kernel
theorem dX2_load_15 : decode cX2_load 15 = .ok (.getfield 9, 3) := by decide +kernel
theorem dX2_load_18 : decode cX2_load 18 = .ok (.iconst 2, 1) := by decide +kernel
theorem dX2_load_19 : decode cX2_load 19 = .ok (.iload_n 3, 1) := by decide +kernel
theorem dX2_load_20 : decode cX2_load 20 = .ok (.iastore, 1) := by decide +kernel
theorem dX2_load_21 : decode cX2_load 21 = .ok (.aload_n 0, 1) := by decide +kernel
theorem dX2_load_22 : decode cX2_load 22 = .ok (.getfield 9, 3) := by decide +kernel
theorem dX2_load_25 : decode cX2_load 25 = .ok (.iconst 3, 1) := by decide +kernel
theorem dX2_load_26 : decode cX2_load 26 = .ok (.iload 4, 2) := by decide +kernel
theorem dX2_load_28 : decode cX2_load 28 = .ok (.iastore, 1) := by decide +kernel
theorem dX2_load_29 : decode cX2_load 29 = .ok (.return_, 1) := by decide +kernel
theorem dX2_run_0 : decode cX2_run 0 = .ok (.aload_n 0, 1) := by decide +kernel
theorem dX2_run_1 : decode cX2_run 1 = .ok (.aload_n 1, 1) := by decide +kernel
theorem dX2_run_2 : decode cX2_run 2 = .ok (.putfield 19, 3) := by decide +kernel
theorem dX2_run_5 : decode cX2_run 5 = .ok (.aload_n 0, 1) := by decide +kernel
theorem dX2_run_6 : decode cX2_run 6 = .ok (.aload_n 3, 1) := by decide +kernel
theorem dX2_run_7 : decode cX2_run 7 = .ok (.getfield 23, 3) := by decide +kernel
theorem dX2_run_10 : decode cX2_run 10 = .ok (.putfield 28, 3) := by decide +kernel
theorem dX2_run_13 : decode cX2_run 13 = .ok (.aload_n 0, 1) := by decide +kernel
theorem dX2_run_14 : decode cX2_run 14 = .ok (.iconst 0, 1) := by decide +kernel
theorem dX2_run_15 : decode cX2_run 15 = .ok (.putfield 31, 3) := by decide +kernel
theorem dX2_run_18 : decode cX2_run 18 = .ok (.aload_n 0, 1) := by decide +kernel
theorem dX2_run_19 : decode cX2_run 19 = .ok (.iload 4, 2) := by decide +kernel
theorem dX2_run_21 : decode cX2_run 21 = .ok (.putfield 34, 3) := by decide +kernel
theorem dX2_run_24 : decode cX2_run 24 = .ok (.aload_n 0, 1) := by decide +kernel
theorem dX2_run_25 : decode cX2_run 25 = .ok (.iconst 0, 1) := by decide +kernel
theorem dX2_run_26 : decode cX2_run 26 = .ok (.putfield 37, 3) := by decide +kernel
theorem dX2_run_29 : decode cX2_run 29 = .ok (.aload_n 0, 1) := by decide +kernel
theorem dX2_run_30 : decode cX2_run 30 = .ok (.iconst 0, 1) := by decide +kernel
theorem dX2_run_31 : decode cX2_run 31 = .ok (.putfield 40, 3) := by decide +kernel
theorem dX2_run_34 : decode cX2_run 34 = .ok (.aload_n 0, 1) := by decide +kernel
theorem dX2_run_35 : decode cX2_run 35 = .ok (.iconst 3, 1) := by decide +kernel
theorem dX2_run_36 : decode cX2_run 36 = .ok (.putfield 43, 3) := by decide +kernel
theorem dX2_run_39 : decode cX2_run 39 = .ok (.aload_n 0, 1) := by decide +kernel
theorem dX2_run_40 : decode cX2_run 40 = .ok (.aload_n 1, 1) := by decide +kernel
theorem dX2_run_41 : decode cX2_run 41 = .ok (.iload_n 2, 1) := by decide +kernel
theorem dX2_run_42 : decode cX2_run 42 = .ok (.aaload, 1) := by decide +kernel
theorem dX2_run_43 : decode cX2_run 43 = .ok (.aload_n 3, 1) := by decide +kernel
theorem dX2_run_44 : decode cX2_run 44 = .ok (.iconst (-1), 1) := by decide +kernel
theorem dX2_run_45 : decode cX2_run 45 = .ok (.invokevirtual 46, 3) := by decide +kernel
theorem dX2_run_48 : decode cX2_run 48 = .ok (.iconst 0, 1) := by decide +kernel
theorem dX2_run_49 : decode cX2_run 49 = .ok (.istore 5, 2) := by decide +kernel
theorem dX2_run_51 : decode cX2_run 51 = .ok (.iload 5, 2) := by decide +kernel
theorem dX2_run_53 : decode cX2_run 53 = .ok (.ldc 50, 2) := by decide +kernel
theorem dX2_run_55 : decode cX2_run 55 = .ok (.if_icmp .ge 21, 3) := by decide +kernel
theorem dX2_run_58 : decode cX2_run 58 = .ok (.aload_n 0, 1) := by decide +kernel
theorem dX2_run_59 : decode cX2_run 59 = .ok (.getfield 43, 3) := by decide +kernel
theorem dX2_run_62 : decode cX2_run 62 = .ok (.iconst 3, 1) := by decide +kernel
theorem dX2_run_63 : decode cX2_run 63 = .ok (.if_icmp .ne 13, 3) := by decide +kernel
theorem dX2_run_66 : decode cX2_run 66 = .ok (.aload_n 0, 1) := by decide +kernel
theorem dX2_run_67 : decode cX2_run 67 = .ok (.invokevirtual 51, 3) := by decide +kernel
theorem dX2_run_70 : decode cX2_run 70 = .ok (.iinc 5 1, 3) := by decide +kernel
theorem dX2_run_73 : decode cX2_run 73 = .ok (.goto (-22), 3) := by decide +kernel
theorem dX2_run_76 : decode cX2_run 76 = .ok (.aload_n 0, 1) := by decide +kernel
theorem dX2_run_77 : decode cX2_run 77 = .ok (.getfield 43, 3) := by decide +kernel
theorem dX2_run_80 : decode cX2_run 80 = .ok (.ifCond .ne 7, 3) := by decide +kernel
theorem dX2_run_83 : decode cX2_run 83 = .ok (.iconst 1, 1) := by decide +kernel
theorem dX2_run_84 : decode cX2_run 84 = .ok (.goto 4, 3) := by decide +kernel
theorem dX2_run_87 : decode cX2_run 87 = .ok (.iconst 0, 1) := by decide +kernel
theorem dX2_run_88 : decode cX2_run 88 = .ok (.istore 5, 2) := by decide +kernel
theorem dX2_run_90 : decode cX2_run 90 = .ok (.aload_n 0, 1) := by decide +kernel
theorem dX2_run_91 : decode cX2_run 91 = .ok (.iload 5, 2) := by decide +kernel
theorem dX2_run_93 : decode cX2_run 93 = .ok (.ifCond .eq 10, 3) := by decide +kernel
theorem dX2_run_96 : decode cX2_run 96 = .ok (.aload_n 0, 1) := by decide +kernel
theorem dX2_run_97 : decode cX2_run 97 = .ok (.getfield 54, 3) := by decide +kernel
theorem dX2_run_100 : decode cX2_run 100 = .ok (.goto 4, 3) := by decide +kernel
theorem dX2_run_103 : decode cX2_run 103 = .ok (.iconst 0, 1) := by decide +kernel
theorem dX2_run_104 : decode cX2_run 104 = .ok (.putfield 57, 3) := by decide +kernel
theorem dX2_run_107 : decode cX2_run 107 = .ok (.aload_n 0, 1) := by decide +kernel
theorem dX2_run_108 : decode cX2_run 108 = .ok (.iload 5, 2) := by decide +kernel
theorem dX2_run_110 : decode cX2_run 110 = .ok (.ifCond .eq 22, 3) := by decide +kernel
theorem dX2_run_113 : decode cX2_run 113 = .ok (.aload_n 3, 1) := by decide +kernel
theorem dX2_run_114 : decode cX2_run 114 = .ok (.getfield 60, 3) := by decide +kernel
theorem dX2_run_117 : decode cX2_run 117 = .ok (.iconst 0, 1) := by decide +kernel
theorem dX2_run_118 : decode cX2_run 118 = .ok (.invokestatic 63, 3) := by decide +kernel
theorem dX2_run_121 : decode cX2_run 121 = .ok (.iconst 2, 1) := by decide +kernel
theorem dX2_run_122 : decode cX2_run 122 = .ok (.if_icmp .ne 10, 3) := by decide +kernel
theorem dX2_run_125 : decode cX2_run 125 = .ok (.aload_n 0, 1) := by decide +kernel
theorem dX2_run_126 : decode cX2_run 126 = .ok (.getfield 67, 3) := by decide +kernel
theorem dX2_run_129 : decode cX2_run 129 = .ok (.goto 4, 3) := by decide +kernel
theorem dX2_run_132 : decode cX2_run 132 = .ok (.iconst 0, 1) := by decide +kernel
theorem dX2_run_133 : decode cX2_run 133 = .ok (.putfield 70, 3) := by decide +kernel
theorem dX2_run_136 : decode cX2_run 136 = .ok (.aload_n 0, 1) := by decide +kernel
theorem dX2_run_137 : decode cX2_run 137 = .ok (.getfield 43, 3) := by decide +kernel
theorem dX2_run_140 : decode cX2_run 140 = .ok (.ireturn, 1) := by decide +kernel
theorem dX2_enter_0 : decode cX2_enter 0 = .ok (.aload_n 0, 1) := by decide +kernel
theorem dX2_enter_1 : decode cX2_enter 1 = .ok (.getfield 40, 3) := by decide +kernel
theorem dX2_enter_4 : decode cX2_enter 4 = .ok (.aload_n 0, 1) := by decide +kernel
theorem dX2_enter_5 : decode cX2_enter 5 = .ok (.getfield 34, 3) := by decide +kernel
theorem dX2_enter_8 : decode cX2_enter 8 = .ok (.if_icmp .ne 9, 3) := by decide +kernel
theorem dX2_enter_11 : decode cX2_enter 11 = .ok (.aload_n 0, 1) := by decide +kernel
theorem dX2_enter_12 : decode cX2_enter 12 = .ok (.iconst 2, 1) := by decide +kernel
theorem dX2_enter_13 : decode cX2_enter 13 = .ok (.putfield 43, 3) := by decide +kernel
theorem dX2_enter_16 : decode cX2_enter 16 = .ok (.return_, 1) := by decide +kernel
theorem dX2_enter_17 : decode cX2_enter 17 = .ok (.aload_n 0, 1) := by decide +kernel
theorem dX2_enter_18 : decode cX2_enter 18 = .ok (.dup, 1) := by decide +kernel
theorem dX2_enter_19 : decode cX2_enter 19 = .ok (.getfield 40, 3) := by decide +kernel
theorem dX2_enter_22 : decode cX2_enter 22 = .ok (.iconst 1, 1) := by decide +kernel
theorem dX2_enter_23 : decode cX2_enter 23 = .ok (.iadd, 1) := by decide +kernel
theorem dX2_enter_24 : decode cX2_enter 24 = .ok (.putfield 40, 3) := by decide +kernel
theorem dX2_enter_27 : decode cX2_enter 27 = .ok (.aload_n 0, 1) := by decide +kernel
theorem dX2_enter_28 : decode cX2_enter 28 = .ok (.getfield 28, 3) := by decide +kernel
theorem dX2_enter_31 : decode cX2_enter 31 = .ok (.iconst 2, 1) := by decide +kernel
theorem dX2_enter_32 : decode cX2_enter 32 = .ok (.iadd, 1) := by decide +kernel
theorem dX2_enter_33 : decode cX2_enter 33 = .ok (.aload_n 2, 1) := by decide +kernel
theorem dX2_enter_34 : decode cX2_enter 34 = .ok (.getfield 73, 3) := by decide +kernel
theorem dX2_enter_37 : decode cX2_enter 37 = .ok (.iadd, 1) := by decide +kernel
theorem dX2_enter_38 : decode cX2_enter 38 = .ok (.istore 4, 2) := by decide +kernel
theorem dX2_enter_40 : decode cX2_enter 40 = .ok (.iload 4, 2) := by decide +kernel
theorem dX2_enter_42 : decode cX2_enter 42 = .ok (.aload_n 0, 1) := by decide +kernel
theorem dX2_enter_43 : decode cX2_enter 43 = .ok (.getfield 15, 3) := by decide +kernel
theorem dX2_enter_46 : decode cX2_enter 46 = .ok (.if_icmp .le 9, 3) := by decide +kernel
theorem dX2_enter_49 : decode cX2_enter 49 = .ok (.aload_n 0, 1) := by decide +kernel
theorem dX2_enter_50 : decode cX2_enter 50 = .ok (.iconst 1, 1) := by decide +kernel
theorem dX2_enter_51 : decode cX2_enter 51 = .ok (.putfield 43, 3) := by decide +kernel
theorem dX2_enter_54 : decode cX2_enter 54 = .ok (.return_, 1) := by decide +kernel
theorem dX2_enter_55 : decode cX2_enter 55 = .ok (.aload_n 0, 1) := by decide +kernel
theorem dX2_enter_56 : decode cX2_enter 56 = .ok (.aload_n 0, 1) := by decide +kernel
theorem dX2_enter_57 : decode cX2_enter 57 = .ok (.getfield 37, 3) := by decide +kernel
theorem dX2_enter_60 : decode cX2_enter 60 = .ok (.iload 4, 2) := by decide +kernel
theorem dX2_enter_62 : decode cX2_enter 62 = .ok (.invokestatic 76, 3) := by decide +kernel
theorem dX2_enter_65 : decode cX2_enter 65 = .ok (.putfield 37, 3) := by decide +kernel
theorem dX2_enter_68 : decode cX2_enter 68 = .ok (.aload_n 0, 1) := by decide +kernel
theorem dX2_enter_69 : decode cX2_enter 69 = .ok (.getfield 28, 3) := by decide +kernel
theorem dX2_enter_72 : decode cX2_enter 72 = .ok (.aload_n 2, 1) := by decide +kernel
theorem dX2_enter_73 : decode cX2_enter 73 = .ok (.getfield 23, 3) := by decide +kernel
theorem dX2_enter_76 : decode cX2_enter 76 = .ok (.isub, 1) := by decide +kernel
theorem dX2_enter_77 : decode cX2_enter 77 = .ok (.istore 5, 2) := by decide +kernel
theorem dX2_enter_79 : decode cX2_enter 79 = .ok (.aload_n 0, 1) := by decide +kernel
theorem dX2_enter_80 : decode cX2_enter 80 = .ok (.iload_n 3, 1) := by decide +kernel
theorem dX2_enter_81 : decode cX2_enter 81 = .ok (.invokevirtual 81, 3) := by decide +kernel
theorem dX2_enter_84 : decode cX2_enter 84 = .ok (.aload_n 0, 1) := by decide +kernel
theorem dX2_enter_85 : decode cX2_enter 85 = .ok (.aload_n 0, 1) := by decide +kernel
theorem dX2_enter_86 : decode cX2_enter 86 = .ok (.getfield 31, 3) := by decide +kernel
theorem dX2_enter_89 : decode cX2_enter 89 = .ok (.invokevirtual 81, 3) := by decide +kernel
theorem dX2_enter_92 : decode cX2_enter 92 = .ok (.aload_n 0, 1) := by decide +kernel
theorem dX2_enter_93 : decode cX2_enter 93 = .ok (.iload 5, 2) := by decide +kernel
theorem dX2_enter_95 : decode cX2_enter 95 = .ok (.putfield 31, 3) := by decide +kernel
theorem dX2_enter_98 : decode cX2_enter 98 = .ok (.aload_n 0, 1) := by decide +kernel
theorem dX2_enter_99 : decode cX2_enter 99 = .ok (.aload_n 1, 1) := by decide +kernel
theorem dX2_enter_100 : decode cX2_enter 100 = .ok (.putfield 85, 3) := by decide +kernel
theorem dX2_enter_103 : decode cX2_enter 103 = .ok (.aload_n 0, 1) := by decide +kernel
theorem dX2_enter_104 : decode cX2_enter 104 = .ok (.aload_n 2, 1) := by decide +kernel
theorem dX2_enter_105 : decode cX2_enter 105 = .ok (.getfield 89, 3) := by decide +kernel
theorem dX2_enter_108 : decode cX2_enter 108 = .ok (.putfield 92, 3) := by decide +kernel
theorem dX2_enter_111 : decode cX2_enter 111 = .ok (.return_, 1) := by decide +kernel
theorem dX2_leave_0 : decode cX2_leave 0 = .ok (.aload_n 0, 1) := by decide +kernel
theorem dX2_leave_1 : decode cX2_leave 1 = .ok (.invokevirtual 95, 3) := by decide +kernel
theorem dX2_leave_4 : decode cX2_leave 4 = .ok (.istore_n 1, 1) := by decide +kernel
theorem dX2_leave_5 : decode cX2_leave 5 = .ok (.aload_n 0, 1) := by decide +kernel
theorem dX2_leave_6 : decode cX2_leave 6 = .ok (.invokevirtual 95, 3) := by decide +kernel
theorem dX2_leave_9 : decode cX2_leave 9 = .ok (.istore_n 2, 1) := by decide +kernel
theorem dX2_leave_10 : decode cX2_leave 10 = .ok (.aload_n 0, 1) := by decide +kernel
theorem dX2_leave_11 : decode cX2_leave 11 = .ok (.aload_n 0, 1) := by decide +kernel
theorem dX2_leave_12 : decode cX2_leave 12 = .ok (.getfield 31, 3) := by decide +kernel
theorem dX2_leave_15 : decode cX2_leave 15 = .ok (.putfield 28, 3) := by decide +kernel
theorem dX2_leave_18 : decode cX2_leave 18 = .ok (.aload_n 0, 1) := by decide +kernel
theorem dX2_leave_19 : decode cX2_leave 19 = .ok (.iload_n 1, 1) := by decide +kernel
theorem dX2_leave_20 : decode cX2_leave 20 = .ok (.putfield 31, 3) := by decide +kernel
theorem dX2_leave_23 : decode cX2_leave 23 = .ok (.iload_n 2, 1) := by decide +kernel
theorem dX2_leave_24 : decode cX2_leave 24 = .ok (.iconst (-1), 1) := by decide +kernel
theorem dX2_leave_25 : decode cX2_leave 25 = .ok (.if_icmp .ne 9, 3) := by decide +kernel
theorem dX2_leave_28 : decode cX2_leave 28 = .ok (.aload_n 0, 1) := by decide +kernel
theorem dX2_leave_29 : decode cX2_leave 29 = .ok (.iconst 0, 1) := by decide +kernel
theorem dX2_leave_30 : decode cX2_leave 30 = .ok (.putfield 43, 3) := by decide +kernel
theorem dX2_leave_33 : decode cX2_leave 33 = .ok (.return_, 1) := by decide +kernel
theorem dX2_leave_34 : decode cX2_leave 34 = .ok (.aload_n 0, 1) := by decide +kernel
theorem dX2_leave_35 : decode cX2_leave 35 = .ok (.aload_n 0, 1) := by decide +kernel
theorem dX2_leave_36 : decode cX2_leave 36 = .ok (.getfield 19, 3) := by decide +kernel
theorem dX2_leave_39 : decode cX2_leave 39 = .ok (.iload_n 2, 1) := by decide +kernel
theorem dX2_leave_40 : decode cX2_leave 40 = .ok (.sipush 240, 3) := by decide +kernel
theorem dX2_leave_43 : decode cX2_leave 43 = .ok (.idiv, 1) := by decide +kernel
theorem dX2_leave_44 : decode cX2_leave 44 = .ok (.aaload, 1) := by decide +kernel
theorem dX2_leave_45 : decode cX2_leave 45 = .ok (.putfield 85, 3) := by decide +kernel
theorem dX2_leave_48 : decode cX2_leave 48 = .ok (.aload_n 0, 1) := by decide +kernel
theorem dX2_leave_49 : decode cX2_leave 49 = .ok (.iload_n 2, 1) := by decide +kernel
theorem dX2_leave_50 : decode cX2_leave 50 = .ok (.sipush 240, 3) := by decide +kernel
theorem dX2_leave_53 : decode cX2_leave 53 = .ok (.irem, 1) := by decide +kernel
theorem dX2_leave_54 : decode cX2_leave 54 = .ok (.putfield 92, 3) := by decide +kernel
theorem dX2_leave_57 : decode cX2_leave 57 = .ok (.return_, 1) := by decide +kernel
theorem dX2_step_0 : decode cX2_step 0 = .ok (.aload_n 0, 1) := by decide +kernel
theorem dX2_step_1 : decode cX2_step 1 = .ok (.getfield 92, 3) := by decide +kernel
theorem dX2_step_4 : decode cX2_step 4 = .ok (.sipush 240, 3) := by decide +kernel
theorem dX2_step_7 : decode cX2_step 7 = .ok (.if_icmp .ge 18, 3) := by decide +kernel
theorem dX2_step_10 : decode cX2_step 10 = .ok (.aload_n 0, 1) := by decide +kernel
theorem dX2_step_11 : decode cX2_step 11 = .ok (.getfield 85, 3) := by decide +kernel
theorem dX2_step_14 : decode cX2_step 14 = .ok (.getfield 99, 3) := by decide +kernel
theorem dX2_step_17 : decode cX2_step 17 = .ok (.aload_n 0, 1) := by decide +kernel
theorem dX2_step_18 : decode cX2_step 18 = .ok (.getfield 92, 3) := by decide +kernel
theorem dX2_step_21 : decode cX2_step 21 = .ok (.iaload, 1) := by decide +kernel
theorem dX2_step_22 : decode cX2_step 22 = .ok (.goto 5, 3) := by decide +kernel
theorem dX2_step_25 : decode cX2_step 25 = .ok (.bipush 13, 2) := by decide +kernel
theorem dX2_step_27 : decode cX2_step 27 = .ok (.istore_n 1, 1) := by decide +kernel
theorem dX2_step_28 : decode cX2_step 28 = .ok (.iload_n 1, 1) := by decide +kernel
theorem dX2_step_29 : decode cX2_step 29 = .ok (.iconst 4, 1) := by decide +kernel
theorem dX2_step_30 : decode cX2_step 30 = .ok (.ishr, 1) := by decide +kernel
theorem dX2_step_31 : decode cX2_step 31 = .ok (.istore_n 2, 1) := by decide +kernel
theorem dX2_step_32 : decode cX2_step 32 = .ok (.aload_n 0, 1) := by decide +kernel
theorem dX2_step_33 : decode cX2_step 33 = .ok (.dup, 1) := by decide +kernel
theorem dX2_step_34 : decode cX2_step 34 = .ok (.getfield 92, 3) := by decide +kernel
theorem dX2_step_37 : decode cX2_step 37 = .ok (.iconst 1, 1) := by decide +kernel
theorem dX2_step_38 : decode cX2_step 38 = .ok (.iadd, 1) := by decide +kernel
theorem dX2_step_39 : decode cX2_step 39 = .ok (.putfield 92, 3) := by decide +kernel
theorem dX2_step_42 : decode cX2_step 42 = .ok (.iload_n 1, 1) := by decide +kernel
theorem dX2_step_43 : decode cX2_step 43 = .ok (.bipush 15, 2) := by decide +kernel
theorem dX2_step_45 : decode cX2_step 45 = .ok (.iand, 1) := by decide +kernel
theorem dX2_step_46 : decode cX2_step 46 = .ok (.tableswitch 280 0 12 #[66, 74, 92, 127, 138, 157, 173, 189, 205, 224, 235, 257, 265], 66) := by decide +kernel
theorem dX2_step_112 : decode cX2_step 112 = .ok (.aload_n 0, 1) := by decide +kernel
theorem dX2_step_113 : decode cX2_step 113 = .ok (.iload_n 2, 1) := by decide +kernel
theorem dX2_step_114 : decode cX2_step 114 = .ok (.putfield 54, 3) := by decide +kernel
theorem dX2_step_117 : decode cX2_step 117 = .ok (.goto 213, 3) := by decide +kernel
theorem dX2_step_120 : decode cX2_step 120 = .ok (.aload_n 0, 1) := by decide +kernel
theorem dX2_step_121 : decode cX2_step 121 = .ok (.aload_n 0, 1) := by decide +kernel
theorem dX2_step_122 : decode cX2_step 122 = .ok (.getfield 9, 3) := by decide +kernel
theorem dX2_step_125 : decode cX2_step 125 = .ok (.aload_n 0, 1) := by decide +kernel
theorem dX2_step_126 : decode cX2_step 126 = .ok (.getfield 31, 3) := by decide +kernel
theorem dX2_step_129 : decode cX2_step 129 = .ok (.iload_n 2, 1) := by decide +kernel
theorem dX2_step_130 : decode cX2_step 130 = .ok (.iadd, 1) := by decide +kernel
theorem dX2_step_131 : decode cX2_step 131 = .ok (.iaload, 1) := by decide +kernel
theorem dX2_step_132 : decode cX2_step 132 = .ok (.putfield 54, 3) := by decide +kernel
theorem dX2_step_135 : decode cX2_step 135 = .ok (.goto 195, 3) := by decide +kernel
theorem dX2_step_138 : decode cX2_step 138 = .ok (.aload_n 0, 1) := by decide +kernel
theorem dX2_step_139 : decode cX2_step 139 = .ok (.aload_n 0, 1) := by decide +kernel
theorem dX2_step_140 : decode cX2_step 140 = .ok (.getfield 9, 3) := by decide +kernel
theorem dX2_step_143 : decode cX2_step 143 = .ok (.aload_n 0, 1) := by decide +kernel
theorem dX2_step_144 : decode cX2_step 144 = .ok (.getfield 31, 3) := by decide +kernel
theorem dX2_step_147 : decode cX2_step 147 = .ok (.iload_n 2, 1) := by decide +kernel
theorem dX2_step_148 : decode cX2_step 148 = .ok (.iadd, 1) := by decide +kernel
theorem dX2_step_149 : decode cX2_step 149 = .ok (.iaload, 1) := by decide +kernel
theorem dX2_step_150 : decode cX2_step 150 = .ok (.putfield 54, 3) := by decide +kernel
theorem dX2_step_153 : decode cX2_step 153 = .ok (.aload_n 0, 1) := by decide +kernel
theorem dX2_step_154 : decode cX2_step 154 = .ok (.aload_n 0, 1) := by decide +kernel
theorem dX2_step_155 : decode cX2_step 155 = .ok (.getfield 9, 3) := by decide +kernel
theorem dX2_step_158 : decode cX2_step 158 = .ok (.aload_n 0, 1) := by decide +kernel
theorem dX2_step_159 : decode cX2_step 159 = .ok (.getfield 31, 3) := by decide +kernel
theorem dX2_step_162 : decode cX2_step 162 = .ok (.iload_n 2, 1) := by decide +kernel
theorem dX2_step_163 : decode cX2_step 163 = .ok (.iadd, 1) := by decide +kernel
theorem dX2_step_164 : decode cX2_step 164 = .ok (.iconst 1, 1) := by decide +kernel
theorem dX2_step_165 : decode cX2_step 165 = .ok (.iadd, 1) := by decide +kernel
theorem dX2_step_166 : decode cX2_step 166 = .ok (.iaload, 1) := by decide +kernel
theorem dX2_step_167 : decode cX2_step 167 = .ok (.putfield 67, 3) := by decide +kernel
theorem dX2_step_170 : decode cX2_step 170 = .ok (.goto 160, 3) := by decide +kernel
theorem dX2_step_173 : decode cX2_step 173 = .ok (.aload_n 0, 1) := by decide +kernel
theorem dX2_step_174 : decode cX2_step 174 = .ok (.aload_n 0, 1) := by decide +kernel
theorem dX2_step_175 : decode cX2_step 175 = .ok (.getfield 54, 3) := by decide +kernel
theorem dX2_step_178 : decode cX2_step 178 = .ok (.invokevirtual 81, 3) := by decide +kernel
theorem dX2_step_181 : decode cX2_step 181 = .ok (.goto 149, 3) := by decide +kernel
theorem dX2_step_184 : decode cX2_step 184 = .ok (.aload_n 0, 1) := by decide +kernel
theorem dX2_step_185 : decode cX2_step 185 = .ok (.aload_n 0, 1) := by decide +kernel
theorem dX2_step_186 : decode cX2_step 186 = .ok (.getfield 54, 3) := by decide +kernel
theorem dX2_step_189 : decode cX2_step 189 = .ok (.invokevirtual 81, 3) := by decide +kernel
theorem dX2_step_192 : decode cX2_step 192 = .ok (.aload_n 0, 1) := by decide +kernel
theorem dX2_step_193 : decode cX2_step 193 = .ok (.aload_n 0, 1) := by decide +kernel
theorem dX2_step_194 : decode cX2_step 194 = .ok (.getfield 67, 3) := by decide +kernel
theorem dX2_step_197 : decode cX2_step 197 = .ok (.invokevirtual 81, 3) := by decide +kernel
theorem dX2_step_200 : decode cX2_step 200 = .ok (.goto 130, 3) := by decide +kernel
theorem dX2_step_203 : decode cX2_step 203 = .ok (.aload_n 0, 1) := by decide +kernel
theorem dX2_step_204 : decode cX2_step 204 = .ok (.aload_n 0, 1) := by decide +kernel
theorem dX2_step_205 : decode cX2_step 205 = .ok (.invokevirtual 95, 3) := by decide +kernel
theorem dX2_step_208 : decode cX2_step 208 = .ok (.aload_n 0, 1) := by decide +kernel
theorem dX2_step_209 : decode cX2_step 209 = .ok (.getfield 54, 3) := by decide +kernel
theorem dX2_step_212 : decode cX2_step 212 = .ok (.iadd, 1) := by decide +kernel
theorem dX2_step_213 : decode cX2_step 213 = .ok (.putfield 54, 3) := by decide +kernel
theorem dX2_step_216 : decode cX2_step 216 = .ok (.goto 114, 3) := by decide +kernel
theorem dX2_step_219 : decode cX2_step 219 = .ok (.aload_n 0, 1) := by decide +kernel
theorem dX2_step_220 : decode cX2_step 220 = .ok (.aload_n 0, 1) := by decide +kernel
theorem dX2_step_221 : decode cX2_step 221 = .ok (.invokevirtual 95, 3) := by decide +kernel
theorem dX2_step_224 : decode cX2_step 224 = .ok (.aload_n 0, 1) := by decide +kernel
theorem dX2_step_225 : decode cX2_step 225 = .ok (.getfield 54, 3) := by decide +kernel
theorem dX2_step_228 : decode cX2_step 228 = .ok (.isub, 1) := by decide +kernel
theorem dX2_step_229 : decode cX2_step 229 = .ok (.putfield 54, 3) := by decide +kernel
theorem dX2_step_232 : decode cX2_step 232 = .ok (.goto 98, 3) := by decide +kernel
theorem dX2_step_235 : decode cX2_step 235 = .ok (.aload_n 0, 1) := by decide +kernel
theorem dX2_step_236 : decode cX2_step 236 = .ok (.aload_n 0, 1) := by decide +kernel
theorem dX2_step_237 : decode cX2_step 237 = .ok (.invokevirtual 95, 3) := by decide +kernel
theorem dX2_step_240 : decode cX2_step 240 = .ok (.aload_n 0, 1) := by decide +kernel
theorem dX2_step_241 : decode cX2_step 241 = .ok (.getfield 54, 3) := by decide +kernel
theorem dX2_step_244 : decode cX2_step 244 = .ok (.imul, 1) := by decide +kernel
theorem dX2_step_245 : decode cX2_step 245 = .ok (.putfield 54, 3) := by decide +kernel
theorem dX2_step_248 : decode cX2_step 248 = .ok (.goto 82, 3) := by decide +kernel
theorem dX2_step_251 : decode cX2_step 251 = .ok (.aload_n 0, 1) := by decide +kernel
theorem dX2_step_252 : decode cX2_step 252 = .ok (.aload_n 0, 1) := by decide +kernel
theorem dX2_step_253 : decode cX2_step 253 = .ok (.getfield 54, 3) := by decide +kernel
theorem dX2_step_256 : decode cX2_step 256 = .ok (.putfield 67, 3) := by decide +kernel
theorem dX2_step_259 : decode cX2_step 259 = .ok (.aload_n 0, 1) := by decide +kernel
theorem dX2_step_260 : decode cX2_step 260 = .ok (.aload_n 0, 1) := by decide +kernel
theorem dX2_step_261 : decode cX2_step 261 = .ok (.invokevirtual 95, 3) := by decide +kernel
theorem dX2_step_264 : decode cX2_step 264 = .ok (.putfield 54, 3) := by decide +kernel
theorem dX2_step_267 : decode cX2_step 267 = .ok (.goto 63, 3) := by decide +kernel
theorem dX2_step_270 : decode cX2_step 270 = .ok (.aload_n 0, 1) := by decide +kernel
theorem dX2_step_271 : decode cX2_step 271 = .ok (.aload_n 0, 1) := by decide +kernel
theorem dX2_step_272 : decode cX2_step 272 = .ok (.getfield 67, 3) := by decide +kernel
theorem dX2_step_275 : decode cX2_step 275 = .ok (.putfield 54, 3) := by decide +kernel
theorem dX2_step_278 : decode cX2_step 278 = .ok (.goto 52, 3) := by decide +kernel
theorem dX2_step_281 : decode cX2_step 281 = .ok (.aload_n 0, 1) := by decide +kernel
theorem dX2_step_282 : decode cX2_step 282 = .ok (.aload_n 0, 1) := by decide +kernel
theorem dX2_step_283 : decode cX2_step 283 = .ok (.getfield 54, 3) := by decide +kernel
theorem dX2_step_286 : decode cX2_step 286 = .ok (.ifCond .ne 7, 3) := by decide +kernel
theorem dX2_step_289 : decode cX2_step 289 = .ok (.iload_n 2, 1) := by decide +kernel
theorem dX2_step_290 : decode cX2_step 290 = .ok (.goto 7, 3) := by decide +kernel
theorem dX2_step_293 : decode cX2_step 293 = .ok (.aload_n 0, 1) := by decide +kernel
theorem dX2_step_294 : decode cX2_step 294 = .ok (.getfield 92, 3) := by decide +kernel
theorem dX2_step_297 : decode cX2_step 297 = .ok (.putfield 92, 3) := by decide +kernel
theorem dX2_step_300 : decode cX2_step 300 = .ok (.goto 30, 3) := by decide +kernel
theorem dX2_step_303 : decode cX2_step 303 = .ok (.aload_n 0, 1) := by decide +kernel
theorem dX2_step_304 : decode cX2_step 304 = .ok (.iload_n 2, 1) := by decide +kernel
theorem dX2_step_305 : decode cX2_step 305 = .ok (.putfield 92, 3) := by decide +kernel
theorem dX2_step_308 : decode cX2_step 308 = .ok (.goto 22, 3) := by decide +kernel
theorem dX2_step_311 : decode cX2_step 311 = .ok (.aload_n 0, 1) := by decide +kernel
theorem dX2_step_312 : decode cX2_step 312 = .ok (.iload_n 2, 1) := by decide +kernel
theorem dX2_step_313 : decode cX2_step 313 = .ok (.bipush 26, 2) := by decide +kernel
theorem dX2_step_315 : decode cX2_step 315 = .ok (.idiv, 1) := by decide +kernel
theorem dX2_step_316 : decode cX2_step 316 = .ok (.iload_n 2, 1) := by decide +kernel
theorem dX2_step_317 : decode cX2_step 317 = .ok (.bipush 26, 2) := by decide +kernel
theorem dX2_step_319 : decode cX2_step 319 = .ok (.irem, 1) := by decide +kernel
theorem dX2_step_320 : decode cX2_step 320 = .ok (.invokevirtual 104, 3) := by decide +kernel
theorem dX2_step_323 : decode cX2_step 323 = .ok (.goto 7, 3) := by decide +kernel
theorem dX2_step_326 : decode cX2_step 326 = .ok (.aload_n 0, 1) := by decide +kernel
theorem dX2_step_327 : decode cX2_step 327 = .ok (.invokevirtual 108, 3) := by decide +kernel
theorem dX2_step_330 : decode cX2_step 330 = .ok (.return_, 1) := by decide +kernel
theorem dX2_enterNamed_0 : decode cX2_enterNamed 0 = .ok (.aload_n 0, 1) := by decide +kernel
theorem dX2_enterNamed_1 : decode cX2_enterNamed 1 = .ok (.getfield 19, 3) := by decide +kernel
theorem dX2_enterNamed_4 : decode cX2_enterNamed 4 = .ok (.iload_n 1, 1) := by decide +kernel
theorem dX2_enterNamed_5 : decode cX2_enterNamed 5 = .ok (.aaload, 1) := by decide +kernel
theorem dX2_enterNamed_6 : decode cX2_enterNamed 6 = .ok (.astore_n 3, 1) := by decide +kernel
theorem dX2_enterNamed_7 : decode cX2_enterNamed 7 = .ok (.aload_n 3, 1) := by decide +kernel
theorem dX2_enterNamed_8 : decode cX2_enterNamed 8 = .ok (.iconst (-1), 1) := by decide +kernel
theorem dX2_enterNamed_9 : decode cX2_enterNamed 9 = .ok (.iload_n 2, 1) := by decide +kernel
theorem dX2_enterNamed_10 : decode cX2_enterNamed 10 = .ok (.invokevirtual 111, 3) := by decide +kernel
theorem dX2_enterNamed_13 : decode cX2_enterNamed 13 = .ok (.astore 4, 2) := by decide +kernel
theorem dX2_enterNamed_15 : decode cX2_enterNamed 15 = .ok (.aload 4, 2) := by decide +kernel
theorem dX2_enterNamed_17 : decode cX2_enterNamed 17 = .ok (.ifnonnull 9, 3) := by decide +kernel
theorem dX2_enterNamed_20 : decode cX2_enterNamed 20 = .ok (.aload_n 0, 1) := by decide +kernel
theorem dX2_enterNamed_21 : decode cX2_enterNamed 21 = .ok (.iconst 1, 1) := by decide +kernel
theorem dX2_enterNamed_22 : decode cX2_enterNamed 22 = .ok (.putfield 43, 3) := by decide +kernel
theorem dX2_enterNamed_25 : decode cX2_enterNamed 25 = .ok (.return_, 1) := by decide +kernel
theorem dX2_enterNamed_26 : decode cX2_enterNamed 26 = .ok (.aload_n 0, 1) := by decide +kernel
theorem dX2_enterNamed_27 : decode cX2_enterNamed 27 = .ok (.aload_n 3, 1) := by decide +kernel
theorem dX2_enterNamed_28 : decode cX2_enterNamed 28 = .ok (.aload 4, 2) := by decide +kernel
theorem dX2_enterNamed_30 : decode cX2_enterNamed 30 = .ok (.aload_n 0, 1) := by decide +kernel
theorem dX2_enterNamed_31 : decode cX2_enterNamed 31 = .ok (.getfield 85, 3) := by decide +kernel
theorem dX2_enterNamed_34 : decode cX2_enterNamed 34 = .ok (.getfield 115, 3) := by decide +kernel
theorem dX2_enterNamed_37 : decode cX2_enterNamed 37 = .ok (.sipush 240, 3) := by decide +kernel
theorem dX2_enterNamed_40 : decode cX2_enterNamed 40 = .ok (.imul, 1) := by decide +kernel
theorem dX2_enterNamed_41 : decode cX2_enterNamed 41 = .ok (.aload_n 0, 1) := by decide +kernel
theorem dX2_enterNamed_42 : decode cX2_enterNamed 42 = .ok (.getfield 92, 3) := by decide +kernel
theorem dX2_enterNamed_45 : decode cX2_enterNamed 45 = .ok (.iadd, 1) := by decide +kernel
theorem dX2_enterNamed_46 : decode cX2_enterNamed 46 = .ok (.invokevirtual 46, 3) := by decide +kernel
theorem dX2_enterNamed_49 : decode cX2_enterNamed 49 = .ok (.return_, 1) := by decide +kernel
theorem dX2_push_0 : decode cX2_push 0 = .ok (.aload_n 0, 1) := by decide +kernel
theorem dX2_push_1 : decode cX2_push 1 = .ok (.getfield 28, 3) := by decide +kernel
theorem dX2_push_4 : decode cX2_push 4 = .ok (.sipush 500, 3) := by decide +kernel
theorem dX2_push_7 : decode cX2_push 7 = .ok (.if_icmp .ge 23, 3) := by decide +kernel
theorem dX2_push_10 : decode cX2_push 10 = .ok (.aload_n 0, 1) := by decide +kernel
theorem dX2_push_11 : decode cX2_push 11 = .ok (.getfield 9, 3) := by decide +kernel
theorem dX2_push_14 : decode cX2_push 14 = .ok (.aload_n 0, 1) := by decide +kernel
theorem dX2_push_15 : decode cX2_push 15 = .ok (.getfield 28, 3) := by decide +kernel
theorem dX2_push_18 : decode cX2_push 18 = .ok (.iload_n 1, 1) := by decide +kernel
theorem dX2_push_19 : decode cX2_push 19 = .ok (.iastore, 1) := by decide +kernel
theorem dX2_push_20 : decode cX2_push 20 = .ok (.aload_n 0, 1) := by decide +kernel
theorem dX2_push_21 : decode cX2_push 21 = .ok (.dup, 1) := by decide +kernel
theorem dX2_push_22 : decode cX2_push 22 = .ok (.getfield 28, 3) := by decide +kernel
theorem dX2_push_25 : decode cX2_push 25 = .ok (.iconst 1, 1) := by decide +kernel
theorem dX2_push_26 : decode cX2_push 26 = .ok (.iadd, 1) := by decide +kernel
theorem dX2_push_27 : decode cX2_push 27 = .ok (.putfield 28, 3) := by decide +kernel
theorem dX2_push_30 : decode cX2_push 30 = .ok (.return_, 1) := by decide +kernel
theorem dX2_pop_0 : decode cX2_pop 0 = .ok (.aload_n 0, 1) := by decide +kernel
theorem dX2_pop_1 : decode cX2_pop 1 = .ok (.getfield 28, 3) := by decide +kernel
theorem dX2_pop_4 : decode cX2_pop 4 = .ok (.ifCond .ne 5, 3) := by decide +kernel
theorem dX2_pop_7 : decode cX2_pop 7 = .ok (.iconst 0, 1) := by decide +kernel
theorem dX2_pop_8 : decode cX2_pop 8 = .ok (.ireturn, 1) := by decide +kernel
theorem dX2_pop_9 : decode cX2_pop 9 = .ok (.aload_n 0, 1) := by decide +kernel
theorem dX2_pop_10 : decode cX2_pop 10 = .ok (.dup, 1) := by decide +kernel
theorem dX2_pop_11 : decode cX2_pop 11 = .ok (.getfield 28, 3) := by decide +kernel
theorem dX2_pop_14 : decode cX2_pop 14 = .ok (.iconst 1, 1) := by decide +kernel
theorem dX2_pop_15 : decode cX2_pop 15 = .ok (.isub, 1) := by decide +kernel
theorem dX2_pop_16 : decode cX2_pop 16 = .ok (.putfield 28, 3) := by decide +kernel
theorem dX2_pop_19 : decode cX2_pop 19 = .ok (.aload_n 0, 1) := by decide +kernel
theorem dX2_pop_20 : decode cX2_pop 20 = .ok (.getfield 9, 3) := by decide +kernel
theorem dX2_pop_23 : decode cX2_pop 23 = .ok (.aload_n 0, 1) := by decide +kernel
theorem dX2_pop_24 : decode cX2_pop 24 = .ok (.getfield 28, 3) := by decide +kernel
theorem dX2_pop_27 : decode cX2_pop 27 = .ok (.iaload, 1) := by decide +kernel
theorem dX2_pop_28 : decode cX2_pop 28 = .ok (.ireturn, 1) := by decide +kernel
