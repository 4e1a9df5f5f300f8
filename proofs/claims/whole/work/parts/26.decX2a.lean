theorem dX2_init_0 : decode cX2_init 0 = .ok (.aload_n 0, 1) := by decide +kernel
theorem dX2_init_1 : decode cX2_init 1 = .ok (.invokespecial 3, 3) := by decide +kernel
theorem dX2_init_4 : decode cX2_init 4 = .ok (.aload_n 0, 1) := by decide +kernel
theorem dX2_init_5 : decode cX2_init 5 = .ok (.sipush 500, 3) := by decide +kernel
theorem dX2_init_8 : decode cX2_init 8 = .ok (.newarray .int, 2) := by decide +kernel
theorem dX2_init_10 : decode cX2_init 10 = .ok (.putfield 9, 3) := by decide +kernel
theorem dX2_init_13 : decode cX2_init 13 = .ok (.aload_n 0, 1) := by decide +kernel
theorem dX2_init_14 : decode cX2_init 14 = .ok (.iload_n 1, 1) := by decide +kernel
theorem dX2_init_15 : decode cX2_init 15 = .ok (.putfield 15, 3) := by decide +kernel
theorem dX2_init_18 : decode cX2_init 18 = .ok (.return_, 1) := by decide +kernel
theorem dX2_load_0 : decode cX2_load 0 = .ok (.aload_n 0, 1) := by decide +kernel
theorem dX2_load_1 : decode cX2_load 1 = .ok (.getfield 9, 3) := by decide +kernel
theorem dX2_load_4 : decode cX2_load 4 = .ok (.iconst 0, 1) := by decide +kernel
theorem dX2_load_5 : decode cX2_load 5 = .ok (.iload_n 1, 1) := by decide +kernel
theorem dX2_load_6 : decode cX2_load 6 = .ok (.iastore, 1) := by decide +kernel
theorem dX2_load_7 : decode cX2_load 7 = .ok (.aload_n 0, 1) := by decide +kernel
theorem dX2_load_8 : decode cX2_load 8 = .ok (.getfield 9, 3) := by decide +kernel
theorem dX2_load_11 : decode cX2_load 11 = .ok (.iconst 1, 1) := by decide +kernel
theorem dX2_load_12 : decode cX2_load 12 = .ok (.iload_n 2, 1) := by decide +kernel
theorem dX2_load_13 : decode cX2_load 13 = .ok (.iastore, 1) := by decide +kernel
theorem dX2_load_14 : decode cX2_load 14 = .ok (.aload_n 0, 1) := by decide +kernel
theorem dX2_load_15 : decode cX2_load 15 = .ok (.getfield 9, 3) := by decide +kernel
theorem dX2_load_18 : decode cX2_load 18 = .ok (.iconst 2, 1) := by decide +kernel
theorem dX2_load_19 : decode cX2_load 19 = .ok (.iload_n 3, 1) := by decide +kernel
theorem dX2_load_20 : decode cX2_load 20 = .ok (.iastore, 1) := by decide +kernel
theorem dX2_load_21 : decode cX2_load 21 = .ok (.aload_n 0, 1) := by decide +kernel
theorem dX2_load_22 : decode cX2_load 22 = .ok (.getfield 9, 3) := by decide +kernel
theorem dX2_load_25 : decode cX2_load 25 = .ok (.iconst 3, 1) := by decide +kernel
theorem dX2_load_26 : decode cX2_load 26 = .ok (.iload 4, 2) := by decide +kernel
theorem dX2_load_28 : decode cX2_load 28 = .ok (.iastore, 1) := by decide +kernel
theorem dX2_load_29 : decode cX2_load 29 = .ok (.return_, 1) := by decide +kernel
theorem dX2_run_0 : decode cX2_run 0 = .ok (.aload_n 0, 1) := by decide +kernel
theorem dX2_run_1 : decode cX2_run 1 = .ok (.aload_n 1, 1) := by decide +kernel
theorem dX2_run_2 : decode cX2_run 2 = .ok (.putfield 19, 3) := by decide +kernel
theorem dX2_run_5 : decode cX2_run 5 = .ok (.aload_n 0, 1) := by decide +kernel
theorem dX2_run_6 : decode cX2_run 6 = .ok (.aload_n 3, 1) := by decide +kernel
theorem dX2_run_7 : decode cX2_run 7 = .ok (.getfield 23, 3) := by decide +kernel
theorem dX2_run_10 : decode cX2_run 10 = .ok (.putfield 28, 3) := by decide +kernel
theorem dX2_run_13 : decode cX2_run 13 = .ok (.aload_n 0, 1) := by decide +kernel
theorem dX2_run_14 : decode cX2_run 14 = .ok (.iconst 0, 1) := by decide +kernel
theorem dX2_run_15 : decode cX2_run 15 = .ok (.putfield 31, 3) := by decide +kernel
theorem dX2_run_18 : decode cX2_run 18 = .ok (.aload_n 0, 1) := by decide +kernel
theorem dX2_run_19 : decode cX2_run 19 = .ok (.iload 4, 2) := by decide +kernel
theorem dX2_run_21 : decode cX2_run 21 = .ok (.putfield 34, 3) := by decide +kernel
theorem dX2_run_24 : decode cX2_run 24 = .ok (.aload_n 0, 1) := by decide +kernel
theorem dX2_run_25 : decode cX2_run 25 = .ok (.iconst 0, 1) := by decide +kernel
theorem dX2_run_26 : decode cX2_run 26 = .ok (.putfield 37, 3) := by decide +kernel
theorem dX2_run_29 : decode cX2_run 29 = .ok (.aload_n 0, 1) := by decide +kernel
theorem dX2_run_30 : decode cX2_run 30 = .ok (.iconst 0, 1) := by decide +kernel
theorem dX2_run_31 : decode cX2_run 31 = .ok (.putfield 40, 3) := by decide +kernel
theorem dX2_run_34 : decode cX2_run 34 = .ok (.aload_n 0, 1) := by decide +kernel
theorem dX2_run_35 : decode cX2_run 35 = .ok (.iconst 3, 1) := by decide +kernel
theorem dX2_run_36 : decode cX2_run 36 = .ok (.putfield 43, 3) := by decide +kernel
theorem dX2_run_39 : decode cX2_run 39 = .ok (.aload_n 0, 1) := by decide +kernel
theorem dX2_run_40 : decode cX2_run 40 = .ok (.aload_n 1, 1) := by decide +kernel
theorem dX2_run_41 : decode cX2_run 41 = .ok (.iload_n 2, 1) := by decide +kernel
theorem dX2_run_42 : decode cX2_run 42 = .ok (.aaload, 1) := by decide +kernel
theorem dX2_run_43 : decode cX2_run 43 = .ok (.aload_n 3, 1) := by decide +kernel
theorem dX2_run_44 : decode cX2_run 44 = .ok (.iconst (-1), 1) := by decide +kernel
theorem dX2_run_45 : decode cX2_run 45 = .ok (.invokevirtual 46, 3) := by decide +kernel
theorem dX2_run_48 : decode cX2_run 48 = .ok (.iconst 0, 1) := by decide +kernel
theorem dX2_run_49 : decode cX2_run 49 = .ok (.istore 5, 2) := by decide +kernel
theorem dX2_run_51 : decode cX2_run 51 = .ok (.iload 5, 2) := by decide +kernel
theorem dX2_run_53 : decode cX2_run 53 = .ok (.ldc 50, 2) := by decide +kernel
theorem dX2_run_55 : decode cX2_run 55 = .ok (.if_icmp .ge 21, 3) := by decide +kernel
theorem dX2_run_58 : decode cX2_run 58 = .ok (.aload_n 0, 1) := by decide +kernel
theorem dX2_run_59 : decode cX2_run 59 = .ok (.getfield 43, 3) := by decide +kernel
theorem dX2_run_62 : decode cX2_run 62 = .ok (.iconst 3, 1) := by decide +kernel
theorem dX2_run_63 : decode cX2_run 63 = .ok (.if_icmp .ne 13, 3) := by decide +kernel
theorem dX2_run_66 : decode cX2_run 66 = .ok (.aload_n 0, 1) := by decide +kernel
theorem dX2_run_67 : decode cX2_run 67 = .ok (.invokevirtual 51, 3) := by decide +kernel
theorem dX2_run_70 : decode cX2_run 70 = .ok (.iinc 5 1, 3) := by decide +kernel
theorem dX2_run_73 : decode cX2_run 73 = .ok (.goto (-22), 3) := by decide +kernel
theorem dX2_run_76 : decode cX2_run 76 = .ok (.aload_n 0, 1) := by decide +kernel
theorem dX2_run_77 : decode cX2_run 77 = .ok (.getfield 43, 3) := by decide +kernel
theorem dX2_run_80 : decode cX2_run 80 = .ok (.ifCond .ne 7, 3) := by decide +kernel
theorem dX2_run_83 : decode cX2_run 83 = .ok (.iconst 1, 1) := by decide +kernel
theorem dX2_run_84 : decode cX2_run 84 = .ok (.goto 4, 3) := by decide +kernel
theorem dX2_run_87 : decode cX2_run 87 = .ok (.iconst 0, 1) := by decide +kernel
theorem dX2_run_88 : decode cX2_run 88 = .ok (.istore 5, 2) := by decide +kernel
theorem dX2_run_90 : decode cX2_run 90 = .ok (.aload_n 0, 1) := by decide +kernel
theorem dX2_run_91 : decode cX2_run 91 = .ok (.iload 5, 2) := by decide +kernel
theorem dX2_run_93 : decode cX2_run 93 = .ok (.ifCond .eq 10, 3) := by decide +kernel
theorem dX2_run_96 : decode cX2_run 96 = .ok (.aload_n 0, 1) := by decide +kernel
theorem dX2_run_97 : decode cX2_run 97 = .ok (.getfield 54, 3) := by decide +kernel
theorem dX2_run_100 : decode cX2_run 100 = .ok (.goto 4, 3) := by decide +kernel
theorem dX2_run_103 : decode cX2_run 103 = .ok (.iconst 0, 1) := by decide +kernel
theorem dX2_run_104 : decode cX2_run 104 = .ok (.putfield 57, 3) := by decide +kernel
theorem dX2_run_107 : decode cX2_run 107 = .ok (.aload_n 0, 1) := by decide +kernel
theorem dX2_run_108 : decode cX2_run 108 = .ok (.iload 5, 2) := by decide +kernel
theorem dX2_run_110 : decode cX2_run 110 = .ok (.ifCond .eq 22, 3) := by decide +kernel
theorem dX2_run_113 : decode cX2_run 113 = .ok (.aload_n 3, 1) := by decide +kernel
theorem dX2_run_114 : decode cX2_run 114 = .ok (.getfield 60, 3) := by decide +kernel
theorem dX2_run_117 : decode cX2_run 117 = .ok (.iconst 0, 1) := by decide +kernel
theorem dX2_run_118 : decode cX2_run 118 = .ok (.invokestatic 63, 3) := by decide +kernel
theorem dX2_run_121 : decode cX2_run 121 = .ok (.iconst 2, 1) := by decide +kernel
theorem dX2_run_122 : decode cX2_run 122 = .ok (.if_icmp .ne 10, 3) := by decide +kernel
theorem dX2_run_125 : decode cX2_run 125 = .ok (.aload_n 0, 1) := by decide +kernel
theorem dX2_run_126 : decode cX2_run 126 = .ok (.getfield 67, 3) := by decide +kernel
theorem dX2_run_129 : decode cX2_run 129 = .ok (.goto 4, 3) := by decide +kernel
theorem dX2_run_132 : decode cX2_run 132 = .ok (.iconst 0, 1) := by decide +kernel
theorem dX2_run_133 : decode cX2_run 133 = .ok (.putfield 70, 3) := by decide +kernel
theorem dX2_run_136 : decode cX2_run 136 = .ok (.aload_n 0, 1) := by decide +kernel
theorem dX2_run_137 : decode cX2_run 137 = .ok (.getfield 43, 3) := by decide +kernel
theorem dX2_run_140 : decode cX2_run 140 = .ok (.ireturn, 1) := by decide +kernel
theorem dX2_enter_0 : decode cX2_enter 0 = .ok (.aload_n 0, 1) := by decide +kernel
theorem dX2_enter_1 : decode cX2_enter 1 = .ok (.getfield 40, 3) := by decide +kernel
theorem dX2_enter_4 : decode cX2_enter 4 = .ok (.aload_n 0, 1) := by decide +kernel
theorem dX2_enter_5 : decode cX2_enter 5 = .ok (.getfield 34, 3) := by decide +kernel
theorem dX2_enter_8 : decode cX2_enter 8 = .ok (.if_icmp .ne 9, 3) := by decide +kernel
theorem dX2_enter_11 : decode cX2_enter 11 = .ok (.aload_n 0, 1) := by decide +kernel
theorem dX2_enter_12 : decode cX2_enter 12 = .ok (.iconst 2, 1) := by decide +kernel
theorem dX2_enter_13 : decode cX2_enter 13 = .ok (.putfield 43, 3) := by decide +kernel
theorem dX2_enter_16 : decode cX2_enter 16 = .ok (.return_, 1) := by decide +kernel
theorem dX2_enter_17 : decode cX2_enter 17 = .ok (.aload_n 0, 1) := by decide +kernel
theorem dX2_enter_18 : decode cX2_enter 18 = .ok (.dup, 1) := by decide +kernel
theorem dX2_enter_19 : decode cX2_enter 19 = .ok (.getfield 40, 3) := by decide +kernel
theorem dX2_enter_22 : decode cX2_enter 22 = .ok (.iconst 1, 1) := by decide +kernel
theorem dX2_enter_23 : decode cX2_enter 23 = .ok (.iadd, 1) := by decide +kernel
theorem dX2_enter_24 : decode cX2_enter 24 = .ok (.putfield 40, 3) := by decide +kernel
theorem dX2_enter_27 : decode cX2_enter 27 = .ok (.aload_n 0, 1) := by decide +kernel
theorem dX2_enter_28 : decode cX2_enter 28 = .ok (.getfield 28, 3) := by decide +kernel
theorem dX2_enter_31 : decode cX2_enter 31 = .ok (.iconst 2, 1) := by decide +kernel
theorem dX2_enter_32 : decode cX2_enter 32 = .ok (.iadd, 1) := by decide +kernel
theorem dX2_enter_33 : decode cX2_enter 33 = .ok (.aload_n 2, 1) := by decide +kernel
theorem dX2_enter_34 : decode cX2_enter 34 = .ok (.getfield 73, 3) := by decide +kernel
theorem dX2_enter_37 : decode cX2_enter 37 = .ok (.iadd, 1) := by decide +kernel
theorem dX2_enter_38 : decode cX2_enter 38 = .ok (.istore 4, 2) := by decide +kernel
theorem dX2_enter_40 : decode cX2_enter 40 = .ok (.iload 4, 2) := by decide +kernel
theorem dX2_enter_42 : decode cX2_enter 42 = .ok (.aload_n 0, 1) := by decide +kernel
theorem dX2_enter_43 : decode cX2_enter 43 = .ok (.getfield 15, 3) := by decide +kernel
theorem dX2_enter_46 : decode cX2_enter 46 = .ok (.if_icmp .le 9, 3) := by decide +kernel
theorem dX2_enter_49 : decode cX2_enter 49 = .ok (.aload_n 0, 1) := by decide +kernel
theorem dX2_enter_50 : decode cX2_enter 50 = .ok (.iconst 1, 1) := by decide +kernel
theorem dX2_enter_51 : decode cX2_enter 51 = .ok (.putfield 43, 3) := by decide +kernel
theorem dX2_enter_54 : decode cX2_enter 54 = .ok (.return_, 1) := by decide +kernel
theorem dX2_enter_55 : decode cX2_enter 55 = .ok (.aload_n 0, 1) := by decide +kernel
theorem dX2_enter_56 : decode cX2_enter 56 = .ok (.aload_n 0, 1) := by decide +kernel
theorem dX2_enter_57 : decode cX2_enter 57 = .ok (.getfield 37, 3) := by decide +kernel
theorem dX2_enter_60 : decode cX2_enter 60 = .ok (.iload 4, 2) := by decide +kernel
theorem dX2_enter_62 : decode cX2_enter 62 = .ok (.invokestatic 76, 3) := by decide +kernel
theorem dX2_enter_65 : decode cX2_enter 65 = .ok (.putfield 37, 3) := by decide +kernel
theorem dX2_enter_68 : decode cX2_enter 68 = .ok (.aload_n 0, 1) := by decide +kernel
theorem dX2_enter_69 : decode cX2_enter 69 = .ok (.getfield 28, 3) := by decide +kernel
theorem dX2_enter_72 : decode cX2_enter 72 = .ok (.aload_n 2, 1) := by decide +kernel
theorem dX2_enter_73 : decode cX2_enter 73 = .ok (.getfield 23, 3) := by decide +kernel
theorem dX2_enter_76 : decode cX2_enter 76 = .ok (.isub, 1) := by decide +kernel
theorem dX2_enter_77 : decode cX2_enter 77 = .ok (.istore 5, 2) := by decide +kernel
theorem dX2_enter_79 : decode cX2_enter 79 = .ok (.aload_n 0, 1) := by decide +kernel
theorem dX2_enter_80 : decode cX2_enter 80 = .ok (.iload_n 3, 1) := by decide +kernel
theorem dX2_enter_81 : decode cX2_enter 81 = .ok (.invokevirtual 81, 3) := by decide +kernel
theorem dX2_enter_84 : decode cX2_enter 84 = .ok (.aload_n 0, 1) := by decide +kernel
theorem dX2_enter_85 : decode cX2_enter 85 = .ok (.aload_n 0, 1) := by decide +kernel
theorem dX2_enter_86 : decode cX2_enter 86 = .ok (.getfield 31, 3) := by decide +kernel
theorem dX2_enter_89 : decode cX2_enter 89 = .ok (.invokevirtual 81, 3) := by decide +kernel
theorem dX2_enter_92 : decode cX2_enter 92 = .ok (.aload_n 0, 1) := by decide +kernel
theorem dX2_enter_93 : decode cX2_enter 93 = .ok (.iload 5, 2) := by decide +kernel
theorem dX2_enter_95 : decode cX2_enter 95 = .ok (.putfield 31, 3) := by decide +kernel
theorem dX2_enter_98 : decode cX2_enter 98 = .ok (.aload_n 0, 1) := by decide +kernel
theorem dX2_enter_99 : decode cX2_enter 99 = .ok (.aload_n 1, 1) := by decide +kernel
theorem dX2_enter_100 : decode cX2_enter 100 = .ok (.putfield 85, 3) := by decide +kernel
theorem dX2_enter_103 : decode cX2_enter 103 = .ok (.aload_n 0, 1) := by decide +kernel
theorem dX2_enter_104 : decode cX2_enter 104 = .ok (.aload_n 2, 1) := by decide +kernel
theorem dX2_enter_105 : decode cX2_enter 105 = .ok (.getfield 89, 3) := by decide +kernel
theorem dX2_enter_108 : decode cX2_enter 108 = .ok (.putfield 92, 3) := by decide +kernel
theorem dX2_enter_111 : decode cX2_enter 111 = .ok (.return_, 1) := by decide +kernel
theorem dX2_leave_0 : decode cX2_leave 0 = .ok (.aload_n 0, 1) := by decide +kernel
theorem dX2_leave_1 : decode cX2_leave 1 = .ok (.invokevirtual 95, 3) := by decide +kernel
theorem dX2_leave_4 : decode cX2_leave 4 = .ok (.istore_n 1, 1) := by decide +kernel
theorem dX2_leave_5 : decode cX2_leave 5 = .ok (.aload_n 0, 1) := by decide +kernel
theorem dX2_leave_6 : decode cX2_leave 6 = .ok (.invokevirtual 95, 3) := by decide +kernel
theorem dX2_leave_9 : decode cX2_leave 9 = .ok (.istore_n 2, 1) := by decide +kernel
theorem dX2_leave_10 : decode cX2_leave 10 = .ok (.aload_n 0, 1) := by decide +kernel
theorem dX2_leave_11 : decode cX2_leave 11 = .ok (.aload_n 0, 1) := by decide +kernel
theorem dX2_leave_12 : decode cX2_leave 12 = .ok (.getfield 31, 3) := by decide +kernel
theorem dX2_leave_15 : decode cX2_leave 15 = .ok (.putfield 28, 3) := by decide +kernel
theorem dX2_leave_18 : decode cX2_leave 18 = .ok (.aload_n 0, 1) := by decide +kernel
theorem dX2_leave_19 : decode cX2_leave 19 = .ok (.iload_n 1, 1) := by decide +kernel
theorem dX2_leave_20 : decode cX2_leave 20 = .ok (.putfield 31, 3) := by decide +kernel
theorem dX2_leave_23 : decode cX2_leave 23 = .ok (.iload_n 2, 1) := by decide +kernel
theorem dX2_leave_24 : decode cX2_leave 24 = .ok (.ifCond .lt 10, 3) := by decide +kernel
theorem dX2_leave_27 : decode cX2_leave 27 = .ok (.iload_n 2, 1) := by decide +kernel
theorem dX2_leave_28 : decode cX2_leave 28 = .ok (.sipush 1440, 3) := by decide +kernel
theorem dX2_leave_31 : decode cX2_leave 31 = .ok (.if_icmp .lt 9, 3) := by decide +kernel
theorem dX2_leave_34 : decode cX2_leave 34 = .ok (.aload_n 0, 1) := by decide +kernel
theorem dX2_leave_35 : decode cX2_leave 35 = .ok (.iconst 0, 1) := by decide +kernel
theorem dX2_leave_36 : decode cX2_leave 36 = .ok (.putfield 43, 3) := by decide +kernel
theorem dX2_leave_39 : decode cX2_leave 39 = .ok (.return_, 1) := by decide +kernel
theorem dX2_leave_40 : decode cX2_leave 40 = .ok (.aload_n 0, 1) := by decide +kernel
theorem dX2_leave_41 : decode cX2_leave 41 = .ok (.aload_n 0, 1) := by decide +kernel
theorem dX2_leave_42 : decode cX2_leave 42 = .ok (.getfield 19, 3) := by decide +kernel
theorem dX2_leave_45 : decode cX2_leave 45 = .ok (.iload_n 2, 1) := by decide +kernel
theorem dX2_leave_46 : decode cX2_leave 46 = .ok (.sipush 240, 3) := by decide +kernel
theorem dX2_leave_49 : decode cX2_leave 49 = .ok (.idiv, 1) := by decide +kernel
theorem dX2_leave_50 : decode cX2_leave 50 = .ok (.aaload, 1) := by decide +kernel
theorem dX2_leave_51 : decode cX2_leave 51 = .ok (.putfield 85, 3) := by decide +kernel
theorem dX2_leave_54 : decode cX2_leave 54 = .ok (.aload_n 0, 1) := by decide +kernel
theorem dX2_leave_55 : decode cX2_leave 55 = .ok (.iload_n 2, 1) := by decide +kernel
theorem dX2_leave_56 : decode cX2_leave 56 = .ok (.sipush 240, 3) := by decide +kernel
theorem dX2_leave_59 : decode cX2_leave 59 = .ok (.irem, 1) := by decide +kernel
theorem dX2_leave_60 : decode cX2_leave 60 = .ok (.putfield 92, 3) := by decide +kernel
theorem dX2_leave_63 : decode cX2_leave 63 = .ok (.return_, 1) := by decide +kernel
theorem dX2_step_0 : decode cX2_step 0 = .ok (.aload_n 0, 1) := by decide +kernel
theorem dX2_step_1 : decode cX2_step 1 = .ok (.getfield 92, 3) := by decide +kernel
theorem dX2_step_4 : decode cX2_step 4 = .ok (.sipush 240, 3) := by decide +kernel
theorem dX2_step_7 : decode cX2_step 7 = .ok (.if_icmp .ge 18, 3) := by decide +kernel
theorem dX2_step_10 : decode cX2_step 10 = .ok (.aload_n 0, 1) := by decide +kernel
theorem dX2_step_11 : decode cX2_step 11 = .ok (.getfield 85, 3) := by decide +kernel
theorem dX2_step_14 : decode cX2_step 14 = .ok (.getfield 99, 3) := by decide +kernel
theorem dX2_step_17 : decode cX2_step 17 = .ok (.aload_n 0, 1) := by decide +kernel
theorem dX2_step_18 : decode cX2_step 18 = .ok (.getfield 92, 3) := by decide +kernel
theorem dX2_step_21 : decode cX2_step 21 = .ok (.iaload, 1) := by decide +kernel
theorem dX2_step_22 : decode cX2_step 22 = .ok (.goto 5, 3) := by decide +kernel
theorem dX2_step_25 : decode cX2_step 25 = .ok (.bipush 13, 2) := by decide +kernel
theorem dX2_step_27 : decode cX2_step 27 = .ok (.istore_n 1, 1) := by decide +kernel
theorem dX2_step_28 : decode cX2_step 28 = .ok (.iload_n 1, 1) := by decide +kernel
theorem dX2_step_29 : decode cX2_step 29 = .ok (.iconst 4, 1) := by decide +kernel
theorem dX2_step_30 : decode cX2_step 30 = .ok (.ishr, 1) := by decide +kernel
theorem dX2_step_31 : decode cX2_step 31 = .ok (.istore_n 2, 1) := by decide +kernel
theorem dX2_step_32 : decode cX2_step 32 = .ok (.aload_n 0, 1) := by decide +kernel
theorem dX2_step_33 : decode cX2_step 33 = .ok (.dup, 1) := by decide +kernel
theorem dX2_step_34 : decode cX2_step 34 = .ok (.getfield 92, 3) := by decide +kernel
theorem dX2_step_37 : decode cX2_step 37 = .ok (.iconst 1, 1) := by decide +kernel
theorem dX2_step_38 : decode cX2_step 38 = .ok (.iadd, 1) := by decide +kernel
theorem dX2_step_39 : decode cX2_step 39 = .ok (.putfield 92, 3) := by decide +kernel
theorem dX2_step_42 : decode cX2_step 42 = .ok (.iload_n 1, 1) := by decide +kernel
theorem dX2_step_43 : decode cX2_step 43 = .ok (.bipush 15, 2) := by decide +kernel
theorem dX2_step_45 : decode cX2_step 45 = .ok (.iand, 1) := by decide +kernel
theorem dX2_step_46 : decode cX2_step 46 = .ok (.tableswitch 277 0 12 #[66, 74, 91, 124, 135, 154, 170, 186, 202, 221, 232, 254, 262], 66) := by decide +kernel
theorem dX2_step_112 : decode cX2_step 112 = .ok (.aload_n 0, 1) := by decide +kernel
theorem dX2_step_113 : decode cX2_step 113 = .ok (.iload_n 2, 1) := by decide +kernel
theorem dX2_step_114 : decode cX2_step 114 = .ok (.putfield 54, 3) := by decide +kernel
theorem dX2_step_117 : decode cX2_step 117 = .ok (.goto 210, 3) := by decide +kernel
theorem dX2_step_120 : decode cX2_step 120 = .ok (.aload_n 0, 1) := by decide +kernel
theorem dX2_step_121 : decode cX2_step 121 = .ok (.aload_n 0, 1) := by decide +kernel
theorem dX2_step_122 : decode cX2_step 122 = .ok (.aload_n 0, 1) := by decide +kernel
theorem dX2_step_123 : decode cX2_step 123 = .ok (.getfield 31, 3) := by decide +kernel
theorem dX2_step_126 : decode cX2_step 126 = .ok (.iload_n 2, 1) := by decide +kernel
theorem dX2_step_127 : decode cX2_step 127 = .ok (.iadd, 1) := by decide +kernel
theorem dX2_step_128 : decode cX2_step 128 = .ok (.invokevirtual 104, 3) := by decide +kernel
theorem dX2_step_131 : decode cX2_step 131 = .ok (.putfield 54, 3) := by decide +kernel
theorem dX2_step_134 : decode cX2_step 134 = .ok (.goto 193, 3) := by decide +kernel
theorem dX2_step_137 : decode cX2_step 137 = .ok (.aload_n 0, 1) := by decide +kernel
theorem dX2_step_138 : decode cX2_step 138 = .ok (.aload_n 0, 1) := by decide +kernel
theorem dX2_step_139 : decode cX2_step 139 = .ok (.aload_n 0, 1) := by decide +kernel
theorem dX2_step_140 : decode cX2_step 140 = .ok (.getfield 31, 3) := by decide +kernel
theorem dX2_step_143 : decode cX2_step 143 = .ok (.iload_n 2, 1) := by decide +kernel
theorem dX2_step_144 : decode cX2_step 144 = .ok (.iadd, 1) := by decide +kernel
theorem dX2_step_145 : decode cX2_step 145 = .ok (.invokevirtual 104, 3) := by decide +kernel
theorem dX2_step_148 : decode cX2_step 148 = .ok (.putfield 54, 3) := by decide +kernel
theorem dX2_step_151 : decode cX2_step 151 = .ok (.aload_n 0, 1) := by decide +kernel
theorem dX2_step_152 : decode cX2_step 152 = .ok (.aload_n 0, 1) := by decide +kernel
theorem dX2_step_153 : decode cX2_step 153 = .ok (.aload_n 0, 1) := by decide +kernel
theorem dX2_step_154 : decode cX2_step 154 = .ok (.getfield 31, 3) := by decide +kernel
theorem dX2_step_157 : decode cX2_step 157 = .ok (.iload_n 2, 1) := by decide +kernel
theorem dX2_step_158 : decode cX2_step 158 = .ok (.iadd, 1) := by decide +kernel
theorem dX2_step_159 : decode cX2_step 159 = .ok (.iconst 1, 1) := by decide +kernel
theorem dX2_step_160 : decode cX2_step 160 = .ok (.iadd, 1) := by decide +kernel
theorem dX2_step_161 : decode cX2_step 161 = .ok (.invokevirtual 104, 3) := by decide +kernel
theorem dX2_step_164 : decode cX2_step 164 = .ok (.putfield 67, 3) := by decide +kernel
theorem dX2_step_167 : decode cX2_step 167 = .ok (.goto 160, 3) := by decide +kernel
theorem dX2_step_170 : decode cX2_step 170 = .ok (.aload_n 0, 1) := by decide +kernel
theorem dX2_step_171 : decode cX2_step 171 = .ok (.aload_n 0, 1) := by decide +kernel
theorem dX2_step_172 : decode cX2_step 172 = .ok (.getfield 54, 3) := by decide +kernel
theorem dX2_step_175 : decode cX2_step 175 = .ok (.invokevirtual 81, 3) := by decide +kernel
theorem dX2_step_178 : decode cX2_step 178 = .ok (.goto 149, 3) := by decide +kernel
theorem dX2_step_181 : decode cX2_step 181 = .ok (.aload_n 0, 1) := by decide +kernel
theorem dX2_step_182 : decode cX2_step 182 = .ok (.aload_n 0, 1) := by decide +kernel
theorem dX2_step_183 : decode cX2_step 183 = .ok (.getfield 54, 3) := by decide +kernel
theorem dX2_step_186 : decode cX2_step 186 = .ok (.invokevirtual 81, 3) := by decide +kernel
theorem dX2_step_189 : decode cX2_step 189 = .ok (.aload_n 0, 1) := by decide +kernel
theorem dX2_step_190 : decode cX2_step 190 = .ok (.aload_n 0, 1) := by decide +kernel
theorem dX2_step_191 : decode cX2_step 191 = .ok (.getfield 67, 3) := by decide +kernel
theorem dX2_step_194 : decode cX2_step 194 = .ok (.invokevirtual 81, 3) := by decide +kernel
theorem dX2_step_197 : decode cX2_step 197 = .ok (.goto 130, 3) := by decide +kernel
theorem dX2_step_200 : decode cX2_step 200 = .ok (.aload_n 0, 1) := by decide +kernel
theorem dX2_step_201 : decode cX2_step 201 = .ok (.aload_n 0, 1) := by decide +kernel
theorem dX2_step_202 : decode cX2_step 202 = .ok (.invokevirtual 95, 3) := by decide +kernel
theorem dX2_step_205 : decode cX2_step 205 = .ok (.aload_n 0, 1) := by decide +kernel
theorem dX2_step_206 : decode cX2_step 206 = .ok (.getfield 54, 3) := by decide +kernel
theorem dX2_step_209 : decode cX2_step 209 = .ok (.iadd, 1) := by decide +kernel
theorem dX2_step_210 : decode cX2_step 210 = .ok (.putfield 54, 3) := by decide +kernel
theorem dX2_step_213 : decode cX2_step 213 = .ok (.goto 114, 3) := by decide +kernel
theorem dX2_step_216 : decode cX2_step 216 = .ok (.aload_n 0, 1) := by decide +kernel
theorem dX2_step_217 : decode cX2_step 217 = .ok (.aload_n 0, 1) := by decide +kernel
theorem dX2_step_218 : decode cX2_step 218 = .ok (.invokevirtual 95, 3) := by decide +kernel
theorem dX2_step_221 : decode cX2_step 221 = .ok (.aload_n 0, 1) := by decide +kernel
theorem dX2_step_222 : decode cX2_step 222 = .ok (.getfield 54, 3) := by decide +kernel
theorem dX2_step_225 : decode cX2_step 225 = .ok (.isub, 1) := by decide +kernel
theorem dX2_step_226 : decode cX2_step 226 = .ok (.putfield 54, 3) := by decide +kernel
theorem dX2_step_229 : decode cX2_step 229 = .ok (.goto 98, 3) := by decide +kernel
theorem dX2_step_232 : decode cX2_step 232 = .ok (.aload_n 0, 1) := by decide +kernel
theorem dX2_step_233 : decode cX2_step 233 = .ok (.aload_n 0, 1) := by decide +kernel
theorem dX2_step_234 : decode cX2_step 234 = .ok (.invokevirtual 95, 3) := by decide +kernel
theorem dX2_step_237 : decode cX2_step 237 = .ok (.aload_n 0, 1) := by decide +kernel
theorem dX2_step_238 : decode cX2_step 238 = .ok (.getfield 54, 3) := by decide +kernel
theorem dX2_step_241 : decode cX2_step 241 = .ok (.imul, 1) := by decide +kernel
theorem dX2_step_242 : decode cX2_step 242 = .ok (.putfield 54, 3) := by decide +kernel
theorem dX2_step_245 : decode cX2_step 245 = .ok (.goto 82, 3) := by decide +kernel
theorem dX2_step_248 : decode cX2_step 248 = .ok (.aload_n 0, 1) := by decide +kernel
theorem dX2_step_249 : decode cX2_step 249 = .ok (.aload_n 0, 1) := by decide +kernel
theorem dX2_step_250 : decode cX2_step 250 = .ok (.getfield 54, 3) := by decide +kernel
theorem dX2_step_253 : decode cX2_step 253 = .ok (.putfield 67, 3) := by decide +kernel
theorem dX2_step_256 : decode cX2_step 256 = .ok (.aload_n 0, 1) := by decide +kernel
theorem dX2_step_257 : decode cX2_step 257 = .ok (.aload_n 0, 1) := by decide +kernel
theorem dX2_step_258 : decode cX2_step 258 = .ok (.invokevirtual 95, 3) := by decide +kernel
theorem dX2_step_261 : decode cX2_step 261 = .ok (.putfield 54, 3) := by decide +kernel
theorem dX2_step_264 : decode cX2_step 264 = .ok (.goto 63, 3) := by decide +kernel
theorem dX2_step_267 : decode cX2_step 267 = .ok (.aload_n 0, 1) := by decide +kernel
theorem dX2_step_268 : decode cX2_step 268 = .ok (.aload_n 0, 1) := by decide +kernel
theorem dX2_step_269 : decode cX2_step 269 = .ok (.getfield 67, 3) := by decide +kernel
theorem dX2_step_272 : decode cX2_step 272 = .ok (.putfield 54, 3) := by decide +kernel
theorem dX2_step_275 : decode cX2_step 275 = .ok (.goto 52, 3) := by decide +kernel
theorem dX2_step_278 : decode cX2_step 278 = .ok (.aload_n 0, 1) := by decide +kernel
theorem dX2_step_279 : decode cX2_step 279 = .ok (.aload_n 0, 1) := by decide +kernel
theorem dX2_step_280 : decode cX2_step 280 = .ok (.getfield 54, 3) := by decide +kernel
theorem dX2_step_283 : decode cX2_step 283 = .ok (.ifCond .ne 7, 3) := by decide +kernel
theorem dX2_step_286 : decode cX2_step 286 = .ok (.iload_n 2, 1) := by decide +kernel
theorem dX2_step_287 : decode cX2_step 287 = .ok (.goto 7, 3) := by decide +kernel
theorem dX2_step_290 : decode cX2_step 290 = .ok (.aload_n 0, 1) := by decide +kernel
theorem dX2_step_291 : decode cX2_step 291 = .ok (.getfield 92, 3) := by decide +kernel
theorem dX2_step_294 : decode cX2_step 294 = .ok (.putfield 92, 3) := by decide +kernel
theorem dX2_step_297 : decode cX2_step 297 = .ok (.goto 30, 3) := by decide +kernel
theorem dX2_step_300 : decode cX2_step 300 = .ok (.aload_n 0, 1) := by decide +kernel
theorem dX2_step_301 : decode cX2_step 301 = .ok (.iload_n 2, 1) := by decide +kernel
theorem dX2_step_302 : decode cX2_step 302 = .ok (.putfield 92, 3) := by decide +kernel
theorem dX2_step_305 : decode cX2_step 305 = .ok (.goto 22, 3) := by decide +kernel
theorem dX2_step_308 : decode cX2_step 308 = .ok (.aload_n 0, 1) := by decide +kernel
theorem dX2_step_309 : decode cX2_step 309 = .ok (.iload_n 2, 1) := by decide +kernel
theorem dX2_step_310 : decode cX2_step 310 = .ok (.bipush 26, 2) := by decide +kernel
theorem dX2_step_312 : decode cX2_step 312 = .ok (.idiv, 1) := by decide +kernel
theorem dX2_step_313 : decode cX2_step 313 = .ok (.iload_n 2, 1) := by decide +kernel
theorem dX2_step_314 : decode cX2_step 314 = .ok (.bipush 26, 2) := by decide +kernel
theorem dX2_step_316 : decode cX2_step 316 = .ok (.irem, 1) := by decide +kernel
theorem dX2_step_317 : decode cX2_step 317 = .ok (.invokevirtual 108, 3) := by decide +kernel
theorem dX2_step_320 : decode cX2_step 320 = .ok (.goto 7, 3) := by decide +kernel
theorem dX2_step_323 : decode cX2_step 323 = .ok (.aload_n 0, 1) := by decide +kernel
theorem dX2_step_324 : decode cX2_step 324 = .ok (.invokevirtual 112, 3) := by decide +kernel
theorem dX2_step_327 : decode cX2_step 327 = .ok (.return_, 1) := by decide +kernel
theorem dX2_enterNamed_0 : decode cX2_enterNamed 0 = .ok (.iload_n 1, 1) := by decide +kernel
theorem dX2_enterNamed_1 : decode cX2_enterNamed 1 = .ok (.ifCond .lt 23, 3) := by decide +kernel
theorem dX2_enterNamed_4 : decode cX2_enterNamed 4 = .ok (.iload_n 1, 1) := by decide +kernel
theorem dX2_enterNamed_5 : decode cX2_enterNamed 5 = .ok (.bipush 6, 2) := by decide +kernel
theorem dX2_enterNamed_7 : decode cX2_enterNamed 7 = .ok (.if_icmp .ge 17, 3) := by decide +kernel
theorem dX2_enterNamed_10 : decode cX2_enterNamed 10 = .ok (.aload_n 0, 1) := by decide +kernel
theorem dX2_enterNamed_11 : decode cX2_enterNamed 11 = .ok (.getfield 19, 3) := by decide +kernel
theorem dX2_enterNamed_14 : decode cX2_enterNamed 14 = .ok (.iload_n 1, 1) := by decide +kernel
theorem dX2_enterNamed_15 : decode cX2_enterNamed 15 = .ok (.aaload, 1) := by decide +kernel
theorem dX2_enterNamed_16 : decode cX2_enterNamed 16 = .ok (.iconst (-1), 1) := by decide +kernel
theorem dX2_enterNamed_17 : decode cX2_enterNamed 17 = .ok (.iload_n 2, 1) := by decide +kernel
theorem dX2_enterNamed_18 : decode cX2_enterNamed 18 = .ok (.invokevirtual 115, 3) := by decide +kernel
theorem dX2_enterNamed_21 : decode cX2_enterNamed 21 = .ok (.goto 4, 3) := by decide +kernel
theorem dX2_enterNamed_24 : decode cX2_enterNamed 24 = .ok (.aconst_null, 1) := by decide +kernel
theorem dX2_enterNamed_25 : decode cX2_enterNamed 25 = .ok (.astore_n 3, 1) := by decide +kernel
theorem dX2_enterNamed_26 : decode cX2_enterNamed 26 = .ok (.aload_n 3, 1) := by decide +kernel
theorem dX2_enterNamed_27 : decode cX2_enterNamed 27 = .ok (.ifnonnull 9, 3) := by decide +kernel
theorem dX2_enterNamed_30 : decode cX2_enterNamed 30 = .ok (.aload_n 0, 1) := by decide +kernel
theorem dX2_enterNamed_31 : decode cX2_enterNamed 31 = .ok (.iconst 1, 1) := by decide +kernel
theorem dX2_enterNamed_32 : decode cX2_enterNamed 32 = .ok (.putfield 43, 3) := by decide +kernel
theorem dX2_enterNamed_35 : decode cX2_enterNamed 35 = .ok (.return_, 1) := by decide +kernel
theorem dX2_enterNamed_36 : decode cX2_enterNamed 36 = .ok (.aload_n 0, 1) := by decide +kernel
theorem dX2_enterNamed_37 : decode cX2_enterNamed 37 = .ok (.aload_n 0, 1) := by decide +kernel
theorem dX2_enterNamed_38 : decode cX2_enterNamed 38 = .ok (.getfield 19, 3) := by decide +kernel
theorem dX2_enterNamed_41 : decode cX2_enterNamed 41 = .ok (.iload_n 1, 1) := by decide +kernel
theorem dX2_enterNamed_42 : decode cX2_enterNamed 42 = .ok (.aaload, 1) := by decide +kernel
theorem dX2_enterNamed_43 : decode cX2_enterNamed 43 = .ok (.aload_n 3, 1) := by decide +kernel
theorem dX2_enterNamed_44 : decode cX2_enterNamed 44 = .ok (.aload_n 0, 1) := by decide +kernel
theorem dX2_enterNamed_45 : decode cX2_enterNamed 45 = .ok (.getfield 85, 3) := by decide +kernel
theorem dX2_enterNamed_48 : decode cX2_enterNamed 48 = .ok (.getfield 119, 3) := by decide +kernel
theorem dX2_enterNamed_51 : decode cX2_enterNamed 51 = .ok (.sipush 240, 3) := by decide +kernel
theorem dX2_enterNamed_54 : decode cX2_enterNamed 54 = .ok (.imul, 1) := by decide +kernel
theorem dX2_enterNamed_55 : decode cX2_enterNamed 55 = .ok (.aload_n 0, 1) := by decide +kernel
theorem dX2_enterNamed_56 : decode cX2_enterNamed 56 = .ok (.getfield 92, 3) := by decide +kernel
theorem dX2_enterNamed_59 : decode cX2_enterNamed 59 = .ok (.iadd, 1) := by decide +kernel
theorem dX2_enterNamed_60 : decode cX2_enterNamed 60 = .ok (.invokevirtual 46, 3) := by decide +kernel
theorem dX2_enterNamed_63 : decode cX2_enterNamed 63 = .ok (.return_, 1) := by decide +kernel
theorem dX2_wordAt_0 : decode cX2_wordAt 0 = .ok (.iload_n 1, 1) := by decide +kernel
theorem dX2_wordAt_1 : decode cX2_wordAt 1 = .ok (.ifCond .lt 19, 3) := by decide +kernel
theorem dX2_wordAt_4 : decode cX2_wordAt 4 = .ok (.iload_n 1, 1) := by decide +kernel
theorem dX2_wordAt_5 : decode cX2_wordAt 5 = .ok (.sipush 500, 3) := by decide +kernel
theorem dX2_wordAt_8 : decode cX2_wordAt 8 = .ok (.if_icmp .ge 12, 3) := by decide +kernel
theorem dX2_wordAt_11 : decode cX2_wordAt 11 = .ok (.aload_n 0, 1) := by decide +kernel
theorem dX2_wordAt_12 : decode cX2_wordAt 12 = .ok (.getfield 9, 3) := by decide +kernel
theorem dX2_wordAt_15 : decode cX2_wordAt 15 = .ok (.iload_n 1, 1) := by decide +kernel
theorem dX2_wordAt_16 : decode cX2_wordAt 16 = .ok (.iaload, 1) := by decide +kernel
theorem dX2_wordAt_17 : decode cX2_wordAt 17 = .ok (.goto 4, 3) := by decide +kernel
theorem dX2_wordAt_20 : decode cX2_wordAt 20 = .ok (.iconst 0, 1) := by decide +kernel
theorem dX2_wordAt_21 : decode cX2_wordAt 21 = .ok (.ireturn, 1) := by decide +kernel
theorem dX2_push_0 : decode cX2_push 0 = .ok (.aload_n 0, 1) := by decide +kernel
theorem dX2_push_1 : decode cX2_push 1 = .ok (.getfield 28, 3) := by decide +kernel
theorem dX2_push_4 : decode cX2_push 4 = .ok (.sipush 500, 3) := by decide +kernel
theorem dX2_push_7 : decode cX2_push 7 = .ok (.if_icmp .ge 23, 3) := by decide +kernel
theorem dX2_push_10 : decode cX2_push 10 = .ok (.aload_n 0, 1) := by decide +kernel
theorem dX2_push_11 : decode cX2_push 11 = .ok (.getfield 9, 3) := by decide +kernel
theorem dX2_push_14 : decode cX2_push 14 = .ok (.aload_n 0, 1) := by decide +kernel
theorem dX2_push_15 : decode cX2_push 15 = .ok (.getfield 28, 3) := by decide +kernel
theorem dX2_push_18 : decode cX2_push 18 = .ok (.iload_n 1, 1) := by decide +kernel
theorem dX2_push_19 : decode cX2_push 19 = .ok (.iastore, 1) := by decide +kernel
theorem dX2_push_20 : decode cX2_push 20 = .ok (.aload_n 0, 1) := by decide +kernel
theorem dX2_push_21 : decode cX2_push 21 = .ok (.dup, 1) := by decide +kernel
theorem dX2_push_22 : decode cX2_push 22 = .ok (.getfield 28, 3) := by decide +kernel
theorem dX2_push_25 : decode cX2_push 25 = .ok (.iconst 1, 1) := by decide +kernel
theorem dX2_push_26 : decode cX2_push 26 = .ok (.iadd, 1) := by decide +kernel
theorem dX2_push_27 : decode cX2_push 27 = .ok (.putfield 28, 3) := by decide +kernel
theorem dX2_push_30 : decode cX2_push 30 = .ok (.return_, 1) := by decide +kernel
theorem dX2_pop_0 : decode cX2_pop 0 = .ok (.aload_n 0, 1) := by decide +kernel
theorem dX2_pop_1 : decode cX2_pop 1 = .ok (.getfield 28, 3) := by decide +kernel
theorem dX2_pop_4 : decode cX2_pop 4 = .ok (.ifCond .ne 5, 3) := by decide +kernel
theorem dX2_pop_7 : decode cX2_pop 7 = .ok (.iconst 0, 1) := by decide +kernel
theorem dX2_pop_8 : decode cX2_pop 8 = .ok (.ireturn, 1) := by decide +kernel
theorem dX2_pop_9 : decode cX2_pop 9 = .ok (.aload_n 0, 1) := by decide +kernel
theorem dX2_pop_10 : decode cX2_pop 10 = .ok (.dup, 1) := by decide +kernel
theorem dX2_pop_11 : decode cX2_pop 11 = .ok (.getfield 28, 3) := by decide +kernel
theorem dX2_pop_14 : decode cX2_pop 14 = .ok (.iconst 1, 1) := by decide +kernel
theorem dX2_pop_15 : decode cX2_pop 15 = .ok (.isub, 1) := by decide +kernel
theorem dX2_pop_16 : decode cX2_pop 16 = .ok (.putfield 28, 3) := by decide +kernel
theorem dX2_pop_19 : decode cX2_pop 19 = .ok (.aload_n 0, 1) := by decide +kernel
theorem dX2_pop_20 : decode cX2_pop 20 = .ok (.getfield 9, 3) := by decide +kernel
theorem dX2_pop_23 : decode cX2_pop 23 = .ok (.aload_n 0, 1) := by decide +kernel
theorem dX2_pop_24 : decode cX2_pop 24 = .ok (.getfield 28, 3) := by decide +kernel
theorem dX2_pop_27 : decode cX2_pop 27 = .ok (.iaload, 1) := by decide +kernel
theorem dX2_pop_28 : decode cX2_pop 28 = .ok (.ireturn, 1) := by decide +kernel
