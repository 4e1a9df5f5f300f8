theorem dX0_readCall_63 : decode cX0_readCall 63 = .ok (.if_icmp .ne 13, 3) := by decide +kernel
theorem dX0_readCall_66 : decode cX0_readCall 66 = .ok (.aload_n 0, 1) := by decide +kernel
theorem dX0_readCall_67 : decode cX0_readCall 67 = .ok (.getfield 22, 3) := by decide +kernel
theorem dX0_readCall_70 : decode cX0_readCall 70 = .ok (.getfield 61, 3) := by decide +kernel
theorem dX0_readCall_73 : decode cX0_readCall 73 = .ok (.goto 4, 3) := by decide +kernel
theorem dX0_readCall_76 : decode cX0_readCall 76 = .ok (.iload_n 1, 1) := by decide +kernel
theorem dX0_readCall_77 : decode cX0_readCall 77 = .ok (.bipush 26, 2) := by decide +kernel
theorem dX0_readCall_79 : decode cX0_readCall 79 = .ok (.imul, 1) := by decide +kernel
theorem dX0_readCall_80 : decode cX0_readCall 80 = .ok (.iload_n 3, 1) := by decide +kernel
theorem dX0_readCall_81 : decode cX0_readCall 81 = .ok (.iadd, 1) := by decide +kernel
theorem dX0_readCall_82 : decode cX0_readCall 82 = .ok (.invokevirtual 131, 3) := by decide +kernel
theorem dX0_readCall_85 : decode cX0_readCall 85 = .ok (.pop, 1) := by decide +kernel
theorem dX0_readCall_86 : decode cX0_readCall 86 = .ok (.aload 4, 2) := by decide +kernel
theorem dX0_readCall_88 : decode cX0_readCall 88 = .ok (.ifnonnull 10, 3) := by decide +kernel
theorem dX0_readCall_91 : decode cX0_readCall 91 = .ok (.aload_n 0, 1) := by decide +kernel
theorem dX0_readCall_92 : decode cX0_readCall 92 = .ok (.iconst 1, 1) := by decide +kernel
theorem dX0_readCall_93 : decode cX0_readCall 93 = .ok (.putfield 38, 3) := by decide +kernel
theorem dX0_readCall_96 : decode cX0_readCall 96 = .ok (.iconst 1, 1) := by decide +kernel
theorem dX0_readCall_97 : decode cX0_readCall 97 = .ok (.ireturn, 1) := by decide +kernel
theorem dX0_readCall_98 : decode cX0_readCall 98 = .ok (.iload 5, 2) := by decide +kernel
theorem dX0_readCall_100 : decode cX0_readCall 100 = .ok (.iconst 0, 1) := by decide +kernel
theorem dX0_readCall_101 : decode cX0_readCall 101 = .ok (.invokestatic 120, 3) := by decide +kernel
theorem dX0_readCall_104 : decode cX0_readCall 104 = .ok (.ireturn, 1) := by decide +kernel
theorem dX0_readArguments_0 : decode cX0_readArguments 0 = .ok (.iconst 0, 1) := by decide +kernel
theorem dX0_readArguments_1 : decode cX0_readArguments 1 = .ok (.istore_n 3, 1) := by decide +kernel
theorem dX0_readArguments_2 : decode cX0_readArguments 2 = .ok (.iconst 0, 1) := by decide +kernel
theorem dX0_readArguments_3 : decode cX0_readArguments 3 = .ok (.istore 4, 2) := by decide +kernel
theorem dX0_readArguments_5 : decode cX0_readArguments 5 = .ok (.aload_n 0, 1) := by decide +kernel
theorem dX0_readArguments_6 : decode cX0_readArguments 6 = .ok (.invokevirtual 64, 3) := by decide +kernel
theorem dX0_readArguments_9 : decode cX0_readArguments 9 = .ok (.bipush 41, 2) := by decide +kernel
theorem dX0_readArguments_11 : decode cX0_readArguments 11 = .ok (.if_icmp .eq 7, 3) := by decide +kernel
theorem dX0_readArguments_14 : decode cX0_readArguments 14 = .ok (.iconst 1, 1) := by decide +kernel
theorem dX0_readArguments_15 : decode cX0_readArguments 15 = .ok (.goto 4, 3) := by decide +kernel
theorem dX0_readArguments_18 : decode cX0_readArguments 18 = .ok (.iconst 0, 1) := by decide +kernel
theorem dX0_readArguments_19 : decode cX0_readArguments 19 = .ok (.istore 5, 2) := by decide +kernel
theorem dX0_readArguments_21 : decode cX0_readArguments 21 = .ok (.iconst 0, 1) := by decide +kernel
theorem dX0_readArguments_22 : decode cX0_readArguments 22 = .ok (.istore 6, 2) := by decide +kernel
theorem dX0_readArguments_24 : decode cX0_readArguments 24 = .ok (.iload 6, 2) := by decide +kernel
theorem dX0_readArguments_26 : decode cX0_readArguments 26 = .ok (.bipush 120, 2) := by decide +kernel
theorem dX0_readArguments_28 : decode cX0_readArguments 28 = .ok (.if_icmp .ge 56, 3) := by decide +kernel
theorem dX0_readArguments_31 : decode cX0_readArguments 31 = .ok (.iload 5, 2) := by decide +kernel
theorem dX0_readArguments_33 : decode cX0_readArguments 33 = .ok (.ifCond .eq 51, 3) := by decide +kernel
theorem dX0_readArguments_36 : decode cX0_readArguments 36 = .ok (.aload_n 0, 1) := by decide +kernel
theorem dX0_readArguments_37 : decode cX0_readArguments 37 = .ok (.iload_n 2, 1) := by decide +kernel
theorem dX0_readArguments_38 : decode cX0_readArguments 38 = .ok (.invokevirtual 123, 3) := by decide +kernel
theorem dX0_readArguments_41 : decode cX0_readArguments 41 = .ok (.istore 7, 2) := by decide +kernel
theorem dX0_readArguments_43 : decode cX0_readArguments 43 = .ok (.iinc 3 1, 3) := by decide +kernel
theorem dX0_readArguments_46 : decode cX0_readArguments 46 = .ok (.aload_n 0, 1) := by decide +kernel
theorem dX0_readArguments_47 : decode cX0_readArguments 47 = .ok (.iload_n 1, 1) := by decide +kernel
theorem dX0_readArguments_48 : decode cX0_readArguments 48 = .ok (.iload_n 3, 1) := by decide +kernel
theorem dX0_readArguments_49 : decode cX0_readArguments 49 = .ok (.invokestatic 120, 3) := by decide +kernel
theorem dX0_readArguments_52 : decode cX0_readArguments 52 = .ok (.iload 7, 2) := by decide +kernel
theorem dX0_readArguments_54 : decode cX0_readArguments 54 = .ok (.invokevirtual 127, 3) := by decide +kernel
theorem dX0_readArguments_57 : decode cX0_readArguments 57 = .ok (.aload_n 0, 1) := by decide +kernel
theorem dX0_readArguments_58 : decode cX0_readArguments 58 = .ok (.iload 7, 2) := by decide +kernel
theorem dX0_readArguments_60 : decode cX0_readArguments 60 = .ok (.invokevirtual 138, 3) := by decide +kernel
theorem dX0_readArguments_63 : decode cX0_readArguments 63 = .ok (.iload 4, 2) := by decide +kernel
theorem dX0_readArguments_65 : decode cX0_readArguments 65 = .ok (.iload 7, 2) := by decide +kernel
theorem dX0_readArguments_67 : decode cX0_readArguments 67 = .ok (.iadd, 1) := by decide +kernel
theorem dX0_readArguments_68 : decode cX0_readArguments 68 = .ok (.istore 4, 2) := by decide +kernel
theorem dX0_readArguments_70 : decode cX0_readArguments 70 = .ok (.aload_n 0, 1) := by decide +kernel
theorem dX0_readArguments_71 : decode cX0_readArguments 71 = .ok (.bipush 44, 2) := by decide +kernel
theorem dX0_readArguments_73 : decode cX0_readArguments 73 = .ok (.invokevirtual 82, 3) := by decide +kernel
theorem dX0_readArguments_76 : decode cX0_readArguments 76 = .ok (.istore 5, 2) := by decide +kernel
theorem dX0_readArguments_78 : decode cX0_readArguments 78 = .ok (.iinc 6 1, 3) := by decide +kernel
theorem dX0_readArguments_81 : decode cX0_readArguments 81 = .ok (.goto (-57), 3) := by decide +kernel
theorem dX0_readArguments_84 : decode cX0_readArguments 84 = .ok (.aload_n 0, 1) := by decide +kernel
theorem dX0_readArguments_85 : decode cX0_readArguments 85 = .ok (.iconst 0, 1) := by decide +kernel
theorem dX0_readArguments_86 : decode cX0_readArguments 86 = .ok (.iload_n 1, 1) := by decide +kernel
theorem dX0_readArguments_87 : decode cX0_readArguments 87 = .ok (.iload_n 3, 1) := by decide +kernel
theorem dX0_readArguments_88 : decode cX0_readArguments 88 = .ok (.iconst 1, 1) := by decide +kernel
theorem dX0_readArguments_89 : decode cX0_readArguments 89 = .ok (.iadd, 1) := by decide +kernel
theorem dX0_readArguments_90 : decode cX0_readArguments 90 = .ok (.invokestatic 120, 3) := by decide +kernel
theorem dX0_readArguments_93 : decode cX0_readArguments 93 = .ok (.invokevirtual 127, 3) := by decide +kernel
theorem dX0_readArguments_96 : decode cX0_readArguments 96 = .ok (.aload_n 0, 1) := by decide +kernel
theorem dX0_readArguments_97 : decode cX0_readArguments 97 = .ok (.iload 4, 2) := by decide +kernel
theorem dX0_readArguments_99 : decode cX0_readArguments 99 = .ok (.invokevirtual 142, 3) := by decide +kernel
theorem dX0_readArguments_102 : decode cX0_readArguments 102 = .ok (.return_, 1) := by decide +kernel
theorem dX0_hold_0 : decode cX0_hold 0 = .ok (.aload_n 0, 1) := by decide +kernel
theorem dX0_hold_1 : decode cX0_hold 1 = .ok (.dup, 1) := by decide +kernel
theorem dX0_hold_2 : decode cX0_hold 2 = .ok (.getfield 114, 3) := by decide +kernel
theorem dX0_hold_5 : decode cX0_hold 5 = .ok (.iload_n 1, 1) := by decide +kernel
theorem dX0_hold_6 : decode cX0_hold 6 = .ok (.iadd, 1) := by decide +kernel
theorem dX0_hold_7 : decode cX0_hold 7 = .ok (.putfield 114, 3) := by decide +kernel
theorem dX0_hold_10 : decode cX0_hold 10 = .ok (.aload_n 0, 1) := by decide +kernel
theorem dX0_hold_11 : decode cX0_hold 11 = .ok (.aload_n 0, 1) := by decide +kernel
theorem dX0_hold_12 : decode cX0_hold 12 = .ok (.getfield 117, 3) := by decide +kernel
theorem dX0_hold_15 : decode cX0_hold 15 = .ok (.aload_n 0, 1) := by decide +kernel
theorem dX0_hold_16 : decode cX0_hold 16 = .ok (.getfield 114, 3) := by decide +kernel
theorem dX0_hold_19 : decode cX0_hold 19 = .ok (.invokestatic 179, 3) := by decide +kernel
theorem dX0_hold_22 : decode cX0_hold 22 = .ok (.putfield 117, 3) := by decide +kernel
theorem dX0_hold_25 : decode cX0_hold 25 = .ok (.aload_n 0, 1) := by decide +kernel
theorem dX0_hold_26 : decode cX0_hold 26 = .ok (.getfield 22, 3) := by decide +kernel
theorem dX0_hold_29 : decode cX0_hold 29 = .ok (.iload_n 1, 1) := by decide +kernel
theorem dX0_hold_30 : decode cX0_hold 30 = .ok (.iconst 2, 1) := by decide +kernel
theorem dX0_hold_31 : decode cX0_hold 31 = .ok (.if_icmp .ne 7, 3) := by decide +kernel
theorem dX0_hold_34 : decode cX0_hold 34 = .ok (.iconst 4, 1) := by decide +kernel
theorem dX0_hold_35 : decode cX0_hold 35 = .ok (.goto 4, 3) := by decide +kernel
theorem dX0_hold_38 : decode cX0_hold 38 = .ok (.iconst 3, 1) := by decide +kernel
theorem dX0_hold_39 : decode cX0_hold 39 = .ok (.iconst 0, 1) := by decide +kernel
theorem dX0_hold_40 : decode cX0_hold 40 = .ok (.invokevirtual 131, 3) := by decide +kernel
theorem dX0_hold_43 : decode cX0_hold 43 = .ok (.pop, 1) := by decide +kernel
theorem dX0_hold_44 : decode cX0_hold 44 = .ok (.return_, 1) := by decide +kernel
theorem dX0_release_0 : decode cX0_release 0 = .ok (.aload_n 0, 1) := by decide +kernel
theorem dX0_release_1 : decode cX0_release 1 = .ok (.dup, 1) := by decide +kernel
theorem dX0_release_2 : decode cX0_release 2 = .ok (.getfield 114, 3) := by decide +kernel
theorem dX0_release_5 : decode cX0_release 5 = .ok (.iload_n 1, 1) := by decide +kernel
theorem dX0_release_6 : decode cX0_release 6 = .ok (.isub, 1) := by decide +kernel
theorem dX0_release_7 : decode cX0_release 7 = .ok (.putfield 114, 3) := by decide +kernel
theorem dX0_release_10 : decode cX0_release 10 = .ok (.return_, 1) := by decide +kernel
theorem dX0_need_0 : decode cX0_need 0 = .ok (.iload_n 1, 1) := by decide +kernel
theorem dX0_need_1 : decode cX0_need 1 = .ok (.iload_n 2, 1) := by decide +kernel
theorem dX0_need_2 : decode cX0_need 2 = .ok (.if_icmp .eq 8, 3) := by decide +kernel
theorem dX0_need_5 : decode cX0_need 5 = .ok (.aload_n 0, 1) := by decide +kernel
theorem dX0_need_6 : decode cX0_need 6 = .ok (.iconst 1, 1) := by decide +kernel
theorem dX0_need_7 : decode cX0_need 7 = .ok (.putfield 38, 3) := by decide +kernel
theorem dX0_need_10 : decode cX0_need 10 = .ok (.return_, 1) := by decide +kernel
theorem dX0_peek_0 : decode cX0_peek 0 = .ok (.aload_n 0, 1) := by decide +kernel
theorem dX0_peek_1 : decode cX0_peek 1 = .ok (.getfield 19, 3) := by decide +kernel
theorem dX0_peek_4 : decode cX0_peek 4 = .ok (.aload_n 0, 1) := by decide +kernel
theorem dX0_peek_5 : decode cX0_peek 5 = .ok (.getfield 15, 3) := by decide +kernel
theorem dX0_peek_8 : decode cX0_peek 8 = .ok (.if_icmp .ge 15, 3) := by decide +kernel
theorem dX0_peek_11 : decode cX0_peek 11 = .ok (.aload_n 0, 1) := by decide +kernel
theorem dX0_peek_12 : decode cX0_peek 12 = .ok (.getfield 9, 3) := by decide +kernel
theorem dX0_peek_15 : decode cX0_peek 15 = .ok (.aload_n 0, 1) := by decide +kernel
theorem dX0_peek_16 : decode cX0_peek 16 = .ok (.getfield 19, 3) := by decide +kernel
theorem dX0_peek_19 : decode cX0_peek 19 = .ok (.caload, 1) := by decide +kernel
theorem dX0_peek_20 : decode cX0_peek 20 = .ok (.goto 4, 3) := by decide +kernel
theorem dX0_peek_23 : decode cX0_peek 23 = .ok (.iconst 0, 1) := by decide +kernel
theorem dX0_peek_24 : decode cX0_peek 24 = .ok (.ireturn, 1) := by decide +kernel
theorem dX0_takeIf_0 : decode cX0_takeIf 0 = .ok (.aload_n 0, 1) := by decide +kernel
theorem dX0_takeIf_1 : decode cX0_takeIf 1 = .ok (.getfield 19, 3) := by decide +kernel
theorem dX0_takeIf_4 : decode cX0_takeIf 4 = .ok (.aload_n 0, 1) := by decide +kernel
theorem dX0_takeIf_5 : decode cX0_takeIf 5 = .ok (.getfield 15, 3) := by decide +kernel
theorem dX0_takeIf_8 : decode cX0_takeIf 8 = .ok (.if_icmp .ge 16, 3) := by decide +kernel
theorem dX0_takeIf_11 : decode cX0_takeIf 11 = .ok (.aload_n 0, 1) := by decide +kernel
theorem dX0_takeIf_12 : decode cX0_takeIf 12 = .ok (.getfield 9, 3) := by decide +kernel
theorem dX0_takeIf_15 : decode cX0_takeIf 15 = .ok (.aload_n 0, 1) := by decide +kernel
theorem dX0_takeIf_16 : decode cX0_takeIf 16 = .ok (.getfield 19, 3) := by decide +kernel
theorem dX0_takeIf_19 : decode cX0_takeIf 19 = .ok (.caload, 1) := by decide +kernel
theorem dX0_takeIf_20 : decode cX0_takeIf 20 = .ok (.iload_n 1, 1) := by decide +kernel
theorem dX0_takeIf_21 : decode cX0_takeIf 21 = .ok (.if_icmp .eq 5, 3) := by decide +kernel
theorem dX0_takeIf_24 : decode cX0_takeIf 24 = .ok (.iconst 0, 1) := by decide +kernel
theorem dX0_takeIf_25 : decode cX0_takeIf 25 = .ok (.ireturn, 1) := by decide +kernel
theorem dX0_takeIf_26 : decode cX0_takeIf 26 = .ok (.aload_n 0, 1) := by decide +kernel
theorem dX0_takeIf_27 : decode cX0_takeIf 27 = .ok (.dup, 1) := by decide +kernel
theorem dX0_takeIf_28 : decode cX0_takeIf 28 = .ok (.getfield 19, 3) := by decide +kernel
theorem dX0_takeIf_31 : decode cX0_takeIf 31 = .ok (.iconst 1, 1) := by decide +kernel
theorem dX0_takeIf_32 : decode cX0_takeIf 32 = .ok (.iadd, 1) := by decide +kernel
theorem dX0_takeIf_33 : decode cX0_takeIf 33 = .ok (.putfield 19, 3) := by decide +kernel
theorem dX0_takeIf_36 : decode cX0_takeIf 36 = .ok (.iconst 1, 1) := by decide +kernel
theorem dX0_takeIf_37 : decode cX0_takeIf 37 = .ok (.ireturn, 1) := by decide +kernel
theorem dX0_take_0 : decode cX0_take 0 = .ok (.aload_n 0, 1) := by decide +kernel
theorem dX0_take_1 : decode cX0_take 1 = .ok (.iload_n 1, 1) := by decide +kernel
theorem dX0_take_2 : decode cX0_take 2 = .ok (.invokevirtual 82, 3) := by decide +kernel
theorem dX0_take_5 : decode cX0_take 5 = .ok (.ifCond .ne 8, 3) := by decide +kernel
theorem dX0_take_8 : decode cX0_take 8 = .ok (.aload_n 0, 1) := by decide +kernel
theorem dX0_take_9 : decode cX0_take 9 = .ok (.invokevirtual 75, 3) := by decide +kernel
theorem dX0_take_12 : decode cX0_take 12 = .ok (.pop, 1) := by decide +kernel
theorem dX0_take_13 : decode cX0_take 13 = .ok (.return_, 1) := by decide +kernel
theorem dX0_readAmong_0 : decode cX0_readAmong 0 = .ok (.aload_n 0, 1) := by decide +kernel
theorem dX0_readAmong_1 : decode cX0_readAmong 1 = .ok (.invokevirtual 64, 3) := by decide +kernel
theorem dX0_readAmong_4 : decode cX0_readAmong 4 = .ok (.istore_n 3, 1) := by decide +kernel
theorem dX0_readAmong_5 : decode cX0_readAmong 5 = .ok (.iload_n 3, 1) := by decide +kernel
theorem dX0_readAmong_6 : decode cX0_readAmong 6 = .ok (.iload_n 1, 1) := by decide +kernel
theorem dX0_readAmong_7 : decode cX0_readAmong 7 = .ok (.iload_n 2, 1) := by decide +kernel
theorem dX0_readAmong_8 : decode cX0_readAmong 8 = .ok (.invokestatic 151, 3) := by decide +kernel
theorem dX0_readAmong_11 : decode cX0_readAmong 11 = .ok (.ifCond .ne 10, 3) := by decide +kernel
theorem dX0_readAmong_14 : decode cX0_readAmong 14 = .ok (.aload_n 0, 1) := by decide +kernel
theorem dX0_readAmong_15 : decode cX0_readAmong 15 = .ok (.invokevirtual 75, 3) := by decide +kernel
theorem dX0_readAmong_18 : decode cX0_readAmong 18 = .ok (.pop, 1) := by decide +kernel
theorem dX0_readAmong_19 : decode cX0_readAmong 19 = .ok (.iconst 0, 1) := by decide +kernel
theorem dX0_readAmong_20 : decode cX0_readAmong 20 = .ok (.ireturn, 1) := by decide +kernel
theorem dX0_readAmong_21 : decode cX0_readAmong 21 = .ok (.aload_n 0, 1) := by decide +kernel
theorem dX0_readAmong_22 : decode cX0_readAmong 22 = .ok (.dup, 1) := by decide +kernel
theorem dX0_readAmong_23 : decode cX0_readAmong 23 = .ok (.getfield 19, 3) := by decide +kernel
theorem dX0_readAmong_26 : decode cX0_readAmong 26 = .ok (.iconst 1, 1) := by decide +kernel
theorem dX0_readAmong_27 : decode cX0_readAmong 27 = .ok (.iadd, 1) := by decide +kernel
theorem dX0_readAmong_28 : decode cX0_readAmong 28 = .ok (.putfield 19, 3) := by decide +kernel
theorem dX0_readAmong_31 : decode cX0_readAmong 31 = .ok (.iload_n 3, 1) := by decide +kernel
theorem dX0_readAmong_32 : decode cX0_readAmong 32 = .ok (.iload_n 1, 1) := by decide +kernel
theorem dX0_readAmong_33 : decode cX0_readAmong 33 = .ok (.isub, 1) := by decide +kernel
theorem dX0_readAmong_34 : decode cX0_readAmong 34 = .ok (.ireturn, 1) := by decide +kernel
theorem dX0_refuse_0 : decode cX0_refuse 0 = .ok (.aload_n 0, 1) := by decide +kernel
theorem dX0_refuse_1 : decode cX0_refuse 1 = .ok (.iconst 1, 1) := by decide +kernel
theorem dX0_refuse_2 : decode cX0_refuse 2 = .ok (.putfield 34, 3) := by decide +kernel
theorem dX0_refuse_5 : decode cX0_refuse 5 = .ok (.aload_n 0, 1) := by decide +kernel
theorem dX0_refuse_6 : decode cX0_refuse 6 = .ok (.aload_n 0, 1) := by decide +kernel
theorem dX0_refuse_7 : decode cX0_refuse 7 = .ok (.getfield 15, 3) := by decide +kernel
theorem dX0_refuse_10 : decode cX0_refuse 10 = .ok (.putfield 19, 3) := by decide +kernel
theorem dX0_refuse_13 : decode cX0_refuse 13 = .ok (.iconst 1, 1) := by decide +kernel
theorem dX0_refuse_14 : decode cX0_refuse 14 = .ok (.ireturn, 1) := by decide +kernel
theorem dX0_isIn_0 : decode cX0_isIn 0 = .ok (.iload_n 0, 1) := by decide +kernel
theorem dX0_isIn_1 : decode cX0_isIn 1 = .ok (.iload_n 1, 1) := by decide +kernel
theorem dX0_isIn_2 : decode cX0_isIn 2 = .ok (.if_icmp .lt 12, 3) := by decide +kernel
theorem dX0_isIn_5 : decode cX0_isIn 5 = .ok (.iload_n 0, 1) := by decide +kernel
theorem dX0_isIn_6 : decode cX0_isIn 6 = .ok (.iload_n 2, 1) := by decide +kernel
theorem dX0_isIn_7 : decode cX0_isIn 7 = .ok (.if_icmp .gt 7, 3) := by decide +kernel
theorem dX0_isIn_10 : decode cX0_isIn 10 = .ok (.iconst 1, 1) := by decide +kernel
theorem dX0_isIn_11 : decode cX0_isIn 11 = .ok (.goto 4, 3) := by decide +kernel
theorem dX0_isIn_14 : decode cX0_isIn 14 = .ok (.iconst 0, 1) := by decide +kernel
theorem dX0_isIn_15 : decode cX0_isIn 15 = .ok (.ireturn, 1) := by decide +kernel
