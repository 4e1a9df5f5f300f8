theorem dX4_init_0 : decode cX4_init 0 = .ok (.aload_n 0, 1) := by decide +kernel
theorem dX4_init_1 : decode cX4_init 1 = .ok (.invokespecial 3, 3) := by decide +kernel
theorem dX4_init_4 : decode cX4_init 4 = .ok (.aload_n 0, 1) := by decide +kernel
theorem dX4_init_5 : decode cX4_init 5 = .ok (.bipush 120, 2) := by decide +kernel
theorem dX4_init_7 : decode cX4_init 7 = .ok (.newarray .char, 2) := by decide +kernel
theorem dX4_init_9 : decode cX4_init 9 = .ok (.putfield 9, 3) := by decide +kernel
theorem dX4_init_12 : decode cX4_init 12 = .ok (.aload_n 0, 1) := by decide +kernel
theorem dX4_init_13 : decode cX4_init 13 = .ok (.bipush 6, 2) := by decide +kernel
theorem dX4_init_15 : decode cX4_init 15 = .ok (.anewarray 13, 3) := by decide +kernel
theorem dX4_init_18 : decode cX4_init 18 = .ok (.putfield 15, 3) := by decide +kernel
theorem dX4_init_21 : decode cX4_init 21 = .ok (.aload_n 0, 1) := by decide +kernel
theorem dX4_init_22 : decode cX4_init 22 = .ok (.bipush 6, 2) := by decide +kernel
theorem dX4_init_24 : decode cX4_init 24 = .ok (.newarray .boolean, 2) := by decide +kernel
theorem dX4_init_26 : decode cX4_init 26 = .ok (.putfield 19, 3) := by decide +kernel
theorem dX4_init_29 : decode cX4_init 29 = .ok (.aload_n 0, 1) := by decide +kernel
theorem dX4_init_30 : decode cX4_init 30 = .ok (.new 13, 3) := by decide +kernel
theorem dX4_init_33 : decode cX4_init 33 = .ok (.dup, 1) := by decide +kernel
theorem dX4_init_34 : decode cX4_init 34 = .ok (.invokespecial 23, 3) := by decide +kernel
theorem dX4_init_37 : decode cX4_init 37 = .ok (.putfield 24, 3) := by decide +kernel
theorem dX4_init_40 : decode cX4_init 40 = .ok (.aload_n 0, 1) := by decide +kernel
theorem dX4_init_41 : decode cX4_init 41 = .ok (.new 28, 3) := by decide +kernel
theorem dX4_init_44 : decode cX4_init 44 = .ok (.dup, 1) := by decide +kernel
theorem dX4_init_45 : decode cX4_init 45 = .ok (.invokespecial 30, 3) := by decide +kernel
theorem dX4_init_48 : decode cX4_init 48 = .ok (.putfield 31, 3) := by decide +kernel
theorem dX4_init_51 : decode cX4_init 51 = .ok (.aload_n 0, 1) := by decide +kernel
theorem dX4_init_52 : decode cX4_init 52 = .ok (.iconst 0, 1) := by decide +kernel
theorem dX4_init_53 : decode cX4_init 53 = .ok (.putfield 35, 3) := by decide +kernel
theorem dX4_init_56 : decode cX4_init 56 = .ok (.aload_n 0, 1) := by decide +kernel
theorem dX4_init_57 : decode cX4_init 57 = .ok (.iconst (-1), 1) := by decide +kernel
theorem dX4_init_58 : decode cX4_init 58 = .ok (.putfield 39, 3) := by decide +kernel
theorem dX4_init_61 : decode cX4_init 61 = .ok (.aload_n 0, 1) := by decide +kernel
theorem dX4_init_62 : decode cX4_init 62 = .ok (.iconst (-1), 1) := by decide +kernel
theorem dX4_init_63 : decode cX4_init 63 = .ok (.putfield 42, 3) := by decide +kernel
theorem dX4_init_66 : decode cX4_init 66 = .ok (.iconst 0, 1) := by decide +kernel
theorem dX4_init_67 : decode cX4_init 67 = .ok (.istore_n 2, 1) := by decide +kernel
theorem dX4_init_68 : decode cX4_init 68 = .ok (.iload_n 2, 1) := by decide +kernel
theorem dX4_init_69 : decode cX4_init 69 = .ok (.bipush 6, 2) := by decide +kernel
theorem dX4_init_71 : decode cX4_init 71 = .ok (.if_icmp .ge 22, 3) := by decide +kernel
theorem dX4_init_74 : decode cX4_init 74 = .ok (.aload_n 0, 1) := by decide +kernel
theorem dX4_init_75 : decode cX4_init 75 = .ok (.getfield 15, 3) := by decide +kernel
theorem dX4_init_78 : decode cX4_init 78 = .ok (.iload_n 2, 1) := by decide +kernel
theorem dX4_init_79 : decode cX4_init 79 = .ok (.new 13, 3) := by decide +kernel
theorem dX4_init_82 : decode cX4_init 82 = .ok (.dup, 1) := by decide +kernel
theorem dX4_init_83 : decode cX4_init 83 = .ok (.invokespecial 23, 3) := by decide +kernel
theorem dX4_init_86 : decode cX4_init 86 = .ok (.aastore, 1) := by decide +kernel
theorem dX4_init_87 : decode cX4_init 87 = .ok (.iinc 2 1, 3) := by decide +kernel
theorem dX4_init_90 : decode cX4_init 90 = .ok (.goto (-22), 3) := by decide +kernel
theorem dX4_init_93 : decode cX4_init 93 = .ok (.aload_n 0, 1) := by decide +kernel
theorem dX4_init_94 : decode cX4_init 94 = .ok (.new 45, 3) := by decide +kernel
theorem dX4_init_97 : decode cX4_init 97 = .ok (.dup, 1) := by decide +kernel
theorem dX4_init_98 : decode cX4_init 98 = .ok (.bipush 8, 2) := by decide +kernel
theorem dX4_init_100 : decode cX4_init 100 = .ok (.sipush 500, 3) := by decide +kernel
theorem dX4_init_103 : decode cX4_init 103 = .ok (.iload_n 1, 1) := by decide +kernel
theorem dX4_init_104 : decode cX4_init 104 = .ok (.invokestatic 47, 3) := by decide +kernel
theorem dX4_init_107 : decode cX4_init 107 = .ok (.invokestatic 53, 3) := by decide +kernel
theorem dX4_init_110 : decode cX4_init 110 = .ok (.invokespecial 56, 3) := by decide +kernel
theorem dX4_init_113 : decode cX4_init 113 = .ok (.putfield 59, 3) := by decide +kernel
theorem dX4_init_116 : decode cX4_init 116 = .ok (.return_, 1) := by decide +kernel
theorem dX4_put_0 : decode cX4_put 0 = .ok (.iload_n 2, 1) := by decide +kernel
theorem dX4_put_1 : decode cX4_put 1 = .ok (.iconst 1, 1) := by decide +kernel
theorem dX4_put_2 : decode cX4_put 2 = .ok (.if_icmp .lt 19, 3) := by decide +kernel
theorem dX4_put_5 : decode cX4_put 5 = .ok (.iload_n 2, 1) := by decide +kernel
theorem dX4_put_6 : decode cX4_put 6 = .ok (.iconst 4, 1) := by decide +kernel
theorem dX4_put_7 : decode cX4_put 7 = .ok (.if_icmp .gt 14, 3) := by decide +kernel
theorem dX4_put_10 : decode cX4_put 10 = .ok (.aload_n 0, 1) := by decide +kernel
theorem dX4_put_11 : decode cX4_put 11 = .ok (.getfield 63, 3) := by decide +kernel
theorem dX4_put_14 : decode cX4_put 14 = .ok (.iload_n 2, 1) := by decide +kernel
theorem dX4_put_15 : decode cX4_put 15 = .ok (.iadd, 1) := by decide +kernel
theorem dX4_put_16 : decode cX4_put 16 = .ok (.bipush 120, 2) := by decide +kernel
theorem dX4_put_18 : decode cX4_put 18 = .ok (.if_icmp .le 5, 3) := by decide +kernel
theorem dX4_put_21 : decode cX4_put 21 = .ok (.iconst 0, 1) := by decide +kernel
theorem dX4_put_22 : decode cX4_put 22 = .ok (.ireturn, 1) := by decide +kernel
theorem dX4_put_23 : decode cX4_put 23 = .ok (.iconst 0, 1) := by decide +kernel
theorem dX4_put_24 : decode cX4_put 24 = .ok (.istore_n 3, 1) := by decide +kernel
theorem dX4_put_25 : decode cX4_put 25 = .ok (.iload_n 3, 1) := by decide +kernel
theorem dX4_put_26 : decode cX4_put 26 = .ok (.iload_n 2, 1) := by decide +kernel
theorem dX4_put_27 : decode cX4_put 27 = .ok (.if_icmp .ge 32, 3) := by decide +kernel
theorem dX4_put_30 : decode cX4_put 30 = .ok (.iload_n 1, 1) := by decide +kernel
theorem dX4_put_31 : decode cX4_put 31 = .ok (.iload_n 3, 1) := by decide +kernel
theorem dX4_put_32 : decode cX4_put 32 = .ok (.invokestatic 66, 3) := by decide +kernel
theorem dX4_put_35 : decode cX4_put 35 = .ok (.istore 4, 2) := by decide +kernel
theorem dX4_put_37 : decode cX4_put 37 = .ok (.iload 4, 2) := by decide +kernel
theorem dX4_put_39 : decode cX4_put 39 = .ok (.bipush 32, 2) := by decide +kernel
theorem dX4_put_41 : decode cX4_put 41 = .ok (.if_icmp .lt 10, 3) := by decide +kernel
theorem dX4_put_44 : decode cX4_put 44 = .ok (.iload 4, 2) := by decide +kernel
theorem dX4_put_46 : decode cX4_put 46 = .ok (.bipush 126, 2) := by decide +kernel
theorem dX4_put_48 : decode cX4_put 48 = .ok (.if_icmp .le 5, 3) := by decide +kernel
theorem dX4_put_51 : decode cX4_put 51 = .ok (.iconst 0, 1) := by decide +kernel
theorem dX4_put_52 : decode cX4_put 52 = .ok (.ireturn, 1) := by decide +kernel
theorem dX4_put_53 : decode cX4_put 53 = .ok (.iinc 3 1, 3) := by decide +kernel
theorem dX4_put_56 : decode cX4_put 56 = .ok (.goto (-31), 3) := by decide +kernel
theorem dX4_put_59 : decode cX4_put 59 = .ok (.iload_n 2, 1) := by decide +kernel
theorem dX4_put_60 : decode cX4_put 60 = .ok (.iconst 1, 1) := by decide +kernel
theorem dX4_put_61 : decode cX4_put 61 = .ok (.isub, 1) := by decide +kernel
theorem dX4_put_62 : decode cX4_put 62 = .ok (.istore_n 3, 1) := by decide +kernel
theorem dX4_put_63 : decode cX4_put 63 = .ok (.iload_n 3, 1) := by decide +kernel
theorem dX4_put_64 : decode cX4_put 64 = .ok (.ifCond .lt 34, 3) := by decide +kernel
theorem dX4_put_67 : decode cX4_put 67 = .ok (.aload_n 0, 1) := by decide +kernel
theorem dX4_put_68 : decode cX4_put 68 = .ok (.getfield 9, 3) := by decide +kernel
theorem dX4_put_71 : decode cX4_put 71 = .ok (.aload_n 0, 1) := by decide +kernel
theorem dX4_put_72 : decode cX4_put 72 = .ok (.getfield 63, 3) := by decide +kernel
theorem dX4_put_75 : decode cX4_put 75 = .ok (.iload_n 1, 1) := by decide +kernel
theorem dX4_put_76 : decode cX4_put 76 = .ok (.iload_n 3, 1) := by decide +kernel
theorem dX4_put_77 : decode cX4_put 77 = .ok (.invokestatic 66, 3) := by decide +kernel
theorem dX4_put_80 : decode cX4_put 80 = .ok (.i2c, 1) := by decide +kernel
theorem dX4_put_81 : decode cX4_put 81 = .ok (.castore, 1) := by decide +kernel
theorem dX4_put_82 : decode cX4_put 82 = .ok (.aload_n 0, 1) := by decide +kernel
theorem dX4_put_83 : decode cX4_put 83 = .ok (.dup, 1) := by decide +kernel
theorem dX4_put_84 : decode cX4_put 84 = .ok (.getfield 63, 3) := by decide +kernel
theorem dX4_put_87 : decode cX4_put 87 = .ok (.iconst 1, 1) := by decide +kernel
theorem dX4_put_88 : decode cX4_put 88 = .ok (.iadd, 1) := by decide +kernel
theorem dX4_put_89 : decode cX4_put 89 = .ok (.putfield 63, 3) := by decide +kernel
theorem dX4_put_92 : decode cX4_put 92 = .ok (.iinc 3 (-1), 3) := by decide +kernel
theorem dX4_put_95 : decode cX4_put 95 = .ok (.goto (-32), 3) := by decide +kernel
theorem dX4_put_98 : decode cX4_put 98 = .ok (.iconst 1, 1) := by decide +kernel
theorem dX4_put_99 : decode cX4_put 99 = .ok (.ireturn, 1) := by decide +kernel
theorem dX4_module_0 : decode cX4_module 0 = .ok (.aload_n 0, 1) := by decide +kernel
theorem dX4_module_1 : decode cX4_module 1 = .ok (.aload_n 0, 1) := by decide +kernel
theorem dX4_module_2 : decode cX4_module 2 = .ok (.getfield 31, 3) := by decide +kernel
theorem dX4_module_5 : decode cX4_module 5 = .ok (.aload_n 0, 1) := by decide +kernel
theorem dX4_module_6 : decode cX4_module 6 = .ok (.getfield 9, 3) := by decide +kernel
theorem dX4_module_9 : decode cX4_module 9 = .ok (.aload_n 0, 1) := by decide +kernel
theorem dX4_module_10 : decode cX4_module 10 = .ok (.getfield 63, 3) := by decide +kernel
theorem dX4_module_13 : decode cX4_module 13 = .ok (.aload_n 0, 1) := by decide +kernel
theorem dX4_module_14 : decode cX4_module 14 = .ok (.getfield 24, 3) := by decide +kernel
theorem dX4_module_17 : decode cX4_module 17 = .ok (.invokevirtual 69, 3) := by decide +kernel
theorem dX4_module_20 : decode cX4_module 20 = .ok (.putfield 35, 3) := by decide +kernel
theorem dX4_module_23 : decode cX4_module 23 = .ok (.aload_n 0, 1) := by decide +kernel
theorem dX4_module_24 : decode cX4_module 24 = .ok (.iconst 0, 1) := by decide +kernel
theorem dX4_module_25 : decode cX4_module 25 = .ok (.putfield 63, 3) := by decide +kernel
theorem dX4_module_28 : decode cX4_module 28 = .ok (.aload_n 0, 1) := by decide +kernel
theorem dX4_module_29 : decode cX4_module 29 = .ok (.getfield 35, 3) := by decide +kernel
theorem dX4_module_32 : decode cX4_module 32 = .ok (.ifCond .eq 11, 3) := by decide +kernel
theorem dX4_module_35 : decode cX4_module 35 = .ok (.new 73, 3) := by decide +kernel
theorem dX4_module_38 : decode cX4_module 38 = .ok (.dup, 1) := by decide +kernel
theorem dX4_module_39 : decode cX4_module 39 = .ok (.invokespecial 75, 3) := by decide +kernel
theorem dX4_module_42 : decode cX4_module 42 = .ok (.athrow, 1) := by decide +kernel
theorem dX4_module_43 : decode cX4_module 43 = .ok (.aload_n 0, 1) := by decide +kernel
theorem dX4_module_44 : decode cX4_module 44 = .ok (.getfield 24, 3) := by decide +kernel
theorem dX4_module_47 : decode cX4_module 47 = .ok (.getfield 76, 3) := by decide +kernel
theorem dX4_module_50 : decode cX4_module 50 = .ok (.istore_n 1, 1) := by decide +kernel
theorem dX4_module_51 : decode cX4_module 51 = .ok (.aload_n 0, 1) := by decide +kernel
theorem dX4_module_52 : decode cX4_module 52 = .ok (.getfield 15, 3) := by decide +kernel
theorem dX4_module_55 : decode cX4_module 55 = .ok (.iload_n 1, 1) := by decide +kernel
theorem dX4_module_56 : decode cX4_module 56 = .ok (.aaload, 1) := by decide +kernel
theorem dX4_module_57 : decode cX4_module 57 = .ok (.astore_n 2, 1) := by decide +kernel
theorem dX4_module_58 : decode cX4_module 58 = .ok (.aload_n 0, 1) := by decide +kernel
theorem dX4_module_59 : decode cX4_module 59 = .ok (.getfield 15, 3) := by decide +kernel
theorem dX4_module_62 : decode cX4_module 62 = .ok (.iload_n 1, 1) := by decide +kernel
theorem dX4_module_63 : decode cX4_module 63 = .ok (.aload_n 0, 1) := by decide +kernel
theorem dX4_module_64 : decode cX4_module 64 = .ok (.getfield 24, 3) := by decide +kernel
theorem dX4_module_67 : decode cX4_module 67 = .ok (.aastore, 1) := by decide +kernel
theorem dX4_module_68 : decode cX4_module 68 = .ok (.aload_n 0, 1) := by decide +kernel
theorem dX4_module_69 : decode cX4_module 69 = .ok (.aload_n 2, 1) := by decide +kernel
theorem dX4_module_70 : decode cX4_module 70 = .ok (.putfield 24, 3) := by decide +kernel
theorem dX4_module_73 : decode cX4_module 73 = .ok (.aload_n 0, 1) := by decide +kernel
theorem dX4_module_74 : decode cX4_module 74 = .ok (.getfield 19, 3) := by decide +kernel
theorem dX4_module_77 : decode cX4_module 77 = .ok (.iload_n 1, 1) := by decide +kernel
theorem dX4_module_78 : decode cX4_module 78 = .ok (.iconst 1, 1) := by decide +kernel
theorem dX4_module_79 : decode cX4_module 79 = .ok (.bastore, 1) := by decide +kernel
theorem dX4_module_80 : decode cX4_module 80 = .ok (.aload_n 0, 1) := by decide +kernel
theorem dX4_module_81 : decode cX4_module 81 = .ok (.iconst 0, 1) := by decide +kernel
theorem dX4_module_82 : decode cX4_module 82 = .ok (.putfield 79, 3) := by decide +kernel
theorem dX4_module_85 : decode cX4_module 85 = .ok (.iload_n 1, 1) := by decide +kernel
theorem dX4_module_86 : decode cX4_module 86 = .ok (.ireturn, 1) := by decide +kernel
theorem dX4_fault_0 : decode cX4_fault 0 = .ok (.aload_n 0, 1) := by decide +kernel
theorem dX4_fault_1 : decode cX4_fault 1 = .ok (.getfield 35, 3) := by decide +kernel
theorem dX4_fault_4 : decode cX4_fault 4 = .ok (.ireturn, 1) := by decide +kernel
theorem dX4_drop_0 : decode cX4_drop 0 = .ok (.aload_n 0, 1) := by decide +kernel
theorem dX4_drop_1 : decode cX4_drop 1 = .ok (.iload_n 1, 1) := by decide +kernel
theorem dX4_drop_2 : decode cX4_drop 2 = .ok (.invokevirtual 83, 3) := by decide +kernel
theorem dX4_drop_5 : decode cX4_drop 5 = .ok (.ifCond .ne 11, 3) := by decide +kernel
theorem dX4_drop_8 : decode cX4_drop 8 = .ok (.new 87, 3) := by decide +kernel
theorem dX4_drop_11 : decode cX4_drop 11 = .ok (.dup, 1) := by decide +kernel
theorem dX4_drop_12 : decode cX4_drop 12 = .ok (.invokespecial 89, 3) := by decide +kernel
theorem dX4_drop_15 : decode cX4_drop 15 = .ok (.athrow, 1) := by decide +kernel
theorem dX4_drop_16 : decode cX4_drop 16 = .ok (.aload_n 0, 1) := by decide +kernel
theorem dX4_drop_17 : decode cX4_drop 17 = .ok (.getfield 19, 3) := by decide +kernel
theorem dX4_drop_20 : decode cX4_drop 20 = .ok (.iload_n 1, 1) := by decide +kernel
theorem dX4_drop_21 : decode cX4_drop 21 = .ok (.iconst 0, 1) := by decide +kernel
theorem dX4_drop_22 : decode cX4_drop 22 = .ok (.bastore, 1) := by decide +kernel
theorem dX4_drop_23 : decode cX4_drop 23 = .ok (.aload_n 0, 1) := by decide +kernel
theorem dX4_drop_24 : decode cX4_drop 24 = .ok (.iconst 0, 1) := by decide +kernel
theorem dX4_drop_25 : decode cX4_drop 25 = .ok (.putfield 79, 3) := by decide +kernel
theorem dX4_drop_28 : decode cX4_drop 28 = .ok (.return_, 1) := by decide +kernel
theorem dX4_link_0 : decode cX4_link 0 = .ok (.aload_n 0, 1) := by decide +kernel
theorem dX4_link_1 : decode cX4_link 1 = .ok (.invokevirtual 90, 3) := by decide +kernel
theorem dX4_link_4 : decode cX4_link 4 = .ok (.ifCond .ne 11, 3) := by decide +kernel
theorem dX4_link_7 : decode cX4_link 7 = .ok (.new 94, 3) := by decide +kernel
theorem dX4_link_10 : decode cX4_link 10 = .ok (.dup, 1) := by decide +kernel
theorem dX4_link_11 : decode cX4_link 11 = .ok (.invokespecial 96, 3) := by decide +kernel
theorem dX4_link_14 : decode cX4_link 14 = .ok (.athrow, 1) := by decide +kernel
theorem dX4_link_15 : decode cX4_link 15 = .ok (.aload_n 0, 1) := by decide +kernel
theorem dX4_link_16 : decode cX4_link 16 = .ok (.invokevirtual 97, 3) := by decide +kernel
theorem dX4_link_19 : decode cX4_link 19 = .ok (.aload_n 0, 1) := by decide +kernel
theorem dX4_link_20 : decode cX4_link 20 = .ok (.aload_n 0, 1) := by decide +kernel
theorem dX4_link_21 : decode cX4_link 21 = .ok (.getfield 39, 3) := by decide +kernel
theorem dX4_link_24 : decode cX4_link 24 = .ok (.iconst (-1), 1) := by decide +kernel
theorem dX4_link_25 : decode cX4_link 25 = .ok (.if_icmp .ne 7, 3) := by decide +kernel
theorem dX4_link_28 : decode cX4_link 28 = .ok (.iconst 1, 1) := by decide +kernel
theorem dX4_link_29 : decode cX4_link 29 = .ok (.goto 4, 3) := by decide +kernel
theorem dX4_link_32 : decode cX4_link 32 = .ok (.iconst 0, 1) := by decide +kernel
theorem dX4_link_33 : decode cX4_link 33 = .ok (.putfield 79, 3) := by decide +kernel
theorem dX4_link_36 : decode cX4_link 36 = .ok (.aload_n 0, 1) := by decide +kernel
theorem dX4_link_37 : decode cX4_link 37 = .ok (.getfield 79, 3) := by decide +kernel
theorem dX4_link_40 : decode cX4_link 40 = .ok (.ifCond .ne 11, 3) := by decide +kernel
theorem dX4_link_43 : decode cX4_link 43 = .ok (.new 100, 3) := by decide +kernel
theorem dX4_link_46 : decode cX4_link 46 = .ok (.dup, 1) := by decide +kernel
theorem dX4_link_47 : decode cX4_link 47 = .ok (.invokespecial 102, 3) := by decide +kernel
theorem dX4_link_50 : decode cX4_link 50 = .ok (.athrow, 1) := by decide +kernel
theorem dX4_link_51 : decode cX4_link 51 = .ok (.aload_n 0, 1) := by decide +kernel
theorem dX4_link_52 : decode cX4_link 52 = .ok (.invokevirtual 103, 3) := by decide +kernel
theorem dX4_link_55 : decode cX4_link 55 = .ok (.ireturn, 1) := by decide +kernel
theorem dX4_unfit_0 : decode cX4_unfit 0 = .ok (.iload_n 1, 1) := by decide +kernel
theorem dX4_unfit_1 : decode cX4_unfit 1 = .ok (.lookupswitch 37 #[(0, 27), (1, 32)], 27) := by decide +kernel
theorem dX4_unfit_28 : decode cX4_unfit 28 = .ok (.aload_n 0, 1) := by decide +kernel
theorem dX4_unfit_29 : decode cX4_unfit 29 = .ok (.getfield 39, 3) := by decide +kernel
theorem dX4_unfit_32 : decode cX4_unfit 32 = .ok (.ireturn, 1) := by decide +kernel
theorem dX4_unfit_33 : decode cX4_unfit 33 = .ok (.aload_n 0, 1) := by decide +kernel
theorem dX4_unfit_34 : decode cX4_unfit 34 = .ok (.getfield 42, 3) := by decide +kernel
theorem dX4_unfit_37 : decode cX4_unfit 37 = .ok (.ireturn, 1) := by decide +kernel
theorem dX4_unfit_38 : decode cX4_unfit 38 = .ok (.iconst (-1), 1) := by decide +kernel
theorem dX4_unfit_39 : decode cX4_unfit 39 = .ok (.ireturn, 1) := by decide +kernel
theorem dX4_about_0 : decode cX4_about 0 = .ok (.aload_n 0, 1) := by decide +kernel
theorem dX4_about_1 : decode cX4_about 1 = .ok (.iload_n 1, 1) := by decide +kernel
theorem dX4_about_2 : decode cX4_about 2 = .ok (.iload_n 2, 1) := by decide +kernel
theorem dX4_about_3 : decode cX4_about 3 = .ok (.invokevirtual 107, 3) := by decide +kernel
theorem dX4_about_6 : decode cX4_about 6 = .ok (.astore 4, 2) := by decide +kernel
theorem dX4_about_8 : decode cX4_about 8 = .ok (.aload 4, 2) := by decide +kernel
theorem dX4_about_10 : decode cX4_about 10 = .ok (.ifnull 12, 3) := by decide +kernel
theorem dX4_about_13 : decode cX4_about 13 = .ok (.iload_n 3, 1) := by decide +kernel
theorem dX4_about_14 : decode cX4_about 14 = .ok (.ifCond .lt 8, 3) := by decide +kernel
theorem dX4_about_17 : decode cX4_about 17 = .ok (.iload_n 3, 1) := by decide +kernel
theorem dX4_about_18 : decode cX4_about 18 = .ok (.iconst 3, 1) := by decide +kernel
theorem dX4_about_19 : decode cX4_about 19 = .ok (.if_icmp .le 11, 3) := by decide +kernel
theorem dX4_about_22 : decode cX4_about 22 = .ok (.new 87, 3) := by decide +kernel
theorem dX4_about_25 : decode cX4_about 25 = .ok (.dup, 1) := by decide +kernel
theorem dX4_about_26 : decode cX4_about 26 = .ok (.invokespecial 89, 3) := by decide +kernel
theorem dX4_about_29 : decode cX4_about 29 = .ok (.athrow, 1) := by decide +kernel
theorem dX4_about_30 : decode cX4_about 30 = .ok (.iload_n 3, 1) := by decide +kernel
theorem dX4_about_31 : decode cX4_about 31 = .ok (.tableswitch 51 0 2 #[25, 31, 45], 25) := by decide +kernel
theorem dX4_about_56 : decode cX4_about 56 = .ok (.aload 4, 2) := by decide +kernel
theorem dX4_about_58 : decode cX4_about 58 = .ok (.getfield 111, 3) := by decide +kernel
theorem dX4_about_61 : decode cX4_about 61 = .ok (.ireturn, 1) := by decide +kernel
theorem dX4_about_62 : decode cX4_about 62 = .ok (.aload 4, 2) := by decide +kernel
theorem dX4_about_64 : decode cX4_about 64 = .ok (.getfield 116, 3) := by decide +kernel
theorem dX4_about_67 : decode cX4_about 67 = .ok (.ifCond .eq 7, 3) := by decide +kernel
theorem dX4_about_70 : decode cX4_about 70 = .ok (.iconst 1, 1) := by decide +kernel
theorem dX4_about_71 : decode cX4_about 71 = .ok (.goto 4, 3) := by decide +kernel
theorem dX4_about_74 : decode cX4_about 74 = .ok (.iconst 0, 1) := by decide +kernel
theorem dX4_about_75 : decode cX4_about 75 = .ok (.ireturn, 1) := by decide +kernel
theorem dX4_about_76 : decode cX4_about 76 = .ok (.aload 4, 2) := by decide +kernel
theorem dX4_about_78 : decode cX4_about 78 = .ok (.getfield 119, 3) := by decide +kernel
theorem dX4_about_81 : decode cX4_about 81 = .ok (.ireturn, 1) := by decide +kernel
theorem dX4_about_82 : decode cX4_about 82 = .ok (.aload 4, 2) := by decide +kernel
theorem dX4_about_84 : decode cX4_about 84 = .ok (.getfield 122, 3) := by decide +kernel
theorem dX4_about_87 : decode cX4_about 87 = .ok (.iconst 0, 1) := by decide +kernel
theorem dX4_about_88 : decode cX4_about 88 = .ok (.invokestatic 125, 3) := by decide +kernel
theorem dX4_about_91 : decode cX4_about 91 = .ok (.ireturn, 1) := by decide +kernel
theorem dX4_call_0 : decode cX4_call 0 = .ok (.aload_n 0, 1) := by decide +kernel
theorem dX4_call_1 : decode cX4_call 1 = .ok (.getfield 79, 3) := by decide +kernel
theorem dX4_call_4 : decode cX4_call 4 = .ok (.ifCond .ne 11, 3) := by decide +kernel
theorem dX4_call_7 : decode cX4_call 7 = .ok (.new 94, 3) := by decide +kernel
theorem dX4_call_10 : decode cX4_call 10 = .ok (.dup, 1) := by decide +kernel
theorem dX4_call_11 : decode cX4_call 11 = .ok (.invokespecial 96, 3) := by decide +kernel
theorem dX4_call_14 : decode cX4_call 14 = .ok (.athrow, 1) := by decide +kernel
theorem dX4_call_15 : decode cX4_call 15 = .ok (.aload_n 0, 1) := by decide +kernel
theorem dX4_call_16 : decode cX4_call 16 = .ok (.iload_n 1, 1) := by decide +kernel
theorem dX4_call_17 : decode cX4_call 17 = .ok (.iload_n 2, 1) := by decide +kernel
theorem dX4_call_18 : decode cX4_call 18 = .ok (.invokevirtual 107, 3) := by decide +kernel
theorem dX4_call_21 : decode cX4_call 21 = .ok (.astore 8, 2) := by decide +kernel
theorem dX4_call_23 : decode cX4_call 23 = .ok (.aload 8, 2) := by decide +kernel
theorem dX4_call_25 : decode cX4_call 25 = .ok (.ifnull 11, 3) := by decide +kernel
theorem dX4_call_28 : decode cX4_call 28 = .ok (.aload 8, 2) := by decide +kernel
theorem dX4_call_30 : decode cX4_call 30 = .ok (.getfield 116, 3) := by decide +kernel
theorem dX4_call_33 : decode cX4_call 33 = .ok (.ifCond .ne 11, 3) := by decide +kernel
theorem dX4_call_36 : decode cX4_call 36 = .ok (.new 87, 3) := by decide +kernel
theorem dX4_call_39 : decode cX4_call 39 = .ok (.dup, 1) := by decide +kernel
theorem dX4_call_40 : decode cX4_call 40 = .ok (.invokespecial 89, 3) := by decide +kernel
theorem dX4_call_43 : decode cX4_call 43 = .ok (.athrow, 1) := by decide +kernel
theorem dX4_call_44 : decode cX4_call 44 = .ok (.aload 8, 2) := by decide +kernel
theorem dX4_call_46 : decode cX4_call 46 = .ok (.getfield 119, 3) := by decide +kernel
theorem dX4_call_49 : decode cX4_call 49 = .ok (.iconst 4, 1) := by decide +kernel
theorem dX4_call_50 : decode cX4_call 50 = .ok (.if_icmp .le 11, 3) := by decide +kernel
theorem dX4_call_53 : decode cX4_call 53 = .ok (.new 73, 3) := by decide +kernel
theorem dX4_call_56 : decode cX4_call 56 = .ok (.dup, 1) := by decide +kernel
theorem dX4_call_57 : decode cX4_call 57 = .ok (.invokespecial 75, 3) := by decide +kernel
theorem dX4_call_60 : decode cX4_call 60 = .ok (.athrow, 1) := by decide +kernel
theorem dX4_call_61 : decode cX4_call 61 = .ok (.aload_n 0, 1) := by decide +kernel
theorem dX4_call_62 : decode cX4_call 62 = .ok (.getfield 59, 3) := by decide +kernel
theorem dX4_call_65 : decode cX4_call 65 = .ok (.iload_n 3, 1) := by decide +kernel
theorem dX4_call_66 : decode cX4_call 66 = .ok (.iload 4, 2) := by decide +kernel
theorem dX4_call_68 : decode cX4_call 68 = .ok (.iload 5, 2) := by decide +kernel
theorem dX4_call_70 : decode cX4_call 70 = .ok (.iload 6, 2) := by decide +kernel
theorem dX4_call_72 : decode cX4_call 72 = .ok (.invokevirtual 128, 3) := by decide +kernel
theorem dX4_call_75 : decode cX4_call 75 = .ok (.aload_n 0, 1) := by decide +kernel
theorem dX4_call_76 : decode cX4_call 76 = .ok (.getfield 59, 3) := by decide +kernel
theorem dX4_call_79 : decode cX4_call 79 = .ok (.aload_n 0, 1) := by decide +kernel
theorem dX4_call_80 : decode cX4_call 80 = .ok (.getfield 15, 3) := by decide +kernel
theorem dX4_call_83 : decode cX4_call 83 = .ok (.iload_n 1, 1) := by decide +kernel
theorem dX4_call_84 : decode cX4_call 84 = .ok (.aload 8, 2) := by decide +kernel
theorem dX4_call_86 : decode cX4_call 86 = .ok (.iconst 0, 1) := by decide +kernel
theorem dX4_call_87 : decode cX4_call 87 = .ok (.sipush 3000, 3) := by decide +kernel
theorem dX4_call_90 : decode cX4_call 90 = .ok (.iload 7, 2) := by decide +kernel
theorem dX4_call_92 : decode cX4_call 92 = .ok (.invokestatic 47, 3) := by decide +kernel
theorem dX4_call_95 : decode cX4_call 95 = .ok (.invokestatic 53, 3) := by decide +kernel
theorem dX4_call_98 : decode cX4_call 98 = .ok (.invokevirtual 132, 3) := by decide +kernel
theorem dX4_call_101 : decode cX4_call 101 = .ok (.ireturn, 1) := by decide +kernel
theorem dX4_result_0 : decode cX4_result 0 = .ok (.iload_n 1, 1) := by decide +kernel
theorem dX4_result_1 : decode cX4_result 1 = .ok (.lookupswitch 43 #[(0, 27), (1, 35)], 27) := by decide +kernel
theorem dX4_result_28 : decode cX4_result 28 = .ok (.aload_n 0, 1) := by decide +kernel
theorem dX4_result_29 : decode cX4_result 29 = .ok (.getfield 59, 3) := by decide +kernel
theorem dX4_result_32 : decode cX4_result 32 = .ok (.getfield 136, 3) := by decide +kernel
theorem dX4_result_35 : decode cX4_result 35 = .ok (.ireturn, 1) := by decide +kernel
theorem dX4_result_36 : decode cX4_result 36 = .ok (.aload_n 0, 1) := by decide +kernel
theorem dX4_result_37 : decode cX4_result 37 = .ok (.getfield 59, 3) := by decide +kernel
theorem dX4_result_40 : decode cX4_result 40 = .ok (.getfield 139, 3) := by decide +kernel
theorem dX4_result_43 : decode cX4_result 43 = .ok (.ireturn, 1) := by decide +kernel
theorem dX4_result_44 : decode cX4_result 44 = .ok (.iconst 0, 1) := by decide +kernel
theorem dX4_result_45 : decode cX4_result 45 = .ok (.ireturn, 1) := by decide +kernel
theorem dX4_took_0 : decode cX4_took 0 = .ok (.iload_n 1, 1) := by decide +kernel
theorem dX4_took_1 : decode cX4_took 1 = .ok (.lookupswitch 43 #[(0, 27), (1, 35)], 27) := by decide +kernel
theorem dX4_took_28 : decode cX4_took 28 = .ok (.aload_n 0, 1) := by decide +kernel
theorem dX4_took_29 : decode cX4_took 29 = .ok (.getfield 59, 3) := by decide +kernel
theorem dX4_took_32 : decode cX4_took 32 = .ok (.getfield 142, 3) := by decide +kernel
theorem dX4_took_35 : decode cX4_took 35 = .ok (.ireturn, 1) := by decide +kernel
theorem dX4_took_36 : decode cX4_took 36 = .ok (.aload_n 0, 1) := by decide +kernel
theorem dX4_took_37 : decode cX4_took 37 = .ok (.getfield 59, 3) := by decide +kernel
theorem dX4_took_40 : decode cX4_took 40 = .ok (.getfield 145, 3) := by decide +kernel
theorem dX4_took_43 : decode cX4_took 43 = .ok (.ireturn, 1) := by decide +kernel
theorem dX4_took_44 : decode cX4_took 44 = .ok (.iconst (-1), 1) := by decide +kernel
theorem dX4_took_45 : decode cX4_took 45 = .ok (.ireturn, 1) := by decide +kernel
theorem dX4_isPresent_0 : decode cX4_isPresent 0 = .ok (.iload_n 1, 1) := by decide +kernel
theorem dX4_isPresent_1 : decode cX4_isPresent 1 = .ok (.ifCond .lt 22, 3) := by decide +kernel
theorem dX4_isPresent_4 : decode cX4_isPresent 4 = .ok (.iload_n 1, 1) := by decide +kernel
theorem dX4_isPresent_5 : decode cX4_isPresent 5 = .ok (.bipush 6, 2) := by decide +kernel
theorem dX4_isPresent_7 : decode cX4_isPresent 7 = .ok (.if_icmp .ge 16, 3) := by decide +kernel
theorem dX4_isPresent_10 : decode cX4_isPresent 10 = .ok (.aload_n 0, 1) := by decide +kernel
theorem dX4_isPresent_11 : decode cX4_isPresent 11 = .ok (.getfield 19, 3) := by decide +kernel
theorem dX4_isPresent_14 : decode cX4_isPresent 14 = .ok (.iload_n 1, 1) := by decide +kernel
theorem dX4_isPresent_15 : decode cX4_isPresent 15 = .ok (.baload, 1) := by decide +kernel
theorem dX4_isPresent_16 : decode cX4_isPresent 16 = .ok (.ifCond .eq 7, 3) := by decide +kernel
theorem dX4_isPresent_19 : decode cX4_isPresent 19 = .ok (.iconst 1, 1) := by decide +kernel
theorem dX4_isPresent_20 : decode cX4_isPresent 20 = .ok (.goto 4, 3) := by decide +kernel
theorem dX4_isPresent_23 : decode cX4_isPresent 23 = .ok (.iconst 0, 1) := by decide +kernel
theorem dX4_isPresent_24 : decode cX4_isPresent 24 = .ok (.ireturn, 1) := by decide +kernel
theorem dX4_definitionOf_0 : decode cX4_definitionOf 0 = .ok (.aload_n 0, 1) := by decide +kernel
theorem dX4_definitionOf_1 : decode cX4_definitionOf 1 = .ok (.iload_n 1, 1) := by decide +kernel
theorem dX4_definitionOf_2 : decode cX4_definitionOf 2 = .ok (.invokevirtual 83, 3) := by decide +kernel
theorem dX4_definitionOf_5 : decode cX4_definitionOf 5 = .ok (.ifCond .eq 17, 3) := by decide +kernel
theorem dX4_definitionOf_8 : decode cX4_definitionOf 8 = .ok (.aload_n 0, 1) := by decide +kernel
theorem dX4_definitionOf_9 : decode cX4_definitionOf 9 = .ok (.getfield 15, 3) := by decide +kernel
theorem dX4_definitionOf_12 : decode cX4_definitionOf 12 = .ok (.iload_n 1, 1) := by decide +kernel
theorem dX4_definitionOf_13 : decode cX4_definitionOf 13 = .ok (.aaload, 1) := by decide +kernel
theorem dX4_definitionOf_14 : decode cX4_definitionOf 14 = .ok (.iconst (-1), 1) := by decide +kernel
theorem dX4_definitionOf_15 : decode cX4_definitionOf 15 = .ok (.iload_n 2, 1) := by decide +kernel
theorem dX4_definitionOf_16 : decode cX4_definitionOf 16 = .ok (.invokevirtual 148, 3) := by decide +kernel
theorem dX4_definitionOf_19 : decode cX4_definitionOf 19 = .ok (.goto 4, 3) := by decide +kernel
theorem dX4_definitionOf_22 : decode cX4_definitionOf 22 = .ok (.aconst_null, 1) := by decide +kernel
theorem dX4_definitionOf_23 : decode cX4_definitionOf 23 = .ok (.areturn, 1) := by decide +kernel
theorem dX4_hasModules_0 : decode cX4_hasModules 0 = .ok (.iconst 0, 1) := by decide +kernel
theorem dX4_hasModules_1 : decode cX4_hasModules 1 = .ok (.istore_n 1, 1) := by decide +kernel
theorem dX4_hasModules_2 : decode cX4_hasModules 2 = .ok (.iload_n 1, 1) := by decide +kernel
theorem dX4_hasModules_3 : decode cX4_hasModules 3 = .ok (.bipush 6, 2) := by decide +kernel
theorem dX4_hasModules_5 : decode cX4_hasModules 5 = .ok (.if_icmp .ge 20, 3) := by decide +kernel
theorem dX4_hasModules_8 : decode cX4_hasModules 8 = .ok (.aload_n 0, 1) := by decide +kernel
theorem dX4_hasModules_9 : decode cX4_hasModules 9 = .ok (.getfield 19, 3) := by decide +kernel
theorem dX4_hasModules_12 : decode cX4_hasModules 12 = .ok (.iload_n 1, 1) := by decide +kernel
theorem dX4_hasModules_13 : decode cX4_hasModules 13 = .ok (.baload, 1) := by decide +kernel
theorem dX4_hasModules_14 : decode cX4_hasModules 14 = .ok (.ifCond .eq 5, 3) := by decide +kernel
theorem dX4_hasModules_17 : decode cX4_hasModules 17 = .ok (.iconst 1, 1) := by decide +kernel
theorem dX4_hasModules_18 : decode cX4_hasModules 18 = .ok (.ireturn, 1) := by decide +kernel
theorem dX4_hasModules_19 : decode cX4_hasModules 19 = .ok (.iinc 1 1, 3) := by decide +kernel
theorem dX4_hasModules_22 : decode cX4_hasModules 22 = .ok (.goto (-20), 3) := by decide +kernel
theorem dX4_hasModules_25 : decode cX4_hasModules 25 = .ok (.iconst 0, 1) := by decide +kernel
theorem dX4_hasModules_26 : decode cX4_hasModules 26 = .ok (.ireturn, 1) := by decide +kernel
theorem dX4_countDefinitions_0 : decode cX4_countDefinitions 0 = .ok (.iconst 0, 1) := by decide +kernel
theorem dX4_countDefinitions_1 : decode cX4_countDefinitions 1 = .ok (.istore_n 1, 1) := by decide +kernel
theorem dX4_countDefinitions_2 : decode cX4_countDefinitions 2 = .ok (.iconst 0, 1) := by decide +kernel
theorem dX4_countDefinitions_3 : decode cX4_countDefinitions 3 = .ok (.istore_n 2, 1) := by decide +kernel
theorem dX4_countDefinitions_4 : decode cX4_countDefinitions 4 = .ok (.iload_n 2, 1) := by decide +kernel
theorem dX4_countDefinitions_5 : decode cX4_countDefinitions 5 = .ok (.bipush 6, 2) := by decide +kernel
theorem dX4_countDefinitions_7 : decode cX4_countDefinitions 7 = .ok (.if_icmp .ge 30, 3) := by decide +kernel
theorem dX4_countDefinitions_10 : decode cX4_countDefinitions 10 = .ok (.aload_n 0, 1) := by decide +kernel
theorem dX4_countDefinitions_11 : decode cX4_countDefinitions 11 = .ok (.getfield 19, 3) := by decide +kernel
theorem dX4_countDefinitions_14 : decode cX4_countDefinitions 14 = .ok (.iload_n 2, 1) := by decide +kernel
theorem dX4_countDefinitions_15 : decode cX4_countDefinitions 15 = .ok (.baload, 1) := by decide +kernel
theorem dX4_countDefinitions_16 : decode cX4_countDefinitions 16 = .ok (.ifCond .eq 15, 3) := by decide +kernel
theorem dX4_countDefinitions_19 : decode cX4_countDefinitions 19 = .ok (.iload_n 1, 1) := by decide +kernel
theorem dX4_countDefinitions_20 : decode cX4_countDefinitions 20 = .ok (.aload_n 0, 1) := by decide +kernel
theorem dX4_countDefinitions_21 : decode cX4_countDefinitions 21 = .ok (.getfield 15, 3) := by decide +kernel
theorem dX4_countDefinitions_24 : decode cX4_countDefinitions 24 = .ok (.iload_n 2, 1) := by decide +kernel
theorem dX4_countDefinitions_25 : decode cX4_countDefinitions 25 = .ok (.aaload, 1) := by decide +kernel
theorem dX4_countDefinitions_26 : decode cX4_countDefinitions 26 = .ok (.invokevirtual 151, 3) := by decide +kernel
theorem dX4_countDefinitions_29 : decode cX4_countDefinitions 29 = .ok (.iadd, 1) := by decide +kernel
theorem dX4_countDefinitions_30 : decode cX4_countDefinitions 30 = .ok (.istore_n 1, 1) := by decide +kernel
theorem dX4_countDefinitions_31 : decode cX4_countDefinitions 31 = .ok (.iinc 2 1, 3) := by decide +kernel
theorem dX4_countDefinitions_34 : decode cX4_countDefinitions 34 = .ok (.goto (-30), 3) := by decide +kernel
theorem dX4_countDefinitions_37 : decode cX4_countDefinitions 37 = .ok (.iload_n 1, 1) := by decide +kernel
theorem dX4_countDefinitions_38 : decode cX4_countDefinitions 38 = .ok (.ireturn, 1) := by decide +kernel
theorem dX4_findUnfit_0 : decode cX4_findUnfit 0 = .ok (.aload_n 0, 1) := by decide +kernel
theorem dX4_findUnfit_1 : decode cX4_findUnfit 1 = .ok (.iconst (-1), 1) := by decide +kernel
theorem dX4_findUnfit_2 : decode cX4_findUnfit 2 = .ok (.putfield 39, 3) := by decide +kernel
theorem dX4_findUnfit_5 : decode cX4_findUnfit 5 = .ok (.aload_n 0, 1) := by decide +kernel
theorem dX4_findUnfit_6 : decode cX4_findUnfit 6 = .ok (.iconst (-1), 1) := by decide +kernel
theorem dX4_findUnfit_7 : decode cX4_findUnfit 7 = .ok (.putfield 42, 3) := by decide +kernel
theorem dX4_findUnfit_10 : decode cX4_findUnfit 10 = .ok (.iconst 0, 1) := by decide +kernel
theorem dX4_findUnfit_11 : decode cX4_findUnfit 11 = .ok (.istore_n 1, 1) := by decide +kernel
theorem dX4_findUnfit_12 : decode cX4_findUnfit 12 = .ok (.iload_n 1, 1) := by decide +kernel
theorem dX4_findUnfit_13 : decode cX4_findUnfit 13 = .ok (.bipush 6, 2) := by decide +kernel
theorem dX4_findUnfit_15 : decode cX4_findUnfit 15 = .ok (.if_icmp .ge 56, 3) := by decide +kernel
theorem dX4_findUnfit_18 : decode cX4_findUnfit 18 = .ok (.aload_n 0, 1) := by decide +kernel
theorem dX4_findUnfit_19 : decode cX4_findUnfit 19 = .ok (.getfield 39, 3) := by decide +kernel
theorem dX4_findUnfit_22 : decode cX4_findUnfit 22 = .ok (.iconst (-1), 1) := by decide +kernel
theorem dX4_findUnfit_23 : decode cX4_findUnfit 23 = .ok (.if_icmp .ne 48, 3) := by decide +kernel
theorem dX4_findUnfit_26 : decode cX4_findUnfit 26 = .ok (.aload_n 0, 1) := by decide +kernel
theorem dX4_findUnfit_27 : decode cX4_findUnfit 27 = .ok (.getfield 19, 3) := by decide +kernel
theorem dX4_findUnfit_30 : decode cX4_findUnfit 30 = .ok (.iload_n 1, 1) := by decide +kernel
theorem dX4_findUnfit_31 : decode cX4_findUnfit 31 = .ok (.baload, 1) := by decide +kernel
theorem dX4_findUnfit_32 : decode cX4_findUnfit 32 = .ok (.ifCond .eq 16, 3) := by decide +kernel
theorem dX4_findUnfit_35 : decode cX4_findUnfit 35 = .ok (.aload_n 0, 1) := by decide +kernel
theorem dX4_findUnfit_36 : decode cX4_findUnfit 36 = .ok (.aload_n 0, 1) := by decide +kernel
theorem dX4_findUnfit_37 : decode cX4_findUnfit 37 = .ok (.getfield 15, 3) := by decide +kernel
theorem dX4_findUnfit_40 : decode cX4_findUnfit 40 = .ok (.iload_n 1, 1) := by decide +kernel
theorem dX4_findUnfit_41 : decode cX4_findUnfit 41 = .ok (.aaload, 1) := by decide +kernel
theorem dX4_findUnfit_42 : decode cX4_findUnfit 42 = .ok (.invokevirtual 152, 3) := by decide +kernel
theorem dX4_findUnfit_45 : decode cX4_findUnfit 45 = .ok (.goto 4, 3) := by decide +kernel
theorem dX4_findUnfit_48 : decode cX4_findUnfit 48 = .ok (.iconst (-1), 1) := by decide +kernel
theorem dX4_findUnfit_49 : decode cX4_findUnfit 49 = .ok (.istore_n 2, 1) := by decide +kernel
theorem dX4_findUnfit_50 : decode cX4_findUnfit 50 = .ok (.iload_n 2, 1) := by decide +kernel
theorem dX4_findUnfit_51 : decode cX4_findUnfit 51 = .ok (.iconst (-1), 1) := by decide +kernel
theorem dX4_findUnfit_52 : decode cX4_findUnfit 52 = .ok (.if_icmp .eq 13, 3) := by decide +kernel
theorem dX4_findUnfit_55 : decode cX4_findUnfit 55 = .ok (.aload_n 0, 1) := by decide +kernel
theorem dX4_findUnfit_56 : decode cX4_findUnfit 56 = .ok (.iload_n 1, 1) := by decide +kernel
theorem dX4_findUnfit_57 : decode cX4_findUnfit 57 = .ok (.putfield 39, 3) := by decide +kernel
theorem dX4_findUnfit_60 : decode cX4_findUnfit 60 = .ok (.aload_n 0, 1) := by decide +kernel
theorem dX4_findUnfit_61 : decode cX4_findUnfit 61 = .ok (.iload_n 2, 1) := by decide +kernel
theorem dX4_findUnfit_62 : decode cX4_findUnfit 62 = .ok (.putfield 42, 3) := by decide +kernel
theorem dX4_findUnfit_65 : decode cX4_findUnfit 65 = .ok (.iinc 1 1, 3) := by decide +kernel
theorem dX4_findUnfit_68 : decode cX4_findUnfit 68 = .ok (.goto (-56), 3) := by decide +kernel
theorem dX4_findUnfit_71 : decode cX4_findUnfit 71 = .ok (.return_, 1) := by decide +kernel
theorem dX4_firstUnfit_0 : decode cX4_firstUnfit 0 = .ok (.iconst 0, 1) := by decide +kernel
theorem dX4_firstUnfit_1 : decode cX4_firstUnfit 1 = .ok (.istore_n 2, 1) := by decide +kernel
theorem dX4_firstUnfit_2 : decode cX4_firstUnfit 2 = .ok (.iload_n 2, 1) := by decide +kernel
theorem dX4_firstUnfit_3 : decode cX4_firstUnfit 3 = .ok (.aload_n 1, 1) := by decide +kernel
theorem dX4_firstUnfit_4 : decode cX4_firstUnfit 4 = .ok (.getfield 156, 3) := by decide +kernel
theorem dX4_firstUnfit_7 : decode cX4_firstUnfit 7 = .ok (.if_icmp .ge 34, 3) := by decide +kernel
theorem dX4_firstUnfit_10 : decode cX4_firstUnfit 10 = .ok (.aload_n 1, 1) := by decide +kernel
theorem dX4_firstUnfit_11 : decode cX4_firstUnfit 11 = .ok (.getfield 159, 3) := by decide +kernel
theorem dX4_firstUnfit_14 : decode cX4_firstUnfit 14 = .ok (.iload_n 2, 1) := by decide +kernel
theorem dX4_firstUnfit_15 : decode cX4_firstUnfit 15 = .ok (.aaload, 1) := by decide +kernel
theorem dX4_firstUnfit_16 : decode cX4_firstUnfit 16 = .ok (.astore_n 3, 1) := by decide +kernel
theorem dX4_firstUnfit_17 : decode cX4_firstUnfit 17 = .ok (.aload_n 3, 1) := by decide +kernel
theorem dX4_firstUnfit_18 : decode cX4_firstUnfit 18 = .ok (.getfield 163, 3) := by decide +kernel
theorem dX4_firstUnfit_21 : decode cX4_firstUnfit 21 = .ok (.iconst (-1), 1) := by decide +kernel
theorem dX4_firstUnfit_22 : decode cX4_firstUnfit 22 = .ok (.if_icmp .eq 13, 3) := by decide +kernel
theorem dX4_firstUnfit_25 : decode cX4_firstUnfit 25 = .ok (.aload_n 0, 1) := by decide +kernel
theorem dX4_firstUnfit_26 : decode cX4_firstUnfit 26 = .ok (.aload_n 3, 1) := by decide +kernel
theorem dX4_firstUnfit_27 : decode cX4_firstUnfit 27 = .ok (.invokevirtual 166, 3) := by decide +kernel
theorem dX4_firstUnfit_30 : decode cX4_firstUnfit 30 = .ok (.ifCond .ne 5, 3) := by decide +kernel
theorem dX4_firstUnfit_33 : decode cX4_firstUnfit 33 = .ok (.iload_n 2, 1) := by decide +kernel
theorem dX4_firstUnfit_34 : decode cX4_firstUnfit 34 = .ok (.ireturn, 1) := by decide +kernel
theorem dX4_firstUnfit_35 : decode cX4_firstUnfit 35 = .ok (.iinc 2 1, 3) := by decide +kernel
theorem dX4_firstUnfit_38 : decode cX4_firstUnfit 38 = .ok (.goto (-36), 3) := by decide +kernel
theorem dX4_firstUnfit_41 : decode cX4_firstUnfit 41 = .ok (.iconst (-1), 1) := by decide +kernel
theorem dX4_firstUnfit_42 : decode cX4_firstUnfit 42 = .ok (.ireturn, 1) := by decide +kernel
theorem dX4_fits_0 : decode cX4_fits 0 = .ok (.aload_n 0, 1) := by decide +kernel
theorem dX4_fits_1 : decode cX4_fits 1 = .ok (.aload_n 1, 1) := by decide +kernel
theorem dX4_fits_2 : decode cX4_fits 2 = .ok (.getfield 163, 3) := by decide +kernel
theorem dX4_fits_5 : decode cX4_fits 5 = .ok (.aload_n 1, 1) := by decide +kernel
theorem dX4_fits_6 : decode cX4_fits 6 = .ok (.getfield 170, 3) := by decide +kernel
theorem dX4_fits_9 : decode cX4_fits 9 = .ok (.invokevirtual 107, 3) := by decide +kernel
theorem dX4_fits_12 : decode cX4_fits 12 = .ok (.astore_n 2, 1) := by decide +kernel
theorem dX4_fits_13 : decode cX4_fits 13 = .ok (.aload_n 2, 1) := by decide +kernel
theorem dX4_fits_14 : decode cX4_fits 14 = .ok (.ifnull 25, 3) := by decide +kernel
theorem dX4_fits_17 : decode cX4_fits 17 = .ok (.aload_n 2, 1) := by decide +kernel
theorem dX4_fits_18 : decode cX4_fits 18 = .ok (.getfield 116, 3) := by decide +kernel
theorem dX4_fits_21 : decode cX4_fits 21 = .ok (.ifCond .eq 18, 3) := by decide +kernel
theorem dX4_fits_24 : decode cX4_fits 24 = .ok (.aload_n 2, 1) := by decide +kernel
theorem dX4_fits_25 : decode cX4_fits 25 = .ok (.getfield 122, 3) := by decide +kernel
theorem dX4_fits_28 : decode cX4_fits 28 = .ok (.aload_n 1, 1) := by decide +kernel
theorem dX4_fits_29 : decode cX4_fits 29 = .ok (.getfield 122, 3) := by decide +kernel
theorem dX4_fits_32 : decode cX4_fits 32 = .ok (.if_icmp .ne 7, 3) := by decide +kernel
theorem dX4_fits_35 : decode cX4_fits 35 = .ok (.iconst 1, 1) := by decide +kernel
theorem dX4_fits_36 : decode cX4_fits 36 = .ok (.goto 4, 3) := by decide +kernel
theorem dX4_fits_39 : decode cX4_fits 39 = .ok (.iconst 0, 1) := by decide +kernel
theorem dX4_fits_40 : decode cX4_fits 40 = .ok (.ireturn, 1) := by decide +kernel
theorem dX4_byteOf_0 : decode cX4_byteOf 0 = .ok (.iload_n 0, 1) := by decide +kernel
theorem dX4_byteOf_1 : decode cX4_byteOf 1 = .ok (.bipush 8, 2) := by decide +kernel
theorem dX4_byteOf_3 : decode cX4_byteOf 3 = .ok (.iload_n 1, 1) := by decide +kernel
theorem dX4_byteOf_4 : decode cX4_byteOf 4 = .ok (.imul, 1) := by decide +kernel
theorem dX4_byteOf_5 : decode cX4_byteOf 5 = .ok (.iushr, 1) := by decide +kernel
theorem dX4_byteOf_6 : decode cX4_byteOf 6 = .ok (.sipush 255, 3) := by decide +kernel
theorem dX4_byteOf_9 : decode cX4_byteOf 9 = .ok (.iand, 1) := by decide +kernel
theorem dX4_byteOf_10 : decode cX4_byteOf 10 = .ok (.ireturn, 1) := by decide +kernel
theorem dX4_typeAt_0 : decode cX4_typeAt 0 = .ok (.iload_n 1, 1) := by decide +kernel
theorem dX4_typeAt_1 : decode cX4_typeAt 1 = .ok (.iconst 3, 1) := by decide +kernel
theorem dX4_typeAt_2 : decode cX4_typeAt 2 = .ok (.if_icmp .le 7, 3) := by decide +kernel
theorem dX4_typeAt_5 : decode cX4_typeAt 5 = .ok (.iconst 0, 1) := by decide +kernel
theorem dX4_typeAt_6 : decode cX4_typeAt 6 = .ok (.goto 10, 3) := by decide +kernel
theorem dX4_typeAt_9 : decode cX4_typeAt 9 = .ok (.iload_n 0, 1) := by decide +kernel
theorem dX4_typeAt_10 : decode cX4_typeAt 10 = .ok (.iconst 2, 1) := by decide +kernel
theorem dX4_typeAt_11 : decode cX4_typeAt 11 = .ok (.iload_n 1, 1) := by decide +kernel
theorem dX4_typeAt_12 : decode cX4_typeAt 12 = .ok (.imul, 1) := by decide +kernel
theorem dX4_typeAt_13 : decode cX4_typeAt 13 = .ok (.ishr, 1) := by decide +kernel
theorem dX4_typeAt_14 : decode cX4_typeAt 14 = .ok (.iconst 3, 1) := by decide +kernel
theorem dX4_typeAt_15 : decode cX4_typeAt 15 = .ok (.iand, 1) := by decide +kernel
theorem dX4_typeAt_16 : decode cX4_typeAt 16 = .ok (.ireturn, 1) := by decide +kernel
theorem dX4_wordsBefore_0 : decode cX4_wordsBefore 0 = .ok (.iconst 0, 1) := by decide +kernel
theorem dX4_wordsBefore_1 : decode cX4_wordsBefore 1 = .ok (.istore_n 2, 1) := by decide +kernel
theorem dX4_wordsBefore_2 : decode cX4_wordsBefore 2 = .ok (.iconst 1, 1) := by decide +kernel
theorem dX4_wordsBefore_3 : decode cX4_wordsBefore 3 = .ok (.istore_n 3, 1) := by decide +kernel
theorem dX4_wordsBefore_4 : decode cX4_wordsBefore 4 = .ok (.iload_n 3, 1) := by decide +kernel
theorem dX4_wordsBefore_5 : decode cX4_wordsBefore 5 = .ok (.iload_n 1, 1) := by decide +kernel
theorem dX4_wordsBefore_6 : decode cX4_wordsBefore 6 = .ok (.if_icmp .ge 17, 3) := by decide +kernel
theorem dX4_wordsBefore_9 : decode cX4_wordsBefore 9 = .ok (.iload_n 2, 1) := by decide +kernel
theorem dX4_wordsBefore_10 : decode cX4_wordsBefore 10 = .ok (.iload_n 0, 1) := by decide +kernel
theorem dX4_wordsBefore_11 : decode cX4_wordsBefore 11 = .ok (.iload_n 3, 1) := by decide +kernel
theorem dX4_wordsBefore_12 : decode cX4_wordsBefore 12 = .ok (.invokestatic 125, 3) := by decide +kernel
theorem dX4_wordsBefore_15 : decode cX4_wordsBefore 15 = .ok (.iadd, 1) := by decide +kernel
theorem dX4_wordsBefore_16 : decode cX4_wordsBefore 16 = .ok (.istore_n 2, 1) := by decide +kernel
theorem dX4_wordsBefore_17 : decode cX4_wordsBefore 17 = .ok (.iinc 3 1, 3) := by decide +kernel
theorem dX4_wordsBefore_20 : decode cX4_wordsBefore 20 = .ok (.goto (-16), 3) := by decide +kernel
theorem dX4_wordsBefore_23 : decode cX4_wordsBefore 23 = .ok (.iload_n 2, 1) := by decide +kernel
theorem dX4_wordsBefore_24 : decode cX4_wordsBefore 24 = .ok (.ireturn, 1) := by decide +kernel
