theorem dX3_init_0 : decode cX3_init 0 = .ok (.aload_n 0, 1) := by decide +kernel
theorem dX3_init_1 : decode cX3_init 1 = .ok (.invokespecial 3, 3) := by decide +kernel
theorem dX3_init_4 : decode cX3_init 4 = .ok (.aload_n 0, 1) := by decide +kernel
theorem dX3_init_5 : decode cX3_init 5 = .ok (.bipush 6, 2) := by decide +kernel
theorem dX3_init_7 : decode cX3_init 7 = .ok (.anewarray 9, 3) := by decide +kernel
theorem dX3_init_10 : decode cX3_init 10 = .ok (.putfield 11, 3) := by decide +kernel
theorem dX3_init_13 : decode cX3_init 13 = .ok (.aload_n 0, 1) := by decide +kernel
theorem dX3_init_14 : decode cX3_init 14 = .ok (.sipush 240, 3) := by decide +kernel
theorem dX3_init_17 : decode cX3_init 17 = .ok (.newarray .int, 2) := by decide +kernel
theorem dX3_init_19 : decode cX3_init 19 = .ok (.putfield 17, 3) := by decide +kernel
theorem dX3_init_22 : decode cX3_init 22 = .ok (.iconst 0, 1) := by decide +kernel
theorem dX3_init_23 : decode cX3_init 23 = .ok (.istore_n 1, 1) := by decide +kernel
theorem dX3_init_24 : decode cX3_init 24 = .ok (.iload_n 1, 1) := by decide +kernel
theorem dX3_init_25 : decode cX3_init 25 = .ok (.bipush 6, 2) := by decide +kernel
theorem dX3_init_27 : decode cX3_init 27 = .ok (.if_icmp .ge 22, 3) := by decide +kernel
theorem dX3_init_30 : decode cX3_init 30 = .ok (.aload_n 0, 1) := by decide +kernel
theorem dX3_init_31 : decode cX3_init 31 = .ok (.getfield 11, 3) := by decide +kernel
theorem dX3_init_34 : decode cX3_init 34 = .ok (.iload_n 1, 1) := by decide +kernel
theorem dX3_init_35 : decode cX3_init 35 = .ok (.new 9, 3) := by decide +kernel
theorem dX3_init_38 : decode cX3_init 38 = .ok (.dup, 1) := by decide +kernel
theorem dX3_init_39 : decode cX3_init 39 = .ok (.invokespecial 21, 3) := by decide +kernel
theorem dX3_init_42 : decode cX3_init 42 = .ok (.aastore, 1) := by decide +kernel
theorem dX3_init_43 : decode cX3_init 43 = .ok (.iinc 1 1, 3) := by decide +kernel
theorem dX3_init_46 : decode cX3_init 46 = .ok (.goto (-22), 3) := by decide +kernel
theorem dX3_init_49 : decode cX3_init 49 = .ok (.return_, 1) := by decide +kernel
theorem dX3_find_0 : decode cX3_find 0 = .ok (.iconst 0, 1) := by decide +kernel
theorem dX3_find_1 : decode cX3_find 1 = .ok (.istore_n 3, 1) := by decide +kernel
theorem dX3_find_2 : decode cX3_find 2 = .ok (.iload_n 3, 1) := by decide +kernel
theorem dX3_find_3 : decode cX3_find 3 = .ok (.aload_n 0, 1) := by decide +kernel
theorem dX3_find_4 : decode cX3_find 4 = .ok (.getfield 22, 3) := by decide +kernel
theorem dX3_find_7 : decode cX3_find 7 = .ok (.if_icmp .ge 42, 3) := by decide +kernel
theorem dX3_find_10 : decode cX3_find 10 = .ok (.aload_n 0, 1) := by decide +kernel
theorem dX3_find_11 : decode cX3_find 11 = .ok (.getfield 11, 3) := by decide +kernel
theorem dX3_find_14 : decode cX3_find 14 = .ok (.iload_n 3, 1) := by decide +kernel
theorem dX3_find_15 : decode cX3_find 15 = .ok (.aaload, 1) := by decide +kernel
theorem dX3_find_16 : decode cX3_find 16 = .ok (.getfield 26, 3) := by decide +kernel
theorem dX3_find_19 : decode cX3_find 19 = .ok (.iload_n 1, 1) := by decide +kernel
theorem dX3_find_20 : decode cX3_find 20 = .ok (.if_icmp .ne 23, 3) := by decide +kernel
theorem dX3_find_23 : decode cX3_find 23 = .ok (.aload_n 0, 1) := by decide +kernel
theorem dX3_find_24 : decode cX3_find 24 = .ok (.getfield 11, 3) := by decide +kernel
theorem dX3_find_27 : decode cX3_find 27 = .ok (.iload_n 3, 1) := by decide +kernel
theorem dX3_find_28 : decode cX3_find 28 = .ok (.aaload, 1) := by decide +kernel
theorem dX3_find_29 : decode cX3_find 29 = .ok (.getfield 29, 3) := by decide +kernel
theorem dX3_find_32 : decode cX3_find 32 = .ok (.iload_n 2, 1) := by decide +kernel
theorem dX3_find_33 : decode cX3_find 33 = .ok (.if_icmp .ne 10, 3) := by decide +kernel
theorem dX3_find_36 : decode cX3_find 36 = .ok (.aload_n 0, 1) := by decide +kernel
theorem dX3_find_37 : decode cX3_find 37 = .ok (.getfield 11, 3) := by decide +kernel
theorem dX3_find_40 : decode cX3_find 40 = .ok (.iload_n 3, 1) := by decide +kernel
theorem dX3_find_41 : decode cX3_find 41 = .ok (.aaload, 1) := by decide +kernel
theorem dX3_find_42 : decode cX3_find 42 = .ok (.areturn, 1) := by decide +kernel
theorem dX3_find_43 : decode cX3_find 43 = .ok (.iinc 3 1, 3) := by decide +kernel
theorem dX3_find_46 : decode cX3_find 46 = .ok (.goto (-44), 3) := by decide +kernel
theorem dX3_find_49 : decode cX3_find 49 = .ok (.aconst_null, 1) := by decide +kernel
theorem dX3_find_50 : decode cX3_find 50 = .ok (.areturn, 1) := by decide +kernel
theorem dX3_countDefinitions_0 : decode cX3_countDefinitions 0 = .ok (.iconst 0, 1) := by decide +kernel
theorem dX3_countDefinitions_1 : decode cX3_countDefinitions 1 = .ok (.istore_n 1, 1) := by decide +kernel
theorem dX3_countDefinitions_2 : decode cX3_countDefinitions 2 = .ok (.iconst 0, 1) := by decide +kernel
theorem dX3_countDefinitions_3 : decode cX3_countDefinitions 3 = .ok (.istore_n 2, 1) := by decide +kernel
theorem dX3_countDefinitions_4 : decode cX3_countDefinitions 4 = .ok (.iload_n 2, 1) := by decide +kernel
theorem dX3_countDefinitions_5 : decode cX3_countDefinitions 5 = .ok (.aload_n 0, 1) := by decide +kernel
theorem dX3_countDefinitions_6 : decode cX3_countDefinitions 6 = .ok (.getfield 22, 3) := by decide +kernel
theorem dX3_countDefinitions_9 : decode cX3_countDefinitions 9 = .ok (.if_icmp .ge 25, 3) := by decide +kernel
theorem dX3_countDefinitions_12 : decode cX3_countDefinitions 12 = .ok (.aload_n 0, 1) := by decide +kernel
theorem dX3_countDefinitions_13 : decode cX3_countDefinitions 13 = .ok (.getfield 11, 3) := by decide +kernel
theorem dX3_countDefinitions_16 : decode cX3_countDefinitions 16 = .ok (.iload_n 2, 1) := by decide +kernel
theorem dX3_countDefinitions_17 : decode cX3_countDefinitions 17 = .ok (.aaload, 1) := by decide +kernel
theorem dX3_countDefinitions_18 : decode cX3_countDefinitions 18 = .ok (.getfield 26, 3) := by decide +kernel
theorem dX3_countDefinitions_21 : decode cX3_countDefinitions 21 = .ok (.iconst (-1), 1) := by decide +kernel
theorem dX3_countDefinitions_22 : decode cX3_countDefinitions 22 = .ok (.if_icmp .ne 6, 3) := by decide +kernel
theorem dX3_countDefinitions_25 : decode cX3_countDefinitions 25 = .ok (.iinc 1 1, 3) := by decide +kernel
theorem dX3_countDefinitions_28 : decode cX3_countDefinitions 28 = .ok (.iinc 2 1, 3) := by decide +kernel
theorem dX3_countDefinitions_31 : decode cX3_countDefinitions 31 = .ok (.goto (-27), 3) := by decide +kernel
theorem dX3_countDefinitions_34 : decode cX3_countDefinitions 34 = .ok (.iload_n 1, 1) := by decide +kernel
theorem dX3_countDefinitions_35 : decode cX3_countDefinitions 35 = .ok (.ireturn, 1) := by decide +kernel
theorem dX3_emit_0 : decode cX3_emit 0 = .ok (.aload_n 0, 1) := by decide +kernel
theorem dX3_emit_1 : decode cX3_emit 1 = .ok (.getfield 32, 3) := by decide +kernel
theorem dX3_emit_4 : decode cX3_emit 4 = .ok (.istore_n 3, 1) := by decide +kernel
theorem dX3_emit_5 : decode cX3_emit 5 = .ok (.iload_n 3, 1) := by decide +kernel
theorem dX3_emit_6 : decode cX3_emit 6 = .ok (.sipush 240, 3) := by decide +kernel
theorem dX3_emit_9 : decode cX3_emit 9 = .ok (.if_icmp .ge 24, 3) := by decide +kernel
theorem dX3_emit_12 : decode cX3_emit 12 = .ok (.aload_n 0, 1) := by decide +kernel
theorem dX3_emit_13 : decode cX3_emit 13 = .ok (.getfield 17, 3) := by decide +kernel
theorem dX3_emit_16 : decode cX3_emit 16 = .ok (.iload_n 3, 1) := by decide +kernel
theorem dX3_emit_17 : decode cX3_emit 17 = .ok (.iload_n 1, 1) := by decide +kernel
theorem dX3_emit_18 : decode cX3_emit 18 = .ok (.iload_n 2, 1) := by decide +kernel
theorem dX3_emit_19 : decode cX3_emit 19 = .ok (.iconst 4, 1) := by decide +kernel
theorem dX3_emit_20 : decode cX3_emit 20 = .ok (.ishl, 1) := by decide +kernel
theorem dX3_emit_21 : decode cX3_emit 21 = .ok (.ior, 1) := by decide +kernel
theorem dX3_emit_22 : decode cX3_emit 22 = .ok (.iastore, 1) := by decide +kernel
theorem dX3_emit_23 : decode cX3_emit 23 = .ok (.aload_n 0, 1) := by decide +kernel
theorem dX3_emit_24 : decode cX3_emit 24 = .ok (.dup, 1) := by decide +kernel
theorem dX3_emit_25 : decode cX3_emit 25 = .ok (.getfield 32, 3) := by decide +kernel
theorem dX3_emit_28 : decode cX3_emit 28 = .ok (.iconst 1, 1) := by decide +kernel
theorem dX3_emit_29 : decode cX3_emit 29 = .ok (.iadd, 1) := by decide +kernel
theorem dX3_emit_30 : decode cX3_emit 30 = .ok (.putfield 32, 3) := by decide +kernel
theorem dX3_emit_33 : decode cX3_emit 33 = .ok (.iload_n 3, 1) := by decide +kernel
theorem dX3_emit_34 : decode cX3_emit 34 = .ok (.ireturn, 1) := by decide +kernel
theorem dX3_landHere_0 : decode cX3_landHere 0 = .ok (.iload_n 1, 1) := by decide +kernel
theorem dX3_landHere_1 : decode cX3_landHere 1 = .ok (.sipush 240, 3) := by decide +kernel
theorem dX3_landHere_4 : decode cX3_landHere 4 = .ok (.if_icmp .ge 18, 3) := by decide +kernel
theorem dX3_landHere_7 : decode cX3_landHere 7 = .ok (.aload_n 0, 1) := by decide +kernel
theorem dX3_landHere_8 : decode cX3_landHere 8 = .ok (.getfield 17, 3) := by decide +kernel
theorem dX3_landHere_11 : decode cX3_landHere 11 = .ok (.iload_n 1, 1) := by decide +kernel
theorem dX3_landHere_12 : decode cX3_landHere 12 = .ok (.dup2, 1) := by decide +kernel
theorem dX3_landHere_13 : decode cX3_landHere 13 = .ok (.iaload, 1) := by decide +kernel
theorem dX3_landHere_14 : decode cX3_landHere 14 = .ok (.aload_n 0, 1) := by decide +kernel
theorem dX3_landHere_15 : decode cX3_landHere 15 = .ok (.getfield 32, 3) := by decide +kernel
theorem dX3_landHere_18 : decode cX3_landHere 18 = .ok (.iconst 4, 1) := by decide +kernel
theorem dX3_landHere_19 : decode cX3_landHere 19 = .ok (.ishl, 1) := by decide +kernel
theorem dX3_landHere_20 : decode cX3_landHere 20 = .ok (.ior, 1) := by decide +kernel
theorem dX3_landHere_21 : decode cX3_landHere 21 = .ok (.iastore, 1) := by decide +kernel
theorem dX3_landHere_22 : decode cX3_landHere 22 = .ok (.return_, 1) := by decide +kernel
