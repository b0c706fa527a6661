theorem dX0_init_0 : decode cX0_init 0 = .ok (.aload_n 0, 1) := by decide +kernel
theorem dX0_init_1 : decode cX0_init 1 = .ok (.invokespecial 1, 3) := by decide +kernel
theorem dX0_init_4 : decode cX0_init 4 = .ok (.return_, 1) := by decide +kernel
theorem dX0_verdict_0 : decode cX0_verdict 0 = .ok (.aload_n 1, 1) := by decide +kernel
theorem dX0_verdict_1 : decode cX0_verdict 1 = .ok (.dup, 1) := by decide +kernel
theorem dX0_verdict_2 : decode cX0_verdict 2 = .ok (.getfield 7, 3) := by decide +kernel
theorem dX0_verdict_5 : decode cX0_verdict 5 = .ok (.ldc2_w 13, 3) := by decide +kernel
theorem dX0_verdict_8 : decode cX0_verdict 8 = .ok (.ladd, 1) := by decide +kernel
theorem dX0_verdict_9 : decode cX0_verdict 9 = .ok (.putfield 7, 3) := by decide +kernel
theorem dX0_verdict_12 : decode cX0_verdict 12 = .ok (.aload_n 0, 1) := by decide +kernel
theorem dX0_verdict_13 : decode cX0_verdict 13 = .ok (.aload_n 1, 1) := by decide +kernel
theorem dX0_verdict_14 : decode cX0_verdict 14 = .ok (.iload_n 2, 1) := by decide +kernel
theorem dX0_verdict_15 : decode cX0_verdict 15 = .ok (.invokespecial 15, 3) := by decide +kernel
theorem dX0_verdict_18 : decode cX0_verdict 18 = .ok (.aload_n 1, 1) := by decide +kernel
theorem dX0_verdict_19 : decode cX0_verdict 19 = .ok (.getfield 19, 3) := by decide +kernel
theorem dX0_verdict_22 : decode cX0_verdict 22 = .ok (.iload_n 2, 1) := by decide +kernel
theorem dX0_verdict_23 : decode cX0_verdict 23 = .ok (.invokevirtual 23, 3) := by decide +kernel
theorem dX0_verdict_26 : decode cX0_verdict 26 = .ok (.iadd, 1) := by decide +kernel
theorem dX0_verdict_27 : decode cX0_verdict 27 = .ok (.ireturn, 1) := by decide +kernel
theorem dX1_init_0 : decode cX1_init 0 = .ok (.aload_n 0, 1) := by decide +kernel
theorem dX1_init_1 : decode cX1_init 1 = .ok (.invokespecial 1, 3) := by decide +kernel
theorem dX1_init_4 : decode cX1_init 4 = .ok (.return_, 1) := by decide +kernel
theorem dX1_verdict_0 : decode cX1_verdict 0 = .ok (.aload_n 1, 1) := by decide +kernel
theorem dX1_verdict_1 : decode cX1_verdict 1 = .ok (.dup, 1) := by decide +kernel
theorem dX1_verdict_2 : decode cX1_verdict 2 = .ok (.getfield 7, 3) := by decide +kernel
theorem dX1_verdict_5 : decode cX1_verdict 5 = .ok (.lconst 1, 1) := by decide +kernel
theorem dX1_verdict_6 : decode cX1_verdict 6 = .ok (.ladd, 1) := by decide +kernel
theorem dX1_verdict_7 : decode cX1_verdict 7 = .ok (.putfield 7, 3) := by decide +kernel
theorem dX1_verdict_10 : decode cX1_verdict 10 = .ok (.aload_n 1, 1) := by decide +kernel
theorem dX1_verdict_11 : decode cX1_verdict 11 = .ok (.iload_n 2, 1) := by decide +kernel
theorem dX1_verdict_12 : decode cX1_verdict 12 = .ok (.invokevirtual 13, 3) := by decide +kernel
theorem dX1_verdict_15 : decode cX1_verdict 15 = .ok (.ireturn, 1) := by decide +kernel
theorem dX2_init_0 : decode cX2_init 0 = .ok (.aload_n 0, 1) := by decide +kernel
theorem dX2_init_1 : decode cX2_init 1 = .ok (.invokespecial 1, 3) := by decide +kernel
theorem dX2_init_4 : decode cX2_init 4 = .ok (.return_, 1) := by decide +kernel
theorem dX2_verdict_0 : decode cX2_verdict 0 = .ok (.aload_n 1, 1) := by decide +kernel
theorem dX2_verdict_1 : decode cX2_verdict 1 = .ok (.dup, 1) := by decide +kernel
theorem dX2_verdict_2 : decode cX2_verdict 2 = .ok (.getfield 7, 3) := by decide +kernel
theorem dX2_verdict_5 : decode cX2_verdict 5 = .ok (.ldc2_w 13, 3) := by decide +kernel
theorem dX2_verdict_8 : decode cX2_verdict 8 = .ok (.ladd, 1) := by decide +kernel
theorem dX2_verdict_9 : decode cX2_verdict 9 = .ok (.putfield 7, 3) := by decide +kernel
theorem dX2_verdict_12 : decode cX2_verdict 12 = .ok (.iconst 2, 1) := by decide +kernel
theorem dX2_verdict_13 : decode cX2_verdict 13 = .ok (.aload_n 0, 1) := by decide +kernel
theorem dX2_verdict_14 : decode cX2_verdict 14 = .ok (.aload_n 1, 1) := by decide +kernel
theorem dX2_verdict_15 : decode cX2_verdict 15 = .ok (.iload_n 2, 1) := by decide +kernel
theorem dX2_verdict_16 : decode cX2_verdict 16 = .ok (.invokespecial 15, 3) := by decide +kernel
theorem dX2_verdict_19 : decode cX2_verdict 19 = .ok (.imul, 1) := by decide +kernel
theorem dX2_verdict_20 : decode cX2_verdict 20 = .ok (.ireturn, 1) := by decide +kernel
theorem dX3_init_0 : decode cX3_init 0 = .ok (.aload_n 0, 1) := by decide +kernel
theorem dX3_init_1 : decode cX3_init 1 = .ok (.invokespecial 3, 3) := by decide +kernel
theorem dX3_init_4 : decode cX3_init 4 = .ok (.aload_n 0, 1) := by decide +kernel
theorem dX3_init_5 : decode cX3_init 5 = .ok (.bipush 6, 2) := by decide +kernel
theorem dX3_init_7 : decode cX3_init 7 = .ok (.newarray .int, 2) := by decide +kernel
theorem dX3_init_9 : decode cX3_init 9 = .ok (.putfield 9, 3) := by decide +kernel
theorem dX3_init_12 : decode cX3_init 12 = .ok (.aload_n 0, 1) := by decide +kernel
theorem dX3_init_13 : decode cX3_init 13 = .ok (.bipush 60, 2) := by decide +kernel
theorem dX3_init_15 : decode cX3_init 15 = .ok (.newarray .int, 2) := by decide +kernel
theorem dX3_init_17 : decode cX3_init 17 = .ok (.putfield 15, 3) := by decide +kernel
theorem dX3_init_20 : decode cX3_init 20 = .ok (.return_, 1) := by decide +kernel
theorem dX3_begin_0 : decode cX3_begin 0 = .ok (.iconst 0, 1) := by decide +kernel
theorem dX3_begin_1 : decode cX3_begin 1 = .ok (.istore_n 1, 1) := by decide +kernel
theorem dX3_begin_2 : decode cX3_begin 2 = .ok (.iload_n 1, 1) := by decide +kernel
theorem dX3_begin_3 : decode cX3_begin 3 = .ok (.bipush 6, 2) := by decide +kernel
theorem dX3_begin_5 : decode cX3_begin 5 = .ok (.if_icmp .ge 16, 3) := by decide +kernel
theorem dX3_begin_8 : decode cX3_begin 8 = .ok (.aload_n 0, 1) := by decide +kernel
theorem dX3_begin_9 : decode cX3_begin 9 = .ok (.getfield 9, 3) := by decide +kernel
theorem dX3_begin_12 : decode cX3_begin 12 = .ok (.iload_n 1, 1) := by decide +kernel
theorem dX3_begin_13 : decode cX3_begin 13 = .ok (.iconst 2, 1) := by decide +kernel
theorem dX3_begin_14 : decode cX3_begin 14 = .ok (.iastore, 1) := by decide +kernel
theorem dX3_begin_15 : decode cX3_begin 15 = .ok (.iinc 1 1, 3) := by decide +kernel
theorem dX3_begin_18 : decode cX3_begin 18 = .ok (.goto (-16), 3) := by decide +kernel
theorem dX3_begin_21 : decode cX3_begin 21 = .ok (.aload_n 0, 1) := by decide +kernel
theorem dX3_begin_22 : decode cX3_begin 22 = .ok (.iconst 0, 1) := by decide +kernel
theorem dX3_begin_23 : decode cX3_begin 23 = .ok (.putfield 18, 3) := by decide +kernel
theorem dX3_begin_26 : decode cX3_begin 26 = .ok (.return_, 1) := by decide +kernel
theorem dX3_become_0 : decode cX3_become 0 = .ok (.aload_n 1, 1) := by decide +kernel
theorem dX3_become_1 : decode cX3_become 1 = .ok (.getfield 9, 3) := by decide +kernel
theorem dX3_become_4 : decode cX3_become 4 = .ok (.iconst 0, 1) := by decide +kernel
theorem dX3_become_5 : decode cX3_become 5 = .ok (.aload_n 0, 1) := by decide +kernel
theorem dX3_become_6 : decode cX3_become 6 = .ok (.getfield 9, 3) := by decide +kernel
theorem dX3_become_9 : decode cX3_become 9 = .ok (.iconst 0, 1) := by decide +kernel
theorem dX3_become_10 : decode cX3_become 10 = .ok (.bipush 6, 2) := by decide +kernel
theorem dX3_become_12 : decode cX3_become 12 = .ok (.invokestatic 22, 3) := by decide +kernel
theorem dX3_become_15 : decode cX3_become 15 = .ok (.aload_n 1, 1) := by decide +kernel
theorem dX3_become_16 : decode cX3_become 16 = .ok (.getfield 15, 3) := by decide +kernel
theorem dX3_become_19 : decode cX3_become 19 = .ok (.iconst 0, 1) := by decide +kernel
theorem dX3_become_20 : decode cX3_become 20 = .ok (.aload_n 0, 1) := by decide +kernel
theorem dX3_become_21 : decode cX3_become 21 = .ok (.getfield 15, 3) := by decide +kernel
theorem dX3_become_24 : decode cX3_become 24 = .ok (.iconst 0, 1) := by decide +kernel
theorem dX3_become_25 : decode cX3_become 25 = .ok (.bipush 60, 2) := by decide +kernel
theorem dX3_become_27 : decode cX3_become 27 = .ok (.invokestatic 22, 3) := by decide +kernel
theorem dX3_become_30 : decode cX3_become 30 = .ok (.aload_n 0, 1) := by decide +kernel
theorem dX3_become_31 : decode cX3_become 31 = .ok (.aload_n 1, 1) := by decide +kernel
theorem dX3_become_32 : decode cX3_become 32 = .ok (.getfield 18, 3) := by decide +kernel
theorem dX3_become_35 : decode cX3_become 35 = .ok (.putfield 18, 3) := by decide +kernel
theorem dX3_become_38 : decode cX3_become 38 = .ok (.return_, 1) := by decide +kernel
theorem dX3_whose_0 : decode cX3_whose 0 = .ok (.iload_n 1, 1) := by decide +kernel
theorem dX3_whose_1 : decode cX3_whose 1 = .ok (.ifCond .lt 18, 3) := by decide +kernel
theorem dX3_whose_4 : decode cX3_whose 4 = .ok (.iload_n 1, 1) := by decide +kernel
theorem dX3_whose_5 : decode cX3_whose 5 = .ok (.bipush 6, 2) := by decide +kernel
theorem dX3_whose_7 : decode cX3_whose 7 = .ok (.if_icmp .ge 12, 3) := by decide +kernel
theorem dX3_whose_10 : decode cX3_whose 10 = .ok (.aload_n 0, 1) := by decide +kernel
theorem dX3_whose_11 : decode cX3_whose 11 = .ok (.getfield 9, 3) := by decide +kernel
theorem dX3_whose_14 : decode cX3_whose 14 = .ok (.iload_n 1, 1) := by decide +kernel
theorem dX3_whose_15 : decode cX3_whose 15 = .ok (.iaload, 1) := by decide +kernel
theorem dX3_whose_16 : decode cX3_whose 16 = .ok (.goto 4, 3) := by decide +kernel
theorem dX3_whose_19 : decode cX3_whose 19 = .ok (.iconst 2, 1) := by decide +kernel
theorem dX3_whose_20 : decode cX3_whose 20 = .ok (.ireturn, 1) := by decide +kernel
theorem dX3_put_0 : decode cX3_put 0 = .ok (.iload_n 1, 1) := by decide +kernel
theorem dX3_put_1 : decode cX3_put 1 = .ok (.ifCond .lt 16, 3) := by decide +kernel
theorem dX3_put_4 : decode cX3_put 4 = .ok (.iload_n 1, 1) := by decide +kernel
theorem dX3_put_5 : decode cX3_put 5 = .ok (.bipush 6, 2) := by decide +kernel
theorem dX3_put_7 : decode cX3_put 7 = .ok (.if_icmp .ge 10, 3) := by decide +kernel
theorem dX3_put_10 : decode cX3_put 10 = .ok (.aload_n 0, 1) := by decide +kernel
theorem dX3_put_11 : decode cX3_put 11 = .ok (.getfield 9, 3) := by decide +kernel
theorem dX3_put_14 : decode cX3_put 14 = .ok (.iload_n 1, 1) := by decide +kernel
theorem dX3_put_15 : decode cX3_put 15 = .ok (.iload_n 2, 1) := by decide +kernel
theorem dX3_put_16 : decode cX3_put 16 = .ok (.iastore, 1) := by decide +kernel
theorem dX3_put_17 : decode cX3_put 17 = .ok (.return_, 1) := by decide +kernel
theorem dX3_setOf_0 : decode cX3_setOf 0 = .ok (.iconst 0, 1) := by decide +kernel
theorem dX3_setOf_1 : decode cX3_setOf 1 = .ok (.istore_n 3, 1) := by decide +kernel
theorem dX3_setOf_2 : decode cX3_setOf 2 = .ok (.iconst 0, 1) := by decide +kernel
theorem dX3_setOf_3 : decode cX3_setOf 3 = .ok (.istore 4, 2) := by decide +kernel
theorem dX3_setOf_5 : decode cX3_setOf 5 = .ok (.iload 4, 2) := by decide +kernel
theorem dX3_setOf_7 : decode cX3_setOf 7 = .ok (.iload_n 2, 1) := by decide +kernel
theorem dX3_setOf_8 : decode cX3_setOf 8 = .ok (.if_icmp .ge 34, 3) := by decide +kernel
theorem dX3_setOf_11 : decode cX3_setOf 11 = .ok (.iload 4, 2) := by decide +kernel
theorem dX3_setOf_13 : decode cX3_setOf 13 = .ok (.bipush 6, 2) := by decide +kernel
theorem dX3_setOf_15 : decode cX3_setOf 15 = .ok (.if_icmp .ge 27, 3) := by decide +kernel
theorem dX3_setOf_18 : decode cX3_setOf 18 = .ok (.aload_n 0, 1) := by decide +kernel
theorem dX3_setOf_19 : decode cX3_setOf 19 = .ok (.getfield 9, 3) := by decide +kernel
theorem dX3_setOf_22 : decode cX3_setOf 22 = .ok (.iload 4, 2) := by decide +kernel
theorem dX3_setOf_24 : decode cX3_setOf 24 = .ok (.iaload, 1) := by decide +kernel
theorem dX3_setOf_25 : decode cX3_setOf 25 = .ok (.iload_n 1, 1) := by decide +kernel
theorem dX3_setOf_26 : decode cX3_setOf 26 = .ok (.if_icmp .ne 10, 3) := by decide +kernel
theorem dX3_setOf_29 : decode cX3_setOf 29 = .ok (.iload_n 3, 1) := by decide +kernel
theorem dX3_setOf_30 : decode cX3_setOf 30 = .ok (.iconst 1, 1) := by decide +kernel
theorem dX3_setOf_31 : decode cX3_setOf 31 = .ok (.iload 4, 2) := by decide +kernel
theorem dX3_setOf_33 : decode cX3_setOf 33 = .ok (.ishl, 1) := by decide +kernel
theorem dX3_setOf_34 : decode cX3_setOf 34 = .ok (.ior, 1) := by decide +kernel
theorem dX3_setOf_35 : decode cX3_setOf 35 = .ok (.istore_n 3, 1) := by decide +kernel
theorem dX3_setOf_36 : decode cX3_setOf 36 = .ok (.iinc 4 1, 3) := by decide +kernel
theorem dX3_setOf_39 : decode cX3_setOf 39 = .ok (.goto (-34), 3) := by decide +kernel
theorem dX3_setOf_42 : decode cX3_setOf 42 = .ok (.iload_n 3, 1) := by decide +kernel
theorem dX3_setOf_43 : decode cX3_setOf 43 = .ok (.ireturn, 1) := by decide +kernel
theorem dX3_walk_0 : decode cX3_walk 0 = .ok (.aload_n 0, 1) := by decide +kernel
theorem dX3_walk_1 : decode cX3_walk 1 = .ok (.getfield 18, 3) := by decide +kernel
theorem dX3_walk_4 : decode cX3_walk 4 = .ok (.ifCond .lt 12, 3) := by decide +kernel
theorem dX3_walk_7 : decode cX3_walk 7 = .ok (.aload_n 0, 1) := by decide +kernel
theorem dX3_walk_8 : decode cX3_walk 8 = .ok (.getfield 18, 3) := by decide +kernel
theorem dX3_walk_11 : decode cX3_walk 11 = .ok (.bipush 60, 2) := by decide +kernel
theorem dX3_walk_13 : decode cX3_walk 13 = .ok (.if_icmp .lt 5, 3) := by decide +kernel
theorem dX3_walk_16 : decode cX3_walk 16 = .ok (.iconst 0, 1) := by decide +kernel
theorem dX3_walk_17 : decode cX3_walk 17 = .ok (.ireturn, 1) := by decide +kernel
theorem dX3_walk_18 : decode cX3_walk 18 = .ok (.aload_n 0, 1) := by decide +kernel
theorem dX3_walk_19 : decode cX3_walk 19 = .ok (.getfield 15, 3) := by decide +kernel
theorem dX3_walk_22 : decode cX3_walk 22 = .ok (.aload_n 0, 1) := by decide +kernel
theorem dX3_walk_23 : decode cX3_walk 23 = .ok (.getfield 18, 3) := by decide +kernel
theorem dX3_walk_26 : decode cX3_walk 26 = .ok (.iload_n 1, 1) := by decide +kernel
theorem dX3_walk_27 : decode cX3_walk 27 = .ok (.iastore, 1) := by decide +kernel
theorem dX3_walk_28 : decode cX3_walk 28 = .ok (.aload_n 0, 1) := by decide +kernel
theorem dX3_walk_29 : decode cX3_walk 29 = .ok (.dup, 1) := by decide +kernel
theorem dX3_walk_30 : decode cX3_walk 30 = .ok (.getfield 18, 3) := by decide +kernel
theorem dX3_walk_33 : decode cX3_walk 33 = .ok (.iconst 1, 1) := by decide +kernel
theorem dX3_walk_34 : decode cX3_walk 34 = .ok (.iadd, 1) := by decide +kernel
theorem dX3_walk_35 : decode cX3_walk 35 = .ok (.putfield 18, 3) := by decide +kernel
theorem dX3_walk_38 : decode cX3_walk 38 = .ok (.iconst 1, 1) := by decide +kernel
theorem dX3_walk_39 : decode cX3_walk 39 = .ok (.ireturn, 1) := by decide +kernel
theorem dX3_unwalk_0 : decode cX3_unwalk 0 = .ok (.aload_n 0, 1) := by decide +kernel
theorem dX3_unwalk_1 : decode cX3_unwalk 1 = .ok (.getfield 18, 3) := by decide +kernel
theorem dX3_unwalk_4 : decode cX3_unwalk 4 = .ok (.ifCond .le 13, 3) := by decide +kernel
theorem dX3_unwalk_7 : decode cX3_unwalk 7 = .ok (.aload_n 0, 1) := by decide +kernel
theorem dX3_unwalk_8 : decode cX3_unwalk 8 = .ok (.dup, 1) := by decide +kernel
theorem dX3_unwalk_9 : decode cX3_unwalk 9 = .ok (.getfield 18, 3) := by decide +kernel
theorem dX3_unwalk_12 : decode cX3_unwalk 12 = .ok (.iconst 1, 1) := by decide +kernel
theorem dX3_unwalk_13 : decode cX3_unwalk 13 = .ok (.isub, 1) := by decide +kernel
theorem dX3_unwalk_14 : decode cX3_unwalk 14 = .ok (.putfield 18, 3) := by decide +kernel
theorem dX3_unwalk_17 : decode cX3_unwalk 17 = .ok (.return_, 1) := by decide +kernel
theorem dX3_footOf_0 : decode cX3_footOf 0 = .ok (.iload_n 1, 1) := by decide +kernel
theorem dX3_footOf_1 : decode cX3_footOf 1 = .ok (.ifCond .lt 18, 3) := by decide +kernel
theorem dX3_footOf_4 : decode cX3_footOf 4 = .ok (.iload_n 1, 1) := by decide +kernel
theorem dX3_footOf_5 : decode cX3_footOf 5 = .ok (.bipush 60, 2) := by decide +kernel
theorem dX3_footOf_7 : decode cX3_footOf 7 = .ok (.if_icmp .ge 12, 3) := by decide +kernel
theorem dX3_footOf_10 : decode cX3_footOf 10 = .ok (.aload_n 0, 1) := by decide +kernel
theorem dX3_footOf_11 : decode cX3_footOf 11 = .ok (.getfield 15, 3) := by decide +kernel
theorem dX3_footOf_14 : decode cX3_footOf 14 = .ok (.iload_n 1, 1) := by decide +kernel
theorem dX3_footOf_15 : decode cX3_footOf 15 = .ok (.iaload, 1) := by decide +kernel
theorem dX3_footOf_16 : decode cX3_footOf 16 = .ok (.goto 5, 3) := by decide +kernel
theorem dX3_footOf_19 : decode cX3_footOf 19 = .ok (.bipush (-9), 2) := by decide +kernel
theorem dX3_footOf_21 : decode cX3_footOf 21 = .ok (.ireturn, 1) := by decide +kernel
theorem dX3_stepsOf_0 : decode cX3_stepsOf 0 = .ok (.iconst 0, 1) := by decide +kernel
theorem dX3_stepsOf_1 : decode cX3_stepsOf 1 = .ok (.istore_n 2, 1) := by decide +kernel
theorem dX3_stepsOf_2 : decode cX3_stepsOf 2 = .ok (.iconst 0, 1) := by decide +kernel
theorem dX3_stepsOf_3 : decode cX3_stepsOf 3 = .ok (.istore_n 3, 1) := by decide +kernel
theorem dX3_stepsOf_4 : decode cX3_stepsOf 4 = .ok (.iload_n 3, 1) := by decide +kernel
theorem dX3_stepsOf_5 : decode cX3_stepsOf 5 = .ok (.aload_n 0, 1) := by decide +kernel
theorem dX3_stepsOf_6 : decode cX3_stepsOf 6 = .ok (.getfield 18, 3) := by decide +kernel
theorem dX3_stepsOf_9 : decode cX3_stepsOf 9 = .ok (.if_icmp .ge 21, 3) := by decide +kernel
theorem dX3_stepsOf_12 : decode cX3_stepsOf 12 = .ok (.aload_n 0, 1) := by decide +kernel
theorem dX3_stepsOf_13 : decode cX3_stepsOf 13 = .ok (.iload_n 3, 1) := by decide +kernel
theorem dX3_stepsOf_14 : decode cX3_stepsOf 14 = .ok (.invokevirtual 28, 3) := by decide +kernel
theorem dX3_stepsOf_17 : decode cX3_stepsOf 17 = .ok (.iload_n 1, 1) := by decide +kernel
theorem dX3_stepsOf_18 : decode cX3_stepsOf 18 = .ok (.if_icmp .ne 6, 3) := by decide +kernel
theorem dX3_stepsOf_21 : decode cX3_stepsOf 21 = .ok (.iinc 2 1, 3) := by decide +kernel
theorem dX3_stepsOf_24 : decode cX3_stepsOf 24 = .ok (.iinc 3 1, 3) := by decide +kernel
theorem dX3_stepsOf_27 : decode cX3_stepsOf 27 = .ok (.goto (-23), 3) := by decide +kernel
theorem dX3_stepsOf_30 : decode cX3_stepsOf 30 = .ok (.iload_n 2, 1) := by decide +kernel
theorem dX3_stepsOf_31 : decode cX3_stepsOf 31 = .ok (.ireturn, 1) := by decide +kernel
theorem dX3_firstRunOver_0 : decode cX3_firstRunOver 0 = .ok (.iconst 0, 1) := by decide +kernel
theorem dX3_firstRunOver_1 : decode cX3_firstRunOver 1 = .ok (.istore_n 2, 1) := by decide +kernel
theorem dX3_firstRunOver_2 : decode cX3_firstRunOver 2 = .ok (.iconst 0, 1) := by decide +kernel
theorem dX3_firstRunOver_3 : decode cX3_firstRunOver 3 = .ok (.istore_n 3, 1) := by decide +kernel
theorem dX3_firstRunOver_4 : decode cX3_firstRunOver 4 = .ok (.iload_n 3, 1) := by decide +kernel
theorem dX3_firstRunOver_5 : decode cX3_firstRunOver 5 = .ok (.aload_n 0, 1) := by decide +kernel
theorem dX3_firstRunOver_6 : decode cX3_firstRunOver 6 = .ok (.getfield 18, 3) := by decide +kernel
theorem dX3_firstRunOver_9 : decode cX3_firstRunOver 9 = .ok (.if_icmp .ge 32, 3) := by decide +kernel
theorem dX3_firstRunOver_12 : decode cX3_firstRunOver 12 = .ok (.aload_n 0, 1) := by decide +kernel
theorem dX3_firstRunOver_13 : decode cX3_firstRunOver 13 = .ok (.iload_n 3, 1) := by decide +kernel
theorem dX3_firstRunOver_14 : decode cX3_firstRunOver 14 = .ok (.invokevirtual 32, 3) := by decide +kernel
theorem dX3_firstRunOver_17 : decode cX3_firstRunOver 17 = .ok (.ifCond .eq 7, 3) := by decide +kernel
theorem dX3_firstRunOver_20 : decode cX3_firstRunOver 20 = .ok (.iconst 1, 1) := by decide +kernel
theorem dX3_firstRunOver_21 : decode cX3_firstRunOver 21 = .ok (.goto 6, 3) := by decide +kernel
theorem dX3_firstRunOver_24 : decode cX3_firstRunOver 24 = .ok (.iload_n 2, 1) := by decide +kernel
theorem dX3_firstRunOver_25 : decode cX3_firstRunOver 25 = .ok (.iconst 1, 1) := by decide +kernel
theorem dX3_firstRunOver_26 : decode cX3_firstRunOver 26 = .ok (.iadd, 1) := by decide +kernel
theorem dX3_firstRunOver_27 : decode cX3_firstRunOver 27 = .ok (.istore_n 2, 1) := by decide +kernel
theorem dX3_firstRunOver_28 : decode cX3_firstRunOver 28 = .ok (.iload_n 2, 1) := by decide +kernel
theorem dX3_firstRunOver_29 : decode cX3_firstRunOver 29 = .ok (.iload_n 1, 1) := by decide +kernel
theorem dX3_firstRunOver_30 : decode cX3_firstRunOver 30 = .ok (.if_icmp .le 5, 3) := by decide +kernel
theorem dX3_firstRunOver_33 : decode cX3_firstRunOver 33 = .ok (.iload_n 3, 1) := by decide +kernel
theorem dX3_firstRunOver_34 : decode cX3_firstRunOver 34 = .ok (.ireturn, 1) := by decide +kernel
theorem dX3_firstRunOver_35 : decode cX3_firstRunOver 35 = .ok (.iinc 3 1, 3) := by decide +kernel
theorem dX3_firstRunOver_38 : decode cX3_firstRunOver 38 = .ok (.goto (-34), 3) := by decide +kernel
theorem dX3_firstRunOver_41 : decode cX3_firstRunOver 41 = .ok (.bipush (-9), 2) := by decide +kernel
theorem dX3_firstRunOver_43 : decode cX3_firstRunOver 43 = .ok (.ireturn, 1) := by decide +kernel
theorem dX3_longestRun_0 : decode cX3_longestRun 0 = .ok (.iconst 0, 1) := by decide +kernel
theorem dX3_longestRun_1 : decode cX3_longestRun 1 = .ok (.istore_n 1, 1) := by decide +kernel
theorem dX3_longestRun_2 : decode cX3_longestRun 2 = .ok (.iconst 0, 1) := by decide +kernel
theorem dX3_longestRun_3 : decode cX3_longestRun 3 = .ok (.istore_n 2, 1) := by decide +kernel
theorem dX3_longestRun_4 : decode cX3_longestRun 4 = .ok (.iconst 0, 1) := by decide +kernel
theorem dX3_longestRun_5 : decode cX3_longestRun 5 = .ok (.istore_n 3, 1) := by decide +kernel
theorem dX3_longestRun_6 : decode cX3_longestRun 6 = .ok (.iload_n 3, 1) := by decide +kernel
theorem dX3_longestRun_7 : decode cX3_longestRun 7 = .ok (.aload_n 0, 1) := by decide +kernel
theorem dX3_longestRun_8 : decode cX3_longestRun 8 = .ok (.getfield 18, 3) := by decide +kernel
theorem dX3_longestRun_11 : decode cX3_longestRun 11 = .ok (.if_icmp .ge 31, 3) := by decide +kernel
theorem dX3_longestRun_14 : decode cX3_longestRun 14 = .ok (.aload_n 0, 1) := by decide +kernel
theorem dX3_longestRun_15 : decode cX3_longestRun 15 = .ok (.iload_n 3, 1) := by decide +kernel
theorem dX3_longestRun_16 : decode cX3_longestRun 16 = .ok (.invokevirtual 32, 3) := by decide +kernel
theorem dX3_longestRun_19 : decode cX3_longestRun 19 = .ok (.ifCond .eq 7, 3) := by decide +kernel
theorem dX3_longestRun_22 : decode cX3_longestRun 22 = .ok (.iconst 1, 1) := by decide +kernel
theorem dX3_longestRun_23 : decode cX3_longestRun 23 = .ok (.goto 6, 3) := by decide +kernel
theorem dX3_longestRun_26 : decode cX3_longestRun 26 = .ok (.iload_n 1, 1) := by decide +kernel
theorem dX3_longestRun_27 : decode cX3_longestRun 27 = .ok (.iconst 1, 1) := by decide +kernel
theorem dX3_longestRun_28 : decode cX3_longestRun 28 = .ok (.iadd, 1) := by decide +kernel
theorem dX3_longestRun_29 : decode cX3_longestRun 29 = .ok (.istore_n 1, 1) := by decide +kernel
theorem dX3_longestRun_30 : decode cX3_longestRun 30 = .ok (.iload_n 2, 1) := by decide +kernel
theorem dX3_longestRun_31 : decode cX3_longestRun 31 = .ok (.iload_n 1, 1) := by decide +kernel
theorem dX3_longestRun_32 : decode cX3_longestRun 32 = .ok (.invokestatic 36, 3) := by decide +kernel
theorem dX3_longestRun_35 : decode cX3_longestRun 35 = .ok (.istore_n 2, 1) := by decide +kernel
theorem dX3_longestRun_36 : decode cX3_longestRun 36 = .ok (.iinc 3 1, 3) := by decide +kernel
theorem dX3_longestRun_39 : decode cX3_longestRun 39 = .ok (.goto (-33), 3) := by decide +kernel
theorem dX3_longestRun_42 : decode cX3_longestRun 42 = .ok (.iload_n 2, 1) := by decide +kernel
theorem dX3_longestRun_43 : decode cX3_longestRun 43 = .ok (.ireturn, 1) := by decide +kernel
theorem dX3_changes_0 : decode cX3_changes 0 = .ok (.iconst 0, 1) := by decide +kernel
theorem dX3_changes_1 : decode cX3_changes 1 = .ok (.istore_n 1, 1) := by decide +kernel
theorem dX3_changes_2 : decode cX3_changes 2 = .ok (.iconst 0, 1) := by decide +kernel
theorem dX3_changes_3 : decode cX3_changes 3 = .ok (.istore_n 2, 1) := by decide +kernel
theorem dX3_changes_4 : decode cX3_changes 4 = .ok (.iload_n 2, 1) := by decide +kernel
theorem dX3_changes_5 : decode cX3_changes 5 = .ok (.aload_n 0, 1) := by decide +kernel
theorem dX3_changes_6 : decode cX3_changes 6 = .ok (.getfield 18, 3) := by decide +kernel
theorem dX3_changes_9 : decode cX3_changes 9 = .ok (.if_icmp .ge 20, 3) := by decide +kernel
theorem dX3_changes_12 : decode cX3_changes 12 = .ok (.aload_n 0, 1) := by decide +kernel
theorem dX3_changes_13 : decode cX3_changes 13 = .ok (.iload_n 2, 1) := by decide +kernel
theorem dX3_changes_14 : decode cX3_changes 14 = .ok (.invokevirtual 32, 3) := by decide +kernel
theorem dX3_changes_17 : decode cX3_changes 17 = .ok (.ifCond .eq 6, 3) := by decide +kernel
theorem dX3_changes_20 : decode cX3_changes 20 = .ok (.iinc 1 1, 3) := by decide +kernel
theorem dX3_changes_23 : decode cX3_changes 23 = .ok (.iinc 2 1, 3) := by decide +kernel
theorem dX3_changes_26 : decode cX3_changes 26 = .ok (.goto (-22), 3) := by decide +kernel
theorem dX3_changes_29 : decode cX3_changes 29 = .ok (.iload_n 1, 1) := by decide +kernel
theorem dX3_changes_30 : decode cX3_changes 30 = .ok (.ireturn, 1) := by decide +kernel
theorem dX3_changesAt_0 : decode cX3_changesAt 0 = .ok (.iload_n 1, 1) := by decide +kernel
theorem dX3_changesAt_1 : decode cX3_changesAt 1 = .ok (.ifCond .le 22, 3) := by decide +kernel
theorem dX3_changesAt_4 : decode cX3_changesAt 4 = .ok (.aload_n 0, 1) := by decide +kernel
theorem dX3_changesAt_5 : decode cX3_changesAt 5 = .ok (.iload_n 1, 1) := by decide +kernel
theorem dX3_changesAt_6 : decode cX3_changesAt 6 = .ok (.invokevirtual 28, 3) := by decide +kernel
theorem dX3_changesAt_9 : decode cX3_changesAt 9 = .ok (.aload_n 0, 1) := by decide +kernel
theorem dX3_changesAt_10 : decode cX3_changesAt 10 = .ok (.iload_n 1, 1) := by decide +kernel
theorem dX3_changesAt_11 : decode cX3_changesAt 11 = .ok (.iconst 1, 1) := by decide +kernel
theorem dX3_changesAt_12 : decode cX3_changesAt 12 = .ok (.isub, 1) := by decide +kernel
theorem dX3_changesAt_13 : decode cX3_changesAt 13 = .ok (.invokevirtual 28, 3) := by decide +kernel
theorem dX3_changesAt_16 : decode cX3_changesAt 16 = .ok (.if_icmp .eq 7, 3) := by decide +kernel
theorem dX3_changesAt_19 : decode cX3_changesAt 19 = .ok (.iconst 1, 1) := by decide +kernel
theorem dX3_changesAt_20 : decode cX3_changesAt 20 = .ok (.goto 4, 3) := by decide +kernel
theorem dX3_changesAt_23 : decode cX3_changesAt 23 = .ok (.iconst 0, 1) := by decide +kernel
theorem dX3_changesAt_24 : decode cX3_changesAt 24 = .ok (.ireturn, 1) := by decide +kernel
theorem dX4_init_0 : decode cX4_init 0 = .ok (.aload_n 0, 1) := by decide +kernel
theorem dX4_init_1 : decode cX4_init 1 = .ok (.invokespecial 3, 3) := by decide +kernel
theorem dX4_init_4 : decode cX4_init 4 = .ok (.aload_n 0, 1) := by decide +kernel
theorem dX4_init_5 : decode cX4_init 5 = .ok (.bipush 64, 2) := by decide +kernel
theorem dX4_init_7 : decode cX4_init 7 = .ok (.newarray .int, 2) := by decide +kernel
theorem dX4_init_9 : decode cX4_init 9 = .ok (.putfield 9, 3) := by decide +kernel
theorem dX4_init_12 : decode cX4_init 12 = .ok (.aload_n 0, 1) := by decide +kernel
theorem dX4_init_13 : decode cX4_init 13 = .ok (.bipush 64, 2) := by decide +kernel
theorem dX4_init_15 : decode cX4_init 15 = .ok (.newarray .int, 2) := by decide +kernel
theorem dX4_init_17 : decode cX4_init 17 = .ok (.putfield 15, 3) := by decide +kernel
theorem dX4_init_20 : decode cX4_init 20 = .ok (.aload_n 0, 1) := by decide +kernel
theorem dX4_init_21 : decode cX4_init 21 = .ok (.bipush 64, 2) := by decide +kernel
theorem dX4_init_23 : decode cX4_init 23 = .ok (.newarray .int, 2) := by decide +kernel
theorem dX4_init_25 : decode cX4_init 25 = .ok (.putfield 18, 3) := by decide +kernel
theorem dX4_init_28 : decode cX4_init 28 = .ok (.return_, 1) := by decide +kernel
theorem dX4_total_0 : decode cX4_total 0 = .ok (.aload_n 1, 1) := by decide +kernel
theorem dX4_total_1 : decode cX4_total 1 = .ok (.iconst 0, 1) := by decide +kernel
theorem dX4_total_2 : decode cX4_total 2 = .ok (.aload_n 1, 1) := by decide +kernel
theorem dX4_total_3 : decode cX4_total 3 = .ok (.iconst 0, 1) := by decide +kernel
theorem dX4_total_4 : decode cX4_total 4 = .ok (.iload_n 2, 1) := by decide +kernel
theorem dX4_total_5 : decode cX4_total 5 = .ok (.invokevirtual 21, 3) := by decide +kernel
theorem dX4_total_8 : decode cX4_total 8 = .ok (.invokevirtual 27, 3) := by decide +kernel
theorem dX4_total_11 : decode cX4_total 11 = .ok (.aload_n 1, 1) := by decide +kernel
theorem dX4_total_12 : decode cX4_total 12 = .ok (.iconst 1, 1) := by decide +kernel
theorem dX4_total_13 : decode cX4_total 13 = .ok (.iload_n 2, 1) := by decide +kernel
theorem dX4_total_14 : decode cX4_total 14 = .ok (.invokevirtual 27, 3) := by decide +kernel
theorem dX4_total_17 : decode cX4_total 17 = .ok (.iadd, 1) := by decide +kernel
theorem dX4_total_18 : decode cX4_total 18 = .ok (.ireturn, 1) := by decide +kernel
theorem dX4_lead_0 : decode cX4_lead 0 = .ok (.aload_n 1, 1) := by decide +kernel
theorem dX4_lead_1 : decode cX4_lead 1 = .ok (.iload_n 2, 1) := by decide +kernel
theorem dX4_lead_2 : decode cX4_lead 2 = .ok (.iload_n 3, 1) := by decide +kernel
theorem dX4_lead_3 : decode cX4_lead 3 = .ok (.invokevirtual 21, 3) := by decide +kernel
theorem dX4_lead_6 : decode cX4_lead 6 = .ok (.istore 4, 2) := by decide +kernel
theorem dX4_lead_8 : decode cX4_lead 8 = .ok (.aload_n 1, 1) := by decide +kernel
theorem dX4_lead_9 : decode cX4_lead 9 = .ok (.iload_n 2, 1) := by decide +kernel
theorem dX4_lead_10 : decode cX4_lead 10 = .ok (.iload 4, 2) := by decide +kernel
theorem dX4_lead_12 : decode cX4_lead 12 = .ok (.invokevirtual 27, 3) := by decide +kernel
theorem dX4_lead_15 : decode cX4_lead 15 = .ok (.aload_n 1, 1) := by decide +kernel
theorem dX4_lead_16 : decode cX4_lead 16 = .ok (.iload_n 2, 1) := by decide +kernel
theorem dX4_lead_17 : decode cX4_lead 17 = .ok (.aload_n 1, 1) := by decide +kernel
theorem dX4_lead_18 : decode cX4_lead 18 = .ok (.invokevirtual 30, 3) := by decide +kernel
theorem dX4_lead_21 : decode cX4_lead 21 = .ok (.iload 4, 2) := by decide +kernel
theorem dX4_lead_23 : decode cX4_lead 23 = .ok (.ixor, 1) := by decide +kernel
theorem dX4_lead_24 : decode cX4_lead 24 = .ok (.invokevirtual 27, 3) := by decide +kernel
theorem dX4_lead_27 : decode cX4_lead 27 = .ok (.isub, 1) := by decide +kernel
theorem dX4_lead_28 : decode cX4_lead 28 = .ok (.ireturn, 1) := by decide +kernel
theorem dX4_isFair_0 : decode cX4_isFair 0 = .ok (.aload_n 0, 1) := by decide +kernel
theorem dX4_isFair_1 : decode cX4_isFair 1 = .ok (.aload_n 1, 1) := by decide +kernel
theorem dX4_isFair_2 : decode cX4_isFair 2 = .ok (.iconst 0, 1) := by decide +kernel
theorem dX4_isFair_3 : decode cX4_isFair 3 = .ok (.iload_n 2, 1) := by decide +kernel
theorem dX4_isFair_4 : decode cX4_isFair 4 = .ok (.invokevirtual 34, 3) := by decide +kernel
theorem dX4_isFair_7 : decode cX4_isFair 7 = .ok (.ifCond .lt 17, 3) := by decide +kernel
theorem dX4_isFair_10 : decode cX4_isFair 10 = .ok (.aload_n 0, 1) := by decide +kernel
theorem dX4_isFair_11 : decode cX4_isFair 11 = .ok (.aload_n 1, 1) := by decide +kernel
theorem dX4_isFair_12 : decode cX4_isFair 12 = .ok (.iconst 1, 1) := by decide +kernel
theorem dX4_isFair_13 : decode cX4_isFair 13 = .ok (.iload_n 2, 1) := by decide +kernel
theorem dX4_isFair_14 : decode cX4_isFair 14 = .ok (.invokevirtual 34, 3) := by decide +kernel
theorem dX4_isFair_17 : decode cX4_isFair 17 = .ok (.ifCond .lt 7, 3) := by decide +kernel
theorem dX4_isFair_20 : decode cX4_isFair 20 = .ok (.iconst 1, 1) := by decide +kernel
theorem dX4_isFair_21 : decode cX4_isFair 21 = .ok (.goto 4, 3) := by decide +kernel
theorem dX4_isFair_24 : decode cX4_isFair 24 = .ok (.iconst 0, 1) := by decide +kernel
theorem dX4_isFair_25 : decode cX4_isFair 25 = .ok (.ireturn, 1) := by decide +kernel
theorem dX4_fairCount_0 : decode cX4_fairCount 0 = .ok (.iconst 0, 1) := by decide +kernel
theorem dX4_fairCount_1 : decode cX4_fairCount 1 = .ok (.istore_n 2, 1) := by decide +kernel
theorem dX4_fairCount_2 : decode cX4_fairCount 2 = .ok (.iconst 0, 1) := by decide +kernel
theorem dX4_fairCount_3 : decode cX4_fairCount 3 = .ok (.istore_n 3, 1) := by decide +kernel
theorem dX4_fairCount_4 : decode cX4_fairCount 4 = .ok (.iload_n 3, 1) := by decide +kernel
theorem dX4_fairCount_5 : decode cX4_fairCount 5 = .ok (.aload_n 1, 1) := by decide +kernel
theorem dX4_fairCount_6 : decode cX4_fairCount 6 = .ok (.invokevirtual 30, 3) := by decide +kernel
theorem dX4_fairCount_9 : decode cX4_fairCount 9 = .ok (.if_icmp .gt 21, 3) := by decide +kernel
theorem dX4_fairCount_12 : decode cX4_fairCount 12 = .ok (.aload_n 0, 1) := by decide +kernel
theorem dX4_fairCount_13 : decode cX4_fairCount 13 = .ok (.aload_n 1, 1) := by decide +kernel
theorem dX4_fairCount_14 : decode cX4_fairCount 14 = .ok (.iload_n 3, 1) := by decide +kernel
theorem dX4_fairCount_15 : decode cX4_fairCount 15 = .ok (.invokevirtual 38, 3) := by decide +kernel
theorem dX4_fairCount_18 : decode cX4_fairCount 18 = .ok (.ifCond .eq 6, 3) := by decide +kernel
theorem dX4_fairCount_21 : decode cX4_fairCount 21 = .ok (.iinc 2 1, 3) := by decide +kernel
theorem dX4_fairCount_24 : decode cX4_fairCount 24 = .ok (.iinc 3 1, 3) := by decide +kernel
theorem dX4_fairCount_27 : decode cX4_fairCount 27 = .ok (.goto (-23), 3) := by decide +kernel
theorem dX4_fairCount_30 : decode cX4_fairCount 30 = .ok (.iload_n 2, 1) := by decide +kernel
theorem dX4_fairCount_31 : decode cX4_fairCount 31 = .ok (.ireturn, 1) := by decide +kernel
theorem dX4_best_0 : decode cX4_best 0 = .ok (.bipush (-9), 2) := by decide +kernel
theorem dX4_best_2 : decode cX4_best 2 = .ok (.istore_n 2, 1) := by decide +kernel
theorem dX4_best_3 : decode cX4_best 3 = .ok (.iconst (-1), 1) := by decide +kernel
theorem dX4_best_4 : decode cX4_best 4 = .ok (.istore_n 3, 1) := by decide +kernel
theorem dX4_best_5 : decode cX4_best 5 = .ok (.iconst 0, 1) := by decide +kernel
theorem dX4_best_6 : decode cX4_best 6 = .ok (.istore 4, 2) := by decide +kernel
theorem dX4_best_8 : decode cX4_best 8 = .ok (.iload 4, 2) := by decide +kernel
theorem dX4_best_10 : decode cX4_best 10 = .ok (.aload_n 1, 1) := by decide +kernel
theorem dX4_best_11 : decode cX4_best 11 = .ok (.invokevirtual 30, 3) := by decide +kernel
theorem dX4_best_14 : decode cX4_best 14 = .ok (.if_icmp .gt 40, 3) := by decide +kernel
theorem dX4_best_17 : decode cX4_best 17 = .ok (.aload_n 0, 1) := by decide +kernel
theorem dX4_best_18 : decode cX4_best 18 = .ok (.aload_n 1, 1) := by decide +kernel
theorem dX4_best_19 : decode cX4_best 19 = .ok (.iload 4, 2) := by decide +kernel
theorem dX4_best_21 : decode cX4_best 21 = .ok (.invokevirtual 42, 3) := by decide +kernel
theorem dX4_best_24 : decode cX4_best 24 = .ok (.istore 5, 2) := by decide +kernel
theorem dX4_best_26 : decode cX4_best 26 = .ok (.iload 5, 2) := by decide +kernel
theorem dX4_best_28 : decode cX4_best 28 = .ok (.iload_n 3, 1) := by decide +kernel
theorem dX4_best_29 : decode cX4_best 29 = .ok (.if_icmp .le 19, 3) := by decide +kernel
theorem dX4_best_32 : decode cX4_best 32 = .ok (.aload_n 0, 1) := by decide +kernel
theorem dX4_best_33 : decode cX4_best 33 = .ok (.aload_n 1, 1) := by decide +kernel
theorem dX4_best_34 : decode cX4_best 34 = .ok (.iload 4, 2) := by decide +kernel
theorem dX4_best_36 : decode cX4_best 36 = .ok (.invokevirtual 38, 3) := by decide +kernel
theorem dX4_best_39 : decode cX4_best 39 = .ok (.ifCond .eq 9, 3) := by decide +kernel
theorem dX4_best_42 : decode cX4_best 42 = .ok (.iload 5, 2) := by decide +kernel
theorem dX4_best_44 : decode cX4_best 44 = .ok (.istore_n 3, 1) := by decide +kernel
theorem dX4_best_45 : decode cX4_best 45 = .ok (.iload 4, 2) := by decide +kernel
theorem dX4_best_47 : decode cX4_best 47 = .ok (.istore_n 2, 1) := by decide +kernel
theorem dX4_best_48 : decode cX4_best 48 = .ok (.iinc 4 1, 3) := by decide +kernel
theorem dX4_best_51 : decode cX4_best 51 = .ok (.goto (-43), 3) := by decide +kernel
theorem dX4_best_54 : decode cX4_best 54 = .ok (.iload_n 2, 1) := by decide +kernel
theorem dX4_best_55 : decode cX4_best 55 = .ok (.ireturn, 1) := by decide +kernel
theorem dX4_mostTotal_0 : decode cX4_mostTotal 0 = .ok (.iconst 0, 1) := by decide +kernel
theorem dX4_mostTotal_1 : decode cX4_mostTotal 1 = .ok (.istore_n 2, 1) := by decide +kernel
theorem dX4_mostTotal_2 : decode cX4_mostTotal 2 = .ok (.iconst 0, 1) := by decide +kernel
theorem dX4_mostTotal_3 : decode cX4_mostTotal 3 = .ok (.istore_n 3, 1) := by decide +kernel
theorem dX4_mostTotal_4 : decode cX4_mostTotal 4 = .ok (.iload_n 3, 1) := by decide +kernel
theorem dX4_mostTotal_5 : decode cX4_mostTotal 5 = .ok (.aload_n 1, 1) := by decide +kernel
theorem dX4_mostTotal_6 : decode cX4_mostTotal 6 = .ok (.invokevirtual 30, 3) := by decide +kernel
theorem dX4_mostTotal_9 : decode cX4_mostTotal 9 = .ok (.if_icmp .gt 20, 3) := by decide +kernel
theorem dX4_mostTotal_12 : decode cX4_mostTotal 12 = .ok (.iload_n 2, 1) := by decide +kernel
theorem dX4_mostTotal_13 : decode cX4_mostTotal 13 = .ok (.aload_n 0, 1) := by decide +kernel
theorem dX4_mostTotal_14 : decode cX4_mostTotal 14 = .ok (.aload_n 1, 1) := by decide +kernel
theorem dX4_mostTotal_15 : decode cX4_mostTotal 15 = .ok (.iload_n 3, 1) := by decide +kernel
theorem dX4_mostTotal_16 : decode cX4_mostTotal 16 = .ok (.invokevirtual 42, 3) := by decide +kernel
theorem dX4_mostTotal_19 : decode cX4_mostTotal 19 = .ok (.invokestatic 46, 3) := by decide +kernel
theorem dX4_mostTotal_22 : decode cX4_mostTotal 22 = .ok (.istore_n 2, 1) := by decide +kernel
theorem dX4_mostTotal_23 : decode cX4_mostTotal 23 = .ok (.iinc 3 1, 3) := by decide +kernel
theorem dX4_mostTotal_26 : decode cX4_mostTotal 26 = .ok (.goto (-22), 3) := by decide +kernel
theorem dX4_mostTotal_29 : decode cX4_mostTotal 29 = .ok (.iload_n 2, 1) := by decide +kernel
theorem dX4_mostTotal_30 : decode cX4_mostTotal 30 = .ok (.ireturn, 1) := by decide +kernel
theorem dX4_leftToCutter_0 : decode cX4_leftToCutter 0 = .ok (.aload_n 1, 1) := by decide +kernel
theorem dX4_leftToCutter_1 : decode cX4_leftToCutter 1 = .ok (.invokevirtual 30, 3) := by decide +kernel
theorem dX4_leftToCutter_4 : decode cX4_leftToCutter 4 = .ok (.iload_n 3, 1) := by decide +kernel
theorem dX4_leftToCutter_5 : decode cX4_leftToCutter 5 = .ok (.ixor, 1) := by decide +kernel
theorem dX4_leftToCutter_6 : decode cX4_leftToCutter 6 = .ok (.istore 4, 2) := by decide +kernel
theorem dX4_leftToCutter_8 : decode cX4_leftToCutter 8 = .ok (.aload_n 1, 1) := by decide +kernel
theorem dX4_leftToCutter_9 : decode cX4_leftToCutter 9 = .ok (.iconst 1, 1) := by decide +kernel
theorem dX4_leftToCutter_10 : decode cX4_leftToCutter 10 = .ok (.iload_n 2, 1) := by decide +kernel
theorem dX4_leftToCutter_11 : decode cX4_leftToCutter 11 = .ok (.isub, 1) := by decide +kernel
theorem dX4_leftToCutter_12 : decode cX4_leftToCutter 12 = .ok (.iload_n 3, 1) := by decide +kernel
theorem dX4_leftToCutter_13 : decode cX4_leftToCutter 13 = .ok (.invokevirtual 27, 3) := by decide +kernel
theorem dX4_leftToCutter_16 : decode cX4_leftToCutter 16 = .ok (.aload_n 1, 1) := by decide +kernel
theorem dX4_leftToCutter_17 : decode cX4_leftToCutter 17 = .ok (.iconst 1, 1) := by decide +kernel
theorem dX4_leftToCutter_18 : decode cX4_leftToCutter 18 = .ok (.iload_n 2, 1) := by decide +kernel
theorem dX4_leftToCutter_19 : decode cX4_leftToCutter 19 = .ok (.isub, 1) := by decide +kernel
theorem dX4_leftToCutter_20 : decode cX4_leftToCutter 20 = .ok (.iload 4, 2) := by decide +kernel
theorem dX4_leftToCutter_22 : decode cX4_leftToCutter 22 = .ok (.invokevirtual 27, 3) := by decide +kernel
theorem dX4_leftToCutter_25 : decode cX4_leftToCutter 25 = .ok (.if_icmp .le 7, 3) := by decide +kernel
theorem dX4_leftToCutter_28 : decode cX4_leftToCutter 28 = .ok (.iconst 1, 1) := by decide +kernel
theorem dX4_leftToCutter_29 : decode cX4_leftToCutter 29 = .ok (.goto 4, 3) := by decide +kernel
theorem dX4_leftToCutter_32 : decode cX4_leftToCutter 32 = .ok (.iconst 0, 1) := by decide +kernel
theorem dX4_leftToCutter_33 : decode cX4_leftToCutter 33 = .ok (.istore 5, 2) := by decide +kernel
theorem dX4_leftToCutter_35 : decode cX4_leftToCutter 35 = .ok (.aload_n 1, 1) := by decide +kernel
theorem dX4_leftToCutter_36 : decode cX4_leftToCutter 36 = .ok (.iload_n 2, 1) := by decide +kernel
theorem dX4_leftToCutter_37 : decode cX4_leftToCutter 37 = .ok (.iload 5, 2) := by decide +kernel
theorem dX4_leftToCutter_39 : decode cX4_leftToCutter 39 = .ok (.ifCond .eq 8, 3) := by decide +kernel
theorem dX4_leftToCutter_42 : decode cX4_leftToCutter 42 = .ok (.iload 4, 2) := by decide +kernel
theorem dX4_leftToCutter_44 : decode cX4_leftToCutter 44 = .ok (.goto 4, 3) := by decide +kernel
theorem dX4_leftToCutter_47 : decode cX4_leftToCutter 47 = .ok (.iload_n 3, 1) := by decide +kernel
theorem dX4_leftToCutter_48 : decode cX4_leftToCutter 48 = .ok (.invokevirtual 27, 3) := by decide +kernel
theorem dX4_leftToCutter_51 : decode cX4_leftToCutter 51 = .ok (.ireturn, 1) := by decide +kernel
theorem dX4_bestCut_0 : decode cX4_bestCut 0 = .ok (.iconst 0, 1) := by decide +kernel
theorem dX4_bestCut_1 : decode cX4_bestCut 1 = .ok (.istore_n 3, 1) := by decide +kernel
theorem dX4_bestCut_2 : decode cX4_bestCut 2 = .ok (.iconst (-1), 1) := by decide +kernel
theorem dX4_bestCut_3 : decode cX4_bestCut 3 = .ok (.istore 4, 2) := by decide +kernel
theorem dX4_bestCut_5 : decode cX4_bestCut 5 = .ok (.iconst 0, 1) := by decide +kernel
theorem dX4_bestCut_6 : decode cX4_bestCut 6 = .ok (.istore 5, 2) := by decide +kernel
theorem dX4_bestCut_8 : decode cX4_bestCut 8 = .ok (.iload 5, 2) := by decide +kernel
theorem dX4_bestCut_10 : decode cX4_bestCut 10 = .ok (.aload_n 1, 1) := by decide +kernel
theorem dX4_bestCut_11 : decode cX4_bestCut 11 = .ok (.invokevirtual 30, 3) := by decide +kernel
theorem dX4_bestCut_14 : decode cX4_bestCut 14 = .ok (.if_icmp .gt 33, 3) := by decide +kernel
theorem dX4_bestCut_17 : decode cX4_bestCut 17 = .ok (.aload_n 0, 1) := by decide +kernel
theorem dX4_bestCut_18 : decode cX4_bestCut 18 = .ok (.aload_n 1, 1) := by decide +kernel
theorem dX4_bestCut_19 : decode cX4_bestCut 19 = .ok (.iload_n 2, 1) := by decide +kernel
theorem dX4_bestCut_20 : decode cX4_bestCut 20 = .ok (.iload 5, 2) := by decide +kernel
theorem dX4_bestCut_22 : decode cX4_bestCut 22 = .ok (.invokevirtual 51, 3) := by decide +kernel
theorem dX4_bestCut_25 : decode cX4_bestCut 25 = .ok (.istore 6, 2) := by decide +kernel
theorem dX4_bestCut_27 : decode cX4_bestCut 27 = .ok (.iload 6, 2) := by decide +kernel
theorem dX4_bestCut_29 : decode cX4_bestCut 29 = .ok (.iload 4, 2) := by decide +kernel
theorem dX4_bestCut_31 : decode cX4_bestCut 31 = .ok (.if_icmp .le 10, 3) := by decide +kernel
theorem dX4_bestCut_34 : decode cX4_bestCut 34 = .ok (.iload 6, 2) := by decide +kernel
theorem dX4_bestCut_36 : decode cX4_bestCut 36 = .ok (.istore 4, 2) := by decide +kernel
theorem dX4_bestCut_38 : decode cX4_bestCut 38 = .ok (.iload 5, 2) := by decide +kernel
theorem dX4_bestCut_40 : decode cX4_bestCut 40 = .ok (.istore_n 3, 1) := by decide +kernel
theorem dX4_bestCut_41 : decode cX4_bestCut 41 = .ok (.iinc 5 1, 3) := by decide +kernel
theorem dX4_bestCut_44 : decode cX4_bestCut 44 = .ok (.goto (-36), 3) := by decide +kernel
theorem dX4_bestCut_47 : decode cX4_bestCut 47 = .ok (.iload_n 3, 1) := by decide +kernel
theorem dX4_bestCut_48 : decode cX4_bestCut 48 = .ok (.ireturn, 1) := by decide +kernel
theorem dX4_outcome_0 : decode cX4_outcome 0 = .ok (.iload_n 2, 1) := by decide +kernel
theorem dX4_outcome_1 : decode cX4_outcome 1 = .ok (.ifCond .eq 10, 3) := by decide +kernel
theorem dX4_outcome_4 : decode cX4_outcome 4 = .ok (.iload 4, 2) := by decide +kernel
theorem dX4_outcome_6 : decode cX4_outcome 6 = .ok (.bipush 6, 2) := by decide +kernel
theorem dX4_outcome_8 : decode cX4_outcome 8 = .ok (.if_icmp .lt 5, 3) := by decide +kernel
theorem dX4_outcome_11 : decode cX4_outcome 11 = .ok (.iload_n 1, 1) := by decide +kernel
theorem dX4_outcome_12 : decode cX4_outcome 12 = .ok (.ireturn, 1) := by decide +kernel
theorem dX4_outcome_13 : decode cX4_outcome 13 = .ok (.iload_n 1, 1) := by decide +kernel
theorem dX4_outcome_14 : decode cX4_outcome 14 = .ok (.istore 5, 2) := by decide +kernel
theorem dX4_outcome_16 : decode cX4_outcome 16 = .ok (.iconst (-1), 1) := by decide +kernel
theorem dX4_outcome_17 : decode cX4_outcome 17 = .ok (.istore 6, 2) := by decide +kernel
theorem dX4_outcome_19 : decode cX4_outcome 19 = .ok (.iconst 0, 1) := by decide +kernel
theorem dX4_outcome_20 : decode cX4_outcome 20 = .ok (.istore 7, 2) := by decide +kernel
theorem dX4_outcome_22 : decode cX4_outcome 22 = .ok (.iload 7, 2) := by decide +kernel
theorem dX4_outcome_24 : decode cX4_outcome 24 = .ok (.aload_n 0, 1) := by decide +kernel
theorem dX4_outcome_25 : decode cX4_outcome 25 = .ok (.getfield 54, 3) := by decide +kernel
theorem dX4_outcome_28 : decode cX4_outcome 28 = .ok (.if_icmp .ge 96, 3) := by decide +kernel
theorem dX4_outcome_31 : decode cX4_outcome 31 = .ok (.iconst 1, 1) := by decide +kernel
theorem dX4_outcome_32 : decode cX4_outcome 32 = .ok (.iload 7, 2) := by decide +kernel
theorem dX4_outcome_34 : decode cX4_outcome 34 = .ok (.ishl, 1) := by decide +kernel
theorem dX4_outcome_35 : decode cX4_outcome 35 = .ok (.istore 8, 2) := by decide +kernel
theorem dX4_outcome_37 : decode cX4_outcome 37 = .ok (.iload_n 2, 1) := by decide +kernel
theorem dX4_outcome_38 : decode cX4_outcome 38 = .ok (.iload 8, 2) := by decide +kernel
theorem dX4_outcome_40 : decode cX4_outcome 40 = .ok (.iand, 1) := by decide +kernel
theorem dX4_outcome_41 : decode cX4_outcome 41 = .ok (.ifCond .eq 77, 3) := by decide +kernel
theorem dX4_outcome_44 : decode cX4_outcome 44 = .ok (.iload_n 3, 1) := by decide +kernel
theorem dX4_outcome_45 : decode cX4_outcome 45 = .ok (.iconst 1, 1) := by decide +kernel
theorem dX4_outcome_46 : decode cX4_outcome 46 = .ok (.if_icmp .ne 10, 3) := by decide +kernel
theorem dX4_outcome_49 : decode cX4_outcome 49 = .ok (.iload_n 1, 1) := by decide +kernel
theorem dX4_outcome_50 : decode cX4_outcome 50 = .ok (.iload 8, 2) := by decide +kernel
theorem dX4_outcome_52 : decode cX4_outcome 52 = .ok (.ior, 1) := by decide +kernel
theorem dX4_outcome_53 : decode cX4_outcome 53 = .ok (.goto 4, 3) := by decide +kernel
theorem dX4_outcome_56 : decode cX4_outcome 56 = .ok (.iload_n 1, 1) := by decide +kernel
theorem dX4_outcome_57 : decode cX4_outcome 57 = .ok (.istore 9, 2) := by decide +kernel
theorem dX4_outcome_59 : decode cX4_outcome 59 = .ok (.aload_n 0, 1) := by decide +kernel
theorem dX4_outcome_60 : decode cX4_outcome 60 = .ok (.iload 9, 2) := by decide +kernel
theorem dX4_outcome_62 : decode cX4_outcome 62 = .ok (.iload_n 2, 1) := by decide +kernel
theorem dX4_outcome_63 : decode cX4_outcome 63 = .ok (.iload 8, 2) := by decide +kernel
theorem dX4_outcome_65 : decode cX4_outcome 65 = .ok (.ixor, 1) := by decide +kernel
theorem dX4_outcome_66 : decode cX4_outcome 66 = .ok (.iconst 1, 1) := by decide +kernel
theorem dX4_outcome_67 : decode cX4_outcome 67 = .ok (.iload_n 3, 1) := by decide +kernel
theorem dX4_outcome_68 : decode cX4_outcome 68 = .ok (.isub, 1) := by decide +kernel
theorem dX4_outcome_69 : decode cX4_outcome 69 = .ok (.iload 4, 2) := by decide +kernel
theorem dX4_outcome_71 : decode cX4_outcome 71 = .ok (.iconst 1, 1) := by decide +kernel
theorem dX4_outcome_72 : decode cX4_outcome 72 = .ok (.iadd, 1) := by decide +kernel
theorem dX4_outcome_73 : decode cX4_outcome 73 = .ok (.invokestatic 58, 3) := by decide +kernel
theorem dX4_outcome_76 : decode cX4_outcome 76 = .ok (.bipush 64, 2) := by decide +kernel
theorem dX4_outcome_78 : decode cX4_outcome 78 = .ok (.irem, 1) := by decide +kernel
theorem dX4_outcome_79 : decode cX4_outcome 79 = .ok (.istore 10, 2) := by decide +kernel
theorem dX4_outcome_81 : decode cX4_outcome 81 = .ok (.aload_n 0, 1) := by decide +kernel
theorem dX4_outcome_82 : decode cX4_outcome 82 = .ok (.iload_n 3, 1) := by decide +kernel
theorem dX4_outcome_83 : decode cX4_outcome 83 = .ok (.aload_n 0, 1) := by decide +kernel
theorem dX4_outcome_84 : decode cX4_outcome 84 = .ok (.iload_n 3, 1) := by decide +kernel
theorem dX4_outcome_85 : decode cX4_outcome 85 = .ok (.iload 10, 2) := by decide +kernel
theorem dX4_outcome_87 : decode cX4_outcome 87 = .ok (.invokevirtual 21, 3) := by decide +kernel
theorem dX4_outcome_90 : decode cX4_outcome 90 = .ok (.invokevirtual 27, 3) := by decide +kernel
theorem dX4_outcome_93 : decode cX4_outcome 93 = .ok (.istore 11, 2) := by decide +kernel
theorem dX4_outcome_95 : decode cX4_outcome 95 = .ok (.iload 11, 2) := by decide +kernel
theorem dX4_outcome_97 : decode cX4_outcome 97 = .ok (.iload 6, 2) := by decide +kernel
theorem dX4_outcome_99 : decode cX4_outcome 99 = .ok (.if_icmp .le 19, 3) := by decide +kernel
theorem dX4_outcome_102 : decode cX4_outcome 102 = .ok (.iload 11, 2) := by decide +kernel
theorem dX4_outcome_104 : decode cX4_outcome 104 = .ok (.istore 6, 2) := by decide +kernel
theorem dX4_outcome_106 : decode cX4_outcome 106 = .ok (.iload 10, 2) := by decide +kernel
theorem dX4_outcome_108 : decode cX4_outcome 108 = .ok (.bipush 64, 2) := by decide +kernel
theorem dX4_outcome_110 : decode cX4_outcome 110 = .ok (.iload 7, 2) := by decide +kernel
theorem dX4_outcome_112 : decode cX4_outcome 112 = .ok (.iconst 1, 1) := by decide +kernel
theorem dX4_outcome_113 : decode cX4_outcome 113 = .ok (.iadd, 1) := by decide +kernel
theorem dX4_outcome_114 : decode cX4_outcome 114 = .ok (.imul, 1) := by decide +kernel
theorem dX4_outcome_115 : decode cX4_outcome 115 = .ok (.iadd, 1) := by decide +kernel
theorem dX4_outcome_116 : decode cX4_outcome 116 = .ok (.istore 5, 2) := by decide +kernel
theorem dX4_outcome_118 : decode cX4_outcome 118 = .ok (.iinc 7 1, 3) := by decide +kernel
theorem dX4_outcome_121 : decode cX4_outcome 121 = .ok (.goto (-99), 3) := by decide +kernel
theorem dX4_outcome_124 : decode cX4_outcome 124 = .ok (.iload 5, 2) := by decide +kernel
theorem dX4_outcome_126 : decode cX4_outcome 126 = .ok (.ireturn, 1) := by decide +kernel
theorem dX4_seekLie_0 : decode cX4_seekLie 0 = .ok (.aload_n 0, 1) := by decide +kernel
theorem dX4_seekLie_1 : decode cX4_seekLie 1 = .ok (.iconst 0, 1) := by decide +kernel
theorem dX4_seekLie_2 : decode cX4_seekLie 2 = .ok (.putfield 62, 3) := by decide +kernel
theorem dX4_seekLie_5 : decode cX4_seekLie 5 = .ok (.aload_n 0, 1) := by decide +kernel
theorem dX4_seekLie_6 : decode cX4_seekLie 6 = .ok (.bipush (-9), 2) := by decide +kernel
theorem dX4_seekLie_8 : decode cX4_seekLie 8 = .ok (.putfield 65, 3) := by decide +kernel
theorem dX4_seekLie_11 : decode cX4_seekLie 11 = .ok (.aload_n 0, 1) := by decide +kernel
theorem dX4_seekLie_12 : decode cX4_seekLie 12 = .ok (.aload_n 1, 1) := by decide +kernel
theorem dX4_seekLie_13 : decode cX4_seekLie 13 = .ok (.iload_n 2, 1) := by decide +kernel
theorem dX4_seekLie_14 : decode cX4_seekLie 14 = .ok (.invokevirtual 68, 3) := by decide +kernel
theorem dX4_seekLie_17 : decode cX4_seekLie 17 = .ok (.aload_n 1, 1) := by decide +kernel
theorem dX4_seekLie_18 : decode cX4_seekLie 18 = .ok (.iload_n 2, 1) := by decide +kernel
theorem dX4_seekLie_19 : decode cX4_seekLie 19 = .ok (.aload_n 0, 1) := by decide +kernel
theorem dX4_seekLie_20 : decode cX4_seekLie 20 = .ok (.iconst 0, 1) := by decide +kernel
theorem dX4_seekLie_21 : decode cX4_seekLie 21 = .ok (.iconst 0, 1) := by decide +kernel
theorem dX4_seekLie_22 : decode cX4_seekLie 22 = .ok (.invokevirtual 72, 3) := by decide +kernel
theorem dX4_seekLie_25 : decode cX4_seekLie 25 = .ok (.invokevirtual 27, 3) := by decide +kernel
theorem dX4_seekLie_28 : decode cX4_seekLie 28 = .ok (.istore_n 3, 1) := by decide +kernel
theorem dX4_seekLie_29 : decode cX4_seekLie 29 = .ok (.iconst 0, 1) := by decide +kernel
theorem dX4_seekLie_30 : decode cX4_seekLie 30 = .ok (.istore 4, 2) := by decide +kernel
theorem dX4_seekLie_32 : decode cX4_seekLie 32 = .ok (.iload 4, 2) := by decide +kernel
theorem dX4_seekLie_34 : decode cX4_seekLie 34 = .ok (.aload_n 1, 1) := by decide +kernel
theorem dX4_seekLie_35 : decode cX4_seekLie 35 = .ok (.getfield 54, 3) := by decide +kernel
theorem dX4_seekLie_38 : decode cX4_seekLie 38 = .ok (.if_icmp .ge 88, 3) := by decide +kernel
theorem dX4_seekLie_41 : decode cX4_seekLie 41 = .ok (.iconst 0, 1) := by decide +kernel
theorem dX4_seekLie_42 : decode cX4_seekLie 42 = .ok (.istore 5, 2) := by decide +kernel
theorem dX4_seekLie_44 : decode cX4_seekLie 44 = .ok (.iload 5, 2) := by decide +kernel
theorem dX4_seekLie_46 : decode cX4_seekLie 46 = .ok (.bipush 20, 2) := by decide +kernel
theorem dX4_seekLie_48 : decode cX4_seekLie 48 = .ok (.if_icmp .gt 72, 3) := by decide +kernel
theorem dX4_seekLie_51 : decode cX4_seekLie 51 = .ok (.iload 5, 2) := by decide +kernel
theorem dX4_seekLie_53 : decode cX4_seekLie 53 = .ok (.aload_n 1, 1) := by decide +kernel
theorem dX4_seekLie_54 : decode cX4_seekLie 54 = .ok (.iload_n 2, 1) := by decide +kernel
theorem dX4_seekLie_55 : decode cX4_seekLie 55 = .ok (.iload 4, 2) := by decide +kernel
theorem dX4_seekLie_57 : decode cX4_seekLie 57 = .ok (.invokevirtual 75, 3) := by decide +kernel
theorem dX4_seekLie_60 : decode cX4_seekLie 60 = .ok (.isub, 1) := by decide +kernel
theorem dX4_seekLie_61 : decode cX4_seekLie 61 = .ok (.istore 6, 2) := by decide +kernel
theorem dX4_seekLie_63 : decode cX4_seekLie 63 = .ok (.aload_n 1, 1) := by decide +kernel
theorem dX4_seekLie_64 : decode cX4_seekLie 64 = .ok (.iload_n 2, 1) := by decide +kernel
theorem dX4_seekLie_65 : decode cX4_seekLie 65 = .ok (.aload_n 0, 1) := by decide +kernel
theorem dX4_seekLie_66 : decode cX4_seekLie 66 = .ok (.iconst 1, 1) := by decide +kernel
theorem dX4_seekLie_67 : decode cX4_seekLie 67 = .ok (.iload 4, 2) := by decide +kernel
theorem dX4_seekLie_69 : decode cX4_seekLie 69 = .ok (.ishl, 1) := by decide +kernel
theorem dX4_seekLie_70 : decode cX4_seekLie 70 = .ok (.iload 6, 2) := by decide +kernel
theorem dX4_seekLie_72 : decode cX4_seekLie 72 = .ok (.invokevirtual 72, 3) := by decide +kernel
theorem dX4_seekLie_75 : decode cX4_seekLie 75 = .ok (.invokevirtual 27, 3) := by decide +kernel
theorem dX4_seekLie_78 : decode cX4_seekLie 78 = .ok (.iload_n 3, 1) := by decide +kernel
theorem dX4_seekLie_79 : decode cX4_seekLie 79 = .ok (.isub, 1) := by decide +kernel
theorem dX4_seekLie_80 : decode cX4_seekLie 80 = .ok (.istore 7, 2) := by decide +kernel
theorem dX4_seekLie_82 : decode cX4_seekLie 82 = .ok (.iload 6, 2) := by decide +kernel
theorem dX4_seekLie_84 : decode cX4_seekLie 84 = .ok (.ifCond .eq 30, 3) := by decide +kernel
theorem dX4_seekLie_87 : decode cX4_seekLie 87 = .ok (.iload 7, 2) := by decide +kernel
theorem dX4_seekLie_89 : decode cX4_seekLie 89 = .ok (.aload_n 0, 1) := by decide +kernel
theorem dX4_seekLie_90 : decode cX4_seekLie 90 = .ok (.getfield 62, 3) := by decide +kernel
theorem dX4_seekLie_93 : decode cX4_seekLie 93 = .ok (.if_icmp .le 21, 3) := by decide +kernel
theorem dX4_seekLie_96 : decode cX4_seekLie 96 = .ok (.aload_n 0, 1) := by decide +kernel
theorem dX4_seekLie_97 : decode cX4_seekLie 97 = .ok (.iload 7, 2) := by decide +kernel
theorem dX4_seekLie_99 : decode cX4_seekLie 99 = .ok (.putfield 62, 3) := by decide +kernel
theorem dX4_seekLie_102 : decode cX4_seekLie 102 = .ok (.aload_n 0, 1) := by decide +kernel
theorem dX4_seekLie_103 : decode cX4_seekLie 103 = .ok (.bipush 100, 2) := by decide +kernel
theorem dX4_seekLie_105 : decode cX4_seekLie 105 = .ok (.iload 4, 2) := by decide +kernel
theorem dX4_seekLie_107 : decode cX4_seekLie 107 = .ok (.imul, 1) := by decide +kernel
theorem dX4_seekLie_108 : decode cX4_seekLie 108 = .ok (.iload 5, 2) := by decide +kernel
theorem dX4_seekLie_110 : decode cX4_seekLie 110 = .ok (.iadd, 1) := by decide +kernel
theorem dX4_seekLie_111 : decode cX4_seekLie 111 = .ok (.putfield 65, 3) := by decide +kernel
theorem dX4_seekLie_114 : decode cX4_seekLie 114 = .ok (.iinc 5 1, 3) := by decide +kernel
theorem dX4_seekLie_117 : decode cX4_seekLie 117 = .ok (.goto (-73), 3) := by decide +kernel
theorem dX4_seekLie_120 : decode cX4_seekLie 120 = .ok (.iinc 4 1, 3) := by decide +kernel
theorem dX4_seekLie_123 : decode cX4_seekLie 123 = .ok (.goto (-91), 3) := by decide +kernel
theorem dX4_seekLie_126 : decode cX4_seekLie 126 = .ok (.return_, 1) := by decide +kernel
theorem dX4_listOthersFair_0 : decode cX4_listOthersFair 0 = .ok (.aload_n 0, 1) := by decide +kernel
theorem dX4_listOthersFair_1 : decode cX4_listOthersFair 1 = .ok (.iconst 0, 1) := by decide +kernel
theorem dX4_listOthersFair_2 : decode cX4_listOthersFair 2 = .ok (.putfield 78, 3) := by decide +kernel
theorem dX4_listOthersFair_5 : decode cX4_listOthersFair 5 = .ok (.iconst 0, 1) := by decide +kernel
theorem dX4_listOthersFair_6 : decode cX4_listOthersFair 6 = .ok (.istore_n 3, 1) := by decide +kernel
theorem dX4_listOthersFair_7 : decode cX4_listOthersFair 7 = .ok (.iload_n 3, 1) := by decide +kernel
theorem dX4_listOthersFair_8 : decode cX4_listOthersFair 8 = .ok (.aload_n 1, 1) := by decide +kernel
theorem dX4_listOthersFair_9 : decode cX4_listOthersFair 9 = .ok (.invokevirtual 30, 3) := by decide +kernel
theorem dX4_listOthersFair_12 : decode cX4_listOthersFair 12 = .ok (.if_icmp .gt 93, 3) := by decide +kernel
theorem dX4_listOthersFair_15 : decode cX4_listOthersFair 15 = .ok (.aload_n 0, 1) := by decide +kernel
theorem dX4_listOthersFair_16 : decode cX4_listOthersFair 16 = .ok (.aload_n 1, 1) := by decide +kernel
theorem dX4_listOthersFair_17 : decode cX4_listOthersFair 17 = .ok (.iconst 1, 1) := by decide +kernel
theorem dX4_listOthersFair_18 : decode cX4_listOthersFair 18 = .ok (.iload_n 2, 1) := by decide +kernel
theorem dX4_listOthersFair_19 : decode cX4_listOthersFair 19 = .ok (.isub, 1) := by decide +kernel
theorem dX4_listOthersFair_20 : decode cX4_listOthersFair 20 = .ok (.iload_n 3, 1) := by decide +kernel
theorem dX4_listOthersFair_21 : decode cX4_listOthersFair 21 = .ok (.invokevirtual 34, 3) := by decide +kernel
theorem dX4_listOthersFair_24 : decode cX4_listOthersFair 24 = .ok (.ifCond .lt 75, 3) := by decide +kernel
theorem dX4_listOthersFair_27 : decode cX4_listOthersFair 27 = .ok (.aload_n 0, 1) := by decide +kernel
theorem dX4_listOthersFair_28 : decode cX4_listOthersFair 28 = .ok (.getfield 78, 3) := by decide +kernel
theorem dX4_listOthersFair_31 : decode cX4_listOthersFair 31 = .ok (.ifCond .lt 68, 3) := by decide +kernel
theorem dX4_listOthersFair_34 : decode cX4_listOthersFair 34 = .ok (.aload_n 0, 1) := by decide +kernel
theorem dX4_listOthersFair_35 : decode cX4_listOthersFair 35 = .ok (.getfield 78, 3) := by decide +kernel
theorem dX4_listOthersFair_38 : decode cX4_listOthersFair 38 = .ok (.bipush 64, 2) := by decide +kernel
theorem dX4_listOthersFair_40 : decode cX4_listOthersFair 40 = .ok (.if_icmp .ge 59, 3) := by decide +kernel
theorem dX4_listOthersFair_43 : decode cX4_listOthersFair 43 = .ok (.aload_n 0, 1) := by decide +kernel
theorem dX4_listOthersFair_44 : decode cX4_listOthersFair 44 = .ok (.getfield 9, 3) := by decide +kernel
theorem dX4_listOthersFair_47 : decode cX4_listOthersFair 47 = .ok (.aload_n 0, 1) := by decide +kernel
theorem dX4_listOthersFair_48 : decode cX4_listOthersFair 48 = .ok (.getfield 78, 3) := by decide +kernel
theorem dX4_listOthersFair_51 : decode cX4_listOthersFair 51 = .ok (.aload_n 1, 1) := by decide +kernel
theorem dX4_listOthersFair_52 : decode cX4_listOthersFair 52 = .ok (.iload_n 2, 1) := by decide +kernel
theorem dX4_listOthersFair_53 : decode cX4_listOthersFair 53 = .ok (.iload_n 3, 1) := by decide +kernel
theorem dX4_listOthersFair_54 : decode cX4_listOthersFair 54 = .ok (.invokevirtual 21, 3) := by decide +kernel
theorem dX4_listOthersFair_57 : decode cX4_listOthersFair 57 = .ok (.iastore, 1) := by decide +kernel
theorem dX4_listOthersFair_58 : decode cX4_listOthersFair 58 = .ok (.aload_n 0, 1) := by decide +kernel
theorem dX4_listOthersFair_59 : decode cX4_listOthersFair 59 = .ok (.getfield 15, 3) := by decide +kernel
theorem dX4_listOthersFair_62 : decode cX4_listOthersFair 62 = .ok (.aload_n 0, 1) := by decide +kernel
theorem dX4_listOthersFair_63 : decode cX4_listOthersFair 63 = .ok (.getfield 78, 3) := by decide +kernel
theorem dX4_listOthersFair_66 : decode cX4_listOthersFair 66 = .ok (.aload_n 0, 1) := by decide +kernel
theorem dX4_listOthersFair_67 : decode cX4_listOthersFair 67 = .ok (.aload_n 1, 1) := by decide +kernel
theorem dX4_listOthersFair_68 : decode cX4_listOthersFair 68 = .ok (.iload_n 2, 1) := by decide +kernel
theorem dX4_listOthersFair_69 : decode cX4_listOthersFair 69 = .ok (.iload_n 3, 1) := by decide +kernel
theorem dX4_listOthersFair_70 : decode cX4_listOthersFair 70 = .ok (.invokevirtual 34, 3) := by decide +kernel
theorem dX4_listOthersFair_73 : decode cX4_listOthersFair 73 = .ok (.iastore, 1) := by decide +kernel
theorem dX4_listOthersFair_74 : decode cX4_listOthersFair 74 = .ok (.aload_n 0, 1) := by decide +kernel
theorem dX4_listOthersFair_75 : decode cX4_listOthersFair 75 = .ok (.getfield 18, 3) := by decide +kernel
theorem dX4_listOthersFair_78 : decode cX4_listOthersFair 78 = .ok (.aload_n 0, 1) := by decide +kernel
theorem dX4_listOthersFair_79 : decode cX4_listOthersFair 79 = .ok (.getfield 78, 3) := by decide +kernel
theorem dX4_listOthersFair_82 : decode cX4_listOthersFair 82 = .ok (.aload_n 0, 1) := by decide +kernel
theorem dX4_listOthersFair_83 : decode cX4_listOthersFair 83 = .ok (.aload_n 1, 1) := by decide +kernel
theorem dX4_listOthersFair_84 : decode cX4_listOthersFair 84 = .ok (.iload_n 3, 1) := by decide +kernel
theorem dX4_listOthersFair_85 : decode cX4_listOthersFair 85 = .ok (.invokevirtual 42, 3) := by decide +kernel
theorem dX4_listOthersFair_88 : decode cX4_listOthersFair 88 = .ok (.iastore, 1) := by decide +kernel
theorem dX4_listOthersFair_89 : decode cX4_listOthersFair 89 = .ok (.aload_n 0, 1) := by decide +kernel
theorem dX4_listOthersFair_90 : decode cX4_listOthersFair 90 = .ok (.dup, 1) := by decide +kernel
theorem dX4_listOthersFair_91 : decode cX4_listOthersFair 91 = .ok (.getfield 78, 3) := by decide +kernel
theorem dX4_listOthersFair_94 : decode cX4_listOthersFair 94 = .ok (.iconst 1, 1) := by decide +kernel
theorem dX4_listOthersFair_95 : decode cX4_listOthersFair 95 = .ok (.iadd, 1) := by decide +kernel
theorem dX4_listOthersFair_96 : decode cX4_listOthersFair 96 = .ok (.putfield 78, 3) := by decide +kernel
theorem dX4_listOthersFair_99 : decode cX4_listOthersFair 99 = .ok (.iinc 3 1, 3) := by decide +kernel
theorem dX4_listOthersFair_102 : decode cX4_listOthersFair 102 = .ok (.goto (-95), 3) := by decide +kernel
theorem dX4_listOthersFair_105 : decode cX4_listOthersFair 105 = .ok (.return_, 1) := by decide +kernel
theorem dX4_ownInBestTold_0 : decode cX4_ownInBestTold 0 = .ok (.iconst 0, 1) := by decide +kernel
theorem dX4_ownInBestTold_1 : decode cX4_ownInBestTold 1 = .ok (.istore_n 3, 1) := by decide +kernel
theorem dX4_ownInBestTold_2 : decode cX4_ownInBestTold 2 = .ok (.iconst (-1), 1) := by decide +kernel
theorem dX4_ownInBestTold_3 : decode cX4_ownInBestTold 3 = .ok (.istore 4, 2) := by decide +kernel
theorem dX4_ownInBestTold_5 : decode cX4_ownInBestTold 5 = .ok (.iconst 0, 1) := by decide +kernel
theorem dX4_ownInBestTold_6 : decode cX4_ownInBestTold 6 = .ok (.istore 5, 2) := by decide +kernel
theorem dX4_ownInBestTold_8 : decode cX4_ownInBestTold 8 = .ok (.iload 5, 2) := by decide +kernel
theorem dX4_ownInBestTold_10 : decode cX4_ownInBestTold 10 = .ok (.aload_n 0, 1) := by decide +kernel
theorem dX4_ownInBestTold_11 : decode cX4_ownInBestTold 11 = .ok (.getfield 78, 3) := by decide +kernel
theorem dX4_ownInBestTold_14 : decode cX4_ownInBestTold 14 = .ok (.if_icmp .ge 113, 3) := by decide +kernel
theorem dX4_ownInBestTold_17 : decode cX4_ownInBestTold 17 = .ok (.iload 5, 2) := by decide +kernel
theorem dX4_ownInBestTold_19 : decode cX4_ownInBestTold 19 = .ok (.bipush 64, 2) := by decide +kernel
theorem dX4_ownInBestTold_21 : decode cX4_ownInBestTold 21 = .ok (.if_icmp .ge 106, 3) := by decide +kernel
theorem dX4_ownInBestTold_24 : decode cX4_ownInBestTold 24 = .ok (.aload_n 0, 1) := by decide +kernel
theorem dX4_ownInBestTold_25 : decode cX4_ownInBestTold 25 = .ok (.getfield 9, 3) := by decide +kernel
theorem dX4_ownInBestTold_28 : decode cX4_ownInBestTold 28 = .ok (.iload 5, 2) := by decide +kernel
theorem dX4_ownInBestTold_30 : decode cX4_ownInBestTold 30 = .ok (.iaload, 1) := by decide +kernel
theorem dX4_ownInBestTold_31 : decode cX4_ownInBestTold 31 = .ok (.iload_n 1, 1) := by decide +kernel
theorem dX4_ownInBestTold_32 : decode cX4_ownInBestTold 32 = .ok (.iand, 1) := by decide +kernel
theorem dX4_ownInBestTold_33 : decode cX4_ownInBestTold 33 = .ok (.ifCond .eq 7, 3) := by decide +kernel
theorem dX4_ownInBestTold_36 : decode cX4_ownInBestTold 36 = .ok (.iconst 1, 1) := by decide +kernel
theorem dX4_ownInBestTold_37 : decode cX4_ownInBestTold 37 = .ok (.goto 4, 3) := by decide +kernel
theorem dX4_ownInBestTold_40 : decode cX4_ownInBestTold 40 = .ok (.iconst 0, 1) := by decide +kernel
theorem dX4_ownInBestTold_41 : decode cX4_ownInBestTold 41 = .ok (.istore 6, 2) := by decide +kernel
theorem dX4_ownInBestTold_43 : decode cX4_ownInBestTold 43 = .ok (.iload 6, 2) := by decide +kernel
theorem dX4_ownInBestTold_45 : decode cX4_ownInBestTold 45 = .ok (.ifCond .eq 15, 3) := by decide +kernel
theorem dX4_ownInBestTold_48 : decode cX4_ownInBestTold 48 = .ok (.aload_n 0, 1) := by decide +kernel
theorem dX4_ownInBestTold_49 : decode cX4_ownInBestTold 49 = .ok (.getfield 15, 3) := by decide +kernel
theorem dX4_ownInBestTold_52 : decode cX4_ownInBestTold 52 = .ok (.iload 5, 2) := by decide +kernel
theorem dX4_ownInBestTold_54 : decode cX4_ownInBestTold 54 = .ok (.iaload, 1) := by decide +kernel
theorem dX4_ownInBestTold_55 : decode cX4_ownInBestTold 55 = .ok (.iload_n 2, 1) := by decide +kernel
theorem dX4_ownInBestTold_56 : decode cX4_ownInBestTold 56 = .ok (.iadd, 1) := by decide +kernel
theorem dX4_ownInBestTold_57 : decode cX4_ownInBestTold 57 = .ok (.goto 12, 3) := by decide +kernel
theorem dX4_ownInBestTold_60 : decode cX4_ownInBestTold 60 = .ok (.aload_n 0, 1) := by decide +kernel
theorem dX4_ownInBestTold_61 : decode cX4_ownInBestTold 61 = .ok (.getfield 15, 3) := by decide +kernel
theorem dX4_ownInBestTold_64 : decode cX4_ownInBestTold 64 = .ok (.iload 5, 2) := by decide +kernel
theorem dX4_ownInBestTold_66 : decode cX4_ownInBestTold 66 = .ok (.iaload, 1) := by decide +kernel
theorem dX4_ownInBestTold_67 : decode cX4_ownInBestTold 67 = .ok (.iload_n 2, 1) := by decide +kernel
theorem dX4_ownInBestTold_68 : decode cX4_ownInBestTold 68 = .ok (.isub, 1) := by decide +kernel
theorem dX4_ownInBestTold_69 : decode cX4_ownInBestTold 69 = .ok (.istore 7, 2) := by decide +kernel
theorem dX4_ownInBestTold_71 : decode cX4_ownInBestTold 71 = .ok (.iload 6, 2) := by decide +kernel
theorem dX4_ownInBestTold_73 : decode cX4_ownInBestTold 73 = .ok (.ifCond .eq 15, 3) := by decide +kernel
theorem dX4_ownInBestTold_76 : decode cX4_ownInBestTold 76 = .ok (.aload_n 0, 1) := by decide +kernel
theorem dX4_ownInBestTold_77 : decode cX4_ownInBestTold 77 = .ok (.getfield 18, 3) := by decide +kernel
theorem dX4_ownInBestTold_80 : decode cX4_ownInBestTold 80 = .ok (.iload 5, 2) := by decide +kernel
theorem dX4_ownInBestTold_82 : decode cX4_ownInBestTold 82 = .ok (.iaload, 1) := by decide +kernel
theorem dX4_ownInBestTold_83 : decode cX4_ownInBestTold 83 = .ok (.iload_n 2, 1) := by decide +kernel
theorem dX4_ownInBestTold_84 : decode cX4_ownInBestTold 84 = .ok (.iadd, 1) := by decide +kernel
theorem dX4_ownInBestTold_85 : decode cX4_ownInBestTold 85 = .ok (.goto 10, 3) := by decide +kernel
theorem dX4_ownInBestTold_88 : decode cX4_ownInBestTold 88 = .ok (.aload_n 0, 1) := by decide +kernel
theorem dX4_ownInBestTold_89 : decode cX4_ownInBestTold 89 = .ok (.getfield 18, 3) := by decide +kernel
theorem dX4_ownInBestTold_92 : decode cX4_ownInBestTold 92 = .ok (.iload 5, 2) := by decide +kernel
theorem dX4_ownInBestTold_94 : decode cX4_ownInBestTold 94 = .ok (.iaload, 1) := by decide +kernel
theorem dX4_ownInBestTold_95 : decode cX4_ownInBestTold 95 = .ok (.istore 8, 2) := by decide +kernel
theorem dX4_ownInBestTold_97 : decode cX4_ownInBestTold 97 = .ok (.iload 7, 2) := by decide +kernel
theorem dX4_ownInBestTold_99 : decode cX4_ownInBestTold 99 = .ok (.ifCond .lt 22, 3) := by decide +kernel
theorem dX4_ownInBestTold_102 : decode cX4_ownInBestTold 102 = .ok (.iload 8, 2) := by decide +kernel
theorem dX4_ownInBestTold_104 : decode cX4_ownInBestTold 104 = .ok (.iload 4, 2) := by decide +kernel
theorem dX4_ownInBestTold_106 : decode cX4_ownInBestTold 106 = .ok (.if_icmp .le 15, 3) := by decide +kernel
theorem dX4_ownInBestTold_109 : decode cX4_ownInBestTold 109 = .ok (.iload 8, 2) := by decide +kernel
theorem dX4_ownInBestTold_111 : decode cX4_ownInBestTold 111 = .ok (.istore 4, 2) := by decide +kernel
theorem dX4_ownInBestTold_113 : decode cX4_ownInBestTold 113 = .ok (.aload_n 0, 1) := by decide +kernel
theorem dX4_ownInBestTold_114 : decode cX4_ownInBestTold 114 = .ok (.getfield 9, 3) := by decide +kernel
theorem dX4_ownInBestTold_117 : decode cX4_ownInBestTold 117 = .ok (.iload 5, 2) := by decide +kernel
theorem dX4_ownInBestTold_119 : decode cX4_ownInBestTold 119 = .ok (.iaload, 1) := by decide +kernel
theorem dX4_ownInBestTold_120 : decode cX4_ownInBestTold 120 = .ok (.istore_n 3, 1) := by decide +kernel
theorem dX4_ownInBestTold_121 : decode cX4_ownInBestTold 121 = .ok (.iinc 5 1, 3) := by decide +kernel
theorem dX4_ownInBestTold_124 : decode cX4_ownInBestTold 124 = .ok (.goto (-116), 3) := by decide +kernel
theorem dX4_ownInBestTold_127 : decode cX4_ownInBestTold 127 = .ok (.iload_n 3, 1) := by decide +kernel
theorem dX4_ownInBestTold_128 : decode cX4_ownInBestTold 128 = .ok (.ireturn, 1) := by decide +kernel
theorem dX4_greatestSale_0 : decode cX4_greatestSale 0 = .ok (.iconst 0, 1) := by decide +kernel
theorem dX4_greatestSale_1 : decode cX4_greatestSale 1 = .ok (.istore_n 3, 1) := by decide +kernel
theorem dX4_greatestSale_2 : decode cX4_greatestSale 2 = .ok (.iconst 0, 1) := by decide +kernel
theorem dX4_greatestSale_3 : decode cX4_greatestSale 3 = .ok (.istore 4, 2) := by decide +kernel
theorem dX4_greatestSale_5 : decode cX4_greatestSale 5 = .ok (.iload 4, 2) := by decide +kernel
theorem dX4_greatestSale_7 : decode cX4_greatestSale 7 = .ok (.aload_n 1, 1) := by decide +kernel
theorem dX4_greatestSale_8 : decode cX4_greatestSale 8 = .ok (.invokevirtual 30, 3) := by decide +kernel
theorem dX4_greatestSale_11 : decode cX4_greatestSale 11 = .ok (.if_icmp .gt 68, 3) := by decide +kernel
theorem dX4_greatestSale_14 : decode cX4_greatestSale 14 = .ok (.iload 4, 2) := by decide +kernel
theorem dX4_greatestSale_16 : decode cX4_greatestSale 16 = .ok (.invokestatic 81, 3) := by decide +kernel
theorem dX4_greatestSale_19 : decode cX4_greatestSale 19 = .ok (.istore 5, 2) := by decide +kernel
theorem dX4_greatestSale_21 : decode cX4_greatestSale 21 = .ok (.aload_n 1, 1) := by decide +kernel
theorem dX4_greatestSale_22 : decode cX4_greatestSale 22 = .ok (.iconst 0, 1) := by decide +kernel
theorem dX4_greatestSale_23 : decode cX4_greatestSale 23 = .ok (.iload 4, 2) := by decide +kernel
theorem dX4_greatestSale_25 : decode cX4_greatestSale 25 = .ok (.invokevirtual 27, 3) := by decide +kernel
theorem dX4_greatestSale_28 : decode cX4_greatestSale 28 = .ok (.iload_n 2, 1) := by decide +kernel
theorem dX4_greatestSale_29 : decode cX4_greatestSale 29 = .ok (.iload 5, 2) := by decide +kernel
theorem dX4_greatestSale_31 : decode cX4_greatestSale 31 = .ok (.imul, 1) := by decide +kernel
theorem dX4_greatestSale_32 : decode cX4_greatestSale 32 = .ok (.if_icmp .gt 21, 3) := by decide +kernel
theorem dX4_greatestSale_35 : decode cX4_greatestSale 35 = .ok (.aload_n 1, 1) := by decide +kernel
theorem dX4_greatestSale_36 : decode cX4_greatestSale 36 = .ok (.iconst 1, 1) := by decide +kernel
theorem dX4_greatestSale_37 : decode cX4_greatestSale 37 = .ok (.iload 4, 2) := by decide +kernel
theorem dX4_greatestSale_39 : decode cX4_greatestSale 39 = .ok (.invokevirtual 27, 3) := by decide +kernel
theorem dX4_greatestSale_42 : decode cX4_greatestSale 42 = .ok (.iload_n 2, 1) := by decide +kernel
theorem dX4_greatestSale_43 : decode cX4_greatestSale 43 = .ok (.iload 5, 2) := by decide +kernel
theorem dX4_greatestSale_45 : decode cX4_greatestSale 45 = .ok (.imul, 1) := by decide +kernel
theorem dX4_greatestSale_46 : decode cX4_greatestSale 46 = .ok (.if_icmp .gt 7, 3) := by decide +kernel
theorem dX4_greatestSale_49 : decode cX4_greatestSale 49 = .ok (.iconst 1, 1) := by decide +kernel
theorem dX4_greatestSale_50 : decode cX4_greatestSale 50 = .ok (.goto 4, 3) := by decide +kernel
theorem dX4_greatestSale_53 : decode cX4_greatestSale 53 = .ok (.iconst 0, 1) := by decide +kernel
theorem dX4_greatestSale_54 : decode cX4_greatestSale 54 = .ok (.istore 6, 2) := by decide +kernel
theorem dX4_greatestSale_56 : decode cX4_greatestSale 56 = .ok (.iload 6, 2) := by decide +kernel
theorem dX4_greatestSale_58 : decode cX4_greatestSale 58 = .ok (.ifCond .eq 15, 3) := by decide +kernel
theorem dX4_greatestSale_61 : decode cX4_greatestSale 61 = .ok (.iload 5, 2) := by decide +kernel
theorem dX4_greatestSale_63 : decode cX4_greatestSale 63 = .ok (.iload_n 3, 1) := by decide +kernel
theorem dX4_greatestSale_64 : decode cX4_greatestSale 64 = .ok (.invokestatic 81, 3) := by decide +kernel
theorem dX4_greatestSale_67 : decode cX4_greatestSale 67 = .ok (.if_icmp .le 6, 3) := by decide +kernel
theorem dX4_greatestSale_70 : decode cX4_greatestSale 70 = .ok (.iload 4, 2) := by decide +kernel
theorem dX4_greatestSale_72 : decode cX4_greatestSale 72 = .ok (.istore_n 3, 1) := by decide +kernel
theorem dX4_greatestSale_73 : decode cX4_greatestSale 73 = .ok (.iinc 4 1, 3) := by decide +kernel
theorem dX4_greatestSale_76 : decode cX4_greatestSale 76 = .ok (.goto (-71), 3) := by decide +kernel
theorem dX4_greatestSale_79 : decode cX4_greatestSale 79 = .ok (.iload_n 3, 1) := by decide +kernel
theorem dX4_greatestSale_80 : decode cX4_greatestSale 80 = .ok (.ireturn, 1) := by decide +kernel
theorem dX4_fairLots_0 : decode cX4_fairLots 0 = .ok (.iconst 0, 1) := by decide +kernel
theorem dX4_fairLots_1 : decode cX4_fairLots 1 = .ok (.istore_n 3, 1) := by decide +kernel
theorem dX4_fairLots_2 : decode cX4_fairLots 2 = .ok (.iconst 0, 1) := by decide +kernel
theorem dX4_fairLots_3 : decode cX4_fairLots 3 = .ok (.istore 4, 2) := by decide +kernel
theorem dX4_fairLots_5 : decode cX4_fairLots 5 = .ok (.iload 4, 2) := by decide +kernel
theorem dX4_fairLots_7 : decode cX4_fairLots 7 = .ok (.aload_n 1, 1) := by decide +kernel
theorem dX4_fairLots_8 : decode cX4_fairLots 8 = .ok (.invokevirtual 30, 3) := by decide +kernel
theorem dX4_fairLots_11 : decode cX4_fairLots 11 = .ok (.if_icmp .gt 50, 3) := by decide +kernel
theorem dX4_fairLots_14 : decode cX4_fairLots 14 = .ok (.aload_n 0, 1) := by decide +kernel
theorem dX4_fairLots_15 : decode cX4_fairLots 15 = .ok (.aload_n 1, 1) := by decide +kernel
theorem dX4_fairLots_16 : decode cX4_fairLots 16 = .ok (.iload 4, 2) := by decide +kernel
theorem dX4_fairLots_18 : decode cX4_fairLots 18 = .ok (.invokevirtual 38, 3) := by decide +kernel
theorem dX4_fairLots_21 : decode cX4_fairLots 21 = .ok (.ifCond .eq 34, 3) := by decide +kernel
theorem dX4_fairLots_24 : decode cX4_fairLots 24 = .ok (.iload 4, 2) := by decide +kernel
theorem dX4_fairLots_26 : decode cX4_fairLots 26 = .ok (.invokestatic 81, 3) := by decide +kernel
theorem dX4_fairLots_29 : decode cX4_fairLots 29 = .ok (.istore 5, 2) := by decide +kernel
theorem dX4_fairLots_31 : decode cX4_fairLots 31 = .ok (.iload_n 3, 1) := by decide +kernel
theorem dX4_fairLots_32 : decode cX4_fairLots 32 = .ok (.iload_n 2, 1) := by decide +kernel
theorem dX4_fairLots_33 : decode cX4_fairLots 33 = .ok (.aload_n 1, 1) := by decide +kernel
theorem dX4_fairLots_34 : decode cX4_fairLots 34 = .ok (.getfield 54, 3) := by decide +kernel
theorem dX4_fairLots_37 : decode cX4_fairLots 37 = .ok (.iload 5, 2) := by decide +kernel
theorem dX4_fairLots_39 : decode cX4_fairLots 39 = .ok (.isub, 1) := by decide +kernel
theorem dX4_fairLots_40 : decode cX4_fairLots 40 = .ok (.invokestatic 87, 3) := by decide +kernel
theorem dX4_fairLots_43 : decode cX4_fairLots 43 = .ok (.bipush 10, 2) := by decide +kernel
theorem dX4_fairLots_45 : decode cX4_fairLots 45 = .ok (.iload_n 2, 1) := by decide +kernel
theorem dX4_fairLots_46 : decode cX4_fairLots 46 = .ok (.isub, 1) := by decide +kernel
theorem dX4_fairLots_47 : decode cX4_fairLots 47 = .ok (.iload 5, 2) := by decide +kernel
theorem dX4_fairLots_49 : decode cX4_fairLots 49 = .ok (.invokestatic 87, 3) := by decide +kernel
theorem dX4_fairLots_52 : decode cX4_fairLots 52 = .ok (.imul, 1) := by decide +kernel
theorem dX4_fairLots_53 : decode cX4_fairLots 53 = .ok (.iadd, 1) := by decide +kernel
theorem dX4_fairLots_54 : decode cX4_fairLots 54 = .ok (.istore_n 3, 1) := by decide +kernel
theorem dX4_fairLots_55 : decode cX4_fairLots 55 = .ok (.iinc 4 1, 3) := by decide +kernel
theorem dX4_fairLots_58 : decode cX4_fairLots 58 = .ok (.goto (-53), 3) := by decide +kernel
theorem dX4_fairLots_61 : decode cX4_fairLots 61 = .ok (.iload_n 3, 1) := by decide +kernel
theorem dX4_fairLots_62 : decode cX4_fairLots 62 = .ok (.ireturn, 1) := by decide +kernel
theorem dX5_init_0 : decode cX5_init 0 = .ok (.aload_n 0, 1) := by decide +kernel
theorem dX5_init_1 : decode cX5_init 1 = .ok (.invokespecial 3, 3) := by decide +kernel
theorem dX5_init_4 : decode cX5_init 4 = .ok (.aload_n 0, 1) := by decide +kernel
theorem dX5_init_5 : decode cX5_init 5 = .ok (.sipush 200, 3) := by decide +kernel
theorem dX5_init_8 : decode cX5_init 8 = .ok (.newarray .int, 2) := by decide +kernel
theorem dX5_init_10 : decode cX5_init 10 = .ok (.putfield 9, 3) := by decide +kernel
theorem dX5_init_13 : decode cX5_init 13 = .ok (.return_, 1) := by decide +kernel
theorem dX5_add_0 : decode cX5_add 0 = .ok (.aload_n 0, 1) := by decide +kernel
theorem dX5_add_1 : decode cX5_add 1 = .ok (.getfield 15, 3) := by decide +kernel
theorem dX5_add_4 : decode cX5_add 4 = .ok (.ifCond .lt 13, 3) := by decide +kernel
theorem dX5_add_7 : decode cX5_add 7 = .ok (.aload_n 0, 1) := by decide +kernel
theorem dX5_add_8 : decode cX5_add 8 = .ok (.getfield 15, 3) := by decide +kernel
theorem dX5_add_11 : decode cX5_add 11 = .ok (.sipush 200, 3) := by decide +kernel
theorem dX5_add_14 : decode cX5_add 14 = .ok (.if_icmp .lt 5, 3) := by decide +kernel
theorem dX5_add_17 : decode cX5_add 17 = .ok (.iconst 0, 1) := by decide +kernel
theorem dX5_add_18 : decode cX5_add 18 = .ok (.ireturn, 1) := by decide +kernel
theorem dX5_add_19 : decode cX5_add 19 = .ok (.aload_n 0, 1) := by decide +kernel
theorem dX5_add_20 : decode cX5_add 20 = .ok (.getfield 9, 3) := by decide +kernel
theorem dX5_add_23 : decode cX5_add 23 = .ok (.aload_n 0, 1) := by decide +kernel
theorem dX5_add_24 : decode cX5_add 24 = .ok (.getfield 15, 3) := by decide +kernel
theorem dX5_add_27 : decode cX5_add 27 = .ok (.iload_n 1, 1) := by decide +kernel
theorem dX5_add_28 : decode cX5_add 28 = .ok (.iastore, 1) := by decide +kernel
theorem dX5_add_29 : decode cX5_add 29 = .ok (.aload_n 0, 1) := by decide +kernel
theorem dX5_add_30 : decode cX5_add 30 = .ok (.dup, 1) := by decide +kernel
theorem dX5_add_31 : decode cX5_add 31 = .ok (.getfield 15, 3) := by decide +kernel
theorem dX5_add_34 : decode cX5_add 34 = .ok (.iconst 1, 1) := by decide +kernel
theorem dX5_add_35 : decode cX5_add 35 = .ok (.iadd, 1) := by decide +kernel
theorem dX5_add_36 : decode cX5_add 36 = .ok (.putfield 15, 3) := by decide +kernel
theorem dX5_add_39 : decode cX5_add 39 = .ok (.iconst 1, 1) := by decide +kernel
theorem dX5_add_40 : decode cX5_add 40 = .ok (.ireturn, 1) := by decide +kernel
theorem dX5_empty_0 : decode cX5_empty 0 = .ok (.aload_n 0, 1) := by decide +kernel
theorem dX5_empty_1 : decode cX5_empty 1 = .ok (.iconst 0, 1) := by decide +kernel
theorem dX5_empty_2 : decode cX5_empty 2 = .ok (.putfield 15, 3) := by decide +kernel
theorem dX5_empty_5 : decode cX5_empty 5 = .ok (.return_, 1) := by decide +kernel
theorem dX5_read_0 : decode cX5_read 0 = .ok (.aload_n 1, 1) := by decide +kernel
theorem dX5_read_1 : decode cX5_read 1 = .ok (.invokevirtual 19, 3) := by decide +kernel
theorem dX5_read_4 : decode cX5_read 4 = .ok (.aload_n 0, 1) := by decide +kernel
theorem dX5_read_5 : decode cX5_read 5 = .ok (.iconst 0, 1) := by decide +kernel
theorem dX5_read_6 : decode cX5_read 6 = .ok (.putfield 24, 3) := by decide +kernel
theorem dX5_read_9 : decode cX5_read 9 = .ok (.aload_n 0, 1) := by decide +kernel
theorem dX5_read_10 : decode cX5_read 10 = .ok (.iconst 0, 1) := by decide +kernel
theorem dX5_read_11 : decode cX5_read 11 = .ok (.putfield 27, 3) := by decide +kernel
theorem dX5_read_14 : decode cX5_read 14 = .ok (.aload_n 0, 1) := by decide +kernel
theorem dX5_read_15 : decode cX5_read 15 = .ok (.iconst 0, 1) := by decide +kernel
theorem dX5_read_16 : decode cX5_read 16 = .ok (.putfield 31, 3) := by decide +kernel
theorem dX5_read_19 : decode cX5_read 19 = .ok (.iconst 0, 1) := by decide +kernel
theorem dX5_read_20 : decode cX5_read 20 = .ok (.istore_n 2, 1) := by decide +kernel
theorem dX5_read_21 : decode cX5_read 21 = .ok (.aload_n 0, 1) := by decide +kernel
theorem dX5_read_22 : decode cX5_read 22 = .ok (.invokevirtual 34, 3) := by decide +kernel
theorem dX5_read_25 : decode cX5_read 25 = .ok (.iload_n 2, 1) := by decide +kernel
theorem dX5_read_26 : decode cX5_read 26 = .ok (.sipush 200, 3) := by decide +kernel
theorem dX5_read_29 : decode cX5_read 29 = .ok (.if_icmp .ge 119, 3) := by decide +kernel
theorem dX5_read_32 : decode cX5_read 32 = .ok (.aload_n 0, 1) := by decide +kernel
theorem dX5_read_33 : decode cX5_read 33 = .ok (.getfield 37, 3) := by decide +kernel
theorem dX5_read_36 : decode cX5_read 36 = .ok (.sipush 258, 3) := by decide +kernel
theorem dX5_read_39 : decode cX5_read 39 = .ok (.if_icmp .eq 109, 3) := by decide +kernel
theorem dX5_read_42 : decode cX5_read 42 = .ok (.aload_n 0, 1) := by decide +kernel
theorem dX5_read_43 : decode cX5_read 43 = .ok (.getfield 37, 3) := by decide +kernel
theorem dX5_read_46 : decode cX5_read 46 = .ok (.lookupswitch 78 #[(99, 69), (103, 42), (104, 60), (112, 51)], 42) := by decide +kernel
theorem dX5_read_88 : decode cX5_read 88 = .ok (.aload_n 0, 1) := by decide +kernel
theorem dX5_read_89 : decode cX5_read 89 = .ok (.aload_n 1, 1) := by decide +kernel
theorem dX5_read_90 : decode cX5_read 90 = .ok (.invokevirtual 40, 3) := by decide +kernel
theorem dX5_read_93 : decode cX5_read 93 = .ok (.istore_n 3, 1) := by decide +kernel
theorem dX5_read_94 : decode cX5_read 94 = .ok (.goto 32, 3) := by decide +kernel
theorem dX5_read_97 : decode cX5_read 97 = .ok (.aload_n 0, 1) := by decide +kernel
theorem dX5_read_98 : decode cX5_read 98 = .ok (.aload_n 1, 1) := by decide +kernel
theorem dX5_read_99 : decode cX5_read 99 = .ok (.invokevirtual 44, 3) := by decide +kernel
theorem dX5_read_102 : decode cX5_read 102 = .ok (.istore_n 3, 1) := by decide +kernel
theorem dX5_read_103 : decode cX5_read 103 = .ok (.goto 23, 3) := by decide +kernel
theorem dX5_read_106 : decode cX5_read 106 = .ok (.aload_n 0, 1) := by decide +kernel
theorem dX5_read_107 : decode cX5_read 107 = .ok (.aload_n 1, 1) := by decide +kernel
theorem dX5_read_108 : decode cX5_read 108 = .ok (.invokevirtual 47, 3) := by decide +kernel
theorem dX5_read_111 : decode cX5_read 111 = .ok (.istore_n 3, 1) := by decide +kernel
theorem dX5_read_112 : decode cX5_read 112 = .ok (.goto 14, 3) := by decide +kernel
theorem dX5_read_115 : decode cX5_read 115 = .ok (.aload_n 0, 1) := by decide +kernel
theorem dX5_read_116 : decode cX5_read 116 = .ok (.aload_n 1, 1) := by decide +kernel
theorem dX5_read_117 : decode cX5_read 117 = .ok (.invokevirtual 50, 3) := by decide +kernel
theorem dX5_read_120 : decode cX5_read 120 = .ok (.istore_n 3, 1) := by decide +kernel
theorem dX5_read_121 : decode cX5_read 121 = .ok (.goto 5, 3) := by decide +kernel
theorem dX5_read_124 : decode cX5_read 124 = .ok (.iconst 0, 1) := by decide +kernel
theorem dX5_read_125 : decode cX5_read 125 = .ok (.istore_n 3, 1) := by decide +kernel
theorem dX5_read_126 : decode cX5_read 126 = .ok (.iload_n 3, 1) := by decide +kernel
theorem dX5_read_127 : decode cX5_read 127 = .ok (.ifCond .ne 11, 3) := by decide +kernel
theorem dX5_read_130 : decode cX5_read 130 = .ok (.bipush (-10), 2) := by decide +kernel
theorem dX5_read_132 : decode cX5_read 132 = .ok (.aload_n 0, 1) := by decide +kernel
theorem dX5_read_133 : decode cX5_read 133 = .ok (.getfield 53, 3) := by decide +kernel
theorem dX5_read_136 : decode cX5_read 136 = .ok (.isub, 1) := by decide +kernel
theorem dX5_read_137 : decode cX5_read 137 = .ok (.ireturn, 1) := by decide +kernel
theorem dX5_read_138 : decode cX5_read 138 = .ok (.iinc 2 1, 3) := by decide +kernel
theorem dX5_read_141 : decode cX5_read 141 = .ok (.aload_n 0, 1) := by decide +kernel
theorem dX5_read_142 : decode cX5_read 142 = .ok (.invokevirtual 34, 3) := by decide +kernel
theorem dX5_read_145 : decode cX5_read 145 = .ok (.goto (-120), 3) := by decide +kernel
theorem dX5_read_148 : decode cX5_read 148 = .ok (.iload_n 2, 1) := by decide +kernel
theorem dX5_read_149 : decode cX5_read 149 = .ok (.ireturn, 1) := by decide +kernel
theorem dX5_readGood_0 : decode cX5_readGood 0 = .ok (.aload_n 1, 1) := by decide +kernel
theorem dX5_readGood_1 : decode cX5_readGood 1 = .ok (.getfield 56, 3) := by decide +kernel
theorem dX5_readGood_4 : decode cX5_readGood 4 = .ok (.bipush 6, 2) := by decide +kernel
theorem dX5_readGood_6 : decode cX5_readGood 6 = .ok (.if_icmp .ge 13, 3) := by decide +kernel
theorem dX5_readGood_9 : decode cX5_readGood 9 = .ok (.aload_n 0, 1) := by decide +kernel
theorem dX5_readGood_10 : decode cX5_readGood 10 = .ok (.iconst 0, 1) := by decide +kernel
theorem dX5_readGood_11 : decode cX5_readGood 11 = .ok (.bipush 20, 2) := by decide +kernel
theorem dX5_readGood_13 : decode cX5_readGood 13 = .ok (.invokevirtual 59, 3) := by decide +kernel
theorem dX5_readGood_16 : decode cX5_readGood 16 = .ok (.ifCond .ne 5, 3) := by decide +kernel
theorem dX5_readGood_19 : decode cX5_readGood 19 = .ok (.iconst 0, 1) := by decide +kernel
theorem dX5_readGood_20 : decode cX5_readGood 20 = .ok (.ireturn, 1) := by decide +kernel
theorem dX5_readGood_21 : decode cX5_readGood 21 = .ok (.aload_n 0, 1) := by decide +kernel
theorem dX5_readGood_22 : decode cX5_readGood 22 = .ok (.getfield 63, 3) := by decide +kernel
theorem dX5_readGood_25 : decode cX5_readGood 25 = .ok (.istore_n 2, 1) := by decide +kernel
theorem dX5_readGood_26 : decode cX5_readGood 26 = .ok (.aload_n 0, 1) := by decide +kernel
theorem dX5_readGood_27 : decode cX5_readGood 27 = .ok (.iconst 0, 1) := by decide +kernel
theorem dX5_readGood_28 : decode cX5_readGood 28 = .ok (.bipush 20, 2) := by decide +kernel
theorem dX5_readGood_30 : decode cX5_readGood 30 = .ok (.invokevirtual 59, 3) := by decide +kernel
theorem dX5_readGood_33 : decode cX5_readGood 33 = .ok (.ifCond .ne 5, 3) := by decide +kernel
theorem dX5_readGood_36 : decode cX5_readGood 36 = .ok (.iconst 0, 1) := by decide +kernel
theorem dX5_readGood_37 : decode cX5_readGood 37 = .ok (.ireturn, 1) := by decide +kernel
theorem dX5_readGood_38 : decode cX5_readGood 38 = .ok (.aload_n 1, 1) := by decide +kernel
theorem dX5_readGood_39 : decode cX5_readGood 39 = .ok (.iload_n 2, 1) := by decide +kernel
theorem dX5_readGood_40 : decode cX5_readGood 40 = .ok (.aload_n 0, 1) := by decide +kernel
theorem dX5_readGood_41 : decode cX5_readGood 41 = .ok (.getfield 63, 3) := by decide +kernel
theorem dX5_readGood_44 : decode cX5_readGood 44 = .ok (.invokevirtual 66, 3) := by decide +kernel
theorem dX5_readGood_47 : decode cX5_readGood 47 = .ok (.aload_n 0, 1) := by decide +kernel
theorem dX5_readGood_48 : decode cX5_readGood 48 = .ok (.invokevirtual 70, 3) := by decide +kernel
theorem dX5_readGood_51 : decode cX5_readGood 51 = .ok (.ireturn, 1) := by decide +kernel
theorem dX5_readPair_0 : decode cX5_readPair 0 = .ok (.aload_n 1, 1) := by decide +kernel
theorem dX5_readPair_1 : decode cX5_readPair 1 = .ok (.getfield 74, 3) := by decide +kernel
theorem dX5_readPair_4 : decode cX5_readPair 4 = .ok (.iconst 4, 1) := by decide +kernel
theorem dX5_readPair_5 : decode cX5_readPair 5 = .ok (.if_icmp .ge 17, 3) := by decide +kernel
theorem dX5_readPair_8 : decode cX5_readPair 8 = .ok (.aload_n 0, 1) := by decide +kernel
theorem dX5_readPair_9 : decode cX5_readPair 9 = .ok (.iconst 0, 1) := by decide +kernel
theorem dX5_readPair_10 : decode cX5_readPair 10 = .ok (.aload_n 1, 1) := by decide +kernel
theorem dX5_readPair_11 : decode cX5_readPair 11 = .ok (.getfield 56, 3) := by decide +kernel
theorem dX5_readPair_14 : decode cX5_readPair 14 = .ok (.iconst 1, 1) := by decide +kernel
theorem dX5_readPair_15 : decode cX5_readPair 15 = .ok (.isub, 1) := by decide +kernel
theorem dX5_readPair_16 : decode cX5_readPair 16 = .ok (.invokevirtual 59, 3) := by decide +kernel
theorem dX5_readPair_19 : decode cX5_readPair 19 = .ok (.ifCond .ne 5, 3) := by decide +kernel
theorem dX5_readPair_22 : decode cX5_readPair 22 = .ok (.iconst 0, 1) := by decide +kernel
theorem dX5_readPair_23 : decode cX5_readPair 23 = .ok (.ireturn, 1) := by decide +kernel
theorem dX5_readPair_24 : decode cX5_readPair 24 = .ok (.aload_n 0, 1) := by decide +kernel
theorem dX5_readPair_25 : decode cX5_readPair 25 = .ok (.getfield 63, 3) := by decide +kernel
theorem dX5_readPair_28 : decode cX5_readPair 28 = .ok (.istore_n 2, 1) := by decide +kernel
theorem dX5_readPair_29 : decode cX5_readPair 29 = .ok (.aload_n 0, 1) := by decide +kernel
theorem dX5_readPair_30 : decode cX5_readPair 30 = .ok (.iconst 0, 1) := by decide +kernel
theorem dX5_readPair_31 : decode cX5_readPair 31 = .ok (.aload_n 1, 1) := by decide +kernel
theorem dX5_readPair_32 : decode cX5_readPair 32 = .ok (.getfield 56, 3) := by decide +kernel
theorem dX5_readPair_35 : decode cX5_readPair 35 = .ok (.iconst 1, 1) := by decide +kernel
theorem dX5_readPair_36 : decode cX5_readPair 36 = .ok (.isub, 1) := by decide +kernel
theorem dX5_readPair_37 : decode cX5_readPair 37 = .ok (.invokevirtual 59, 3) := by decide +kernel
theorem dX5_readPair_40 : decode cX5_readPair 40 = .ok (.ifCond .eq 11, 3) := by decide +kernel
theorem dX5_readPair_43 : decode cX5_readPair 43 = .ok (.aload_n 0, 1) := by decide +kernel
theorem dX5_readPair_44 : decode cX5_readPair 44 = .ok (.getfield 63, 3) := by decide +kernel
theorem dX5_readPair_47 : decode cX5_readPair 47 = .ok (.iload_n 2, 1) := by decide +kernel
theorem dX5_readPair_48 : decode cX5_readPair 48 = .ok (.if_icmp .ne 5, 3) := by decide +kernel
theorem dX5_readPair_51 : decode cX5_readPair 51 = .ok (.iconst 0, 1) := by decide +kernel
theorem dX5_readPair_52 : decode cX5_readPair 52 = .ok (.ireturn, 1) := by decide +kernel
theorem dX5_readPair_53 : decode cX5_readPair 53 = .ok (.aload_n 0, 1) := by decide +kernel
theorem dX5_readPair_54 : decode cX5_readPair 54 = .ok (.getfield 63, 3) := by decide +kernel
theorem dX5_readPair_57 : decode cX5_readPair 57 = .ok (.istore_n 3, 1) := by decide +kernel
theorem dX5_readPair_58 : decode cX5_readPair 58 = .ok (.aload_n 0, 1) := by decide +kernel
theorem dX5_readPair_59 : decode cX5_readPair 59 = .ok (.iconst 0, 1) := by decide +kernel
theorem dX5_readPair_60 : decode cX5_readPair 60 = .ok (.bipush 20, 2) := by decide +kernel
theorem dX5_readPair_62 : decode cX5_readPair 62 = .ok (.invokevirtual 59, 3) := by decide +kernel
theorem dX5_readPair_65 : decode cX5_readPair 65 = .ok (.ifCond .ne 5, 3) := by decide +kernel
theorem dX5_readPair_68 : decode cX5_readPair 68 = .ok (.iconst 0, 1) := by decide +kernel
theorem dX5_readPair_69 : decode cX5_readPair 69 = .ok (.ireturn, 1) := by decide +kernel
theorem dX5_readPair_70 : decode cX5_readPair 70 = .ok (.aload_n 0, 1) := by decide +kernel
theorem dX5_readPair_71 : decode cX5_readPair 71 = .ok (.getfield 63, 3) := by decide +kernel
theorem dX5_readPair_74 : decode cX5_readPair 74 = .ok (.istore 4, 2) := by decide +kernel
theorem dX5_readPair_76 : decode cX5_readPair 76 = .ok (.aload_n 0, 1) := by decide +kernel
theorem dX5_readPair_77 : decode cX5_readPair 77 = .ok (.iconst 0, 1) := by decide +kernel
theorem dX5_readPair_78 : decode cX5_readPair 78 = .ok (.bipush 20, 2) := by decide +kernel
theorem dX5_readPair_80 : decode cX5_readPair 80 = .ok (.invokevirtual 59, 3) := by decide +kernel
theorem dX5_readPair_83 : decode cX5_readPair 83 = .ok (.ifCond .ne 5, 3) := by decide +kernel
theorem dX5_readPair_86 : decode cX5_readPair 86 = .ok (.iconst 0, 1) := by decide +kernel
theorem dX5_readPair_87 : decode cX5_readPair 87 = .ok (.ireturn, 1) := by decide +kernel
theorem dX5_readPair_88 : decode cX5_readPair 88 = .ok (.aload_n 1, 1) := by decide +kernel
theorem dX5_readPair_89 : decode cX5_readPair 89 = .ok (.iconst 1, 1) := by decide +kernel
theorem dX5_readPair_90 : decode cX5_readPair 90 = .ok (.iload_n 2, 1) := by decide +kernel
theorem dX5_readPair_91 : decode cX5_readPair 91 = .ok (.ishl, 1) := by decide +kernel
theorem dX5_readPair_92 : decode cX5_readPair 92 = .ok (.iconst 1, 1) := by decide +kernel
theorem dX5_readPair_93 : decode cX5_readPair 93 = .ok (.iload_n 3, 1) := by decide +kernel
theorem dX5_readPair_94 : decode cX5_readPair 94 = .ok (.ishl, 1) := by decide +kernel
theorem dX5_readPair_95 : decode cX5_readPair 95 = .ok (.ior, 1) := by decide +kernel
theorem dX5_readPair_96 : decode cX5_readPair 96 = .ok (.iload 4, 2) := by decide +kernel
theorem dX5_readPair_98 : decode cX5_readPair 98 = .ok (.aload_n 0, 1) := by decide +kernel
theorem dX5_readPair_99 : decode cX5_readPair 99 = .ok (.getfield 63, 3) := by decide +kernel
theorem dX5_readPair_102 : decode cX5_readPair 102 = .ok (.invokevirtual 77, 3) := by decide +kernel
theorem dX5_readPair_105 : decode cX5_readPair 105 = .ok (.aload_n 0, 1) := by decide +kernel
theorem dX5_readPair_106 : decode cX5_readPair 106 = .ok (.invokevirtual 70, 3) := by decide +kernel
theorem dX5_readPair_109 : decode cX5_readPair 109 = .ok (.ireturn, 1) := by decide +kernel
theorem dX5_readHops_0 : decode cX5_readHops 0 = .ok (.aload_n 0, 1) := by decide +kernel
theorem dX5_readHops_1 : decode cX5_readHops 1 = .ok (.getfield 27, 3) := by decide +kernel
theorem dX5_readHops_4 : decode cX5_readHops 4 = .ok (.ifCond .ne 12, 3) := by decide +kernel
theorem dX5_readHops_7 : decode cX5_readHops 7 = .ok (.aload_n 0, 1) := by decide +kernel
theorem dX5_readHops_8 : decode cX5_readHops 8 = .ok (.iconst 0, 1) := by decide +kernel
theorem dX5_readHops_9 : decode cX5_readHops 9 = .ok (.iconst 3, 1) := by decide +kernel
theorem dX5_readHops_10 : decode cX5_readHops 10 = .ok (.invokevirtual 59, 3) := by decide +kernel
theorem dX5_readHops_13 : decode cX5_readHops 13 = .ok (.ifCond .ne 5, 3) := by decide +kernel
theorem dX5_readHops_16 : decode cX5_readHops 16 = .ok (.iconst 0, 1) := by decide +kernel
theorem dX5_readHops_17 : decode cX5_readHops 17 = .ok (.ireturn, 1) := by decide +kernel
theorem dX5_readHops_18 : decode cX5_readHops 18 = .ok (.aload_n 0, 1) := by decide +kernel
theorem dX5_readHops_19 : decode cX5_readHops 19 = .ok (.iconst 1, 1) := by decide +kernel
theorem dX5_readHops_20 : decode cX5_readHops 20 = .ok (.putfield 27, 3) := by decide +kernel
theorem dX5_readHops_23 : decode cX5_readHops 23 = .ok (.aload_n 1, 1) := by decide +kernel
theorem dX5_readHops_24 : decode cX5_readHops 24 = .ok (.aload_n 0, 1) := by decide +kernel
theorem dX5_readHops_25 : decode cX5_readHops 25 = .ok (.getfield 63, 3) := by decide +kernel
theorem dX5_readHops_28 : decode cX5_readHops 28 = .ok (.putfield 81, 3) := by decide +kernel
theorem dX5_readHops_31 : decode cX5_readHops 31 = .ok (.aload_n 0, 1) := by decide +kernel
theorem dX5_readHops_32 : decode cX5_readHops 32 = .ok (.invokevirtual 70, 3) := by decide +kernel
theorem dX5_readHops_35 : decode cX5_readHops 35 = .ok (.ireturn, 1) := by decide +kernel
theorem dX5_readCells_0 : decode cX5_readCells 0 = .ok (.aload_n 0, 1) := by decide +kernel
theorem dX5_readCells_1 : decode cX5_readCells 1 = .ok (.getfield 31, 3) := by decide +kernel
theorem dX5_readCells_4 : decode cX5_readCells 4 = .ok (.ifCond .ne 13, 3) := by decide +kernel
theorem dX5_readCells_7 : decode cX5_readCells 7 = .ok (.aload_n 0, 1) := by decide +kernel
theorem dX5_readCells_8 : decode cX5_readCells 8 = .ok (.iconst 1, 1) := by decide +kernel
theorem dX5_readCells_9 : decode cX5_readCells 9 = .ok (.bipush 6, 2) := by decide +kernel
theorem dX5_readCells_11 : decode cX5_readCells 11 = .ok (.invokevirtual 59, 3) := by decide +kernel
theorem dX5_readCells_14 : decode cX5_readCells 14 = .ok (.ifCond .ne 5, 3) := by decide +kernel
theorem dX5_readCells_17 : decode cX5_readCells 17 = .ok (.iconst 0, 1) := by decide +kernel
theorem dX5_readCells_18 : decode cX5_readCells 18 = .ok (.ireturn, 1) := by decide +kernel
theorem dX5_readCells_19 : decode cX5_readCells 19 = .ok (.aload_n 0, 1) := by decide +kernel
theorem dX5_readCells_20 : decode cX5_readCells 20 = .ok (.iconst 1, 1) := by decide +kernel
theorem dX5_readCells_21 : decode cX5_readCells 21 = .ok (.putfield 31, 3) := by decide +kernel
theorem dX5_readCells_24 : decode cX5_readCells 24 = .ok (.aload_n 1, 1) := by decide +kernel
theorem dX5_readCells_25 : decode cX5_readCells 25 = .ok (.aload_n 0, 1) := by decide +kernel
theorem dX5_readCells_26 : decode cX5_readCells 26 = .ok (.getfield 63, 3) := by decide +kernel
theorem dX5_readCells_29 : decode cX5_readCells 29 = .ok (.putfield 84, 3) := by decide +kernel
theorem dX5_readCells_32 : decode cX5_readCells 32 = .ok (.aload_n 0, 1) := by decide +kernel
theorem dX5_readCells_33 : decode cX5_readCells 33 = .ok (.invokevirtual 70, 3) := by decide +kernel
theorem dX5_readCells_36 : decode cX5_readCells 36 = .ok (.ireturn, 1) := by decide +kernel
theorem dX5_nextNumber_0 : decode cX5_nextNumber 0 = .ok (.aload_n 0, 1) := by decide +kernel
theorem dX5_nextNumber_1 : decode cX5_nextNumber 1 = .ok (.invokevirtual 34, 3) := by decide +kernel
theorem dX5_nextNumber_4 : decode cX5_nextNumber 4 = .ok (.aload_n 0, 1) := by decide +kernel
theorem dX5_nextNumber_5 : decode cX5_nextNumber 5 = .ok (.getfield 37, 3) := by decide +kernel
theorem dX5_nextNumber_8 : decode cX5_nextNumber 8 = .ok (.sipush 256, 3) := by decide +kernel
theorem dX5_nextNumber_11 : decode cX5_nextNumber 11 = .ok (.if_icmp .ne 23, 3) := by decide +kernel
theorem dX5_nextNumber_14 : decode cX5_nextNumber 14 = .ok (.aload_n 0, 1) := by decide +kernel
theorem dX5_nextNumber_15 : decode cX5_nextNumber 15 = .ok (.getfield 63, 3) := by decide +kernel
theorem dX5_nextNumber_18 : decode cX5_nextNumber 18 = .ok (.iload_n 1, 1) := by decide +kernel
theorem dX5_nextNumber_19 : decode cX5_nextNumber 19 = .ok (.if_icmp .lt 15, 3) := by decide +kernel
theorem dX5_nextNumber_22 : decode cX5_nextNumber 22 = .ok (.aload_n 0, 1) := by decide +kernel
theorem dX5_nextNumber_23 : decode cX5_nextNumber 23 = .ok (.getfield 63, 3) := by decide +kernel
theorem dX5_nextNumber_26 : decode cX5_nextNumber 26 = .ok (.iload_n 2, 1) := by decide +kernel
theorem dX5_nextNumber_27 : decode cX5_nextNumber 27 = .ok (.if_icmp .gt 7, 3) := by decide +kernel
theorem dX5_nextNumber_30 : decode cX5_nextNumber 30 = .ok (.iconst 1, 1) := by decide +kernel
theorem dX5_nextNumber_31 : decode cX5_nextNumber 31 = .ok (.goto 4, 3) := by decide +kernel
theorem dX5_nextNumber_34 : decode cX5_nextNumber 34 = .ok (.iconst 0, 1) := by decide +kernel
theorem dX5_nextNumber_35 : decode cX5_nextNumber 35 = .ok (.ireturn, 1) := by decide +kernel
theorem dX5_nextEnds_0 : decode cX5_nextEnds 0 = .ok (.aload_n 0, 1) := by decide +kernel
theorem dX5_nextEnds_1 : decode cX5_nextEnds 1 = .ok (.invokevirtual 34, 3) := by decide +kernel
theorem dX5_nextEnds_4 : decode cX5_nextEnds 4 = .ok (.aload_n 0, 1) := by decide +kernel
theorem dX5_nextEnds_5 : decode cX5_nextEnds 5 = .ok (.getfield 37, 3) := by decide +kernel
theorem dX5_nextEnds_8 : decode cX5_nextEnds 8 = .ok (.bipush 59, 2) := by decide +kernel
theorem dX5_nextEnds_10 : decode cX5_nextEnds 10 = .ok (.if_icmp .ne 7, 3) := by decide +kernel
theorem dX5_nextEnds_13 : decode cX5_nextEnds 13 = .ok (.iconst 1, 1) := by decide +kernel
theorem dX5_nextEnds_14 : decode cX5_nextEnds 14 = .ok (.goto 4, 3) := by decide +kernel
theorem dX5_nextEnds_17 : decode cX5_nextEnds 17 = .ok (.iconst 0, 1) := by decide +kernel
theorem dX5_nextEnds_18 : decode cX5_nextEnds 18 = .ok (.ireturn, 1) := by decide +kernel
theorem dX5_letterAt_0 : decode cX5_letterAt 0 = .ok (.iload_n 1, 1) := by decide +kernel
theorem dX5_letterAt_1 : decode cX5_letterAt 1 = .ok (.ifCond .lt 27, 3) := by decide +kernel
theorem dX5_letterAt_4 : decode cX5_letterAt 4 = .ok (.iload_n 1, 1) := by decide +kernel
theorem dX5_letterAt_5 : decode cX5_letterAt 5 = .ok (.aload_n 0, 1) := by decide +kernel
theorem dX5_letterAt_6 : decode cX5_letterAt 6 = .ok (.getfield 15, 3) := by decide +kernel
theorem dX5_letterAt_9 : decode cX5_letterAt 9 = .ok (.if_icmp .ge 19, 3) := by decide +kernel
theorem dX5_letterAt_12 : decode cX5_letterAt 12 = .ok (.iload_n 1, 1) := by decide +kernel
theorem dX5_letterAt_13 : decode cX5_letterAt 13 = .ok (.sipush 200, 3) := by decide +kernel
theorem dX5_letterAt_16 : decode cX5_letterAt 16 = .ok (.if_icmp .ge 12, 3) := by decide +kernel
theorem dX5_letterAt_19 : decode cX5_letterAt 19 = .ok (.aload_n 0, 1) := by decide +kernel
theorem dX5_letterAt_20 : decode cX5_letterAt 20 = .ok (.getfield 9, 3) := by decide +kernel
theorem dX5_letterAt_23 : decode cX5_letterAt 23 = .ok (.iload_n 1, 1) := by decide +kernel
theorem dX5_letterAt_24 : decode cX5_letterAt 24 = .ok (.iaload, 1) := by decide +kernel
theorem dX5_letterAt_25 : decode cX5_letterAt 25 = .ok (.goto 6, 3) := by decide +kernel
theorem dX5_letterAt_28 : decode cX5_letterAt 28 = .ok (.sipush 258, 3) := by decide +kernel
theorem dX5_letterAt_31 : decode cX5_letterAt 31 = .ok (.ireturn, 1) := by decide +kernel
theorem dX5_nextToken_0 : decode cX5_nextToken 0 = .ok (.aload_n 0, 1) := by decide +kernel
theorem dX5_nextToken_1 : decode cX5_nextToken 1 = .ok (.getfield 24, 3) := by decide +kernel
theorem dX5_nextToken_4 : decode cX5_nextToken 4 = .ok (.aload_n 0, 1) := by decide +kernel
theorem dX5_nextToken_5 : decode cX5_nextToken 5 = .ok (.getfield 15, 3) := by decide +kernel
theorem dX5_nextToken_8 : decode cX5_nextToken 8 = .ok (.if_icmp .ge 29, 3) := by decide +kernel
theorem dX5_nextToken_11 : decode cX5_nextToken 11 = .ok (.aload_n 0, 1) := by decide +kernel
theorem dX5_nextToken_12 : decode cX5_nextToken 12 = .ok (.aload_n 0, 1) := by decide +kernel
theorem dX5_nextToken_13 : decode cX5_nextToken 13 = .ok (.getfield 24, 3) := by decide +kernel
theorem dX5_nextToken_16 : decode cX5_nextToken 16 = .ok (.invokevirtual 87, 3) := by decide +kernel
theorem dX5_nextToken_19 : decode cX5_nextToken 19 = .ok (.bipush 32, 2) := by decide +kernel
theorem dX5_nextToken_21 : decode cX5_nextToken 21 = .ok (.if_icmp .ne 16, 3) := by decide +kernel
theorem dX5_nextToken_24 : decode cX5_nextToken 24 = .ok (.aload_n 0, 1) := by decide +kernel
theorem dX5_nextToken_25 : decode cX5_nextToken 25 = .ok (.dup, 1) := by decide +kernel
theorem dX5_nextToken_26 : decode cX5_nextToken 26 = .ok (.getfield 24, 3) := by decide +kernel
theorem dX5_nextToken_29 : decode cX5_nextToken 29 = .ok (.iconst 1, 1) := by decide +kernel
theorem dX5_nextToken_30 : decode cX5_nextToken 30 = .ok (.iadd, 1) := by decide +kernel
theorem dX5_nextToken_31 : decode cX5_nextToken 31 = .ok (.putfield 24, 3) := by decide +kernel
theorem dX5_nextToken_34 : decode cX5_nextToken 34 = .ok (.goto (-34), 3) := by decide +kernel
theorem dX5_nextToken_37 : decode cX5_nextToken 37 = .ok (.aload_n 0, 1) := by decide +kernel
theorem dX5_nextToken_38 : decode cX5_nextToken 38 = .ok (.aload_n 0, 1) := by decide +kernel
theorem dX5_nextToken_39 : decode cX5_nextToken 39 = .ok (.getfield 24, 3) := by decide +kernel
theorem dX5_nextToken_42 : decode cX5_nextToken 42 = .ok (.putfield 53, 3) := by decide +kernel
theorem dX5_nextToken_45 : decode cX5_nextToken 45 = .ok (.aload_n 0, 1) := by decide +kernel
theorem dX5_nextToken_46 : decode cX5_nextToken 46 = .ok (.aload_n 0, 1) := by decide +kernel
theorem dX5_nextToken_47 : decode cX5_nextToken 47 = .ok (.aload_n 0, 1) := by decide +kernel
theorem dX5_nextToken_48 : decode cX5_nextToken 48 = .ok (.getfield 24, 3) := by decide +kernel
theorem dX5_nextToken_51 : decode cX5_nextToken 51 = .ok (.invokevirtual 87, 3) := by decide +kernel
theorem dX5_nextToken_54 : decode cX5_nextToken 54 = .ok (.putfield 37, 3) := by decide +kernel
theorem dX5_nextToken_57 : decode cX5_nextToken 57 = .ok (.aload_n 0, 1) := by decide +kernel
theorem dX5_nextToken_58 : decode cX5_nextToken 58 = .ok (.getfield 37, 3) := by decide +kernel
theorem dX5_nextToken_61 : decode cX5_nextToken 61 = .ok (.invokestatic 91, 3) := by decide +kernel
theorem dX5_nextToken_64 : decode cX5_nextToken 64 = .ok (.ifCond .eq 10, 3) := by decide +kernel
theorem dX5_nextToken_67 : decode cX5_nextToken 67 = .ok (.aload_n 0, 1) := by decide +kernel
theorem dX5_nextToken_68 : decode cX5_nextToken 68 = .ok (.invokevirtual 95, 3) := by decide +kernel
theorem dX5_nextToken_71 : decode cX5_nextToken 71 = .ok (.goto 24, 3) := by decide +kernel
theorem dX5_nextToken_74 : decode cX5_nextToken 74 = .ok (.aload_n 0, 1) := by decide +kernel
theorem dX5_nextToken_75 : decode cX5_nextToken 75 = .ok (.getfield 24, 3) := by decide +kernel
theorem dX5_nextToken_78 : decode cX5_nextToken 78 = .ok (.aload_n 0, 1) := by decide +kernel
theorem dX5_nextToken_79 : decode cX5_nextToken 79 = .ok (.getfield 15, 3) := by decide +kernel
theorem dX5_nextToken_82 : decode cX5_nextToken 82 = .ok (.if_icmp .ge 13, 3) := by decide +kernel
theorem dX5_nextToken_85 : decode cX5_nextToken 85 = .ok (.aload_n 0, 1) := by decide +kernel
theorem dX5_nextToken_86 : decode cX5_nextToken 86 = .ok (.dup, 1) := by decide +kernel
theorem dX5_nextToken_87 : decode cX5_nextToken 87 = .ok (.getfield 24, 3) := by decide +kernel
theorem dX5_nextToken_90 : decode cX5_nextToken 90 = .ok (.iconst 1, 1) := by decide +kernel
theorem dX5_nextToken_91 : decode cX5_nextToken 91 = .ok (.iadd, 1) := by decide +kernel
theorem dX5_nextToken_92 : decode cX5_nextToken 92 = .ok (.putfield 24, 3) := by decide +kernel
theorem dX5_nextToken_95 : decode cX5_nextToken 95 = .ok (.return_, 1) := by decide +kernel
theorem dX5_takeNumber_0 : decode cX5_takeNumber 0 = .ok (.aload_n 0, 1) := by decide +kernel
theorem dX5_takeNumber_1 : decode cX5_takeNumber 1 = .ok (.iconst 0, 1) := by decide +kernel
theorem dX5_takeNumber_2 : decode cX5_takeNumber 2 = .ok (.putfield 63, 3) := by decide +kernel
theorem dX5_takeNumber_5 : decode cX5_takeNumber 5 = .ok (.aload_n 0, 1) := by decide +kernel
theorem dX5_takeNumber_6 : decode cX5_takeNumber 6 = .ok (.getfield 24, 3) := by decide +kernel
theorem dX5_takeNumber_9 : decode cX5_takeNumber 9 = .ok (.aload_n 0, 1) := by decide +kernel
theorem dX5_takeNumber_10 : decode cX5_takeNumber 10 = .ok (.getfield 15, 3) := by decide +kernel
theorem dX5_takeNumber_13 : decode cX5_takeNumber 13 = .ok (.if_icmp .ge 58, 3) := by decide +kernel
theorem dX5_takeNumber_16 : decode cX5_takeNumber 16 = .ok (.aload_n 0, 1) := by decide +kernel
theorem dX5_takeNumber_17 : decode cX5_takeNumber 17 = .ok (.aload_n 0, 1) := by decide +kernel
theorem dX5_takeNumber_18 : decode cX5_takeNumber 18 = .ok (.getfield 24, 3) := by decide +kernel
theorem dX5_takeNumber_21 : decode cX5_takeNumber 21 = .ok (.invokevirtual 87, 3) := by decide +kernel
theorem dX5_takeNumber_24 : decode cX5_takeNumber 24 = .ok (.invokestatic 91, 3) := by decide +kernel
theorem dX5_takeNumber_27 : decode cX5_takeNumber 27 = .ok (.ifCond .eq 44, 3) := by decide +kernel
theorem dX5_takeNumber_30 : decode cX5_takeNumber 30 = .ok (.aload_n 0, 1) := by decide +kernel
theorem dX5_takeNumber_31 : decode cX5_takeNumber 31 = .ok (.bipush 10, 2) := by decide +kernel
theorem dX5_takeNumber_33 : decode cX5_takeNumber 33 = .ok (.aload_n 0, 1) := by decide +kernel
theorem dX5_takeNumber_34 : decode cX5_takeNumber 34 = .ok (.getfield 63, 3) := by decide +kernel
theorem dX5_takeNumber_37 : decode cX5_takeNumber 37 = .ok (.imul, 1) := by decide +kernel
theorem dX5_takeNumber_38 : decode cX5_takeNumber 38 = .ok (.aload_n 0, 1) := by decide +kernel
theorem dX5_takeNumber_39 : decode cX5_takeNumber 39 = .ok (.aload_n 0, 1) := by decide +kernel
theorem dX5_takeNumber_40 : decode cX5_takeNumber 40 = .ok (.getfield 24, 3) := by decide +kernel
theorem dX5_takeNumber_43 : decode cX5_takeNumber 43 = .ok (.invokevirtual 87, 3) := by decide +kernel
theorem dX5_takeNumber_46 : decode cX5_takeNumber 46 = .ok (.iadd, 1) := by decide +kernel
theorem dX5_takeNumber_47 : decode cX5_takeNumber 47 = .ok (.bipush 48, 2) := by decide +kernel
theorem dX5_takeNumber_49 : decode cX5_takeNumber 49 = .ok (.isub, 1) := by decide +kernel
theorem dX5_takeNumber_50 : decode cX5_takeNumber 50 = .ok (.bipush 21, 2) := by decide +kernel
theorem dX5_takeNumber_52 : decode cX5_takeNumber 52 = .ok (.invokestatic 98, 3) := by decide +kernel
theorem dX5_takeNumber_55 : decode cX5_takeNumber 55 = .ok (.putfield 63, 3) := by decide +kernel
theorem dX5_takeNumber_58 : decode cX5_takeNumber 58 = .ok (.aload_n 0, 1) := by decide +kernel
theorem dX5_takeNumber_59 : decode cX5_takeNumber 59 = .ok (.dup, 1) := by decide +kernel
theorem dX5_takeNumber_60 : decode cX5_takeNumber 60 = .ok (.getfield 24, 3) := by decide +kernel
theorem dX5_takeNumber_63 : decode cX5_takeNumber 63 = .ok (.iconst 1, 1) := by decide +kernel
theorem dX5_takeNumber_64 : decode cX5_takeNumber 64 = .ok (.iadd, 1) := by decide +kernel
theorem dX5_takeNumber_65 : decode cX5_takeNumber 65 = .ok (.putfield 24, 3) := by decide +kernel
theorem dX5_takeNumber_68 : decode cX5_takeNumber 68 = .ok (.goto (-63), 3) := by decide +kernel
theorem dX5_takeNumber_71 : decode cX5_takeNumber 71 = .ok (.aload_n 0, 1) := by decide +kernel
theorem dX5_takeNumber_72 : decode cX5_takeNumber 72 = .ok (.getfield 24, 3) := by decide +kernel
theorem dX5_takeNumber_75 : decode cX5_takeNumber 75 = .ok (.aload_n 0, 1) := by decide +kernel
theorem dX5_takeNumber_76 : decode cX5_takeNumber 76 = .ok (.getfield 53, 3) := by decide +kernel
theorem dX5_takeNumber_79 : decode cX5_takeNumber 79 = .ok (.isub, 1) := by decide +kernel
theorem dX5_takeNumber_80 : decode cX5_takeNumber 80 = .ok (.iconst 1, 1) := by decide +kernel
theorem dX5_takeNumber_81 : decode cX5_takeNumber 81 = .ok (.if_icmp .le 20, 3) := by decide +kernel
theorem dX5_takeNumber_84 : decode cX5_takeNumber 84 = .ok (.aload_n 0, 1) := by decide +kernel
theorem dX5_takeNumber_85 : decode cX5_takeNumber 85 = .ok (.aload_n 0, 1) := by decide +kernel
theorem dX5_takeNumber_86 : decode cX5_takeNumber 86 = .ok (.getfield 53, 3) := by decide +kernel
theorem dX5_takeNumber_89 : decode cX5_takeNumber 89 = .ok (.invokevirtual 87, 3) := by decide +kernel
theorem dX5_takeNumber_92 : decode cX5_takeNumber 92 = .ok (.bipush 48, 2) := by decide +kernel
theorem dX5_takeNumber_94 : decode cX5_takeNumber 94 = .ok (.if_icmp .ne 7, 3) := by decide +kernel
theorem dX5_takeNumber_97 : decode cX5_takeNumber 97 = .ok (.iconst 1, 1) := by decide +kernel
theorem dX5_takeNumber_98 : decode cX5_takeNumber 98 = .ok (.goto 4, 3) := by decide +kernel
theorem dX5_takeNumber_101 : decode cX5_takeNumber 101 = .ok (.iconst 0, 1) := by decide +kernel
theorem dX5_takeNumber_102 : decode cX5_takeNumber 102 = .ok (.istore_n 1, 1) := by decide +kernel
theorem dX5_takeNumber_103 : decode cX5_takeNumber 103 = .ok (.aload_n 0, 1) := by decide +kernel
theorem dX5_takeNumber_104 : decode cX5_takeNumber 104 = .ok (.iload_n 1, 1) := by decide +kernel
theorem dX5_takeNumber_105 : decode cX5_takeNumber 105 = .ok (.ifCond .ne 12, 3) := by decide +kernel
theorem dX5_takeNumber_108 : decode cX5_takeNumber 108 = .ok (.aload_n 0, 1) := by decide +kernel
theorem dX5_takeNumber_109 : decode cX5_takeNumber 109 = .ok (.getfield 63, 3) := by decide +kernel
theorem dX5_takeNumber_112 : decode cX5_takeNumber 112 = .ok (.bipush 20, 2) := by decide +kernel
theorem dX5_takeNumber_114 : decode cX5_takeNumber 114 = .ok (.if_icmp .le 9, 3) := by decide +kernel
theorem dX5_takeNumber_117 : decode cX5_takeNumber 117 = .ok (.sipush 257, 3) := by decide +kernel
theorem dX5_takeNumber_120 : decode cX5_takeNumber 120 = .ok (.goto 6, 3) := by decide +kernel
theorem dX5_takeNumber_123 : decode cX5_takeNumber 123 = .ok (.sipush 256, 3) := by decide +kernel
theorem dX5_takeNumber_126 : decode cX5_takeNumber 126 = .ok (.putfield 37, 3) := by decide +kernel
theorem dX5_takeNumber_129 : decode cX5_takeNumber 129 = .ok (.return_, 1) := by decide +kernel
theorem dX5_isDigit_0 : decode cX5_isDigit 0 = .ok (.iload_n 0, 1) := by decide +kernel
theorem dX5_isDigit_1 : decode cX5_isDigit 1 = .ok (.bipush 48, 2) := by decide +kernel
theorem dX5_isDigit_3 : decode cX5_isDigit 3 = .ok (.if_icmp .lt 13, 3) := by decide +kernel
theorem dX5_isDigit_6 : decode cX5_isDigit 6 = .ok (.iload_n 0, 1) := by decide +kernel
theorem dX5_isDigit_7 : decode cX5_isDigit 7 = .ok (.bipush 57, 2) := by decide +kernel
theorem dX5_isDigit_9 : decode cX5_isDigit 9 = .ok (.if_icmp .gt 7, 3) := by decide +kernel
theorem dX5_isDigit_12 : decode cX5_isDigit 12 = .ok (.iconst 1, 1) := by decide +kernel
theorem dX5_isDigit_13 : decode cX5_isDigit 13 = .ok (.goto 4, 3) := by decide +kernel
theorem dX5_isDigit_16 : decode cX5_isDigit 16 = .ok (.iconst 0, 1) := by decide +kernel
theorem dX5_isDigit_17 : decode cX5_isDigit 17 = .ok (.ireturn, 1) := by decide +kernel
theorem dX6_init_0 : decode cX6_init 0 = .ok (.aload_n 0, 1) := by decide +kernel
theorem dX6_init_1 : decode cX6_init 1 = .ok (.invokespecial 3, 3) := by decide +kernel
theorem dX6_init_4 : decode cX6_init 4 = .ok (.aload_n 0, 1) := by decide +kernel
theorem dX6_init_5 : decode cX6_init 5 = .ok (.bipush 12, 2) := by decide +kernel
theorem dX6_init_7 : decode cX6_init 7 = .ok (.newarray .int, 2) := by decide +kernel
theorem dX6_init_9 : decode cX6_init 9 = .ok (.putfield 9, 3) := by decide +kernel
theorem dX6_init_12 : decode cX6_init 12 = .ok (.aload_n 0, 1) := by decide +kernel
theorem dX6_init_13 : decode cX6_init 13 = .ok (.iconst 4, 1) := by decide +kernel
theorem dX6_init_14 : decode cX6_init 14 = .ok (.newarray .int, 2) := by decide +kernel
theorem dX6_init_16 : decode cX6_init 16 = .ok (.putfield 15, 3) := by decide +kernel
theorem dX6_init_19 : decode cX6_init 19 = .ok (.aload_n 0, 1) := by decide +kernel
theorem dX6_init_20 : decode cX6_init 20 = .ok (.bipush 8, 2) := by decide +kernel
theorem dX6_init_22 : decode cX6_init 22 = .ok (.newarray .int, 2) := by decide +kernel
theorem dX6_init_24 : decode cX6_init 24 = .ok (.putfield 18, 3) := by decide +kernel
theorem dX6_init_27 : decode cX6_init 27 = .ok (.aload_n 0, 1) := by decide +kernel
theorem dX6_init_28 : decode cX6_init 28 = .ok (.sipush 128, 3) := by decide +kernel
theorem dX6_init_31 : decode cX6_init 31 = .ok (.newarray .int, 2) := by decide +kernel
theorem dX6_init_33 : decode cX6_init 33 = .ok (.putfield 21, 3) := by decide +kernel
theorem dX6_init_36 : decode cX6_init 36 = .ok (.aload_n 0, 1) := by decide +kernel
theorem dX6_init_37 : decode cX6_init 37 = .ok (.invokevirtual 24, 3) := by decide +kernel
theorem dX6_init_40 : decode cX6_init 40 = .ok (.return_, 1) := by decide +kernel
theorem dX6_begin_0 : decode cX6_begin 0 = .ok (.aload_n 0, 1) := by decide +kernel
theorem dX6_begin_1 : decode cX6_begin 1 = .ok (.iconst 0, 1) := by decide +kernel
theorem dX6_begin_2 : decode cX6_begin 2 = .ok (.putfield 27, 3) := by decide +kernel
theorem dX6_begin_5 : decode cX6_begin 5 = .ok (.aload_n 0, 1) := by decide +kernel
theorem dX6_begin_6 : decode cX6_begin 6 = .ok (.iconst 0, 1) := by decide +kernel
theorem dX6_begin_7 : decode cX6_begin 7 = .ok (.putfield 31, 3) := by decide +kernel
theorem dX6_begin_10 : decode cX6_begin 10 = .ok (.aload_n 0, 1) := by decide +kernel
theorem dX6_begin_11 : decode cX6_begin 11 = .ok (.iconst 1, 1) := by decide +kernel
theorem dX6_begin_12 : decode cX6_begin 12 = .ok (.putfield 34, 3) := by decide +kernel
theorem dX6_begin_15 : decode cX6_begin 15 = .ok (.aload_n 0, 1) := by decide +kernel
theorem dX6_begin_16 : decode cX6_begin 16 = .ok (.bipush 6, 2) := by decide +kernel
theorem dX6_begin_18 : decode cX6_begin 18 = .ok (.putfield 37, 3) := by decide +kernel
theorem dX6_begin_21 : decode cX6_begin 21 = .ok (.return_, 1) := by decide +kernel
theorem dX6_addGood_0 : decode cX6_addGood 0 = .ok (.aload_n 0, 1) := by decide +kernel
theorem dX6_addGood_1 : decode cX6_addGood 1 = .ok (.getfield 27, 3) := by decide +kernel
theorem dX6_addGood_4 : decode cX6_addGood 4 = .ok (.ifCond .lt 12, 3) := by decide +kernel
theorem dX6_addGood_7 : decode cX6_addGood 7 = .ok (.aload_n 0, 1) := by decide +kernel
theorem dX6_addGood_8 : decode cX6_addGood 8 = .ok (.getfield 27, 3) := by decide +kernel
theorem dX6_addGood_11 : decode cX6_addGood 11 = .ok (.bipush 6, 2) := by decide +kernel
theorem dX6_addGood_13 : decode cX6_addGood 13 = .ok (.if_icmp .lt 4, 3) := by decide +kernel
theorem dX6_addGood_16 : decode cX6_addGood 16 = .ok (.return_, 1) := by decide +kernel
theorem dX6_addGood_17 : decode cX6_addGood 17 = .ok (.aload_n 0, 1) := by decide +kernel
theorem dX6_addGood_18 : decode cX6_addGood 18 = .ok (.getfield 9, 3) := by decide +kernel
theorem dX6_addGood_21 : decode cX6_addGood 21 = .ok (.aload_n 0, 1) := by decide +kernel
theorem dX6_addGood_22 : decode cX6_addGood 22 = .ok (.getfield 27, 3) := by decide +kernel
theorem dX6_addGood_25 : decode cX6_addGood 25 = .ok (.iload_n 1, 1) := by decide +kernel
theorem dX6_addGood_26 : decode cX6_addGood 26 = .ok (.iastore, 1) := by decide +kernel
theorem dX6_addGood_27 : decode cX6_addGood 27 = .ok (.aload_n 0, 1) := by decide +kernel
theorem dX6_addGood_28 : decode cX6_addGood 28 = .ok (.getfield 9, 3) := by decide +kernel
theorem dX6_addGood_31 : decode cX6_addGood 31 = .ok (.bipush 6, 2) := by decide +kernel
theorem dX6_addGood_33 : decode cX6_addGood 33 = .ok (.aload_n 0, 1) := by decide +kernel
theorem dX6_addGood_34 : decode cX6_addGood 34 = .ok (.getfield 27, 3) := by decide +kernel
theorem dX6_addGood_37 : decode cX6_addGood 37 = .ok (.iadd, 1) := by decide +kernel
theorem dX6_addGood_38 : decode cX6_addGood 38 = .ok (.iload_n 2, 1) := by decide +kernel
theorem dX6_addGood_39 : decode cX6_addGood 39 = .ok (.iastore, 1) := by decide +kernel
theorem dX6_addGood_40 : decode cX6_addGood 40 = .ok (.aload_n 0, 1) := by decide +kernel
theorem dX6_addGood_41 : decode cX6_addGood 41 = .ok (.dup, 1) := by decide +kernel
theorem dX6_addGood_42 : decode cX6_addGood 42 = .ok (.getfield 27, 3) := by decide +kernel
theorem dX6_addGood_45 : decode cX6_addGood 45 = .ok (.iconst 1, 1) := by decide +kernel
theorem dX6_addGood_46 : decode cX6_addGood 46 = .ok (.iadd, 1) := by decide +kernel
theorem dX6_addGood_47 : decode cX6_addGood 47 = .ok (.putfield 27, 3) := by decide +kernel
theorem dX6_addGood_50 : decode cX6_addGood 50 = .ok (.return_, 1) := by decide +kernel
theorem dX6_addPair_0 : decode cX6_addPair 0 = .ok (.aload_n 0, 1) := by decide +kernel
theorem dX6_addPair_1 : decode cX6_addPair 1 = .ok (.getfield 31, 3) := by decide +kernel
theorem dX6_addPair_4 : decode cX6_addPair 4 = .ok (.ifCond .lt 11, 3) := by decide +kernel
theorem dX6_addPair_7 : decode cX6_addPair 7 = .ok (.aload_n 0, 1) := by decide +kernel
theorem dX6_addPair_8 : decode cX6_addPair 8 = .ok (.getfield 31, 3) := by decide +kernel
theorem dX6_addPair_11 : decode cX6_addPair 11 = .ok (.iconst 4, 1) := by decide +kernel
theorem dX6_addPair_12 : decode cX6_addPair 12 = .ok (.if_icmp .lt 4, 3) := by decide +kernel
theorem dX6_addPair_15 : decode cX6_addPair 15 = .ok (.return_, 1) := by decide +kernel
theorem dX6_addPair_16 : decode cX6_addPair 16 = .ok (.aload_n 0, 1) := by decide +kernel
theorem dX6_addPair_17 : decode cX6_addPair 17 = .ok (.getfield 15, 3) := by decide +kernel
theorem dX6_addPair_20 : decode cX6_addPair 20 = .ok (.aload_n 0, 1) := by decide +kernel
theorem dX6_addPair_21 : decode cX6_addPair 21 = .ok (.getfield 31, 3) := by decide +kernel
theorem dX6_addPair_24 : decode cX6_addPair 24 = .ok (.iload_n 1, 1) := by decide +kernel
theorem dX6_addPair_25 : decode cX6_addPair 25 = .ok (.iastore, 1) := by decide +kernel
theorem dX6_addPair_26 : decode cX6_addPair 26 = .ok (.aload_n 0, 1) := by decide +kernel
theorem dX6_addPair_27 : decode cX6_addPair 27 = .ok (.getfield 18, 3) := by decide +kernel
theorem dX6_addPair_30 : decode cX6_addPair 30 = .ok (.aload_n 0, 1) := by decide +kernel
theorem dX6_addPair_31 : decode cX6_addPair 31 = .ok (.getfield 31, 3) := by decide +kernel
theorem dX6_addPair_34 : decode cX6_addPair 34 = .ok (.iload_n 2, 1) := by decide +kernel
theorem dX6_addPair_35 : decode cX6_addPair 35 = .ok (.iastore, 1) := by decide +kernel
theorem dX6_addPair_36 : decode cX6_addPair 36 = .ok (.aload_n 0, 1) := by decide +kernel
theorem dX6_addPair_37 : decode cX6_addPair 37 = .ok (.getfield 18, 3) := by decide +kernel
theorem dX6_addPair_40 : decode cX6_addPair 40 = .ok (.iconst 4, 1) := by decide +kernel
theorem dX6_addPair_41 : decode cX6_addPair 41 = .ok (.aload_n 0, 1) := by decide +kernel
theorem dX6_addPair_42 : decode cX6_addPair 42 = .ok (.getfield 31, 3) := by decide +kernel
theorem dX6_addPair_45 : decode cX6_addPair 45 = .ok (.iadd, 1) := by decide +kernel
theorem dX6_addPair_46 : decode cX6_addPair 46 = .ok (.iload_n 3, 1) := by decide +kernel
theorem dX6_addPair_47 : decode cX6_addPair 47 = .ok (.iastore, 1) := by decide +kernel
theorem dX6_addPair_48 : decode cX6_addPair 48 = .ok (.aload_n 0, 1) := by decide +kernel
theorem dX6_addPair_49 : decode cX6_addPair 49 = .ok (.dup, 1) := by decide +kernel
theorem dX6_addPair_50 : decode cX6_addPair 50 = .ok (.getfield 31, 3) := by decide +kernel
theorem dX6_addPair_53 : decode cX6_addPair 53 = .ok (.iconst 1, 1) := by decide +kernel
theorem dX6_addPair_54 : decode cX6_addPair 54 = .ok (.iadd, 1) := by decide +kernel
theorem dX6_addPair_55 : decode cX6_addPair 55 = .ok (.putfield 31, 3) := by decide +kernel
theorem dX6_addPair_58 : decode cX6_addPair 58 = .ok (.return_, 1) := by decide +kernel
theorem dX6_weigh_0 : decode cX6_weigh 0 = .ok (.iconst 0, 1) := by decide +kernel
theorem dX6_weigh_1 : decode cX6_weigh 1 = .ok (.istore_n 1, 1) := by decide +kernel
theorem dX6_weigh_2 : decode cX6_weigh 2 = .ok (.iload_n 1, 1) := by decide +kernel
theorem dX6_weigh_3 : decode cX6_weigh 3 = .ok (.iconst 2, 1) := by decide +kernel
theorem dX6_weigh_4 : decode cX6_weigh 4 = .ok (.if_icmp .ge 55, 3) := by decide +kernel
theorem dX6_weigh_7 : decode cX6_weigh 7 = .ok (.iconst 0, 1) := by decide +kernel
theorem dX6_weigh_8 : decode cX6_weigh 8 = .ok (.istore_n 2, 1) := by decide +kernel
theorem dX6_weigh_9 : decode cX6_weigh 9 = .ok (.iload_n 2, 1) := by decide +kernel
theorem dX6_weigh_10 : decode cX6_weigh 10 = .ok (.aload_n 0, 1) := by decide +kernel
theorem dX6_weigh_11 : decode cX6_weigh 11 = .ok (.invokevirtual 40, 3) := by decide +kernel
theorem dX6_weigh_14 : decode cX6_weigh 14 = .ok (.if_icmp .gt 39, 3) := by decide +kernel
theorem dX6_weigh_17 : decode cX6_weigh 17 = .ok (.iload_n 2, 1) := by decide +kernel
theorem dX6_weigh_18 : decode cX6_weigh 18 = .ok (.bipush 64, 2) := by decide +kernel
theorem dX6_weigh_20 : decode cX6_weigh 20 = .ok (.if_icmp .ge 33, 3) := by decide +kernel
theorem dX6_weigh_23 : decode cX6_weigh 23 = .ok (.aload_n 0, 1) := by decide +kernel
theorem dX6_weigh_24 : decode cX6_weigh 24 = .ok (.getfield 21, 3) := by decide +kernel
theorem dX6_weigh_27 : decode cX6_weigh 27 = .ok (.iload_n 1, 1) := by decide +kernel
theorem dX6_weigh_28 : decode cX6_weigh 28 = .ok (.bipush 64, 2) := by decide +kernel
theorem dX6_weigh_30 : decode cX6_weigh 30 = .ok (.imul, 1) := by decide +kernel
theorem dX6_weigh_31 : decode cX6_weigh 31 = .ok (.iload_n 2, 1) := by decide +kernel
theorem dX6_weigh_32 : decode cX6_weigh 32 = .ok (.iadd, 1) := by decide +kernel
theorem dX6_weigh_33 : decode cX6_weigh 33 = .ok (.aload_n 0, 1) := by decide +kernel
theorem dX6_weigh_34 : decode cX6_weigh 34 = .ok (.iload_n 1, 1) := by decide +kernel
theorem dX6_weigh_35 : decode cX6_weigh 35 = .ok (.iload_n 2, 1) := by decide +kernel
theorem dX6_weigh_36 : decode cX6_weigh 36 = .ok (.invokevirtual 44, 3) := by decide +kernel
theorem dX6_weigh_39 : decode cX6_weigh 39 = .ok (.aload_n 0, 1) := by decide +kernel
theorem dX6_weigh_40 : decode cX6_weigh 40 = .ok (.iload_n 1, 1) := by decide +kernel
theorem dX6_weigh_41 : decode cX6_weigh 41 = .ok (.iload_n 2, 1) := by decide +kernel
theorem dX6_weigh_42 : decode cX6_weigh 42 = .ok (.invokevirtual 48, 3) := by decide +kernel
theorem dX6_weigh_45 : decode cX6_weigh 45 = .ok (.iadd, 1) := by decide +kernel
theorem dX6_weigh_46 : decode cX6_weigh 46 = .ok (.iastore, 1) := by decide +kernel
theorem dX6_weigh_47 : decode cX6_weigh 47 = .ok (.iinc 2 1, 3) := by decide +kernel
theorem dX6_weigh_50 : decode cX6_weigh 50 = .ok (.goto (-41), 3) := by decide +kernel
theorem dX6_weigh_53 : decode cX6_weigh 53 = .ok (.iinc 1 1, 3) := by decide +kernel
theorem dX6_weigh_56 : decode cX6_weigh 56 = .ok (.goto (-54), 3) := by decide +kernel
theorem dX6_weigh_59 : decode cX6_weigh 59 = .ok (.return_, 1) := by decide +kernel
theorem dX6_all_0 : decode cX6_all 0 = .ok (.iconst 1, 1) := by decide +kernel
theorem dX6_all_1 : decode cX6_all 1 = .ok (.aload_n 0, 1) := by decide +kernel
theorem dX6_all_2 : decode cX6_all 2 = .ok (.getfield 27, 3) := by decide +kernel
theorem dX6_all_5 : decode cX6_all 5 = .ok (.ishl, 1) := by decide +kernel
theorem dX6_all_6 : decode cX6_all 6 = .ok (.iconst 1, 1) := by decide +kernel
theorem dX6_all_7 : decode cX6_all 7 = .ok (.isub, 1) := by decide +kernel
theorem dX6_all_8 : decode cX6_all 8 = .ok (.ireturn, 1) := by decide +kernel
theorem dX6_worthOf_0 : decode cX6_worthOf 0 = .ok (.iload_n 1, 1) := by decide +kernel
theorem dX6_worthOf_1 : decode cX6_worthOf 1 = .ok (.invokestatic 51, 3) := by decide +kernel
theorem dX6_worthOf_4 : decode cX6_worthOf 4 = .ok (.ifCond .eq 27, 3) := by decide +kernel
theorem dX6_worthOf_7 : decode cX6_worthOf 7 = .ok (.iload_n 2, 1) := by decide +kernel
theorem dX6_worthOf_8 : decode cX6_worthOf 8 = .ok (.ifCond .lt 23, 3) := by decide +kernel
theorem dX6_worthOf_11 : decode cX6_worthOf 11 = .ok (.iload_n 2, 1) := by decide +kernel
theorem dX6_worthOf_12 : decode cX6_worthOf 12 = .ok (.bipush 6, 2) := by decide +kernel
theorem dX6_worthOf_14 : decode cX6_worthOf 14 = .ok (.if_icmp .ge 17, 3) := by decide +kernel
theorem dX6_worthOf_17 : decode cX6_worthOf 17 = .ok (.aload_n 0, 1) := by decide +kernel
theorem dX6_worthOf_18 : decode cX6_worthOf 18 = .ok (.getfield 9, 3) := by decide +kernel
theorem dX6_worthOf_21 : decode cX6_worthOf 21 = .ok (.iload_n 1, 1) := by decide +kernel
theorem dX6_worthOf_22 : decode cX6_worthOf 22 = .ok (.bipush 6, 2) := by decide +kernel
theorem dX6_worthOf_24 : decode cX6_worthOf 24 = .ok (.imul, 1) := by decide +kernel
theorem dX6_worthOf_25 : decode cX6_worthOf 25 = .ok (.iload_n 2, 1) := by decide +kernel
theorem dX6_worthOf_26 : decode cX6_worthOf 26 = .ok (.iadd, 1) := by decide +kernel
theorem dX6_worthOf_27 : decode cX6_worthOf 27 = .ok (.iaload, 1) := by decide +kernel
theorem dX6_worthOf_28 : decode cX6_worthOf 28 = .ok (.goto 4, 3) := by decide +kernel
theorem dX6_worthOf_31 : decode cX6_worthOf 31 = .ok (.iconst 0, 1) := by decide +kernel
theorem dX6_worthOf_32 : decode cX6_worthOf 32 = .ok (.ireturn, 1) := by decide +kernel
theorem dX6_worthAlone_0 : decode cX6_worthAlone 0 = .ok (.iconst 0, 1) := by decide +kernel
theorem dX6_worthAlone_1 : decode cX6_worthAlone 1 = .ok (.istore_n 3, 1) := by decide +kernel
theorem dX6_worthAlone_2 : decode cX6_worthAlone 2 = .ok (.iconst 0, 1) := by decide +kernel
theorem dX6_worthAlone_3 : decode cX6_worthAlone 3 = .ok (.istore 4, 2) := by decide +kernel
theorem dX6_worthAlone_5 : decode cX6_worthAlone 5 = .ok (.iload 4, 2) := by decide +kernel
theorem dX6_worthAlone_7 : decode cX6_worthAlone 7 = .ok (.aload_n 0, 1) := by decide +kernel
theorem dX6_worthAlone_8 : decode cX6_worthAlone 8 = .ok (.getfield 27, 3) := by decide +kernel
theorem dX6_worthAlone_11 : decode cX6_worthAlone 11 = .ok (.if_icmp .ge 29, 3) := by decide +kernel
theorem dX6_worthAlone_14 : decode cX6_worthAlone 14 = .ok (.iload_n 2, 1) := by decide +kernel
theorem dX6_worthAlone_15 : decode cX6_worthAlone 15 = .ok (.iload 4, 2) := by decide +kernel
theorem dX6_worthAlone_17 : decode cX6_worthAlone 17 = .ok (.ishr, 1) := by decide +kernel
theorem dX6_worthAlone_18 : decode cX6_worthAlone 18 = .ok (.iconst 1, 1) := by decide +kernel
theorem dX6_worthAlone_19 : decode cX6_worthAlone 19 = .ok (.iand, 1) := by decide +kernel
theorem dX6_worthAlone_20 : decode cX6_worthAlone 20 = .ok (.iconst 1, 1) := by decide +kernel
theorem dX6_worthAlone_21 : decode cX6_worthAlone 21 = .ok (.if_icmp .ne 13, 3) := by decide +kernel
theorem dX6_worthAlone_24 : decode cX6_worthAlone 24 = .ok (.iload_n 3, 1) := by decide +kernel
theorem dX6_worthAlone_25 : decode cX6_worthAlone 25 = .ok (.aload_n 0, 1) := by decide +kernel
theorem dX6_worthAlone_26 : decode cX6_worthAlone 26 = .ok (.iload_n 1, 1) := by decide +kernel
theorem dX6_worthAlone_27 : decode cX6_worthAlone 27 = .ok (.iload 4, 2) := by decide +kernel
theorem dX6_worthAlone_29 : decode cX6_worthAlone 29 = .ok (.invokevirtual 55, 3) := by decide +kernel
theorem dX6_worthAlone_32 : decode cX6_worthAlone 32 = .ok (.iadd, 1) := by decide +kernel
theorem dX6_worthAlone_33 : decode cX6_worthAlone 33 = .ok (.istore_n 3, 1) := by decide +kernel
theorem dX6_worthAlone_34 : decode cX6_worthAlone 34 = .ok (.iinc 4 1, 3) := by decide +kernel
theorem dX6_worthAlone_37 : decode cX6_worthAlone 37 = .ok (.goto (-32), 3) := by decide +kernel
theorem dX6_worthAlone_40 : decode cX6_worthAlone 40 = .ok (.iload_n 3, 1) := by decide +kernel
theorem dX6_worthAlone_41 : decode cX6_worthAlone 41 = .ok (.ireturn, 1) := by decide +kernel
theorem dX6_moreOf_0 : decode cX6_moreOf 0 = .ok (.iconst 0, 1) := by decide +kernel
theorem dX6_moreOf_1 : decode cX6_moreOf 1 = .ok (.istore_n 3, 1) := by decide +kernel
theorem dX6_moreOf_2 : decode cX6_moreOf 2 = .ok (.iconst 0, 1) := by decide +kernel
theorem dX6_moreOf_3 : decode cX6_moreOf 3 = .ok (.istore 4, 2) := by decide +kernel
theorem dX6_moreOf_5 : decode cX6_moreOf 5 = .ok (.iload 4, 2) := by decide +kernel
theorem dX6_moreOf_7 : decode cX6_moreOf 7 = .ok (.aload_n 0, 1) := by decide +kernel
theorem dX6_moreOf_8 : decode cX6_moreOf 8 = .ok (.getfield 31, 3) := by decide +kernel
theorem dX6_moreOf_11 : decode cX6_moreOf 11 = .ok (.if_icmp .ge 56, 3) := by decide +kernel
theorem dX6_moreOf_14 : decode cX6_moreOf 14 = .ok (.iload 4, 2) := by decide +kernel
theorem dX6_moreOf_16 : decode cX6_moreOf 16 = .ok (.iconst 4, 1) := by decide +kernel
theorem dX6_moreOf_17 : decode cX6_moreOf 17 = .ok (.if_icmp .ge 50, 3) := by decide +kernel
theorem dX6_moreOf_20 : decode cX6_moreOf 20 = .ok (.iload_n 2, 1) := by decide +kernel
theorem dX6_moreOf_21 : decode cX6_moreOf 21 = .ok (.aload_n 0, 1) := by decide +kernel
theorem dX6_moreOf_22 : decode cX6_moreOf 22 = .ok (.getfield 15, 3) := by decide +kernel
theorem dX6_moreOf_25 : decode cX6_moreOf 25 = .ok (.iload 4, 2) := by decide +kernel
theorem dX6_moreOf_27 : decode cX6_moreOf 27 = .ok (.iaload, 1) := by decide +kernel
theorem dX6_moreOf_28 : decode cX6_moreOf 28 = .ok (.iand, 1) := by decide +kernel
theorem dX6_moreOf_29 : decode cX6_moreOf 29 = .ok (.aload_n 0, 1) := by decide +kernel
theorem dX6_moreOf_30 : decode cX6_moreOf 30 = .ok (.getfield 15, 3) := by decide +kernel
theorem dX6_moreOf_33 : decode cX6_moreOf 33 = .ok (.iload 4, 2) := by decide +kernel
theorem dX6_moreOf_35 : decode cX6_moreOf 35 = .ok (.iaload, 1) := by decide +kernel
theorem dX6_moreOf_36 : decode cX6_moreOf 36 = .ok (.if_icmp .ne 25, 3) := by decide +kernel
theorem dX6_moreOf_39 : decode cX6_moreOf 39 = .ok (.iload_n 3, 1) := by decide +kernel
theorem dX6_moreOf_40 : decode cX6_moreOf 40 = .ok (.aload_n 0, 1) := by decide +kernel
theorem dX6_moreOf_41 : decode cX6_moreOf 41 = .ok (.getfield 18, 3) := by decide +kernel
theorem dX6_moreOf_44 : decode cX6_moreOf 44 = .ok (.iload_n 1, 1) := by decide +kernel
theorem dX6_moreOf_45 : decode cX6_moreOf 45 = .ok (.iconst 1, 1) := by decide +kernel
theorem dX6_moreOf_46 : decode cX6_moreOf 46 = .ok (.if_icmp .ne 10, 3) := by decide +kernel
theorem dX6_moreOf_49 : decode cX6_moreOf 49 = .ok (.iconst 4, 1) := by decide +kernel
theorem dX6_moreOf_50 : decode cX6_moreOf 50 = .ok (.iload 4, 2) := by decide +kernel
theorem dX6_moreOf_52 : decode cX6_moreOf 52 = .ok (.iadd, 1) := by decide +kernel
theorem dX6_moreOf_53 : decode cX6_moreOf 53 = .ok (.goto 5, 3) := by decide +kernel
theorem dX6_moreOf_56 : decode cX6_moreOf 56 = .ok (.iload 4, 2) := by decide +kernel
theorem dX6_moreOf_58 : decode cX6_moreOf 58 = .ok (.iaload, 1) := by decide +kernel
theorem dX6_moreOf_59 : decode cX6_moreOf 59 = .ok (.iadd, 1) := by decide +kernel
theorem dX6_moreOf_60 : decode cX6_moreOf 60 = .ok (.istore_n 3, 1) := by decide +kernel
theorem dX6_moreOf_61 : decode cX6_moreOf 61 = .ok (.iinc 4 1, 3) := by decide +kernel
theorem dX6_moreOf_64 : decode cX6_moreOf 64 = .ok (.goto (-59), 3) := by decide +kernel
theorem dX6_moreOf_67 : decode cX6_moreOf 67 = .ok (.iload_n 3, 1) := by decide +kernel
theorem dX6_moreOf_68 : decode cX6_moreOf 68 = .ok (.ireturn, 1) := by decide +kernel
theorem dX6_valueOf_0 : decode cX6_valueOf 0 = .ok (.iload_n 1, 1) := by decide +kernel
theorem dX6_valueOf_1 : decode cX6_valueOf 1 = .ok (.invokestatic 51, 3) := by decide +kernel
theorem dX6_valueOf_4 : decode cX6_valueOf 4 = .ok (.ifCond .eq 27, 3) := by decide +kernel
theorem dX6_valueOf_7 : decode cX6_valueOf 7 = .ok (.iload_n 2, 1) := by decide +kernel
theorem dX6_valueOf_8 : decode cX6_valueOf 8 = .ok (.ifCond .lt 23, 3) := by decide +kernel
theorem dX6_valueOf_11 : decode cX6_valueOf 11 = .ok (.iload_n 2, 1) := by decide +kernel
theorem dX6_valueOf_12 : decode cX6_valueOf 12 = .ok (.bipush 64, 2) := by decide +kernel
theorem dX6_valueOf_14 : decode cX6_valueOf 14 = .ok (.if_icmp .ge 17, 3) := by decide +kernel
theorem dX6_valueOf_17 : decode cX6_valueOf 17 = .ok (.aload_n 0, 1) := by decide +kernel
theorem dX6_valueOf_18 : decode cX6_valueOf 18 = .ok (.getfield 21, 3) := by decide +kernel
theorem dX6_valueOf_21 : decode cX6_valueOf 21 = .ok (.iload_n 1, 1) := by decide +kernel
theorem dX6_valueOf_22 : decode cX6_valueOf 22 = .ok (.bipush 64, 2) := by decide +kernel
theorem dX6_valueOf_24 : decode cX6_valueOf 24 = .ok (.imul, 1) := by decide +kernel
theorem dX6_valueOf_25 : decode cX6_valueOf 25 = .ok (.iload_n 2, 1) := by decide +kernel
theorem dX6_valueOf_26 : decode cX6_valueOf 26 = .ok (.iadd, 1) := by decide +kernel
theorem dX6_valueOf_27 : decode cX6_valueOf 27 = .ok (.iaload, 1) := by decide +kernel
theorem dX6_valueOf_28 : decode cX6_valueOf 28 = .ok (.goto 4, 3) := by decide +kernel
theorem dX6_valueOf_31 : decode cX6_valueOf 31 = .ok (.iconst 0, 1) := by decide +kernel
theorem dX6_valueOf_32 : decode cX6_valueOf 32 = .ok (.ireturn, 1) := by decide +kernel
theorem dX6_ownIn_0 : decode cX6_ownIn 0 = .ok (.iload_n 1, 1) := by decide +kernel
theorem dX6_ownIn_1 : decode cX6_ownIn 1 = .ok (.iconst 1, 1) := by decide +kernel
theorem dX6_ownIn_2 : decode cX6_ownIn 2 = .ok (.if_icmp .ne 7, 3) := by decide +kernel
theorem dX6_ownIn_5 : decode cX6_ownIn 5 = .ok (.iload_n 2, 1) := by decide +kernel
theorem dX6_ownIn_6 : decode cX6_ownIn 6 = .ok (.goto 9, 3) := by decide +kernel
theorem dX6_ownIn_9 : decode cX6_ownIn 9 = .ok (.aload_n 0, 1) := by decide +kernel
theorem dX6_ownIn_10 : decode cX6_ownIn 10 = .ok (.invokevirtual 40, 3) := by decide +kernel
theorem dX6_ownIn_13 : decode cX6_ownIn 13 = .ok (.iload_n 2, 1) := by decide +kernel
theorem dX6_ownIn_14 : decode cX6_ownIn 14 = .ok (.ixor, 1) := by decide +kernel
theorem dX6_ownIn_15 : decode cX6_ownIn 15 = .ok (.ireturn, 1) := by decide +kernel
theorem dX6_cellBehind_0 : decode cX6_cellBehind 0 = .ok (.aload_n 0, 1) := by decide +kernel
theorem dX6_cellBehind_1 : decode cX6_cellBehind 1 = .ok (.getfield 37, 3) := by decide +kernel
theorem dX6_cellBehind_4 : decode cX6_cellBehind 4 = .ok (.iconst 1, 1) := by decide +kernel
theorem dX6_cellBehind_5 : decode cX6_cellBehind 5 = .ok (.if_icmp .ge 7, 3) := by decide +kernel
theorem dX6_cellBehind_8 : decode cX6_cellBehind 8 = .ok (.iconst 0, 1) := by decide +kernel
theorem dX6_cellBehind_9 : decode cX6_cellBehind 9 = .ok (.goto 9, 3) := by decide +kernel
theorem dX6_cellBehind_12 : decode cX6_cellBehind 12 = .ok (.iload_n 1, 1) := by decide +kernel
theorem dX6_cellBehind_13 : decode cX6_cellBehind 13 = .ok (.aload_n 0, 1) := by decide +kernel
theorem dX6_cellBehind_14 : decode cX6_cellBehind 14 = .ok (.getfield 37, 3) := by decide +kernel
theorem dX6_cellBehind_17 : decode cX6_cellBehind 17 = .ok (.irem, 1) := by decide +kernel
theorem dX6_cellBehind_18 : decode cX6_cellBehind 18 = .ok (.ireturn, 1) := by decide +kernel
