theorem dX0_init_0 : decode cX0_init 0 = .ok (.aload_n 0, 1) := by decide +kernel
theorem dX0_init_1 : decode cX0_init 1 = .ok (.invokespecial 3, 3) := by decide +kernel
theorem dX0_init_4 : decode cX0_init 4 = .ok (.aload_n 0, 1) := by decide +kernel
theorem dX0_init_5 : decode cX0_init 5 = .ok (.bipush 7, 2) := by decide +kernel
theorem dX0_init_7 : decode cX0_init 7 = .ok (.newarray .int, 2) := by decide +kernel
theorem dX0_init_9 : decode cX0_init 9 = .ok (.putfield 9, 3) := by decide +kernel
theorem dX0_init_12 : decode cX0_init 12 = .ok (.aload_n 0, 1) := by decide +kernel
theorem dX0_init_13 : decode cX0_init 13 = .ok (.bipush 7, 2) := by decide +kernel
theorem dX0_init_15 : decode cX0_init 15 = .ok (.newarray .int, 2) := by decide +kernel
theorem dX0_init_17 : decode cX0_init 17 = .ok (.putfield 15, 3) := by decide +kernel
theorem dX0_init_20 : decode cX0_init 20 = .ok (.aload_n 0, 1) := by decide +kernel
theorem dX0_init_21 : decode cX0_init 21 = .ok (.bipush 7, 2) := by decide +kernel
theorem dX0_init_23 : decode cX0_init 23 = .ok (.newarray .int, 2) := by decide +kernel
theorem dX0_init_25 : decode cX0_init 25 = .ok (.putfield 18, 3) := by decide +kernel
theorem dX0_init_28 : decode cX0_init 28 = .ok (.return_, 1) := by decide +kernel
theorem dX0_clear_0 : decode cX0_clear 0 = .ok (.aload_n 0, 1) := by decide +kernel
theorem dX0_clear_1 : decode cX0_clear 1 = .ok (.iconst 0, 1) := by decide +kernel
theorem dX0_clear_2 : decode cX0_clear 2 = .ok (.putfield 21, 3) := by decide +kernel
theorem dX0_clear_5 : decode cX0_clear 5 = .ok (.aload_n 0, 1) := by decide +kernel
theorem dX0_clear_6 : decode cX0_clear 6 = .ok (.iconst 0, 1) := by decide +kernel
theorem dX0_clear_7 : decode cX0_clear 7 = .ok (.putfield 25, 3) := by decide +kernel
theorem dX0_clear_10 : decode cX0_clear 10 = .ok (.aload_n 0, 1) := by decide +kernel
theorem dX0_clear_11 : decode cX0_clear 11 = .ok (.iconst 0, 1) := by decide +kernel
theorem dX0_clear_12 : decode cX0_clear 12 = .ok (.putfield 28, 3) := by decide +kernel
theorem dX0_clear_15 : decode cX0_clear 15 = .ok (.aload_n 0, 1) := by decide +kernel
theorem dX0_clear_16 : decode cX0_clear 16 = .ok (.iconst 0, 1) := by decide +kernel
theorem dX0_clear_17 : decode cX0_clear 17 = .ok (.putfield 31, 3) := by decide +kernel
theorem dX0_clear_20 : decode cX0_clear 20 = .ok (.aload_n 0, 1) := by decide +kernel
theorem dX0_clear_21 : decode cX0_clear 21 = .ok (.iconst 0, 1) := by decide +kernel
theorem dX0_clear_22 : decode cX0_clear 22 = .ok (.putfield 34, 3) := by decide +kernel
theorem dX0_clear_25 : decode cX0_clear 25 = .ok (.aload_n 0, 1) := by decide +kernel
theorem dX0_clear_26 : decode cX0_clear 26 = .ok (.getfield 18, 3) := by decide +kernel
theorem dX0_clear_29 : decode cX0_clear 29 = .ok (.iconst 0, 1) := by decide +kernel
theorem dX0_clear_30 : decode cX0_clear 30 = .ok (.invokestatic 37, 3) := by decide +kernel
theorem dX0_clear_33 : decode cX0_clear 33 = .ok (.return_, 1) := by decide +kernel
theorem dX0_addHouse_0 : decode cX0_addHouse 0 = .ok (.aload_n 0, 1) := by decide +kernel
theorem dX0_addHouse_1 : decode cX0_addHouse 1 = .ok (.getfield 31, 3) := by decide +kernel
theorem dX0_addHouse_4 : decode cX0_addHouse 4 = .ok (.bipush 7, 2) := by decide +kernel
theorem dX0_addHouse_6 : decode cX0_addHouse 6 = .ok (.if_icmp .ge 33, 3) := by decide +kernel
theorem dX0_addHouse_9 : decode cX0_addHouse 9 = .ok (.aload_n 0, 1) := by decide +kernel
theorem dX0_addHouse_10 : decode cX0_addHouse 10 = .ok (.getfield 9, 3) := by decide +kernel
theorem dX0_addHouse_13 : decode cX0_addHouse 13 = .ok (.aload_n 0, 1) := by decide +kernel
theorem dX0_addHouse_14 : decode cX0_addHouse 14 = .ok (.getfield 31, 3) := by decide +kernel
theorem dX0_addHouse_17 : decode cX0_addHouse 17 = .ok (.iload_n 1, 1) := by decide +kernel
theorem dX0_addHouse_18 : decode cX0_addHouse 18 = .ok (.iastore, 1) := by decide +kernel
theorem dX0_addHouse_19 : decode cX0_addHouse 19 = .ok (.aload_n 0, 1) := by decide +kernel
theorem dX0_addHouse_20 : decode cX0_addHouse 20 = .ok (.getfield 15, 3) := by decide +kernel
theorem dX0_addHouse_23 : decode cX0_addHouse 23 = .ok (.aload_n 0, 1) := by decide +kernel
theorem dX0_addHouse_24 : decode cX0_addHouse 24 = .ok (.getfield 31, 3) := by decide +kernel
theorem dX0_addHouse_27 : decode cX0_addHouse 27 = .ok (.iload_n 2, 1) := by decide +kernel
theorem dX0_addHouse_28 : decode cX0_addHouse 28 = .ok (.iastore, 1) := by decide +kernel
theorem dX0_addHouse_29 : decode cX0_addHouse 29 = .ok (.aload_n 0, 1) := by decide +kernel
theorem dX0_addHouse_30 : decode cX0_addHouse 30 = .ok (.dup, 1) := by decide +kernel
theorem dX0_addHouse_31 : decode cX0_addHouse 31 = .ok (.getfield 31, 3) := by decide +kernel
theorem dX0_addHouse_34 : decode cX0_addHouse 34 = .ok (.iconst 1, 1) := by decide +kernel
theorem dX0_addHouse_35 : decode cX0_addHouse 35 = .ok (.iadd, 1) := by decide +kernel
theorem dX0_addHouse_36 : decode cX0_addHouse 36 = .ok (.putfield 31, 3) := by decide +kernel
theorem dX0_addHouse_39 : decode cX0_addHouse 39 = .ok (.return_, 1) := by decide +kernel
theorem dX0_addFeud_0 : decode cX0_addFeud 0 = .ok (.aload_n 0, 1) := by decide +kernel
theorem dX0_addFeud_1 : decode cX0_addFeud 1 = .ok (.getfield 18, 3) := by decide +kernel
theorem dX0_addFeud_4 : decode cX0_addFeud 4 = .ok (.iload_n 1, 1) := by decide +kernel
theorem dX0_addFeud_5 : decode cX0_addFeud 5 = .ok (.dup2, 1) := by decide +kernel
theorem dX0_addFeud_6 : decode cX0_addFeud 6 = .ok (.iaload, 1) := by decide +kernel
theorem dX0_addFeud_7 : decode cX0_addFeud 7 = .ok (.iconst 1, 1) := by decide +kernel
theorem dX0_addFeud_8 : decode cX0_addFeud 8 = .ok (.iload_n 2, 1) := by decide +kernel
theorem dX0_addFeud_9 : decode cX0_addFeud 9 = .ok (.ishl, 1) := by decide +kernel
theorem dX0_addFeud_10 : decode cX0_addFeud 10 = .ok (.ior, 1) := by decide +kernel
theorem dX0_addFeud_11 : decode cX0_addFeud 11 = .ok (.iastore, 1) := by decide +kernel
theorem dX0_addFeud_12 : decode cX0_addFeud 12 = .ok (.aload_n 0, 1) := by decide +kernel
theorem dX0_addFeud_13 : decode cX0_addFeud 13 = .ok (.getfield 18, 3) := by decide +kernel
theorem dX0_addFeud_16 : decode cX0_addFeud 16 = .ok (.iload_n 2, 1) := by decide +kernel
theorem dX0_addFeud_17 : decode cX0_addFeud 17 = .ok (.dup2, 1) := by decide +kernel
theorem dX0_addFeud_18 : decode cX0_addFeud 18 = .ok (.iaload, 1) := by decide +kernel
theorem dX0_addFeud_19 : decode cX0_addFeud 19 = .ok (.iconst 1, 1) := by decide +kernel
theorem dX0_addFeud_20 : decode cX0_addFeud 20 = .ok (.iload_n 1, 1) := by decide +kernel
theorem dX0_addFeud_21 : decode cX0_addFeud 21 = .ok (.ishl, 1) := by decide +kernel
theorem dX0_addFeud_22 : decode cX0_addFeud 22 = .ok (.ior, 1) := by decide +kernel
theorem dX0_addFeud_23 : decode cX0_addFeud 23 = .ok (.iastore, 1) := by decide +kernel
theorem dX0_addFeud_24 : decode cX0_addFeud 24 = .ok (.aload_n 0, 1) := by decide +kernel
theorem dX0_addFeud_25 : decode cX0_addFeud 25 = .ok (.dup, 1) := by decide +kernel
theorem dX0_addFeud_26 : decode cX0_addFeud 26 = .ok (.getfield 34, 3) := by decide +kernel
theorem dX0_addFeud_29 : decode cX0_addFeud 29 = .ok (.iconst 1, 1) := by decide +kernel
theorem dX0_addFeud_30 : decode cX0_addFeud 30 = .ok (.iadd, 1) := by decide +kernel
theorem dX0_addFeud_31 : decode cX0_addFeud 31 = .ok (.putfield 34, 3) := by decide +kernel
theorem dX0_addFeud_34 : decode cX0_addFeud 34 = .ok (.return_, 1) := by decide +kernel
theorem dX0_isPeaceful_0 : decode cX0_isPeaceful 0 = .ok (.iconst 0, 1) := by decide +kernel
theorem dX0_isPeaceful_1 : decode cX0_isPeaceful 1 = .ok (.istore_n 2, 1) := by decide +kernel
theorem dX0_isPeaceful_2 : decode cX0_isPeaceful 2 = .ok (.iload_n 2, 1) := by decide +kernel
theorem dX0_isPeaceful_3 : decode cX0_isPeaceful 3 = .ok (.aload_n 0, 1) := by decide +kernel
theorem dX0_isPeaceful_4 : decode cX0_isPeaceful 4 = .ok (.getfield 31, 3) := by decide +kernel
theorem dX0_isPeaceful_7 : decode cX0_isPeaceful 7 = .ok (.if_icmp .ge 30, 3) := by decide +kernel
theorem dX0_isPeaceful_10 : decode cX0_isPeaceful 10 = .ok (.iload_n 2, 1) := by decide +kernel
theorem dX0_isPeaceful_11 : decode cX0_isPeaceful 11 = .ok (.iload_n 1, 1) := by decide +kernel
theorem dX0_isPeaceful_12 : decode cX0_isPeaceful 12 = .ok (.invokestatic 43, 3) := by decide +kernel
theorem dX0_isPeaceful_15 : decode cX0_isPeaceful 15 = .ok (.ifCond .eq 16, 3) := by decide +kernel
theorem dX0_isPeaceful_18 : decode cX0_isPeaceful 18 = .ok (.aload_n 0, 1) := by decide +kernel
theorem dX0_isPeaceful_19 : decode cX0_isPeaceful 19 = .ok (.getfield 18, 3) := by decide +kernel
theorem dX0_isPeaceful_22 : decode cX0_isPeaceful 22 = .ok (.iload_n 2, 1) := by decide +kernel
theorem dX0_isPeaceful_23 : decode cX0_isPeaceful 23 = .ok (.iaload, 1) := by decide +kernel
theorem dX0_isPeaceful_24 : decode cX0_isPeaceful 24 = .ok (.iload_n 1, 1) := by decide +kernel
theorem dX0_isPeaceful_25 : decode cX0_isPeaceful 25 = .ok (.iand, 1) := by decide +kernel
theorem dX0_isPeaceful_26 : decode cX0_isPeaceful 26 = .ok (.ifCond .eq 5, 3) := by decide +kernel
theorem dX0_isPeaceful_29 : decode cX0_isPeaceful 29 = .ok (.iconst 0, 1) := by decide +kernel
theorem dX0_isPeaceful_30 : decode cX0_isPeaceful 30 = .ok (.ireturn, 1) := by decide +kernel
theorem dX0_isPeaceful_31 : decode cX0_isPeaceful 31 = .ok (.iinc 2 1, 3) := by decide +kernel
theorem dX0_isPeaceful_34 : decode cX0_isPeaceful 34 = .ok (.goto (-32), 3) := by decide +kernel
theorem dX0_isPeaceful_37 : decode cX0_isPeaceful 37 = .ok (.iconst 1, 1) := by decide +kernel
theorem dX0_isPeaceful_38 : decode cX0_isPeaceful 38 = .ok (.ireturn, 1) := by decide +kernel
theorem dX0_wants_0 : decode cX0_wants 0 = .ok (.aload_n 0, 1) := by decide +kernel
theorem dX0_wants_1 : decode cX0_wants 1 = .ok (.getfield 9, 3) := by decide +kernel
theorem dX0_wants_4 : decode cX0_wants 4 = .ok (.iload_n 1, 1) := by decide +kernel
theorem dX0_wants_5 : decode cX0_wants 5 = .ok (.iaload, 1) := by decide +kernel
theorem dX0_wants_6 : decode cX0_wants 6 = .ok (.iconst 5, 1) := by decide +kernel
theorem dX0_wants_7 : decode cX0_wants 7 = .ok (.if_icmp .ne 5, 3) := by decide +kernel
theorem dX0_wants_10 : decode cX0_wants 10 = .ok (.iconst 0, 1) := by decide +kernel
theorem dX0_wants_11 : decode cX0_wants 11 = .ok (.ireturn, 1) := by decide +kernel
theorem dX0_wants_12 : decode cX0_wants 12 = .ok (.aload_n 0, 1) := by decide +kernel
theorem dX0_wants_13 : decode cX0_wants 13 = .ok (.getfield 9, 3) := by decide +kernel
theorem dX0_wants_16 : decode cX0_wants 16 = .ok (.iload_n 1, 1) := by decide +kernel
theorem dX0_wants_17 : decode cX0_wants 17 = .ok (.iaload, 1) := by decide +kernel
theorem dX0_wants_18 : decode cX0_wants 18 = .ok (.iconst 4, 1) := by decide +kernel
theorem dX0_wants_19 : decode cX0_wants 19 = .ok (.if_icmp .ne 14, 3) := by decide +kernel
theorem dX0_wants_22 : decode cX0_wants 22 = .ok (.aload_n 0, 1) := by decide +kernel
theorem dX0_wants_23 : decode cX0_wants 23 = .ok (.getfield 15, 3) := by decide +kernel
theorem dX0_wants_26 : decode cX0_wants 26 = .ok (.iload_n 1, 1) := by decide +kernel
theorem dX0_wants_27 : decode cX0_wants 27 = .ok (.iaload, 1) := by decide +kernel
theorem dX0_wants_28 : decode cX0_wants 28 = .ok (.iconst 2, 1) := by decide +kernel
theorem dX0_wants_29 : decode cX0_wants 29 = .ok (.idiv, 1) := by decide +kernel
theorem dX0_wants_30 : decode cX0_wants 30 = .ok (.goto 9, 3) := by decide +kernel
theorem dX0_wants_33 : decode cX0_wants 33 = .ok (.aload_n 0, 1) := by decide +kernel
theorem dX0_wants_34 : decode cX0_wants 34 = .ok (.getfield 15, 3) := by decide +kernel
theorem dX0_wants_37 : decode cX0_wants 37 = .ok (.iload_n 1, 1) := by decide +kernel
theorem dX0_wants_38 : decode cX0_wants 38 = .ok (.iaload, 1) := by decide +kernel
theorem dX0_wants_39 : decode cX0_wants 39 = .ok (.ireturn, 1) := by decide +kernel
theorem dX0_howManyOf_0 : decode cX0_howManyOf 0 = .ok (.iconst 0, 1) := by decide +kernel
theorem dX0_howManyOf_1 : decode cX0_howManyOf 1 = .ok (.istore_n 2, 1) := by decide +kernel
theorem dX0_howManyOf_2 : decode cX0_howManyOf 2 = .ok (.iconst 0, 1) := by decide +kernel
theorem dX0_howManyOf_3 : decode cX0_howManyOf 3 = .ok (.istore_n 3, 1) := by decide +kernel
theorem dX0_howManyOf_4 : decode cX0_howManyOf 4 = .ok (.iload_n 3, 1) := by decide +kernel
theorem dX0_howManyOf_5 : decode cX0_howManyOf 5 = .ok (.aload_n 0, 1) := by decide +kernel
theorem dX0_howManyOf_6 : decode cX0_howManyOf 6 = .ok (.getfield 31, 3) := by decide +kernel
theorem dX0_howManyOf_9 : decode cX0_howManyOf 9 = .ok (.if_icmp .ge 25, 3) := by decide +kernel
theorem dX0_howManyOf_12 : decode cX0_howManyOf 12 = .ok (.aload_n 0, 1) := by decide +kernel
theorem dX0_howManyOf_13 : decode cX0_howManyOf 13 = .ok (.getfield 9, 3) := by decide +kernel
theorem dX0_howManyOf_16 : decode cX0_howManyOf 16 = .ok (.iload_n 3, 1) := by decide +kernel
theorem dX0_howManyOf_17 : decode cX0_howManyOf 17 = .ok (.iaload, 1) := by decide +kernel
theorem dX0_howManyOf_18 : decode cX0_howManyOf 18 = .ok (.iload_n 1, 1) := by decide +kernel
theorem dX0_howManyOf_19 : decode cX0_howManyOf 19 = .ok (.invokestatic 47, 3) := by decide +kernel
theorem dX0_howManyOf_22 : decode cX0_howManyOf 22 = .ok (.ifCond .eq 6, 3) := by decide +kernel
theorem dX0_howManyOf_25 : decode cX0_howManyOf 25 = .ok (.iinc 2 1, 3) := by decide +kernel
theorem dX0_howManyOf_28 : decode cX0_howManyOf 28 = .ok (.iinc 3 1, 3) := by decide +kernel
theorem dX0_howManyOf_31 : decode cX0_howManyOf 31 = .ok (.goto (-27), 3) := by decide +kernel
theorem dX0_howManyOf_34 : decode cX0_howManyOf 34 = .ok (.iload_n 2, 1) := by decide +kernel
theorem dX0_howManyOf_35 : decode cX0_howManyOf 35 = .ok (.ireturn, 1) := by decide +kernel
theorem dX1_init_0 : decode cX1_init 0 = .ok (.aload_n 0, 1) := by decide +kernel
theorem dX1_init_1 : decode cX1_init 1 = .ok (.invokespecial 3, 3) := by decide +kernel
theorem dX1_init_4 : decode cX1_init 4 = .ok (.aload_n 0, 1) := by decide +kernel
theorem dX1_init_5 : decode cX1_init 5 = .ok (.bipush 40, 2) := by decide +kernel
theorem dX1_init_7 : decode cX1_init 7 = .ok (.newarray .int, 2) := by decide +kernel
theorem dX1_init_9 : decode cX1_init 9 = .ok (.putfield 9, 3) := by decide +kernel
theorem dX1_init_12 : decode cX1_init 12 = .ok (.aload_n 0, 1) := by decide +kernel
theorem dX1_init_13 : decode cX1_init 13 = .ok (.iload_n 1, 1) := by decide +kernel
theorem dX1_init_14 : decode cX1_init 14 = .ok (.putfield 15, 3) := by decide +kernel
theorem dX1_init_17 : decode cX1_init 17 = .ok (.return_, 1) := by decide +kernel
theorem dX1_isFull_0 : decode cX1_isFull 0 = .ok (.aload_n 0, 1) := by decide +kernel
theorem dX1_isFull_1 : decode cX1_isFull 1 = .ok (.getfield 15, 3) := by decide +kernel
theorem dX1_isFull_4 : decode cX1_isFull 4 = .ok (.iload_n 1, 1) := by decide +kernel
theorem dX1_isFull_5 : decode cX1_isFull 5 = .ok (.iadd, 1) := by decide +kernel
theorem dX1_isFull_6 : decode cX1_isFull 6 = .ok (.bipush 40, 2) := by decide +kernel
theorem dX1_isFull_8 : decode cX1_isFull 8 = .ok (.if_icmp .le 7, 3) := by decide +kernel
theorem dX1_isFull_11 : decode cX1_isFull 11 = .ok (.iconst 1, 1) := by decide +kernel
theorem dX1_isFull_12 : decode cX1_isFull 12 = .ok (.goto 4, 3) := by decide +kernel
theorem dX1_isFull_15 : decode cX1_isFull 15 = .ok (.iconst 0, 1) := by decide +kernel
theorem dX1_isFull_16 : decode cX1_isFull 16 = .ok (.ireturn, 1) := by decide +kernel
theorem dX1_add_0 : decode cX1_add 0 = .ok (.aload_n 0, 1) := by decide +kernel
theorem dX1_add_1 : decode cX1_add 1 = .ok (.getfield 15, 3) := by decide +kernel
theorem dX1_add_4 : decode cX1_add 4 = .ok (.ifCond .lt 32, 3) := by decide +kernel
theorem dX1_add_7 : decode cX1_add 7 = .ok (.aload_n 0, 1) := by decide +kernel
theorem dX1_add_8 : decode cX1_add 8 = .ok (.getfield 15, 3) := by decide +kernel
theorem dX1_add_11 : decode cX1_add 11 = .ok (.bipush 40, 2) := by decide +kernel
theorem dX1_add_13 : decode cX1_add 13 = .ok (.if_icmp .ge 23, 3) := by decide +kernel
theorem dX1_add_16 : decode cX1_add 16 = .ok (.aload_n 0, 1) := by decide +kernel
theorem dX1_add_17 : decode cX1_add 17 = .ok (.getfield 9, 3) := by decide +kernel
theorem dX1_add_20 : decode cX1_add 20 = .ok (.aload_n 0, 1) := by decide +kernel
theorem dX1_add_21 : decode cX1_add 21 = .ok (.getfield 15, 3) := by decide +kernel
theorem dX1_add_24 : decode cX1_add 24 = .ok (.iload_n 1, 1) := by decide +kernel
theorem dX1_add_25 : decode cX1_add 25 = .ok (.iastore, 1) := by decide +kernel
theorem dX1_add_26 : decode cX1_add 26 = .ok (.aload_n 0, 1) := by decide +kernel
theorem dX1_add_27 : decode cX1_add 27 = .ok (.dup, 1) := by decide +kernel
theorem dX1_add_28 : decode cX1_add 28 = .ok (.getfield 15, 3) := by decide +kernel
theorem dX1_add_31 : decode cX1_add 31 = .ok (.iconst 1, 1) := by decide +kernel
theorem dX1_add_32 : decode cX1_add 32 = .ok (.iadd, 1) := by decide +kernel
theorem dX1_add_33 : decode cX1_add 33 = .ok (.putfield 15, 3) := by decide +kernel
theorem dX1_add_36 : decode cX1_add 36 = .ok (.return_, 1) := by decide +kernel
theorem dX1_take_0 : decode cX1_take 0 = .ok (.aload_n 1, 1) := by decide +kernel
theorem dX1_take_1 : decode cX1_take 1 = .ok (.getfield 9, 3) := by decide +kernel
theorem dX1_take_4 : decode cX1_take 4 = .ok (.iconst 0, 1) := by decide +kernel
theorem dX1_take_5 : decode cX1_take 5 = .ok (.aload_n 0, 1) := by decide +kernel
theorem dX1_take_6 : decode cX1_take 6 = .ok (.getfield 9, 3) := by decide +kernel
theorem dX1_take_9 : decode cX1_take 9 = .ok (.iconst 0, 1) := by decide +kernel
theorem dX1_take_10 : decode cX1_take 10 = .ok (.bipush 40, 2) := by decide +kernel
theorem dX1_take_12 : decode cX1_take 12 = .ok (.invokestatic 19, 3) := by decide +kernel
theorem dX1_take_15 : decode cX1_take 15 = .ok (.aload_n 0, 1) := by decide +kernel
theorem dX1_take_16 : decode cX1_take 16 = .ok (.aload_n 1, 1) := by decide +kernel
theorem dX1_take_17 : decode cX1_take 17 = .ok (.getfield 15, 3) := by decide +kernel
theorem dX1_take_20 : decode cX1_take 20 = .ok (.putfield 15, 3) := by decide +kernel
theorem dX1_take_23 : decode cX1_take 23 = .ok (.return_, 1) := by decide +kernel
theorem dX2_init_0 : decode cX2_init 0 = .ok (.aload_n 0, 1) := by decide +kernel
theorem dX2_init_1 : decode cX2_init 1 = .ok (.invokespecial 3, 3) := by decide +kernel
theorem dX2_init_4 : decode cX2_init 4 = .ok (.aload_n 0, 1) := by decide +kernel
theorem dX2_init_5 : decode cX2_init 5 = .ok (.bipush 80, 2) := by decide +kernel
theorem dX2_init_7 : decode cX2_init 7 = .ok (.newarray .int, 2) := by decide +kernel
theorem dX2_init_9 : decode cX2_init 9 = .ok (.putfield 9, 3) := by decide +kernel
theorem dX2_init_12 : decode cX2_init 12 = .ok (.aload_n 0, 1) := by decide +kernel
theorem dX2_init_13 : decode cX2_init 13 = .ok (.new 15, 3) := by decide +kernel
theorem dX2_init_16 : decode cX2_init 16 = .ok (.dup, 1) := by decide +kernel
theorem dX2_init_17 : decode cX2_init 17 = .ok (.invokespecial 17, 3) := by decide +kernel
theorem dX2_init_20 : decode cX2_init 20 = .ok (.putfield 18, 3) := by decide +kernel
theorem dX2_init_23 : decode cX2_init 23 = .ok (.aload_n 0, 1) := by decide +kernel
theorem dX2_init_24 : decode cX2_init 24 = .ok (.aload_n 1, 1) := by decide +kernel
theorem dX2_init_25 : decode cX2_init 25 = .ok (.putfield 22, 3) := by decide +kernel
theorem dX2_init_28 : decode cX2_init 28 = .ok (.return_, 1) := by decide +kernel
theorem dX2_handOver_0 : decode cX2_handOver 0 = .ok (.aload_n 0, 1) := by decide +kernel
theorem dX2_handOver_1 : decode cX2_handOver 1 = .ok (.getfield 18, 3) := by decide +kernel
theorem dX2_handOver_4 : decode cX2_handOver 4 = .ok (.astore_n 2, 1) := by decide +kernel
theorem dX2_handOver_5 : decode cX2_handOver 5 = .ok (.aload_n 0, 1) := by decide +kernel
theorem dX2_handOver_6 : decode cX2_handOver 6 = .ok (.aload_n 1, 1) := by decide +kernel
theorem dX2_handOver_7 : decode cX2_handOver 7 = .ok (.putfield 18, 3) := by decide +kernel
theorem dX2_handOver_10 : decode cX2_handOver 10 = .ok (.aload_n 2, 1) := by decide +kernel
theorem dX2_handOver_11 : decode cX2_handOver 11 = .ok (.areturn, 1) := by decide +kernel
theorem dX2_read_0 : decode cX2_read 0 = .ok (.aload_n 0, 1) := by decide +kernel
theorem dX2_read_1 : decode cX2_read 1 = .ok (.aload_n 0, 1) := by decide +kernel
theorem dX2_read_2 : decode cX2_read 2 = .ok (.getfield 22, 3) := by decide +kernel
theorem dX2_read_5 : decode cX2_read 5 = .ok (.iload_n 1, 1) := by decide +kernel
theorem dX2_read_6 : decode cX2_read 6 = .ok (.aload_n 0, 1) := by decide +kernel
theorem dX2_read_7 : decode cX2_read 7 = .ok (.getfield 9, 3) := by decide +kernel
theorem dX2_read_10 : decode cX2_read 10 = .ok (.invokevirtual 26, 3) := by decide +kernel
theorem dX2_read_13 : decode cX2_read 13 = .ok (.putfield 32, 3) := by decide +kernel
theorem dX2_read_16 : decode cX2_read 16 = .ok (.aload_n 0, 1) := by decide +kernel
theorem dX2_read_17 : decode cX2_read 17 = .ok (.iconst 0, 1) := by decide +kernel
theorem dX2_read_18 : decode cX2_read 18 = .ok (.putfield 36, 3) := by decide +kernel
theorem dX2_read_21 : decode cX2_read 21 = .ok (.aload_n 0, 1) := by decide +kernel
theorem dX2_read_22 : decode cX2_read 22 = .ok (.getfield 18, 3) := by decide +kernel
theorem dX2_read_25 : decode cX2_read 25 = .ok (.invokevirtual 39, 3) := by decide +kernel
theorem dX2_read_28 : decode cX2_read 28 = .ok (.aload_n 0, 1) := by decide +kernel
theorem dX2_read_29 : decode cX2_read 29 = .ok (.invokevirtual 42, 3) := by decide +kernel
theorem dX2_read_32 : decode cX2_read 32 = .ok (.aload_n 0, 1) := by decide +kernel
theorem dX2_read_33 : decode cX2_read 33 = .ok (.invokevirtual 45, 3) := by decide +kernel
theorem dX2_read_36 : decode cX2_read 36 = .ok (.ifCond .ne 8, 3) := by decide +kernel
theorem dX2_read_39 : decode cX2_read 39 = .ok (.aload_n 0, 1) := by decide +kernel
theorem dX2_read_40 : decode cX2_read 40 = .ok (.getfield 36, 3) := by decide +kernel
theorem dX2_read_43 : decode cX2_read 43 = .ok (.ireturn, 1) := by decide +kernel
theorem dX2_read_44 : decode cX2_read 44 = .ok (.iconst 0, 1) := by decide +kernel
theorem dX2_read_45 : decode cX2_read 45 = .ok (.istore_n 2, 1) := by decide +kernel
theorem dX2_read_46 : decode cX2_read 46 = .ok (.iload_n 2, 1) := by decide +kernel
theorem dX2_read_47 : decode cX2_read 47 = .ok (.bipush 80, 2) := by decide +kernel
theorem dX2_read_49 : decode cX2_read 49 = .ok (.if_icmp .gt 55, 3) := by decide +kernel
theorem dX2_read_52 : decode cX2_read 52 = .ok (.aload_n 0, 1) := by decide +kernel
theorem dX2_read_53 : decode cX2_read 53 = .ok (.invokevirtual 42, 3) := by decide +kernel
theorem dX2_read_56 : decode cX2_read 56 = .ok (.aload_n 0, 1) := by decide +kernel
theorem dX2_read_57 : decode cX2_read 57 = .ok (.invokevirtual 49, 3) := by decide +kernel
theorem dX2_read_60 : decode cX2_read 60 = .ok (.sipush 256, 3) := by decide +kernel
theorem dX2_read_63 : decode cX2_read 63 = .ok (.if_icmp .ne 23, 3) := by decide +kernel
theorem dX2_read_66 : decode cX2_read 66 = .ok (.aload_n 0, 1) := by decide +kernel
theorem dX2_read_67 : decode cX2_read 67 = .ok (.getfield 18, 3) := by decide +kernel
theorem dX2_read_70 : decode cX2_read 70 = .ok (.getfield 53, 3) := by decide +kernel
theorem dX2_read_73 : decode cX2_read 73 = .ok (.ifCond .ne 10, 3) := by decide +kernel
theorem dX2_read_76 : decode cX2_read 76 = .ok (.aload_n 0, 1) := by decide +kernel
theorem dX2_read_77 : decode cX2_read 77 = .ok (.getfield 36, 3) := by decide +kernel
theorem dX2_read_80 : decode cX2_read 80 = .ok (.goto 5, 3) := by decide +kernel
theorem dX2_read_83 : decode cX2_read 83 = .ok (.bipush (-9), 2) := by decide +kernel
theorem dX2_read_85 : decode cX2_read 85 = .ok (.ireturn, 1) := by decide +kernel
theorem dX2_read_86 : decode cX2_read 86 = .ok (.aload_n 0, 1) := by decide +kernel
theorem dX2_read_87 : decode cX2_read 87 = .ok (.invokevirtual 56, 3) := by decide +kernel
theorem dX2_read_90 : decode cX2_read 90 = .ok (.ifCond .ne 8, 3) := by decide +kernel
theorem dX2_read_93 : decode cX2_read 93 = .ok (.aload_n 0, 1) := by decide +kernel
theorem dX2_read_94 : decode cX2_read 94 = .ok (.getfield 36, 3) := by decide +kernel
theorem dX2_read_97 : decode cX2_read 97 = .ok (.ireturn, 1) := by decide +kernel
theorem dX2_read_98 : decode cX2_read 98 = .ok (.iinc 2 1, 3) := by decide +kernel
theorem dX2_read_101 : decode cX2_read 101 = .ok (.goto (-55), 3) := by decide +kernel
theorem dX2_read_104 : decode cX2_read 104 = .ok (.aload_n 0, 1) := by decide +kernel
theorem dX2_read_105 : decode cX2_read 105 = .ok (.getfield 36, 3) := by decide +kernel
theorem dX2_read_108 : decode cX2_read 108 = .ok (.ireturn, 1) := by decide +kernel
theorem dX2_sign_0 : decode cX2_sign 0 = .ok (.aload_n 0, 1) := by decide +kernel
theorem dX2_sign_1 : decode cX2_sign 1 = .ok (.getfield 36, 3) := by decide +kernel
theorem dX2_sign_4 : decode cX2_sign 4 = .ok (.ifCond .lt 38, 3) := by decide +kernel
theorem dX2_sign_7 : decode cX2_sign 7 = .ok (.aload_n 0, 1) := by decide +kernel
theorem dX2_sign_8 : decode cX2_sign 8 = .ok (.getfield 36, 3) := by decide +kernel
theorem dX2_sign_11 : decode cX2_sign 11 = .ok (.aload_n 0, 1) := by decide +kernel
theorem dX2_sign_12 : decode cX2_sign 12 = .ok (.getfield 32, 3) := by decide +kernel
theorem dX2_sign_15 : decode cX2_sign 15 = .ok (.if_icmp .ge 27, 3) := by decide +kernel
theorem dX2_sign_18 : decode cX2_sign 18 = .ok (.aload_n 0, 1) := by decide +kernel
theorem dX2_sign_19 : decode cX2_sign 19 = .ok (.getfield 36, 3) := by decide +kernel
theorem dX2_sign_22 : decode cX2_sign 22 = .ok (.aload_n 0, 1) := by decide +kernel
theorem dX2_sign_23 : decode cX2_sign 23 = .ok (.getfield 9, 3) := by decide +kernel
theorem dX2_sign_26 : decode cX2_sign 26 = .ok (.arraylength, 1) := by decide +kernel
theorem dX2_sign_27 : decode cX2_sign 27 = .ok (.if_icmp .ge 15, 3) := by decide +kernel
theorem dX2_sign_30 : decode cX2_sign 30 = .ok (.aload_n 0, 1) := by decide +kernel
theorem dX2_sign_31 : decode cX2_sign 31 = .ok (.getfield 9, 3) := by decide +kernel
theorem dX2_sign_34 : decode cX2_sign 34 = .ok (.aload_n 0, 1) := by decide +kernel
theorem dX2_sign_35 : decode cX2_sign 35 = .ok (.getfield 36, 3) := by decide +kernel
theorem dX2_sign_38 : decode cX2_sign 38 = .ok (.iaload, 1) := by decide +kernel
theorem dX2_sign_39 : decode cX2_sign 39 = .ok (.goto 6, 3) := by decide +kernel
theorem dX2_sign_42 : decode cX2_sign 42 = .ok (.sipush 256, 3) := by decide +kernel
theorem dX2_sign_45 : decode cX2_sign 45 = .ok (.ireturn, 1) := by decide +kernel
theorem dX2_skipBlanks_0 : decode cX2_skipBlanks 0 = .ok (.aload_n 0, 1) := by decide +kernel
theorem dX2_skipBlanks_1 : decode cX2_skipBlanks 1 = .ok (.getfield 36, 3) := by decide +kernel
theorem dX2_skipBlanks_4 : decode cX2_skipBlanks 4 = .ok (.aload_n 0, 1) := by decide +kernel
theorem dX2_skipBlanks_5 : decode cX2_skipBlanks 5 = .ok (.getfield 32, 3) := by decide +kernel
theorem dX2_skipBlanks_8 : decode cX2_skipBlanks 8 = .ok (.if_icmp .ge 25, 3) := by decide +kernel
theorem dX2_skipBlanks_11 : decode cX2_skipBlanks 11 = .ok (.aload_n 0, 1) := by decide +kernel
theorem dX2_skipBlanks_12 : decode cX2_skipBlanks 12 = .ok (.invokevirtual 49, 3) := by decide +kernel
theorem dX2_skipBlanks_15 : decode cX2_skipBlanks 15 = .ok (.bipush 32, 2) := by decide +kernel
theorem dX2_skipBlanks_17 : decode cX2_skipBlanks 17 = .ok (.if_icmp .ne 16, 3) := by decide +kernel
theorem dX2_skipBlanks_20 : decode cX2_skipBlanks 20 = .ok (.aload_n 0, 1) := by decide +kernel
theorem dX2_skipBlanks_21 : decode cX2_skipBlanks 21 = .ok (.dup, 1) := by decide +kernel
theorem dX2_skipBlanks_22 : decode cX2_skipBlanks 22 = .ok (.getfield 36, 3) := by decide +kernel
theorem dX2_skipBlanks_25 : decode cX2_skipBlanks 25 = .ok (.iconst 1, 1) := by decide +kernel
theorem dX2_skipBlanks_26 : decode cX2_skipBlanks 26 = .ok (.iadd, 1) := by decide +kernel
theorem dX2_skipBlanks_27 : decode cX2_skipBlanks 27 = .ok (.putfield 36, 3) := by decide +kernel
theorem dX2_skipBlanks_30 : decode cX2_skipBlanks 30 = .ok (.goto (-30), 3) := by decide +kernel
theorem dX2_skipBlanks_33 : decode cX2_skipBlanks 33 = .ok (.return_, 1) := by decide +kernel
theorem dX2_figure_0 : decode cX2_figure 0 = .ok (.aload_n 0, 1) := by decide +kernel
theorem dX2_figure_1 : decode cX2_figure 1 = .ok (.invokevirtual 49, 3) := by decide +kernel
theorem dX2_figure_4 : decode cX2_figure 4 = .ok (.bipush 48, 2) := by decide +kernel
theorem dX2_figure_6 : decode cX2_figure 6 = .ok (.isub, 1) := by decide +kernel
theorem dX2_figure_7 : decode cX2_figure 7 = .ok (.istore_n 3, 1) := by decide +kernel
theorem dX2_figure_8 : decode cX2_figure 8 = .ok (.iload_n 3, 1) := by decide +kernel
theorem dX2_figure_9 : decode cX2_figure 9 = .ok (.iload_n 1, 1) := by decide +kernel
theorem dX2_figure_10 : decode cX2_figure 10 = .ok (.if_icmp .lt 12, 3) := by decide +kernel
theorem dX2_figure_13 : decode cX2_figure 13 = .ok (.iload_n 3, 1) := by decide +kernel
theorem dX2_figure_14 : decode cX2_figure 14 = .ok (.iload_n 2, 1) := by decide +kernel
theorem dX2_figure_15 : decode cX2_figure 15 = .ok (.if_icmp .gt 7, 3) := by decide +kernel
theorem dX2_figure_18 : decode cX2_figure 18 = .ok (.iload_n 3, 1) := by decide +kernel
theorem dX2_figure_19 : decode cX2_figure 19 = .ok (.goto 4, 3) := by decide +kernel
theorem dX2_figure_22 : decode cX2_figure 22 = .ok (.iconst (-1), 1) := by decide +kernel
theorem dX2_figure_23 : decode cX2_figure 23 = .ok (.ireturn, 1) := by decide +kernel
theorem dX2_takeFigure_0 : decode cX2_takeFigure 0 = .ok (.aload_n 0, 1) := by decide +kernel
theorem dX2_takeFigure_1 : decode cX2_takeFigure 1 = .ok (.iload_n 1, 1) := by decide +kernel
theorem dX2_takeFigure_2 : decode cX2_takeFigure 2 = .ok (.iload_n 2, 1) := by decide +kernel
theorem dX2_takeFigure_3 : decode cX2_takeFigure 3 = .ok (.invokevirtual 59, 3) := by decide +kernel
theorem dX2_takeFigure_6 : decode cX2_takeFigure 6 = .ok (.istore_n 3, 1) := by decide +kernel
theorem dX2_takeFigure_7 : decode cX2_takeFigure 7 = .ok (.iload_n 3, 1) := by decide +kernel
theorem dX2_takeFigure_8 : decode cX2_takeFigure 8 = .ok (.iconst (-1), 1) := by decide +kernel
theorem dX2_takeFigure_9 : decode cX2_takeFigure 9 = .ok (.if_icmp .eq 13, 3) := by decide +kernel
theorem dX2_takeFigure_12 : decode cX2_takeFigure 12 = .ok (.aload_n 0, 1) := by decide +kernel
theorem dX2_takeFigure_13 : decode cX2_takeFigure 13 = .ok (.dup, 1) := by decide +kernel
theorem dX2_takeFigure_14 : decode cX2_takeFigure 14 = .ok (.getfield 36, 3) := by decide +kernel
theorem dX2_takeFigure_17 : decode cX2_takeFigure 17 = .ok (.iconst 1, 1) := by decide +kernel
theorem dX2_takeFigure_18 : decode cX2_takeFigure 18 = .ok (.iadd, 1) := by decide +kernel
theorem dX2_takeFigure_19 : decode cX2_takeFigure 19 = .ok (.putfield 36, 3) := by decide +kernel
theorem dX2_takeFigure_22 : decode cX2_takeFigure 22 = .ok (.iload_n 3, 1) := by decide +kernel
theorem dX2_takeFigure_23 : decode cX2_takeFigure 23 = .ok (.ireturn, 1) := by decide +kernel
theorem dX2_readPeace_0 : decode cX2_readPeace 0 = .ok (.aload_n 0, 1) := by decide +kernel
theorem dX2_readPeace_1 : decode cX2_readPeace 1 = .ok (.invokevirtual 49, 3) := by decide +kernel
theorem dX2_readPeace_4 : decode cX2_readPeace 4 = .ok (.bipush 113, 2) := by decide +kernel
theorem dX2_readPeace_6 : decode cX2_readPeace 6 = .ok (.if_icmp .eq 5, 3) := by decide +kernel
theorem dX2_readPeace_9 : decode cX2_readPeace 9 = .ok (.iconst 0, 1) := by decide +kernel
theorem dX2_readPeace_10 : decode cX2_readPeace 10 = .ok (.ireturn, 1) := by decide +kernel
theorem dX2_readPeace_11 : decode cX2_readPeace 11 = .ok (.aload_n 0, 1) := by decide +kernel
theorem dX2_readPeace_12 : decode cX2_readPeace 12 = .ok (.dup, 1) := by decide +kernel
theorem dX2_readPeace_13 : decode cX2_readPeace 13 = .ok (.getfield 36, 3) := by decide +kernel
theorem dX2_readPeace_16 : decode cX2_readPeace 16 = .ok (.iconst 1, 1) := by decide +kernel
theorem dX2_readPeace_17 : decode cX2_readPeace 17 = .ok (.iadd, 1) := by decide +kernel
theorem dX2_readPeace_18 : decode cX2_readPeace 18 = .ok (.putfield 36, 3) := by decide +kernel
theorem dX2_readPeace_21 : decode cX2_readPeace 21 = .ok (.aload_n 0, 1) := by decide +kernel
theorem dX2_readPeace_22 : decode cX2_readPeace 22 = .ok (.getfield 18, 3) := by decide +kernel
theorem dX2_readPeace_25 : decode cX2_readPeace 25 = .ok (.aload_n 0, 1) := by decide +kernel
theorem dX2_readPeace_26 : decode cX2_readPeace 26 = .ok (.iconst 1, 1) := by decide +kernel
theorem dX2_readPeace_27 : decode cX2_readPeace 27 = .ok (.bipush 9, 2) := by decide +kernel
theorem dX2_readPeace_29 : decode cX2_readPeace 29 = .ok (.invokevirtual 63, 3) := by decide +kernel
theorem dX2_readPeace_32 : decode cX2_readPeace 32 = .ok (.putfield 66, 3) := by decide +kernel
theorem dX2_readPeace_35 : decode cX2_readPeace 35 = .ok (.aload_n 0, 1) := by decide +kernel
theorem dX2_readPeace_36 : decode cX2_readPeace 36 = .ok (.getfield 18, 3) := by decide +kernel
theorem dX2_readPeace_39 : decode cX2_readPeace 39 = .ok (.getfield 66, 3) := by decide +kernel
theorem dX2_readPeace_42 : decode cX2_readPeace 42 = .ok (.iconst (-1), 1) := by decide +kernel
theorem dX2_readPeace_43 : decode cX2_readPeace 43 = .ok (.if_icmp .ne 5, 3) := by decide +kernel
theorem dX2_readPeace_46 : decode cX2_readPeace 46 = .ok (.iconst 0, 1) := by decide +kernel
theorem dX2_readPeace_47 : decode cX2_readPeace 47 = .ok (.ireturn, 1) := by decide +kernel
theorem dX2_readPeace_48 : decode cX2_readPeace 48 = .ok (.aload_n 0, 1) := by decide +kernel
theorem dX2_readPeace_49 : decode cX2_readPeace 49 = .ok (.iconst 0, 1) := by decide +kernel
theorem dX2_readPeace_50 : decode cX2_readPeace 50 = .ok (.bipush 9, 2) := by decide +kernel
theorem dX2_readPeace_52 : decode cX2_readPeace 52 = .ok (.invokevirtual 63, 3) := by decide +kernel
theorem dX2_readPeace_55 : decode cX2_readPeace 55 = .ok (.istore_n 1, 1) := by decide +kernel
theorem dX2_readPeace_56 : decode cX2_readPeace 56 = .ok (.iload_n 1, 1) := by decide +kernel
theorem dX2_readPeace_57 : decode cX2_readPeace 57 = .ok (.iconst (-1), 1) := by decide +kernel
theorem dX2_readPeace_58 : decode cX2_readPeace 58 = .ok (.if_icmp .ne 5, 3) := by decide +kernel
theorem dX2_readPeace_61 : decode cX2_readPeace 61 = .ok (.iconst 0, 1) := by decide +kernel
theorem dX2_readPeace_62 : decode cX2_readPeace 62 = .ok (.ireturn, 1) := by decide +kernel
theorem dX2_readPeace_63 : decode cX2_readPeace 63 = .ok (.aload_n 0, 1) := by decide +kernel
theorem dX2_readPeace_64 : decode cX2_readPeace 64 = .ok (.iconst 0, 1) := by decide +kernel
theorem dX2_readPeace_65 : decode cX2_readPeace 65 = .ok (.bipush 9, 2) := by decide +kernel
theorem dX2_readPeace_67 : decode cX2_readPeace 67 = .ok (.invokevirtual 63, 3) := by decide +kernel
theorem dX2_readPeace_70 : decode cX2_readPeace 70 = .ok (.istore_n 2, 1) := by decide +kernel
theorem dX2_readPeace_71 : decode cX2_readPeace 71 = .ok (.iload_n 2, 1) := by decide +kernel
theorem dX2_readPeace_72 : decode cX2_readPeace 72 = .ok (.iconst (-1), 1) := by decide +kernel
theorem dX2_readPeace_73 : decode cX2_readPeace 73 = .ok (.if_icmp .ne 5, 3) := by decide +kernel
theorem dX2_readPeace_76 : decode cX2_readPeace 76 = .ok (.iconst 0, 1) := by decide +kernel
theorem dX2_readPeace_77 : decode cX2_readPeace 77 = .ok (.ireturn, 1) := by decide +kernel
theorem dX2_readPeace_78 : decode cX2_readPeace 78 = .ok (.aload_n 0, 1) := by decide +kernel
theorem dX2_readPeace_79 : decode cX2_readPeace 79 = .ok (.getfield 18, 3) := by decide +kernel
theorem dX2_readPeace_82 : decode cX2_readPeace 82 = .ok (.bipush 10, 2) := by decide +kernel
theorem dX2_readPeace_84 : decode cX2_readPeace 84 = .ok (.iload_n 1, 1) := by decide +kernel
theorem dX2_readPeace_85 : decode cX2_readPeace 85 = .ok (.imul, 1) := by decide +kernel
theorem dX2_readPeace_86 : decode cX2_readPeace 86 = .ok (.iload_n 2, 1) := by decide +kernel
theorem dX2_readPeace_87 : decode cX2_readPeace 87 = .ok (.iadd, 1) := by decide +kernel
theorem dX2_readPeace_88 : decode cX2_readPeace 88 = .ok (.putfield 69, 3) := by decide +kernel
theorem dX2_readPeace_91 : decode cX2_readPeace 91 = .ok (.aload_n 0, 1) := by decide +kernel
theorem dX2_readPeace_92 : decode cX2_readPeace 92 = .ok (.getfield 18, 3) := by decide +kernel
theorem dX2_readPeace_95 : decode cX2_readPeace 95 = .ok (.aload_n 0, 1) := by decide +kernel
theorem dX2_readPeace_96 : decode cX2_readPeace 96 = .ok (.iconst 0, 1) := by decide +kernel
theorem dX2_readPeace_97 : decode cX2_readPeace 97 = .ok (.bipush 9, 2) := by decide +kernel
theorem dX2_readPeace_99 : decode cX2_readPeace 99 = .ok (.invokevirtual 63, 3) := by decide +kernel
theorem dX2_readPeace_102 : decode cX2_readPeace 102 = .ok (.putfield 72, 3) := by decide +kernel
theorem dX2_readPeace_105 : decode cX2_readPeace 105 = .ok (.aload_n 0, 1) := by decide +kernel
theorem dX2_readPeace_106 : decode cX2_readPeace 106 = .ok (.getfield 18, 3) := by decide +kernel
theorem dX2_readPeace_109 : decode cX2_readPeace 109 = .ok (.getfield 72, 3) := by decide +kernel
theorem dX2_readPeace_112 : decode cX2_readPeace 112 = .ok (.iconst (-1), 1) := by decide +kernel
theorem dX2_readPeace_113 : decode cX2_readPeace 113 = .ok (.if_icmp .eq 7, 3) := by decide +kernel
theorem dX2_readPeace_116 : decode cX2_readPeace 116 = .ok (.iconst 1, 1) := by decide +kernel
theorem dX2_readPeace_117 : decode cX2_readPeace 117 = .ok (.goto 4, 3) := by decide +kernel
theorem dX2_readPeace_120 : decode cX2_readPeace 120 = .ok (.iconst 0, 1) := by decide +kernel
theorem dX2_readPeace_121 : decode cX2_readPeace 121 = .ok (.ireturn, 1) := by decide +kernel
theorem dX2_readItem_0 : decode cX2_readItem 0 = .ok (.aload_n 0, 1) := by decide +kernel
theorem dX2_readItem_1 : decode cX2_readItem 1 = .ok (.invokevirtual 49, 3) := by decide +kernel
theorem dX2_readItem_4 : decode cX2_readItem 4 = .ok (.bipush 120, 2) := by decide +kernel
theorem dX2_readItem_6 : decode cX2_readItem 6 = .ok (.if_icmp .ne 10, 3) := by decide +kernel
theorem dX2_readItem_9 : decode cX2_readItem 9 = .ok (.aload_n 0, 1) := by decide +kernel
theorem dX2_readItem_10 : decode cX2_readItem 10 = .ok (.invokevirtual 75, 3) := by decide +kernel
theorem dX2_readItem_13 : decode cX2_readItem 13 = .ok (.goto 7, 3) := by decide +kernel
theorem dX2_readItem_16 : decode cX2_readItem 16 = .ok (.aload_n 0, 1) := by decide +kernel
theorem dX2_readItem_17 : decode cX2_readItem 17 = .ok (.invokevirtual 78, 3) := by decide +kernel
theorem dX2_readItem_20 : decode cX2_readItem 20 = .ok (.ireturn, 1) := by decide +kernel
theorem dX2_readHouse_0 : decode cX2_readHouse 0 = .ok (.aload_n 0, 1) := by decide +kernel
theorem dX2_readHouse_1 : decode cX2_readHouse 1 = .ok (.invokevirtual 49, 3) := by decide +kernel
theorem dX2_readHouse_4 : decode cX2_readHouse 4 = .ok (.invokestatic 81, 3) := by decide +kernel
theorem dX2_readHouse_7 : decode cX2_readHouse 7 = .ok (.istore_n 1, 1) := by decide +kernel
theorem dX2_readHouse_8 : decode cX2_readHouse 8 = .ok (.iload_n 1, 1) := by decide +kernel
theorem dX2_readHouse_9 : decode cX2_readHouse 9 = .ok (.iconst (-1), 1) := by decide +kernel
theorem dX2_readHouse_10 : decode cX2_readHouse 10 = .ok (.if_icmp .eq 25, 3) := by decide +kernel
theorem dX2_readHouse_13 : decode cX2_readHouse 13 = .ok (.aload_n 0, 1) := by decide +kernel
theorem dX2_readHouse_14 : decode cX2_readHouse 14 = .ok (.getfield 18, 3) := by decide +kernel
theorem dX2_readHouse_17 : decode cX2_readHouse 17 = .ok (.getfield 53, 3) := by decide +kernel
theorem dX2_readHouse_20 : decode cX2_readHouse 20 = .ok (.bipush 7, 2) := by decide +kernel
theorem dX2_readHouse_22 : decode cX2_readHouse 22 = .ok (.if_icmp .ge 13, 3) := by decide +kernel
theorem dX2_readHouse_25 : decode cX2_readHouse 25 = .ok (.aload_n 0, 1) := by decide +kernel
theorem dX2_readHouse_26 : decode cX2_readHouse 26 = .ok (.getfield 18, 3) := by decide +kernel
theorem dX2_readHouse_29 : decode cX2_readHouse 29 = .ok (.getfield 85, 3) := by decide +kernel
theorem dX2_readHouse_32 : decode cX2_readHouse 32 = .ok (.ifCond .le 5, 3) := by decide +kernel
theorem dX2_readHouse_35 : decode cX2_readHouse 35 = .ok (.iconst 0, 1) := by decide +kernel
theorem dX2_readHouse_36 : decode cX2_readHouse 36 = .ok (.ireturn, 1) := by decide +kernel
theorem dX2_readHouse_37 : decode cX2_readHouse 37 = .ok (.aload_n 0, 1) := by decide +kernel
theorem dX2_readHouse_38 : decode cX2_readHouse 38 = .ok (.dup, 1) := by decide +kernel
theorem dX2_readHouse_39 : decode cX2_readHouse 39 = .ok (.getfield 36, 3) := by decide +kernel
theorem dX2_readHouse_42 : decode cX2_readHouse 42 = .ok (.iconst 1, 1) := by decide +kernel
theorem dX2_readHouse_43 : decode cX2_readHouse 43 = .ok (.iadd, 1) := by decide +kernel
theorem dX2_readHouse_44 : decode cX2_readHouse 44 = .ok (.putfield 36, 3) := by decide +kernel
theorem dX2_readHouse_47 : decode cX2_readHouse 47 = .ok (.aload_n 0, 1) := by decide +kernel
theorem dX2_readHouse_48 : decode cX2_readHouse 48 = .ok (.iconst 0, 1) := by decide +kernel
theorem dX2_readHouse_49 : decode cX2_readHouse 49 = .ok (.bipush 9, 2) := by decide +kernel
theorem dX2_readHouse_51 : decode cX2_readHouse 51 = .ok (.invokevirtual 63, 3) := by decide +kernel
theorem dX2_readHouse_54 : decode cX2_readHouse 54 = .ok (.istore_n 2, 1) := by decide +kernel
theorem dX2_readHouse_55 : decode cX2_readHouse 55 = .ok (.iload_n 2, 1) := by decide +kernel
theorem dX2_readHouse_56 : decode cX2_readHouse 56 = .ok (.iconst (-1), 1) := by decide +kernel
theorem dX2_readHouse_57 : decode cX2_readHouse 57 = .ok (.if_icmp .ne 5, 3) := by decide +kernel
theorem dX2_readHouse_60 : decode cX2_readHouse 60 = .ok (.iconst 0, 1) := by decide +kernel
theorem dX2_readHouse_61 : decode cX2_readHouse 61 = .ok (.ireturn, 1) := by decide +kernel
theorem dX2_readHouse_62 : decode cX2_readHouse 62 = .ok (.aload_n 0, 1) := by decide +kernel
theorem dX2_readHouse_63 : decode cX2_readHouse 63 = .ok (.getfield 18, 3) := by decide +kernel
theorem dX2_readHouse_66 : decode cX2_readHouse 66 = .ok (.iload_n 1, 1) := by decide +kernel
theorem dX2_readHouse_67 : decode cX2_readHouse 67 = .ok (.iload_n 2, 1) := by decide +kernel
theorem dX2_readHouse_68 : decode cX2_readHouse 68 = .ok (.invokevirtual 88, 3) := by decide +kernel
theorem dX2_readHouse_71 : decode cX2_readHouse 71 = .ok (.iconst 1, 1) := by decide +kernel
theorem dX2_readHouse_72 : decode cX2_readHouse 72 = .ok (.ireturn, 1) := by decide +kernel
theorem dX2_readFeud_0 : decode cX2_readFeud 0 = .ok (.aload_n 0, 1) := by decide +kernel
theorem dX2_readFeud_1 : decode cX2_readFeud 1 = .ok (.getfield 18, 3) := by decide +kernel
theorem dX2_readFeud_4 : decode cX2_readFeud 4 = .ok (.getfield 53, 3) := by decide +kernel
theorem dX2_readFeud_7 : decode cX2_readFeud 7 = .ok (.ifCond .ne 5, 3) := by decide +kernel
theorem dX2_readFeud_10 : decode cX2_readFeud 10 = .ok (.iconst 0, 1) := by decide +kernel
theorem dX2_readFeud_11 : decode cX2_readFeud 11 = .ok (.ireturn, 1) := by decide +kernel
theorem dX2_readFeud_12 : decode cX2_readFeud 12 = .ok (.aload_n 0, 1) := by decide +kernel
theorem dX2_readFeud_13 : decode cX2_readFeud 13 = .ok (.dup, 1) := by decide +kernel
theorem dX2_readFeud_14 : decode cX2_readFeud 14 = .ok (.getfield 36, 3) := by decide +kernel
theorem dX2_readFeud_17 : decode cX2_readFeud 17 = .ok (.iconst 1, 1) := by decide +kernel
theorem dX2_readFeud_18 : decode cX2_readFeud 18 = .ok (.iadd, 1) := by decide +kernel
theorem dX2_readFeud_19 : decode cX2_readFeud 19 = .ok (.putfield 36, 3) := by decide +kernel
theorem dX2_readFeud_22 : decode cX2_readFeud 22 = .ok (.aload_n 0, 1) := by decide +kernel
theorem dX2_readFeud_23 : decode cX2_readFeud 23 = .ok (.iconst 0, 1) := by decide +kernel
theorem dX2_readFeud_24 : decode cX2_readFeud 24 = .ok (.aload_n 0, 1) := by decide +kernel
theorem dX2_readFeud_25 : decode cX2_readFeud 25 = .ok (.getfield 18, 3) := by decide +kernel
theorem dX2_readFeud_28 : decode cX2_readFeud 28 = .ok (.getfield 53, 3) := by decide +kernel
theorem dX2_readFeud_31 : decode cX2_readFeud 31 = .ok (.iconst 1, 1) := by decide +kernel
theorem dX2_readFeud_32 : decode cX2_readFeud 32 = .ok (.isub, 1) := by decide +kernel
theorem dX2_readFeud_33 : decode cX2_readFeud 33 = .ok (.invokevirtual 63, 3) := by decide +kernel
theorem dX2_readFeud_36 : decode cX2_readFeud 36 = .ok (.istore_n 1, 1) := by decide +kernel
theorem dX2_readFeud_37 : decode cX2_readFeud 37 = .ok (.iload_n 1, 1) := by decide +kernel
theorem dX2_readFeud_38 : decode cX2_readFeud 38 = .ok (.iconst (-1), 1) := by decide +kernel
theorem dX2_readFeud_39 : decode cX2_readFeud 39 = .ok (.if_icmp .ne 5, 3) := by decide +kernel
theorem dX2_readFeud_42 : decode cX2_readFeud 42 = .ok (.iconst 0, 1) := by decide +kernel
theorem dX2_readFeud_43 : decode cX2_readFeud 43 = .ok (.ireturn, 1) := by decide +kernel
theorem dX2_readFeud_44 : decode cX2_readFeud 44 = .ok (.aload_n 0, 1) := by decide +kernel
theorem dX2_readFeud_45 : decode cX2_readFeud 45 = .ok (.iload_n 1, 1) := by decide +kernel
theorem dX2_readFeud_46 : decode cX2_readFeud 46 = .ok (.iconst 1, 1) := by decide +kernel
theorem dX2_readFeud_47 : decode cX2_readFeud 47 = .ok (.iadd, 1) := by decide +kernel
theorem dX2_readFeud_48 : decode cX2_readFeud 48 = .ok (.aload_n 0, 1) := by decide +kernel
theorem dX2_readFeud_49 : decode cX2_readFeud 49 = .ok (.getfield 18, 3) := by decide +kernel
theorem dX2_readFeud_52 : decode cX2_readFeud 52 = .ok (.getfield 53, 3) := by decide +kernel
theorem dX2_readFeud_55 : decode cX2_readFeud 55 = .ok (.iconst 1, 1) := by decide +kernel
theorem dX2_readFeud_56 : decode cX2_readFeud 56 = .ok (.isub, 1) := by decide +kernel
theorem dX2_readFeud_57 : decode cX2_readFeud 57 = .ok (.invokevirtual 59, 3) := by decide +kernel
theorem dX2_readFeud_60 : decode cX2_readFeud 60 = .ok (.istore_n 2, 1) := by decide +kernel
theorem dX2_readFeud_61 : decode cX2_readFeud 61 = .ok (.iload_n 2, 1) := by decide +kernel
theorem dX2_readFeud_62 : decode cX2_readFeud 62 = .ok (.iconst (-1), 1) := by decide +kernel
theorem dX2_readFeud_63 : decode cX2_readFeud 63 = .ok (.if_icmp .eq 19, 3) := by decide +kernel
theorem dX2_readFeud_66 : decode cX2_readFeud 66 = .ok (.iload_n 2, 1) := by decide +kernel
theorem dX2_readFeud_67 : decode cX2_readFeud 67 = .ok (.aload_n 0, 1) := by decide +kernel
theorem dX2_readFeud_68 : decode cX2_readFeud 68 = .ok (.getfield 18, 3) := by decide +kernel
theorem dX2_readFeud_71 : decode cX2_readFeud 71 = .ok (.getfield 92, 3) := by decide +kernel
theorem dX2_readFeud_74 : decode cX2_readFeud 74 = .ok (.iload_n 1, 1) := by decide +kernel
theorem dX2_readFeud_75 : decode cX2_readFeud 75 = .ok (.iaload, 1) := by decide +kernel
theorem dX2_readFeud_76 : decode cX2_readFeud 76 = .ok (.invokestatic 95, 3) := by decide +kernel
theorem dX2_readFeud_79 : decode cX2_readFeud 79 = .ok (.ifCond .eq 5, 3) := by decide +kernel
theorem dX2_readFeud_82 : decode cX2_readFeud 82 = .ok (.iconst 0, 1) := by decide +kernel
theorem dX2_readFeud_83 : decode cX2_readFeud 83 = .ok (.ireturn, 1) := by decide +kernel
theorem dX2_readFeud_84 : decode cX2_readFeud 84 = .ok (.aload_n 0, 1) := by decide +kernel
theorem dX2_readFeud_85 : decode cX2_readFeud 85 = .ok (.dup, 1) := by decide +kernel
theorem dX2_readFeud_86 : decode cX2_readFeud 86 = .ok (.getfield 36, 3) := by decide +kernel
theorem dX2_readFeud_89 : decode cX2_readFeud 89 = .ok (.iconst 1, 1) := by decide +kernel
theorem dX2_readFeud_90 : decode cX2_readFeud 90 = .ok (.iadd, 1) := by decide +kernel
theorem dX2_readFeud_91 : decode cX2_readFeud 91 = .ok (.putfield 36, 3) := by decide +kernel
theorem dX2_readFeud_94 : decode cX2_readFeud 94 = .ok (.aload_n 0, 1) := by decide +kernel
theorem dX2_readFeud_95 : decode cX2_readFeud 95 = .ok (.getfield 18, 3) := by decide +kernel
theorem dX2_readFeud_98 : decode cX2_readFeud 98 = .ok (.iload_n 1, 1) := by decide +kernel
theorem dX2_readFeud_99 : decode cX2_readFeud 99 = .ok (.iload_n 2, 1) := by decide +kernel
theorem dX2_readFeud_100 : decode cX2_readFeud 100 = .ok (.invokevirtual 99, 3) := by decide +kernel
theorem dX2_readFeud_103 : decode cX2_readFeud 103 = .ok (.iconst 1, 1) := by decide +kernel
theorem dX2_readFeud_104 : decode cX2_readFeud 104 = .ok (.ireturn, 1) := by decide +kernel
theorem dX2_kindOf_0 : decode cX2_kindOf 0 = .ok (.iconst 0, 1) := by decide +kernel
theorem dX2_kindOf_1 : decode cX2_kindOf 1 = .ok (.istore_n 1, 1) := by decide +kernel
theorem dX2_kindOf_2 : decode cX2_kindOf 2 = .ok (.iload_n 1, 1) := by decide +kernel
theorem dX2_kindOf_3 : decode cX2_kindOf 3 = .ok (.iconst 5, 1) := by decide +kernel
theorem dX2_kindOf_4 : decode cX2_kindOf 4 = .ok (.if_icmp .gt 21, 3) := by decide +kernel
theorem dX2_kindOf_7 : decode cX2_kindOf 7 = .ok (.ldc 102, 2) := by decide +kernel
theorem dX2_kindOf_9 : decode cX2_kindOf 9 = .ok (.iload_n 1, 1) := by decide +kernel
theorem dX2_kindOf_10 : decode cX2_kindOf 10 = .ok (.invokevirtual 104, 3) := by decide +kernel
theorem dX2_kindOf_13 : decode cX2_kindOf 13 = .ok (.iload_n 0, 1) := by decide +kernel
theorem dX2_kindOf_14 : decode cX2_kindOf 14 = .ok (.if_icmp .ne 5, 3) := by decide +kernel
theorem dX2_kindOf_17 : decode cX2_kindOf 17 = .ok (.iload_n 1, 1) := by decide +kernel
theorem dX2_kindOf_18 : decode cX2_kindOf 18 = .ok (.ireturn, 1) := by decide +kernel
theorem dX2_kindOf_19 : decode cX2_kindOf 19 = .ok (.iinc 1 1, 3) := by decide +kernel
theorem dX2_kindOf_22 : decode cX2_kindOf 22 = .ok (.goto (-20), 3) := by decide +kernel
theorem dX2_kindOf_25 : decode cX2_kindOf 25 = .ok (.iconst (-1), 1) := by decide +kernel
theorem dX2_kindOf_26 : decode cX2_kindOf 26 = .ok (.ireturn, 1) := by decide +kernel
theorem dX3_init_0 : decode cX3_init 0 = .ok (.aload_n 0, 1) := by decide +kernel
theorem dX3_init_1 : decode cX3_init 1 = .ok (.invokespecial 3, 3) := by decide +kernel
theorem dX3_init_4 : decode cX3_init 4 = .ok (.aload_n 0, 1) := by decide +kernel
theorem dX3_init_5 : decode cX3_init 5 = .ok (.iload_n 2, 1) := by decide +kernel
theorem dX3_init_6 : decode cX3_init 6 = .ok (.putfield 9, 3) := by decide +kernel
theorem dX3_init_9 : decode cX3_init 9 = .ok (.aload_n 0, 1) := by decide +kernel
theorem dX3_init_10 : decode cX3_init 10 = .ok (.iload_n 1, 1) := by decide +kernel
theorem dX3_init_11 : decode cX3_init 11 = .ok (.iload_n 2, 1) := by decide +kernel
theorem dX3_init_12 : decode cX3_init 12 = .ok (.multianewarray 15 2, 4) := by decide +kernel
theorem dX3_init_16 : decode cX3_init 16 = .ok (.putfield 17, 3) := by decide +kernel
theorem dX3_init_19 : decode cX3_init 19 = .ok (.aload_n 0, 1) := by decide +kernel
theorem dX3_init_20 : decode cX3_init 20 = .ok (.iload_n 1, 1) := by decide +kernel
theorem dX3_init_21 : decode cX3_init 21 = .ok (.newarray .int, 2) := by decide +kernel
theorem dX3_init_23 : decode cX3_init 23 = .ok (.putfield 20, 3) := by decide +kernel
theorem dX3_init_26 : decode cX3_init 26 = .ok (.aload_n 0, 1) := by decide +kernel
theorem dX3_init_27 : decode cX3_init 27 = .ok (.getfield 20, 3) := by decide +kernel
theorem dX3_init_30 : decode cX3_init 30 = .ok (.iconst (-1), 1) := by decide +kernel
theorem dX3_init_31 : decode cX3_init 31 = .ok (.invokestatic 24, 3) := by decide +kernel
theorem dX3_init_34 : decode cX3_init 34 = .ok (.return_, 1) := by decide +kernel
theorem dX3_isNumber_0 : decode cX3_isNumber 0 = .ok (.iload_n 1, 1) := by decide +kernel
theorem dX3_isNumber_1 : decode cX3_isNumber 1 = .ok (.ifCond .lt 16, 3) := by decide +kernel
theorem dX3_isNumber_4 : decode cX3_isNumber 4 = .ok (.iload_n 1, 1) := by decide +kernel
theorem dX3_isNumber_5 : decode cX3_isNumber 5 = .ok (.aload_n 0, 1) := by decide +kernel
theorem dX3_isNumber_6 : decode cX3_isNumber 6 = .ok (.getfield 20, 3) := by decide +kernel
theorem dX3_isNumber_9 : decode cX3_isNumber 9 = .ok (.arraylength, 1) := by decide +kernel
theorem dX3_isNumber_10 : decode cX3_isNumber 10 = .ok (.if_icmp .ge 7, 3) := by decide +kernel
theorem dX3_isNumber_13 : decode cX3_isNumber 13 = .ok (.iconst 1, 1) := by decide +kernel
theorem dX3_isNumber_14 : decode cX3_isNumber 14 = .ok (.goto 4, 3) := by decide +kernel
theorem dX3_isNumber_17 : decode cX3_isNumber 17 = .ok (.iconst 0, 1) := by decide +kernel
theorem dX3_isNumber_18 : decode cX3_isNumber 18 = .ok (.ireturn, 1) := by decide +kernel
theorem dX3_isThere_0 : decode cX3_isThere 0 = .ok (.aload_n 0, 1) := by decide +kernel
theorem dX3_isThere_1 : decode cX3_isThere 1 = .ok (.iload_n 1, 1) := by decide +kernel
theorem dX3_isThere_2 : decode cX3_isThere 2 = .ok (.invokevirtual 30, 3) := by decide +kernel
theorem dX3_isThere_5 : decode cX3_isThere 5 = .ok (.ifCond .eq 17, 3) := by decide +kernel
theorem dX3_isThere_8 : decode cX3_isThere 8 = .ok (.aload_n 0, 1) := by decide +kernel
theorem dX3_isThere_9 : decode cX3_isThere 9 = .ok (.getfield 20, 3) := by decide +kernel
theorem dX3_isThere_12 : decode cX3_isThere 12 = .ok (.iload_n 1, 1) := by decide +kernel
theorem dX3_isThere_13 : decode cX3_isThere 13 = .ok (.iaload, 1) := by decide +kernel
theorem dX3_isThere_14 : decode cX3_isThere 14 = .ok (.iconst (-1), 1) := by decide +kernel
theorem dX3_isThere_15 : decode cX3_isThere 15 = .ok (.if_icmp .eq 7, 3) := by decide +kernel
theorem dX3_isThere_18 : decode cX3_isThere 18 = .ok (.iconst 1, 1) := by decide +kernel
theorem dX3_isThere_19 : decode cX3_isThere 19 = .ok (.goto 4, 3) := by decide +kernel
theorem dX3_isThere_22 : decode cX3_isThere 22 = .ok (.iconst 0, 1) := by decide +kernel
theorem dX3_isThere_23 : decode cX3_isThere 23 = .ok (.ireturn, 1) := by decide +kernel
theorem dX3_isPlace_0 : decode cX3_isPlace 0 = .ok (.aload_n 0, 1) := by decide +kernel
theorem dX3_isPlace_1 : decode cX3_isPlace 1 = .ok (.iload_n 1, 1) := by decide +kernel
theorem dX3_isPlace_2 : decode cX3_isPlace 2 = .ok (.invokevirtual 34, 3) := by decide +kernel
theorem dX3_isPlace_5 : decode cX3_isPlace 5 = .ok (.ifCond .eq 21, 3) := by decide +kernel
theorem dX3_isPlace_8 : decode cX3_isPlace 8 = .ok (.iload_n 2, 1) := by decide +kernel
theorem dX3_isPlace_9 : decode cX3_isPlace 9 = .ok (.ifCond .lt 17, 3) := by decide +kernel
theorem dX3_isPlace_12 : decode cX3_isPlace 12 = .ok (.iload_n 2, 1) := by decide +kernel
theorem dX3_isPlace_13 : decode cX3_isPlace 13 = .ok (.aload_n 0, 1) := by decide +kernel
theorem dX3_isPlace_14 : decode cX3_isPlace 14 = .ok (.getfield 20, 3) := by decide +kernel
theorem dX3_isPlace_17 : decode cX3_isPlace 17 = .ok (.iload_n 1, 1) := by decide +kernel
theorem dX3_isPlace_18 : decode cX3_isPlace 18 = .ok (.iaload, 1) := by decide +kernel
theorem dX3_isPlace_19 : decode cX3_isPlace 19 = .ok (.if_icmp .ge 7, 3) := by decide +kernel
theorem dX3_isPlace_22 : decode cX3_isPlace 22 = .ok (.iconst 1, 1) := by decide +kernel
theorem dX3_isPlace_23 : decode cX3_isPlace 23 = .ok (.goto 4, 3) := by decide +kernel
theorem dX3_isPlace_26 : decode cX3_isPlace 26 = .ok (.iconst 0, 1) := by decide +kernel
theorem dX3_isPlace_27 : decode cX3_isPlace 27 = .ok (.ireturn, 1) := by decide +kernel
theorem dX3_hasRun_0 : decode cX3_hasRun 0 = .ok (.aload_n 0, 1) := by decide +kernel
theorem dX3_hasRun_1 : decode cX3_hasRun 1 = .ok (.iload_n 1, 1) := by decide +kernel
theorem dX3_hasRun_2 : decode cX3_hasRun 2 = .ok (.invokevirtual 34, 3) := by decide +kernel
theorem dX3_hasRun_5 : decode cX3_hasRun 5 = .ok (.ifCond .eq 27, 3) := by decide +kernel
theorem dX3_hasRun_8 : decode cX3_hasRun 8 = .ok (.iload_n 3, 1) := by decide +kernel
theorem dX3_hasRun_9 : decode cX3_hasRun 9 = .ok (.ifCond .lt 23, 3) := by decide +kernel
theorem dX3_hasRun_12 : decode cX3_hasRun 12 = .ok (.iload_n 2, 1) := by decide +kernel
theorem dX3_hasRun_13 : decode cX3_hasRun 13 = .ok (.ifCond .lt 19, 3) := by decide +kernel
theorem dX3_hasRun_16 : decode cX3_hasRun 16 = .ok (.iload_n 2, 1) := by decide +kernel
theorem dX3_hasRun_17 : decode cX3_hasRun 17 = .ok (.aload_n 0, 1) := by decide +kernel
theorem dX3_hasRun_18 : decode cX3_hasRun 18 = .ok (.getfield 20, 3) := by decide +kernel
theorem dX3_hasRun_21 : decode cX3_hasRun 21 = .ok (.iload_n 1, 1) := by decide +kernel
theorem dX3_hasRun_22 : decode cX3_hasRun 22 = .ok (.iaload, 1) := by decide +kernel
theorem dX3_hasRun_23 : decode cX3_hasRun 23 = .ok (.iload_n 3, 1) := by decide +kernel
theorem dX3_hasRun_24 : decode cX3_hasRun 24 = .ok (.isub, 1) := by decide +kernel
theorem dX3_hasRun_25 : decode cX3_hasRun 25 = .ok (.if_icmp .gt 7, 3) := by decide +kernel
theorem dX3_hasRun_28 : decode cX3_hasRun 28 = .ok (.iconst 1, 1) := by decide +kernel
theorem dX3_hasRun_29 : decode cX3_hasRun 29 = .ok (.goto 4, 3) := by decide +kernel
theorem dX3_hasRun_32 : decode cX3_hasRun 32 = .ok (.iconst 0, 1) := by decide +kernel
theorem dX3_hasRun_33 : decode cX3_hasRun 33 = .ok (.ireturn, 1) := by decide +kernel
theorem dX3_sizeOf_0 : decode cX3_sizeOf 0 = .ok (.aload_n 0, 1) := by decide +kernel
theorem dX3_sizeOf_1 : decode cX3_sizeOf 1 = .ok (.iload_n 1, 1) := by decide +kernel
theorem dX3_sizeOf_2 : decode cX3_sizeOf 2 = .ok (.invokevirtual 30, 3) := by decide +kernel
theorem dX3_sizeOf_5 : decode cX3_sizeOf 5 = .ok (.ifCond .eq 12, 3) := by decide +kernel
theorem dX3_sizeOf_8 : decode cX3_sizeOf 8 = .ok (.aload_n 0, 1) := by decide +kernel
theorem dX3_sizeOf_9 : decode cX3_sizeOf 9 = .ok (.getfield 20, 3) := by decide +kernel
theorem dX3_sizeOf_12 : decode cX3_sizeOf 12 = .ok (.iload_n 1, 1) := by decide +kernel
theorem dX3_sizeOf_13 : decode cX3_sizeOf 13 = .ok (.iaload, 1) := by decide +kernel
theorem dX3_sizeOf_14 : decode cX3_sizeOf 14 = .ok (.goto 4, 3) := by decide +kernel
theorem dX3_sizeOf_17 : decode cX3_sizeOf 17 = .ok (.iconst (-1), 1) := by decide +kernel
theorem dX3_sizeOf_18 : decode cX3_sizeOf 18 = .ok (.ireturn, 1) := by decide +kernel
theorem dX3_get_0 : decode cX3_get 0 = .ok (.aload_n 0, 1) := by decide +kernel
theorem dX3_get_1 : decode cX3_get 1 = .ok (.iload_n 1, 1) := by decide +kernel
theorem dX3_get_2 : decode cX3_get 2 = .ok (.iload_n 2, 1) := by decide +kernel
theorem dX3_get_3 : decode cX3_get 3 = .ok (.invokevirtual 37, 3) := by decide +kernel
theorem dX3_get_6 : decode cX3_get 6 = .ok (.ifCond .eq 14, 3) := by decide +kernel
theorem dX3_get_9 : decode cX3_get 9 = .ok (.aload_n 0, 1) := by decide +kernel
theorem dX3_get_10 : decode cX3_get 10 = .ok (.getfield 17, 3) := by decide +kernel
theorem dX3_get_13 : decode cX3_get 13 = .ok (.iload_n 1, 1) := by decide +kernel
theorem dX3_get_14 : decode cX3_get 14 = .ok (.aaload, 1) := by decide +kernel
theorem dX3_get_15 : decode cX3_get 15 = .ok (.iload_n 2, 1) := by decide +kernel
theorem dX3_get_16 : decode cX3_get 16 = .ok (.iaload, 1) := by decide +kernel
theorem dX3_get_17 : decode cX3_get 17 = .ok (.goto 4, 3) := by decide +kernel
theorem dX3_get_20 : decode cX3_get 20 = .ok (.iconst 0, 1) := by decide +kernel
theorem dX3_get_21 : decode cX3_get 21 = .ok (.ireturn, 1) := by decide +kernel
theorem dX3_set_0 : decode cX3_set 0 = .ok (.aload_n 0, 1) := by decide +kernel
theorem dX3_set_1 : decode cX3_set 1 = .ok (.iload_n 1, 1) := by decide +kernel
theorem dX3_set_2 : decode cX3_set 2 = .ok (.iload_n 2, 1) := by decide +kernel
theorem dX3_set_3 : decode cX3_set 3 = .ok (.invokevirtual 37, 3) := by decide +kernel
theorem dX3_set_6 : decode cX3_set 6 = .ok (.ifCond .eq 12, 3) := by decide +kernel
theorem dX3_set_9 : decode cX3_set 9 = .ok (.aload_n 0, 1) := by decide +kernel
theorem dX3_set_10 : decode cX3_set 10 = .ok (.getfield 17, 3) := by decide +kernel
theorem dX3_set_13 : decode cX3_set 13 = .ok (.iload_n 1, 1) := by decide +kernel
theorem dX3_set_14 : decode cX3_set 14 = .ok (.aaload, 1) := by decide +kernel
theorem dX3_set_15 : decode cX3_set 15 = .ok (.iload_n 2, 1) := by decide +kernel
theorem dX3_set_16 : decode cX3_set 16 = .ok (.iload_n 3, 1) := by decide +kernel
theorem dX3_set_17 : decode cX3_set 17 = .ok (.iastore, 1) := by decide +kernel
theorem dX3_set_18 : decode cX3_set 18 = .ok (.return_, 1) := by decide +kernel
theorem dX3_make_0 : decode cX3_make 0 = .ok (.aload_n 0, 1) := by decide +kernel
theorem dX3_make_1 : decode cX3_make 1 = .ok (.iload_n 1, 1) := by decide +kernel
theorem dX3_make_2 : decode cX3_make 2 = .ok (.invokevirtual 30, 3) := by decide +kernel
theorem dX3_make_5 : decode cX3_make 5 = .ok (.ifCond .eq 32, 3) := by decide +kernel
theorem dX3_make_8 : decode cX3_make 8 = .ok (.iload_n 2, 1) := by decide +kernel
theorem dX3_make_9 : decode cX3_make 9 = .ok (.ifCond .lt 28, 3) := by decide +kernel
theorem dX3_make_12 : decode cX3_make 12 = .ok (.iload_n 2, 1) := by decide +kernel
theorem dX3_make_13 : decode cX3_make 13 = .ok (.aload_n 0, 1) := by decide +kernel
theorem dX3_make_14 : decode cX3_make 14 = .ok (.getfield 9, 3) := by decide +kernel
theorem dX3_make_17 : decode cX3_make 17 = .ok (.if_icmp .gt 20, 3) := by decide +kernel
theorem dX3_make_20 : decode cX3_make 20 = .ok (.aload_n 0, 1) := by decide +kernel
theorem dX3_make_21 : decode cX3_make 21 = .ok (.getfield 20, 3) := by decide +kernel
theorem dX3_make_24 : decode cX3_make 24 = .ok (.iload_n 1, 1) := by decide +kernel
theorem dX3_make_25 : decode cX3_make 25 = .ok (.iload_n 2, 1) := by decide +kernel
theorem dX3_make_26 : decode cX3_make 26 = .ok (.iastore, 1) := by decide +kernel
theorem dX3_make_27 : decode cX3_make 27 = .ok (.aload_n 0, 1) := by decide +kernel
theorem dX3_make_28 : decode cX3_make 28 = .ok (.getfield 17, 3) := by decide +kernel
theorem dX3_make_31 : decode cX3_make 31 = .ok (.iload_n 1, 1) := by decide +kernel
theorem dX3_make_32 : decode cX3_make 32 = .ok (.aaload, 1) := by decide +kernel
theorem dX3_make_33 : decode cX3_make 33 = .ok (.iload_n 3, 1) := by decide +kernel
theorem dX3_make_34 : decode cX3_make 34 = .ok (.invokestatic 24, 3) := by decide +kernel
theorem dX3_make_37 : decode cX3_make 37 = .ok (.return_, 1) := by decide +kernel
theorem dX3_drop_0 : decode cX3_drop 0 = .ok (.aload_n 0, 1) := by decide +kernel
theorem dX3_drop_1 : decode cX3_drop 1 = .ok (.iload_n 1, 1) := by decide +kernel
theorem dX3_drop_2 : decode cX3_drop 2 = .ok (.invokevirtual 30, 3) := by decide +kernel
theorem dX3_drop_5 : decode cX3_drop 5 = .ok (.ifCond .eq 10, 3) := by decide +kernel
theorem dX3_drop_8 : decode cX3_drop 8 = .ok (.aload_n 0, 1) := by decide +kernel
theorem dX3_drop_9 : decode cX3_drop 9 = .ok (.getfield 20, 3) := by decide +kernel
theorem dX3_drop_12 : decode cX3_drop 12 = .ok (.iload_n 1, 1) := by decide +kernel
theorem dX3_drop_13 : decode cX3_drop 13 = .ok (.iconst (-1), 1) := by decide +kernel
theorem dX3_drop_14 : decode cX3_drop 14 = .ok (.iastore, 1) := by decide +kernel
theorem dX3_drop_15 : decode cX3_drop 15 = .ok (.return_, 1) := by decide +kernel
theorem dX3_move_0 : decode cX3_move 0 = .ok (.aload_n 0, 1) := by decide +kernel
theorem dX3_move_1 : decode cX3_move 1 = .ok (.iload_n 1, 1) := by decide +kernel
theorem dX3_move_2 : decode cX3_move 2 = .ok (.iload_n 2, 1) := by decide +kernel
theorem dX3_move_3 : decode cX3_move 3 = .ok (.iload 5, 2) := by decide +kernel
theorem dX3_move_5 : decode cX3_move 5 = .ok (.invokevirtual 41, 3) := by decide +kernel
theorem dX3_move_8 : decode cX3_move 8 = .ok (.ifCond .eq 35, 3) := by decide +kernel
theorem dX3_move_11 : decode cX3_move 11 = .ok (.aload_n 0, 1) := by decide +kernel
theorem dX3_move_12 : decode cX3_move 12 = .ok (.iload_n 3, 1) := by decide +kernel
theorem dX3_move_13 : decode cX3_move 13 = .ok (.iload 4, 2) := by decide +kernel
theorem dX3_move_15 : decode cX3_move 15 = .ok (.iload 5, 2) := by decide +kernel
theorem dX3_move_17 : decode cX3_move 17 = .ok (.invokevirtual 41, 3) := by decide +kernel
theorem dX3_move_20 : decode cX3_move 20 = .ok (.ifCond .eq 23, 3) := by decide +kernel
theorem dX3_move_23 : decode cX3_move 23 = .ok (.aload_n 0, 1) := by decide +kernel
theorem dX3_move_24 : decode cX3_move 24 = .ok (.getfield 17, 3) := by decide +kernel
theorem dX3_move_27 : decode cX3_move 27 = .ok (.iload_n 1, 1) := by decide +kernel
theorem dX3_move_28 : decode cX3_move 28 = .ok (.aaload, 1) := by decide +kernel
theorem dX3_move_29 : decode cX3_move 29 = .ok (.iload_n 2, 1) := by decide +kernel
theorem dX3_move_30 : decode cX3_move 30 = .ok (.aload_n 0, 1) := by decide +kernel
theorem dX3_move_31 : decode cX3_move 31 = .ok (.getfield 17, 3) := by decide +kernel
theorem dX3_move_34 : decode cX3_move 34 = .ok (.iload_n 3, 1) := by decide +kernel
theorem dX3_move_35 : decode cX3_move 35 = .ok (.aaload, 1) := by decide +kernel
theorem dX3_move_36 : decode cX3_move 36 = .ok (.iload 4, 2) := by decide +kernel
theorem dX3_move_38 : decode cX3_move 38 = .ok (.iload 5, 2) := by decide +kernel
theorem dX3_move_40 : decode cX3_move 40 = .ok (.invokestatic 45, 3) := by decide +kernel
theorem dX3_move_43 : decode cX3_move 43 = .ok (.return_, 1) := by decide +kernel
theorem dX3_copyInto_0 : decode cX3_copyInto 0 = .ok (.iconst 0, 1) := by decide +kernel
theorem dX3_copyInto_1 : decode cX3_copyInto 1 = .ok (.aload_n 0, 1) := by decide +kernel
theorem dX3_copyInto_2 : decode cX3_copyInto 2 = .ok (.iload_n 1, 1) := by decide +kernel
theorem dX3_copyInto_3 : decode cX3_copyInto 3 = .ok (.invokevirtual 51, 3) := by decide +kernel
theorem dX3_copyInto_6 : decode cX3_copyInto 6 = .ok (.aload_n 2, 1) := by decide +kernel
theorem dX3_copyInto_7 : decode cX3_copyInto 7 = .ok (.arraylength, 1) := by decide +kernel
theorem dX3_copyInto_8 : decode cX3_copyInto 8 = .ok (.invokestatic 55, 3) := by decide +kernel
theorem dX3_copyInto_11 : decode cX3_copyInto 11 = .ok (.invokestatic 61, 3) := by decide +kernel
theorem dX3_copyInto_14 : decode cX3_copyInto 14 = .ok (.istore_n 3, 1) := by decide +kernel
theorem dX3_copyInto_15 : decode cX3_copyInto 15 = .ok (.aload_n 0, 1) := by decide +kernel
theorem dX3_copyInto_16 : decode cX3_copyInto 16 = .ok (.iload_n 1, 1) := by decide +kernel
theorem dX3_copyInto_17 : decode cX3_copyInto 17 = .ok (.iconst 0, 1) := by decide +kernel
theorem dX3_copyInto_18 : decode cX3_copyInto 18 = .ok (.iload_n 3, 1) := by decide +kernel
theorem dX3_copyInto_19 : decode cX3_copyInto 19 = .ok (.invokevirtual 41, 3) := by decide +kernel
theorem dX3_copyInto_22 : decode cX3_copyInto 22 = .ok (.ifCond .eq 16, 3) := by decide +kernel
theorem dX3_copyInto_25 : decode cX3_copyInto 25 = .ok (.aload_n 0, 1) := by decide +kernel
theorem dX3_copyInto_26 : decode cX3_copyInto 26 = .ok (.getfield 17, 3) := by decide +kernel
theorem dX3_copyInto_29 : decode cX3_copyInto 29 = .ok (.iload_n 1, 1) := by decide +kernel
theorem dX3_copyInto_30 : decode cX3_copyInto 30 = .ok (.aaload, 1) := by decide +kernel
theorem dX3_copyInto_31 : decode cX3_copyInto 31 = .ok (.iconst 0, 1) := by decide +kernel
theorem dX3_copyInto_32 : decode cX3_copyInto 32 = .ok (.aload_n 2, 1) := by decide +kernel
theorem dX3_copyInto_33 : decode cX3_copyInto 33 = .ok (.iconst 0, 1) := by decide +kernel
theorem dX3_copyInto_34 : decode cX3_copyInto 34 = .ok (.iload_n 3, 1) := by decide +kernel
theorem dX3_copyInto_35 : decode cX3_copyInto 35 = .ok (.invokestatic 45, 3) := by decide +kernel
theorem dX3_copyInto_38 : decode cX3_copyInto 38 = .ok (.iload_n 3, 1) := by decide +kernel
theorem dX3_copyInto_39 : decode cX3_copyInto 39 = .ok (.ireturn, 1) := by decide +kernel
theorem dX3_sumOf_0 : decode cX3_sumOf 0 = .ok (.lconst 0, 1) := by decide +kernel
theorem dX3_sumOf_1 : decode cX3_sumOf 1 = .ok (.lstore_n 2, 1) := by decide +kernel
theorem dX3_sumOf_2 : decode cX3_sumOf 2 = .ok (.iconst 0, 1) := by decide +kernel
theorem dX3_sumOf_3 : decode cX3_sumOf 3 = .ok (.istore 4, 2) := by decide +kernel
theorem dX3_sumOf_5 : decode cX3_sumOf 5 = .ok (.iload 4, 2) := by decide +kernel
theorem dX3_sumOf_7 : decode cX3_sumOf 7 = .ok (.aload_n 0, 1) := by decide +kernel
theorem dX3_sumOf_8 : decode cX3_sumOf 8 = .ok (.iload_n 1, 1) := by decide +kernel
theorem dX3_sumOf_9 : decode cX3_sumOf 9 = .ok (.invokevirtual 51, 3) := by decide +kernel
theorem dX3_sumOf_12 : decode cX3_sumOf 12 = .ok (.if_icmp .ge 20, 3) := by decide +kernel
theorem dX3_sumOf_15 : decode cX3_sumOf 15 = .ok (.lload_n 2, 1) := by decide +kernel
theorem dX3_sumOf_16 : decode cX3_sumOf 16 = .ok (.aload_n 0, 1) := by decide +kernel
theorem dX3_sumOf_17 : decode cX3_sumOf 17 = .ok (.iload_n 1, 1) := by decide +kernel
theorem dX3_sumOf_18 : decode cX3_sumOf 18 = .ok (.iload 4, 2) := by decide +kernel
theorem dX3_sumOf_20 : decode cX3_sumOf 20 = .ok (.invokevirtual 64, 3) := by decide +kernel
theorem dX3_sumOf_23 : decode cX3_sumOf 23 = .ok (.i2l, 1) := by decide +kernel
theorem dX3_sumOf_24 : decode cX3_sumOf 24 = .ok (.ladd, 1) := by decide +kernel
theorem dX3_sumOf_25 : decode cX3_sumOf 25 = .ok (.lstore_n 2, 1) := by decide +kernel
theorem dX3_sumOf_26 : decode cX3_sumOf 26 = .ok (.iinc 4 1, 3) := by decide +kernel
theorem dX3_sumOf_29 : decode cX3_sumOf 29 = .ok (.goto (-24), 3) := by decide +kernel
theorem dX3_sumOf_32 : decode cX3_sumOf 32 = .ok (.lload_n 2, 1) := by decide +kernel
theorem dX3_sumOf_33 : decode cX3_sumOf 33 = .ok (.lreturn, 1) := by decide +kernel
theorem dX3_howManyThere_0 : decode cX3_howManyThere 0 = .ok (.iconst 0, 1) := by decide +kernel
theorem dX3_howManyThere_1 : decode cX3_howManyThere 1 = .ok (.istore_n 1, 1) := by decide +kernel
theorem dX3_howManyThere_2 : decode cX3_howManyThere 2 = .ok (.iconst 0, 1) := by decide +kernel
theorem dX3_howManyThere_3 : decode cX3_howManyThere 3 = .ok (.istore_n 2, 1) := by decide +kernel
theorem dX3_howManyThere_4 : decode cX3_howManyThere 4 = .ok (.iload_n 2, 1) := by decide +kernel
theorem dX3_howManyThere_5 : decode cX3_howManyThere 5 = .ok (.aload_n 0, 1) := by decide +kernel
theorem dX3_howManyThere_6 : decode cX3_howManyThere 6 = .ok (.getfield 20, 3) := by decide +kernel
theorem dX3_howManyThere_9 : decode cX3_howManyThere 9 = .ok (.arraylength, 1) := by decide +kernel
theorem dX3_howManyThere_10 : decode cX3_howManyThere 10 = .ok (.if_icmp .ge 20, 3) := by decide +kernel
theorem dX3_howManyThere_13 : decode cX3_howManyThere 13 = .ok (.aload_n 0, 1) := by decide +kernel
theorem dX3_howManyThere_14 : decode cX3_howManyThere 14 = .ok (.iload_n 2, 1) := by decide +kernel
theorem dX3_howManyThere_15 : decode cX3_howManyThere 15 = .ok (.invokevirtual 34, 3) := by decide +kernel
theorem dX3_howManyThere_18 : decode cX3_howManyThere 18 = .ok (.ifCond .eq 6, 3) := by decide +kernel
theorem dX3_howManyThere_21 : decode cX3_howManyThere 21 = .ok (.iinc 1 1, 3) := by decide +kernel
theorem dX3_howManyThere_24 : decode cX3_howManyThere 24 = .ok (.iinc 2 1, 3) := by decide +kernel
theorem dX3_howManyThere_27 : decode cX3_howManyThere 27 = .ok (.goto (-23), 3) := by decide +kernel
theorem dX3_howManyThere_30 : decode cX3_howManyThere 30 = .ok (.iload_n 1, 1) := by decide +kernel
theorem dX3_howManyThere_31 : decode cX3_howManyThere 31 = .ok (.ireturn, 1) := by decide +kernel
theorem dX3_fold_0 : decode cX3_fold 0 = .ok (.lload_n 1, 1) := by decide +kernel
theorem dX3_fold_1 : decode cX3_fold 1 = .ok (.lstore_n 3, 1) := by decide +kernel
theorem dX3_fold_2 : decode cX3_fold 2 = .ok (.iconst 0, 1) := by decide +kernel
theorem dX3_fold_3 : decode cX3_fold 3 = .ok (.istore 5, 2) := by decide +kernel
theorem dX3_fold_5 : decode cX3_fold 5 = .ok (.iload 5, 2) := by decide +kernel
theorem dX3_fold_7 : decode cX3_fold 7 = .ok (.aload_n 0, 1) := by decide +kernel
theorem dX3_fold_8 : decode cX3_fold 8 = .ok (.getfield 20, 3) := by decide +kernel
theorem dX3_fold_11 : decode cX3_fold 11 = .ok (.arraylength, 1) := by decide +kernel
theorem dX3_fold_12 : decode cX3_fold 12 = .ok (.if_icmp .ge 61, 3) := by decide +kernel
theorem dX3_fold_15 : decode cX3_fold 15 = .ok (.ldc2_w 67, 3) := by decide +kernel
theorem dX3_fold_18 : decode cX3_fold 18 = .ok (.lload_n 3, 1) := by decide +kernel
theorem dX3_fold_19 : decode cX3_fold 19 = .ok (.lmul, 1) := by decide +kernel
theorem dX3_fold_20 : decode cX3_fold 20 = .ok (.aload_n 0, 1) := by decide +kernel
theorem dX3_fold_21 : decode cX3_fold 21 = .ok (.getfield 20, 3) := by decide +kernel
theorem dX3_fold_24 : decode cX3_fold 24 = .ok (.iload 5, 2) := by decide +kernel
theorem dX3_fold_26 : decode cX3_fold 26 = .ok (.iaload, 1) := by decide +kernel
theorem dX3_fold_27 : decode cX3_fold 27 = .ok (.i2l, 1) := by decide +kernel
theorem dX3_fold_28 : decode cX3_fold 28 = .ok (.ladd, 1) := by decide +kernel
theorem dX3_fold_29 : decode cX3_fold 29 = .ok (.lstore_n 3, 1) := by decide +kernel
theorem dX3_fold_30 : decode cX3_fold 30 = .ok (.iconst 0, 1) := by decide +kernel
theorem dX3_fold_31 : decode cX3_fold 31 = .ok (.istore 6, 2) := by decide +kernel
theorem dX3_fold_33 : decode cX3_fold 33 = .ok (.iload 6, 2) := by decide +kernel
theorem dX3_fold_35 : decode cX3_fold 35 = .ok (.aload_n 0, 1) := by decide +kernel
theorem dX3_fold_36 : decode cX3_fold 36 = .ok (.getfield 20, 3) := by decide +kernel
theorem dX3_fold_39 : decode cX3_fold 39 = .ok (.iload 5, 2) := by decide +kernel
theorem dX3_fold_41 : decode cX3_fold 41 = .ok (.iaload, 1) := by decide +kernel
theorem dX3_fold_42 : decode cX3_fold 42 = .ok (.if_icmp .ge 25, 3) := by decide +kernel
theorem dX3_fold_45 : decode cX3_fold 45 = .ok (.ldc2_w 67, 3) := by decide +kernel
theorem dX3_fold_48 : decode cX3_fold 48 = .ok (.lload_n 3, 1) := by decide +kernel
theorem dX3_fold_49 : decode cX3_fold 49 = .ok (.lmul, 1) := by decide +kernel
theorem dX3_fold_50 : decode cX3_fold 50 = .ok (.aload_n 0, 1) := by decide +kernel
theorem dX3_fold_51 : decode cX3_fold 51 = .ok (.iload 5, 2) := by decide +kernel
theorem dX3_fold_53 : decode cX3_fold 53 = .ok (.iload 6, 2) := by decide +kernel
theorem dX3_fold_55 : decode cX3_fold 55 = .ok (.invokevirtual 64, 3) := by decide +kernel
theorem dX3_fold_58 : decode cX3_fold 58 = .ok (.i2l, 1) := by decide +kernel
theorem dX3_fold_59 : decode cX3_fold 59 = .ok (.ladd, 1) := by decide +kernel
theorem dX3_fold_60 : decode cX3_fold 60 = .ok (.lstore_n 3, 1) := by decide +kernel
theorem dX3_fold_61 : decode cX3_fold 61 = .ok (.iinc 6 1, 3) := by decide +kernel
theorem dX3_fold_64 : decode cX3_fold 64 = .ok (.goto (-31), 3) := by decide +kernel
theorem dX3_fold_67 : decode cX3_fold 67 = .ok (.iinc 5 1, 3) := by decide +kernel
theorem dX3_fold_70 : decode cX3_fold 70 = .ok (.goto (-65), 3) := by decide +kernel
theorem dX3_fold_73 : decode cX3_fold 73 = .ok (.lload_n 3, 1) := by decide +kernel
theorem dX3_fold_74 : decode cX3_fold 74 = .ok (.lreturn, 1) := by decide +kernel
theorem dX4_init_0 : decode cX4_init 0 = .ok (.aload_n 0, 1) := by decide +kernel
theorem dX4_init_1 : decode cX4_init 1 = .ok (.invokespecial 3, 3) := by decide +kernel
theorem dX4_init_4 : decode cX4_init 4 = .ok (.aload_n 0, 1) := by decide +kernel
theorem dX4_init_5 : decode cX4_init 5 = .ok (.sipush 128, 3) := by decide +kernel
theorem dX4_init_8 : decode cX4_init 8 = .ok (.newarray .boolean, 2) := by decide +kernel
theorem dX4_init_10 : decode cX4_init 10 = .ok (.putfield 9, 3) := by decide +kernel
theorem dX4_init_13 : decode cX4_init 13 = .ok (.aload_n 0, 1) := by decide +kernel
theorem dX4_init_14 : decode cX4_init 14 = .ok (.sipush 128, 3) := by decide +kernel
theorem dX4_init_17 : decode cX4_init 17 = .ok (.newarray .int, 2) := by decide +kernel
theorem dX4_init_19 : decode cX4_init 19 = .ok (.putfield 15, 3) := by decide +kernel
theorem dX4_init_22 : decode cX4_init 22 = .ok (.aload_n 0, 1) := by decide +kernel
theorem dX4_init_23 : decode cX4_init 23 = .ok (.aload_n 1, 1) := by decide +kernel
theorem dX4_init_24 : decode cX4_init 24 = .ok (.putfield 19, 3) := by decide +kernel
theorem dX4_init_27 : decode cX4_init 27 = .ok (.return_, 1) := by decide +kernel
theorem dX4_look_0 : decode cX4_look 0 = .ok (.aload_n 0, 1) := by decide +kernel
theorem dX4_look_1 : decode cX4_look 1 = .ok (.aload_n 0, 1) := by decide +kernel
theorem dX4_look_2 : decode cX4_look 2 = .ok (.getfield 19, 3) := by decide +kernel
theorem dX4_look_5 : decode cX4_look 5 = .ok (.invokevirtual 23, 3) := by decide +kernel
theorem dX4_look_8 : decode cX4_look 8 = .ok (.sipush 128, 3) := by decide +kernel
theorem dX4_look_11 : decode cX4_look 11 = .ok (.invokestatic 29, 3) := by decide +kernel
theorem dX4_look_14 : decode cX4_look 14 = .ok (.putfield 35, 3) := by decide +kernel
theorem dX4_look_17 : decode cX4_look 17 = .ok (.iconst 0, 1) := by decide +kernel
theorem dX4_look_18 : decode cX4_look 18 = .ok (.istore_n 1, 1) := by decide +kernel
theorem dX4_look_19 : decode cX4_look 19 = .ok (.iload_n 1, 1) := by decide +kernel
theorem dX4_look_20 : decode cX4_look 20 = .ok (.aload_n 0, 1) := by decide +kernel
theorem dX4_look_21 : decode cX4_look 21 = .ok (.getfield 35, 3) := by decide +kernel
theorem dX4_look_24 : decode cX4_look 24 = .ok (.if_icmp .ge 23, 3) := by decide +kernel
theorem dX4_look_27 : decode cX4_look 27 = .ok (.aload_n 0, 1) := by decide +kernel
theorem dX4_look_28 : decode cX4_look 28 = .ok (.getfield 9, 3) := by decide +kernel
theorem dX4_look_31 : decode cX4_look 31 = .ok (.iload_n 1, 1) := by decide +kernel
theorem dX4_look_32 : decode cX4_look 32 = .ok (.aload_n 0, 1) := by decide +kernel
theorem dX4_look_33 : decode cX4_look 33 = .ok (.getfield 19, 3) := by decide +kernel
theorem dX4_look_36 : decode cX4_look 36 = .ok (.iload_n 1, 1) := by decide +kernel
theorem dX4_look_37 : decode cX4_look 37 = .ok (.invokevirtual 38, 3) := by decide +kernel
theorem dX4_look_40 : decode cX4_look 40 = .ok (.bastore, 1) := by decide +kernel
theorem dX4_look_41 : decode cX4_look 41 = .ok (.iinc 1 1, 3) := by decide +kernel
theorem dX4_look_44 : decode cX4_look 44 = .ok (.goto (-25), 3) := by decide +kernel
theorem dX4_look_47 : decode cX4_look 47 = .ok (.return_, 1) := by decide +kernel
theorem dX4_keepThoseWhoDraw_0 : decode cX4_keepThoseWhoDraw 0 = .ok (.iconst 0, 1) := by decide +kernel
theorem dX4_keepThoseWhoDraw_1 : decode cX4_keepThoseWhoDraw 1 = .ok (.istore_n 2, 1) := by decide +kernel
theorem dX4_keepThoseWhoDraw_2 : decode cX4_keepThoseWhoDraw 2 = .ok (.iload_n 2, 1) := by decide +kernel
theorem dX4_keepThoseWhoDraw_3 : decode cX4_keepThoseWhoDraw 3 = .ok (.aload_n 0, 1) := by decide +kernel
theorem dX4_keepThoseWhoDraw_4 : decode cX4_keepThoseWhoDraw 4 = .ok (.getfield 35, 3) := by decide +kernel
theorem dX4_keepThoseWhoDraw_7 : decode cX4_keepThoseWhoDraw 7 = .ok (.if_icmp .ge 41, 3) := by decide +kernel
theorem dX4_keepThoseWhoDraw_10 : decode cX4_keepThoseWhoDraw 10 = .ok (.aload_n 0, 1) := by decide +kernel
theorem dX4_keepThoseWhoDraw_11 : decode cX4_keepThoseWhoDraw 11 = .ok (.getfield 9, 3) := by decide +kernel
theorem dX4_keepThoseWhoDraw_14 : decode cX4_keepThoseWhoDraw 14 = .ok (.iload_n 2, 1) := by decide +kernel
theorem dX4_keepThoseWhoDraw_15 : decode cX4_keepThoseWhoDraw 15 = .ok (.aload_n 0, 1) := by decide +kernel
theorem dX4_keepThoseWhoDraw_16 : decode cX4_keepThoseWhoDraw 16 = .ok (.getfield 9, 3) := by decide +kernel
theorem dX4_keepThoseWhoDraw_19 : decode cX4_keepThoseWhoDraw 19 = .ok (.iload_n 2, 1) := by decide +kernel
theorem dX4_keepThoseWhoDraw_20 : decode cX4_keepThoseWhoDraw 20 = .ok (.baload, 1) := by decide +kernel
theorem dX4_keepThoseWhoDraw_21 : decode cX4_keepThoseWhoDraw 21 = .ok (.ifCond .eq 19, 3) := by decide +kernel
theorem dX4_keepThoseWhoDraw_24 : decode cX4_keepThoseWhoDraw 24 = .ok (.aload_n 0, 1) := by decide +kernel
theorem dX4_keepThoseWhoDraw_25 : decode cX4_keepThoseWhoDraw 25 = .ok (.getfield 19, 3) := by decide +kernel
theorem dX4_keepThoseWhoDraw_28 : decode cX4_keepThoseWhoDraw 28 = .ok (.iload_n 2, 1) := by decide +kernel
theorem dX4_keepThoseWhoDraw_29 : decode cX4_keepThoseWhoDraw 29 = .ok (.invokevirtual 42, 3) := by decide +kernel
theorem dX4_keepThoseWhoDraw_32 : decode cX4_keepThoseWhoDraw 32 = .ok (.iload_n 1, 1) := by decide +kernel
theorem dX4_keepThoseWhoDraw_33 : decode cX4_keepThoseWhoDraw 33 = .ok (.if_icmp .ne 7, 3) := by decide +kernel
theorem dX4_keepThoseWhoDraw_36 : decode cX4_keepThoseWhoDraw 36 = .ok (.iconst 1, 1) := by decide +kernel
theorem dX4_keepThoseWhoDraw_37 : decode cX4_keepThoseWhoDraw 37 = .ok (.goto 4, 3) := by decide +kernel
theorem dX4_keepThoseWhoDraw_40 : decode cX4_keepThoseWhoDraw 40 = .ok (.iconst 0, 1) := by decide +kernel
theorem dX4_keepThoseWhoDraw_41 : decode cX4_keepThoseWhoDraw 41 = .ok (.bastore, 1) := by decide +kernel
theorem dX4_keepThoseWhoDraw_42 : decode cX4_keepThoseWhoDraw 42 = .ok (.iinc 2 1, 3) := by decide +kernel
theorem dX4_keepThoseWhoDraw_45 : decode cX4_keepThoseWhoDraw 45 = .ok (.goto (-43), 3) := by decide +kernel
theorem dX4_keepThoseWhoDraw_48 : decode cX4_keepThoseWhoDraw 48 = .ok (.return_, 1) := by decide +kernel
theorem dX4_howManyOpen_0 : decode cX4_howManyOpen 0 = .ok (.iconst 0, 1) := by decide +kernel
theorem dX4_howManyOpen_1 : decode cX4_howManyOpen 1 = .ok (.istore_n 1, 1) := by decide +kernel
theorem dX4_howManyOpen_2 : decode cX4_howManyOpen 2 = .ok (.iconst 0, 1) := by decide +kernel
theorem dX4_howManyOpen_3 : decode cX4_howManyOpen 3 = .ok (.istore_n 2, 1) := by decide +kernel
theorem dX4_howManyOpen_4 : decode cX4_howManyOpen 4 = .ok (.iload_n 2, 1) := by decide +kernel
theorem dX4_howManyOpen_5 : decode cX4_howManyOpen 5 = .ok (.aload_n 0, 1) := by decide +kernel
theorem dX4_howManyOpen_6 : decode cX4_howManyOpen 6 = .ok (.getfield 35, 3) := by decide +kernel
theorem dX4_howManyOpen_9 : decode cX4_howManyOpen 9 = .ok (.if_icmp .ge 21, 3) := by decide +kernel
theorem dX4_howManyOpen_12 : decode cX4_howManyOpen 12 = .ok (.aload_n 0, 1) := by decide +kernel
theorem dX4_howManyOpen_13 : decode cX4_howManyOpen 13 = .ok (.getfield 9, 3) := by decide +kernel
theorem dX4_howManyOpen_16 : decode cX4_howManyOpen 16 = .ok (.iload_n 2, 1) := by decide +kernel
theorem dX4_howManyOpen_17 : decode cX4_howManyOpen 17 = .ok (.baload, 1) := by decide +kernel
theorem dX4_howManyOpen_18 : decode cX4_howManyOpen 18 = .ok (.ifCond .eq 6, 3) := by decide +kernel
theorem dX4_howManyOpen_21 : decode cX4_howManyOpen 21 = .ok (.iinc 1 1, 3) := by decide +kernel
theorem dX4_howManyOpen_24 : decode cX4_howManyOpen 24 = .ok (.iinc 2 1, 3) := by decide +kernel
theorem dX4_howManyOpen_27 : decode cX4_howManyOpen 27 = .ok (.goto (-23), 3) := by decide +kernel
theorem dX4_howManyOpen_30 : decode cX4_howManyOpen 30 = .ok (.iload_n 1, 1) := by decide +kernel
theorem dX4_howManyOpen_31 : decode cX4_howManyOpen 31 = .ok (.ireturn, 1) := by decide +kernel
theorem dX4_fewest_0 : decode cX4_fewest 0 = .ok (.bipush (-9), 2) := by decide +kernel
theorem dX4_fewest_2 : decode cX4_fewest 2 = .ok (.istore_n 1, 1) := by decide +kernel
theorem dX4_fewest_3 : decode cX4_fewest 3 = .ok (.iconst 0, 1) := by decide +kernel
theorem dX4_fewest_4 : decode cX4_fewest 4 = .ok (.istore_n 2, 1) := by decide +kernel
theorem dX4_fewest_5 : decode cX4_fewest 5 = .ok (.iload_n 2, 1) := by decide +kernel
theorem dX4_fewest_6 : decode cX4_fewest 6 = .ok (.aload_n 0, 1) := by decide +kernel
theorem dX4_fewest_7 : decode cX4_fewest 7 = .ok (.getfield 35, 3) := by decide +kernel
theorem dX4_fewest_10 : decode cX4_fewest 10 = .ok (.if_icmp .ge 37, 3) := by decide +kernel
theorem dX4_fewest_13 : decode cX4_fewest 13 = .ok (.aload_n 0, 1) := by decide +kernel
theorem dX4_fewest_14 : decode cX4_fewest 14 = .ok (.getfield 9, 3) := by decide +kernel
theorem dX4_fewest_17 : decode cX4_fewest 17 = .ok (.iload_n 2, 1) := by decide +kernel
theorem dX4_fewest_18 : decode cX4_fewest 18 = .ok (.baload, 1) := by decide +kernel
theorem dX4_fewest_19 : decode cX4_fewest 19 = .ok (.ifCond .eq 22, 3) := by decide +kernel
theorem dX4_fewest_22 : decode cX4_fewest 22 = .ok (.iload_n 1, 1) := by decide +kernel
theorem dX4_fewest_23 : decode cX4_fewest 23 = .ok (.bipush (-9), 2) := by decide +kernel
theorem dX4_fewest_25 : decode cX4_fewest 25 = .ok (.if_icmp .eq 14, 3) := by decide +kernel
theorem dX4_fewest_28 : decode cX4_fewest 28 = .ok (.iload_n 2, 1) := by decide +kernel
theorem dX4_fewest_29 : decode cX4_fewest 29 = .ok (.invokestatic 46, 3) := by decide +kernel
theorem dX4_fewest_32 : decode cX4_fewest 32 = .ok (.iload_n 1, 1) := by decide +kernel
theorem dX4_fewest_33 : decode cX4_fewest 33 = .ok (.invokestatic 46, 3) := by decide +kernel
theorem dX4_fewest_36 : decode cX4_fewest 36 = .ok (.if_icmp .ge 5, 3) := by decide +kernel
theorem dX4_fewest_39 : decode cX4_fewest 39 = .ok (.iload_n 2, 1) := by decide +kernel
theorem dX4_fewest_40 : decode cX4_fewest 40 = .ok (.istore_n 1, 1) := by decide +kernel
theorem dX4_fewest_41 : decode cX4_fewest 41 = .ok (.iinc 2 1, 3) := by decide +kernel
theorem dX4_fewest_44 : decode cX4_fewest 44 = .ok (.goto (-39), 3) := by decide +kernel
theorem dX4_fewest_47 : decode cX4_fewest 47 = .ok (.iload_n 1, 1) := by decide +kernel
theorem dX4_fewest_48 : decode cX4_fewest 48 = .ok (.ireturn, 1) := by decide +kernel
theorem dX4_inAll_0 : decode cX4_inAll 0 = .ok (.aload_n 0, 1) := by decide +kernel
theorem dX4_inAll_1 : decode cX4_inAll 1 = .ok (.getfield 35, 3) := by decide +kernel
theorem dX4_inAll_4 : decode cX4_inAll 4 = .ok (.iconst 1, 1) := by decide +kernel
theorem dX4_inAll_5 : decode cX4_inAll 5 = .ok (.isub, 1) := by decide +kernel
theorem dX4_inAll_6 : decode cX4_inAll 6 = .ok (.istore_n 1, 1) := by decide +kernel
theorem dX4_inAll_7 : decode cX4_inAll 7 = .ok (.iconst 0, 1) := by decide +kernel
theorem dX4_inAll_8 : decode cX4_inAll 8 = .ok (.istore_n 2, 1) := by decide +kernel
theorem dX4_inAll_9 : decode cX4_inAll 9 = .ok (.iload_n 2, 1) := by decide +kernel
theorem dX4_inAll_10 : decode cX4_inAll 10 = .ok (.aload_n 0, 1) := by decide +kernel
theorem dX4_inAll_11 : decode cX4_inAll 11 = .ok (.getfield 35, 3) := by decide +kernel
theorem dX4_inAll_14 : decode cX4_inAll 14 = .ok (.if_icmp .ge 22, 3) := by decide +kernel
theorem dX4_inAll_17 : decode cX4_inAll 17 = .ok (.aload_n 0, 1) := by decide +kernel
theorem dX4_inAll_18 : decode cX4_inAll 18 = .ok (.getfield 9, 3) := by decide +kernel
theorem dX4_inAll_21 : decode cX4_inAll 21 = .ok (.iload_n 2, 1) := by decide +kernel
theorem dX4_inAll_22 : decode cX4_inAll 22 = .ok (.baload, 1) := by decide +kernel
theorem dX4_inAll_23 : decode cX4_inAll 23 = .ok (.ifCond .eq 7, 3) := by decide +kernel
theorem dX4_inAll_26 : decode cX4_inAll 26 = .ok (.iload_n 1, 1) := by decide +kernel
theorem dX4_inAll_27 : decode cX4_inAll 27 = .ok (.iload_n 2, 1) := by decide +kernel
theorem dX4_inAll_28 : decode cX4_inAll 28 = .ok (.iand, 1) := by decide +kernel
theorem dX4_inAll_29 : decode cX4_inAll 29 = .ok (.istore_n 1, 1) := by decide +kernel
theorem dX4_inAll_30 : decode cX4_inAll 30 = .ok (.iinc 2 1, 3) := by decide +kernel
theorem dX4_inAll_33 : decode cX4_inAll 33 = .ok (.goto (-24), 3) := by decide +kernel
theorem dX4_inAll_36 : decode cX4_inAll 36 = .ok (.iload_n 1, 1) := by decide +kernel
theorem dX4_inAll_37 : decode cX4_inAll 37 = .ok (.ireturn, 1) := by decide +kernel
theorem dX4_inAny_0 : decode cX4_inAny 0 = .ok (.iconst 0, 1) := by decide +kernel
theorem dX4_inAny_1 : decode cX4_inAny 1 = .ok (.istore_n 1, 1) := by decide +kernel
theorem dX4_inAny_2 : decode cX4_inAny 2 = .ok (.iconst 0, 1) := by decide +kernel
theorem dX4_inAny_3 : decode cX4_inAny 3 = .ok (.istore_n 2, 1) := by decide +kernel
theorem dX4_inAny_4 : decode cX4_inAny 4 = .ok (.iload_n 2, 1) := by decide +kernel
theorem dX4_inAny_5 : decode cX4_inAny 5 = .ok (.aload_n 0, 1) := by decide +kernel
theorem dX4_inAny_6 : decode cX4_inAny 6 = .ok (.getfield 35, 3) := by decide +kernel
theorem dX4_inAny_9 : decode cX4_inAny 9 = .ok (.if_icmp .ge 22, 3) := by decide +kernel
theorem dX4_inAny_12 : decode cX4_inAny 12 = .ok (.aload_n 0, 1) := by decide +kernel
theorem dX4_inAny_13 : decode cX4_inAny 13 = .ok (.getfield 9, 3) := by decide +kernel
theorem dX4_inAny_16 : decode cX4_inAny 16 = .ok (.iload_n 2, 1) := by decide +kernel
theorem dX4_inAny_17 : decode cX4_inAny 17 = .ok (.baload, 1) := by decide +kernel
theorem dX4_inAny_18 : decode cX4_inAny 18 = .ok (.ifCond .eq 7, 3) := by decide +kernel
theorem dX4_inAny_21 : decode cX4_inAny 21 = .ok (.iload_n 1, 1) := by decide +kernel
theorem dX4_inAny_22 : decode cX4_inAny 22 = .ok (.iload_n 2, 1) := by decide +kernel
theorem dX4_inAny_23 : decode cX4_inAny 23 = .ok (.ior, 1) := by decide +kernel
theorem dX4_inAny_24 : decode cX4_inAny 24 = .ok (.istore_n 1, 1) := by decide +kernel
theorem dX4_inAny_25 : decode cX4_inAny 25 = .ok (.iinc 2 1, 3) := by decide +kernel
theorem dX4_inAny_28 : decode cX4_inAny 28 = .ok (.goto (-24), 3) := by decide +kernel
theorem dX4_inAny_31 : decode cX4_inAny 31 = .ok (.iload_n 1, 1) := by decide +kernel
theorem dX4_inAny_32 : decode cX4_inAny 32 = .ok (.ireturn, 1) := by decide +kernel
theorem dX4_decidedBy_0 : decode cX4_decidedBy 0 = .ok (.iconst 0, 1) := by decide +kernel
theorem dX4_decidedBy_1 : decode cX4_decidedBy 1 = .ok (.istore_n 2, 1) := by decide +kernel
theorem dX4_decidedBy_2 : decode cX4_decidedBy 2 = .ok (.iconst 0, 1) := by decide +kernel
theorem dX4_decidedBy_3 : decode cX4_decidedBy 3 = .ok (.istore_n 3, 1) := by decide +kernel
theorem dX4_decidedBy_4 : decode cX4_decidedBy 4 = .ok (.iload_n 3, 1) := by decide +kernel
theorem dX4_decidedBy_5 : decode cX4_decidedBy 5 = .ok (.aload_n 0, 1) := by decide +kernel
theorem dX4_decidedBy_6 : decode cX4_decidedBy 6 = .ok (.getfield 35, 3) := by decide +kernel
theorem dX4_decidedBy_9 : decode cX4_decidedBy 9 = .ok (.if_icmp .ge 44, 3) := by decide +kernel
theorem dX4_decidedBy_12 : decode cX4_decidedBy 12 = .ok (.iload_n 1, 1) := by decide +kernel
theorem dX4_decidedBy_13 : decode cX4_decidedBy 13 = .ok (.iload_n 3, 1) := by decide +kernel
theorem dX4_decidedBy_14 : decode cX4_decidedBy 14 = .ok (.invokestatic 51, 3) := by decide +kernel
theorem dX4_decidedBy_17 : decode cX4_decidedBy 17 = .ok (.ifCond .eq 30, 3) := by decide +kernel
theorem dX4_decidedBy_20 : decode cX4_decidedBy 20 = .ok (.aload_n 0, 1) := by decide +kernel
theorem dX4_decidedBy_21 : decode cX4_decidedBy 21 = .ok (.getfield 9, 3) := by decide +kernel
theorem dX4_decidedBy_24 : decode cX4_decidedBy 24 = .ok (.iload_n 3, 1) := by decide +kernel
theorem dX4_decidedBy_25 : decode cX4_decidedBy 25 = .ok (.baload, 1) := by decide +kernel
theorem dX4_decidedBy_26 : decode cX4_decidedBy 26 = .ok (.ifCond .eq 21, 3) := by decide +kernel
theorem dX4_decidedBy_29 : decode cX4_decidedBy 29 = .ok (.aload_n 0, 1) := by decide +kernel
theorem dX4_decidedBy_30 : decode cX4_decidedBy 30 = .ok (.getfield 9, 3) := by decide +kernel
theorem dX4_decidedBy_33 : decode cX4_decidedBy 33 = .ok (.iload_n 3, 1) := by decide +kernel
theorem dX4_decidedBy_34 : decode cX4_decidedBy 34 = .ok (.iconst 1, 1) := by decide +kernel
theorem dX4_decidedBy_35 : decode cX4_decidedBy 35 = .ok (.iload_n 1, 1) := by decide +kernel
theorem dX4_decidedBy_36 : decode cX4_decidedBy 36 = .ok (.ishl, 1) := by decide +kernel
theorem dX4_decidedBy_37 : decode cX4_decidedBy 37 = .ok (.iconst (-1), 1) := by decide +kernel
theorem dX4_decidedBy_38 : decode cX4_decidedBy 38 = .ok (.ixor, 1) := by decide +kernel
theorem dX4_decidedBy_39 : decode cX4_decidedBy 39 = .ok (.iand, 1) := by decide +kernel
theorem dX4_decidedBy_40 : decode cX4_decidedBy 40 = .ok (.baload, 1) := by decide +kernel
theorem dX4_decidedBy_41 : decode cX4_decidedBy 41 = .ok (.ifCond .ne 6, 3) := by decide +kernel
theorem dX4_decidedBy_44 : decode cX4_decidedBy 44 = .ok (.iinc 2 1, 3) := by decide +kernel
theorem dX4_decidedBy_47 : decode cX4_decidedBy 47 = .ok (.iinc 3 1, 3) := by decide +kernel
theorem dX4_decidedBy_50 : decode cX4_decidedBy 50 = .ok (.goto (-46), 3) := by decide +kernel
theorem dX4_decidedBy_53 : decode cX4_decidedBy 53 = .ok (.iload_n 2, 1) := by decide +kernel
theorem dX4_decidedBy_54 : decode cX4_decidedBy 54 = .ok (.ireturn, 1) := by decide +kernel
theorem dX4_fewestToCover_0 : decode cX4_fewestToCover 0 = .ok (.aload_n 0, 1) := by decide +kernel
theorem dX4_fewestToCover_1 : decode cX4_fewestToCover 1 = .ok (.getfield 15, 3) := by decide +kernel
theorem dX4_fewestToCover_4 : decode cX4_fewestToCover 4 = .ok (.iconst 0, 1) := by decide +kernel
theorem dX4_fewestToCover_5 : decode cX4_fewestToCover 5 = .ok (.iconst 0, 1) := by decide +kernel
theorem dX4_fewestToCover_6 : decode cX4_fewestToCover 6 = .ok (.iastore, 1) := by decide +kernel
theorem dX4_fewestToCover_7 : decode cX4_fewestToCover 7 = .ok (.iconst 1, 1) := by decide +kernel
theorem dX4_fewestToCover_8 : decode cX4_fewestToCover 8 = .ok (.istore_n 2, 1) := by decide +kernel
theorem dX4_fewestToCover_9 : decode cX4_fewestToCover 9 = .ok (.iload_n 2, 1) := by decide +kernel
theorem dX4_fewestToCover_10 : decode cX4_fewestToCover 10 = .ok (.aload_n 0, 1) := by decide +kernel
theorem dX4_fewestToCover_11 : decode cX4_fewestToCover 11 = .ok (.getfield 35, 3) := by decide +kernel
theorem dX4_fewestToCover_14 : decode cX4_fewestToCover 14 = .ok (.if_icmp .ge 20, 3) := by decide +kernel
theorem dX4_fewestToCover_17 : decode cX4_fewestToCover 17 = .ok (.aload_n 0, 1) := by decide +kernel
theorem dX4_fewestToCover_18 : decode cX4_fewestToCover 18 = .ok (.getfield 15, 3) := by decide +kernel
theorem dX4_fewestToCover_21 : decode cX4_fewestToCover 21 = .ok (.iload_n 2, 1) := by decide +kernel
theorem dX4_fewestToCover_22 : decode cX4_fewestToCover 22 = .ok (.aload_n 0, 1) := by decide +kernel
theorem dX4_fewestToCover_23 : decode cX4_fewestToCover 23 = .ok (.iload_n 2, 1) := by decide +kernel
theorem dX4_fewestToCover_24 : decode cX4_fewestToCover 24 = .ok (.invokevirtual 55, 3) := by decide +kernel
theorem dX4_fewestToCover_27 : decode cX4_fewestToCover 27 = .ok (.iastore, 1) := by decide +kernel
theorem dX4_fewestToCover_28 : decode cX4_fewestToCover 28 = .ok (.iinc 2 1, 3) := by decide +kernel
theorem dX4_fewestToCover_31 : decode cX4_fewestToCover 31 = .ok (.goto (-22), 3) := by decide +kernel
theorem dX4_fewestToCover_34 : decode cX4_fewestToCover 34 = .ok (.iload_n 1, 1) := by decide +kernel
theorem dX4_fewestToCover_35 : decode cX4_fewestToCover 35 = .ok (.ifCond .lt 20, 3) := by decide +kernel
theorem dX4_fewestToCover_38 : decode cX4_fewestToCover 38 = .ok (.iload_n 1, 1) := by decide +kernel
theorem dX4_fewestToCover_39 : decode cX4_fewestToCover 39 = .ok (.aload_n 0, 1) := by decide +kernel
theorem dX4_fewestToCover_40 : decode cX4_fewestToCover 40 = .ok (.getfield 35, 3) := by decide +kernel
theorem dX4_fewestToCover_43 : decode cX4_fewestToCover 43 = .ok (.if_icmp .ge 12, 3) := by decide +kernel
theorem dX4_fewestToCover_46 : decode cX4_fewestToCover 46 = .ok (.aload_n 0, 1) := by decide +kernel
theorem dX4_fewestToCover_47 : decode cX4_fewestToCover 47 = .ok (.getfield 15, 3) := by decide +kernel
theorem dX4_fewestToCover_50 : decode cX4_fewestToCover 50 = .ok (.iload_n 1, 1) := by decide +kernel
theorem dX4_fewestToCover_51 : decode cX4_fewestToCover 51 = .ok (.iaload, 1) := by decide +kernel
theorem dX4_fewestToCover_52 : decode cX4_fewestToCover 52 = .ok (.goto 5, 3) := by decide +kernel
theorem dX4_fewestToCover_55 : decode cX4_fewestToCover 55 = .ok (.bipush (-9), 2) := by decide +kernel
theorem dX4_fewestToCover_57 : decode cX4_fewestToCover 57 = .ok (.ireturn, 1) := by decide +kernel
theorem dX4_fewestToCoverByLesser_0 : decode cX4_fewestToCoverByLesser 0 = .ok (.bipush (-9), 2) := by decide +kernel
theorem dX4_fewestToCoverByLesser_2 : decode cX4_fewestToCoverByLesser 2 = .ok (.istore_n 2, 1) := by decide +kernel
theorem dX4_fewestToCoverByLesser_3 : decode cX4_fewestToCoverByLesser 3 = .ok (.iload_n 1, 1) := by decide +kernel
theorem dX4_fewestToCoverByLesser_4 : decode cX4_fewestToCoverByLesser 4 = .ok (.iload_n 1, 1) := by decide +kernel
theorem dX4_fewestToCoverByLesser_5 : decode cX4_fewestToCoverByLesser 5 = .ok (.ineg, 1) := by decide +kernel
theorem dX4_fewestToCoverByLesser_6 : decode cX4_fewestToCoverByLesser 6 = .ok (.iand, 1) := by decide +kernel
theorem dX4_fewestToCoverByLesser_7 : decode cX4_fewestToCoverByLesser 7 = .ok (.istore_n 3, 1) := by decide +kernel
theorem dX4_fewestToCoverByLesser_8 : decode cX4_fewestToCoverByLesser 8 = .ok (.iconst 0, 1) := by decide +kernel
theorem dX4_fewestToCoverByLesser_9 : decode cX4_fewestToCoverByLesser 9 = .ok (.istore 4, 2) := by decide +kernel
theorem dX4_fewestToCoverByLesser_11 : decode cX4_fewestToCoverByLesser 11 = .ok (.iload 4, 2) := by decide +kernel
theorem dX4_fewestToCoverByLesser_13 : decode cX4_fewestToCoverByLesser 13 = .ok (.aload_n 0, 1) := by decide +kernel
theorem dX4_fewestToCoverByLesser_14 : decode cX4_fewestToCoverByLesser 14 = .ok (.getfield 35, 3) := by decide +kernel
theorem dX4_fewestToCoverByLesser_17 : decode cX4_fewestToCoverByLesser 17 = .ok (.if_icmp .ge 65, 3) := by decide +kernel
theorem dX4_fewestToCoverByLesser_20 : decode cX4_fewestToCoverByLesser 20 = .ok (.aload_n 0, 1) := by decide +kernel
theorem dX4_fewestToCoverByLesser_21 : decode cX4_fewestToCoverByLesser 21 = .ok (.getfield 9, 3) := by decide +kernel
theorem dX4_fewestToCoverByLesser_24 : decode cX4_fewestToCoverByLesser 24 = .ok (.iload 4, 2) := by decide +kernel
theorem dX4_fewestToCoverByLesser_26 : decode cX4_fewestToCoverByLesser 26 = .ok (.baload, 1) := by decide +kernel
theorem dX4_fewestToCoverByLesser_27 : decode cX4_fewestToCoverByLesser 27 = .ok (.ifCond .eq 49, 3) := by decide +kernel
theorem dX4_fewestToCoverByLesser_30 : decode cX4_fewestToCoverByLesser 30 = .ok (.iload 4, 2) := by decide +kernel
theorem dX4_fewestToCoverByLesser_32 : decode cX4_fewestToCoverByLesser 32 = .ok (.iload_n 3, 1) := by decide +kernel
theorem dX4_fewestToCoverByLesser_33 : decode cX4_fewestToCoverByLesser 33 = .ok (.iand, 1) := by decide +kernel
theorem dX4_fewestToCoverByLesser_34 : decode cX4_fewestToCoverByLesser 34 = .ok (.ifCond .eq 42, 3) := by decide +kernel
theorem dX4_fewestToCoverByLesser_37 : decode cX4_fewestToCoverByLesser 37 = .ok (.aload_n 0, 1) := by decide +kernel
theorem dX4_fewestToCoverByLesser_38 : decode cX4_fewestToCoverByLesser 38 = .ok (.getfield 15, 3) := by decide +kernel
theorem dX4_fewestToCoverByLesser_41 : decode cX4_fewestToCoverByLesser 41 = .ok (.iload_n 1, 1) := by decide +kernel
theorem dX4_fewestToCoverByLesser_42 : decode cX4_fewestToCoverByLesser 42 = .ok (.iload 4, 2) := by decide +kernel
theorem dX4_fewestToCoverByLesser_44 : decode cX4_fewestToCoverByLesser 44 = .ok (.iconst (-1), 1) := by decide +kernel
theorem dX4_fewestToCoverByLesser_45 : decode cX4_fewestToCoverByLesser 45 = .ok (.ixor, 1) := by decide +kernel
theorem dX4_fewestToCoverByLesser_46 : decode cX4_fewestToCoverByLesser 46 = .ok (.iand, 1) := by decide +kernel
theorem dX4_fewestToCoverByLesser_47 : decode cX4_fewestToCoverByLesser 47 = .ok (.iaload, 1) := by decide +kernel
theorem dX4_fewestToCoverByLesser_48 : decode cX4_fewestToCoverByLesser 48 = .ok (.istore 5, 2) := by decide +kernel
theorem dX4_fewestToCoverByLesser_50 : decode cX4_fewestToCoverByLesser 50 = .ok (.iload 5, 2) := by decide +kernel
theorem dX4_fewestToCoverByLesser_52 : decode cX4_fewestToCoverByLesser 52 = .ok (.bipush (-9), 2) := by decide +kernel
theorem dX4_fewestToCoverByLesser_54 : decode cX4_fewestToCoverByLesser 54 = .ok (.if_icmp .eq 22, 3) := by decide +kernel
theorem dX4_fewestToCoverByLesser_57 : decode cX4_fewestToCoverByLesser 57 = .ok (.iload_n 2, 1) := by decide +kernel
theorem dX4_fewestToCoverByLesser_58 : decode cX4_fewestToCoverByLesser 58 = .ok (.bipush (-9), 2) := by decide +kernel
theorem dX4_fewestToCoverByLesser_60 : decode cX4_fewestToCoverByLesser 60 = .ok (.if_icmp .eq 11, 3) := by decide +kernel
theorem dX4_fewestToCoverByLesser_63 : decode cX4_fewestToCoverByLesser 63 = .ok (.iload 5, 2) := by decide +kernel
theorem dX4_fewestToCoverByLesser_65 : decode cX4_fewestToCoverByLesser 65 = .ok (.iconst 1, 1) := by decide +kernel
theorem dX4_fewestToCoverByLesser_66 : decode cX4_fewestToCoverByLesser 66 = .ok (.iadd, 1) := by decide +kernel
theorem dX4_fewestToCoverByLesser_67 : decode cX4_fewestToCoverByLesser 67 = .ok (.iload_n 2, 1) := by decide +kernel
theorem dX4_fewestToCoverByLesser_68 : decode cX4_fewestToCoverByLesser 68 = .ok (.if_icmp .ge 8, 3) := by decide +kernel
theorem dX4_fewestToCoverByLesser_71 : decode cX4_fewestToCoverByLesser 71 = .ok (.iload 5, 2) := by decide +kernel
theorem dX4_fewestToCoverByLesser_73 : decode cX4_fewestToCoverByLesser 73 = .ok (.iconst 1, 1) := by decide +kernel
theorem dX4_fewestToCoverByLesser_74 : decode cX4_fewestToCoverByLesser 74 = .ok (.iadd, 1) := by decide +kernel
theorem dX4_fewestToCoverByLesser_75 : decode cX4_fewestToCoverByLesser 75 = .ok (.istore_n 2, 1) := by decide +kernel
theorem dX4_fewestToCoverByLesser_76 : decode cX4_fewestToCoverByLesser 76 = .ok (.iinc 4 1, 3) := by decide +kernel
theorem dX4_fewestToCoverByLesser_79 : decode cX4_fewestToCoverByLesser 79 = .ok (.goto (-68), 3) := by decide +kernel
theorem dX4_fewestToCoverByLesser_82 : decode cX4_fewestToCoverByLesser 82 = .ok (.iload_n 2, 1) := by decide +kernel
theorem dX4_fewestToCoverByLesser_83 : decode cX4_fewestToCoverByLesser 83 = .ok (.ireturn, 1) := by decide +kernel
theorem dX4_layCover_0 : decode cX4_layCover 0 = .ok (.iload_n 1, 1) := by decide +kernel
theorem dX4_layCover_1 : decode cX4_layCover 1 = .ok (.istore 4, 2) := by decide +kernel
theorem dX4_layCover_3 : decode cX4_layCover 3 = .ok (.iconst 0, 1) := by decide +kernel
theorem dX4_layCover_4 : decode cX4_layCover 4 = .ok (.istore 5, 2) := by decide +kernel
theorem dX4_layCover_6 : decode cX4_layCover 6 = .ok (.iload 5, 2) := by decide +kernel
theorem dX4_layCover_8 : decode cX4_layCover 8 = .ok (.aload_n 2, 1) := by decide +kernel
theorem dX4_layCover_9 : decode cX4_layCover 9 = .ok (.iload_n 3, 1) := by decide +kernel
theorem dX4_layCover_10 : decode cX4_layCover 10 = .ok (.invokevirtual 58, 3) := by decide +kernel
theorem dX4_layCover_13 : decode cX4_layCover 13 = .ok (.if_icmp .ge 42, 3) := by decide +kernel
theorem dX4_layCover_16 : decode cX4_layCover 16 = .ok (.aload_n 0, 1) := by decide +kernel
theorem dX4_layCover_17 : decode cX4_layCover 17 = .ok (.iload 4, 2) := by decide +kernel
theorem dX4_layCover_19 : decode cX4_layCover 19 = .ok (.invokevirtual 63, 3) := by decide +kernel
theorem dX4_layCover_22 : decode cX4_layCover 22 = .ok (.istore 6, 2) := by decide +kernel
theorem dX4_layCover_24 : decode cX4_layCover 24 = .ok (.iload 6, 2) := by decide +kernel
theorem dX4_layCover_26 : decode cX4_layCover 26 = .ok (.bipush (-9), 2) := by decide +kernel
theorem dX4_layCover_28 : decode cX4_layCover 28 = .ok (.if_icmp .eq 21, 3) := by decide +kernel
theorem dX4_layCover_31 : decode cX4_layCover 31 = .ok (.aload_n 2, 1) := by decide +kernel
theorem dX4_layCover_32 : decode cX4_layCover 32 = .ok (.iload_n 3, 1) := by decide +kernel
theorem dX4_layCover_33 : decode cX4_layCover 33 = .ok (.iload 5, 2) := by decide +kernel
theorem dX4_layCover_35 : decode cX4_layCover 35 = .ok (.iload 6, 2) := by decide +kernel
theorem dX4_layCover_37 : decode cX4_layCover 37 = .ok (.invokevirtual 66, 3) := by decide +kernel
theorem dX4_layCover_40 : decode cX4_layCover 40 = .ok (.iload 4, 2) := by decide +kernel
theorem dX4_layCover_42 : decode cX4_layCover 42 = .ok (.iload 6, 2) := by decide +kernel
theorem dX4_layCover_44 : decode cX4_layCover 44 = .ok (.iconst (-1), 1) := by decide +kernel
theorem dX4_layCover_45 : decode cX4_layCover 45 = .ok (.ixor, 1) := by decide +kernel
theorem dX4_layCover_46 : decode cX4_layCover 46 = .ok (.iand, 1) := by decide +kernel
theorem dX4_layCover_47 : decode cX4_layCover 47 = .ok (.istore 4, 2) := by decide +kernel
theorem dX4_layCover_49 : decode cX4_layCover 49 = .ok (.iinc 5 1, 3) := by decide +kernel
theorem dX4_layCover_52 : decode cX4_layCover 52 = .ok (.goto (-46), 3) := by decide +kernel
theorem dX4_layCover_55 : decode cX4_layCover 55 = .ok (.return_, 1) := by decide +kernel
theorem dX4_leastThatHelps_0 : decode cX4_leastThatHelps 0 = .ok (.iconst 0, 1) := by decide +kernel
theorem dX4_leastThatHelps_1 : decode cX4_leastThatHelps 1 = .ok (.istore_n 2, 1) := by decide +kernel
theorem dX4_leastThatHelps_2 : decode cX4_leastThatHelps 2 = .ok (.iload_n 2, 1) := by decide +kernel
theorem dX4_leastThatHelps_3 : decode cX4_leastThatHelps 3 = .ok (.aload_n 0, 1) := by decide +kernel
theorem dX4_leastThatHelps_4 : decode cX4_leastThatHelps 4 = .ok (.getfield 35, 3) := by decide +kernel
theorem dX4_leastThatHelps_7 : decode cX4_leastThatHelps 7 = .ok (.if_icmp .ge 41, 3) := by decide +kernel
theorem dX4_leastThatHelps_10 : decode cX4_leastThatHelps 10 = .ok (.aload_n 0, 1) := by decide +kernel
theorem dX4_leastThatHelps_11 : decode cX4_leastThatHelps 11 = .ok (.getfield 9, 3) := by decide +kernel
theorem dX4_leastThatHelps_14 : decode cX4_leastThatHelps 14 = .ok (.iload_n 2, 1) := by decide +kernel
theorem dX4_leastThatHelps_15 : decode cX4_leastThatHelps 15 = .ok (.baload, 1) := by decide +kernel
theorem dX4_leastThatHelps_16 : decode cX4_leastThatHelps 16 = .ok (.ifCond .eq 26, 3) := by decide +kernel
theorem dX4_leastThatHelps_19 : decode cX4_leastThatHelps 19 = .ok (.aload_n 0, 1) := by decide +kernel
theorem dX4_leastThatHelps_20 : decode cX4_leastThatHelps 20 = .ok (.getfield 15, 3) := by decide +kernel
theorem dX4_leastThatHelps_23 : decode cX4_leastThatHelps 23 = .ok (.iload_n 1, 1) := by decide +kernel
theorem dX4_leastThatHelps_24 : decode cX4_leastThatHelps 24 = .ok (.iload_n 2, 1) := by decide +kernel
theorem dX4_leastThatHelps_25 : decode cX4_leastThatHelps 25 = .ok (.iconst (-1), 1) := by decide +kernel
theorem dX4_leastThatHelps_26 : decode cX4_leastThatHelps 26 = .ok (.ixor, 1) := by decide +kernel
theorem dX4_leastThatHelps_27 : decode cX4_leastThatHelps 27 = .ok (.iand, 1) := by decide +kernel
theorem dX4_leastThatHelps_28 : decode cX4_leastThatHelps 28 = .ok (.iaload, 1) := by decide +kernel
theorem dX4_leastThatHelps_29 : decode cX4_leastThatHelps 29 = .ok (.aload_n 0, 1) := by decide +kernel
theorem dX4_leastThatHelps_30 : decode cX4_leastThatHelps 30 = .ok (.getfield 15, 3) := by decide +kernel
theorem dX4_leastThatHelps_33 : decode cX4_leastThatHelps 33 = .ok (.iload_n 1, 1) := by decide +kernel
theorem dX4_leastThatHelps_34 : decode cX4_leastThatHelps 34 = .ok (.iaload, 1) := by decide +kernel
theorem dX4_leastThatHelps_35 : decode cX4_leastThatHelps 35 = .ok (.iconst 1, 1) := by decide +kernel
theorem dX4_leastThatHelps_36 : decode cX4_leastThatHelps 36 = .ok (.isub, 1) := by decide +kernel
theorem dX4_leastThatHelps_37 : decode cX4_leastThatHelps 37 = .ok (.if_icmp .ne 5, 3) := by decide +kernel
theorem dX4_leastThatHelps_40 : decode cX4_leastThatHelps 40 = .ok (.iload_n 2, 1) := by decide +kernel
theorem dX4_leastThatHelps_41 : decode cX4_leastThatHelps 41 = .ok (.ireturn, 1) := by decide +kernel
theorem dX4_leastThatHelps_42 : decode cX4_leastThatHelps 42 = .ok (.iinc 2 1, 3) := by decide +kernel
theorem dX4_leastThatHelps_45 : decode cX4_leastThatHelps 45 = .ok (.goto (-43), 3) := by decide +kernel
theorem dX4_leastThatHelps_48 : decode cX4_leastThatHelps 48 = .ok (.bipush (-9), 2) := by decide +kernel
theorem dX4_leastThatHelps_50 : decode cX4_leastThatHelps 50 = .ok (.ireturn, 1) := by decide +kernel
theorem dX4_winningCall_0 : decode cX4_winningCall 0 = .ok (.iconst 0, 1) := by decide +kernel
theorem dX4_winningCall_1 : decode cX4_winningCall 1 = .ok (.istore_n 1, 1) := by decide +kernel
theorem dX4_winningCall_2 : decode cX4_winningCall 2 = .ok (.iload_n 1, 1) := by decide +kernel
theorem dX4_winningCall_3 : decode cX4_winningCall 3 = .ok (.aload_n 0, 1) := by decide +kernel
theorem dX4_winningCall_4 : decode cX4_winningCall 4 = .ok (.getfield 19, 3) := by decide +kernel
theorem dX4_winningCall_7 : decode cX4_winningCall 7 = .ok (.invokevirtual 70, 3) := by decide +kernel
theorem dX4_winningCall_10 : decode cX4_winningCall 10 = .ok (.if_icmp .ge 34, 3) := by decide +kernel
theorem dX4_winningCall_13 : decode cX4_winningCall 13 = .ok (.aload_n 0, 1) := by decide +kernel
theorem dX4_winningCall_14 : decode cX4_winningCall 14 = .ok (.iconst 1, 1) := by decide +kernel
theorem dX4_winningCall_15 : decode cX4_winningCall 15 = .ok (.iload_n 1, 1) := by decide +kernel
theorem dX4_winningCall_16 : decode cX4_winningCall 16 = .ok (.ishl, 1) := by decide +kernel
theorem dX4_winningCall_17 : decode cX4_winningCall 17 = .ok (.aload_n 0, 1) := by decide +kernel
theorem dX4_winningCall_18 : decode cX4_winningCall 18 = .ok (.getfield 35, 3) := by decide +kernel
theorem dX4_winningCall_21 : decode cX4_winningCall 21 = .ok (.iconst 1, 1) := by decide +kernel
theorem dX4_winningCall_22 : decode cX4_winningCall 22 = .ok (.isub, 1) := by decide +kernel
theorem dX4_winningCall_23 : decode cX4_winningCall 23 = .ok (.iconst 1, 1) := by decide +kernel
theorem dX4_winningCall_24 : decode cX4_winningCall 24 = .ok (.iload_n 1, 1) := by decide +kernel
theorem dX4_winningCall_25 : decode cX4_winningCall 25 = .ok (.ishl, 1) := by decide +kernel
theorem dX4_winningCall_26 : decode cX4_winningCall 26 = .ok (.iconst (-1), 1) := by decide +kernel
theorem dX4_winningCall_27 : decode cX4_winningCall 27 = .ok (.ixor, 1) := by decide +kernel
theorem dX4_winningCall_28 : decode cX4_winningCall 28 = .ok (.iand, 1) := by decide +kernel
theorem dX4_winningCall_29 : decode cX4_winningCall 29 = .ok (.iconst 0, 1) := by decide +kernel
theorem dX4_winningCall_30 : decode cX4_winningCall 30 = .ok (.invokevirtual 73, 3) := by decide +kernel
theorem dX4_winningCall_33 : decode cX4_winningCall 33 = .ok (.ifCond .eq 5, 3) := by decide +kernel
theorem dX4_winningCall_36 : decode cX4_winningCall 36 = .ok (.iload_n 1, 1) := by decide +kernel
theorem dX4_winningCall_37 : decode cX4_winningCall 37 = .ok (.ireturn, 1) := by decide +kernel
theorem dX4_winningCall_38 : decode cX4_winningCall 38 = .ok (.iinc 1 1, 3) := by decide +kernel
theorem dX4_winningCall_41 : decode cX4_winningCall 41 = .ok (.goto (-39), 3) := by decide +kernel
theorem dX4_winningCall_44 : decode cX4_winningCall 44 = .ok (.bipush (-9), 2) := by decide +kernel
theorem dX4_winningCall_46 : decode cX4_winningCall 46 = .ok (.ireturn, 1) := by decide +kernel
theorem dX4_callerWins_0 : decode cX4_callerWins 0 = .ok (.iload_n 2, 1) := by decide +kernel
theorem dX4_callerWins_1 : decode cX4_callerWins 1 = .ok (.ifCond .ne 10, 3) := by decide +kernel
theorem dX4_callerWins_4 : decode cX4_callerWins 4 = .ok (.aload_n 0, 1) := by decide +kernel
theorem dX4_callerWins_5 : decode cX4_callerWins 5 = .ok (.getfield 9, 3) := by decide +kernel
theorem dX4_callerWins_8 : decode cX4_callerWins 8 = .ok (.iload_n 1, 1) := by decide +kernel
theorem dX4_callerWins_9 : decode cX4_callerWins 9 = .ok (.baload, 1) := by decide +kernel
theorem dX4_callerWins_10 : decode cX4_callerWins 10 = .ok (.ireturn, 1) := by decide +kernel
theorem dX4_callerWins_11 : decode cX4_callerWins 11 = .ok (.iconst 0, 1) := by decide +kernel
theorem dX4_callerWins_12 : decode cX4_callerWins 12 = .ok (.istore 4, 2) := by decide +kernel
theorem dX4_callerWins_14 : decode cX4_callerWins 14 = .ok (.iload 4, 2) := by decide +kernel
theorem dX4_callerWins_16 : decode cX4_callerWins 16 = .ok (.aload_n 0, 1) := by decide +kernel
theorem dX4_callerWins_17 : decode cX4_callerWins 17 = .ok (.getfield 19, 3) := by decide +kernel
theorem dX4_callerWins_20 : decode cX4_callerWins 20 = .ok (.invokevirtual 70, 3) := by decide +kernel
theorem dX4_callerWins_23 : decode cX4_callerWins 23 = .ok (.if_icmp .ge 63, 3) := by decide +kernel
theorem dX4_callerWins_26 : decode cX4_callerWins 26 = .ok (.iload 4, 2) := by decide +kernel
theorem dX4_callerWins_28 : decode cX4_callerWins 28 = .ok (.iload_n 2, 1) := by decide +kernel
theorem dX4_callerWins_29 : decode cX4_callerWins 29 = .ok (.invokestatic 51, 3) := by decide +kernel
theorem dX4_callerWins_32 : decode cX4_callerWins 32 = .ok (.ifCond .eq 48, 3) := by decide +kernel
theorem dX4_callerWins_35 : decode cX4_callerWins 35 = .ok (.iload_n 3, 1) := by decide +kernel
theorem dX4_callerWins_36 : decode cX4_callerWins 36 = .ok (.ifCond .eq 12, 3) := by decide +kernel
theorem dX4_callerWins_39 : decode cX4_callerWins 39 = .ok (.iload_n 1, 1) := by decide +kernel
theorem dX4_callerWins_40 : decode cX4_callerWins 40 = .ok (.iconst 1, 1) := by decide +kernel
theorem dX4_callerWins_41 : decode cX4_callerWins 41 = .ok (.iload 4, 2) := by decide +kernel
theorem dX4_callerWins_43 : decode cX4_callerWins 43 = .ok (.ishl, 1) := by decide +kernel
theorem dX4_callerWins_44 : decode cX4_callerWins 44 = .ok (.ior, 1) := by decide +kernel
theorem dX4_callerWins_45 : decode cX4_callerWins 45 = .ok (.goto 4, 3) := by decide +kernel
theorem dX4_callerWins_48 : decode cX4_callerWins 48 = .ok (.iload_n 1, 1) := by decide +kernel
theorem dX4_callerWins_49 : decode cX4_callerWins 49 = .ok (.istore 5, 2) := by decide +kernel
theorem dX4_callerWins_51 : decode cX4_callerWins 51 = .ok (.aload_n 0, 1) := by decide +kernel
theorem dX4_callerWins_52 : decode cX4_callerWins 52 = .ok (.iload 5, 2) := by decide +kernel
theorem dX4_callerWins_54 : decode cX4_callerWins 54 = .ok (.iload_n 2, 1) := by decide +kernel
theorem dX4_callerWins_55 : decode cX4_callerWins 55 = .ok (.iconst 1, 1) := by decide +kernel
theorem dX4_callerWins_56 : decode cX4_callerWins 56 = .ok (.iload 4, 2) := by decide +kernel
theorem dX4_callerWins_58 : decode cX4_callerWins 58 = .ok (.ishl, 1) := by decide +kernel
theorem dX4_callerWins_59 : decode cX4_callerWins 59 = .ok (.iconst (-1), 1) := by decide +kernel
theorem dX4_callerWins_60 : decode cX4_callerWins 60 = .ok (.ixor, 1) := by decide +kernel
theorem dX4_callerWins_61 : decode cX4_callerWins 61 = .ok (.iand, 1) := by decide +kernel
theorem dX4_callerWins_62 : decode cX4_callerWins 62 = .ok (.iload_n 3, 1) := by decide +kernel
theorem dX4_callerWins_63 : decode cX4_callerWins 63 = .ok (.ifCond .ne 7, 3) := by decide +kernel
theorem dX4_callerWins_66 : decode cX4_callerWins 66 = .ok (.iconst 1, 1) := by decide +kernel
theorem dX4_callerWins_67 : decode cX4_callerWins 67 = .ok (.goto 4, 3) := by decide +kernel
theorem dX4_callerWins_70 : decode cX4_callerWins 70 = .ok (.iconst 0, 1) := by decide +kernel
theorem dX4_callerWins_71 : decode cX4_callerWins 71 = .ok (.invokevirtual 73, 3) := by decide +kernel
theorem dX4_callerWins_74 : decode cX4_callerWins 74 = .ok (.iload_n 3, 1) := by decide +kernel
theorem dX4_callerWins_75 : decode cX4_callerWins 75 = .ok (.if_icmp .ne 5, 3) := by decide +kernel
theorem dX4_callerWins_78 : decode cX4_callerWins 78 = .ok (.iload_n 3, 1) := by decide +kernel
theorem dX4_callerWins_79 : decode cX4_callerWins 79 = .ok (.ireturn, 1) := by decide +kernel
theorem dX4_callerWins_80 : decode cX4_callerWins 80 = .ok (.iinc 4 1, 3) := by decide +kernel
theorem dX4_callerWins_83 : decode cX4_callerWins 83 = .ok (.goto (-69), 3) := by decide +kernel
theorem dX4_callerWins_86 : decode cX4_callerWins 86 = .ok (.iload_n 3, 1) := by decide +kernel
theorem dX4_callerWins_87 : decode cX4_callerWins 87 = .ok (.ifCond .ne 7, 3) := by decide +kernel
theorem dX4_callerWins_90 : decode cX4_callerWins 90 = .ok (.iconst 1, 1) := by decide +kernel
theorem dX4_callerWins_91 : decode cX4_callerWins 91 = .ok (.goto 4, 3) := by decide +kernel
theorem dX4_callerWins_94 : decode cX4_callerWins 94 = .ok (.iconst 0, 1) := by decide +kernel
theorem dX4_callerWins_95 : decode cX4_callerWins 95 = .ok (.ireturn, 1) := by decide +kernel
theorem dX4_waysToCome_0 : decode cX4_waysToCome 0 = .ok (.iload_n 1, 1) := by decide +kernel
theorem dX4_waysToCome_1 : decode cX4_waysToCome 1 = .ok (.invokestatic 46, 3) := by decide +kernel
theorem dX4_waysToCome_4 : decode cX4_waysToCome 4 = .ok (.istore_n 3, 1) := by decide +kernel
theorem dX4_waysToCome_5 : decode cX4_waysToCome 5 = .ok (.iload_n 2, 1) := by decide +kernel
theorem dX4_waysToCome_6 : decode cX4_waysToCome 6 = .ok (.iload_n 3, 1) := by decide +kernel
theorem dX4_waysToCome_7 : decode cX4_waysToCome 7 = .ok (.invokestatic 77, 3) := by decide +kernel
theorem dX4_waysToCome_10 : decode cX4_waysToCome 10 = .ok (.bipush 12, 2) := by decide +kernel
theorem dX4_waysToCome_12 : decode cX4_waysToCome 12 = .ok (.iload_n 2, 1) := by decide +kernel
theorem dX4_waysToCome_13 : decode cX4_waysToCome 13 = .ok (.isub, 1) := by decide +kernel
theorem dX4_waysToCome_14 : decode cX4_waysToCome 14 = .ok (.aload_n 0, 1) := by decide +kernel
theorem dX4_waysToCome_15 : decode cX4_waysToCome 15 = .ok (.getfield 19, 3) := by decide +kernel
theorem dX4_waysToCome_18 : decode cX4_waysToCome 18 = .ok (.invokevirtual 70, 3) := by decide +kernel
theorem dX4_waysToCome_21 : decode cX4_waysToCome 21 = .ok (.iload_n 3, 1) := by decide +kernel
theorem dX4_waysToCome_22 : decode cX4_waysToCome 22 = .ok (.isub, 1) := by decide +kernel
theorem dX4_waysToCome_23 : decode cX4_waysToCome 23 = .ok (.invokestatic 77, 3) := by decide +kernel
theorem dX4_waysToCome_26 : decode cX4_waysToCome 26 = .ok (.lmul, 1) := by decide +kernel
theorem dX4_waysToCome_27 : decode cX4_waysToCome 27 = .ok (.lreturn, 1) := by decide +kernel
theorem dX4_waysToOpen_0 : decode cX4_waysToOpen 0 = .ok (.lconst 0, 1) := by decide +kernel
theorem dX4_waysToOpen_1 : decode cX4_waysToOpen 1 = .ok (.lstore_n 2, 1) := by decide +kernel
theorem dX4_waysToOpen_2 : decode cX4_waysToOpen 2 = .ok (.iconst 0, 1) := by decide +kernel
theorem dX4_waysToOpen_3 : decode cX4_waysToOpen 3 = .ok (.istore 4, 2) := by decide +kernel
theorem dX4_waysToOpen_5 : decode cX4_waysToOpen 5 = .ok (.iload 4, 2) := by decide +kernel
theorem dX4_waysToOpen_7 : decode cX4_waysToOpen 7 = .ok (.aload_n 0, 1) := by decide +kernel
theorem dX4_waysToOpen_8 : decode cX4_waysToOpen 8 = .ok (.getfield 35, 3) := by decide +kernel
theorem dX4_waysToOpen_11 : decode cX4_waysToOpen 11 = .ok (.if_icmp .ge 29, 3) := by decide +kernel
theorem dX4_waysToOpen_14 : decode cX4_waysToOpen 14 = .ok (.aload_n 0, 1) := by decide +kernel
theorem dX4_waysToOpen_15 : decode cX4_waysToOpen 15 = .ok (.getfield 9, 3) := by decide +kernel
theorem dX4_waysToOpen_18 : decode cX4_waysToOpen 18 = .ok (.iload 4, 2) := by decide +kernel
theorem dX4_waysToOpen_20 : decode cX4_waysToOpen 20 = .ok (.baload, 1) := by decide +kernel
theorem dX4_waysToOpen_21 : decode cX4_waysToOpen 21 = .ok (.ifCond .eq 13, 3) := by decide +kernel
theorem dX4_waysToOpen_24 : decode cX4_waysToOpen 24 = .ok (.lload_n 2, 1) := by decide +kernel
theorem dX4_waysToOpen_25 : decode cX4_waysToOpen 25 = .ok (.aload_n 0, 1) := by decide +kernel
theorem dX4_waysToOpen_26 : decode cX4_waysToOpen 26 = .ok (.iload 4, 2) := by decide +kernel
theorem dX4_waysToOpen_28 : decode cX4_waysToOpen 28 = .ok (.iload_n 1, 1) := by decide +kernel
theorem dX4_waysToOpen_29 : decode cX4_waysToOpen 29 = .ok (.invokevirtual 81, 3) := by decide +kernel
theorem dX4_waysToOpen_32 : decode cX4_waysToOpen 32 = .ok (.ladd, 1) := by decide +kernel
theorem dX4_waysToOpen_33 : decode cX4_waysToOpen 33 = .ok (.lstore_n 2, 1) := by decide +kernel
theorem dX4_waysToOpen_34 : decode cX4_waysToOpen 34 = .ok (.iinc 4 1, 3) := by decide +kernel
theorem dX4_waysToOpen_37 : decode cX4_waysToOpen 37 = .ok (.goto (-32), 3) := by decide +kernel
theorem dX4_waysToOpen_40 : decode cX4_waysToOpen 40 = .ok (.lload_n 2, 1) := by decide +kernel
theorem dX4_waysToOpen_41 : decode cX4_waysToOpen 41 = .ok (.lreturn, 1) := by decide +kernel
theorem dX4_bucketsInAllWays_0 : decode cX4_bucketsInAllWays 0 = .ok (.lconst 0, 1) := by decide +kernel
theorem dX4_bucketsInAllWays_1 : decode cX4_bucketsInAllWays 1 = .ok (.lstore_n 2, 1) := by decide +kernel
theorem dX4_bucketsInAllWays_2 : decode cX4_bucketsInAllWays 2 = .ok (.iconst 0, 1) := by decide +kernel
theorem dX4_bucketsInAllWays_3 : decode cX4_bucketsInAllWays 3 = .ok (.istore 4, 2) := by decide +kernel
theorem dX4_bucketsInAllWays_5 : decode cX4_bucketsInAllWays 5 = .ok (.iload 4, 2) := by decide +kernel
theorem dX4_bucketsInAllWays_7 : decode cX4_bucketsInAllWays 7 = .ok (.aload_n 0, 1) := by decide +kernel
theorem dX4_bucketsInAllWays_8 : decode cX4_bucketsInAllWays 8 = .ok (.getfield 35, 3) := by decide +kernel
theorem dX4_bucketsInAllWays_11 : decode cX4_bucketsInAllWays 11 = .ok (.if_icmp .ge 40, 3) := by decide +kernel
theorem dX4_bucketsInAllWays_14 : decode cX4_bucketsInAllWays 14 = .ok (.aload_n 0, 1) := by decide +kernel
theorem dX4_bucketsInAllWays_15 : decode cX4_bucketsInAllWays 15 = .ok (.getfield 9, 3) := by decide +kernel
theorem dX4_bucketsInAllWays_18 : decode cX4_bucketsInAllWays 18 = .ok (.iload 4, 2) := by decide +kernel
theorem dX4_bucketsInAllWays_20 : decode cX4_bucketsInAllWays 20 = .ok (.baload, 1) := by decide +kernel
theorem dX4_bucketsInAllWays_21 : decode cX4_bucketsInAllWays 21 = .ok (.ifCond .eq 24, 3) := by decide +kernel
theorem dX4_bucketsInAllWays_24 : decode cX4_bucketsInAllWays 24 = .ok (.lload_n 2, 1) := by decide +kernel
theorem dX4_bucketsInAllWays_25 : decode cX4_bucketsInAllWays 25 = .ok (.aload_n 0, 1) := by decide +kernel
theorem dX4_bucketsInAllWays_26 : decode cX4_bucketsInAllWays 26 = .ok (.iload 4, 2) := by decide +kernel
theorem dX4_bucketsInAllWays_28 : decode cX4_bucketsInAllWays 28 = .ok (.iload_n 1, 1) := by decide +kernel
theorem dX4_bucketsInAllWays_29 : decode cX4_bucketsInAllWays 29 = .ok (.invokevirtual 81, 3) := by decide +kernel
theorem dX4_bucketsInAllWays_32 : decode cX4_bucketsInAllWays 32 = .ok (.aload_n 0, 1) := by decide +kernel
theorem dX4_bucketsInAllWays_33 : decode cX4_bucketsInAllWays 33 = .ok (.getfield 19, 3) := by decide +kernel
theorem dX4_bucketsInAllWays_36 : decode cX4_bucketsInAllWays 36 = .ok (.iload 4, 2) := by decide +kernel
theorem dX4_bucketsInAllWays_38 : decode cX4_bucketsInAllWays 38 = .ok (.invokevirtual 42, 3) := by decide +kernel
theorem dX4_bucketsInAllWays_41 : decode cX4_bucketsInAllWays 41 = .ok (.i2l, 1) := by decide +kernel
theorem dX4_bucketsInAllWays_42 : decode cX4_bucketsInAllWays 42 = .ok (.lmul, 1) := by decide +kernel
theorem dX4_bucketsInAllWays_43 : decode cX4_bucketsInAllWays 43 = .ok (.ladd, 1) := by decide +kernel
theorem dX4_bucketsInAllWays_44 : decode cX4_bucketsInAllWays 44 = .ok (.lstore_n 2, 1) := by decide +kernel
theorem dX4_bucketsInAllWays_45 : decode cX4_bucketsInAllWays 45 = .ok (.iinc 4 1, 3) := by decide +kernel
theorem dX4_bucketsInAllWays_48 : decode cX4_bucketsInAllWays 48 = .ok (.goto (-43), 3) := by decide +kernel
theorem dX4_bucketsInAllWays_51 : decode cX4_bucketsInAllWays 51 = .ok (.lload_n 2, 1) := by decide +kernel
theorem dX4_bucketsInAllWays_52 : decode cX4_bucketsInAllWays 52 = .ok (.lreturn, 1) := by decide +kernel
theorem dX5_init_0 : decode cX5_init 0 = .ok (.aload_n 0, 1) := by decide +kernel
theorem dX5_init_1 : decode cX5_init 1 = .ok (.invokespecial 3, 3) := by decide +kernel
theorem dX5_init_4 : decode cX5_init 4 = .ok (.aload_n 0, 1) := by decide +kernel
theorem dX5_init_5 : decode cX5_init 5 = .ok (.new 9, 3) := by decide +kernel
theorem dX5_init_8 : decode cX5_init 8 = .ok (.dup, 1) := by decide +kernel
theorem dX5_init_9 : decode cX5_init 9 = .ok (.invokespecial 11, 3) := by decide +kernel
theorem dX5_init_12 : decode cX5_init 12 = .ok (.putfield 12, 3) := by decide +kernel
theorem dX5_init_15 : decode cX5_init 15 = .ok (.aload_n 0, 1) := by decide +kernel
theorem dX5_init_16 : decode cX5_init 16 = .ok (.new 18, 3) := by decide +kernel
theorem dX5_init_19 : decode cX5_init 19 = .ok (.dup, 1) := by decide +kernel
theorem dX5_init_20 : decode cX5_init 20 = .ok (.iconst 0, 1) := by decide +kernel
theorem dX5_init_21 : decode cX5_init 21 = .ok (.invokespecial 20, 3) := by decide +kernel
theorem dX5_init_24 : decode cX5_init 24 = .ok (.putfield 23, 3) := by decide +kernel
theorem dX5_init_27 : decode cX5_init 27 = .ok (.aload_n 0, 1) := by decide +kernel
theorem dX5_init_28 : decode cX5_init 28 = .ok (.bipush 7, 2) := by decide +kernel
theorem dX5_init_30 : decode cX5_init 30 = .ok (.newarray .int, 2) := by decide +kernel
theorem dX5_init_32 : decode cX5_init 32 = .ok (.putfield 27, 3) := by decide +kernel
theorem dX5_init_35 : decode cX5_init 35 = .ok (.aload_n 0, 1) := by decide +kernel
theorem dX5_init_36 : decode cX5_init 36 = .ok (.bipush 7, 2) := by decide +kernel
theorem dX5_init_38 : decode cX5_init 38 = .ok (.newarray .int, 2) := by decide +kernel
theorem dX5_init_40 : decode cX5_init 40 = .ok (.putfield 31, 3) := by decide +kernel
theorem dX5_init_43 : decode cX5_init 43 = .ok (.aload_n 0, 1) := by decide +kernel
theorem dX5_init_44 : decode cX5_init 44 = .ok (.bipush 7, 2) := by decide +kernel
theorem dX5_init_46 : decode cX5_init 46 = .ok (.newarray .int, 2) := by decide +kernel
theorem dX5_init_48 : decode cX5_init 48 = .ok (.putfield 34, 3) := by decide +kernel
theorem dX5_init_51 : decode cX5_init 51 = .ok (.return_, 1) := by decide +kernel
theorem dX5_begin_0 : decode cX5_begin 0 = .ok (.aload_n 0, 1) := by decide +kernel
theorem dX5_begin_1 : decode cX5_begin 1 = .ok (.aload_n 1, 1) := by decide +kernel
theorem dX5_begin_2 : decode cX5_begin 2 = .ok (.putfield 12, 3) := by decide +kernel
theorem dX5_begin_5 : decode cX5_begin 5 = .ok (.aload_n 0, 1) := by decide +kernel
theorem dX5_begin_6 : decode cX5_begin 6 = .ok (.getfield 23, 3) := by decide +kernel
theorem dX5_begin_9 : decode cX5_begin 9 = .ok (.iconst 0, 1) := by decide +kernel
theorem dX5_begin_10 : decode cX5_begin 10 = .ok (.putfield 37, 3) := by decide +kernel
theorem dX5_begin_13 : decode cX5_begin 13 = .ok (.aload_n 0, 1) := by decide +kernel
theorem dX5_begin_14 : decode cX5_begin 14 = .ok (.invokevirtual 41, 3) := by decide +kernel
theorem dX5_begin_17 : decode cX5_begin 17 = .ok (.return_, 1) := by decide +kernel
theorem dX5_replay_0 : decode cX5_replay 0 = .ok (.aload_n 0, 1) := by decide +kernel
theorem dX5_replay_1 : decode cX5_replay 1 = .ok (.aload_n 0, 1) := by decide +kernel
theorem dX5_replay_2 : decode cX5_replay 2 = .ok (.getfield 12, 3) := by decide +kernel
theorem dX5_replay_5 : decode cX5_replay 5 = .ok (.getfield 44, 3) := by decide +kernel
theorem dX5_replay_8 : decode cX5_replay 8 = .ok (.putfield 47, 3) := by decide +kernel
theorem dX5_replay_11 : decode cX5_replay 11 = .ok (.aload_n 0, 1) := by decide +kernel
theorem dX5_replay_12 : decode cX5_replay 12 = .ok (.iconst 0, 1) := by decide +kernel
theorem dX5_replay_13 : decode cX5_replay 13 = .ok (.putfield 50, 3) := by decide +kernel
theorem dX5_replay_16 : decode cX5_replay 16 = .ok (.iconst 0, 1) := by decide +kernel
theorem dX5_replay_17 : decode cX5_replay 17 = .ok (.istore_n 1, 1) := by decide +kernel
theorem dX5_replay_18 : decode cX5_replay 18 = .ok (.iload_n 1, 1) := by decide +kernel
theorem dX5_replay_19 : decode cX5_replay 19 = .ok (.bipush 7, 2) := by decide +kernel
theorem dX5_replay_21 : decode cX5_replay 21 = .ok (.if_icmp .ge 30, 3) := by decide +kernel
theorem dX5_replay_24 : decode cX5_replay 24 = .ok (.aload_n 0, 1) := by decide +kernel
theorem dX5_replay_25 : decode cX5_replay 25 = .ok (.getfield 27, 3) := by decide +kernel
theorem dX5_replay_28 : decode cX5_replay 28 = .ok (.iload_n 1, 1) := by decide +kernel
theorem dX5_replay_29 : decode cX5_replay 29 = .ok (.iload_n 1, 1) := by decide +kernel
theorem dX5_replay_30 : decode cX5_replay 30 = .ok (.iastore, 1) := by decide +kernel
theorem dX5_replay_31 : decode cX5_replay 31 = .ok (.aload_n 0, 1) := by decide +kernel
theorem dX5_replay_32 : decode cX5_replay 32 = .ok (.getfield 31, 3) := by decide +kernel
theorem dX5_replay_35 : decode cX5_replay 35 = .ok (.iload_n 1, 1) := by decide +kernel
theorem dX5_replay_36 : decode cX5_replay 36 = .ok (.iconst 0, 1) := by decide +kernel
theorem dX5_replay_37 : decode cX5_replay 37 = .ok (.iastore, 1) := by decide +kernel
theorem dX5_replay_38 : decode cX5_replay 38 = .ok (.aload_n 0, 1) := by decide +kernel
theorem dX5_replay_39 : decode cX5_replay 39 = .ok (.getfield 34, 3) := by decide +kernel
theorem dX5_replay_42 : decode cX5_replay 42 = .ok (.iload_n 1, 1) := by decide +kernel
theorem dX5_replay_43 : decode cX5_replay 43 = .ok (.iconst 0, 1) := by decide +kernel
theorem dX5_replay_44 : decode cX5_replay 44 = .ok (.iastore, 1) := by decide +kernel
theorem dX5_replay_45 : decode cX5_replay 45 = .ok (.iinc 1 1, 3) := by decide +kernel
theorem dX5_replay_48 : decode cX5_replay 48 = .ok (.goto (-30), 3) := by decide +kernel
theorem dX5_replay_51 : decode cX5_replay 51 = .ok (.iconst 0, 1) := by decide +kernel
theorem dX5_replay_52 : decode cX5_replay 52 = .ok (.istore_n 1, 1) := by decide +kernel
theorem dX5_replay_53 : decode cX5_replay 53 = .ok (.iload_n 1, 1) := by decide +kernel
theorem dX5_replay_54 : decode cX5_replay 54 = .ok (.aload_n 0, 1) := by decide +kernel
theorem dX5_replay_55 : decode cX5_replay 55 = .ok (.getfield 23, 3) := by decide +kernel
theorem dX5_replay_58 : decode cX5_replay 58 = .ok (.getfield 37, 3) := by decide +kernel
theorem dX5_replay_61 : decode cX5_replay 61 = .ok (.if_icmp .ge 29, 3) := by decide +kernel
theorem dX5_replay_64 : decode cX5_replay 64 = .ok (.iload_n 1, 1) := by decide +kernel
theorem dX5_replay_65 : decode cX5_replay 65 = .ok (.bipush 40, 2) := by decide +kernel
theorem dX5_replay_67 : decode cX5_replay 67 = .ok (.if_icmp .ge 23, 3) := by decide +kernel
theorem dX5_replay_70 : decode cX5_replay 70 = .ok (.aload_n 0, 1) := by decide +kernel
theorem dX5_replay_71 : decode cX5_replay 71 = .ok (.aload_n 0, 1) := by decide +kernel
theorem dX5_replay_72 : decode cX5_replay 72 = .ok (.getfield 23, 3) := by decide +kernel
theorem dX5_replay_75 : decode cX5_replay 75 = .ok (.getfield 53, 3) := by decide +kernel
theorem dX5_replay_78 : decode cX5_replay 78 = .ok (.iload_n 1, 1) := by decide +kernel
theorem dX5_replay_79 : decode cX5_replay 79 = .ok (.iaload, 1) := by decide +kernel
theorem dX5_replay_80 : decode cX5_replay 80 = .ok (.invokevirtual 56, 3) := by decide +kernel
theorem dX5_replay_83 : decode cX5_replay 83 = .ok (.pop, 1) := by decide +kernel
theorem dX5_replay_84 : decode cX5_replay 84 = .ok (.iinc 1 1, 3) := by decide +kernel
theorem dX5_replay_87 : decode cX5_replay 87 = .ok (.goto (-34), 3) := by decide +kernel
theorem dX5_replay_90 : decode cX5_replay 90 = .ok (.return_, 1) := by decide +kernel
theorem dX5_perform_0 : decode cX5_perform 0 = .ok (.aload_n 0, 1) := by decide +kernel
theorem dX5_perform_1 : decode cX5_perform 1 = .ok (.getfield 23, 3) := by decide +kernel
theorem dX5_perform_4 : decode cX5_perform 4 = .ok (.iload_n 1, 1) := by decide +kernel
theorem dX5_perform_5 : decode cX5_perform 5 = .ok (.invokevirtual 60, 3) := by decide +kernel
theorem dX5_perform_8 : decode cX5_perform 8 = .ok (.aload_n 0, 1) := by decide +kernel
theorem dX5_perform_9 : decode cX5_perform 9 = .ok (.iload_n 1, 1) := by decide +kernel
theorem dX5_perform_10 : decode cX5_perform 10 = .ok (.invokevirtual 56, 3) := by decide +kernel
theorem dX5_perform_13 : decode cX5_perform 13 = .ok (.ireturn, 1) := by decide +kernel
theorem dX5_apply_0 : decode cX5_apply 0 = .ok (.iload_n 1, 1) := by decide +kernel
theorem dX5_apply_1 : decode cX5_apply 1 = .ok (.iconst 3, 1) := by decide +kernel
theorem dX5_apply_2 : decode cX5_apply 2 = .ok (.iand, 1) := by decide +kernel
theorem dX5_apply_3 : decode cX5_apply 3 = .ok (.lookupswitch 49 #[(0, 25), (1, 31)], 25) := by decide +kernel
theorem dX5_apply_28 : decode cX5_apply 28 = .ok (.aload_n 0, 1) := by decide +kernel
theorem dX5_apply_29 : decode cX5_apply 29 = .ok (.iload_n 1, 1) := by decide +kernel
theorem dX5_apply_30 : decode cX5_apply 30 = .ok (.invokevirtual 63, 3) := by decide +kernel
theorem dX5_apply_33 : decode cX5_apply 33 = .ok (.ireturn, 1) := by decide +kernel
theorem dX5_apply_34 : decode cX5_apply 34 = .ok (.aload_n 0, 1) := by decide +kernel
theorem dX5_apply_35 : decode cX5_apply 35 = .ok (.iload_n 1, 1) := by decide +kernel
theorem dX5_apply_36 : decode cX5_apply 36 = .ok (.iconst 2, 1) := by decide +kernel
theorem dX5_apply_37 : decode cX5_apply 37 = .ok (.ishr, 1) := by decide +kernel
theorem dX5_apply_38 : decode cX5_apply 38 = .ok (.bipush 7, 2) := by decide +kernel
theorem dX5_apply_40 : decode cX5_apply 40 = .ok (.iand, 1) := by decide +kernel
theorem dX5_apply_41 : decode cX5_apply 41 = .ok (.iload_n 1, 1) := by decide +kernel
theorem dX5_apply_42 : decode cX5_apply 42 = .ok (.iconst 5, 1) := by decide +kernel
theorem dX5_apply_43 : decode cX5_apply 43 = .ok (.ishr, 1) := by decide +kernel
theorem dX5_apply_44 : decode cX5_apply 44 = .ok (.bipush 7, 2) := by decide +kernel
theorem dX5_apply_46 : decode cX5_apply 46 = .ok (.iand, 1) := by decide +kernel
theorem dX5_apply_47 : decode cX5_apply 47 = .ok (.invokevirtual 66, 3) := by decide +kernel
theorem dX5_apply_50 : decode cX5_apply 50 = .ok (.iconst 0, 1) := by decide +kernel
theorem dX5_apply_51 : decode cX5_apply 51 = .ok (.ireturn, 1) := by decide +kernel
theorem dX5_apply_52 : decode cX5_apply 52 = .ok (.aload_n 0, 1) := by decide +kernel
theorem dX5_apply_53 : decode cX5_apply 53 = .ok (.invokevirtual 70, 3) := by decide +kernel
theorem dX5_apply_56 : decode cX5_apply 56 = .ok (.iconst 0, 1) := by decide +kernel
theorem dX5_apply_57 : decode cX5_apply 57 = .ok (.ireturn, 1) := by decide +kernel
theorem dX5_drawInTurn_0 : decode cX5_drawInTurn 0 = .ok (.iload_n 1, 1) := by decide +kernel
theorem dX5_drawInTurn_1 : decode cX5_drawInTurn 1 = .ok (.iconst 2, 1) := by decide +kernel
theorem dX5_drawInTurn_2 : decode cX5_drawInTurn 2 = .ok (.ishr, 1) := by decide +kernel
theorem dX5_drawInTurn_3 : decode cX5_drawInTurn 3 = .ok (.bipush 7, 2) := by decide +kernel
theorem dX5_drawInTurn_5 : decode cX5_drawInTurn 5 = .ok (.iand, 1) := by decide +kernel
theorem dX5_drawInTurn_6 : decode cX5_drawInTurn 6 = .ok (.istore_n 2, 1) := by decide +kernel
theorem dX5_drawInTurn_7 : decode cX5_drawInTurn 7 = .ok (.aload_n 0, 1) := by decide +kernel
theorem dX5_drawInTurn_8 : decode cX5_drawInTurn 8 = .ok (.getfield 47, 3) := by decide +kernel
theorem dX5_drawInTurn_11 : decode cX5_drawInTurn 11 = .ok (.istore_n 3, 1) := by decide +kernel
theorem dX5_drawInTurn_12 : decode cX5_drawInTurn 12 = .ok (.iconst 0, 1) := by decide +kernel
theorem dX5_drawInTurn_13 : decode cX5_drawInTurn 13 = .ok (.istore 4, 2) := by decide +kernel
theorem dX5_drawInTurn_15 : decode cX5_drawInTurn 15 = .ok (.iload 4, 2) := by decide +kernel
theorem dX5_drawInTurn_17 : decode cX5_drawInTurn 17 = .ok (.iload_n 2, 1) := by decide +kernel
theorem dX5_drawInTurn_18 : decode cX5_drawInTurn 18 = .ok (.if_icmp .ge 81, 3) := by decide +kernel
theorem dX5_drawInTurn_21 : decode cX5_drawInTurn 21 = .ok (.iload_n 1, 1) := by decide +kernel
theorem dX5_drawInTurn_22 : decode cX5_drawInTurn 22 = .ok (.iconst 5, 1) := by decide +kernel
theorem dX5_drawInTurn_23 : decode cX5_drawInTurn 23 = .ok (.iconst 3, 1) := by decide +kernel
theorem dX5_drawInTurn_24 : decode cX5_drawInTurn 24 = .ok (.iload 4, 2) := by decide +kernel
theorem dX5_drawInTurn_26 : decode cX5_drawInTurn 26 = .ok (.imul, 1) := by decide +kernel
theorem dX5_drawInTurn_27 : decode cX5_drawInTurn 27 = .ok (.iadd, 1) := by decide +kernel
theorem dX5_drawInTurn_28 : decode cX5_drawInTurn 28 = .ok (.ishr, 1) := by decide +kernel
theorem dX5_drawInTurn_29 : decode cX5_drawInTurn 29 = .ok (.bipush 7, 2) := by decide +kernel
theorem dX5_drawInTurn_31 : decode cX5_drawInTurn 31 = .ok (.iand, 1) := by decide +kernel
theorem dX5_drawInTurn_32 : decode cX5_drawInTurn 32 = .ok (.istore 5, 2) := by decide +kernel
theorem dX5_drawInTurn_34 : decode cX5_drawInTurn 34 = .ok (.aload_n 0, 1) := by decide +kernel
theorem dX5_drawInTurn_35 : decode cX5_drawInTurn 35 = .ok (.iload 5, 2) := by decide +kernel
theorem dX5_drawInTurn_37 : decode cX5_drawInTurn 37 = .ok (.invokevirtual 73, 3) := by decide +kernel
theorem dX5_drawInTurn_40 : decode cX5_drawInTurn 40 = .ok (.ifCond .eq 53, 3) := by decide +kernel
theorem dX5_drawInTurn_43 : decode cX5_drawInTurn 43 = .ok (.aload_n 0, 1) := by decide +kernel
theorem dX5_drawInTurn_44 : decode cX5_drawInTurn 44 = .ok (.iload 5, 2) := by decide +kernel
theorem dX5_drawInTurn_46 : decode cX5_drawInTurn 46 = .ok (.invokevirtual 77, 3) := by decide +kernel
theorem dX5_drawInTurn_49 : decode cX5_drawInTurn 49 = .ok (.aload_n 0, 1) := by decide +kernel
theorem dX5_drawInTurn_50 : decode cX5_drawInTurn 50 = .ok (.getfield 47, 3) := by decide +kernel
theorem dX5_drawInTurn_53 : decode cX5_drawInTurn 53 = .ok (.invokestatic 80, 3) := by decide +kernel
theorem dX5_drawInTurn_56 : decode cX5_drawInTurn 56 = .ok (.istore 6, 2) := by decide +kernel
theorem dX5_drawInTurn_58 : decode cX5_drawInTurn 58 = .ok (.aload_n 0, 1) := by decide +kernel
theorem dX5_drawInTurn_59 : decode cX5_drawInTurn 59 = .ok (.getfield 31, 3) := by decide +kernel
theorem dX5_drawInTurn_62 : decode cX5_drawInTurn 62 = .ok (.iload 5, 2) := by decide +kernel
theorem dX5_drawInTurn_64 : decode cX5_drawInTurn 64 = .ok (.dup2, 1) := by decide +kernel
theorem dX5_drawInTurn_65 : decode cX5_drawInTurn 65 = .ok (.iaload, 1) := by decide +kernel
theorem dX5_drawInTurn_66 : decode cX5_drawInTurn 66 = .ok (.iload 6, 2) := by decide +kernel
theorem dX5_drawInTurn_68 : decode cX5_drawInTurn 68 = .ok (.iadd, 1) := by decide +kernel
theorem dX5_drawInTurn_69 : decode cX5_drawInTurn 69 = .ok (.iastore, 1) := by decide +kernel
theorem dX5_drawInTurn_70 : decode cX5_drawInTurn 70 = .ok (.aload_n 0, 1) := by decide +kernel
theorem dX5_drawInTurn_71 : decode cX5_drawInTurn 71 = .ok (.getfield 34, 3) := by decide +kernel
theorem dX5_drawInTurn_74 : decode cX5_drawInTurn 74 = .ok (.iload 5, 2) := by decide +kernel
theorem dX5_drawInTurn_76 : decode cX5_drawInTurn 76 = .ok (.dup2, 1) := by decide +kernel
theorem dX5_drawInTurn_77 : decode cX5_drawInTurn 77 = .ok (.iaload, 1) := by decide +kernel
theorem dX5_drawInTurn_78 : decode cX5_drawInTurn 78 = .ok (.iload 6, 2) := by decide +kernel
theorem dX5_drawInTurn_80 : decode cX5_drawInTurn 80 = .ok (.iadd, 1) := by decide +kernel
theorem dX5_drawInTurn_81 : decode cX5_drawInTurn 81 = .ok (.iastore, 1) := by decide +kernel
theorem dX5_drawInTurn_82 : decode cX5_drawInTurn 82 = .ok (.aload_n 0, 1) := by decide +kernel
theorem dX5_drawInTurn_83 : decode cX5_drawInTurn 83 = .ok (.dup, 1) := by decide +kernel
theorem dX5_drawInTurn_84 : decode cX5_drawInTurn 84 = .ok (.getfield 47, 3) := by decide +kernel
theorem dX5_drawInTurn_87 : decode cX5_drawInTurn 87 = .ok (.iload 6, 2) := by decide +kernel
theorem dX5_drawInTurn_89 : decode cX5_drawInTurn 89 = .ok (.isub, 1) := by decide +kernel
theorem dX5_drawInTurn_90 : decode cX5_drawInTurn 90 = .ok (.putfield 47, 3) := by decide +kernel
theorem dX5_drawInTurn_93 : decode cX5_drawInTurn 93 = .ok (.iinc 4 1, 3) := by decide +kernel
theorem dX5_drawInTurn_96 : decode cX5_drawInTurn 96 = .ok (.goto (-81), 3) := by decide +kernel
theorem dX5_drawInTurn_99 : decode cX5_drawInTurn 99 = .ok (.iload_n 3, 1) := by decide +kernel
theorem dX5_drawInTurn_100 : decode cX5_drawInTurn 100 = .ok (.aload_n 0, 1) := by decide +kernel
theorem dX5_drawInTurn_101 : decode cX5_drawInTurn 101 = .ok (.getfield 47, 3) := by decide +kernel
theorem dX5_drawInTurn_104 : decode cX5_drawInTurn 104 = .ok (.isub, 1) := by decide +kernel
theorem dX5_drawInTurn_105 : decode cX5_drawInTurn 105 = .ok (.ireturn, 1) := by decide +kernel
theorem dX5_giveKey_0 : decode cX5_giveKey 0 = .ok (.aload_n 0, 1) := by decide +kernel
theorem dX5_giveKey_1 : decode cX5_giveKey 1 = .ok (.iload_n 1, 1) := by decide +kernel
theorem dX5_giveKey_2 : decode cX5_giveKey 2 = .ok (.invokevirtual 73, 3) := by decide +kernel
theorem dX5_giveKey_5 : decode cX5_giveKey 5 = .ok (.ifCond .eq 18, 3) := by decide +kernel
theorem dX5_giveKey_8 : decode cX5_giveKey 8 = .ok (.aload_n 0, 1) := by decide +kernel
theorem dX5_giveKey_9 : decode cX5_giveKey 9 = .ok (.iload_n 2, 1) := by decide +kernel
theorem dX5_giveKey_10 : decode cX5_giveKey 10 = .ok (.invokevirtual 73, 3) := by decide +kernel
theorem dX5_giveKey_13 : decode cX5_giveKey 13 = .ok (.ifCond .eq 10, 3) := by decide +kernel
theorem dX5_giveKey_16 : decode cX5_giveKey 16 = .ok (.aload_n 0, 1) := by decide +kernel
theorem dX5_giveKey_17 : decode cX5_giveKey 17 = .ok (.getfield 27, 3) := by decide +kernel
theorem dX5_giveKey_20 : decode cX5_giveKey 20 = .ok (.iload_n 1, 1) := by decide +kernel
theorem dX5_giveKey_21 : decode cX5_giveKey 21 = .ok (.iload_n 2, 1) := by decide +kernel
theorem dX5_giveKey_22 : decode cX5_giveKey 22 = .ok (.iastore, 1) := by decide +kernel
theorem dX5_giveKey_23 : decode cX5_giveKey 23 = .ok (.return_, 1) := by decide +kernel
theorem dX5_passDay_0 : decode cX5_passDay 0 = .ok (.aload_n 0, 1) := by decide +kernel
theorem dX5_passDay_1 : decode cX5_passDay 1 = .ok (.dup, 1) := by decide +kernel
theorem dX5_passDay_2 : decode cX5_passDay 2 = .ok (.getfield 50, 3) := by decide +kernel
theorem dX5_passDay_5 : decode cX5_passDay 5 = .ok (.iconst 1, 1) := by decide +kernel
theorem dX5_passDay_6 : decode cX5_passDay 6 = .ok (.iadd, 1) := by decide +kernel
theorem dX5_passDay_7 : decode cX5_passDay 7 = .ok (.putfield 50, 3) := by decide +kernel
theorem dX5_passDay_10 : decode cX5_passDay 10 = .ok (.aload_n 0, 1) := by decide +kernel
theorem dX5_passDay_11 : decode cX5_passDay 11 = .ok (.aload_n 0, 1) := by decide +kernel
theorem dX5_passDay_12 : decode cX5_passDay 12 = .ok (.getfield 47, 3) := by decide +kernel
theorem dX5_passDay_15 : decode cX5_passDay 15 = .ok (.aload_n 0, 1) := by decide +kernel
theorem dX5_passDay_16 : decode cX5_passDay 16 = .ok (.getfield 12, 3) := by decide +kernel
theorem dX5_passDay_19 : decode cX5_passDay 19 = .ok (.getfield 86, 3) := by decide +kernel
theorem dX5_passDay_22 : decode cX5_passDay 22 = .ok (.iadd, 1) := by decide +kernel
theorem dX5_passDay_23 : decode cX5_passDay 23 = .ok (.bipush 99, 2) := by decide +kernel
theorem dX5_passDay_25 : decode cX5_passDay 25 = .ok (.invokestatic 80, 3) := by decide +kernel
theorem dX5_passDay_28 : decode cX5_passDay 28 = .ok (.putfield 47, 3) := by decide +kernel
theorem dX5_passDay_31 : decode cX5_passDay 31 = .ok (.aload_n 0, 1) := by decide +kernel
theorem dX5_passDay_32 : decode cX5_passDay 32 = .ok (.getfield 31, 3) := by decide +kernel
theorem dX5_passDay_35 : decode cX5_passDay 35 = .ok (.iconst 0, 1) := by decide +kernel
theorem dX5_passDay_36 : decode cX5_passDay 36 = .ok (.invokestatic 89, 3) := by decide +kernel
theorem dX5_passDay_39 : decode cX5_passDay 39 = .ok (.return_, 1) := by decide +kernel
theorem dX5_houses_0 : decode cX5_houses 0 = .ok (.aload_n 0, 1) := by decide +kernel
theorem dX5_houses_1 : decode cX5_houses 1 = .ok (.getfield 12, 3) := by decide +kernel
theorem dX5_houses_4 : decode cX5_houses 4 = .ok (.getfield 95, 3) := by decide +kernel
theorem dX5_houses_7 : decode cX5_houses 7 = .ok (.ireturn, 1) := by decide +kernel
theorem dX5_sets_0 : decode cX5_sets 0 = .ok (.iconst 1, 1) := by decide +kernel
theorem dX5_sets_1 : decode cX5_sets 1 = .ok (.aload_n 0, 1) := by decide +kernel
theorem dX5_sets_2 : decode cX5_sets 2 = .ok (.getfield 12, 3) := by decide +kernel
theorem dX5_sets_5 : decode cX5_sets 5 = .ok (.getfield 95, 3) := by decide +kernel
theorem dX5_sets_8 : decode cX5_sets 8 = .ok (.ishl, 1) := by decide +kernel
theorem dX5_sets_9 : decode cX5_sets 9 = .ok (.ireturn, 1) := by decide +kernel
theorem dX5_isHouse_0 : decode cX5_isHouse 0 = .ok (.iload_n 1, 1) := by decide +kernel
theorem dX5_isHouse_1 : decode cX5_isHouse 1 = .ok (.ifCond .lt 18, 3) := by decide +kernel
theorem dX5_isHouse_4 : decode cX5_isHouse 4 = .ok (.iload_n 1, 1) := by decide +kernel
theorem dX5_isHouse_5 : decode cX5_isHouse 5 = .ok (.aload_n 0, 1) := by decide +kernel
theorem dX5_isHouse_6 : decode cX5_isHouse 6 = .ok (.getfield 12, 3) := by decide +kernel
theorem dX5_isHouse_9 : decode cX5_isHouse 9 = .ok (.getfield 95, 3) := by decide +kernel
theorem dX5_isHouse_12 : decode cX5_isHouse 12 = .ok (.if_icmp .ge 7, 3) := by decide +kernel
theorem dX5_isHouse_15 : decode cX5_isHouse 15 = .ok (.iconst 1, 1) := by decide +kernel
theorem dX5_isHouse_16 : decode cX5_isHouse 16 = .ok (.goto 4, 3) := by decide +kernel
theorem dX5_isHouse_19 : decode cX5_isHouse 19 = .ok (.iconst 0, 1) := by decide +kernel
theorem dX5_isHouse_20 : decode cX5_isHouse 20 = .ok (.ireturn, 1) := by decide +kernel
theorem dX5_isSet_0 : decode cX5_isSet 0 = .ok (.iload_n 1, 1) := by decide +kernel
theorem dX5_isSet_1 : decode cX5_isSet 1 = .ok (.ifCond .lt 15, 3) := by decide +kernel
theorem dX5_isSet_4 : decode cX5_isSet 4 = .ok (.iload_n 1, 1) := by decide +kernel
theorem dX5_isSet_5 : decode cX5_isSet 5 = .ok (.aload_n 0, 1) := by decide +kernel
theorem dX5_isSet_6 : decode cX5_isSet 6 = .ok (.invokevirtual 98, 3) := by decide +kernel
theorem dX5_isSet_9 : decode cX5_isSet 9 = .ok (.if_icmp .ge 7, 3) := by decide +kernel
theorem dX5_isSet_12 : decode cX5_isSet 12 = .ok (.iconst 1, 1) := by decide +kernel
theorem dX5_isSet_13 : decode cX5_isSet 13 = .ok (.goto 4, 3) := by decide +kernel
theorem dX5_isSet_16 : decode cX5_isSet 16 = .ok (.iconst 0, 1) := by decide +kernel
theorem dX5_isSet_17 : decode cX5_isSet 17 = .ok (.ireturn, 1) := by decide +kernel
theorem dX5_keyWeight_0 : decode cX5_keyWeight 0 = .ok (.aload_n 0, 1) := by decide +kernel
theorem dX5_keyWeight_1 : decode cX5_keyWeight 1 = .ok (.getfield 12, 3) := by decide +kernel
theorem dX5_keyWeight_4 : decode cX5_keyWeight 4 = .ok (.getfield 102, 3) := by decide +kernel
theorem dX5_keyWeight_7 : decode cX5_keyWeight 7 = .ok (.iload_n 1, 1) := by decide +kernel
theorem dX5_keyWeight_8 : decode cX5_keyWeight 8 = .ok (.iaload, 1) := by decide +kernel
theorem dX5_keyWeight_9 : decode cX5_keyWeight 9 = .ok (.istore_n 2, 1) := by decide +kernel
theorem dX5_keyWeight_10 : decode cX5_keyWeight 10 = .ok (.iload_n 2, 1) := by decide +kernel
theorem dX5_keyWeight_11 : decode cX5_keyWeight 11 = .ok (.iconst 1, 1) := by decide +kernel
theorem dX5_keyWeight_12 : decode cX5_keyWeight 12 = .ok (.invokestatic 105, 3) := by decide +kernel
theorem dX5_keyWeight_15 : decode cX5_keyWeight 15 = .ok (.ifCond .eq 12, 3) := by decide +kernel
theorem dX5_keyWeight_18 : decode cX5_keyWeight 18 = .ok (.iconst 1, 1) := by decide +kernel
theorem dX5_keyWeight_19 : decode cX5_keyWeight 19 = .ok (.aload_n 0, 1) := by decide +kernel
theorem dX5_keyWeight_20 : decode cX5_keyWeight 20 = .ok (.getfield 50, 3) := by decide +kernel
theorem dX5_keyWeight_23 : decode cX5_keyWeight 23 = .ok (.iconst 2, 1) := by decide +kernel
theorem dX5_keyWeight_24 : decode cX5_keyWeight 24 = .ok (.irem, 1) := by decide +kernel
theorem dX5_keyWeight_25 : decode cX5_keyWeight 25 = .ok (.isub, 1) := by decide +kernel
theorem dX5_keyWeight_26 : decode cX5_keyWeight 26 = .ok (.ireturn, 1) := by decide +kernel
theorem dX5_keyWeight_27 : decode cX5_keyWeight 27 = .ok (.iload_n 2, 1) := by decide +kernel
theorem dX5_keyWeight_28 : decode cX5_keyWeight 28 = .ok (.iconst 3, 1) := by decide +kernel
theorem dX5_keyWeight_29 : decode cX5_keyWeight 29 = .ok (.invokestatic 105, 3) := by decide +kernel
theorem dX5_keyWeight_32 : decode cX5_keyWeight 32 = .ok (.ifCond .eq 14, 3) := by decide +kernel
theorem dX5_keyWeight_35 : decode cX5_keyWeight 35 = .ok (.iload_n 2, 1) := by decide +kernel
theorem dX5_keyWeight_36 : decode cX5_keyWeight 36 = .ok (.iconst 5, 1) := by decide +kernel
theorem dX5_keyWeight_37 : decode cX5_keyWeight 37 = .ok (.if_icmp .ne 7, 3) := by decide +kernel
theorem dX5_keyWeight_40 : decode cX5_keyWeight 40 = .ok (.iconst 3, 1) := by decide +kernel
theorem dX5_keyWeight_41 : decode cX5_keyWeight 41 = .ok (.goto 4, 3) := by decide +kernel
theorem dX5_keyWeight_44 : decode cX5_keyWeight 44 = .ok (.iconst 2, 1) := by decide +kernel
theorem dX5_keyWeight_45 : decode cX5_keyWeight 45 = .ok (.ireturn, 1) := by decide +kernel
theorem dX5_keyWeight_46 : decode cX5_keyWeight 46 = .ok (.iconst 1, 1) := by decide +kernel
theorem dX5_keyWeight_47 : decode cX5_keyWeight 47 = .ok (.ireturn, 1) := by decide +kernel
theorem dX5_weightOf_0 : decode cX5_weightOf 0 = .ok (.aload_n 0, 1) := by decide +kernel
theorem dX5_weightOf_1 : decode cX5_weightOf 1 = .ok (.getfield 50, 3) := by decide +kernel
theorem dX5_weightOf_4 : decode cX5_weightOf 4 = .ok (.iconst 3, 1) := by decide +kernel
theorem dX5_weightOf_5 : decode cX5_weightOf 5 = .ok (.irem, 1) := by decide +kernel
theorem dX5_weightOf_6 : decode cX5_weightOf 6 = .ok (.ifCond .ne 7, 3) := by decide +kernel
theorem dX5_weightOf_9 : decode cX5_weightOf 9 = .ok (.iconst 1, 1) := by decide +kernel
theorem dX5_weightOf_10 : decode cX5_weightOf 10 = .ok (.goto 4, 3) := by decide +kernel
theorem dX5_weightOf_13 : decode cX5_weightOf 13 = .ok (.iconst 0, 1) := by decide +kernel
theorem dX5_weightOf_14 : decode cX5_weightOf 14 = .ok (.istore_n 2, 1) := by decide +kernel
theorem dX5_weightOf_15 : decode cX5_weightOf 15 = .ok (.iconst 0, 1) := by decide +kernel
theorem dX5_weightOf_16 : decode cX5_weightOf 16 = .ok (.istore_n 3, 1) := by decide +kernel
theorem dX5_weightOf_17 : decode cX5_weightOf 17 = .ok (.iconst 0, 1) := by decide +kernel
theorem dX5_weightOf_18 : decode cX5_weightOf 18 = .ok (.istore 4, 2) := by decide +kernel
theorem dX5_weightOf_20 : decode cX5_weightOf 20 = .ok (.iload 4, 2) := by decide +kernel
theorem dX5_weightOf_22 : decode cX5_weightOf 22 = .ok (.aload_n 0, 1) := by decide +kernel
theorem dX5_weightOf_23 : decode cX5_weightOf 23 = .ok (.getfield 12, 3) := by decide +kernel
theorem dX5_weightOf_26 : decode cX5_weightOf 26 = .ok (.getfield 95, 3) := by decide +kernel
theorem dX5_weightOf_29 : decode cX5_weightOf 29 = .ok (.if_icmp .ge 53, 3) := by decide +kernel
theorem dX5_weightOf_32 : decode cX5_weightOf 32 = .ok (.aload_n 0, 1) := by decide +kernel
theorem dX5_weightOf_33 : decode cX5_weightOf 33 = .ok (.getfield 27, 3) := by decide +kernel
theorem dX5_weightOf_36 : decode cX5_weightOf 36 = .ok (.iload 4, 2) := by decide +kernel
theorem dX5_weightOf_38 : decode cX5_weightOf 38 = .ok (.iaload, 1) := by decide +kernel
theorem dX5_weightOf_39 : decode cX5_weightOf 39 = .ok (.iload_n 1, 1) := by decide +kernel
theorem dX5_weightOf_40 : decode cX5_weightOf 40 = .ok (.invokestatic 109, 3) := by decide +kernel
theorem dX5_weightOf_43 : decode cX5_weightOf 43 = .ok (.ifCond .eq 15, 3) := by decide +kernel
theorem dX5_weightOf_46 : decode cX5_weightOf 46 = .ok (.iload_n 3, 1) := by decide +kernel
theorem dX5_weightOf_47 : decode cX5_weightOf 47 = .ok (.aload_n 0, 1) := by decide +kernel
theorem dX5_weightOf_48 : decode cX5_weightOf 48 = .ok (.iload 4, 2) := by decide +kernel
theorem dX5_weightOf_50 : decode cX5_weightOf 50 = .ok (.invokevirtual 112, 3) := by decide +kernel
theorem dX5_weightOf_53 : decode cX5_weightOf 53 = .ok (.iadd, 1) := by decide +kernel
theorem dX5_weightOf_54 : decode cX5_weightOf 54 = .ok (.istore_n 3, 1) := by decide +kernel
theorem dX5_weightOf_55 : decode cX5_weightOf 55 = .ok (.goto 21, 3) := by decide +kernel
theorem dX5_weightOf_58 : decode cX5_weightOf 58 = .ok (.aload_n 0, 1) := by decide +kernel
theorem dX5_weightOf_59 : decode cX5_weightOf 59 = .ok (.getfield 12, 3) := by decide +kernel
theorem dX5_weightOf_62 : decode cX5_weightOf 62 = .ok (.getfield 102, 3) := by decide +kernel
theorem dX5_weightOf_65 : decode cX5_weightOf 65 = .ok (.iload 4, 2) := by decide +kernel
theorem dX5_weightOf_67 : decode cX5_weightOf 67 = .ok (.iaload, 1) := by decide +kernel
theorem dX5_weightOf_68 : decode cX5_weightOf 68 = .ok (.iconst 2, 1) := by decide +kernel
theorem dX5_weightOf_69 : decode cX5_weightOf 69 = .ok (.if_icmp .ne 7, 3) := by decide +kernel
theorem dX5_weightOf_72 : decode cX5_weightOf 72 = .ok (.iload_n 3, 1) := by decide +kernel
theorem dX5_weightOf_73 : decode cX5_weightOf 73 = .ok (.iload_n 2, 1) := by decide +kernel
theorem dX5_weightOf_74 : decode cX5_weightOf 74 = .ok (.iadd, 1) := by decide +kernel
theorem dX5_weightOf_75 : decode cX5_weightOf 75 = .ok (.istore_n 3, 1) := by decide +kernel
theorem dX5_weightOf_76 : decode cX5_weightOf 76 = .ok (.iinc 4 1, 3) := by decide +kernel
theorem dX5_weightOf_79 : decode cX5_weightOf 79 = .ok (.goto (-59), 3) := by decide +kernel
theorem dX5_weightOf_82 : decode cX5_weightOf 82 = .ok (.iload_n 3, 1) := by decide +kernel
theorem dX5_weightOf_83 : decode cX5_weightOf 83 = .ok (.ireturn, 1) := by decide +kernel
theorem dX5_wouldOpen_0 : decode cX5_wouldOpen 0 = .ok (.aload_n 0, 1) := by decide +kernel
theorem dX5_wouldOpen_1 : decode cX5_wouldOpen 1 = .ok (.getfield 12, 3) := by decide +kernel
theorem dX5_wouldOpen_4 : decode cX5_wouldOpen 4 = .ok (.getfield 95, 3) := by decide +kernel
theorem dX5_wouldOpen_7 : decode cX5_wouldOpen 7 = .ok (.ifCond .le 23, 3) := by decide +kernel
theorem dX5_wouldOpen_10 : decode cX5_wouldOpen 10 = .ok (.iload_n 2, 1) := by decide +kernel
theorem dX5_wouldOpen_11 : decode cX5_wouldOpen 11 = .ok (.iload_n 3, 1) := by decide +kernel
theorem dX5_wouldOpen_12 : decode cX5_wouldOpen 12 = .ok (.if_icmp .lt 18, 3) := by decide +kernel
theorem dX5_wouldOpen_15 : decode cX5_wouldOpen 15 = .ok (.aload_n 0, 1) := by decide +kernel
theorem dX5_wouldOpen_16 : decode cX5_wouldOpen 16 = .ok (.getfield 12, 3) := by decide +kernel
theorem dX5_wouldOpen_19 : decode cX5_wouldOpen 19 = .ok (.iload_n 1, 1) := by decide +kernel
theorem dX5_wouldOpen_20 : decode cX5_wouldOpen 20 = .ok (.invokevirtual 115, 3) := by decide +kernel
theorem dX5_wouldOpen_23 : decode cX5_wouldOpen 23 = .ok (.ifCond .eq 7, 3) := by decide +kernel
theorem dX5_wouldOpen_26 : decode cX5_wouldOpen 26 = .ok (.iconst 1, 1) := by decide +kernel
theorem dX5_wouldOpen_27 : decode cX5_wouldOpen 27 = .ok (.goto 4, 3) := by decide +kernel
theorem dX5_wouldOpen_30 : decode cX5_wouldOpen 30 = .ok (.iconst 0, 1) := by decide +kernel
theorem dX5_wouldOpen_31 : decode cX5_wouldOpen 31 = .ok (.ireturn, 1) := by decide +kernel
theorem dX5_isOpenTo_0 : decode cX5_isOpenTo 0 = .ok (.aload_n 0, 1) := by decide +kernel
theorem dX5_isOpenTo_1 : decode cX5_isOpenTo 1 = .ok (.iload_n 1, 1) := by decide +kernel
theorem dX5_isOpenTo_2 : decode cX5_isOpenTo 2 = .ok (.aload_n 0, 1) := by decide +kernel
theorem dX5_isOpenTo_3 : decode cX5_isOpenTo 3 = .ok (.iload_n 1, 1) := by decide +kernel
theorem dX5_isOpenTo_4 : decode cX5_isOpenTo 4 = .ok (.invokevirtual 118, 3) := by decide +kernel
theorem dX5_isOpenTo_7 : decode cX5_isOpenTo 7 = .ok (.aload_n 0, 1) := by decide +kernel
theorem dX5_isOpenTo_8 : decode cX5_isOpenTo 8 = .ok (.getfield 12, 3) := by decide +kernel
theorem dX5_isOpenTo_11 : decode cX5_isOpenTo 11 = .ok (.getfield 121, 3) := by decide +kernel
theorem dX5_isOpenTo_14 : decode cX5_isOpenTo 14 = .ok (.invokevirtual 124, 3) := by decide +kernel
theorem dX5_isOpenTo_17 : decode cX5_isOpenTo 17 = .ok (.ireturn, 1) := by decide +kernel
theorem dX5_factOf_0 : decode cX5_factOf 0 = .ok (.iload_n 2, 1) := by decide +kernel
theorem dX5_factOf_1 : decode cX5_factOf 1 = .ok (.tableswitch 86 0 5 #[39, 49, 59, 66, 73, 80], 39) := by decide +kernel
theorem dX5_factOf_40 : decode cX5_factOf 40 = .ok (.aload_n 0, 1) := by decide +kernel
theorem dX5_factOf_41 : decode cX5_factOf 41 = .ok (.getfield 12, 3) := by decide +kernel
theorem dX5_factOf_44 : decode cX5_factOf 44 = .ok (.getfield 102, 3) := by decide +kernel
theorem dX5_factOf_47 : decode cX5_factOf 47 = .ok (.iload_n 1, 1) := by decide +kernel
theorem dX5_factOf_48 : decode cX5_factOf 48 = .ok (.iaload, 1) := by decide +kernel
theorem dX5_factOf_49 : decode cX5_factOf 49 = .ok (.ireturn, 1) := by decide +kernel
theorem dX5_factOf_50 : decode cX5_factOf 50 = .ok (.aload_n 0, 1) := by decide +kernel
theorem dX5_factOf_51 : decode cX5_factOf 51 = .ok (.getfield 12, 3) := by decide +kernel
theorem dX5_factOf_54 : decode cX5_factOf 54 = .ok (.getfield 128, 3) := by decide +kernel
theorem dX5_factOf_57 : decode cX5_factOf 57 = .ok (.iload_n 1, 1) := by decide +kernel
theorem dX5_factOf_58 : decode cX5_factOf 58 = .ok (.iaload, 1) := by decide +kernel
theorem dX5_factOf_59 : decode cX5_factOf 59 = .ok (.ireturn, 1) := by decide +kernel
theorem dX5_factOf_60 : decode cX5_factOf 60 = .ok (.aload_n 0, 1) := by decide +kernel
theorem dX5_factOf_61 : decode cX5_factOf 61 = .ok (.getfield 31, 3) := by decide +kernel
theorem dX5_factOf_64 : decode cX5_factOf 64 = .ok (.iload_n 1, 1) := by decide +kernel
theorem dX5_factOf_65 : decode cX5_factOf 65 = .ok (.iaload, 1) := by decide +kernel
theorem dX5_factOf_66 : decode cX5_factOf 66 = .ok (.ireturn, 1) := by decide +kernel
theorem dX5_factOf_67 : decode cX5_factOf 67 = .ok (.aload_n 0, 1) := by decide +kernel
theorem dX5_factOf_68 : decode cX5_factOf 68 = .ok (.getfield 34, 3) := by decide +kernel
theorem dX5_factOf_71 : decode cX5_factOf 71 = .ok (.iload_n 1, 1) := by decide +kernel
theorem dX5_factOf_72 : decode cX5_factOf 72 = .ok (.iaload, 1) := by decide +kernel
theorem dX5_factOf_73 : decode cX5_factOf 73 = .ok (.ireturn, 1) := by decide +kernel
theorem dX5_factOf_74 : decode cX5_factOf 74 = .ok (.aload_n 0, 1) := by decide +kernel
theorem dX5_factOf_75 : decode cX5_factOf 75 = .ok (.getfield 27, 3) := by decide +kernel
theorem dX5_factOf_78 : decode cX5_factOf 78 = .ok (.iload_n 1, 1) := by decide +kernel
theorem dX5_factOf_79 : decode cX5_factOf 79 = .ok (.iaload, 1) := by decide +kernel
theorem dX5_factOf_80 : decode cX5_factOf 80 = .ok (.ireturn, 1) := by decide +kernel
theorem dX5_factOf_81 : decode cX5_factOf 81 = .ok (.aload_n 0, 1) := by decide +kernel
theorem dX5_factOf_82 : decode cX5_factOf 82 = .ok (.iload_n 1, 1) := by decide +kernel
theorem dX5_factOf_83 : decode cX5_factOf 83 = .ok (.invokevirtual 112, 3) := by decide +kernel
theorem dX5_factOf_86 : decode cX5_factOf 86 = .ok (.ireturn, 1) := by decide +kernel
theorem dX5_factOf_87 : decode cX5_factOf 87 = .ok (.aload_n 0, 1) := by decide +kernel
theorem dX5_factOf_88 : decode cX5_factOf 88 = .ok (.getfield 12, 3) := by decide +kernel
theorem dX5_factOf_91 : decode cX5_factOf 91 = .ok (.getfield 131, 3) := by decide +kernel
theorem dX5_factOf_94 : decode cX5_factOf 94 = .ok (.iload_n 1, 1) := by decide +kernel
theorem dX5_factOf_95 : decode cX5_factOf 95 = .ok (.iaload, 1) := by decide +kernel
theorem dX5_factOf_96 : decode cX5_factOf 96 = .ok (.ireturn, 1) := by decide +kernel
theorem dX5_markOf_0 : decode cX5_markOf 0 = .ok (.iload_n 2, 1) := by decide +kernel
theorem dX5_markOf_1 : decode cX5_markOf 1 = .ok (.tableswitch 74 1 4 #[31, 38, 49, 55], 31) := by decide +kernel
theorem dX5_markOf_32 : decode cX5_markOf 32 = .ok (.aload_n 0, 1) := by decide +kernel
theorem dX5_markOf_33 : decode cX5_markOf 33 = .ok (.getfield 50, 3) := by decide +kernel
theorem dX5_markOf_36 : decode cX5_markOf 36 = .ok (.iconst 2, 1) := by decide +kernel
theorem dX5_markOf_37 : decode cX5_markOf 37 = .ok (.irem, 1) := by decide +kernel
theorem dX5_markOf_38 : decode cX5_markOf 38 = .ok (.ireturn, 1) := by decide +kernel
theorem dX5_markOf_39 : decode cX5_markOf 39 = .ok (.iconst 3, 1) := by decide +kernel
theorem dX5_markOf_40 : decode cX5_markOf 40 = .ok (.aload_n 0, 1) := by decide +kernel
theorem dX5_markOf_41 : decode cX5_markOf 41 = .ok (.getfield 50, 3) := by decide +kernel
theorem dX5_markOf_44 : decode cX5_markOf 44 = .ok (.iconst 3, 1) := by decide +kernel
theorem dX5_markOf_45 : decode cX5_markOf 45 = .ok (.irem, 1) := by decide +kernel
theorem dX5_markOf_46 : decode cX5_markOf 46 = .ok (.isub, 1) := by decide +kernel
theorem dX5_markOf_47 : decode cX5_markOf 47 = .ok (.iconst 3, 1) := by decide +kernel
theorem dX5_markOf_48 : decode cX5_markOf 48 = .ok (.irem, 1) := by decide +kernel
theorem dX5_markOf_49 : decode cX5_markOf 49 = .ok (.ireturn, 1) := by decide +kernel
theorem dX5_markOf_50 : decode cX5_markOf 50 = .ok (.aload_n 0, 1) := by decide +kernel
theorem dX5_markOf_51 : decode cX5_markOf 51 = .ok (.iload_n 1, 1) := by decide +kernel
theorem dX5_markOf_52 : decode cX5_markOf 52 = .ok (.invokevirtual 134, 3) := by decide +kernel
theorem dX5_markOf_55 : decode cX5_markOf 55 = .ok (.ireturn, 1) := by decide +kernel
theorem dX5_markOf_56 : decode cX5_markOf 56 = .ok (.aload_n 0, 1) := by decide +kernel
theorem dX5_markOf_57 : decode cX5_markOf 57 = .ok (.getfield 12, 3) := by decide +kernel
theorem dX5_markOf_60 : decode cX5_markOf 60 = .ok (.getfield 128, 3) := by decide +kernel
theorem dX5_markOf_63 : decode cX5_markOf 63 = .ok (.iload_n 1, 1) := by decide +kernel
theorem dX5_markOf_64 : decode cX5_markOf 64 = .ok (.iaload, 1) := by decide +kernel
theorem dX5_markOf_65 : decode cX5_markOf 65 = .ok (.aload_n 0, 1) := by decide +kernel
theorem dX5_markOf_66 : decode cX5_markOf 66 = .ok (.getfield 12, 3) := by decide +kernel
theorem dX5_markOf_69 : decode cX5_markOf 69 = .ok (.iload_n 1, 1) := by decide +kernel
theorem dX5_markOf_70 : decode cX5_markOf 70 = .ok (.invokevirtual 137, 3) := by decide +kernel
theorem dX5_markOf_73 : decode cX5_markOf 73 = .ok (.isub, 1) := by decide +kernel
theorem dX5_markOf_74 : decode cX5_markOf 74 = .ok (.ireturn, 1) := by decide +kernel
theorem dX5_markOf_75 : decode cX5_markOf 75 = .ok (.aload_n 0, 1) := by decide +kernel
theorem dX5_markOf_76 : decode cX5_markOf 76 = .ok (.iload_n 1, 1) := by decide +kernel
theorem dX5_markOf_77 : decode cX5_markOf 77 = .ok (.invokevirtual 140, 3) := by decide +kernel
theorem dX5_markOf_80 : decode cX5_markOf 80 = .ok (.ireturn, 1) := by decide +kernel
theorem dX5_othersNeededByAll_0 : decode cX5_othersNeededByAll 0 = .ok (.aload_n 0, 1) := by decide +kernel
theorem dX5_othersNeededByAll_1 : decode cX5_othersNeededByAll 1 = .ok (.invokevirtual 98, 3) := by decide +kernel
theorem dX5_othersNeededByAll_4 : decode cX5_othersNeededByAll 4 = .ok (.iconst 1, 1) := by decide +kernel
theorem dX5_othersNeededByAll_5 : decode cX5_othersNeededByAll 5 = .ok (.isub, 1) := by decide +kernel
theorem dX5_othersNeededByAll_6 : decode cX5_othersNeededByAll 6 = .ok (.istore_n 2, 1) := by decide +kernel
theorem dX5_othersNeededByAll_7 : decode cX5_othersNeededByAll 7 = .ok (.iconst 0, 1) := by decide +kernel
theorem dX5_othersNeededByAll_8 : decode cX5_othersNeededByAll 8 = .ok (.istore_n 3, 1) := by decide +kernel
theorem dX5_othersNeededByAll_9 : decode cX5_othersNeededByAll 9 = .ok (.iconst 0, 1) := by decide +kernel
theorem dX5_othersNeededByAll_10 : decode cX5_othersNeededByAll 10 = .ok (.istore 4, 2) := by decide +kernel
theorem dX5_othersNeededByAll_12 : decode cX5_othersNeededByAll 12 = .ok (.iload 4, 2) := by decide +kernel
theorem dX5_othersNeededByAll_14 : decode cX5_othersNeededByAll 14 = .ok (.aload_n 0, 1) := by decide +kernel
theorem dX5_othersNeededByAll_15 : decode cX5_othersNeededByAll 15 = .ok (.getfield 12, 3) := by decide +kernel
theorem dX5_othersNeededByAll_18 : decode cX5_othersNeededByAll 18 = .ok (.getfield 95, 3) := by decide +kernel
theorem dX5_othersNeededByAll_21 : decode cX5_othersNeededByAll 21 = .ok (.if_icmp .ge 33, 3) := by decide +kernel
theorem dX5_othersNeededByAll_24 : decode cX5_othersNeededByAll 24 = .ok (.iload 4, 2) := by decide +kernel
theorem dX5_othersNeededByAll_26 : decode cX5_othersNeededByAll 26 = .ok (.iload_n 1, 1) := by decide +kernel
theorem dX5_othersNeededByAll_27 : decode cX5_othersNeededByAll 27 = .ok (.if_icmp .eq 21, 3) := by decide +kernel
theorem dX5_othersNeededByAll_30 : decode cX5_othersNeededByAll 30 = .ok (.aload_n 0, 1) := by decide +kernel
theorem dX5_othersNeededByAll_31 : decode cX5_othersNeededByAll 31 = .ok (.iload_n 2, 1) := by decide +kernel
theorem dX5_othersNeededByAll_32 : decode cX5_othersNeededByAll 32 = .ok (.iconst 1, 1) := by decide +kernel
theorem dX5_othersNeededByAll_33 : decode cX5_othersNeededByAll 33 = .ok (.iload 4, 2) := by decide +kernel
theorem dX5_othersNeededByAll_35 : decode cX5_othersNeededByAll 35 = .ok (.ishl, 1) := by decide +kernel
theorem dX5_othersNeededByAll_36 : decode cX5_othersNeededByAll 36 = .ok (.iconst (-1), 1) := by decide +kernel
theorem dX5_othersNeededByAll_37 : decode cX5_othersNeededByAll 37 = .ok (.ixor, 1) := by decide +kernel
theorem dX5_othersNeededByAll_38 : decode cX5_othersNeededByAll 38 = .ok (.iand, 1) := by decide +kernel
theorem dX5_othersNeededByAll_39 : decode cX5_othersNeededByAll 39 = .ok (.invokevirtual 143, 3) := by decide +kernel
theorem dX5_othersNeededByAll_42 : decode cX5_othersNeededByAll 42 = .ok (.ifCond .ne 6, 3) := by decide +kernel
theorem dX5_othersNeededByAll_45 : decode cX5_othersNeededByAll 45 = .ok (.iinc 3 1, 3) := by decide +kernel
theorem dX5_othersNeededByAll_48 : decode cX5_othersNeededByAll 48 = .ok (.iinc 4 1, 3) := by decide +kernel
theorem dX5_othersNeededByAll_51 : decode cX5_othersNeededByAll 51 = .ok (.goto (-39), 3) := by decide +kernel
theorem dX5_othersNeededByAll_54 : decode cX5_othersNeededByAll 54 = .ok (.iload_n 3, 1) := by decide +kernel
theorem dX5_othersNeededByAll_55 : decode cX5_othersNeededByAll 55 = .ok (.ireturn, 1) := by decide +kernel
theorem dX5_keysHeldBy_0 : decode cX5_keysHeldBy 0 = .ok (.iconst 0, 1) := by decide +kernel
theorem dX5_keysHeldBy_1 : decode cX5_keysHeldBy 1 = .ok (.istore_n 2, 1) := by decide +kernel
theorem dX5_keysHeldBy_2 : decode cX5_keysHeldBy 2 = .ok (.iconst 0, 1) := by decide +kernel
theorem dX5_keysHeldBy_3 : decode cX5_keysHeldBy 3 = .ok (.istore_n 3, 1) := by decide +kernel
theorem dX5_keysHeldBy_4 : decode cX5_keysHeldBy 4 = .ok (.iload_n 3, 1) := by decide +kernel
theorem dX5_keysHeldBy_5 : decode cX5_keysHeldBy 5 = .ok (.aload_n 0, 1) := by decide +kernel
theorem dX5_keysHeldBy_6 : decode cX5_keysHeldBy 6 = .ok (.getfield 12, 3) := by decide +kernel
theorem dX5_keysHeldBy_9 : decode cX5_keysHeldBy 9 = .ok (.getfield 95, 3) := by decide +kernel
theorem dX5_keysHeldBy_12 : decode cX5_keysHeldBy 12 = .ok (.if_icmp .ge 22, 3) := by decide +kernel
theorem dX5_keysHeldBy_15 : decode cX5_keysHeldBy 15 = .ok (.aload_n 0, 1) := by decide +kernel
theorem dX5_keysHeldBy_16 : decode cX5_keysHeldBy 16 = .ok (.getfield 27, 3) := by decide +kernel
theorem dX5_keysHeldBy_19 : decode cX5_keysHeldBy 19 = .ok (.iload_n 3, 1) := by decide +kernel
theorem dX5_keysHeldBy_20 : decode cX5_keysHeldBy 20 = .ok (.iaload, 1) := by decide +kernel
theorem dX5_keysHeldBy_21 : decode cX5_keysHeldBy 21 = .ok (.iload_n 1, 1) := by decide +kernel
theorem dX5_keysHeldBy_22 : decode cX5_keysHeldBy 22 = .ok (.if_icmp .ne 6, 3) := by decide +kernel
theorem dX5_keysHeldBy_25 : decode cX5_keysHeldBy 25 = .ok (.iinc 2 1, 3) := by decide +kernel
theorem dX5_keysHeldBy_28 : decode cX5_keysHeldBy 28 = .ok (.iinc 3 1, 3) := by decide +kernel
theorem dX5_keysHeldBy_31 : decode cX5_keysHeldBy 31 = .ok (.goto (-27), 3) := by decide +kernel
theorem dX5_keysHeldBy_34 : decode cX5_keysHeldBy 34 = .ok (.iload_n 2, 1) := by decide +kernel
theorem dX5_keysHeldBy_35 : decode cX5_keysHeldBy 35 = .ok (.ireturn, 1) := by decide +kernel
theorem dX5_ordersDecidedBy_0 : decode cX5_ordersDecidedBy 0 = .ok (.lconst 0, 1) := by decide +kernel
theorem dX5_ordersDecidedBy_1 : decode cX5_ordersDecidedBy 1 = .ok (.lstore_n 2, 1) := by decide +kernel
theorem dX5_ordersDecidedBy_2 : decode cX5_ordersDecidedBy 2 = .ok (.iconst 0, 1) := by decide +kernel
theorem dX5_ordersDecidedBy_3 : decode cX5_ordersDecidedBy 3 = .ok (.istore 4, 2) := by decide +kernel
theorem dX5_ordersDecidedBy_5 : decode cX5_ordersDecidedBy 5 = .ok (.iload 4, 2) := by decide +kernel
theorem dX5_ordersDecidedBy_7 : decode cX5_ordersDecidedBy 7 = .ok (.aload_n 0, 1) := by decide +kernel
theorem dX5_ordersDecidedBy_8 : decode cX5_ordersDecidedBy 8 = .ok (.invokevirtual 98, 3) := by decide +kernel
theorem dX5_ordersDecidedBy_11 : decode cX5_ordersDecidedBy 11 = .ok (.if_icmp .ge 85, 3) := by decide +kernel
theorem dX5_ordersDecidedBy_14 : decode cX5_ordersDecidedBy 14 = .ok (.iload_n 1, 1) := by decide +kernel
theorem dX5_ordersDecidedBy_15 : decode cX5_ordersDecidedBy 15 = .ok (.iload 4, 2) := by decide +kernel
theorem dX5_ordersDecidedBy_17 : decode cX5_ordersDecidedBy 17 = .ok (.invokestatic 109, 3) := by decide +kernel
theorem dX5_ordersDecidedBy_20 : decode cX5_ordersDecidedBy 20 = .ok (.ifCond .ne 70, 3) := by decide +kernel
theorem dX5_ordersDecidedBy_23 : decode cX5_ordersDecidedBy 23 = .ok (.aload_n 0, 1) := by decide +kernel
theorem dX5_ordersDecidedBy_24 : decode cX5_ordersDecidedBy 24 = .ok (.iload 4, 2) := by decide +kernel
theorem dX5_ordersDecidedBy_26 : decode cX5_ordersDecidedBy 26 = .ok (.invokevirtual 118, 3) := by decide +kernel
theorem dX5_ordersDecidedBy_29 : decode cX5_ordersDecidedBy 29 = .ok (.aload_n 0, 1) := by decide +kernel
theorem dX5_ordersDecidedBy_30 : decode cX5_ordersDecidedBy 30 = .ok (.getfield 12, 3) := by decide +kernel
theorem dX5_ordersDecidedBy_33 : decode cX5_ordersDecidedBy 33 = .ok (.getfield 121, 3) := by decide +kernel
theorem dX5_ordersDecidedBy_36 : decode cX5_ordersDecidedBy 36 = .ok (.if_icmp .ge 54, 3) := by decide +kernel
theorem dX5_ordersDecidedBy_39 : decode cX5_ordersDecidedBy 39 = .ok (.aload_n 0, 1) := by decide +kernel
theorem dX5_ordersDecidedBy_40 : decode cX5_ordersDecidedBy 40 = .ok (.iload 4, 2) := by decide +kernel
theorem dX5_ordersDecidedBy_42 : decode cX5_ordersDecidedBy 42 = .ok (.iconst 1, 1) := by decide +kernel
theorem dX5_ordersDecidedBy_43 : decode cX5_ordersDecidedBy 43 = .ok (.iload_n 1, 1) := by decide +kernel
theorem dX5_ordersDecidedBy_44 : decode cX5_ordersDecidedBy 44 = .ok (.ishl, 1) := by decide +kernel
theorem dX5_ordersDecidedBy_45 : decode cX5_ordersDecidedBy 45 = .ok (.ior, 1) := by decide +kernel
theorem dX5_ordersDecidedBy_46 : decode cX5_ordersDecidedBy 46 = .ok (.invokevirtual 118, 3) := by decide +kernel
theorem dX5_ordersDecidedBy_49 : decode cX5_ordersDecidedBy 49 = .ok (.aload_n 0, 1) := by decide +kernel
theorem dX5_ordersDecidedBy_50 : decode cX5_ordersDecidedBy 50 = .ok (.getfield 12, 3) := by decide +kernel
theorem dX5_ordersDecidedBy_53 : decode cX5_ordersDecidedBy 53 = .ok (.getfield 121, 3) := by decide +kernel
theorem dX5_ordersDecidedBy_56 : decode cX5_ordersDecidedBy 56 = .ok (.if_icmp .lt 34, 3) := by decide +kernel
theorem dX5_ordersDecidedBy_59 : decode cX5_ordersDecidedBy 59 = .ok (.iload 4, 2) := by decide +kernel
theorem dX5_ordersDecidedBy_61 : decode cX5_ordersDecidedBy 61 = .ok (.invokestatic 146, 3) := by decide +kernel
theorem dX5_ordersDecidedBy_64 : decode cX5_ordersDecidedBy 64 = .ok (.istore 5, 2) := by decide +kernel
theorem dX5_ordersDecidedBy_66 : decode cX5_ordersDecidedBy 66 = .ok (.lload_n 2, 1) := by decide +kernel
theorem dX5_ordersDecidedBy_67 : decode cX5_ordersDecidedBy 67 = .ok (.iload 5, 2) := by decide +kernel
theorem dX5_ordersDecidedBy_69 : decode cX5_ordersDecidedBy 69 = .ok (.invokestatic 151, 3) := by decide +kernel
theorem dX5_ordersDecidedBy_72 : decode cX5_ordersDecidedBy 72 = .ok (.aload_n 0, 1) := by decide +kernel
theorem dX5_ordersDecidedBy_73 : decode cX5_ordersDecidedBy 73 = .ok (.getfield 12, 3) := by decide +kernel
theorem dX5_ordersDecidedBy_76 : decode cX5_ordersDecidedBy 76 = .ok (.getfield 95, 3) := by decide +kernel
theorem dX5_ordersDecidedBy_79 : decode cX5_ordersDecidedBy 79 = .ok (.iconst 1, 1) := by decide +kernel
theorem dX5_ordersDecidedBy_80 : decode cX5_ordersDecidedBy 80 = .ok (.isub, 1) := by decide +kernel
theorem dX5_ordersDecidedBy_81 : decode cX5_ordersDecidedBy 81 = .ok (.iload 5, 2) := by decide +kernel
theorem dX5_ordersDecidedBy_83 : decode cX5_ordersDecidedBy 83 = .ok (.isub, 1) := by decide +kernel
theorem dX5_ordersDecidedBy_84 : decode cX5_ordersDecidedBy 84 = .ok (.invokestatic 151, 3) := by decide +kernel
theorem dX5_ordersDecidedBy_87 : decode cX5_ordersDecidedBy 87 = .ok (.lmul, 1) := by decide +kernel
theorem dX5_ordersDecidedBy_88 : decode cX5_ordersDecidedBy 88 = .ok (.ladd, 1) := by decide +kernel
theorem dX5_ordersDecidedBy_89 : decode cX5_ordersDecidedBy 89 = .ok (.lstore_n 2, 1) := by decide +kernel
theorem dX5_ordersDecidedBy_90 : decode cX5_ordersDecidedBy 90 = .ok (.iinc 4 1, 3) := by decide +kernel
theorem dX5_ordersDecidedBy_93 : decode cX5_ordersDecidedBy 93 = .ok (.goto (-88), 3) := by decide +kernel
theorem dX5_ordersDecidedBy_96 : decode cX5_ordersDecidedBy 96 = .ok (.lload_n 2, 1) := by decide +kernel
theorem dX5_ordersDecidedBy_97 : decode cX5_ordersDecidedBy 97 = .ok (.lreturn, 1) := by decide +kernel
theorem dX5_wantsYet_0 : decode cX5_wantsYet 0 = .ok (.aload_n 0, 1) := by decide +kernel
theorem dX5_wantsYet_1 : decode cX5_wantsYet 1 = .ok (.getfield 12, 3) := by decide +kernel
theorem dX5_wantsYet_4 : decode cX5_wantsYet 4 = .ok (.iload_n 1, 1) := by decide +kernel
theorem dX5_wantsYet_5 : decode cX5_wantsYet 5 = .ok (.invokevirtual 137, 3) := by decide +kernel
theorem dX5_wantsYet_8 : decode cX5_wantsYet 8 = .ok (.aload_n 0, 1) := by decide +kernel
theorem dX5_wantsYet_9 : decode cX5_wantsYet 9 = .ok (.getfield 31, 3) := by decide +kernel
theorem dX5_wantsYet_12 : decode cX5_wantsYet 12 = .ok (.iload_n 1, 1) := by decide +kernel
theorem dX5_wantsYet_13 : decode cX5_wantsYet 13 = .ok (.iaload, 1) := by decide +kernel
theorem dX5_wantsYet_14 : decode cX5_wantsYet 14 = .ok (.isub, 1) := by decide +kernel
theorem dX5_wantsYet_15 : decode cX5_wantsYet 15 = .ok (.ireturn, 1) := by decide +kernel
theorem dX5_thirsty_0 : decode cX5_thirsty 0 = .ok (.iconst 0, 1) := by decide +kernel
theorem dX5_thirsty_1 : decode cX5_thirsty 1 = .ok (.istore_n 1, 1) := by decide +kernel
theorem dX5_thirsty_2 : decode cX5_thirsty 2 = .ok (.iconst 0, 1) := by decide +kernel
theorem dX5_thirsty_3 : decode cX5_thirsty 3 = .ok (.istore_n 2, 1) := by decide +kernel
theorem dX5_thirsty_4 : decode cX5_thirsty 4 = .ok (.iload_n 2, 1) := by decide +kernel
theorem dX5_thirsty_5 : decode cX5_thirsty 5 = .ok (.aload_n 0, 1) := by decide +kernel
theorem dX5_thirsty_6 : decode cX5_thirsty 6 = .ok (.getfield 12, 3) := by decide +kernel
theorem dX5_thirsty_9 : decode cX5_thirsty 9 = .ok (.getfield 95, 3) := by decide +kernel
theorem dX5_thirsty_12 : decode cX5_thirsty 12 = .ok (.if_icmp .ge 23, 3) := by decide +kernel
theorem dX5_thirsty_15 : decode cX5_thirsty 15 = .ok (.aload_n 0, 1) := by decide +kernel
theorem dX5_thirsty_16 : decode cX5_thirsty 16 = .ok (.iload_n 2, 1) := by decide +kernel
theorem dX5_thirsty_17 : decode cX5_thirsty 17 = .ok (.invokevirtual 77, 3) := by decide +kernel
theorem dX5_thirsty_20 : decode cX5_thirsty 20 = .ok (.ifCond .le 9, 3) := by decide +kernel
theorem dX5_thirsty_23 : decode cX5_thirsty 23 = .ok (.iload_n 1, 1) := by decide +kernel
theorem dX5_thirsty_24 : decode cX5_thirsty 24 = .ok (.iconst 1, 1) := by decide +kernel
theorem dX5_thirsty_25 : decode cX5_thirsty 25 = .ok (.iload_n 2, 1) := by decide +kernel
theorem dX5_thirsty_26 : decode cX5_thirsty 26 = .ok (.ishl, 1) := by decide +kernel
theorem dX5_thirsty_27 : decode cX5_thirsty 27 = .ok (.ior, 1) := by decide +kernel
theorem dX5_thirsty_28 : decode cX5_thirsty 28 = .ok (.istore_n 1, 1) := by decide +kernel
theorem dX5_thirsty_29 : decode cX5_thirsty 29 = .ok (.iinc 2 1, 3) := by decide +kernel
theorem dX5_thirsty_32 : decode cX5_thirsty 32 = .ok (.goto (-28), 3) := by decide +kernel
theorem dX5_thirsty_35 : decode cX5_thirsty 35 = .ok (.iload_n 1, 1) := by decide +kernel
theorem dX5_thirsty_36 : decode cX5_thirsty 36 = .ok (.ireturn, 1) := by decide +kernel
theorem dX5_drawnBy_0 : decode cX5_drawnBy 0 = .ok (.iconst 0, 1) := by decide +kernel
theorem dX5_drawnBy_1 : decode cX5_drawnBy 1 = .ok (.istore_n 2, 1) := by decide +kernel
theorem dX5_drawnBy_2 : decode cX5_drawnBy 2 = .ok (.iconst 0, 1) := by decide +kernel
theorem dX5_drawnBy_3 : decode cX5_drawnBy 3 = .ok (.istore_n 3, 1) := by decide +kernel
theorem dX5_drawnBy_4 : decode cX5_drawnBy 4 = .ok (.iload_n 3, 1) := by decide +kernel
theorem dX5_drawnBy_5 : decode cX5_drawnBy 5 = .ok (.aload_n 0, 1) := by decide +kernel
theorem dX5_drawnBy_6 : decode cX5_drawnBy 6 = .ok (.getfield 12, 3) := by decide +kernel
theorem dX5_drawnBy_9 : decode cX5_drawnBy 9 = .ok (.getfield 95, 3) := by decide +kernel
theorem dX5_drawnBy_12 : decode cX5_drawnBy 12 = .ok (.if_icmp .ge 25, 3) := by decide +kernel
theorem dX5_drawnBy_15 : decode cX5_drawnBy 15 = .ok (.iload_n 3, 1) := by decide +kernel
theorem dX5_drawnBy_16 : decode cX5_drawnBy 16 = .ok (.iload_n 1, 1) := by decide +kernel
theorem dX5_drawnBy_17 : decode cX5_drawnBy 17 = .ok (.invokestatic 109, 3) := by decide +kernel
theorem dX5_drawnBy_20 : decode cX5_drawnBy 20 = .ok (.ifCond .eq 11, 3) := by decide +kernel
theorem dX5_drawnBy_23 : decode cX5_drawnBy 23 = .ok (.iload_n 2, 1) := by decide +kernel
theorem dX5_drawnBy_24 : decode cX5_drawnBy 24 = .ok (.aload_n 0, 1) := by decide +kernel
theorem dX5_drawnBy_25 : decode cX5_drawnBy 25 = .ok (.iload_n 3, 1) := by decide +kernel
theorem dX5_drawnBy_26 : decode cX5_drawnBy 26 = .ok (.invokevirtual 77, 3) := by decide +kernel
theorem dX5_drawnBy_29 : decode cX5_drawnBy 29 = .ok (.iadd, 1) := by decide +kernel
theorem dX5_drawnBy_30 : decode cX5_drawnBy 30 = .ok (.istore_n 2, 1) := by decide +kernel
theorem dX5_drawnBy_31 : decode cX5_drawnBy 31 = .ok (.iinc 3 1, 3) := by decide +kernel
theorem dX5_drawnBy_34 : decode cX5_drawnBy 34 = .ok (.goto (-30), 3) := by decide +kernel
theorem dX5_drawnBy_37 : decode cX5_drawnBy 37 = .ok (.iload_n 2, 1) := by decide +kernel
theorem dX5_drawnBy_38 : decode cX5_drawnBy 38 = .ok (.aload_n 0, 1) := by decide +kernel
theorem dX5_drawnBy_39 : decode cX5_drawnBy 39 = .ok (.getfield 47, 3) := by decide +kernel
theorem dX5_drawnBy_42 : decode cX5_drawnBy 42 = .ok (.invokestatic 80, 3) := by decide +kernel
theorem dX5_drawnBy_45 : decode cX5_drawnBy 45 = .ok (.ireturn, 1) := by decide +kernel
theorem dX5_drawnByShares_0 : decode cX5_drawnByShares 0 = .ok (.iconst 0, 1) := by decide +kernel
theorem dX5_drawnByShares_1 : decode cX5_drawnByShares 1 = .ok (.istore_n 2, 1) := by decide +kernel
theorem dX5_drawnByShares_2 : decode cX5_drawnByShares 2 = .ok (.iconst 0, 1) := by decide +kernel
theorem dX5_drawnByShares_3 : decode cX5_drawnByShares 3 = .ok (.istore_n 3, 1) := by decide +kernel
theorem dX5_drawnByShares_4 : decode cX5_drawnByShares 4 = .ok (.iload_n 3, 1) := by decide +kernel
theorem dX5_drawnByShares_5 : decode cX5_drawnByShares 5 = .ok (.aload_n 0, 1) := by decide +kernel
theorem dX5_drawnByShares_6 : decode cX5_drawnByShares 6 = .ok (.getfield 12, 3) := by decide +kernel
theorem dX5_drawnByShares_9 : decode cX5_drawnByShares 9 = .ok (.getfield 95, 3) := by decide +kernel
theorem dX5_drawnByShares_12 : decode cX5_drawnByShares 12 = .ok (.if_icmp .ge 21, 3) := by decide +kernel
theorem dX5_drawnByShares_15 : decode cX5_drawnByShares 15 = .ok (.iload_n 2, 1) := by decide +kernel
theorem dX5_drawnByShares_16 : decode cX5_drawnByShares 16 = .ok (.aload_n 0, 1) := by decide +kernel
theorem dX5_drawnByShares_17 : decode cX5_drawnByShares 17 = .ok (.iload_n 3, 1) := by decide +kernel
theorem dX5_drawnByShares_18 : decode cX5_drawnByShares 18 = .ok (.invokevirtual 77, 3) := by decide +kernel
theorem dX5_drawnByShares_21 : decode cX5_drawnByShares 21 = .ok (.iload_n 1, 1) := by decide +kernel
theorem dX5_drawnByShares_22 : decode cX5_drawnByShares 22 = .ok (.invokestatic 80, 3) := by decide +kernel
theorem dX5_drawnByShares_25 : decode cX5_drawnByShares 25 = .ok (.iadd, 1) := by decide +kernel
theorem dX5_drawnByShares_26 : decode cX5_drawnByShares 26 = .ok (.istore_n 2, 1) := by decide +kernel
theorem dX5_drawnByShares_27 : decode cX5_drawnByShares 27 = .ok (.iinc 3 1, 3) := by decide +kernel
theorem dX5_drawnByShares_30 : decode cX5_drawnByShares 30 = .ok (.goto (-26), 3) := by decide +kernel
theorem dX5_drawnByShares_33 : decode cX5_drawnByShares 33 = .ok (.iload_n 2, 1) := by decide +kernel
theorem dX5_drawnByShares_34 : decode cX5_drawnByShares 34 = .ok (.ireturn, 1) := by decide +kernel
theorem dX5_mostServed_0 : decode cX5_mostServed 0 = .ok (.iload_n 2, 1) := by decide +kernel
theorem dX5_mostServed_1 : decode cX5_mostServed 1 = .ok (.istore_n 3, 1) := by decide +kernel
theorem dX5_mostServed_2 : decode cX5_mostServed 2 = .ok (.iconst 0, 1) := by decide +kernel
theorem dX5_mostServed_3 : decode cX5_mostServed 3 = .ok (.istore 4, 2) := by decide +kernel
theorem dX5_mostServed_5 : decode cX5_mostServed 5 = .ok (.iconst 1, 1) := by decide +kernel
theorem dX5_mostServed_6 : decode cX5_mostServed 6 = .ok (.istore 5, 2) := by decide +kernel
theorem dX5_mostServed_8 : decode cX5_mostServed 8 = .ok (.iload 5, 2) := by decide +kernel
theorem dX5_mostServed_10 : decode cX5_mostServed 10 = .ok (.bipush 9, 2) := by decide +kernel
theorem dX5_mostServed_12 : decode cX5_mostServed 12 = .ok (.if_icmp .gt 64, 3) := by decide +kernel
theorem dX5_mostServed_15 : decode cX5_mostServed 15 = .ok (.iconst 0, 1) := by decide +kernel
theorem dX5_mostServed_16 : decode cX5_mostServed 16 = .ok (.istore 6, 2) := by decide +kernel
theorem dX5_mostServed_18 : decode cX5_mostServed 18 = .ok (.iload 6, 2) := by decide +kernel
theorem dX5_mostServed_20 : decode cX5_mostServed 20 = .ok (.aload_n 0, 1) := by decide +kernel
theorem dX5_mostServed_21 : decode cX5_mostServed 21 = .ok (.getfield 12, 3) := by decide +kernel
theorem dX5_mostServed_24 : decode cX5_mostServed 24 = .ok (.getfield 95, 3) := by decide +kernel
theorem dX5_mostServed_27 : decode cX5_mostServed 27 = .ok (.if_icmp .ge 43, 3) := by decide +kernel
theorem dX5_mostServed_30 : decode cX5_mostServed 30 = .ok (.iload 6, 2) := by decide +kernel
theorem dX5_mostServed_32 : decode cX5_mostServed 32 = .ok (.iload_n 1, 1) := by decide +kernel
theorem dX5_mostServed_33 : decode cX5_mostServed 33 = .ok (.invokestatic 109, 3) := by decide +kernel
theorem dX5_mostServed_36 : decode cX5_mostServed 36 = .ok (.ifCond .eq 28, 3) := by decide +kernel
theorem dX5_mostServed_39 : decode cX5_mostServed 39 = .ok (.aload_n 0, 1) := by decide +kernel
theorem dX5_mostServed_40 : decode cX5_mostServed 40 = .ok (.iload 6, 2) := by decide +kernel
theorem dX5_mostServed_42 : decode cX5_mostServed 42 = .ok (.invokevirtual 77, 3) := by decide +kernel
theorem dX5_mostServed_45 : decode cX5_mostServed 45 = .ok (.iload 5, 2) := by decide +kernel
theorem dX5_mostServed_47 : decode cX5_mostServed 47 = .ok (.if_icmp .ne 17, 3) := by decide +kernel
theorem dX5_mostServed_50 : decode cX5_mostServed 50 = .ok (.iload 5, 2) := by decide +kernel
theorem dX5_mostServed_52 : decode cX5_mostServed 52 = .ok (.iload_n 3, 1) := by decide +kernel
theorem dX5_mostServed_53 : decode cX5_mostServed 53 = .ok (.if_icmp .gt 11, 3) := by decide +kernel
theorem dX5_mostServed_56 : decode cX5_mostServed 56 = .ok (.iload_n 3, 1) := by decide +kernel
theorem dX5_mostServed_57 : decode cX5_mostServed 57 = .ok (.iload 5, 2) := by decide +kernel
theorem dX5_mostServed_59 : decode cX5_mostServed 59 = .ok (.isub, 1) := by decide +kernel
theorem dX5_mostServed_60 : decode cX5_mostServed 60 = .ok (.istore_n 3, 1) := by decide +kernel
theorem dX5_mostServed_61 : decode cX5_mostServed 61 = .ok (.iinc 4 1, 3) := by decide +kernel
theorem dX5_mostServed_64 : decode cX5_mostServed 64 = .ok (.iinc 6 1, 3) := by decide +kernel
theorem dX5_mostServed_67 : decode cX5_mostServed 67 = .ok (.goto (-49), 3) := by decide +kernel
theorem dX5_mostServed_70 : decode cX5_mostServed 70 = .ok (.iinc 5 1, 3) := by decide +kernel
theorem dX5_mostServed_73 : decode cX5_mostServed 73 = .ok (.goto (-65), 3) := by decide +kernel
theorem dX5_mostServed_76 : decode cX5_mostServed 76 = .ok (.iload 4, 2) := by decide +kernel
theorem dX5_mostServed_78 : decode cX5_mostServed 78 = .ok (.ireturn, 1) := by decide +kernel
theorem dX5_layBestOrder_0 : decode cX5_layBestOrder 0 = .ok (.iload_n 1, 1) := by decide +kernel
theorem dX5_layBestOrder_1 : decode cX5_layBestOrder 1 = .ok (.istore 4, 2) := by decide +kernel
theorem dX5_layBestOrder_3 : decode cX5_layBestOrder 3 = .ok (.aload_n 0, 1) := by decide +kernel
theorem dX5_layBestOrder_4 : decode cX5_layBestOrder 4 = .ok (.getfield 47, 3) := by decide +kernel
theorem dX5_layBestOrder_7 : decode cX5_layBestOrder 7 = .ok (.istore 5, 2) := by decide +kernel
theorem dX5_layBestOrder_9 : decode cX5_layBestOrder 9 = .ok (.iconst 0, 1) := by decide +kernel
theorem dX5_layBestOrder_10 : decode cX5_layBestOrder 10 = .ok (.istore 6, 2) := by decide +kernel
theorem dX5_layBestOrder_12 : decode cX5_layBestOrder 12 = .ok (.iload 6, 2) := by decide +kernel
theorem dX5_layBestOrder_14 : decode cX5_layBestOrder 14 = .ok (.aload_n 2, 1) := by decide +kernel
theorem dX5_layBestOrder_15 : decode cX5_layBestOrder 15 = .ok (.iload_n 3, 1) := by decide +kernel
theorem dX5_layBestOrder_16 : decode cX5_layBestOrder 16 = .ok (.invokevirtual 155, 3) := by decide +kernel
theorem dX5_layBestOrder_19 : decode cX5_layBestOrder 19 = .ok (.if_icmp .ge 62, 3) := by decide +kernel
theorem dX5_layBestOrder_22 : decode cX5_layBestOrder 22 = .ok (.aload_n 0, 1) := by decide +kernel
theorem dX5_layBestOrder_23 : decode cX5_layBestOrder 23 = .ok (.iload 4, 2) := by decide +kernel
theorem dX5_layBestOrder_25 : decode cX5_layBestOrder 25 = .ok (.iload 5, 2) := by decide +kernel
theorem dX5_layBestOrder_27 : decode cX5_layBestOrder 27 = .ok (.invokevirtual 160, 3) := by decide +kernel
theorem dX5_layBestOrder_30 : decode cX5_layBestOrder 30 = .ok (.istore 7, 2) := by decide +kernel
theorem dX5_layBestOrder_32 : decode cX5_layBestOrder 32 = .ok (.iload 7, 2) := by decide +kernel
theorem dX5_layBestOrder_34 : decode cX5_layBestOrder 34 = .ok (.bipush (-9), 2) := by decide +kernel
theorem dX5_layBestOrder_36 : decode cX5_layBestOrder 36 = .ok (.if_icmp .eq 39, 3) := by decide +kernel
theorem dX5_layBestOrder_39 : decode cX5_layBestOrder 39 = .ok (.aload_n 2, 1) := by decide +kernel
theorem dX5_layBestOrder_40 : decode cX5_layBestOrder 40 = .ok (.iload_n 3, 1) := by decide +kernel
theorem dX5_layBestOrder_41 : decode cX5_layBestOrder 41 = .ok (.iload 6, 2) := by decide +kernel
theorem dX5_layBestOrder_43 : decode cX5_layBestOrder 43 = .ok (.iload 7, 2) := by decide +kernel
theorem dX5_layBestOrder_45 : decode cX5_layBestOrder 45 = .ok (.invokevirtual 163, 3) := by decide +kernel
theorem dX5_layBestOrder_48 : decode cX5_layBestOrder 48 = .ok (.iload 4, 2) := by decide +kernel
theorem dX5_layBestOrder_50 : decode cX5_layBestOrder 50 = .ok (.iconst 1, 1) := by decide +kernel
theorem dX5_layBestOrder_51 : decode cX5_layBestOrder 51 = .ok (.iload 7, 2) := by decide +kernel
theorem dX5_layBestOrder_53 : decode cX5_layBestOrder 53 = .ok (.ishl, 1) := by decide +kernel
theorem dX5_layBestOrder_54 : decode cX5_layBestOrder 54 = .ok (.iconst (-1), 1) := by decide +kernel
theorem dX5_layBestOrder_55 : decode cX5_layBestOrder 55 = .ok (.ixor, 1) := by decide +kernel
theorem dX5_layBestOrder_56 : decode cX5_layBestOrder 56 = .ok (.iand, 1) := by decide +kernel
theorem dX5_layBestOrder_57 : decode cX5_layBestOrder 57 = .ok (.istore 4, 2) := by decide +kernel
theorem dX5_layBestOrder_59 : decode cX5_layBestOrder 59 = .ok (.iload 5, 2) := by decide +kernel
theorem dX5_layBestOrder_61 : decode cX5_layBestOrder 61 = .ok (.aload_n 0, 1) := by decide +kernel
theorem dX5_layBestOrder_62 : decode cX5_layBestOrder 62 = .ok (.iload 7, 2) := by decide +kernel
theorem dX5_layBestOrder_64 : decode cX5_layBestOrder 64 = .ok (.invokevirtual 77, 3) := by decide +kernel
theorem dX5_layBestOrder_67 : decode cX5_layBestOrder 67 = .ok (.iload 5, 2) := by decide +kernel
theorem dX5_layBestOrder_69 : decode cX5_layBestOrder 69 = .ok (.invokestatic 80, 3) := by decide +kernel
theorem dX5_layBestOrder_72 : decode cX5_layBestOrder 72 = .ok (.isub, 1) := by decide +kernel
theorem dX5_layBestOrder_73 : decode cX5_layBestOrder 73 = .ok (.istore 5, 2) := by decide +kernel
theorem dX5_layBestOrder_75 : decode cX5_layBestOrder 75 = .ok (.iinc 6 1, 3) := by decide +kernel
theorem dX5_layBestOrder_78 : decode cX5_layBestOrder 78 = .ok (.goto (-66), 3) := by decide +kernel
theorem dX5_layBestOrder_81 : decode cX5_layBestOrder 81 = .ok (.return_, 1) := by decide +kernel
theorem dX5_nextBest_0 : decode cX5_nextBest 0 = .ok (.aload_n 0, 1) := by decide +kernel
theorem dX5_nextBest_1 : decode cX5_nextBest 1 = .ok (.iload_n 1, 1) := by decide +kernel
theorem dX5_nextBest_2 : decode cX5_nextBest 2 = .ok (.iload_n 2, 1) := by decide +kernel
theorem dX5_nextBest_3 : decode cX5_nextBest 3 = .ok (.invokevirtual 167, 3) := by decide +kernel
theorem dX5_nextBest_6 : decode cX5_nextBest 6 = .ok (.istore_n 3, 1) := by decide +kernel
theorem dX5_nextBest_7 : decode cX5_nextBest 7 = .ok (.iconst 0, 1) := by decide +kernel
theorem dX5_nextBest_8 : decode cX5_nextBest 8 = .ok (.istore 4, 2) := by decide +kernel
theorem dX5_nextBest_10 : decode cX5_nextBest 10 = .ok (.iload 4, 2) := by decide +kernel
theorem dX5_nextBest_12 : decode cX5_nextBest 12 = .ok (.aload_n 0, 1) := by decide +kernel
theorem dX5_nextBest_13 : decode cX5_nextBest 13 = .ok (.getfield 12, 3) := by decide +kernel
theorem dX5_nextBest_16 : decode cX5_nextBest 16 = .ok (.getfield 95, 3) := by decide +kernel
theorem dX5_nextBest_19 : decode cX5_nextBest 19 = .ok (.if_icmp .ge 78, 3) := by decide +kernel
theorem dX5_nextBest_22 : decode cX5_nextBest 22 = .ok (.iload 4, 2) := by decide +kernel
theorem dX5_nextBest_24 : decode cX5_nextBest 24 = .ok (.iload_n 1, 1) := by decide +kernel
theorem dX5_nextBest_25 : decode cX5_nextBest 25 = .ok (.invokestatic 109, 3) := by decide +kernel
theorem dX5_nextBest_28 : decode cX5_nextBest 28 = .ok (.ifCond .eq 63, 3) := by decide +kernel
theorem dX5_nextBest_31 : decode cX5_nextBest 31 = .ok (.aload_n 0, 1) := by decide +kernel
theorem dX5_nextBest_32 : decode cX5_nextBest 32 = .ok (.iload 4, 2) := by decide +kernel
theorem dX5_nextBest_34 : decode cX5_nextBest 34 = .ok (.invokevirtual 77, 3) := by decide +kernel
theorem dX5_nextBest_37 : decode cX5_nextBest 37 = .ok (.istore 5, 2) := by decide +kernel
theorem dX5_nextBest_39 : decode cX5_nextBest 39 = .ok (.iload 5, 2) := by decide +kernel
theorem dX5_nextBest_41 : decode cX5_nextBest 41 = .ok (.ifCond .le 13, 3) := by decide +kernel
theorem dX5_nextBest_44 : decode cX5_nextBest 44 = .ok (.iload 5, 2) := by decide +kernel
theorem dX5_nextBest_46 : decode cX5_nextBest 46 = .ok (.iload_n 2, 1) := by decide +kernel
theorem dX5_nextBest_47 : decode cX5_nextBest 47 = .ok (.if_icmp .gt 7, 3) := by decide +kernel
theorem dX5_nextBest_50 : decode cX5_nextBest 50 = .ok (.iconst 1, 1) := by decide +kernel
theorem dX5_nextBest_51 : decode cX5_nextBest 51 = .ok (.goto 4, 3) := by decide +kernel
theorem dX5_nextBest_54 : decode cX5_nextBest 54 = .ok (.iconst 0, 1) := by decide +kernel
theorem dX5_nextBest_55 : decode cX5_nextBest 55 = .ok (.istore 6, 2) := by decide +kernel
theorem dX5_nextBest_57 : decode cX5_nextBest 57 = .ok (.aload_n 0, 1) := by decide +kernel
theorem dX5_nextBest_58 : decode cX5_nextBest 58 = .ok (.iload_n 1, 1) := by decide +kernel
theorem dX5_nextBest_59 : decode cX5_nextBest 59 = .ok (.iconst 1, 1) := by decide +kernel
theorem dX5_nextBest_60 : decode cX5_nextBest 60 = .ok (.iload 4, 2) := by decide +kernel
theorem dX5_nextBest_62 : decode cX5_nextBest 62 = .ok (.ishl, 1) := by decide +kernel
theorem dX5_nextBest_63 : decode cX5_nextBest 63 = .ok (.iconst (-1), 1) := by decide +kernel
theorem dX5_nextBest_64 : decode cX5_nextBest 64 = .ok (.ixor, 1) := by decide +kernel
theorem dX5_nextBest_65 : decode cX5_nextBest 65 = .ok (.iand, 1) := by decide +kernel
theorem dX5_nextBest_66 : decode cX5_nextBest 66 = .ok (.iload_n 2, 1) := by decide +kernel
theorem dX5_nextBest_67 : decode cX5_nextBest 67 = .ok (.iload 5, 2) := by decide +kernel
theorem dX5_nextBest_69 : decode cX5_nextBest 69 = .ok (.iload_n 2, 1) := by decide +kernel
theorem dX5_nextBest_70 : decode cX5_nextBest 70 = .ok (.invokestatic 80, 3) := by decide +kernel
theorem dX5_nextBest_73 : decode cX5_nextBest 73 = .ok (.isub, 1) := by decide +kernel
theorem dX5_nextBest_74 : decode cX5_nextBest 74 = .ok (.invokevirtual 167, 3) := by decide +kernel
theorem dX5_nextBest_77 : decode cX5_nextBest 77 = .ok (.istore 7, 2) := by decide +kernel
theorem dX5_nextBest_79 : decode cX5_nextBest 79 = .ok (.iload 6, 2) := by decide +kernel
theorem dX5_nextBest_81 : decode cX5_nextBest 81 = .ok (.iload 7, 2) := by decide +kernel
theorem dX5_nextBest_83 : decode cX5_nextBest 83 = .ok (.iadd, 1) := by decide +kernel
theorem dX5_nextBest_84 : decode cX5_nextBest 84 = .ok (.iload_n 3, 1) := by decide +kernel
theorem dX5_nextBest_85 : decode cX5_nextBest 85 = .ok (.if_icmp .ne 6, 3) := by decide +kernel
theorem dX5_nextBest_88 : decode cX5_nextBest 88 = .ok (.iload 4, 2) := by decide +kernel
theorem dX5_nextBest_90 : decode cX5_nextBest 90 = .ok (.ireturn, 1) := by decide +kernel
theorem dX5_nextBest_91 : decode cX5_nextBest 91 = .ok (.iinc 4 1, 3) := by decide +kernel
theorem dX5_nextBest_94 : decode cX5_nextBest 94 = .ok (.goto (-84), 3) := by decide +kernel
theorem dX5_nextBest_97 : decode cX5_nextBest 97 = .ok (.bipush (-9), 2) := by decide +kernel
theorem dX5_nextBest_99 : decode cX5_nextBest 99 = .ok (.ireturn, 1) := by decide +kernel
theorem dX6_init_0 : decode cX6_init 0 = .ok (.aload_n 0, 1) := by decide +kernel
theorem dX6_init_1 : decode cX6_init 1 = .ok (.invokespecial 1, 3) := by decide +kernel
theorem dX6_init_4 : decode cX6_init 4 = .ok (.aload_n 0, 1) := by decide +kernel
theorem dX6_init_5 : decode cX6_init 5 = .ok (.new 7, 3) := by decide +kernel
theorem dX6_init_8 : decode cX6_init 8 = .ok (.dup, 1) := by decide +kernel
theorem dX6_init_9 : decode cX6_init 9 = .ok (.bipush 6, 2) := by decide +kernel
theorem dX6_init_11 : decode cX6_init 11 = .ok (.bipush 40, 2) := by decide +kernel
theorem dX6_init_13 : decode cX6_init 13 = .ok (.invokespecial 11, 3) := by decide +kernel
theorem dX6_init_16 : decode cX6_init 16 = .ok (.putfield 14, 3) := by decide +kernel
theorem dX6_init_19 : decode cX6_init 19 = .ok (.aload_n 0, 1) := by decide +kernel
theorem dX6_init_20 : decode cX6_init 20 = .ok (.new 7, 3) := by decide +kernel
theorem dX6_init_23 : decode cX6_init 23 = .ok (.dup, 1) := by decide +kernel
theorem dX6_init_24 : decode cX6_init 24 = .ok (.iconst 4, 1) := by decide +kernel
theorem dX6_init_25 : decode cX6_init 25 = .ok (.bipush 80, 2) := by decide +kernel
theorem dX6_init_27 : decode cX6_init 27 = .ok (.invokespecial 11, 3) := by decide +kernel
theorem dX6_init_30 : decode cX6_init 30 = .ok (.putfield 18, 3) := by decide +kernel
theorem dX6_init_33 : decode cX6_init 33 = .ok (.aload_n 0, 1) := by decide +kernel
theorem dX6_init_34 : decode cX6_init 34 = .ok (.new 21, 3) := by decide +kernel
theorem dX6_init_37 : decode cX6_init 37 = .ok (.dup, 1) := by decide +kernel
theorem dX6_init_38 : decode cX6_init 38 = .ok (.aload_n 0, 1) := by decide +kernel
theorem dX6_init_39 : decode cX6_init 39 = .ok (.getfield 18, 3) := by decide +kernel
theorem dX6_init_42 : decode cX6_init 42 = .ok (.invokespecial 23, 3) := by decide +kernel
theorem dX6_init_45 : decode cX6_init 45 = .ok (.putfield 26, 3) := by decide +kernel
theorem dX6_init_48 : decode cX6_init 48 = .ok (.aload_n 0, 1) := by decide +kernel
theorem dX6_init_49 : decode cX6_init 49 = .ok (.new 30, 3) := by decide +kernel
theorem dX6_init_52 : decode cX6_init 52 = .ok (.dup, 1) := by decide +kernel
theorem dX6_init_53 : decode cX6_init 53 = .ok (.invokespecial 32, 3) := by decide +kernel
theorem dX6_init_56 : decode cX6_init 56 = .ok (.putfield 33, 3) := by decide +kernel
theorem dX6_init_59 : decode cX6_init 59 = .ok (.aload_n 0, 1) := by decide +kernel
theorem dX6_init_60 : decode cX6_init 60 = .ok (.new 37, 3) := by decide +kernel
theorem dX6_init_63 : decode cX6_init 63 = .ok (.dup, 1) := by decide +kernel
theorem dX6_init_64 : decode cX6_init 64 = .ok (.aload_n 0, 1) := by decide +kernel
theorem dX6_init_65 : decode cX6_init 65 = .ok (.getfield 33, 3) := by decide +kernel
theorem dX6_init_68 : decode cX6_init 68 = .ok (.invokespecial 39, 3) := by decide +kernel
theorem dX6_init_71 : decode cX6_init 71 = .ok (.putfield 42, 3) := by decide +kernel
theorem dX6_init_74 : decode cX6_init 74 = .ok (.aload_n 0, 1) := by decide +kernel
theorem dX6_init_75 : decode cX6_init 75 = .ok (.iconst 3, 1) := by decide +kernel
theorem dX6_init_76 : decode cX6_init 76 = .ok (.anewarray 46, 3) := by decide +kernel
theorem dX6_init_79 : decode cX6_init 79 = .ok (.putfield 48, 3) := by decide +kernel
theorem dX6_init_82 : decode cX6_init 82 = .ok (.aload_n 0, 1) := by decide +kernel
theorem dX6_init_83 : decode cX6_init 83 = .ok (.bipush 6, 2) := by decide +kernel
theorem dX6_init_85 : decode cX6_init 85 = .ok (.newarray .int, 2) := by decide +kernel
theorem dX6_init_87 : decode cX6_init 87 = .ok (.putfield 52, 3) := by decide +kernel
theorem dX6_init_90 : decode cX6_init 90 = .ok (.aload_n 0, 1) := by decide +kernel
theorem dX6_init_91 : decode cX6_init 91 = .ok (.iconst 0, 1) := by decide +kernel
theorem dX6_init_92 : decode cX6_init 92 = .ok (.putfield 56, 3) := by decide +kernel
theorem dX6_init_95 : decode cX6_init 95 = .ok (.aload_n 0, 1) := by decide +kernel
theorem dX6_init_96 : decode cX6_init 96 = .ok (.iconst 0, 1) := by decide +kernel
theorem dX6_init_97 : decode cX6_init 97 = .ok (.putfield 60, 3) := by decide +kernel
theorem dX6_init_100 : decode cX6_init 100 = .ok (.aload_n 0, 1) := by decide +kernel
theorem dX6_init_101 : decode cX6_init 101 = .ok (.lconst 0, 1) := by decide +kernel
theorem dX6_init_102 : decode cX6_init 102 = .ok (.putfield 63, 3) := by decide +kernel
theorem dX6_init_105 : decode cX6_init 105 = .ok (.aload_n 0, 1) := by decide +kernel
theorem dX6_init_106 : decode cX6_init 106 = .ok (.lconst 1, 1) := by decide +kernel
theorem dX6_init_107 : decode cX6_init 107 = .ok (.putfield 67, 3) := by decide +kernel
theorem dX6_init_110 : decode cX6_init 110 = .ok (.iconst 0, 1) := by decide +kernel
theorem dX6_init_111 : decode cX6_init 111 = .ok (.istore_n 1, 1) := by decide +kernel
theorem dX6_init_112 : decode cX6_init 112 = .ok (.iload_n 1, 1) := by decide +kernel
theorem dX6_init_113 : decode cX6_init 113 = .ok (.iconst 3, 1) := by decide +kernel
theorem dX6_init_114 : decode cX6_init 114 = .ok (.if_icmp .ge 23, 3) := by decide +kernel
theorem dX6_init_117 : decode cX6_init 117 = .ok (.aload_n 0, 1) := by decide +kernel
theorem dX6_init_118 : decode cX6_init 118 = .ok (.getfield 48, 3) := by decide +kernel
theorem dX6_init_121 : decode cX6_init 121 = .ok (.iload_n 1, 1) := by decide +kernel
theorem dX6_init_122 : decode cX6_init 122 = .ok (.new 46, 3) := by decide +kernel
theorem dX6_init_125 : decode cX6_init 125 = .ok (.dup, 1) := by decide +kernel
theorem dX6_init_126 : decode cX6_init 126 = .ok (.iconst (-1), 1) := by decide +kernel
theorem dX6_init_127 : decode cX6_init 127 = .ok (.invokespecial 70, 3) := by decide +kernel
theorem dX6_init_130 : decode cX6_init 130 = .ok (.aastore, 1) := by decide +kernel
theorem dX6_init_131 : decode cX6_init 131 = .ok (.iinc 1 1, 3) := by decide +kernel
theorem dX6_init_134 : decode cX6_init 134 = .ok (.goto (-22), 3) := by decide +kernel
theorem dX6_init_137 : decode cX6_init 137 = .ok (.return_, 1) := by decide +kernel
theorem dX6_row_0 : decode cX6_row 0 = .ok (.aload_n 0, 1) := by decide +kernel
theorem dX6_row_1 : decode cX6_row 1 = .ok (.aload_n 0, 1) := by decide +kernel
theorem dX6_row_2 : decode cX6_row 2 = .ok (.getfield 14, 3) := by decide +kernel
theorem dX6_row_5 : decode cX6_row 5 = .ok (.iload_n 1, 1) := by decide +kernel
theorem dX6_row_6 : decode cX6_row 6 = .ok (.iload_n 2, 1) := by decide +kernel
theorem dX6_row_7 : decode cX6_row 7 = .ok (.iconst 0, 1) := by decide +kernel
theorem dX6_row_8 : decode cX6_row 8 = .ok (.invokevirtual 73, 3) := by decide +kernel
theorem dX6_row_11 : decode cX6_row 11 = .ok (.ireturn, 1) := by decide +kernel
theorem dX6_lay_0 : decode cX6_lay 0 = .ok (.aload_n 0, 1) := by decide +kernel
theorem dX6_lay_1 : decode cX6_lay 1 = .ok (.aload_n 0, 1) := by decide +kernel
theorem dX6_lay_2 : decode cX6_lay 2 = .ok (.getfield 14, 3) := by decide +kernel
theorem dX6_lay_5 : decode cX6_lay 5 = .ok (.iload_n 1, 1) := by decide +kernel
theorem dX6_lay_6 : decode cX6_lay 6 = .ok (.iload_n 2, 1) := by decide +kernel
theorem dX6_lay_7 : decode cX6_lay 7 = .ok (.invokevirtual 77, 3) := by decide +kernel
theorem dX6_lay_10 : decode cX6_lay 10 = .ok (.istore 4, 2) := by decide +kernel
theorem dX6_lay_12 : decode cX6_lay 12 = .ok (.iload 4, 2) := by decide +kernel
theorem dX6_lay_14 : decode cX6_lay 14 = .ok (.ifCond .eq 6, 3) := by decide +kernel
theorem dX6_lay_17 : decode cX6_lay 17 = .ok (.iload 4, 2) := by decide +kernel
theorem dX6_lay_19 : decode cX6_lay 19 = .ok (.ireturn, 1) := by decide +kernel
theorem dX6_lay_20 : decode cX6_lay 20 = .ok (.aload_n 0, 1) := by decide +kernel
theorem dX6_lay_21 : decode cX6_lay 21 = .ok (.aload_n 0, 1) := by decide +kernel
theorem dX6_lay_22 : decode cX6_lay 22 = .ok (.getfield 14, 3) := by decide +kernel
theorem dX6_lay_25 : decode cX6_lay 25 = .ok (.iload_n 1, 1) := by decide +kernel
theorem dX6_lay_26 : decode cX6_lay 26 = .ok (.iload_n 2, 1) := by decide +kernel
theorem dX6_lay_27 : decode cX6_lay 27 = .ok (.invokevirtual 81, 3) := by decide +kernel
theorem dX6_lay_30 : decode cX6_lay 30 = .ok (.putfield 60, 3) := by decide +kernel
theorem dX6_lay_33 : decode cX6_lay 33 = .ok (.aload_n 0, 1) := by decide +kernel
theorem dX6_lay_34 : decode cX6_lay 34 = .ok (.getfield 14, 3) := by decide +kernel
theorem dX6_lay_37 : decode cX6_lay 37 = .ok (.iload_n 1, 1) := by decide +kernel
theorem dX6_lay_38 : decode cX6_lay 38 = .ok (.iload_n 2, 1) := by decide +kernel
theorem dX6_lay_39 : decode cX6_lay 39 = .ok (.iload_n 3, 1) := by decide +kernel
theorem dX6_lay_40 : decode cX6_lay 40 = .ok (.invokevirtual 85, 3) := by decide +kernel
theorem dX6_lay_43 : decode cX6_lay 43 = .ok (.iconst 1, 1) := by decide +kernel
theorem dX6_lay_44 : decode cX6_lay 44 = .ok (.ireturn, 1) := by decide +kernel
theorem dX6_at_0 : decode cX6_at 0 = .ok (.aload_n 0, 1) := by decide +kernel
theorem dX6_at_1 : decode cX6_at 1 = .ok (.aload_n 0, 1) := by decide +kernel
theorem dX6_at_2 : decode cX6_at 2 = .ok (.getfield 14, 3) := by decide +kernel
theorem dX6_at_5 : decode cX6_at 5 = .ok (.iload_n 1, 1) := by decide +kernel
theorem dX6_at_6 : decode cX6_at 6 = .ok (.iload_n 2, 1) := by decide +kernel
theorem dX6_at_7 : decode cX6_at 7 = .ok (.invokevirtual 77, 3) := by decide +kernel
theorem dX6_at_10 : decode cX6_at 10 = .ok (.istore_n 3, 1) := by decide +kernel
theorem dX6_at_11 : decode cX6_at 11 = .ok (.iload_n 3, 1) := by decide +kernel
theorem dX6_at_12 : decode cX6_at 12 = .ok (.ifCond .eq 5, 3) := by decide +kernel
theorem dX6_at_15 : decode cX6_at 15 = .ok (.iload_n 3, 1) := by decide +kernel
theorem dX6_at_16 : decode cX6_at 16 = .ok (.ireturn, 1) := by decide +kernel
theorem dX6_at_17 : decode cX6_at 17 = .ok (.aload_n 0, 1) := by decide +kernel
theorem dX6_at_18 : decode cX6_at 18 = .ok (.aload_n 0, 1) := by decide +kernel
theorem dX6_at_19 : decode cX6_at 19 = .ok (.getfield 14, 3) := by decide +kernel
theorem dX6_at_22 : decode cX6_at 22 = .ok (.iload_n 1, 1) := by decide +kernel
theorem dX6_at_23 : decode cX6_at 23 = .ok (.iload_n 2, 1) := by decide +kernel
theorem dX6_at_24 : decode cX6_at 24 = .ok (.invokevirtual 81, 3) := by decide +kernel
theorem dX6_at_27 : decode cX6_at 27 = .ok (.putfield 60, 3) := by decide +kernel
theorem dX6_at_30 : decode cX6_at 30 = .ok (.iconst 1, 1) := by decide +kernel
theorem dX6_at_31 : decode cX6_at 31 = .ok (.ireturn, 1) := by decide +kernel
theorem dX6_tear_0 : decode cX6_tear 0 = .ok (.aload_n 0, 1) := by decide +kernel
theorem dX6_tear_1 : decode cX6_tear 1 = .ok (.aload_n 0, 1) := by decide +kernel
theorem dX6_tear_2 : decode cX6_tear 2 = .ok (.getfield 14, 3) := by decide +kernel
theorem dX6_tear_5 : decode cX6_tear 5 = .ok (.iload_n 1, 1) := by decide +kernel
theorem dX6_tear_6 : decode cX6_tear 6 = .ok (.invokevirtual 89, 3) := by decide +kernel
theorem dX6_tear_9 : decode cX6_tear 9 = .ok (.istore_n 2, 1) := by decide +kernel
theorem dX6_tear_10 : decode cX6_tear 10 = .ok (.iload_n 2, 1) := by decide +kernel
theorem dX6_tear_11 : decode cX6_tear 11 = .ok (.ifCond .eq 5, 3) := by decide +kernel
theorem dX6_tear_14 : decode cX6_tear 14 = .ok (.iload_n 2, 1) := by decide +kernel
theorem dX6_tear_15 : decode cX6_tear 15 = .ok (.ireturn, 1) := by decide +kernel
theorem dX6_tear_16 : decode cX6_tear 16 = .ok (.aload_n 0, 1) := by decide +kernel
theorem dX6_tear_17 : decode cX6_tear 17 = .ok (.getfield 14, 3) := by decide +kernel
theorem dX6_tear_20 : decode cX6_tear 20 = .ok (.iload_n 1, 1) := by decide +kernel
theorem dX6_tear_21 : decode cX6_tear 21 = .ok (.invokevirtual 93, 3) := by decide +kernel
theorem dX6_tear_24 : decode cX6_tear 24 = .ok (.iconst 1, 1) := by decide +kernel
theorem dX6_tear_25 : decode cX6_tear 25 = .ok (.ireturn, 1) := by decide +kernel
theorem dX6_copy_0 : decode cX6_copy 0 = .ok (.aload_n 0, 1) := by decide +kernel
theorem dX6_copy_1 : decode cX6_copy 1 = .ok (.getfield 14, 3) := by decide +kernel
theorem dX6_copy_4 : decode cX6_copy 4 = .ok (.iload_n 1, 1) := by decide +kernel
theorem dX6_copy_5 : decode cX6_copy 5 = .ok (.invokevirtual 96, 3) := by decide +kernel
theorem dX6_copy_8 : decode cX6_copy 8 = .ok (.ifCond .eq 14, 3) := by decide +kernel
theorem dX6_copy_11 : decode cX6_copy 11 = .ok (.aload_n 0, 1) := by decide +kernel
theorem dX6_copy_12 : decode cX6_copy 12 = .ok (.getfield 14, 3) := by decide +kernel
theorem dX6_copy_15 : decode cX6_copy 15 = .ok (.iload_n 3, 1) := by decide +kernel
theorem dX6_copy_16 : decode cX6_copy 16 = .ok (.invokevirtual 96, 3) := by decide +kernel
theorem dX6_copy_19 : decode cX6_copy 19 = .ok (.ifCond .ne 5, 3) := by decide +kernel
theorem dX6_copy_22 : decode cX6_copy 22 = .ok (.iconst (-1), 1) := by decide +kernel
theorem dX6_copy_23 : decode cX6_copy 23 = .ok (.ireturn, 1) := by decide +kernel
theorem dX6_copy_24 : decode cX6_copy 24 = .ok (.iload 5, 2) := by decide +kernel
theorem dX6_copy_26 : decode cX6_copy 26 = .ok (.ifCond .ge 9, 3) := by decide +kernel
theorem dX6_copy_29 : decode cX6_copy 29 = .ok (.aload_n 0, 1) := by decide +kernel
theorem dX6_copy_30 : decode cX6_copy 30 = .ok (.iconst 5, 1) := by decide +kernel
theorem dX6_copy_31 : decode cX6_copy 31 = .ok (.invokevirtual 100, 3) := by decide +kernel
theorem dX6_copy_34 : decode cX6_copy 34 = .ok (.ireturn, 1) := by decide +kernel
theorem dX6_copy_35 : decode cX6_copy 35 = .ok (.aload_n 0, 1) := by decide +kernel
theorem dX6_copy_36 : decode cX6_copy 36 = .ok (.getfield 14, 3) := by decide +kernel
theorem dX6_copy_39 : decode cX6_copy 39 = .ok (.iload_n 1, 1) := by decide +kernel
theorem dX6_copy_40 : decode cX6_copy 40 = .ok (.invokevirtual 104, 3) := by decide +kernel
theorem dX6_copy_43 : decode cX6_copy 43 = .ok (.ifCond .eq 14, 3) := by decide +kernel
theorem dX6_copy_46 : decode cX6_copy 46 = .ok (.aload_n 0, 1) := by decide +kernel
theorem dX6_copy_47 : decode cX6_copy 47 = .ok (.getfield 14, 3) := by decide +kernel
theorem dX6_copy_50 : decode cX6_copy 50 = .ok (.iload_n 3, 1) := by decide +kernel
theorem dX6_copy_51 : decode cX6_copy 51 = .ok (.invokevirtual 104, 3) := by decide +kernel
theorem dX6_copy_54 : decode cX6_copy 54 = .ok (.ifCond .ne 9, 3) := by decide +kernel
theorem dX6_copy_57 : decode cX6_copy 57 = .ok (.aload_n 0, 1) := by decide +kernel
theorem dX6_copy_58 : decode cX6_copy 58 = .ok (.iconst 1, 1) := by decide +kernel
theorem dX6_copy_59 : decode cX6_copy 59 = .ok (.invokevirtual 100, 3) := by decide +kernel
theorem dX6_copy_62 : decode cX6_copy 62 = .ok (.ireturn, 1) := by decide +kernel
theorem dX6_copy_63 : decode cX6_copy 63 = .ok (.aload_n 0, 1) := by decide +kernel
theorem dX6_copy_64 : decode cX6_copy 64 = .ok (.getfield 14, 3) := by decide +kernel
theorem dX6_copy_67 : decode cX6_copy 67 = .ok (.iload_n 1, 1) := by decide +kernel
theorem dX6_copy_68 : decode cX6_copy 68 = .ok (.iload_n 2, 1) := by decide +kernel
theorem dX6_copy_69 : decode cX6_copy 69 = .ok (.iload 5, 2) := by decide +kernel
theorem dX6_copy_71 : decode cX6_copy 71 = .ok (.invokevirtual 107, 3) := by decide +kernel
theorem dX6_copy_74 : decode cX6_copy 74 = .ok (.ifCond .eq 18, 3) := by decide +kernel
theorem dX6_copy_77 : decode cX6_copy 77 = .ok (.aload_n 0, 1) := by decide +kernel
theorem dX6_copy_78 : decode cX6_copy 78 = .ok (.getfield 14, 3) := by decide +kernel
theorem dX6_copy_81 : decode cX6_copy 81 = .ok (.iload_n 3, 1) := by decide +kernel
theorem dX6_copy_82 : decode cX6_copy 82 = .ok (.iload 4, 2) := by decide +kernel
theorem dX6_copy_84 : decode cX6_copy 84 = .ok (.iload 5, 2) := by decide +kernel
theorem dX6_copy_86 : decode cX6_copy 86 = .ok (.invokevirtual 107, 3) := by decide +kernel
theorem dX6_copy_89 : decode cX6_copy 89 = .ok (.ifCond .ne 9, 3) := by decide +kernel
theorem dX6_copy_92 : decode cX6_copy 92 = .ok (.aload_n 0, 1) := by decide +kernel
theorem dX6_copy_93 : decode cX6_copy 93 = .ok (.iconst 2, 1) := by decide +kernel
theorem dX6_copy_94 : decode cX6_copy 94 = .ok (.invokevirtual 100, 3) := by decide +kernel
theorem dX6_copy_97 : decode cX6_copy 97 = .ok (.ireturn, 1) := by decide +kernel
theorem dX6_copy_98 : decode cX6_copy 98 = .ok (.aload_n 0, 1) := by decide +kernel
theorem dX6_copy_99 : decode cX6_copy 99 = .ok (.getfield 14, 3) := by decide +kernel
theorem dX6_copy_102 : decode cX6_copy 102 = .ok (.iload_n 1, 1) := by decide +kernel
theorem dX6_copy_103 : decode cX6_copy 103 = .ok (.iload_n 2, 1) := by decide +kernel
theorem dX6_copy_104 : decode cX6_copy 104 = .ok (.iload_n 3, 1) := by decide +kernel
theorem dX6_copy_105 : decode cX6_copy 105 = .ok (.iload 4, 2) := by decide +kernel
theorem dX6_copy_107 : decode cX6_copy 107 = .ok (.iload 5, 2) := by decide +kernel
theorem dX6_copy_109 : decode cX6_copy 109 = .ok (.invokevirtual 111, 3) := by decide +kernel
theorem dX6_copy_112 : decode cX6_copy 112 = .ok (.iconst 1, 1) := by decide +kernel
theorem dX6_copy_113 : decode cX6_copy 113 = .ok (.ireturn, 1) := by decide +kernel
theorem dX6_mean_0 : decode cX6_mean 0 = .ok (.aload_n 0, 1) := by decide +kernel
theorem dX6_mean_1 : decode cX6_mean 1 = .ok (.aload_n 0, 1) := by decide +kernel
theorem dX6_mean_2 : decode cX6_mean 2 = .ok (.getfield 14, 3) := by decide +kernel
theorem dX6_mean_5 : decode cX6_mean 5 = .ok (.iload_n 1, 1) := by decide +kernel
theorem dX6_mean_6 : decode cX6_mean 6 = .ok (.invokevirtual 89, 3) := by decide +kernel
theorem dX6_mean_9 : decode cX6_mean 9 = .ok (.istore_n 2, 1) := by decide +kernel
theorem dX6_mean_10 : decode cX6_mean 10 = .ok (.iload_n 2, 1) := by decide +kernel
theorem dX6_mean_11 : decode cX6_mean 11 = .ok (.ifCond .eq 5, 3) := by decide +kernel
theorem dX6_mean_14 : decode cX6_mean 14 = .ok (.iload_n 2, 1) := by decide +kernel
theorem dX6_mean_15 : decode cX6_mean 15 = .ok (.ireturn, 1) := by decide +kernel
theorem dX6_mean_16 : decode cX6_mean 16 = .ok (.aload_n 0, 1) := by decide +kernel
theorem dX6_mean_17 : decode cX6_mean 17 = .ok (.getfield 14, 3) := by decide +kernel
theorem dX6_mean_20 : decode cX6_mean 20 = .ok (.iload_n 1, 1) := by decide +kernel
theorem dX6_mean_21 : decode cX6_mean 21 = .ok (.invokevirtual 115, 3) := by decide +kernel
theorem dX6_mean_24 : decode cX6_mean 24 = .ok (.istore_n 3, 1) := by decide +kernel
theorem dX6_mean_25 : decode cX6_mean 25 = .ok (.iload_n 3, 1) := by decide +kernel
theorem dX6_mean_26 : decode cX6_mean 26 = .ok (.ifCond .gt 9, 3) := by decide +kernel
theorem dX6_mean_29 : decode cX6_mean 29 = .ok (.aload_n 0, 1) := by decide +kernel
theorem dX6_mean_30 : decode cX6_mean 30 = .ok (.iconst 4, 1) := by decide +kernel
theorem dX6_mean_31 : decode cX6_mean 31 = .ok (.invokevirtual 100, 3) := by decide +kernel
theorem dX6_mean_34 : decode cX6_mean 34 = .ok (.ireturn, 1) := by decide +kernel
theorem dX6_mean_35 : decode cX6_mean 35 = .ok (.aload_n 0, 1) := by decide +kernel
theorem dX6_mean_36 : decode cX6_mean 36 = .ok (.aload_n 0, 1) := by decide +kernel
theorem dX6_mean_37 : decode cX6_mean 37 = .ok (.getfield 14, 3) := by decide +kernel
theorem dX6_mean_40 : decode cX6_mean 40 = .ok (.iload_n 1, 1) := by decide +kernel
theorem dX6_mean_41 : decode cX6_mean 41 = .ok (.invokevirtual 118, 3) := by decide +kernel
theorem dX6_mean_44 : decode cX6_mean 44 = .ok (.iload_n 3, 1) := by decide +kernel
theorem dX6_mean_45 : decode cX6_mean 45 = .ok (.i2l, 1) := by decide +kernel
theorem dX6_mean_46 : decode cX6_mean 46 = .ok (.ldiv, 1) := by decide +kernel
theorem dX6_mean_47 : decode cX6_mean 47 = .ok (.l2i, 1) := by decide +kernel
theorem dX6_mean_48 : decode cX6_mean 48 = .ok (.putfield 60, 3) := by decide +kernel
theorem dX6_mean_51 : decode cX6_mean 51 = .ok (.iconst 1, 1) := by decide +kernel
theorem dX6_mean_52 : decode cX6_mean 52 = .ok (.ireturn, 1) := by decide +kernel
theorem dX6_text_0 : decode cX6_text 0 = .ok (.aload_n 0, 1) := by decide +kernel
theorem dX6_text_1 : decode cX6_text 1 = .ok (.aload_n 0, 1) := by decide +kernel
theorem dX6_text_2 : decode cX6_text 2 = .ok (.getfield 18, 3) := by decide +kernel
theorem dX6_text_5 : decode cX6_text 5 = .ok (.iload_n 1, 1) := by decide +kernel
theorem dX6_text_6 : decode cX6_text 6 = .ok (.iload_n 2, 1) := by decide +kernel
theorem dX6_text_7 : decode cX6_text 7 = .ok (.bipush 32, 2) := by decide +kernel
theorem dX6_text_9 : decode cX6_text 9 = .ok (.invokevirtual 73, 3) := by decide +kernel
theorem dX6_text_12 : decode cX6_text 12 = .ok (.ireturn, 1) := by decide +kernel
theorem dX6_put_0 : decode cX6_put 0 = .ok (.aload_n 0, 1) := by decide +kernel
theorem dX6_put_1 : decode cX6_put 1 = .ok (.aload_n 0, 1) := by decide +kernel
theorem dX6_put_2 : decode cX6_put 2 = .ok (.getfield 18, 3) := by decide +kernel
theorem dX6_put_5 : decode cX6_put 5 = .ok (.iload_n 1, 1) := by decide +kernel
theorem dX6_put_6 : decode cX6_put 6 = .ok (.iload_n 2, 1) := by decide +kernel
theorem dX6_put_7 : decode cX6_put 7 = .ok (.invokevirtual 77, 3) := by decide +kernel
theorem dX6_put_10 : decode cX6_put 10 = .ok (.istore 4, 2) := by decide +kernel
theorem dX6_put_12 : decode cX6_put 12 = .ok (.iload 4, 2) := by decide +kernel
theorem dX6_put_14 : decode cX6_put 14 = .ok (.ifCond .eq 6, 3) := by decide +kernel
theorem dX6_put_17 : decode cX6_put 17 = .ok (.iload 4, 2) := by decide +kernel
theorem dX6_put_19 : decode cX6_put 19 = .ok (.ireturn, 1) := by decide +kernel
theorem dX6_put_20 : decode cX6_put 20 = .ok (.aload_n 0, 1) := by decide +kernel
theorem dX6_put_21 : decode cX6_put 21 = .ok (.getfield 18, 3) := by decide +kernel
theorem dX6_put_24 : decode cX6_put 24 = .ok (.iload_n 1, 1) := by decide +kernel
theorem dX6_put_25 : decode cX6_put 25 = .ok (.iload_n 2, 1) := by decide +kernel
theorem dX6_put_26 : decode cX6_put 26 = .ok (.invokevirtual 81, 3) := by decide +kernel
theorem dX6_put_29 : decode cX6_put 29 = .ok (.istore 5, 2) := by decide +kernel
theorem dX6_put_31 : decode cX6_put 31 = .ok (.aload_n 0, 1) := by decide +kernel
theorem dX6_put_32 : decode cX6_put 32 = .ok (.getfield 18, 3) := by decide +kernel
theorem dX6_put_35 : decode cX6_put 35 = .ok (.iload_n 1, 1) := by decide +kernel
theorem dX6_put_36 : decode cX6_put 36 = .ok (.iload_n 2, 1) := by decide +kernel
theorem dX6_put_37 : decode cX6_put 37 = .ok (.iload_n 3, 1) := by decide +kernel
theorem dX6_put_38 : decode cX6_put 38 = .ok (.i2b, 1) := by decide +kernel
theorem dX6_put_39 : decode cX6_put 39 = .ok (.invokevirtual 85, 3) := by decide +kernel
theorem dX6_put_42 : decode cX6_put 42 = .ok (.iload 5, 2) := by decide +kernel
theorem dX6_put_44 : decode cX6_put 44 = .ok (.sipush 1000, 3) := by decide +kernel
theorem dX6_put_47 : decode cX6_put 47 = .ok (.iadd, 1) := by decide +kernel
theorem dX6_put_48 : decode cX6_put 48 = .ok (.ireturn, 1) := by decide +kernel
theorem dX6_fault_0 : decode cX6_fault 0 = .ok (.aload_n 0, 1) := by decide +kernel
theorem dX6_fault_1 : decode cX6_fault 1 = .ok (.aload_n 0, 1) := by decide +kernel
theorem dX6_fault_2 : decode cX6_fault 2 = .ok (.getfield 18, 3) := by decide +kernel
theorem dX6_fault_5 : decode cX6_fault 5 = .ok (.iload_n 1, 1) := by decide +kernel
theorem dX6_fault_6 : decode cX6_fault 6 = .ok (.invokevirtual 89, 3) := by decide +kernel
theorem dX6_fault_9 : decode cX6_fault 9 = .ok (.istore_n 2, 1) := by decide +kernel
theorem dX6_fault_10 : decode cX6_fault 10 = .ok (.iload_n 2, 1) := by decide +kernel
theorem dX6_fault_11 : decode cX6_fault 11 = .ok (.ifCond .eq 7, 3) := by decide +kernel
theorem dX6_fault_14 : decode cX6_fault 14 = .ok (.iload_n 2, 1) := by decide +kernel
theorem dX6_fault_15 : decode cX6_fault 15 = .ok (.goto 11, 3) := by decide +kernel
theorem dX6_fault_18 : decode cX6_fault 18 = .ok (.aload_n 0, 1) := by decide +kernel
theorem dX6_fault_19 : decode cX6_fault 19 = .ok (.getfield 26, 3) := by decide +kernel
theorem dX6_fault_22 : decode cX6_fault 22 = .ok (.iload_n 1, 1) := by decide +kernel
theorem dX6_fault_23 : decode cX6_fault 23 = .ok (.invokevirtual 122, 3) := by decide +kernel
theorem dX6_fault_26 : decode cX6_fault 26 = .ok (.ireturn, 1) := by decide +kernel
theorem dX6_well_0 : decode cX6_well 0 = .ok (.aload_n 0, 1) := by decide +kernel
theorem dX6_well_1 : decode cX6_well 1 = .ok (.aload_n 0, 1) := by decide +kernel
theorem dX6_well_2 : decode cX6_well 2 = .ok (.getfield 18, 3) := by decide +kernel
theorem dX6_well_5 : decode cX6_well 5 = .ok (.iload_n 1, 1) := by decide +kernel
theorem dX6_well_6 : decode cX6_well 6 = .ok (.invokevirtual 89, 3) := by decide +kernel
theorem dX6_well_9 : decode cX6_well 9 = .ok (.istore_n 2, 1) := by decide +kernel
theorem dX6_well_10 : decode cX6_well 10 = .ok (.iload_n 2, 1) := by decide +kernel
theorem dX6_well_11 : decode cX6_well 11 = .ok (.ifCond .eq 5, 3) := by decide +kernel
theorem dX6_well_14 : decode cX6_well 14 = .ok (.iload_n 2, 1) := by decide +kernel
theorem dX6_well_15 : decode cX6_well 15 = .ok (.ireturn, 1) := by decide +kernel
theorem dX6_well_16 : decode cX6_well 16 = .ok (.aload_n 0, 1) := by decide +kernel
theorem dX6_well_17 : decode cX6_well 17 = .ok (.getfield 26, 3) := by decide +kernel
theorem dX6_well_20 : decode cX6_well 20 = .ok (.iload_n 1, 1) := by decide +kernel
theorem dX6_well_21 : decode cX6_well 21 = .ok (.invokevirtual 122, 3) := by decide +kernel
theorem dX6_well_24 : decode cX6_well 24 = .ok (.bipush (-9), 2) := by decide +kernel
theorem dX6_well_26 : decode cX6_well 26 = .ok (.if_icmp .eq 6, 3) := by decide +kernel
theorem dX6_well_29 : decode cX6_well 29 = .ok (.bipush (-4), 2) := by decide +kernel
theorem dX6_well_31 : decode cX6_well 31 = .ok (.ireturn, 1) := by decide +kernel
theorem dX6_well_32 : decode cX6_well 32 = .ok (.aload_n 0, 1) := by decide +kernel
theorem dX6_well_33 : decode cX6_well 33 = .ok (.getfield 33, 3) := by decide +kernel
theorem dX6_well_36 : decode cX6_well 36 = .ok (.aload_n 0, 1) := by decide +kernel
theorem dX6_well_37 : decode cX6_well 37 = .ok (.getfield 26, 3) := by decide +kernel
theorem dX6_well_40 : decode cX6_well 40 = .ok (.aload_n 0, 1) := by decide +kernel
theorem dX6_well_41 : decode cX6_well 41 = .ok (.getfield 33, 3) := by decide +kernel
theorem dX6_well_44 : decode cX6_well 44 = .ok (.getfield 125, 3) := by decide +kernel
theorem dX6_well_47 : decode cX6_well 47 = .ok (.invokevirtual 129, 3) := by decide +kernel
theorem dX6_well_50 : decode cX6_well 50 = .ok (.invokevirtual 133, 3) := by decide +kernel
theorem dX6_well_53 : decode cX6_well 53 = .ok (.iconst 0, 1) := by decide +kernel
theorem dX6_well_54 : decode cX6_well 54 = .ok (.istore_n 3, 1) := by decide +kernel
theorem dX6_well_55 : decode cX6_well 55 = .ok (.iload_n 3, 1) := by decide +kernel
theorem dX6_well_56 : decode cX6_well 56 = .ok (.iconst 3, 1) := by decide +kernel
theorem dX6_well_57 : decode cX6_well 57 = .ok (.if_icmp .ge 19, 3) := by decide +kernel
theorem dX6_well_60 : decode cX6_well 60 = .ok (.aload_n 0, 1) := by decide +kernel
theorem dX6_well_61 : decode cX6_well 61 = .ok (.getfield 48, 3) := by decide +kernel
theorem dX6_well_64 : decode cX6_well 64 = .ok (.iload_n 3, 1) := by decide +kernel
theorem dX6_well_65 : decode cX6_well 65 = .ok (.aaload, 1) := by decide +kernel
theorem dX6_well_66 : decode cX6_well 66 = .ok (.iconst (-1), 1) := by decide +kernel
theorem dX6_well_67 : decode cX6_well 67 = .ok (.putfield 137, 3) := by decide +kernel
theorem dX6_well_70 : decode cX6_well 70 = .ok (.iinc 3 1, 3) := by decide +kernel
theorem dX6_well_73 : decode cX6_well 73 = .ok (.goto (-18), 3) := by decide +kernel
theorem dX6_well_76 : decode cX6_well 76 = .ok (.aload_n 0, 1) := by decide +kernel
theorem dX6_well_77 : decode cX6_well 77 = .ok (.getfield 33, 3) := by decide +kernel
theorem dX6_well_80 : decode cX6_well 80 = .ok (.invokevirtual 140, 3) := by decide +kernel
theorem dX6_well_83 : decode cX6_well 83 = .ok (.ireturn, 1) := by decide +kernel
theorem dX6_house_0 : decode cX6_house 0 = .ok (.aload_n 0, 1) := by decide +kernel
theorem dX6_house_1 : decode cX6_house 1 = .ok (.getfield 33, 3) := by decide +kernel
theorem dX6_house_4 : decode cX6_house 4 = .ok (.iload_n 1, 1) := by decide +kernel
theorem dX6_house_5 : decode cX6_house 5 = .ok (.invokevirtual 144, 3) := by decide +kernel
theorem dX6_house_8 : decode cX6_house 8 = .ok (.ifCond .eq 13, 3) := by decide +kernel
theorem dX6_house_11 : decode cX6_house 11 = .ok (.iload_n 2, 1) := by decide +kernel
theorem dX6_house_12 : decode cX6_house 12 = .ok (.ifCond .lt 9, 3) := by decide +kernel
theorem dX6_house_15 : decode cX6_house 15 = .ok (.iload_n 2, 1) := by decide +kernel
theorem dX6_house_16 : decode cX6_house 16 = .ok (.bipush 7, 2) := by decide +kernel
theorem dX6_house_18 : decode cX6_house 18 = .ok (.if_icmp .lt 5, 3) := by decide +kernel
theorem dX6_house_21 : decode cX6_house 21 = .ok (.iconst (-1), 1) := by decide +kernel
theorem dX6_house_22 : decode cX6_house 22 = .ok (.ireturn, 1) := by decide +kernel
theorem dX6_house_23 : decode cX6_house 23 = .ok (.aload_n 0, 1) := by decide +kernel
theorem dX6_house_24 : decode cX6_house 24 = .ok (.aload_n 0, 1) := by decide +kernel
theorem dX6_house_25 : decode cX6_house 25 = .ok (.getfield 33, 3) := by decide +kernel
theorem dX6_house_28 : decode cX6_house 28 = .ok (.iload_n 1, 1) := by decide +kernel
theorem dX6_house_29 : decode cX6_house 29 = .ok (.iload_n 2, 1) := by decide +kernel
theorem dX6_house_30 : decode cX6_house 30 = .ok (.invokevirtual 147, 3) := by decide +kernel
theorem dX6_house_33 : decode cX6_house 33 = .ok (.putfield 60, 3) := by decide +kernel
theorem dX6_house_36 : decode cX6_house 36 = .ok (.iconst 1, 1) := by decide +kernel
theorem dX6_house_37 : decode cX6_house 37 = .ok (.ireturn, 1) := by decide +kernel
theorem dX6_mark_0 : decode cX6_mark 0 = .ok (.aload_n 0, 1) := by decide +kernel
theorem dX6_mark_1 : decode cX6_mark 1 = .ok (.getfield 33, 3) := by decide +kernel
theorem dX6_mark_4 : decode cX6_mark 4 = .ok (.iload_n 1, 1) := by decide +kernel
theorem dX6_mark_5 : decode cX6_mark 5 = .ok (.invokevirtual 144, 3) := by decide +kernel
theorem dX6_mark_8 : decode cX6_mark 8 = .ok (.ifCond .eq 13, 3) := by decide +kernel
theorem dX6_mark_11 : decode cX6_mark 11 = .ok (.iload_n 2, 1) := by decide +kernel
theorem dX6_mark_12 : decode cX6_mark 12 = .ok (.iconst 1, 1) := by decide +kernel
theorem dX6_mark_13 : decode cX6_mark 13 = .ok (.if_icmp .lt 8, 3) := by decide +kernel
theorem dX6_mark_16 : decode cX6_mark 16 = .ok (.iload_n 2, 1) := by decide +kernel
theorem dX6_mark_17 : decode cX6_mark 17 = .ok (.iconst 5, 1) := by decide +kernel
theorem dX6_mark_18 : decode cX6_mark 18 = .ok (.if_icmp .le 5, 3) := by decide +kernel
theorem dX6_mark_21 : decode cX6_mark 21 = .ok (.iconst (-1), 1) := by decide +kernel
theorem dX6_mark_22 : decode cX6_mark 22 = .ok (.ireturn, 1) := by decide +kernel
theorem dX6_mark_23 : decode cX6_mark 23 = .ok (.aload_n 0, 1) := by decide +kernel
theorem dX6_mark_24 : decode cX6_mark 24 = .ok (.getfield 33, 3) := by decide +kernel
theorem dX6_mark_27 : decode cX6_mark 27 = .ok (.getfield 125, 3) := by decide +kernel
theorem dX6_mark_30 : decode cX6_mark 30 = .ok (.getfield 150, 3) := by decide +kernel
theorem dX6_mark_33 : decode cX6_mark 33 = .ok (.iload_n 1, 1) := by decide +kernel
theorem dX6_mark_34 : decode cX6_mark 34 = .ok (.iaload, 1) := by decide +kernel
theorem dX6_mark_35 : decode cX6_mark 35 = .ok (.iload_n 2, 1) := by decide +kernel
theorem dX6_mark_36 : decode cX6_mark 36 = .ok (.invokestatic 155, 3) := by decide +kernel
theorem dX6_mark_39 : decode cX6_mark 39 = .ok (.ifCond .ne 9, 3) := by decide +kernel
theorem dX6_mark_42 : decode cX6_mark 42 = .ok (.aload_n 0, 1) := by decide +kernel
theorem dX6_mark_43 : decode cX6_mark 43 = .ok (.iconst 3, 1) := by decide +kernel
theorem dX6_mark_44 : decode cX6_mark 44 = .ok (.invokevirtual 100, 3) := by decide +kernel
theorem dX6_mark_47 : decode cX6_mark 47 = .ok (.ireturn, 1) := by decide +kernel
theorem dX6_mark_48 : decode cX6_mark 48 = .ok (.aload_n 0, 1) := by decide +kernel
theorem dX6_mark_49 : decode cX6_mark 49 = .ok (.getfield 33, 3) := by decide +kernel
theorem dX6_mark_52 : decode cX6_mark 52 = .ok (.iload_n 1, 1) := by decide +kernel
theorem dX6_mark_53 : decode cX6_mark 53 = .ok (.iload_n 2, 1) := by decide +kernel
theorem dX6_mark_54 : decode cX6_mark 54 = .ok (.invokevirtual 159, 3) := by decide +kernel
theorem dX6_mark_57 : decode cX6_mark 57 = .ok (.ireturn, 1) := by decide +kernel
theorem dX6_meet_0 : decode cX6_meet 0 = .ok (.aload_n 0, 1) := by decide +kernel
theorem dX6_meet_1 : decode cX6_meet 1 = .ok (.aload_n 0, 1) := by decide +kernel
theorem dX6_meet_2 : decode cX6_meet 2 = .ok (.getfield 14, 3) := by decide +kernel
theorem dX6_meet_5 : decode cX6_meet 5 = .ok (.iload_n 1, 1) := by decide +kernel
theorem dX6_meet_6 : decode cX6_meet 6 = .ok (.invokevirtual 89, 3) := by decide +kernel
theorem dX6_meet_9 : decode cX6_meet 9 = .ok (.istore_n 2, 1) := by decide +kernel
theorem dX6_meet_10 : decode cX6_meet 10 = .ok (.iload_n 2, 1) := by decide +kernel
theorem dX6_meet_11 : decode cX6_meet 11 = .ok (.ifCond .eq 5, 3) := by decide +kernel
theorem dX6_meet_14 : decode cX6_meet 14 = .ok (.iload_n 2, 1) := by decide +kernel
theorem dX6_meet_15 : decode cX6_meet 15 = .ok (.ireturn, 1) := by decide +kernel
theorem dX6_meet_16 : decode cX6_meet 16 = .ok (.aload_n 0, 1) := by decide +kernel
theorem dX6_meet_17 : decode cX6_meet 17 = .ok (.getfield 14, 3) := by decide +kernel
theorem dX6_meet_20 : decode cX6_meet 20 = .ok (.iload_n 1, 1) := by decide +kernel
theorem dX6_meet_21 : decode cX6_meet 21 = .ok (.invokevirtual 115, 3) := by decide +kernel
theorem dX6_meet_24 : decode cX6_meet 24 = .ok (.aload_n 0, 1) := by decide +kernel
theorem dX6_meet_25 : decode cX6_meet 25 = .ok (.getfield 33, 3) := by decide +kernel
theorem dX6_meet_28 : decode cX6_meet 28 = .ok (.invokevirtual 140, 3) := by decide +kernel
theorem dX6_meet_31 : decode cX6_meet 31 = .ok (.if_icmp .le 9, 3) := by decide +kernel
theorem dX6_meet_34 : decode cX6_meet 34 = .ok (.aload_n 0, 1) := by decide +kernel
theorem dX6_meet_35 : decode cX6_meet 35 = .ok (.iconst 5, 1) := by decide +kernel
theorem dX6_meet_36 : decode cX6_meet 36 = .ok (.invokevirtual 100, 3) := by decide +kernel
theorem dX6_meet_39 : decode cX6_meet 39 = .ok (.ireturn, 1) := by decide +kernel
theorem dX6_meet_40 : decode cX6_meet 40 = .ok (.aload_n 0, 1) := by decide +kernel
theorem dX6_meet_41 : decode cX6_meet 41 = .ok (.iload_n 1, 1) := by decide +kernel
theorem dX6_meet_42 : decode cX6_meet 42 = .ok (.invokevirtual 162, 3) := by decide +kernel
theorem dX6_meet_45 : decode cX6_meet 45 = .ok (.istore_n 3, 1) := by decide +kernel
theorem dX6_meet_46 : decode cX6_meet 46 = .ok (.iload_n 3, 1) := by decide +kernel
theorem dX6_meet_47 : decode cX6_meet 47 = .ok (.bipush (-9), 2) := by decide +kernel
theorem dX6_meet_49 : decode cX6_meet 49 = .ok (.if_icmp .ne 9, 3) := by decide +kernel
theorem dX6_meet_52 : decode cX6_meet 52 = .ok (.aload_n 0, 1) := by decide +kernel
theorem dX6_meet_53 : decode cX6_meet 53 = .ok (.iconst 3, 1) := by decide +kernel
theorem dX6_meet_54 : decode cX6_meet 54 = .ok (.invokevirtual 100, 3) := by decide +kernel
theorem dX6_meet_57 : decode cX6_meet 57 = .ok (.ireturn, 1) := by decide +kernel
theorem dX6_meet_58 : decode cX6_meet 58 = .ok (.aload_n 0, 1) := by decide +kernel
theorem dX6_meet_59 : decode cX6_meet 59 = .ok (.getfield 33, 3) := by decide +kernel
theorem dX6_meet_62 : decode cX6_meet 62 = .ok (.iload_n 3, 1) := by decide +kernel
theorem dX6_meet_63 : decode cX6_meet 63 = .ok (.invokevirtual 165, 3) := by decide +kernel
theorem dX6_meet_66 : decode cX6_meet 66 = .ok (.ifCond .ne 6, 3) := by decide +kernel
theorem dX6_meet_69 : decode cX6_meet 69 = .ok (.bipush (-4), 2) := by decide +kernel
theorem dX6_meet_71 : decode cX6_meet 71 = .ok (.ireturn, 1) := by decide +kernel
theorem dX6_meet_72 : decode cX6_meet 72 = .ok (.aload_n 0, 1) := by decide +kernel
theorem dX6_meet_73 : decode cX6_meet 73 = .ok (.getfield 33, 3) := by decide +kernel
theorem dX6_meet_76 : decode cX6_meet 76 = .ok (.getfield 168, 3) := by decide +kernel
theorem dX6_meet_79 : decode cX6_meet 79 = .ok (.iconst 1, 1) := by decide +kernel
theorem dX6_meet_80 : decode cX6_meet 80 = .ok (.invokevirtual 172, 3) := by decide +kernel
theorem dX6_meet_83 : decode cX6_meet 83 = .ok (.ifCond .eq 6, 3) := by decide +kernel
theorem dX6_meet_86 : decode cX6_meet 86 = .ok (.bipush (-2), 2) := by decide +kernel
theorem dX6_meet_88 : decode cX6_meet 88 = .ok (.ireturn, 1) := by decide +kernel
theorem dX6_meet_89 : decode cX6_meet 89 = .ok (.aload_n 0, 1) := by decide +kernel
theorem dX6_meet_90 : decode cX6_meet 90 = .ok (.getfield 33, 3) := by decide +kernel
theorem dX6_meet_93 : decode cX6_meet 93 = .ok (.aload_n 0, 1) := by decide +kernel
theorem dX6_meet_94 : decode cX6_meet 94 = .ok (.iload_n 1, 1) := by decide +kernel
theorem dX6_meet_95 : decode cX6_meet 95 = .ok (.invokevirtual 175, 3) := by decide +kernel
theorem dX6_meet_98 : decode cX6_meet 98 = .ok (.invokevirtual 178, 3) := by decide +kernel
theorem dX6_meet_101 : decode cX6_meet 101 = .ok (.ireturn, 1) := by decide +kernel
theorem dX6_pledge_0 : decode cX6_pledge 0 = .ok (.aload_n 0, 1) := by decide +kernel
theorem dX6_pledge_1 : decode cX6_pledge 1 = .ok (.getfield 33, 3) := by decide +kernel
theorem dX6_pledge_4 : decode cX6_pledge 4 = .ok (.iload_n 1, 1) := by decide +kernel
theorem dX6_pledge_5 : decode cX6_pledge 5 = .ok (.invokevirtual 144, 3) := by decide +kernel
theorem dX6_pledge_8 : decode cX6_pledge 8 = .ok (.ifCond .eq 14, 3) := by decide +kernel
theorem dX6_pledge_11 : decode cX6_pledge 11 = .ok (.aload_n 0, 1) := by decide +kernel
theorem dX6_pledge_12 : decode cX6_pledge 12 = .ok (.getfield 33, 3) := by decide +kernel
theorem dX6_pledge_15 : decode cX6_pledge 15 = .ok (.iload_n 2, 1) := by decide +kernel
theorem dX6_pledge_16 : decode cX6_pledge 16 = .ok (.invokevirtual 144, 3) := by decide +kernel
theorem dX6_pledge_19 : decode cX6_pledge 19 = .ok (.ifCond .ne 5, 3) := by decide +kernel
theorem dX6_pledge_22 : decode cX6_pledge 22 = .ok (.iconst (-1), 1) := by decide +kernel
theorem dX6_pledge_23 : decode cX6_pledge 23 = .ok (.ireturn, 1) := by decide +kernel
theorem dX6_pledge_24 : decode cX6_pledge 24 = .ok (.aload_n 0, 1) := by decide +kernel
theorem dX6_pledge_25 : decode cX6_pledge 25 = .ok (.getfield 33, 3) := by decide +kernel
theorem dX6_pledge_28 : decode cX6_pledge 28 = .ok (.getfield 181, 3) := by decide +kernel
theorem dX6_pledge_31 : decode cX6_pledge 31 = .ok (.iload_n 1, 1) := by decide +kernel
theorem dX6_pledge_32 : decode cX6_pledge 32 = .ok (.iaload, 1) := by decide +kernel
theorem dX6_pledge_33 : decode cX6_pledge 33 = .ok (.istore_n 3, 1) := by decide +kernel
theorem dX6_pledge_34 : decode cX6_pledge 34 = .ok (.iload_n 3, 1) := by decide +kernel
theorem dX6_pledge_35 : decode cX6_pledge 35 = .ok (.iload_n 2, 1) := by decide +kernel
theorem dX6_pledge_36 : decode cX6_pledge 36 = .ok (.if_icmp .ne 6, 3) := by decide +kernel
theorem dX6_pledge_39 : decode cX6_pledge 39 = .ok (.bipush (-4), 2) := by decide +kernel
theorem dX6_pledge_41 : decode cX6_pledge 41 = .ok (.ireturn, 1) := by decide +kernel
theorem dX6_pledge_42 : decode cX6_pledge 42 = .ok (.aload_n 0, 1) := by decide +kernel
theorem dX6_pledge_43 : decode cX6_pledge 43 = .ok (.getfield 33, 3) := by decide +kernel
theorem dX6_pledge_46 : decode cX6_pledge 46 = .ok (.getfield 168, 3) := by decide +kernel
theorem dX6_pledge_49 : decode cX6_pledge 49 = .ok (.iconst 1, 1) := by decide +kernel
theorem dX6_pledge_50 : decode cX6_pledge 50 = .ok (.invokevirtual 172, 3) := by decide +kernel
theorem dX6_pledge_53 : decode cX6_pledge 53 = .ok (.ifCond .eq 6, 3) := by decide +kernel
theorem dX6_pledge_56 : decode cX6_pledge 56 = .ok (.bipush (-2), 2) := by decide +kernel
theorem dX6_pledge_58 : decode cX6_pledge 58 = .ok (.ireturn, 1) := by decide +kernel
theorem dX6_pledge_59 : decode cX6_pledge 59 = .ok (.aload_n 0, 1) := by decide +kernel
theorem dX6_pledge_60 : decode cX6_pledge 60 = .ok (.getfield 33, 3) := by decide +kernel
theorem dX6_pledge_63 : decode cX6_pledge 63 = .ok (.iload_n 1, 1) := by decide +kernel
theorem dX6_pledge_64 : decode cX6_pledge 64 = .ok (.iload_n 2, 1) := by decide +kernel
theorem dX6_pledge_65 : decode cX6_pledge 65 = .ok (.invokestatic 184, 3) := by decide +kernel
theorem dX6_pledge_68 : decode cX6_pledge 68 = .ok (.invokevirtual 178, 3) := by decide +kernel
theorem dX6_pledge_71 : decode cX6_pledge 71 = .ok (.pop, 1) := by decide +kernel
theorem dX6_pledge_72 : decode cX6_pledge 72 = .ok (.iload_n 3, 1) := by decide +kernel
theorem dX6_pledge_73 : decode cX6_pledge 73 = .ok (.ireturn, 1) := by decide +kernel
theorem dX6_day_0 : decode cX6_day 0 = .ok (.aload_n 0, 1) := by decide +kernel
theorem dX6_day_1 : decode cX6_day 1 = .ok (.getfield 33, 3) := by decide +kernel
theorem dX6_day_4 : decode cX6_day 4 = .ok (.invokevirtual 140, 3) := by decide +kernel
theorem dX6_day_7 : decode cX6_day 7 = .ok (.ifCond .ne 6, 3) := by decide +kernel
theorem dX6_day_10 : decode cX6_day 10 = .ok (.bipush (-4), 2) := by decide +kernel
theorem dX6_day_12 : decode cX6_day 12 = .ok (.ireturn, 1) := by decide +kernel
theorem dX6_day_13 : decode cX6_day 13 = .ok (.aload_n 0, 1) := by decide +kernel
theorem dX6_day_14 : decode cX6_day 14 = .ok (.getfield 33, 3) := by decide +kernel
theorem dX6_day_17 : decode cX6_day 17 = .ok (.getfield 168, 3) := by decide +kernel
theorem dX6_day_20 : decode cX6_day 20 = .ok (.iconst 1, 1) := by decide +kernel
theorem dX6_day_21 : decode cX6_day 21 = .ok (.invokevirtual 172, 3) := by decide +kernel
theorem dX6_day_24 : decode cX6_day 24 = .ok (.ifCond .eq 6, 3) := by decide +kernel
theorem dX6_day_27 : decode cX6_day 27 = .ok (.bipush (-2), 2) := by decide +kernel
theorem dX6_day_29 : decode cX6_day 29 = .ok (.ireturn, 1) := by decide +kernel
theorem dX6_day_30 : decode cX6_day 30 = .ok (.aload_n 0, 1) := by decide +kernel
theorem dX6_day_31 : decode cX6_day 31 = .ok (.getfield 33, 3) := by decide +kernel
theorem dX6_day_34 : decode cX6_day 34 = .ok (.iconst 2, 1) := by decide +kernel
theorem dX6_day_35 : decode cX6_day 35 = .ok (.invokevirtual 178, 3) := by decide +kernel
theorem dX6_day_38 : decode cX6_day 38 = .ok (.pop, 1) := by decide +kernel
theorem dX6_day_39 : decode cX6_day 39 = .ok (.aload_n 0, 1) := by decide +kernel
theorem dX6_day_40 : decode cX6_day 40 = .ok (.getfield 33, 3) := by decide +kernel
theorem dX6_day_43 : decode cX6_day 43 = .ok (.getfield 187, 3) := by decide +kernel
theorem dX6_day_46 : decode cX6_day 46 = .ok (.ireturn, 1) := by decide +kernel
theorem dX6_undo_0 : decode cX6_undo 0 = .ok (.aload_n 0, 1) := by decide +kernel
theorem dX6_undo_1 : decode cX6_undo 1 = .ok (.getfield 33, 3) := by decide +kernel
theorem dX6_undo_4 : decode cX6_undo 4 = .ok (.getfield 168, 3) := by decide +kernel
theorem dX6_undo_7 : decode cX6_undo 7 = .ok (.getfield 137, 3) := by decide +kernel
theorem dX6_undo_10 : decode cX6_undo 10 = .ok (.istore_n 2, 1) := by decide +kernel
theorem dX6_undo_11 : decode cX6_undo 11 = .ok (.iload_n 1, 1) := by decide +kernel
theorem dX6_undo_12 : decode cX6_undo 12 = .ok (.ifCond .lt 8, 3) := by decide +kernel
theorem dX6_undo_15 : decode cX6_undo 15 = .ok (.iload_n 1, 1) := by decide +kernel
theorem dX6_undo_16 : decode cX6_undo 16 = .ok (.iload_n 2, 1) := by decide +kernel
theorem dX6_undo_17 : decode cX6_undo 17 = .ok (.if_icmp .le 5, 3) := by decide +kernel
theorem dX6_undo_20 : decode cX6_undo 20 = .ok (.iconst (-1), 1) := by decide +kernel
theorem dX6_undo_21 : decode cX6_undo 21 = .ok (.ireturn, 1) := by decide +kernel
theorem dX6_undo_22 : decode cX6_undo 22 = .ok (.aload_n 0, 1) := by decide +kernel
theorem dX6_undo_23 : decode cX6_undo 23 = .ok (.getfield 33, 3) := by decide +kernel
theorem dX6_undo_26 : decode cX6_undo 26 = .ok (.getfield 168, 3) := by decide +kernel
theorem dX6_undo_29 : decode cX6_undo 29 = .ok (.iload_n 1, 1) := by decide +kernel
theorem dX6_undo_30 : decode cX6_undo 30 = .ok (.putfield 137, 3) := by decide +kernel
theorem dX6_undo_33 : decode cX6_undo 33 = .ok (.aload_n 0, 1) := by decide +kernel
theorem dX6_undo_34 : decode cX6_undo 34 = .ok (.getfield 33, 3) := by decide +kernel
theorem dX6_undo_37 : decode cX6_undo 37 = .ok (.invokevirtual 190, 3) := by decide +kernel
theorem dX6_undo_40 : decode cX6_undo 40 = .ok (.iload_n 2, 1) := by decide +kernel
theorem dX6_undo_41 : decode cX6_undo 41 = .ok (.iload_n 1, 1) := by decide +kernel
theorem dX6_undo_42 : decode cX6_undo 42 = .ok (.isub, 1) := by decide +kernel
theorem dX6_undo_43 : decode cX6_undo 43 = .ok (.ireturn, 1) := by decide +kernel
theorem dX6_keep_0 : decode cX6_keep 0 = .ok (.iload_n 1, 1) := by decide +kernel
theorem dX6_keep_1 : decode cX6_keep 1 = .ok (.ifCond .lt 8, 3) := by decide +kernel
theorem dX6_keep_4 : decode cX6_keep 4 = .ok (.iload_n 1, 1) := by decide +kernel
theorem dX6_keep_5 : decode cX6_keep 5 = .ok (.iconst 3, 1) := by decide +kernel
theorem dX6_keep_6 : decode cX6_keep 6 = .ok (.if_icmp .lt 5, 3) := by decide +kernel
theorem dX6_keep_9 : decode cX6_keep 9 = .ok (.iconst (-1), 1) := by decide +kernel
theorem dX6_keep_10 : decode cX6_keep 10 = .ok (.ireturn, 1) := by decide +kernel
theorem dX6_keep_11 : decode cX6_keep 11 = .ok (.aload_n 0, 1) := by decide +kernel
theorem dX6_keep_12 : decode cX6_keep 12 = .ok (.getfield 33, 3) := by decide +kernel
theorem dX6_keep_15 : decode cX6_keep 15 = .ok (.invokevirtual 140, 3) := by decide +kernel
theorem dX6_keep_18 : decode cX6_keep 18 = .ok (.ifCond .ne 6, 3) := by decide +kernel
theorem dX6_keep_21 : decode cX6_keep 21 = .ok (.bipush (-4), 2) := by decide +kernel
theorem dX6_keep_23 : decode cX6_keep 23 = .ok (.ireturn, 1) := by decide +kernel
theorem dX6_keep_24 : decode cX6_keep 24 = .ok (.aload_n 0, 1) := by decide +kernel
theorem dX6_keep_25 : decode cX6_keep 25 = .ok (.getfield 48, 3) := by decide +kernel
theorem dX6_keep_28 : decode cX6_keep 28 = .ok (.iload_n 1, 1) := by decide +kernel
theorem dX6_keep_29 : decode cX6_keep 29 = .ok (.aaload, 1) := by decide +kernel
theorem dX6_keep_30 : decode cX6_keep 30 = .ok (.aload_n 0, 1) := by decide +kernel
theorem dX6_keep_31 : decode cX6_keep 31 = .ok (.getfield 33, 3) := by decide +kernel
theorem dX6_keep_34 : decode cX6_keep 34 = .ok (.getfield 168, 3) := by decide +kernel
theorem dX6_keep_37 : decode cX6_keep 37 = .ok (.invokevirtual 193, 3) := by decide +kernel
theorem dX6_keep_40 : decode cX6_keep 40 = .ok (.aload_n 0, 1) := by decide +kernel
theorem dX6_keep_41 : decode cX6_keep 41 = .ok (.getfield 33, 3) := by decide +kernel
theorem dX6_keep_44 : decode cX6_keep 44 = .ok (.getfield 168, 3) := by decide +kernel
theorem dX6_keep_47 : decode cX6_keep 47 = .ok (.getfield 137, 3) := by decide +kernel
theorem dX6_keep_50 : decode cX6_keep 50 = .ok (.ireturn, 1) := by decide +kernel
theorem dX6_on_0 : decode cX6_on 0 = .ok (.iload_n 1, 1) := by decide +kernel
theorem dX6_on_1 : decode cX6_on 1 = .ok (.ifCond .lt 8, 3) := by decide +kernel
theorem dX6_on_4 : decode cX6_on 4 = .ok (.iload_n 1, 1) := by decide +kernel
theorem dX6_on_5 : decode cX6_on 5 = .ok (.iconst 3, 1) := by decide +kernel
theorem dX6_on_6 : decode cX6_on 6 = .ok (.if_icmp .lt 5, 3) := by decide +kernel
theorem dX6_on_9 : decode cX6_on 9 = .ok (.iconst (-1), 1) := by decide +kernel
theorem dX6_on_10 : decode cX6_on 10 = .ok (.ireturn, 1) := by decide +kernel
theorem dX6_on_11 : decode cX6_on 11 = .ok (.aload_n 0, 1) := by decide +kernel
theorem dX6_on_12 : decode cX6_on 12 = .ok (.getfield 48, 3) := by decide +kernel
theorem dX6_on_15 : decode cX6_on 15 = .ok (.iload_n 1, 1) := by decide +kernel
theorem dX6_on_16 : decode cX6_on 16 = .ok (.aaload, 1) := by decide +kernel
theorem dX6_on_17 : decode cX6_on 17 = .ok (.getfield 137, 3) := by decide +kernel
theorem dX6_on_20 : decode cX6_on 20 = .ok (.iconst (-1), 1) := by decide +kernel
theorem dX6_on_21 : decode cX6_on 21 = .ok (.if_icmp .ne 9, 3) := by decide +kernel
theorem dX6_on_24 : decode cX6_on 24 = .ok (.aload_n 0, 1) := by decide +kernel
theorem dX6_on_25 : decode cX6_on 25 = .ok (.iconst 1, 1) := by decide +kernel
theorem dX6_on_26 : decode cX6_on 26 = .ok (.invokevirtual 100, 3) := by decide +kernel
theorem dX6_on_29 : decode cX6_on 29 = .ok (.ireturn, 1) := by decide +kernel
theorem dX6_on_30 : decode cX6_on 30 = .ok (.aload_n 0, 1) := by decide +kernel
theorem dX6_on_31 : decode cX6_on 31 = .ok (.getfield 33, 3) := by decide +kernel
theorem dX6_on_34 : decode cX6_on 34 = .ok (.getfield 168, 3) := by decide +kernel
theorem dX6_on_37 : decode cX6_on 37 = .ok (.aload_n 0, 1) := by decide +kernel
theorem dX6_on_38 : decode cX6_on 38 = .ok (.getfield 48, 3) := by decide +kernel
theorem dX6_on_41 : decode cX6_on 41 = .ok (.iload_n 1, 1) := by decide +kernel
theorem dX6_on_42 : decode cX6_on 42 = .ok (.aaload, 1) := by decide +kernel
theorem dX6_on_43 : decode cX6_on 43 = .ok (.invokevirtual 193, 3) := by decide +kernel
theorem dX6_on_46 : decode cX6_on 46 = .ok (.aload_n 0, 1) := by decide +kernel
theorem dX6_on_47 : decode cX6_on 47 = .ok (.getfield 33, 3) := by decide +kernel
theorem dX6_on_50 : decode cX6_on 50 = .ok (.invokevirtual 190, 3) := by decide +kernel
theorem dX6_on_53 : decode cX6_on 53 = .ok (.aload_n 0, 1) := by decide +kernel
theorem dX6_on_54 : decode cX6_on 54 = .ok (.getfield 33, 3) := by decide +kernel
theorem dX6_on_57 : decode cX6_on 57 = .ok (.getfield 168, 3) := by decide +kernel
theorem dX6_on_60 : decode cX6_on 60 = .ok (.getfield 137, 3) := by decide +kernel
theorem dX6_on_63 : decode cX6_on 63 = .ok (.ireturn, 1) := by decide +kernel
theorem dX6_weight_0 : decode cX6_weight 0 = .ok (.aload_n 0, 1) := by decide +kernel
theorem dX6_weight_1 : decode cX6_weight 1 = .ok (.getfield 33, 3) := by decide +kernel
theorem dX6_weight_4 : decode cX6_weight 4 = .ok (.iload_n 1, 1) := by decide +kernel
theorem dX6_weight_5 : decode cX6_weight 5 = .ok (.invokevirtual 197, 3) := by decide +kernel
theorem dX6_weight_8 : decode cX6_weight 8 = .ok (.ifCond .ne 5, 3) := by decide +kernel
theorem dX6_weight_11 : decode cX6_weight 11 = .ok (.iconst (-1), 1) := by decide +kernel
theorem dX6_weight_12 : decode cX6_weight 12 = .ok (.ireturn, 1) := by decide +kernel
theorem dX6_weight_13 : decode cX6_weight 13 = .ok (.aload_n 0, 1) := by decide +kernel
theorem dX6_weight_14 : decode cX6_weight 14 = .ok (.aload_n 0, 1) := by decide +kernel
theorem dX6_weight_15 : decode cX6_weight 15 = .ok (.getfield 33, 3) := by decide +kernel
theorem dX6_weight_18 : decode cX6_weight 18 = .ok (.iload_n 1, 1) := by decide +kernel
theorem dX6_weight_19 : decode cX6_weight 19 = .ok (.invokevirtual 165, 3) := by decide +kernel
theorem dX6_weight_22 : decode cX6_weight 22 = .ok (.ifCond .eq 7, 3) := by decide +kernel
theorem dX6_weight_25 : decode cX6_weight 25 = .ok (.iconst 1, 1) := by decide +kernel
theorem dX6_weight_26 : decode cX6_weight 26 = .ok (.goto 4, 3) := by decide +kernel
theorem dX6_weight_29 : decode cX6_weight 29 = .ok (.iconst 0, 1) := by decide +kernel
theorem dX6_weight_30 : decode cX6_weight 30 = .ok (.putfield 60, 3) := by decide +kernel
theorem dX6_weight_33 : decode cX6_weight 33 = .ok (.aload_n 0, 1) := by decide +kernel
theorem dX6_weight_34 : decode cX6_weight 34 = .ok (.getfield 33, 3) := by decide +kernel
theorem dX6_weight_37 : decode cX6_weight 37 = .ok (.iload_n 1, 1) := by decide +kernel
theorem dX6_weight_38 : decode cX6_weight 38 = .ok (.invokevirtual 200, 3) := by decide +kernel
theorem dX6_weight_41 : decode cX6_weight 41 = .ok (.ireturn, 1) := by decide +kernel
theorem dX6_opens_0 : decode cX6_opens 0 = .ok (.aload_n 0, 1) := by decide +kernel
theorem dX6_opens_1 : decode cX6_opens 1 = .ok (.getfield 42, 3) := by decide +kernel
theorem dX6_opens_4 : decode cX6_opens 4 = .ok (.invokevirtual 203, 3) := by decide +kernel
theorem dX6_opens_7 : decode cX6_opens 7 = .ok (.aload_n 0, 1) := by decide +kernel
theorem dX6_opens_8 : decode cX6_opens 8 = .ok (.aload_n 0, 1) := by decide +kernel
theorem dX6_opens_9 : decode cX6_opens 9 = .ok (.getfield 42, 3) := by decide +kernel
theorem dX6_opens_12 : decode cX6_opens 12 = .ok (.invokevirtual 206, 3) := by decide +kernel
theorem dX6_opens_15 : decode cX6_opens 15 = .ok (.i2l, 1) := by decide +kernel
theorem dX6_opens_16 : decode cX6_opens 16 = .ok (.lconst 1, 1) := by decide +kernel
theorem dX6_opens_17 : decode cX6_opens 17 = .ok (.invokevirtual 209, 3) := by decide +kernel
theorem dX6_opens_20 : decode cX6_opens 20 = .ok (.aload_n 0, 1) := by decide +kernel
theorem dX6_opens_21 : decode cX6_opens 21 = .ok (.aload_n 0, 1) := by decide +kernel
theorem dX6_opens_22 : decode cX6_opens 22 = .ok (.getfield 42, 3) := by decide +kernel
theorem dX6_opens_25 : decode cX6_opens 25 = .ok (.invokevirtual 213, 3) := by decide +kernel
theorem dX6_opens_28 : decode cX6_opens 28 = .ok (.putfield 60, 3) := by decide +kernel
theorem dX6_opens_31 : decode cX6_opens 31 = .ok (.iconst 1, 1) := by decide +kernel
theorem dX6_opens_32 : decode cX6_opens 32 = .ok (.ireturn, 1) := by decide +kernel
theorem dX6_must_0 : decode cX6_must 0 = .ok (.aload_n 0, 1) := by decide +kernel
theorem dX6_must_1 : decode cX6_must 1 = .ok (.getfield 42, 3) := by decide +kernel
theorem dX6_must_4 : decode cX6_must 4 = .ok (.invokevirtual 203, 3) := by decide +kernel
theorem dX6_must_7 : decode cX6_must 7 = .ok (.aload_n 0, 1) := by decide +kernel
theorem dX6_must_8 : decode cX6_must 8 = .ok (.getfield 42, 3) := by decide +kernel
theorem dX6_must_11 : decode cX6_must 11 = .ok (.invokevirtual 206, 3) := by decide +kernel
theorem dX6_must_14 : decode cX6_must 14 = .ok (.ifCond .ne 6, 3) := by decide +kernel
theorem dX6_must_17 : decode cX6_must 17 = .ok (.bipush (-4), 2) := by decide +kernel
theorem dX6_must_19 : decode cX6_must 19 = .ok (.ireturn, 1) := by decide +kernel
theorem dX6_must_20 : decode cX6_must 20 = .ok (.aload_n 0, 1) := by decide +kernel
theorem dX6_must_21 : decode cX6_must 21 = .ok (.aload_n 0, 1) := by decide +kernel
theorem dX6_must_22 : decode cX6_must 22 = .ok (.getfield 42, 3) := by decide +kernel
theorem dX6_must_25 : decode cX6_must 25 = .ok (.invokevirtual 216, 3) := by decide +kernel
theorem dX6_must_28 : decode cX6_must 28 = .ok (.putfield 60, 3) := by decide +kernel
theorem dX6_must_31 : decode cX6_must 31 = .ok (.aload_n 0, 1) := by decide +kernel
theorem dX6_must_32 : decode cX6_must 32 = .ok (.getfield 42, 3) := by decide +kernel
theorem dX6_must_35 : decode cX6_must 35 = .ok (.invokevirtual 219, 3) := by decide +kernel
theorem dX6_must_38 : decode cX6_must 38 = .ok (.ireturn, 1) := by decide +kernel
theorem dX6_holds_0 : decode cX6_holds 0 = .ok (.aload_n 0, 1) := by decide +kernel
theorem dX6_holds_1 : decode cX6_holds 1 = .ok (.getfield 33, 3) := by decide +kernel
theorem dX6_holds_4 : decode cX6_holds 4 = .ok (.iload_n 1, 1) := by decide +kernel
theorem dX6_holds_5 : decode cX6_holds 5 = .ok (.invokevirtual 144, 3) := by decide +kernel
theorem dX6_holds_8 : decode cX6_holds 8 = .ok (.ifCond .ne 5, 3) := by decide +kernel
theorem dX6_holds_11 : decode cX6_holds 11 = .ok (.iconst (-1), 1) := by decide +kernel
theorem dX6_holds_12 : decode cX6_holds 12 = .ok (.ireturn, 1) := by decide +kernel
theorem dX6_holds_13 : decode cX6_holds 13 = .ok (.aload_n 0, 1) := by decide +kernel
theorem dX6_holds_14 : decode cX6_holds 14 = .ok (.getfield 42, 3) := by decide +kernel
theorem dX6_holds_17 : decode cX6_holds 17 = .ok (.invokevirtual 203, 3) := by decide +kernel
theorem dX6_holds_20 : decode cX6_holds 20 = .ok (.aload_n 0, 1) := by decide +kernel
theorem dX6_holds_21 : decode cX6_holds 21 = .ok (.getfield 42, 3) := by decide +kernel
theorem dX6_holds_24 : decode cX6_holds 24 = .ok (.iload_n 1, 1) := by decide +kernel
theorem dX6_holds_25 : decode cX6_holds 25 = .ok (.invokevirtual 222, 3) := by decide +kernel
theorem dX6_holds_28 : decode cX6_holds 28 = .ok (.ireturn, 1) := by decide +kernel
theorem dX6_part_0 : decode cX6_part 0 = .ok (.aload_n 0, 1) := by decide +kernel
theorem dX6_part_1 : decode cX6_part 1 = .ok (.getfield 33, 3) := by decide +kernel
theorem dX6_part_4 : decode cX6_part 4 = .ok (.iload_n 1, 1) := by decide +kernel
theorem dX6_part_5 : decode cX6_part 5 = .ok (.invokevirtual 144, 3) := by decide +kernel
theorem dX6_part_8 : decode cX6_part 8 = .ok (.ifCond .ne 5, 3) := by decide +kernel
theorem dX6_part_11 : decode cX6_part 11 = .ok (.iconst (-1), 1) := by decide +kernel
theorem dX6_part_12 : decode cX6_part 12 = .ok (.ireturn, 1) := by decide +kernel
theorem dX6_part_13 : decode cX6_part 13 = .ok (.aload_n 0, 1) := by decide +kernel
theorem dX6_part_14 : decode cX6_part 14 = .ok (.aload_n 0, 1) := by decide +kernel
theorem dX6_part_15 : decode cX6_part 15 = .ok (.getfield 33, 3) := by decide +kernel
theorem dX6_part_18 : decode cX6_part 18 = .ok (.iload_n 1, 1) := by decide +kernel
theorem dX6_part_19 : decode cX6_part 19 = .ok (.invokevirtual 225, 3) := by decide +kernel
theorem dX6_part_22 : decode cX6_part 22 = .ok (.aload_n 0, 1) := by decide +kernel
theorem dX6_part_23 : decode cX6_part 23 = .ok (.getfield 33, 3) := by decide +kernel
theorem dX6_part_26 : decode cX6_part 26 = .ok (.invokevirtual 140, 3) := by decide +kernel
theorem dX6_part_29 : decode cX6_part 29 = .ok (.invokestatic 228, 3) := by decide +kernel
theorem dX6_part_32 : decode cX6_part 32 = .ok (.invokevirtual 209, 3) := by decide +kernel
theorem dX6_part_35 : decode cX6_part 35 = .ok (.iconst 1, 1) := by decide +kernel
theorem dX6_part_36 : decode cX6_part 36 = .ok (.ireturn, 1) := by decide +kernel
theorem dX6_drink_0 : decode cX6_drink 0 = .ok (.aload_n 0, 1) := by decide +kernel
theorem dX6_drink_1 : decode cX6_drink 1 = .ok (.getfield 14, 3) := by decide +kernel
theorem dX6_drink_4 : decode cX6_drink 4 = .ok (.iload_n 1, 1) := by decide +kernel
theorem dX6_drink_5 : decode cX6_drink 5 = .ok (.invokevirtual 96, 3) := by decide +kernel
theorem dX6_drink_8 : decode cX6_drink 8 = .ok (.ifCond .ne 5, 3) := by decide +kernel
theorem dX6_drink_11 : decode cX6_drink 11 = .ok (.iconst (-1), 1) := by decide +kernel
theorem dX6_drink_12 : decode cX6_drink 12 = .ok (.ireturn, 1) := by decide +kernel
theorem dX6_drink_13 : decode cX6_drink 13 = .ok (.aload_n 0, 1) := by decide +kernel
theorem dX6_drink_14 : decode cX6_drink 14 = .ok (.getfield 33, 3) := by decide +kernel
theorem dX6_drink_17 : decode cX6_drink 17 = .ok (.invokevirtual 140, 3) := by decide +kernel
theorem dX6_drink_20 : decode cX6_drink 20 = .ok (.ifCond .ne 6, 3) := by decide +kernel
theorem dX6_drink_23 : decode cX6_drink 23 = .ok (.bipush (-4), 2) := by decide +kernel
theorem dX6_drink_25 : decode cX6_drink 25 = .ok (.ireturn, 1) := by decide +kernel
theorem dX6_drink_26 : decode cX6_drink 26 = .ok (.aload_n 0, 1) := by decide +kernel
theorem dX6_drink_27 : decode cX6_drink 27 = .ok (.getfield 42, 3) := by decide +kernel
theorem dX6_drink_30 : decode cX6_drink 30 = .ok (.invokevirtual 203, 3) := by decide +kernel
theorem dX6_drink_33 : decode cX6_drink 33 = .ok (.aload_n 0, 1) := by decide +kernel
theorem dX6_drink_34 : decode cX6_drink 34 = .ok (.getfield 33, 3) := by decide +kernel
theorem dX6_drink_37 : decode cX6_drink 37 = .ok (.invokevirtual 231, 3) := by decide +kernel
theorem dX6_drink_40 : decode cX6_drink 40 = .ok (.istore_n 2, 1) := by decide +kernel
theorem dX6_drink_41 : decode cX6_drink 41 = .ok (.aload_n 0, 1) := by decide +kernel
theorem dX6_drink_42 : decode cX6_drink 42 = .ok (.getfield 42, 3) := by decide +kernel
theorem dX6_drink_45 : decode cX6_drink 45 = .ok (.iload_n 2, 1) := by decide +kernel
theorem dX6_drink_46 : decode cX6_drink 46 = .ok (.invokevirtual 234, 3) := by decide +kernel
theorem dX6_drink_49 : decode cX6_drink 49 = .ok (.istore_n 3, 1) := by decide +kernel
theorem dX6_drink_50 : decode cX6_drink 50 = .ok (.iload_n 3, 1) := by decide +kernel
theorem dX6_drink_51 : decode cX6_drink 51 = .ok (.bipush (-9), 2) := by decide +kernel
theorem dX6_drink_53 : decode cX6_drink 53 = .ok (.if_icmp .eq 26, 3) := by decide +kernel
theorem dX6_drink_56 : decode cX6_drink 56 = .ok (.aload_n 0, 1) := by decide +kernel
theorem dX6_drink_57 : decode cX6_drink 57 = .ok (.getfield 14, 3) := by decide +kernel
theorem dX6_drink_60 : decode cX6_drink 60 = .ok (.iload_n 1, 1) := by decide +kernel
theorem dX6_drink_61 : decode cX6_drink 61 = .ok (.iload_n 3, 1) := by decide +kernel
theorem dX6_drink_62 : decode cX6_drink 62 = .ok (.iconst 0, 1) := by decide +kernel
theorem dX6_drink_63 : decode cX6_drink 63 = .ok (.invokevirtual 237, 3) := by decide +kernel
theorem dX6_drink_66 : decode cX6_drink 66 = .ok (.aload_n 0, 1) := by decide +kernel
theorem dX6_drink_67 : decode cX6_drink 67 = .ok (.getfield 42, 3) := by decide +kernel
theorem dX6_drink_70 : decode cX6_drink 70 = .ok (.iload_n 2, 1) := by decide +kernel
theorem dX6_drink_71 : decode cX6_drink 71 = .ok (.aload_n 0, 1) := by decide +kernel
theorem dX6_drink_72 : decode cX6_drink 72 = .ok (.getfield 14, 3) := by decide +kernel
theorem dX6_drink_75 : decode cX6_drink 75 = .ok (.iload_n 1, 1) := by decide +kernel
theorem dX6_drink_76 : decode cX6_drink 76 = .ok (.invokevirtual 240, 3) := by decide +kernel
theorem dX6_drink_79 : decode cX6_drink 79 = .ok (.iload_n 3, 1) := by decide +kernel
theorem dX6_drink_80 : decode cX6_drink 80 = .ok (.ireturn, 1) := by decide +kernel
theorem dX6_best_0 : decode cX6_best 0 = .ok (.aload_n 0, 1) := by decide +kernel
theorem dX6_best_1 : decode cX6_best 1 = .ok (.getfield 33, 3) := by decide +kernel
theorem dX6_best_4 : decode cX6_best 4 = .ok (.iload_n 1, 1) := by decide +kernel
theorem dX6_best_5 : decode cX6_best 5 = .ok (.invokevirtual 197, 3) := by decide +kernel
theorem dX6_best_8 : decode cX6_best 8 = .ok (.ifCond .eq 14, 3) := by decide +kernel
theorem dX6_best_11 : decode cX6_best 11 = .ok (.aload_n 0, 1) := by decide +kernel
theorem dX6_best_12 : decode cX6_best 12 = .ok (.getfield 14, 3) := by decide +kernel
theorem dX6_best_15 : decode cX6_best 15 = .ok (.iload_n 2, 1) := by decide +kernel
theorem dX6_best_16 : decode cX6_best 16 = .ok (.invokevirtual 96, 3) := by decide +kernel
theorem dX6_best_19 : decode cX6_best 19 = .ok (.ifCond .ne 5, 3) := by decide +kernel
theorem dX6_best_22 : decode cX6_best 22 = .ok (.iconst (-1), 1) := by decide +kernel
theorem dX6_best_23 : decode cX6_best 23 = .ok (.ireturn, 1) := by decide +kernel
theorem dX6_best_24 : decode cX6_best 24 = .ok (.aload_n 0, 1) := by decide +kernel
theorem dX6_best_25 : decode cX6_best 25 = .ok (.getfield 33, 3) := by decide +kernel
theorem dX6_best_28 : decode cX6_best 28 = .ok (.iload_n 1, 1) := by decide +kernel
theorem dX6_best_29 : decode cX6_best 29 = .ok (.invokevirtual 165, 3) := by decide +kernel
theorem dX6_best_32 : decode cX6_best 32 = .ok (.ifCond .ne 6, 3) := by decide +kernel
theorem dX6_best_35 : decode cX6_best 35 = .ok (.bipush (-4), 2) := by decide +kernel
theorem dX6_best_37 : decode cX6_best 37 = .ok (.ireturn, 1) := by decide +kernel
theorem dX6_best_38 : decode cX6_best 38 = .ok (.aload_n 0, 1) := by decide +kernel
theorem dX6_best_39 : decode cX6_best 39 = .ok (.getfield 14, 3) := by decide +kernel
theorem dX6_best_42 : decode cX6_best 42 = .ok (.iload_n 2, 1) := by decide +kernel
theorem dX6_best_43 : decode cX6_best 43 = .ok (.iload_n 1, 1) := by decide +kernel
theorem dX6_best_44 : decode cX6_best 44 = .ok (.invokestatic 244, 3) := by decide +kernel
theorem dX6_best_47 : decode cX6_best 47 = .ok (.iconst 0, 1) := by decide +kernel
theorem dX6_best_48 : decode cX6_best 48 = .ok (.invokevirtual 237, 3) := by decide +kernel
theorem dX6_best_51 : decode cX6_best 51 = .ok (.aload_n 0, 1) := by decide +kernel
theorem dX6_best_52 : decode cX6_best 52 = .ok (.getfield 33, 3) := by decide +kernel
theorem dX6_best_55 : decode cX6_best 55 = .ok (.iload_n 1, 1) := by decide +kernel
theorem dX6_best_56 : decode cX6_best 56 = .ok (.aload_n 0, 1) := by decide +kernel
theorem dX6_best_57 : decode cX6_best 57 = .ok (.getfield 14, 3) := by decide +kernel
theorem dX6_best_60 : decode cX6_best 60 = .ok (.iload_n 2, 1) := by decide +kernel
theorem dX6_best_61 : decode cX6_best 61 = .ok (.invokevirtual 249, 3) := by decide +kernel
theorem dX6_best_64 : decode cX6_best 64 = .ok (.aload_n 0, 1) := by decide +kernel
theorem dX6_best_65 : decode cX6_best 65 = .ok (.getfield 33, 3) := by decide +kernel
theorem dX6_best_68 : decode cX6_best 68 = .ok (.iload_n 1, 1) := by decide +kernel
theorem dX6_best_69 : decode cX6_best 69 = .ok (.aload_n 0, 1) := by decide +kernel
theorem dX6_best_70 : decode cX6_best 70 = .ok (.getfield 33, 3) := by decide +kernel
theorem dX6_best_73 : decode cX6_best 73 = .ok (.getfield 187, 3) := by decide +kernel
theorem dX6_best_76 : decode cX6_best 76 = .ok (.invokevirtual 252, 3) := by decide +kernel
theorem dX6_best_79 : decode cX6_best 79 = .ok (.ireturn, 1) := by decide +kernel
theorem dX6_ration_0 : decode cX6_ration 0 = .ok (.aload_n 0, 1) := by decide +kernel
theorem dX6_ration_1 : decode cX6_ration 1 = .ok (.getfield 33, 3) := by decide +kernel
theorem dX6_ration_4 : decode cX6_ration 4 = .ok (.invokevirtual 140, 3) := by decide +kernel
theorem dX6_ration_7 : decode cX6_ration 7 = .ok (.ifCond .ne 6, 3) := by decide +kernel
theorem dX6_ration_10 : decode cX6_ration 10 = .ok (.bipush (-4), 2) := by decide +kernel
theorem dX6_ration_12 : decode cX6_ration 12 = .ok (.ireturn, 1) := by decide +kernel
theorem dX6_ration_13 : decode cX6_ration 13 = .ok (.bipush 99, 2) := by decide +kernel
theorem dX6_ration_15 : decode cX6_ration 15 = .ok (.istore_n 1, 1) := by decide +kernel
theorem dX6_ration_16 : decode cX6_ration 16 = .ok (.iload_n 1, 1) := by decide +kernel
theorem dX6_ration_17 : decode cX6_ration 17 = .ok (.ifCond .le 27, 3) := by decide +kernel
theorem dX6_ration_20 : decode cX6_ration 20 = .ok (.aload_n 0, 1) := by decide +kernel
theorem dX6_ration_21 : decode cX6_ration 21 = .ok (.getfield 33, 3) := by decide +kernel
theorem dX6_ration_24 : decode cX6_ration 24 = .ok (.iload_n 1, 1) := by decide +kernel
theorem dX6_ration_25 : decode cX6_ration 25 = .ok (.invokevirtual 255, 3) := by decide +kernel
theorem dX6_ration_28 : decode cX6_ration 28 = .ok (.aload_n 0, 1) := by decide +kernel
theorem dX6_ration_29 : decode cX6_ration 29 = .ok (.getfield 33, 3) := by decide +kernel
theorem dX6_ration_32 : decode cX6_ration 32 = .ok (.getfield 187, 3) := by decide +kernel
theorem dX6_ration_35 : decode cX6_ration 35 = .ok (.if_icmp .le 9, 3) := by decide +kernel
theorem dX6_ration_38 : decode cX6_ration 38 = .ok (.iinc 1 (-1), 3) := by decide +kernel
theorem dX6_ration_41 : decode cX6_ration 41 = .ok (.goto (-25), 3) := by decide +kernel
theorem dX6_ration_44 : decode cX6_ration 44 = .ok (.aload_n 0, 1) := by decide +kernel
theorem dX6_ration_45 : decode cX6_ration 45 = .ok (.aload_n 0, 1) := by decide +kernel
theorem dX6_ration_46 : decode cX6_ration 46 = .ok (.getfield 33, 3) := by decide +kernel
theorem dX6_ration_49 : decode cX6_ration 49 = .ok (.iload_n 1, 1) := by decide +kernel
theorem dX6_ration_50 : decode cX6_ration 50 = .ok (.invokevirtual 255, 3) := by decide +kernel
theorem dX6_ration_53 : decode cX6_ration 53 = .ok (.putfield 60, 3) := by decide +kernel
theorem dX6_ration_56 : decode cX6_ration 56 = .ok (.iload_n 1, 1) := by decide +kernel
theorem dX6_ration_57 : decode cX6_ration 57 = .ok (.ireturn, 1) := by decide +kernel
theorem dX6_frogs_0 : decode cX6_frogs 0 = .ok (.iload_n 1, 1) := by decide +kernel
theorem dX6_frogs_1 : decode cX6_frogs 1 = .ok (.ifCond .lt 9, 3) := by decide +kernel
theorem dX6_frogs_4 : decode cX6_frogs 4 = .ok (.iload_n 1, 1) := by decide +kernel
theorem dX6_frogs_5 : decode cX6_frogs 5 = .ok (.bipush 99, 2) := by decide +kernel
theorem dX6_frogs_7 : decode cX6_frogs 7 = .ok (.if_icmp .le 5, 3) := by decide +kernel
theorem dX6_frogs_10 : decode cX6_frogs 10 = .ok (.iconst (-1), 1) := by decide +kernel
theorem dX6_frogs_11 : decode cX6_frogs 11 = .ok (.ireturn, 1) := by decide +kernel
theorem dX6_frogs_12 : decode cX6_frogs 12 = .ok (.aload_n 0, 1) := by decide +kernel
theorem dX6_frogs_13 : decode cX6_frogs 13 = .ok (.getfield 42, 3) := by decide +kernel
theorem dX6_frogs_16 : decode cX6_frogs 16 = .ok (.invokevirtual 203, 3) := by decide +kernel
theorem dX6_frogs_19 : decode cX6_frogs 19 = .ok (.aload_n 0, 1) := by decide +kernel
theorem dX6_frogs_20 : decode cX6_frogs 20 = .ok (.getfield 42, 3) := by decide +kernel
theorem dX6_frogs_23 : decode cX6_frogs 23 = .ok (.iload_n 1, 1) := by decide +kernel
theorem dX6_frogs_24 : decode cX6_frogs 24 = .ok (.invokevirtual 258, 3) := by decide +kernel
theorem dX6_frogs_27 : decode cX6_frogs 27 = .ok (.aload_n 0, 1) := by decide +kernel
theorem dX6_frogs_28 : decode cX6_frogs 28 = .ok (.getfield 42, 3) := by decide +kernel
theorem dX6_frogs_31 : decode cX6_frogs 31 = .ok (.invokevirtual 206, 3) := by decide +kernel
theorem dX6_frogs_34 : decode cX6_frogs 34 = .ok (.istore_n 2, 1) := by decide +kernel
theorem dX6_frogs_35 : decode cX6_frogs 35 = .ok (.aload_n 0, 1) := by decide +kernel
theorem dX6_frogs_36 : decode cX6_frogs 36 = .ok (.iload_n 2, 1) := by decide +kernel
theorem dX6_frogs_37 : decode cX6_frogs 37 = .ok (.i2l, 1) := by decide +kernel
theorem dX6_frogs_38 : decode cX6_frogs 38 = .ok (.lconst 1, 1) := by decide +kernel
theorem dX6_frogs_39 : decode cX6_frogs 39 = .ok (.invokevirtual 209, 3) := by decide +kernel
theorem dX6_frogs_42 : decode cX6_frogs 42 = .ok (.aload_n 0, 1) := by decide +kernel
theorem dX6_frogs_43 : decode cX6_frogs 43 = .ok (.iload_n 2, 1) := by decide +kernel
theorem dX6_frogs_44 : decode cX6_frogs 44 = .ok (.ifCond .ne 7, 3) := by decide +kernel
theorem dX6_frogs_47 : decode cX6_frogs 47 = .ok (.iconst 0, 1) := by decide +kernel
theorem dX6_frogs_48 : decode cX6_frogs 48 = .ok (.goto 10, 3) := by decide +kernel
theorem dX6_frogs_51 : decode cX6_frogs 51 = .ok (.aload_n 0, 1) := by decide +kernel
theorem dX6_frogs_52 : decode cX6_frogs 52 = .ok (.getfield 42, 3) := by decide +kernel
theorem dX6_frogs_55 : decode cX6_frogs 55 = .ok (.invokevirtual 219, 3) := by decide +kernel
theorem dX6_frogs_58 : decode cX6_frogs 58 = .ok (.putfield 60, 3) := by decide +kernel
theorem dX6_frogs_61 : decode cX6_frogs 61 = .ok (.iconst 1, 1) := by decide +kernel
theorem dX6_frogs_62 : decode cX6_frogs 62 = .ok (.ireturn, 1) := by decide +kernel
theorem dX6_twice_0 : decode cX6_twice 0 = .ok (.aload_n 0, 1) := by decide +kernel
theorem dX6_twice_1 : decode cX6_twice 1 = .ok (.iload_n 1, 1) := by decide +kernel
theorem dX6_twice_2 : decode cX6_twice 2 = .ok (.invokevirtual 261, 3) := by decide +kernel
theorem dX6_twice_5 : decode cX6_twice 5 = .ok (.istore_n 2, 1) := by decide +kernel
theorem dX6_twice_6 : decode cX6_twice 6 = .ok (.iload_n 2, 1) := by decide +kernel
theorem dX6_twice_7 : decode cX6_twice 7 = .ok (.ifCond .eq 5, 3) := by decide +kernel
theorem dX6_twice_10 : decode cX6_twice 10 = .ok (.iload_n 2, 1) := by decide +kernel
theorem dX6_twice_11 : decode cX6_twice 11 = .ok (.ireturn, 1) := by decide +kernel
theorem dX6_twice_12 : decode cX6_twice 12 = .ok (.iconst 0, 1) := by decide +kernel
theorem dX6_twice_13 : decode cX6_twice 13 = .ok (.istore_n 3, 1) := by decide +kernel
theorem dX6_twice_14 : decode cX6_twice 14 = .ok (.iconst 0, 1) := by decide +kernel
theorem dX6_twice_15 : decode cX6_twice 15 = .ok (.istore 4, 2) := by decide +kernel
theorem dX6_twice_17 : decode cX6_twice 17 = .ok (.iload 4, 2) := by decide +kernel
theorem dX6_twice_19 : decode cX6_twice 19 = .ok (.aload_n 0, 1) := by decide +kernel
theorem dX6_twice_20 : decode cX6_twice 20 = .ok (.getfield 33, 3) := by decide +kernel
theorem dX6_twice_23 : decode cX6_twice 23 = .ok (.invokevirtual 140, 3) := by decide +kernel
theorem dX6_twice_26 : decode cX6_twice 26 = .ok (.if_icmp .ge 26, 3) := by decide +kernel
theorem dX6_twice_29 : decode cX6_twice 29 = .ok (.aload_n 0, 1) := by decide +kernel
theorem dX6_twice_30 : decode cX6_twice 30 = .ok (.iload_n 1, 1) := by decide +kernel
theorem dX6_twice_31 : decode cX6_twice 31 = .ok (.iload 4, 2) := by decide +kernel
theorem dX6_twice_33 : decode cX6_twice 33 = .ok (.invokevirtual 264, 3) := by decide +kernel
theorem dX6_twice_36 : decode cX6_twice 36 = .ok (.ifCond .eq 10, 3) := by decide +kernel
theorem dX6_twice_39 : decode cX6_twice 39 = .ok (.iload_n 3, 1) := by decide +kernel
theorem dX6_twice_40 : decode cX6_twice 40 = .ok (.iconst 1, 1) := by decide +kernel
theorem dX6_twice_41 : decode cX6_twice 41 = .ok (.iload 4, 2) := by decide +kernel
theorem dX6_twice_43 : decode cX6_twice 43 = .ok (.ishl, 1) := by decide +kernel
theorem dX6_twice_44 : decode cX6_twice 44 = .ok (.ior, 1) := by decide +kernel
theorem dX6_twice_45 : decode cX6_twice 45 = .ok (.istore_n 3, 1) := by decide +kernel
theorem dX6_twice_46 : decode cX6_twice 46 = .ok (.iinc 4 1, 3) := by decide +kernel
theorem dX6_twice_49 : decode cX6_twice 49 = .ok (.goto (-32), 3) := by decide +kernel
theorem dX6_twice_52 : decode cX6_twice 52 = .ok (.iload_n 3, 1) := by decide +kernel
theorem dX6_twice_53 : decode cX6_twice 53 = .ok (.ireturn, 1) := by decide +kernel
theorem dX6_quorum_0 : decode cX6_quorum 0 = .ok (.aload_n 0, 1) := by decide +kernel
theorem dX6_quorum_1 : decode cX6_quorum 1 = .ok (.iload_n 1, 1) := by decide +kernel
theorem dX6_quorum_2 : decode cX6_quorum 2 = .ok (.invokevirtual 261, 3) := by decide +kernel
theorem dX6_quorum_5 : decode cX6_quorum 5 = .ok (.istore_n 2, 1) := by decide +kernel
theorem dX6_quorum_6 : decode cX6_quorum 6 = .ok (.iload_n 2, 1) := by decide +kernel
theorem dX6_quorum_7 : decode cX6_quorum 7 = .ok (.ifCond .eq 5, 3) := by decide +kernel
theorem dX6_quorum_10 : decode cX6_quorum 10 = .ok (.iload_n 2, 1) := by decide +kernel
theorem dX6_quorum_11 : decode cX6_quorum 11 = .ok (.ireturn, 1) := by decide +kernel
theorem dX6_quorum_12 : decode cX6_quorum 12 = .ok (.iconst 0, 1) := by decide +kernel
theorem dX6_quorum_13 : decode cX6_quorum 13 = .ok (.istore_n 3, 1) := by decide +kernel
theorem dX6_quorum_14 : decode cX6_quorum 14 = .ok (.iconst 1, 1) := by decide +kernel
theorem dX6_quorum_15 : decode cX6_quorum 15 = .ok (.istore 4, 2) := by decide +kernel
theorem dX6_quorum_17 : decode cX6_quorum 17 = .ok (.iload 4, 2) := by decide +kernel
theorem dX6_quorum_19 : decode cX6_quorum 19 = .ok (.bipush 9, 2) := by decide +kernel
theorem dX6_quorum_21 : decode cX6_quorum 21 = .ok (.if_icmp .gt 26, 3) := by decide +kernel
theorem dX6_quorum_24 : decode cX6_quorum 24 = .ok (.aload_n 0, 1) := by decide +kernel
theorem dX6_quorum_25 : decode cX6_quorum 25 = .ok (.iload_n 1, 1) := by decide +kernel
theorem dX6_quorum_26 : decode cX6_quorum 26 = .ok (.iload 4, 2) := by decide +kernel
theorem dX6_quorum_28 : decode cX6_quorum 28 = .ok (.invokevirtual 267, 3) := by decide +kernel
theorem dX6_quorum_31 : decode cX6_quorum 31 = .ok (.ifCond .eq 10, 3) := by decide +kernel
theorem dX6_quorum_34 : decode cX6_quorum 34 = .ok (.iload_n 3, 1) := by decide +kernel
theorem dX6_quorum_35 : decode cX6_quorum 35 = .ok (.iconst 1, 1) := by decide +kernel
theorem dX6_quorum_36 : decode cX6_quorum 36 = .ok (.iload 4, 2) := by decide +kernel
theorem dX6_quorum_38 : decode cX6_quorum 38 = .ok (.ishl, 1) := by decide +kernel
theorem dX6_quorum_39 : decode cX6_quorum 39 = .ok (.ior, 1) := by decide +kernel
theorem dX6_quorum_40 : decode cX6_quorum 40 = .ok (.istore_n 3, 1) := by decide +kernel
theorem dX6_quorum_41 : decode cX6_quorum 41 = .ok (.iinc 4 1, 3) := by decide +kernel
theorem dX6_quorum_44 : decode cX6_quorum 44 = .ok (.goto (-27), 3) := by decide +kernel
theorem dX6_quorum_47 : decode cX6_quorum 47 = .ok (.iload_n 3, 1) := by decide +kernel
theorem dX6_quorum_48 : decode cX6_quorum 48 = .ok (.ireturn, 1) := by decide +kernel
theorem dX6_call_0 : decode cX6_call 0 = .ok (.aload_n 0, 1) := by decide +kernel
theorem dX6_call_1 : decode cX6_call 1 = .ok (.getfield 33, 3) := by decide +kernel
theorem dX6_call_4 : decode cX6_call 4 = .ok (.invokevirtual 140, 3) := by decide +kernel
theorem dX6_call_7 : decode cX6_call 7 = .ok (.ifCond .ne 6, 3) := by decide +kernel
theorem dX6_call_10 : decode cX6_call 10 = .ok (.bipush (-4), 2) := by decide +kernel
theorem dX6_call_12 : decode cX6_call 12 = .ok (.ireturn, 1) := by decide +kernel
theorem dX6_call_13 : decode cX6_call 13 = .ok (.aload_n 0, 1) := by decide +kernel
theorem dX6_call_14 : decode cX6_call 14 = .ok (.getfield 42, 3) := by decide +kernel
theorem dX6_call_17 : decode cX6_call 17 = .ok (.invokevirtual 203, 3) := by decide +kernel
theorem dX6_call_20 : decode cX6_call 20 = .ok (.aload_n 0, 1) := by decide +kernel
theorem dX6_call_21 : decode cX6_call 21 = .ok (.getfield 42, 3) := by decide +kernel
theorem dX6_call_24 : decode cX6_call 24 = .ok (.invokevirtual 270, 3) := by decide +kernel
theorem dX6_call_27 : decode cX6_call 27 = .ok (.bipush (-9), 2) := by decide +kernel
theorem dX6_call_29 : decode cX6_call 29 = .ok (.if_icmp .ne 7, 3) := by decide +kernel
theorem dX6_call_32 : decode cX6_call 32 = .ok (.iconst 0, 1) := by decide +kernel
theorem dX6_call_33 : decode cX6_call 33 = .ok (.goto 4, 3) := by decide +kernel
theorem dX6_call_36 : decode cX6_call 36 = .ok (.iconst 1, 1) := by decide +kernel
theorem dX6_call_37 : decode cX6_call 37 = .ok (.ireturn, 1) := by decide +kernel
theorem dX6_first_0 : decode cX6_first 0 = .ok (.aload_n 0, 1) := by decide +kernel
theorem dX6_first_1 : decode cX6_first 1 = .ok (.getfield 33, 3) := by decide +kernel
theorem dX6_first_4 : decode cX6_first 4 = .ok (.invokevirtual 140, 3) := by decide +kernel
theorem dX6_first_7 : decode cX6_first 7 = .ok (.ifCond .ne 6, 3) := by decide +kernel
theorem dX6_first_10 : decode cX6_first 10 = .ok (.bipush (-4), 2) := by decide +kernel
theorem dX6_first_12 : decode cX6_first 12 = .ok (.ireturn, 1) := by decide +kernel
theorem dX6_first_13 : decode cX6_first 13 = .ok (.aload_n 0, 1) := by decide +kernel
theorem dX6_first_14 : decode cX6_first 14 = .ok (.getfield 42, 3) := by decide +kernel
theorem dX6_first_17 : decode cX6_first 17 = .ok (.invokevirtual 203, 3) := by decide +kernel
theorem dX6_first_20 : decode cX6_first 20 = .ok (.aload_n 0, 1) := by decide +kernel
theorem dX6_first_21 : decode cX6_first 21 = .ok (.getfield 42, 3) := by decide +kernel
theorem dX6_first_24 : decode cX6_first 24 = .ok (.invokevirtual 270, 3) := by decide +kernel
theorem dX6_first_27 : decode cX6_first 27 = .ok (.ireturn, 1) := by decide +kernel
theorem dX6_odds_0 : decode cX6_odds 0 = .ok (.aload_n 0, 1) := by decide +kernel
theorem dX6_odds_1 : decode cX6_odds 1 = .ok (.iload_n 1, 1) := by decide +kernel
theorem dX6_odds_2 : decode cX6_odds 2 = .ok (.invokevirtual 273, 3) := by decide +kernel
theorem dX6_odds_5 : decode cX6_odds 5 = .ok (.istore_n 2, 1) := by decide +kernel
theorem dX6_odds_6 : decode cX6_odds 6 = .ok (.iload_n 2, 1) := by decide +kernel
theorem dX6_odds_7 : decode cX6_odds 7 = .ok (.ifCond .eq 5, 3) := by decide +kernel
theorem dX6_odds_10 : decode cX6_odds 10 = .ok (.iload_n 2, 1) := by decide +kernel
theorem dX6_odds_11 : decode cX6_odds 11 = .ok (.ireturn, 1) := by decide +kernel
theorem dX6_odds_12 : decode cX6_odds 12 = .ok (.aload_n 0, 1) := by decide +kernel
theorem dX6_odds_13 : decode cX6_odds 13 = .ok (.getfield 42, 3) := by decide +kernel
theorem dX6_odds_16 : decode cX6_odds 16 = .ok (.invokevirtual 203, 3) := by decide +kernel
theorem dX6_odds_19 : decode cX6_odds 19 = .ok (.aload_n 0, 1) := by decide +kernel
theorem dX6_odds_20 : decode cX6_odds 20 = .ok (.aload_n 0, 1) := by decide +kernel
theorem dX6_odds_21 : decode cX6_odds 21 = .ok (.getfield 42, 3) := by decide +kernel
theorem dX6_odds_24 : decode cX6_odds 24 = .ok (.iload_n 1, 1) := by decide +kernel
theorem dX6_odds_25 : decode cX6_odds 25 = .ok (.invokevirtual 276, 3) := by decide +kernel
theorem dX6_odds_28 : decode cX6_odds 28 = .ok (.bipush 12, 2) := by decide +kernel
theorem dX6_odds_30 : decode cX6_odds 30 = .ok (.aload_n 0, 1) := by decide +kernel
theorem dX6_odds_31 : decode cX6_odds 31 = .ok (.getfield 33, 3) := by decide +kernel
theorem dX6_odds_34 : decode cX6_odds 34 = .ok (.invokevirtual 140, 3) := by decide +kernel
theorem dX6_odds_37 : decode cX6_odds 37 = .ok (.invokestatic 279, 3) := by decide +kernel
theorem dX6_odds_40 : decode cX6_odds 40 = .ok (.invokevirtual 209, 3) := by decide +kernel
theorem dX6_odds_43 : decode cX6_odds 43 = .ok (.iconst 1, 1) := by decide +kernel
theorem dX6_odds_44 : decode cX6_odds 44 = .ok (.ireturn, 1) := by decide +kernel
theorem dX6_mid_0 : decode cX6_mid 0 = .ok (.aload_n 0, 1) := by decide +kernel
theorem dX6_mid_1 : decode cX6_mid 1 = .ok (.iload_n 1, 1) := by decide +kernel
theorem dX6_mid_2 : decode cX6_mid 2 = .ok (.invokevirtual 273, 3) := by decide +kernel
theorem dX6_mid_5 : decode cX6_mid 5 = .ok (.istore_n 2, 1) := by decide +kernel
theorem dX6_mid_6 : decode cX6_mid 6 = .ok (.iload_n 2, 1) := by decide +kernel
theorem dX6_mid_7 : decode cX6_mid 7 = .ok (.ifCond .eq 5, 3) := by decide +kernel
theorem dX6_mid_10 : decode cX6_mid 10 = .ok (.iload_n 2, 1) := by decide +kernel
theorem dX6_mid_11 : decode cX6_mid 11 = .ok (.ireturn, 1) := by decide +kernel
theorem dX6_mid_12 : decode cX6_mid 12 = .ok (.aload_n 0, 1) := by decide +kernel
theorem dX6_mid_13 : decode cX6_mid 13 = .ok (.getfield 42, 3) := by decide +kernel
theorem dX6_mid_16 : decode cX6_mid 16 = .ok (.invokevirtual 203, 3) := by decide +kernel
theorem dX6_mid_19 : decode cX6_mid 19 = .ok (.aload_n 0, 1) := by decide +kernel
theorem dX6_mid_20 : decode cX6_mid 20 = .ok (.aload_n 0, 1) := by decide +kernel
theorem dX6_mid_21 : decode cX6_mid 21 = .ok (.getfield 42, 3) := by decide +kernel
theorem dX6_mid_24 : decode cX6_mid 24 = .ok (.iload_n 1, 1) := by decide +kernel
theorem dX6_mid_25 : decode cX6_mid 25 = .ok (.invokevirtual 283, 3) := by decide +kernel
theorem dX6_mid_28 : decode cX6_mid 28 = .ok (.bipush 12, 2) := by decide +kernel
theorem dX6_mid_30 : decode cX6_mid 30 = .ok (.aload_n 0, 1) := by decide +kernel
theorem dX6_mid_31 : decode cX6_mid 31 = .ok (.getfield 33, 3) := by decide +kernel
theorem dX6_mid_34 : decode cX6_mid 34 = .ok (.invokevirtual 140, 3) := by decide +kernel
theorem dX6_mid_37 : decode cX6_mid 37 = .ok (.invokestatic 279, 3) := by decide +kernel
theorem dX6_mid_40 : decode cX6_mid 40 = .ok (.invokevirtual 209, 3) := by decide +kernel
theorem dX6_mid_43 : decode cX6_mid 43 = .ok (.iconst 1, 1) := by decide +kernel
theorem dX6_mid_44 : decode cX6_mid 44 = .ok (.ireturn, 1) := by decide +kernel
theorem dX6_lots_0 : decode cX6_lots 0 = .ok (.iload_n 1, 1) := by decide +kernel
theorem dX6_lots_1 : decode cX6_lots 1 = .ok (.iconst 1, 1) := by decide +kernel
theorem dX6_lots_2 : decode cX6_lots 2 = .ok (.if_icmp .lt 23, 3) := by decide +kernel
theorem dX6_lots_5 : decode cX6_lots 5 = .ok (.iload_n 1, 1) := by decide +kernel
theorem dX6_lots_6 : decode cX6_lots 6 = .ok (.bipush 20, 2) := by decide +kernel
theorem dX6_lots_8 : decode cX6_lots 8 = .ok (.if_icmp .gt 17, 3) := by decide +kernel
theorem dX6_lots_11 : decode cX6_lots 11 = .ok (.iload_n 2, 1) := by decide +kernel
theorem dX6_lots_12 : decode cX6_lots 12 = .ok (.iconst 1, 1) := by decide +kernel
theorem dX6_lots_13 : decode cX6_lots 13 = .ok (.if_icmp .lt 12, 3) := by decide +kernel
theorem dX6_lots_16 : decode cX6_lots 16 = .ok (.iload_n 2, 1) := by decide +kernel
theorem dX6_lots_17 : decode cX6_lots 17 = .ok (.i2l, 1) := by decide +kernel
theorem dX6_lots_18 : decode cX6_lots 18 = .ok (.ldc2_w 286, 3) := by decide +kernel
theorem dX6_lots_21 : decode cX6_lots 21 = .ok (.lcmp, 1) := by decide +kernel
theorem dX6_lots_22 : decode cX6_lots 22 = .ok (.ifCond .lt 5, 3) := by decide +kernel
theorem dX6_lots_25 : decode cX6_lots 25 = .ok (.iconst (-1), 1) := by decide +kernel
theorem dX6_lots_26 : decode cX6_lots 26 = .ok (.ireturn, 1) := by decide +kernel
theorem dX6_lots_27 : decode cX6_lots 27 = .ok (.aload_n 0, 1) := by decide +kernel
theorem dX6_lots_28 : decode cX6_lots 28 = .ok (.getfield 33, 3) := by decide +kernel
theorem dX6_lots_31 : decode cX6_lots 31 = .ok (.invokevirtual 140, 3) := by decide +kernel
theorem dX6_lots_34 : decode cX6_lots 34 = .ok (.ifCond .ne 6, 3) := by decide +kernel
theorem dX6_lots_37 : decode cX6_lots 37 = .ok (.bipush (-4), 2) := by decide +kernel
theorem dX6_lots_39 : decode cX6_lots 39 = .ok (.ireturn, 1) := by decide +kernel
theorem dX6_lots_40 : decode cX6_lots 40 = .ok (.aload_n 0, 1) := by decide +kernel
theorem dX6_lots_41 : decode cX6_lots 41 = .ok (.getfield 33, 3) := by decide +kernel
theorem dX6_lots_44 : decode cX6_lots 44 = .ok (.getfield 168, 3) := by decide +kernel
theorem dX6_lots_47 : decode cX6_lots 47 = .ok (.iconst 2, 1) := by decide +kernel
theorem dX6_lots_48 : decode cX6_lots 48 = .ok (.iload_n 1, 1) := by decide +kernel
theorem dX6_lots_49 : decode cX6_lots 49 = .ok (.imul, 1) := by decide +kernel
theorem dX6_lots_50 : decode cX6_lots 50 = .ok (.invokevirtual 172, 3) := by decide +kernel
theorem dX6_lots_53 : decode cX6_lots 53 = .ok (.ifCond .eq 6, 3) := by decide +kernel
theorem dX6_lots_56 : decode cX6_lots 56 = .ok (.bipush (-2), 2) := by decide +kernel
theorem dX6_lots_58 : decode cX6_lots 58 = .ok (.ireturn, 1) := by decide +kernel
theorem dX6_lots_59 : decode cX6_lots 59 = .ok (.iload_n 2, 1) := by decide +kernel
theorem dX6_lots_60 : decode cX6_lots 60 = .ok (.i2l, 1) := by decide +kernel
theorem dX6_lots_61 : decode cX6_lots 61 = .ok (.lstore_n 3, 1) := by decide +kernel
theorem dX6_lots_62 : decode cX6_lots 62 = .ok (.iconst 0, 1) := by decide +kernel
theorem dX6_lots_63 : decode cX6_lots 63 = .ok (.istore 5, 2) := by decide +kernel
theorem dX6_lots_65 : decode cX6_lots 65 = .ok (.iconst 0, 1) := by decide +kernel
theorem dX6_lots_66 : decode cX6_lots 66 = .ok (.istore 6, 2) := by decide +kernel
theorem dX6_lots_68 : decode cX6_lots 68 = .ok (.iload 6, 2) := by decide +kernel
theorem dX6_lots_70 : decode cX6_lots 70 = .ok (.iload_n 1, 1) := by decide +kernel
theorem dX6_lots_71 : decode cX6_lots 71 = .ok (.if_icmp .ge 75, 3) := by decide +kernel
theorem dX6_lots_74 : decode cX6_lots 74 = .ok (.lload_n 3, 1) := by decide +kernel
theorem dX6_lots_75 : decode cX6_lots 75 = .ok (.ldc2_w 288, 3) := by decide +kernel
theorem dX6_lots_78 : decode cX6_lots 78 = .ok (.lmul, 1) := by decide +kernel
theorem dX6_lots_79 : decode cX6_lots 79 = .ok (.ldc2_w 286, 3) := by decide +kernel
theorem dX6_lots_82 : decode cX6_lots 82 = .ok (.lrem, 1) := by decide +kernel
theorem dX6_lots_83 : decode cX6_lots 83 = .ok (.lstore_n 3, 1) := by decide +kernel
theorem dX6_lots_84 : decode cX6_lots 84 = .ok (.lload_n 3, 1) := by decide +kernel
theorem dX6_lots_85 : decode cX6_lots 85 = .ok (.ldc2_w 290, 3) := by decide +kernel
theorem dX6_lots_88 : decode cX6_lots 88 = .ok (.ldiv, 1) := by decide +kernel
theorem dX6_lots_89 : decode cX6_lots 89 = .ok (.l2i, 1) := by decide +kernel
theorem dX6_lots_90 : decode cX6_lots 90 = .ok (.aload_n 0, 1) := by decide +kernel
theorem dX6_lots_91 : decode cX6_lots 91 = .ok (.getfield 33, 3) := by decide +kernel
theorem dX6_lots_94 : decode cX6_lots 94 = .ok (.invokevirtual 292, 3) := by decide +kernel
theorem dX6_lots_97 : decode cX6_lots 97 = .ok (.iconst 1, 1) := by decide +kernel
theorem dX6_lots_98 : decode cX6_lots 98 = .ok (.isub, 1) := by decide +kernel
theorem dX6_lots_99 : decode cX6_lots 99 = .ok (.iand, 1) := by decide +kernel
theorem dX6_lots_100 : decode cX6_lots 100 = .ok (.istore 7, 2) := by decide +kernel
theorem dX6_lots_102 : decode cX6_lots 102 = .ok (.aload_n 0, 1) := by decide +kernel
theorem dX6_lots_103 : decode cX6_lots 103 = .ok (.getfield 33, 3) := by decide +kernel
theorem dX6_lots_106 : decode cX6_lots 106 = .ok (.iload 7, 2) := by decide +kernel
theorem dX6_lots_108 : decode cX6_lots 108 = .ok (.invokevirtual 165, 3) := by decide +kernel
theorem dX6_lots_111 : decode cX6_lots 111 = .ok (.ifCond .eq 20, 3) := by decide +kernel
theorem dX6_lots_114 : decode cX6_lots 114 = .ok (.iload 5, 2) := by decide +kernel
theorem dX6_lots_116 : decode cX6_lots 116 = .ok (.aload_n 0, 1) := by decide +kernel
theorem dX6_lots_117 : decode cX6_lots 117 = .ok (.getfield 33, 3) := by decide +kernel
theorem dX6_lots_120 : decode cX6_lots 120 = .ok (.iload 7, 2) := by decide +kernel
theorem dX6_lots_122 : decode cX6_lots 122 = .ok (.invokestatic 295, 3) := by decide +kernel
theorem dX6_lots_125 : decode cX6_lots 125 = .ok (.invokevirtual 178, 3) := by decide +kernel
theorem dX6_lots_128 : decode cX6_lots 128 = .ok (.iadd, 1) := by decide +kernel
theorem dX6_lots_129 : decode cX6_lots 129 = .ok (.istore 5, 2) := by decide +kernel
theorem dX6_lots_131 : decode cX6_lots 131 = .ok (.aload_n 0, 1) := by decide +kernel
theorem dX6_lots_132 : decode cX6_lots 132 = .ok (.getfield 33, 3) := by decide +kernel
theorem dX6_lots_135 : decode cX6_lots 135 = .ok (.iconst 2, 1) := by decide +kernel
theorem dX6_lots_136 : decode cX6_lots 136 = .ok (.invokevirtual 178, 3) := by decide +kernel
theorem dX6_lots_139 : decode cX6_lots 139 = .ok (.pop, 1) := by decide +kernel
theorem dX6_lots_140 : decode cX6_lots 140 = .ok (.iinc 6 1, 3) := by decide +kernel
theorem dX6_lots_143 : decode cX6_lots 143 = .ok (.goto (-75), 3) := by decide +kernel
theorem dX6_lots_146 : decode cX6_lots 146 = .ok (.iload 5, 2) := by decide +kernel
theorem dX6_lots_148 : decode cX6_lots 148 = .ok (.ireturn, 1) := by decide +kernel
theorem dX6_asked_0 : decode cX6_asked 0 = .ok (.aload_n 0, 1) := by decide +kernel
theorem dX6_asked_1 : decode cX6_asked 1 = .ok (.getfield 60, 3) := by decide +kernel
theorem dX6_asked_4 : decode cX6_asked 4 = .ok (.ireturn, 1) := by decide +kernel
theorem dX6_upper_0 : decode cX6_upper 0 = .ok (.aload_n 0, 1) := by decide +kernel
theorem dX6_upper_1 : decode cX6_upper 1 = .ok (.getfield 63, 3) := by decide +kernel
theorem dX6_upper_4 : decode cX6_upper 4 = .ok (.lreturn, 1) := by decide +kernel
theorem dX6_lower_0 : decode cX6_lower 0 = .ok (.aload_n 0, 1) := by decide +kernel
theorem dX6_lower_1 : decode cX6_lower 1 = .ok (.getfield 67, 3) := by decide +kernel
theorem dX6_lower_4 : decode cX6_lower 4 = .ok (.lreturn, 1) := by decide +kernel
theorem dX6_count_0 : decode cX6_count 0 = .ok (.iload_n 1, 1) := by decide +kernel
theorem dX6_count_1 : decode cX6_count 1 = .ok (.ifCond .lt 9, 3) := by decide +kernel
theorem dX6_count_4 : decode cX6_count 4 = .ok (.iload_n 1, 1) := by decide +kernel
theorem dX6_count_5 : decode cX6_count 5 = .ok (.bipush 11, 2) := by decide +kernel
theorem dX6_count_7 : decode cX6_count 7 = .ok (.if_icmp .lt 7, 3) := by decide +kernel
theorem dX6_count_10 : decode cX6_count 10 = .ok (.iconst (-1), 1) := by decide +kernel
theorem dX6_count_11 : decode cX6_count 11 = .ok (.goto 8, 3) := by decide +kernel
theorem dX6_count_14 : decode cX6_count 14 = .ok (.aload_n 0, 1) := by decide +kernel
theorem dX6_count_15 : decode cX6_count 15 = .ok (.iload_n 1, 1) := by decide +kernel
theorem dX6_count_16 : decode cX6_count 16 = .ok (.invokevirtual 298, 3) := by decide +kernel
theorem dX6_count_19 : decode cX6_count 19 = .ok (.ireturn, 1) := by decide +kernel
theorem dX6_finding_0 : decode cX6_finding 0 = .ok (.aload_n 0, 1) := by decide +kernel
theorem dX6_finding_1 : decode cX6_finding 1 = .ok (.getfield 56, 3) := by decide +kernel
theorem dX6_finding_4 : decode cX6_finding 4 = .ok (.ireturn, 1) := by decide +kernel
theorem dX6_findings_0 : decode cX6_findings 0 = .ok (.iload_n 1, 1) := by decide +kernel
theorem dX6_findings_1 : decode cX6_findings 1 = .ok (.iconst 1, 1) := by decide +kernel
theorem dX6_findings_2 : decode cX6_findings 2 = .ok (.if_icmp .lt 8, 3) := by decide +kernel
theorem dX6_findings_5 : decode cX6_findings 5 = .ok (.iload_n 1, 1) := by decide +kernel
theorem dX6_findings_6 : decode cX6_findings 6 = .ok (.iconst 5, 1) := by decide +kernel
theorem dX6_findings_7 : decode cX6_findings 7 = .ok (.if_icmp .le 7, 3) := by decide +kernel
theorem dX6_findings_10 : decode cX6_findings 10 = .ok (.iconst (-1), 1) := by decide +kernel
theorem dX6_findings_11 : decode cX6_findings 11 = .ok (.goto 9, 3) := by decide +kernel
theorem dX6_findings_14 : decode cX6_findings 14 = .ok (.aload_n 0, 1) := by decide +kernel
theorem dX6_findings_15 : decode cX6_findings 15 = .ok (.getfield 52, 3) := by decide +kernel
theorem dX6_findings_18 : decode cX6_findings 18 = .ok (.iload_n 1, 1) := by decide +kernel
theorem dX6_findings_19 : decode cX6_findings 19 = .ok (.iaload, 1) := by decide +kernel
theorem dX6_findings_20 : decode cX6_findings 20 = .ok (.ireturn, 1) := by decide +kernel
theorem dX6_digest_0 : decode cX6_digest 0 = .ok (.ldc2_w 301, 3) := by decide +kernel
theorem dX6_digest_3 : decode cX6_digest 3 = .ok (.lstore_n 1, 1) := by decide +kernel
theorem dX6_digest_4 : decode cX6_digest 4 = .ok (.iconst 0, 1) := by decide +kernel
theorem dX6_digest_5 : decode cX6_digest 5 = .ok (.istore_n 3, 1) := by decide +kernel
theorem dX6_digest_6 : decode cX6_digest 6 = .ok (.iload_n 3, 1) := by decide +kernel
theorem dX6_digest_7 : decode cX6_digest 7 = .ok (.bipush 11, 2) := by decide +kernel
theorem dX6_digest_9 : decode cX6_digest 9 = .ok (.if_icmp .ge 22, 3) := by decide +kernel
theorem dX6_digest_12 : decode cX6_digest 12 = .ok (.ldc2_w 303, 3) := by decide +kernel
theorem dX6_digest_15 : decode cX6_digest 15 = .ok (.lload_n 1, 1) := by decide +kernel
theorem dX6_digest_16 : decode cX6_digest 16 = .ok (.lmul, 1) := by decide +kernel
theorem dX6_digest_17 : decode cX6_digest 17 = .ok (.aload_n 0, 1) := by decide +kernel
theorem dX6_digest_18 : decode cX6_digest 18 = .ok (.iload_n 3, 1) := by decide +kernel
theorem dX6_digest_19 : decode cX6_digest 19 = .ok (.invokevirtual 298, 3) := by decide +kernel
theorem dX6_digest_22 : decode cX6_digest 22 = .ok (.i2l, 1) := by decide +kernel
theorem dX6_digest_23 : decode cX6_digest 23 = .ok (.ladd, 1) := by decide +kernel
theorem dX6_digest_24 : decode cX6_digest 24 = .ok (.lstore_n 1, 1) := by decide +kernel
theorem dX6_digest_25 : decode cX6_digest 25 = .ok (.iinc 3 1, 3) := by decide +kernel
theorem dX6_digest_28 : decode cX6_digest 28 = .ok (.goto (-22), 3) := by decide +kernel
theorem dX6_digest_31 : decode cX6_digest 31 = .ok (.iconst 0, 1) := by decide +kernel
theorem dX6_digest_32 : decode cX6_digest 32 = .ok (.istore_n 3, 1) := by decide +kernel
theorem dX6_digest_33 : decode cX6_digest 33 = .ok (.iload_n 3, 1) := by decide +kernel
theorem dX6_digest_34 : decode cX6_digest 34 = .ok (.aload_n 0, 1) := by decide +kernel
theorem dX6_digest_35 : decode cX6_digest 35 = .ok (.getfield 33, 3) := by decide +kernel
theorem dX6_digest_38 : decode cX6_digest 38 = .ok (.invokevirtual 140, 3) := by decide +kernel
theorem dX6_digest_41 : decode cX6_digest 41 = .ok (.if_icmp .ge 43, 3) := by decide +kernel
theorem dX6_digest_44 : decode cX6_digest 44 = .ok (.iconst 0, 1) := by decide +kernel
theorem dX6_digest_45 : decode cX6_digest 45 = .ok (.istore 4, 2) := by decide +kernel
theorem dX6_digest_47 : decode cX6_digest 47 = .ok (.iload 4, 2) := by decide +kernel
theorem dX6_digest_49 : decode cX6_digest 49 = .ok (.bipush 7, 2) := by decide +kernel
theorem dX6_digest_51 : decode cX6_digest 51 = .ok (.if_icmp .ge 27, 3) := by decide +kernel
theorem dX6_digest_54 : decode cX6_digest 54 = .ok (.ldc2_w 303, 3) := by decide +kernel
theorem dX6_digest_57 : decode cX6_digest 57 = .ok (.lload_n 1, 1) := by decide +kernel
theorem dX6_digest_58 : decode cX6_digest 58 = .ok (.lmul, 1) := by decide +kernel
theorem dX6_digest_59 : decode cX6_digest 59 = .ok (.aload_n 0, 1) := by decide +kernel
theorem dX6_digest_60 : decode cX6_digest 60 = .ok (.getfield 33, 3) := by decide +kernel
theorem dX6_digest_63 : decode cX6_digest 63 = .ok (.iload_n 3, 1) := by decide +kernel
theorem dX6_digest_64 : decode cX6_digest 64 = .ok (.iload 4, 2) := by decide +kernel
theorem dX6_digest_66 : decode cX6_digest 66 = .ok (.invokevirtual 147, 3) := by decide +kernel
theorem dX6_digest_69 : decode cX6_digest 69 = .ok (.i2l, 1) := by decide +kernel
theorem dX6_digest_70 : decode cX6_digest 70 = .ok (.ladd, 1) := by decide +kernel
theorem dX6_digest_71 : decode cX6_digest 71 = .ok (.lstore_n 1, 1) := by decide +kernel
theorem dX6_digest_72 : decode cX6_digest 72 = .ok (.iinc 4 1, 3) := by decide +kernel
theorem dX6_digest_75 : decode cX6_digest 75 = .ok (.goto (-28), 3) := by decide +kernel
theorem dX6_digest_78 : decode cX6_digest 78 = .ok (.iinc 3 1, 3) := by decide +kernel
theorem dX6_digest_81 : decode cX6_digest 81 = .ok (.goto (-48), 3) := by decide +kernel
theorem dX6_digest_84 : decode cX6_digest 84 = .ok (.iconst 0, 1) := by decide +kernel
theorem dX6_digest_85 : decode cX6_digest 85 = .ok (.istore_n 3, 1) := by decide +kernel
theorem dX6_digest_86 : decode cX6_digest 86 = .ok (.iload_n 3, 1) := by decide +kernel
theorem dX6_digest_87 : decode cX6_digest 87 = .ok (.iconst 3, 1) := by decide +kernel
theorem dX6_digest_88 : decode cX6_digest 88 = .ok (.if_icmp .ge 26, 3) := by decide +kernel
theorem dX6_digest_91 : decode cX6_digest 91 = .ok (.ldc2_w 303, 3) := by decide +kernel
theorem dX6_digest_94 : decode cX6_digest 94 = .ok (.lload_n 1, 1) := by decide +kernel
theorem dX6_digest_95 : decode cX6_digest 95 = .ok (.lmul, 1) := by decide +kernel
theorem dX6_digest_96 : decode cX6_digest 96 = .ok (.aload_n 0, 1) := by decide +kernel
theorem dX6_digest_97 : decode cX6_digest 97 = .ok (.getfield 48, 3) := by decide +kernel
theorem dX6_digest_100 : decode cX6_digest 100 = .ok (.iload_n 3, 1) := by decide +kernel
theorem dX6_digest_101 : decode cX6_digest 101 = .ok (.aaload, 1) := by decide +kernel
theorem dX6_digest_102 : decode cX6_digest 102 = .ok (.getfield 137, 3) := by decide +kernel
theorem dX6_digest_105 : decode cX6_digest 105 = .ok (.i2l, 1) := by decide +kernel
theorem dX6_digest_106 : decode cX6_digest 106 = .ok (.ladd, 1) := by decide +kernel
theorem dX6_digest_107 : decode cX6_digest 107 = .ok (.lstore_n 1, 1) := by decide +kernel
theorem dX6_digest_108 : decode cX6_digest 108 = .ok (.iinc 3 1, 3) := by decide +kernel
theorem dX6_digest_111 : decode cX6_digest 111 = .ok (.goto (-25), 3) := by decide +kernel
theorem dX6_digest_114 : decode cX6_digest 114 = .ok (.aload_n 0, 1) := by decide +kernel
theorem dX6_digest_115 : decode cX6_digest 115 = .ok (.getfield 18, 3) := by decide +kernel
theorem dX6_digest_118 : decode cX6_digest 118 = .ok (.aload_n 0, 1) := by decide +kernel
theorem dX6_digest_119 : decode cX6_digest 119 = .ok (.getfield 14, 3) := by decide +kernel
theorem dX6_digest_122 : decode cX6_digest 122 = .ok (.lload_n 1, 1) := by decide +kernel
theorem dX6_digest_123 : decode cX6_digest 123 = .ok (.invokevirtual 305, 3) := by decide +kernel
theorem dX6_digest_126 : decode cX6_digest 126 = .ok (.invokevirtual 305, 3) := by decide +kernel
theorem dX6_digest_129 : decode cX6_digest 129 = .ok (.lreturn, 1) := by decide +kernel
theorem dX6_refuse_0 : decode cX6_refuse 0 = .ok (.aload_n 0, 1) := by decide +kernel
theorem dX6_refuse_1 : decode cX6_refuse 1 = .ok (.iload_n 1, 1) := by decide +kernel
theorem dX6_refuse_2 : decode cX6_refuse 2 = .ok (.putfield 56, 3) := by decide +kernel
theorem dX6_refuse_5 : decode cX6_refuse 5 = .ok (.aload_n 0, 1) := by decide +kernel
theorem dX6_refuse_6 : decode cX6_refuse 6 = .ok (.getfield 52, 3) := by decide +kernel
theorem dX6_refuse_9 : decode cX6_refuse 9 = .ok (.iload_n 1, 1) := by decide +kernel
theorem dX6_refuse_10 : decode cX6_refuse 10 = .ok (.dup2, 1) := by decide +kernel
theorem dX6_refuse_11 : decode cX6_refuse 11 = .ok (.iaload, 1) := by decide +kernel
theorem dX6_refuse_12 : decode cX6_refuse 12 = .ok (.iconst 1, 1) := by decide +kernel
theorem dX6_refuse_13 : decode cX6_refuse 13 = .ok (.iadd, 1) := by decide +kernel
theorem dX6_refuse_14 : decode cX6_refuse 14 = .ok (.iastore, 1) := by decide +kernel
theorem dX6_refuse_15 : decode cX6_refuse 15 = .ok (.bipush (-3), 2) := by decide +kernel
theorem dX6_refuse_17 : decode cX6_refuse 17 = .ok (.ireturn, 1) := by decide +kernel
theorem dX6_refusalOf_0 : decode cX6_refusalOf 0 = .ok (.aload_n 1, 1) := by decide +kernel
theorem dX6_refusalOf_1 : decode cX6_refusalOf 1 = .ok (.iload_n 2, 1) := by decide +kernel
theorem dX6_refusalOf_2 : decode cX6_refusalOf 2 = .ok (.invokevirtual 96, 3) := by decide +kernel
theorem dX6_refusalOf_5 : decode cX6_refusalOf 5 = .ok (.ifCond .ne 5, 3) := by decide +kernel
theorem dX6_refusalOf_8 : decode cX6_refusalOf 8 = .ok (.iconst (-1), 1) := by decide +kernel
theorem dX6_refusalOf_9 : decode cX6_refusalOf 9 = .ok (.ireturn, 1) := by decide +kernel
theorem dX6_refusalOf_10 : decode cX6_refusalOf 10 = .ok (.aload_n 1, 1) := by decide +kernel
theorem dX6_refusalOf_11 : decode cX6_refusalOf 11 = .ok (.iload_n 2, 1) := by decide +kernel
theorem dX6_refusalOf_12 : decode cX6_refusalOf 12 = .ok (.invokevirtual 104, 3) := by decide +kernel
theorem dX6_refusalOf_15 : decode cX6_refusalOf 15 = .ok (.ifCond .eq 7, 3) := by decide +kernel
theorem dX6_refusalOf_18 : decode cX6_refusalOf 18 = .ok (.iconst 0, 1) := by decide +kernel
theorem dX6_refusalOf_19 : decode cX6_refusalOf 19 = .ok (.goto 8, 3) := by decide +kernel
theorem dX6_refusalOf_22 : decode cX6_refusalOf 22 = .ok (.aload_n 0, 1) := by decide +kernel
theorem dX6_refusalOf_23 : decode cX6_refusalOf 23 = .ok (.iconst 1, 1) := by decide +kernel
theorem dX6_refusalOf_24 : decode cX6_refusalOf 24 = .ok (.invokevirtual 100, 3) := by decide +kernel
theorem dX6_refusalOf_27 : decode cX6_refusalOf 27 = .ok (.ireturn, 1) := by decide +kernel
theorem dX6_refusalOfPlace_0 : decode cX6_refusalOfPlace 0 = .ok (.aload_n 0, 1) := by decide +kernel
theorem dX6_refusalOfPlace_1 : decode cX6_refusalOfPlace 1 = .ok (.aload_n 1, 1) := by decide +kernel
theorem dX6_refusalOfPlace_2 : decode cX6_refusalOfPlace 2 = .ok (.iload_n 2, 1) := by decide +kernel
theorem dX6_refusalOfPlace_3 : decode cX6_refusalOfPlace 3 = .ok (.invokevirtual 89, 3) := by decide +kernel
theorem dX6_refusalOfPlace_6 : decode cX6_refusalOfPlace 6 = .ok (.istore 4, 2) := by decide +kernel
theorem dX6_refusalOfPlace_8 : decode cX6_refusalOfPlace 8 = .ok (.iload 4, 2) := by decide +kernel
theorem dX6_refusalOfPlace_10 : decode cX6_refusalOfPlace 10 = .ok (.ifCond .eq 6, 3) := by decide +kernel
theorem dX6_refusalOfPlace_13 : decode cX6_refusalOfPlace 13 = .ok (.iload 4, 2) := by decide +kernel
theorem dX6_refusalOfPlace_15 : decode cX6_refusalOfPlace 15 = .ok (.ireturn, 1) := by decide +kernel
theorem dX6_refusalOfPlace_16 : decode cX6_refusalOfPlace 16 = .ok (.aload_n 1, 1) := by decide +kernel
theorem dX6_refusalOfPlace_17 : decode cX6_refusalOfPlace 17 = .ok (.iload_n 2, 1) := by decide +kernel
theorem dX6_refusalOfPlace_18 : decode cX6_refusalOfPlace 18 = .ok (.iload_n 3, 1) := by decide +kernel
theorem dX6_refusalOfPlace_19 : decode cX6_refusalOfPlace 19 = .ok (.invokevirtual 309, 3) := by decide +kernel
theorem dX6_refusalOfPlace_22 : decode cX6_refusalOfPlace 22 = .ok (.ifCond .eq 7, 3) := by decide +kernel
theorem dX6_refusalOfPlace_25 : decode cX6_refusalOfPlace 25 = .ok (.iconst 0, 1) := by decide +kernel
theorem dX6_refusalOfPlace_26 : decode cX6_refusalOfPlace 26 = .ok (.goto 8, 3) := by decide +kernel
theorem dX6_refusalOfPlace_29 : decode cX6_refusalOfPlace 29 = .ok (.aload_n 0, 1) := by decide +kernel
theorem dX6_refusalOfPlace_30 : decode cX6_refusalOfPlace 30 = .ok (.iconst 2, 1) := by decide +kernel
theorem dX6_refusalOfPlace_31 : decode cX6_refusalOfPlace 31 = .ok (.invokevirtual 100, 3) := by decide +kernel
theorem dX6_refusalOfPlace_34 : decode cX6_refusalOfPlace 34 = .ok (.ireturn, 1) := by decide +kernel
theorem dX6_refusalOfPairs_0 : decode cX6_refusalOfPairs 0 = .ok (.aload_n 0, 1) := by decide +kernel
theorem dX6_refusalOfPairs_1 : decode cX6_refusalOfPairs 1 = .ok (.aload_n 0, 1) := by decide +kernel
theorem dX6_refusalOfPairs_2 : decode cX6_refusalOfPairs 2 = .ok (.getfield 14, 3) := by decide +kernel
theorem dX6_refusalOfPairs_5 : decode cX6_refusalOfPairs 5 = .ok (.iload_n 1, 1) := by decide +kernel
theorem dX6_refusalOfPairs_6 : decode cX6_refusalOfPairs 6 = .ok (.invokevirtual 89, 3) := by decide +kernel
theorem dX6_refusalOfPairs_9 : decode cX6_refusalOfPairs 9 = .ok (.istore_n 2, 1) := by decide +kernel
theorem dX6_refusalOfPairs_10 : decode cX6_refusalOfPairs 10 = .ok (.iload_n 2, 1) := by decide +kernel
theorem dX6_refusalOfPairs_11 : decode cX6_refusalOfPairs 11 = .ok (.ifCond .eq 5, 3) := by decide +kernel
theorem dX6_refusalOfPairs_14 : decode cX6_refusalOfPairs 14 = .ok (.iload_n 2, 1) := by decide +kernel
theorem dX6_refusalOfPairs_15 : decode cX6_refusalOfPairs 15 = .ok (.ireturn, 1) := by decide +kernel
theorem dX6_refusalOfPairs_16 : decode cX6_refusalOfPairs 16 = .ok (.aload_n 0, 1) := by decide +kernel
theorem dX6_refusalOfPairs_17 : decode cX6_refusalOfPairs 17 = .ok (.getfield 14, 3) := by decide +kernel
theorem dX6_refusalOfPairs_20 : decode cX6_refusalOfPairs 20 = .ok (.iload_n 1, 1) := by decide +kernel
theorem dX6_refusalOfPairs_21 : decode cX6_refusalOfPairs 21 = .ok (.invokevirtual 115, 3) := by decide +kernel
theorem dX6_refusalOfPairs_24 : decode cX6_refusalOfPairs 24 = .ok (.istore_n 3, 1) := by decide +kernel
theorem dX6_refusalOfPairs_25 : decode cX6_refusalOfPairs 25 = .ok (.iload_n 3, 1) := by decide +kernel
theorem dX6_refusalOfPairs_26 : decode cX6_refusalOfPairs 26 = .ok (.iconst 2, 1) := by decide +kernel
theorem dX6_refusalOfPairs_27 : decode cX6_refusalOfPairs 27 = .ok (.irem, 1) := by decide +kernel
theorem dX6_refusalOfPairs_28 : decode cX6_refusalOfPairs 28 = .ok (.ifCond .ne 9, 3) := by decide +kernel
theorem dX6_refusalOfPairs_31 : decode cX6_refusalOfPairs 31 = .ok (.iload_n 3, 1) := by decide +kernel
theorem dX6_refusalOfPairs_32 : decode cX6_refusalOfPairs 32 = .ok (.bipush 16, 2) := by decide +kernel
theorem dX6_refusalOfPairs_34 : decode cX6_refusalOfPairs 34 = .ok (.if_icmp .le 9, 3) := by decide +kernel
theorem dX6_refusalOfPairs_37 : decode cX6_refusalOfPairs 37 = .ok (.aload_n 0, 1) := by decide +kernel
theorem dX6_refusalOfPairs_38 : decode cX6_refusalOfPairs 38 = .ok (.iconst 5, 1) := by decide +kernel
theorem dX6_refusalOfPairs_39 : decode cX6_refusalOfPairs 39 = .ok (.invokevirtual 100, 3) := by decide +kernel
theorem dX6_refusalOfPairs_42 : decode cX6_refusalOfPairs 42 = .ok (.ireturn, 1) := by decide +kernel
theorem dX6_refusalOfPairs_43 : decode cX6_refusalOfPairs 43 = .ok (.iconst 0, 1) := by decide +kernel
theorem dX6_refusalOfPairs_44 : decode cX6_refusalOfPairs 44 = .ok (.istore 4, 2) := by decide +kernel
theorem dX6_refusalOfPairs_46 : decode cX6_refusalOfPairs 46 = .ok (.iload 4, 2) := by decide +kernel
theorem dX6_refusalOfPairs_48 : decode cX6_refusalOfPairs 48 = .ok (.iconst 1, 1) := by decide +kernel
theorem dX6_refusalOfPairs_49 : decode cX6_refusalOfPairs 49 = .ok (.iadd, 1) := by decide +kernel
theorem dX6_refusalOfPairs_50 : decode cX6_refusalOfPairs 50 = .ok (.iload_n 3, 1) := by decide +kernel
theorem dX6_refusalOfPairs_51 : decode cX6_refusalOfPairs 51 = .ok (.if_icmp .ge 60, 3) := by decide +kernel
theorem dX6_refusalOfPairs_54 : decode cX6_refusalOfPairs 54 = .ok (.aload_n 0, 1) := by decide +kernel
theorem dX6_refusalOfPairs_55 : decode cX6_refusalOfPairs 55 = .ok (.getfield 14, 3) := by decide +kernel
theorem dX6_refusalOfPairs_58 : decode cX6_refusalOfPairs 58 = .ok (.iload_n 1, 1) := by decide +kernel
theorem dX6_refusalOfPairs_59 : decode cX6_refusalOfPairs 59 = .ok (.iload 4, 2) := by decide +kernel
theorem dX6_refusalOfPairs_61 : decode cX6_refusalOfPairs 61 = .ok (.iconst 1, 1) := by decide +kernel
theorem dX6_refusalOfPairs_62 : decode cX6_refusalOfPairs 62 = .ok (.iadd, 1) := by decide +kernel
theorem dX6_refusalOfPairs_63 : decode cX6_refusalOfPairs 63 = .ok (.invokevirtual 81, 3) := by decide +kernel
theorem dX6_refusalOfPairs_66 : decode cX6_refusalOfPairs 66 = .ok (.istore 5, 2) := by decide +kernel
theorem dX6_refusalOfPairs_68 : decode cX6_refusalOfPairs 68 = .ok (.aload_n 0, 1) := by decide +kernel
theorem dX6_refusalOfPairs_69 : decode cX6_refusalOfPairs 69 = .ok (.getfield 33, 3) := by decide +kernel
theorem dX6_refusalOfPairs_72 : decode cX6_refusalOfPairs 72 = .ok (.aload_n 0, 1) := by decide +kernel
theorem dX6_refusalOfPairs_73 : decode cX6_refusalOfPairs 73 = .ok (.getfield 14, 3) := by decide +kernel
theorem dX6_refusalOfPairs_76 : decode cX6_refusalOfPairs 76 = .ok (.iload_n 1, 1) := by decide +kernel
theorem dX6_refusalOfPairs_77 : decode cX6_refusalOfPairs 77 = .ok (.iload 4, 2) := by decide +kernel
theorem dX6_refusalOfPairs_79 : decode cX6_refusalOfPairs 79 = .ok (.invokevirtual 81, 3) := by decide +kernel
theorem dX6_refusalOfPairs_82 : decode cX6_refusalOfPairs 82 = .ok (.invokevirtual 197, 3) := by decide +kernel
theorem dX6_refusalOfPairs_85 : decode cX6_refusalOfPairs 85 = .ok (.ifCond .eq 14, 3) := by decide +kernel
theorem dX6_refusalOfPairs_88 : decode cX6_refusalOfPairs 88 = .ok (.iload 5, 2) := by decide +kernel
theorem dX6_refusalOfPairs_90 : decode cX6_refusalOfPairs 90 = .ok (.ifCond .lt 9, 3) := by decide +kernel
theorem dX6_refusalOfPairs_93 : decode cX6_refusalOfPairs 93 = .ok (.iload 5, 2) := by decide +kernel
theorem dX6_refusalOfPairs_95 : decode cX6_refusalOfPairs 95 = .ok (.iconst 1, 1) := by decide +kernel
theorem dX6_refusalOfPairs_96 : decode cX6_refusalOfPairs 96 = .ok (.if_icmp .le 9, 3) := by decide +kernel
theorem dX6_refusalOfPairs_99 : decode cX6_refusalOfPairs 99 = .ok (.aload_n 0, 1) := by decide +kernel
theorem dX6_refusalOfPairs_100 : decode cX6_refusalOfPairs 100 = .ok (.iconst 3, 1) := by decide +kernel
theorem dX6_refusalOfPairs_101 : decode cX6_refusalOfPairs 101 = .ok (.invokevirtual 100, 3) := by decide +kernel
theorem dX6_refusalOfPairs_104 : decode cX6_refusalOfPairs 104 = .ok (.ireturn, 1) := by decide +kernel
theorem dX6_refusalOfPairs_105 : decode cX6_refusalOfPairs 105 = .ok (.iinc 4 2, 3) := by decide +kernel
theorem dX6_refusalOfPairs_108 : decode cX6_refusalOfPairs 108 = .ok (.goto (-62), 3) := by decide +kernel
theorem dX6_refusalOfPairs_111 : decode cX6_refusalOfPairs 111 = .ok (.iconst 0, 1) := by decide +kernel
theorem dX6_refusalOfPairs_112 : decode cX6_refusalOfPairs 112 = .ok (.ireturn, 1) := by decide +kernel
theorem dX6_refusalOfChance_0 : decode cX6_refusalOfChance 0 = .ok (.iload_n 1, 1) := by decide +kernel
theorem dX6_refusalOfChance_1 : decode cX6_refusalOfChance 1 = .ok (.ifCond .lt 9, 3) := by decide +kernel
theorem dX6_refusalOfChance_4 : decode cX6_refusalOfChance 4 = .ok (.iload_n 1, 1) := by decide +kernel
theorem dX6_refusalOfChance_5 : decode cX6_refusalOfChance 5 = .ok (.bipush 12, 2) := by decide +kernel
theorem dX6_refusalOfChance_7 : decode cX6_refusalOfChance 7 = .ok (.if_icmp .le 5, 3) := by decide +kernel
theorem dX6_refusalOfChance_10 : decode cX6_refusalOfChance 10 = .ok (.iconst (-1), 1) := by decide +kernel
theorem dX6_refusalOfChance_11 : decode cX6_refusalOfChance 11 = .ok (.ireturn, 1) := by decide +kernel
theorem dX6_refusalOfChance_12 : decode cX6_refusalOfChance 12 = .ok (.aload_n 0, 1) := by decide +kernel
theorem dX6_refusalOfChance_13 : decode cX6_refusalOfChance 13 = .ok (.getfield 33, 3) := by decide +kernel
theorem dX6_refusalOfChance_16 : decode cX6_refusalOfChance 16 = .ok (.invokevirtual 140, 3) := by decide +kernel
theorem dX6_refusalOfChance_19 : decode cX6_refusalOfChance 19 = .ok (.ifCond .ne 8, 3) := by decide +kernel
theorem dX6_refusalOfChance_22 : decode cX6_refusalOfChance 22 = .ok (.bipush (-4), 2) := by decide +kernel
theorem dX6_refusalOfChance_24 : decode cX6_refusalOfChance 24 = .ok (.goto 4, 3) := by decide +kernel
theorem dX6_refusalOfChance_27 : decode cX6_refusalOfChance 27 = .ok (.iconst 0, 1) := by decide +kernel
theorem dX6_refusalOfChance_28 : decode cX6_refusalOfChance 28 = .ok (.ireturn, 1) := by decide +kernel
theorem dX6_makeOn_0 : decode cX6_makeOn 0 = .ok (.aload_n 1, 1) := by decide +kernel
theorem dX6_makeOn_1 : decode cX6_makeOn 1 = .ok (.iload_n 2, 1) := by decide +kernel
theorem dX6_makeOn_2 : decode cX6_makeOn 2 = .ok (.invokevirtual 96, 3) := by decide +kernel
theorem dX6_makeOn_5 : decode cX6_makeOn 5 = .ok (.ifCond .eq 11, 3) := by decide +kernel
theorem dX6_makeOn_8 : decode cX6_makeOn 8 = .ok (.iload_n 3, 1) := by decide +kernel
theorem dX6_makeOn_9 : decode cX6_makeOn 9 = .ok (.aload_n 1, 1) := by decide +kernel
theorem dX6_makeOn_10 : decode cX6_makeOn 10 = .ok (.getfield 312, 3) := by decide +kernel
theorem dX6_makeOn_13 : decode cX6_makeOn 13 = .ok (.if_icmp .le 5, 3) := by decide +kernel
theorem dX6_makeOn_16 : decode cX6_makeOn 16 = .ok (.iconst (-1), 1) := by decide +kernel
theorem dX6_makeOn_17 : decode cX6_makeOn 17 = .ok (.ireturn, 1) := by decide +kernel
theorem dX6_makeOn_18 : decode cX6_makeOn 18 = .ok (.iload_n 3, 1) := by decide +kernel
theorem dX6_makeOn_19 : decode cX6_makeOn 19 = .ok (.ifCond .ge 9, 3) := by decide +kernel
theorem dX6_makeOn_22 : decode cX6_makeOn 22 = .ok (.aload_n 0, 1) := by decide +kernel
theorem dX6_makeOn_23 : decode cX6_makeOn 23 = .ok (.iconst 5, 1) := by decide +kernel
theorem dX6_makeOn_24 : decode cX6_makeOn 24 = .ok (.invokevirtual 100, 3) := by decide +kernel
theorem dX6_makeOn_27 : decode cX6_makeOn 27 = .ok (.ireturn, 1) := by decide +kernel
theorem dX6_makeOn_28 : decode cX6_makeOn 28 = .ok (.aload_n 1, 1) := by decide +kernel
theorem dX6_makeOn_29 : decode cX6_makeOn 29 = .ok (.iload_n 2, 1) := by decide +kernel
theorem dX6_makeOn_30 : decode cX6_makeOn 30 = .ok (.iload_n 3, 1) := by decide +kernel
theorem dX6_makeOn_31 : decode cX6_makeOn 31 = .ok (.iload 4, 2) := by decide +kernel
theorem dX6_makeOn_33 : decode cX6_makeOn 33 = .ok (.invokevirtual 237, 3) := by decide +kernel
theorem dX6_makeOn_36 : decode cX6_makeOn 36 = .ok (.iload_n 3, 1) := by decide +kernel
theorem dX6_makeOn_37 : decode cX6_makeOn 37 = .ok (.ireturn, 1) := by decide +kernel
theorem dX6_tell_0 : decode cX6_tell 0 = .ok (.lload_n 1, 1) := by decide +kernel
theorem dX6_tell_1 : decode cX6_tell 1 = .ok (.lload_n 3, 1) := by decide +kernel
theorem dX6_tell_2 : decode cX6_tell 2 = .ok (.invokestatic 315, 3) := by decide +kernel
theorem dX6_tell_5 : decode cX6_tell 5 = .ok (.lstore 5, 2) := by decide +kernel
theorem dX6_tell_7 : decode cX6_tell 7 = .ok (.aload_n 0, 1) := by decide +kernel
theorem dX6_tell_8 : decode cX6_tell 8 = .ok (.lload 5, 2) := by decide +kernel
theorem dX6_tell_10 : decode cX6_tell 10 = .ok (.lconst 0, 1) := by decide +kernel
theorem dX6_tell_11 : decode cX6_tell 11 = .ok (.lcmp, 1) := by decide +kernel
theorem dX6_tell_12 : decode cX6_tell 12 = .ok (.ifCond .le 10, 3) := by decide +kernel
theorem dX6_tell_15 : decode cX6_tell 15 = .ok (.lload_n 1, 1) := by decide +kernel
theorem dX6_tell_16 : decode cX6_tell 16 = .ok (.lload 5, 2) := by decide +kernel
theorem dX6_tell_18 : decode cX6_tell 18 = .ok (.ldiv, 1) := by decide +kernel
theorem dX6_tell_19 : decode cX6_tell 19 = .ok (.goto 4, 3) := by decide +kernel
theorem dX6_tell_22 : decode cX6_tell 22 = .ok (.lload_n 1, 1) := by decide +kernel
theorem dX6_tell_23 : decode cX6_tell 23 = .ok (.putfield 63, 3) := by decide +kernel
theorem dX6_tell_26 : decode cX6_tell 26 = .ok (.aload_n 0, 1) := by decide +kernel
theorem dX6_tell_27 : decode cX6_tell 27 = .ok (.lload 5, 2) := by decide +kernel
theorem dX6_tell_29 : decode cX6_tell 29 = .ok (.lconst 0, 1) := by decide +kernel
theorem dX6_tell_30 : decode cX6_tell 30 = .ok (.lcmp, 1) := by decide +kernel
theorem dX6_tell_31 : decode cX6_tell 31 = .ok (.ifCond .le 10, 3) := by decide +kernel
theorem dX6_tell_34 : decode cX6_tell 34 = .ok (.lload_n 3, 1) := by decide +kernel
theorem dX6_tell_35 : decode cX6_tell 35 = .ok (.lload 5, 2) := by decide +kernel
theorem dX6_tell_37 : decode cX6_tell 37 = .ok (.ldiv, 1) := by decide +kernel
theorem dX6_tell_38 : decode cX6_tell 38 = .ok (.goto 4, 3) := by decide +kernel
theorem dX6_tell_41 : decode cX6_tell 41 = .ok (.lload_n 3, 1) := by decide +kernel
theorem dX6_tell_42 : decode cX6_tell 42 = .ok (.putfield 67, 3) := by decide +kernel
theorem dX6_tell_45 : decode cX6_tell 45 = .ok (.return_, 1) := by decide +kernel
theorem dX6_countOf_0 : decode cX6_countOf 0 = .ok (.iload_n 1, 1) := by decide +kernel
theorem dX6_countOf_1 : decode cX6_countOf 1 = .ok (.tableswitch 152 0 9 #[55, 63, 71, 82, 90, 101, 112, 124, 136, 144], 55) := by decide +kernel
theorem dX6_countOf_56 : decode cX6_countOf 56 = .ok (.aload_n 0, 1) := by decide +kernel
theorem dX6_countOf_57 : decode cX6_countOf 57 = .ok (.getfield 33, 3) := by decide +kernel
theorem dX6_countOf_60 : decode cX6_countOf 60 = .ok (.invokevirtual 140, 3) := by decide +kernel
theorem dX6_countOf_63 : decode cX6_countOf 63 = .ok (.ireturn, 1) := by decide +kernel
theorem dX6_countOf_64 : decode cX6_countOf 64 = .ok (.aload_n 0, 1) := by decide +kernel
theorem dX6_countOf_65 : decode cX6_countOf 65 = .ok (.getfield 33, 3) := by decide +kernel
theorem dX6_countOf_68 : decode cX6_countOf 68 = .ok (.getfield 319, 3) := by decide +kernel
theorem dX6_countOf_71 : decode cX6_countOf 71 = .ok (.ireturn, 1) := by decide +kernel
theorem dX6_countOf_72 : decode cX6_countOf 72 = .ok (.aload_n 0, 1) := by decide +kernel
theorem dX6_countOf_73 : decode cX6_countOf 73 = .ok (.getfield 33, 3) := by decide +kernel
theorem dX6_countOf_76 : decode cX6_countOf 76 = .ok (.getfield 168, 3) := by decide +kernel
theorem dX6_countOf_79 : decode cX6_countOf 79 = .ok (.getfield 137, 3) := by decide +kernel
theorem dX6_countOf_82 : decode cX6_countOf 82 = .ok (.ireturn, 1) := by decide +kernel
theorem dX6_countOf_83 : decode cX6_countOf 83 = .ok (.aload_n 0, 1) := by decide +kernel
theorem dX6_countOf_84 : decode cX6_countOf 84 = .ok (.getfield 33, 3) := by decide +kernel
theorem dX6_countOf_87 : decode cX6_countOf 87 = .ok (.getfield 187, 3) := by decide +kernel
theorem dX6_countOf_90 : decode cX6_countOf 90 = .ok (.ireturn, 1) := by decide +kernel
theorem dX6_countOf_91 : decode cX6_countOf 91 = .ok (.aload_n 0, 1) := by decide +kernel
theorem dX6_countOf_92 : decode cX6_countOf 92 = .ok (.getfield 33, 3) := by decide +kernel
theorem dX6_countOf_95 : decode cX6_countOf 95 = .ok (.getfield 125, 3) := by decide +kernel
theorem dX6_countOf_98 : decode cX6_countOf 98 = .ok (.getfield 322, 3) := by decide +kernel
theorem dX6_countOf_101 : decode cX6_countOf 101 = .ok (.ireturn, 1) := by decide +kernel
theorem dX6_countOf_102 : decode cX6_countOf 102 = .ok (.aload_n 0, 1) := by decide +kernel
theorem dX6_countOf_103 : decode cX6_countOf 103 = .ok (.getfield 33, 3) := by decide +kernel
theorem dX6_countOf_106 : decode cX6_countOf 106 = .ok (.getfield 125, 3) := by decide +kernel
theorem dX6_countOf_109 : decode cX6_countOf 109 = .ok (.getfield 325, 3) := by decide +kernel
theorem dX6_countOf_112 : decode cX6_countOf 112 = .ok (.ireturn, 1) := by decide +kernel
theorem dX6_countOf_113 : decode cX6_countOf 113 = .ok (.aload_n 0, 1) := by decide +kernel
theorem dX6_countOf_114 : decode cX6_countOf 114 = .ok (.getfield 33, 3) := by decide +kernel
theorem dX6_countOf_117 : decode cX6_countOf 117 = .ok (.getfield 125, 3) := by decide +kernel
theorem dX6_countOf_120 : decode cX6_countOf 120 = .ok (.iconst 1, 1) := by decide +kernel
theorem dX6_countOf_121 : decode cX6_countOf 121 = .ok (.invokevirtual 328, 3) := by decide +kernel
theorem dX6_countOf_124 : decode cX6_countOf 124 = .ok (.ireturn, 1) := by decide +kernel
theorem dX6_countOf_125 : decode cX6_countOf 125 = .ok (.aload_n 0, 1) := by decide +kernel
theorem dX6_countOf_126 : decode cX6_countOf 126 = .ok (.getfield 33, 3) := by decide +kernel
theorem dX6_countOf_129 : decode cX6_countOf 129 = .ok (.getfield 125, 3) := by decide +kernel
theorem dX6_countOf_132 : decode cX6_countOf 132 = .ok (.iconst 3, 1) := by decide +kernel
theorem dX6_countOf_133 : decode cX6_countOf 133 = .ok (.invokevirtual 328, 3) := by decide +kernel
theorem dX6_countOf_136 : decode cX6_countOf 136 = .ok (.ireturn, 1) := by decide +kernel
theorem dX6_countOf_137 : decode cX6_countOf 137 = .ok (.aload_n 0, 1) := by decide +kernel
theorem dX6_countOf_138 : decode cX6_countOf 138 = .ok (.getfield 14, 3) := by decide +kernel
theorem dX6_countOf_141 : decode cX6_countOf 141 = .ok (.invokevirtual 331, 3) := by decide +kernel
theorem dX6_countOf_144 : decode cX6_countOf 144 = .ok (.ireturn, 1) := by decide +kernel
theorem dX6_countOf_145 : decode cX6_countOf 145 = .ok (.aload_n 0, 1) := by decide +kernel
theorem dX6_countOf_146 : decode cX6_countOf 146 = .ok (.getfield 18, 3) := by decide +kernel
theorem dX6_countOf_149 : decode cX6_countOf 149 = .ok (.invokevirtual 331, 3) := by decide +kernel
theorem dX6_countOf_152 : decode cX6_countOf 152 = .ok (.ireturn, 1) := by decide +kernel
theorem dX6_countOf_153 : decode cX6_countOf 153 = .ok (.aload_n 0, 1) := by decide +kernel
theorem dX6_countOf_154 : decode cX6_countOf 154 = .ok (.invokevirtual 334, 3) := by decide +kernel
theorem dX6_countOf_157 : decode cX6_countOf 157 = .ok (.ireturn, 1) := by decide +kernel
theorem dX6_keptWells_0 : decode cX6_keptWells 0 = .ok (.iconst 0, 1) := by decide +kernel
theorem dX6_keptWells_1 : decode cX6_keptWells 1 = .ok (.istore_n 1, 1) := by decide +kernel
theorem dX6_keptWells_2 : decode cX6_keptWells 2 = .ok (.iconst 0, 1) := by decide +kernel
theorem dX6_keptWells_3 : decode cX6_keptWells 3 = .ok (.istore_n 2, 1) := by decide +kernel
theorem dX6_keptWells_4 : decode cX6_keptWells 4 = .ok (.iload_n 2, 1) := by decide +kernel
theorem dX6_keptWells_5 : decode cX6_keptWells 5 = .ok (.iconst 3, 1) := by decide +kernel
theorem dX6_keptWells_6 : decode cX6_keptWells 6 = .ok (.if_icmp .ge 25, 3) := by decide +kernel
theorem dX6_keptWells_9 : decode cX6_keptWells 9 = .ok (.aload_n 0, 1) := by decide +kernel
theorem dX6_keptWells_10 : decode cX6_keptWells 10 = .ok (.getfield 48, 3) := by decide +kernel
theorem dX6_keptWells_13 : decode cX6_keptWells 13 = .ok (.iload_n 2, 1) := by decide +kernel
theorem dX6_keptWells_14 : decode cX6_keptWells 14 = .ok (.aaload, 1) := by decide +kernel
theorem dX6_keptWells_15 : decode cX6_keptWells 15 = .ok (.getfield 137, 3) := by decide +kernel
theorem dX6_keptWells_18 : decode cX6_keptWells 18 = .ok (.iconst (-1), 1) := by decide +kernel
theorem dX6_keptWells_19 : decode cX6_keptWells 19 = .ok (.if_icmp .eq 6, 3) := by decide +kernel
theorem dX6_keptWells_22 : decode cX6_keptWells 22 = .ok (.iinc 1 1, 3) := by decide +kernel
theorem dX6_keptWells_25 : decode cX6_keptWells 25 = .ok (.iinc 2 1, 3) := by decide +kernel
theorem dX6_keptWells_28 : decode cX6_keptWells 28 = .ok (.goto (-24), 3) := by decide +kernel
theorem dX6_keptWells_31 : decode cX6_keptWells 31 = .ok (.iload_n 1, 1) := by decide +kernel
theorem dX6_keptWells_32 : decode cX6_keptWells 32 = .ok (.ireturn, 1) := by decide +kernel
theorem dX6_setInRow_0 : decode cX6_setInRow 0 = .ok (.iconst 0, 1) := by decide +kernel
theorem dX6_setInRow_1 : decode cX6_setInRow 1 = .ok (.istore_n 2, 1) := by decide +kernel
theorem dX6_setInRow_2 : decode cX6_setInRow 2 = .ok (.iconst 0, 1) := by decide +kernel
theorem dX6_setInRow_3 : decode cX6_setInRow 3 = .ok (.istore_n 3, 1) := by decide +kernel
theorem dX6_setInRow_4 : decode cX6_setInRow 4 = .ok (.iload_n 3, 1) := by decide +kernel
theorem dX6_setInRow_5 : decode cX6_setInRow 5 = .ok (.aload_n 0, 1) := by decide +kernel
theorem dX6_setInRow_6 : decode cX6_setInRow 6 = .ok (.getfield 14, 3) := by decide +kernel
theorem dX6_setInRow_9 : decode cX6_setInRow 9 = .ok (.iload_n 1, 1) := by decide +kernel
theorem dX6_setInRow_10 : decode cX6_setInRow 10 = .ok (.invokevirtual 115, 3) := by decide +kernel
theorem dX6_setInRow_13 : decode cX6_setInRow 13 = .ok (.if_icmp .ge 51, 3) := by decide +kernel
theorem dX6_setInRow_16 : decode cX6_setInRow 16 = .ok (.aload_n 0, 1) := by decide +kernel
theorem dX6_setInRow_17 : decode cX6_setInRow 17 = .ok (.getfield 14, 3) := by decide +kernel
theorem dX6_setInRow_20 : decode cX6_setInRow 20 = .ok (.iload_n 1, 1) := by decide +kernel
theorem dX6_setInRow_21 : decode cX6_setInRow 21 = .ok (.iload_n 3, 1) := by decide +kernel
theorem dX6_setInRow_22 : decode cX6_setInRow 22 = .ok (.invokevirtual 81, 3) := by decide +kernel
theorem dX6_setInRow_25 : decode cX6_setInRow 25 = .ok (.istore 4, 2) := by decide +kernel
theorem dX6_setInRow_27 : decode cX6_setInRow 27 = .ok (.aload_n 0, 1) := by decide +kernel
theorem dX6_setInRow_28 : decode cX6_setInRow 28 = .ok (.getfield 33, 3) := by decide +kernel
theorem dX6_setInRow_31 : decode cX6_setInRow 31 = .ok (.iload 4, 2) := by decide +kernel
theorem dX6_setInRow_33 : decode cX6_setInRow 33 = .ok (.invokevirtual 144, 3) := by decide +kernel
theorem dX6_setInRow_36 : decode cX6_setInRow 36 = .ok (.ifCond .eq 12, 3) := by decide +kernel
theorem dX6_setInRow_39 : decode cX6_setInRow 39 = .ok (.iload 4, 2) := by decide +kernel
theorem dX6_setInRow_41 : decode cX6_setInRow 41 = .ok (.iload_n 2, 1) := by decide +kernel
theorem dX6_setInRow_42 : decode cX6_setInRow 42 = .ok (.invokestatic 337, 3) := by decide +kernel
theorem dX6_setInRow_45 : decode cX6_setInRow 45 = .ok (.ifCond .eq 6, 3) := by decide +kernel
theorem dX6_setInRow_48 : decode cX6_setInRow 48 = .ok (.bipush (-9), 2) := by decide +kernel
theorem dX6_setInRow_50 : decode cX6_setInRow 50 = .ok (.ireturn, 1) := by decide +kernel
theorem dX6_setInRow_51 : decode cX6_setInRow 51 = .ok (.iload_n 2, 1) := by decide +kernel
theorem dX6_setInRow_52 : decode cX6_setInRow 52 = .ok (.iconst 1, 1) := by decide +kernel
theorem dX6_setInRow_53 : decode cX6_setInRow 53 = .ok (.iload 4, 2) := by decide +kernel
theorem dX6_setInRow_55 : decode cX6_setInRow 55 = .ok (.ishl, 1) := by decide +kernel
theorem dX6_setInRow_56 : decode cX6_setInRow 56 = .ok (.ior, 1) := by decide +kernel
theorem dX6_setInRow_57 : decode cX6_setInRow 57 = .ok (.istore_n 2, 1) := by decide +kernel
theorem dX6_setInRow_58 : decode cX6_setInRow 58 = .ok (.iinc 3 1, 3) := by decide +kernel
theorem dX6_setInRow_61 : decode cX6_setInRow 61 = .ok (.goto (-57), 3) := by decide +kernel
theorem dX6_setInRow_64 : decode cX6_setInRow 64 = .ok (.iload_n 2, 1) := by decide +kernel
theorem dX6_setInRow_65 : decode cX6_setInRow 65 = .ok (.ireturn, 1) := by decide +kernel
theorem dX6_meetingInRow_0 : decode cX6_meetingInRow 0 = .ok (.iconst 0, 1) := by decide +kernel
theorem dX6_meetingInRow_1 : decode cX6_meetingInRow 1 = .ok (.istore_n 2, 1) := by decide +kernel
theorem dX6_meetingInRow_2 : decode cX6_meetingInRow 2 = .ok (.iconst 0, 1) := by decide +kernel
theorem dX6_meetingInRow_3 : decode cX6_meetingInRow 3 = .ok (.istore_n 3, 1) := by decide +kernel
theorem dX6_meetingInRow_4 : decode cX6_meetingInRow 4 = .ok (.iload_n 3, 1) := by decide +kernel
theorem dX6_meetingInRow_5 : decode cX6_meetingInRow 5 = .ok (.aload_n 0, 1) := by decide +kernel
theorem dX6_meetingInRow_6 : decode cX6_meetingInRow 6 = .ok (.getfield 14, 3) := by decide +kernel
theorem dX6_meetingInRow_9 : decode cX6_meetingInRow 9 = .ok (.iload_n 1, 1) := by decide +kernel
theorem dX6_meetingInRow_10 : decode cX6_meetingInRow 10 = .ok (.invokevirtual 115, 3) := by decide +kernel
theorem dX6_meetingInRow_13 : decode cX6_meetingInRow 13 = .ok (.if_icmp .ge 23, 3) := by decide +kernel
theorem dX6_meetingInRow_16 : decode cX6_meetingInRow 16 = .ok (.iload_n 2, 1) := by decide +kernel
theorem dX6_meetingInRow_17 : decode cX6_meetingInRow 17 = .ok (.aload_n 0, 1) := by decide +kernel
theorem dX6_meetingInRow_18 : decode cX6_meetingInRow 18 = .ok (.getfield 14, 3) := by decide +kernel
theorem dX6_meetingInRow_21 : decode cX6_meetingInRow 21 = .ok (.iload_n 1, 1) := by decide +kernel
theorem dX6_meetingInRow_22 : decode cX6_meetingInRow 22 = .ok (.iload_n 3, 1) := by decide +kernel
theorem dX6_meetingInRow_23 : decode cX6_meetingInRow 23 = .ok (.invokevirtual 81, 3) := by decide +kernel
theorem dX6_meetingInRow_26 : decode cX6_meetingInRow 26 = .ok (.invokestatic 340, 3) := by decide +kernel
theorem dX6_meetingInRow_29 : decode cX6_meetingInRow 29 = .ok (.istore_n 2, 1) := by decide +kernel
theorem dX6_meetingInRow_30 : decode cX6_meetingInRow 30 = .ok (.iinc 3 1, 3) := by decide +kernel
theorem dX6_meetingInRow_33 : decode cX6_meetingInRow 33 = .ok (.goto (-29), 3) := by decide +kernel
theorem dX6_meetingInRow_36 : decode cX6_meetingInRow 36 = .ok (.iload_n 2, 1) := by decide +kernel
theorem dX6_meetingInRow_37 : decode cX6_meetingInRow 37 = .ok (.ireturn, 1) := by decide +kernel
theorem dX6_fitsDouble_0 : decode cX6_fitsDouble 0 = .ok (.iconst 0, 1) := by decide +kernel
theorem dX6_fitsDouble_1 : decode cX6_fitsDouble 1 = .ok (.istore_n 3, 1) := by decide +kernel
theorem dX6_fitsDouble_2 : decode cX6_fitsDouble 2 = .ok (.iload_n 3, 1) := by decide +kernel
theorem dX6_fitsDouble_3 : decode cX6_fitsDouble 3 = .ok (.iconst 1, 1) := by decide +kernel
theorem dX6_fitsDouble_4 : decode cX6_fitsDouble 4 = .ok (.iadd, 1) := by decide +kernel
theorem dX6_fitsDouble_5 : decode cX6_fitsDouble 5 = .ok (.aload_n 0, 1) := by decide +kernel
theorem dX6_fitsDouble_6 : decode cX6_fitsDouble 6 = .ok (.getfield 14, 3) := by decide +kernel
theorem dX6_fitsDouble_9 : decode cX6_fitsDouble 9 = .ok (.iload_n 1, 1) := by decide +kernel
theorem dX6_fitsDouble_10 : decode cX6_fitsDouble 10 = .ok (.invokevirtual 115, 3) := by decide +kernel
theorem dX6_fitsDouble_13 : decode cX6_fitsDouble 13 = .ok (.if_icmp .ge 88, 3) := by decide +kernel
theorem dX6_fitsDouble_16 : decode cX6_fitsDouble 16 = .ok (.aload_n 0, 1) := by decide +kernel
theorem dX6_fitsDouble_17 : decode cX6_fitsDouble 17 = .ok (.getfield 14, 3) := by decide +kernel
theorem dX6_fitsDouble_20 : decode cX6_fitsDouble 20 = .ok (.iload_n 1, 1) := by decide +kernel
theorem dX6_fitsDouble_21 : decode cX6_fitsDouble 21 = .ok (.iload_n 3, 1) := by decide +kernel
theorem dX6_fitsDouble_22 : decode cX6_fitsDouble 22 = .ok (.invokevirtual 81, 3) := by decide +kernel
theorem dX6_fitsDouble_25 : decode cX6_fitsDouble 25 = .ok (.istore 4, 2) := by decide +kernel
theorem dX6_fitsDouble_27 : decode cX6_fitsDouble 27 = .ok (.iload 4, 2) := by decide +kernel
theorem dX6_fitsDouble_29 : decode cX6_fitsDouble 29 = .ok (.invokestatic 244, 3) := by decide +kernel
theorem dX6_fitsDouble_32 : decode cX6_fitsDouble 32 = .ok (.iload_n 2, 1) := by decide +kernel
theorem dX6_fitsDouble_33 : decode cX6_fitsDouble 33 = .ok (.iload 4, 2) := by decide +kernel
theorem dX6_fitsDouble_35 : decode cX6_fitsDouble 35 = .ok (.invokestatic 337, 3) := by decide +kernel
theorem dX6_fitsDouble_38 : decode cX6_fitsDouble 38 = .ok (.ifCond .eq 7, 3) := by decide +kernel
theorem dX6_fitsDouble_41 : decode cX6_fitsDouble 41 = .ok (.iconst 1, 1) := by decide +kernel
theorem dX6_fitsDouble_42 : decode cX6_fitsDouble 42 = .ok (.goto 4, 3) := by decide +kernel
theorem dX6_fitsDouble_45 : decode cX6_fitsDouble 45 = .ok (.iconst 0, 1) := by decide +kernel
theorem dX6_fitsDouble_46 : decode cX6_fitsDouble 46 = .ok (.iadd, 1) := by decide +kernel
theorem dX6_fitsDouble_47 : decode cX6_fitsDouble 47 = .ok (.istore 5, 2) := by decide +kernel
theorem dX6_fitsDouble_49 : decode cX6_fitsDouble 49 = .ok (.aload_n 0, 1) := by decide +kernel
theorem dX6_fitsDouble_50 : decode cX6_fitsDouble 50 = .ok (.getfield 33, 3) := by decide +kernel
theorem dX6_fitsDouble_53 : decode cX6_fitsDouble 53 = .ok (.iload 4, 2) := by decide +kernel
theorem dX6_fitsDouble_55 : decode cX6_fitsDouble 55 = .ok (.iload 5, 2) := by decide +kernel
theorem dX6_fitsDouble_57 : decode cX6_fitsDouble 57 = .ok (.aload_n 0, 1) := by decide +kernel
theorem dX6_fitsDouble_58 : decode cX6_fitsDouble 58 = .ok (.getfield 33, 3) := by decide +kernel
theorem dX6_fitsDouble_61 : decode cX6_fitsDouble 61 = .ok (.getfield 125, 3) := by decide +kernel
theorem dX6_fitsDouble_64 : decode cX6_fitsDouble 64 = .ok (.getfield 322, 3) := by decide +kernel
theorem dX6_fitsDouble_67 : decode cX6_fitsDouble 67 = .ok (.invokevirtual 343, 3) := by decide +kernel
theorem dX6_fitsDouble_70 : decode cX6_fitsDouble 70 = .ok (.aload_n 0, 1) := by decide +kernel
theorem dX6_fitsDouble_71 : decode cX6_fitsDouble 71 = .ok (.getfield 14, 3) := by decide +kernel
theorem dX6_fitsDouble_74 : decode cX6_fitsDouble 74 = .ok (.iload_n 1, 1) := by decide +kernel
theorem dX6_fitsDouble_75 : decode cX6_fitsDouble 75 = .ok (.iload_n 3, 1) := by decide +kernel
theorem dX6_fitsDouble_76 : decode cX6_fitsDouble 76 = .ok (.iconst 1, 1) := by decide +kernel
theorem dX6_fitsDouble_77 : decode cX6_fitsDouble 77 = .ok (.iadd, 1) := by decide +kernel
theorem dX6_fitsDouble_78 : decode cX6_fitsDouble 78 = .ok (.invokevirtual 81, 3) := by decide +kernel
theorem dX6_fitsDouble_81 : decode cX6_fitsDouble 81 = .ok (.iconst 1, 1) := by decide +kernel
theorem dX6_fitsDouble_82 : decode cX6_fitsDouble 82 = .ok (.if_icmp .ne 7, 3) := by decide +kernel
theorem dX6_fitsDouble_85 : decode cX6_fitsDouble 85 = .ok (.iconst 1, 1) := by decide +kernel
theorem dX6_fitsDouble_86 : decode cX6_fitsDouble 86 = .ok (.goto 4, 3) := by decide +kernel
theorem dX6_fitsDouble_89 : decode cX6_fitsDouble 89 = .ok (.iconst 0, 1) := by decide +kernel
theorem dX6_fitsDouble_90 : decode cX6_fitsDouble 90 = .ok (.if_icmp .eq 5, 3) := by decide +kernel
theorem dX6_fitsDouble_93 : decode cX6_fitsDouble 93 = .ok (.iconst 0, 1) := by decide +kernel
theorem dX6_fitsDouble_94 : decode cX6_fitsDouble 94 = .ok (.ireturn, 1) := by decide +kernel
theorem dX6_fitsDouble_95 : decode cX6_fitsDouble 95 = .ok (.iinc 3 2, 3) := by decide +kernel
theorem dX6_fitsDouble_98 : decode cX6_fitsDouble 98 = .ok (.goto (-96), 3) := by decide +kernel
theorem dX6_fitsDouble_101 : decode cX6_fitsDouble 101 = .ok (.iconst 1, 1) := by decide +kernel
theorem dX6_fitsDouble_102 : decode cX6_fitsDouble 102 = .ok (.ireturn, 1) := by decide +kernel
theorem dX6_fitsNeed_0 : decode cX6_fitsNeed 0 = .ok (.iconst 0, 1) := by decide +kernel
theorem dX6_fitsNeed_1 : decode cX6_fitsNeed 1 = .ok (.istore_n 3, 1) := by decide +kernel
theorem dX6_fitsNeed_2 : decode cX6_fitsNeed 2 = .ok (.iload_n 3, 1) := by decide +kernel
theorem dX6_fitsNeed_3 : decode cX6_fitsNeed 3 = .ok (.iconst 1, 1) := by decide +kernel
theorem dX6_fitsNeed_4 : decode cX6_fitsNeed 4 = .ok (.iadd, 1) := by decide +kernel
theorem dX6_fitsNeed_5 : decode cX6_fitsNeed 5 = .ok (.aload_n 0, 1) := by decide +kernel
theorem dX6_fitsNeed_6 : decode cX6_fitsNeed 6 = .ok (.getfield 14, 3) := by decide +kernel
theorem dX6_fitsNeed_9 : decode cX6_fitsNeed 9 = .ok (.iload_n 1, 1) := by decide +kernel
theorem dX6_fitsNeed_10 : decode cX6_fitsNeed 10 = .ok (.invokevirtual 115, 3) := by decide +kernel
theorem dX6_fitsNeed_13 : decode cX6_fitsNeed 13 = .ok (.if_icmp .ge 64, 3) := by decide +kernel
theorem dX6_fitsNeed_16 : decode cX6_fitsNeed 16 = .ok (.aload_n 0, 1) := by decide +kernel
theorem dX6_fitsNeed_17 : decode cX6_fitsNeed 17 = .ok (.getfield 14, 3) := by decide +kernel
theorem dX6_fitsNeed_20 : decode cX6_fitsNeed 20 = .ok (.iload_n 1, 1) := by decide +kernel
theorem dX6_fitsNeed_21 : decode cX6_fitsNeed 21 = .ok (.iload_n 3, 1) := by decide +kernel
theorem dX6_fitsNeed_22 : decode cX6_fitsNeed 22 = .ok (.invokevirtual 81, 3) := by decide +kernel
theorem dX6_fitsNeed_25 : decode cX6_fitsNeed 25 = .ok (.istore 4, 2) := by decide +kernel
theorem dX6_fitsNeed_27 : decode cX6_fitsNeed 27 = .ok (.aload_n 0, 1) := by decide +kernel
theorem dX6_fitsNeed_28 : decode cX6_fitsNeed 28 = .ok (.getfield 33, 3) := by decide +kernel
theorem dX6_fitsNeed_31 : decode cX6_fitsNeed 31 = .ok (.iload 4, 2) := by decide +kernel
theorem dX6_fitsNeed_33 : decode cX6_fitsNeed 33 = .ok (.aload_n 0, 1) := by decide +kernel
theorem dX6_fitsNeed_34 : decode cX6_fitsNeed 34 = .ok (.getfield 33, 3) := by decide +kernel
theorem dX6_fitsNeed_37 : decode cX6_fitsNeed 37 = .ok (.iload 4, 2) := by decide +kernel
theorem dX6_fitsNeed_39 : decode cX6_fitsNeed 39 = .ok (.invokevirtual 200, 3) := by decide +kernel
theorem dX6_fitsNeed_42 : decode cX6_fitsNeed 42 = .ok (.iload_n 2, 1) := by decide +kernel
theorem dX6_fitsNeed_43 : decode cX6_fitsNeed 43 = .ok (.invokevirtual 343, 3) := by decide +kernel
theorem dX6_fitsNeed_46 : decode cX6_fitsNeed 46 = .ok (.aload_n 0, 1) := by decide +kernel
theorem dX6_fitsNeed_47 : decode cX6_fitsNeed 47 = .ok (.getfield 14, 3) := by decide +kernel
theorem dX6_fitsNeed_50 : decode cX6_fitsNeed 50 = .ok (.iload_n 1, 1) := by decide +kernel
theorem dX6_fitsNeed_51 : decode cX6_fitsNeed 51 = .ok (.iload_n 3, 1) := by decide +kernel
theorem dX6_fitsNeed_52 : decode cX6_fitsNeed 52 = .ok (.iconst 1, 1) := by decide +kernel
theorem dX6_fitsNeed_53 : decode cX6_fitsNeed 53 = .ok (.iadd, 1) := by decide +kernel
theorem dX6_fitsNeed_54 : decode cX6_fitsNeed 54 = .ok (.invokevirtual 81, 3) := by decide +kernel
theorem dX6_fitsNeed_57 : decode cX6_fitsNeed 57 = .ok (.iconst 1, 1) := by decide +kernel
theorem dX6_fitsNeed_58 : decode cX6_fitsNeed 58 = .ok (.if_icmp .ne 7, 3) := by decide +kernel
theorem dX6_fitsNeed_61 : decode cX6_fitsNeed 61 = .ok (.iconst 1, 1) := by decide +kernel
theorem dX6_fitsNeed_62 : decode cX6_fitsNeed 62 = .ok (.goto 4, 3) := by decide +kernel
theorem dX6_fitsNeed_65 : decode cX6_fitsNeed 65 = .ok (.iconst 0, 1) := by decide +kernel
theorem dX6_fitsNeed_66 : decode cX6_fitsNeed 66 = .ok (.if_icmp .eq 5, 3) := by decide +kernel
theorem dX6_fitsNeed_69 : decode cX6_fitsNeed 69 = .ok (.iconst 0, 1) := by decide +kernel
theorem dX6_fitsNeed_70 : decode cX6_fitsNeed 70 = .ok (.ireturn, 1) := by decide +kernel
theorem dX6_fitsNeed_71 : decode cX6_fitsNeed 71 = .ok (.iinc 3 2, 3) := by decide +kernel
theorem dX6_fitsNeed_74 : decode cX6_fitsNeed 74 = .ok (.goto (-72), 3) := by decide +kernel
theorem dX6_fitsNeed_77 : decode cX6_fitsNeed 77 = .ok (.iconst 1, 1) := by decide +kernel
theorem dX6_fitsNeed_78 : decode cX6_fitsNeed 78 = .ok (.ireturn, 1) := by decide +kernel
theorem dX6_isIn_0 : decode cX6_isIn 0 = .ok (.iload_n 1, 1) := by decide +kernel
theorem dX6_isIn_1 : decode cX6_isIn 1 = .ok (.iload_n 0, 1) := by decide +kernel
theorem dX6_isIn_2 : decode cX6_isIn 2 = .ok (.ishr, 1) := by decide +kernel
theorem dX6_isIn_3 : decode cX6_isIn 3 = .ok (.iconst 1, 1) := by decide +kernel
theorem dX6_isIn_4 : decode cX6_isIn 4 = .ok (.iand, 1) := by decide +kernel
theorem dX6_isIn_5 : decode cX6_isIn 5 = .ok (.iconst 1, 1) := by decide +kernel
theorem dX6_isIn_6 : decode cX6_isIn 6 = .ok (.if_icmp .ne 7, 3) := by decide +kernel
theorem dX6_isIn_9 : decode cX6_isIn 9 = .ok (.iconst 1, 1) := by decide +kernel
theorem dX6_isIn_10 : decode cX6_isIn 10 = .ok (.goto 4, 3) := by decide +kernel
theorem dX6_isIn_13 : decode cX6_isIn 13 = .ok (.iconst 0, 1) := by decide +kernel
theorem dX6_isIn_14 : decode cX6_isIn 14 = .ok (.ireturn, 1) := by decide +kernel
theorem dX6_isOfKind_0 : decode cX6_isOfKind 0 = .ok (.iload_n 0, 1) := by decide +kernel
theorem dX6_isOfKind_1 : decode cX6_isOfKind 1 = .ok (.iload_n 1, 1) := by decide +kernel
theorem dX6_isOfKind_2 : decode cX6_isOfKind 2 = .ok (.if_icmp .eq 27, 3) := by decide +kernel
theorem dX6_isOfKind_5 : decode cX6_isOfKind 5 = .ok (.iload_n 1, 1) := by decide +kernel
theorem dX6_isOfKind_6 : decode cX6_isOfKind 6 = .ok (.ifCond .eq 23, 3) := by decide +kernel
theorem dX6_isOfKind_9 : decode cX6_isOfKind 9 = .ok (.iload_n 0, 1) := by decide +kernel
theorem dX6_isOfKind_10 : decode cX6_isOfKind 10 = .ok (.iconst 4, 1) := by decide +kernel
theorem dX6_isOfKind_11 : decode cX6_isOfKind 11 = .ok (.if_icmp .ne 8, 3) := by decide +kernel
theorem dX6_isOfKind_14 : decode cX6_isOfKind 14 = .ok (.iload_n 1, 1) := by decide +kernel
theorem dX6_isOfKind_15 : decode cX6_isOfKind 15 = .ok (.iconst 1, 1) := by decide +kernel
theorem dX6_isOfKind_16 : decode cX6_isOfKind 16 = .ok (.if_icmp .eq 13, 3) := by decide +kernel
theorem dX6_isOfKind_19 : decode cX6_isOfKind 19 = .ok (.iload_n 0, 1) := by decide +kernel
theorem dX6_isOfKind_20 : decode cX6_isOfKind 20 = .ok (.iconst 5, 1) := by decide +kernel
theorem dX6_isOfKind_21 : decode cX6_isOfKind 21 = .ok (.if_icmp .ne 12, 3) := by decide +kernel
theorem dX6_isOfKind_24 : decode cX6_isOfKind 24 = .ok (.iload_n 1, 1) := by decide +kernel
theorem dX6_isOfKind_25 : decode cX6_isOfKind 25 = .ok (.iconst 3, 1) := by decide +kernel
theorem dX6_isOfKind_26 : decode cX6_isOfKind 26 = .ok (.if_icmp .ne 7, 3) := by decide +kernel
theorem dX6_isOfKind_29 : decode cX6_isOfKind 29 = .ok (.iconst 1, 1) := by decide +kernel
theorem dX6_isOfKind_30 : decode cX6_isOfKind 30 = .ok (.goto 4, 3) := by decide +kernel
theorem dX6_isOfKind_33 : decode cX6_isOfKind 33 = .ok (.iconst 0, 1) := by decide +kernel
theorem dX6_isOfKind_34 : decode cX6_isOfKind 34 = .ok (.ireturn, 1) := by decide +kernel
theorem dX6_pledgeDeed_0 : decode cX6_pledgeDeed 0 = .ok (.iconst 1, 1) := by decide +kernel
theorem dX6_pledgeDeed_1 : decode cX6_pledgeDeed 1 = .ok (.iload_n 0, 1) := by decide +kernel
theorem dX6_pledgeDeed_2 : decode cX6_pledgeDeed 2 = .ok (.iconst 2, 1) := by decide +kernel
theorem dX6_pledgeDeed_3 : decode cX6_pledgeDeed 3 = .ok (.ishl, 1) := by decide +kernel
theorem dX6_pledgeDeed_4 : decode cX6_pledgeDeed 4 = .ok (.ior, 1) := by decide +kernel
theorem dX6_pledgeDeed_5 : decode cX6_pledgeDeed 5 = .ok (.iload_n 1, 1) := by decide +kernel
theorem dX6_pledgeDeed_6 : decode cX6_pledgeDeed 6 = .ok (.iconst 5, 1) := by decide +kernel
theorem dX6_pledgeDeed_7 : decode cX6_pledgeDeed 7 = .ok (.ishl, 1) := by decide +kernel
theorem dX6_pledgeDeed_8 : decode cX6_pledgeDeed 8 = .ok (.ior, 1) := by decide +kernel
theorem dX6_pledgeDeed_9 : decode cX6_pledgeDeed 9 = .ok (.ireturn, 1) := by decide +kernel
theorem dX6_joinMeeting_0 : decode cX6_joinMeeting 0 = .ok (.iload_n 0, 1) := by decide +kernel
theorem dX6_joinMeeting_1 : decode cX6_joinMeeting 1 = .ok (.iconst 2, 1) := by decide +kernel
theorem dX6_joinMeeting_2 : decode cX6_joinMeeting 2 = .ok (.ishr, 1) := by decide +kernel
theorem dX6_joinMeeting_3 : decode cX6_joinMeeting 3 = .ok (.bipush 7, 2) := by decide +kernel
theorem dX6_joinMeeting_5 : decode cX6_joinMeeting 5 = .ok (.iand, 1) := by decide +kernel
theorem dX6_joinMeeting_6 : decode cX6_joinMeeting 6 = .ok (.istore_n 2, 1) := by decide +kernel
theorem dX6_joinMeeting_7 : decode cX6_joinMeeting 7 = .ok (.iload_n 0, 1) := by decide +kernel
theorem dX6_joinMeeting_8 : decode cX6_joinMeeting 8 = .ok (.iconst 4, 1) := by decide +kernel
theorem dX6_joinMeeting_9 : decode cX6_joinMeeting 9 = .ok (.iadd, 1) := by decide +kernel
theorem dX6_joinMeeting_10 : decode cX6_joinMeeting 10 = .ok (.iload_n 1, 1) := by decide +kernel
theorem dX6_joinMeeting_11 : decode cX6_joinMeeting 11 = .ok (.iconst 5, 1) := by decide +kernel
theorem dX6_joinMeeting_12 : decode cX6_joinMeeting 12 = .ok (.iconst 3, 1) := by decide +kernel
theorem dX6_joinMeeting_13 : decode cX6_joinMeeting 13 = .ok (.iload_n 2, 1) := by decide +kernel
theorem dX6_joinMeeting_14 : decode cX6_joinMeeting 14 = .ok (.imul, 1) := by decide +kernel
theorem dX6_joinMeeting_15 : decode cX6_joinMeeting 15 = .ok (.iadd, 1) := by decide +kernel
theorem dX6_joinMeeting_16 : decode cX6_joinMeeting 16 = .ok (.ishl, 1) := by decide +kernel
theorem dX6_joinMeeting_17 : decode cX6_joinMeeting 17 = .ok (.ior, 1) := by decide +kernel
theorem dX6_joinMeeting_18 : decode cX6_joinMeeting 18 = .ok (.ireturn, 1) := by decide +kernel
theorem dX6_meetingRising_0 : decode cX6_meetingRising 0 = .ok (.iconst 0, 1) := by decide +kernel
theorem dX6_meetingRising_1 : decode cX6_meetingRising 1 = .ok (.istore_n 1, 1) := by decide +kernel
theorem dX6_meetingRising_2 : decode cX6_meetingRising 2 = .ok (.iconst 0, 1) := by decide +kernel
theorem dX6_meetingRising_3 : decode cX6_meetingRising 3 = .ok (.istore_n 2, 1) := by decide +kernel
theorem dX6_meetingRising_4 : decode cX6_meetingRising 4 = .ok (.iload_n 2, 1) := by decide +kernel
theorem dX6_meetingRising_5 : decode cX6_meetingRising 5 = .ok (.bipush 7, 2) := by decide +kernel
theorem dX6_meetingRising_7 : decode cX6_meetingRising 7 = .ok (.if_icmp .ge 23, 3) := by decide +kernel
theorem dX6_meetingRising_10 : decode cX6_meetingRising 10 = .ok (.iload_n 2, 1) := by decide +kernel
theorem dX6_meetingRising_11 : decode cX6_meetingRising 11 = .ok (.iload_n 0, 1) := by decide +kernel
theorem dX6_meetingRising_12 : decode cX6_meetingRising 12 = .ok (.invokestatic 337, 3) := by decide +kernel
theorem dX6_meetingRising_15 : decode cX6_meetingRising 15 = .ok (.ifCond .eq 9, 3) := by decide +kernel
theorem dX6_meetingRising_18 : decode cX6_meetingRising 18 = .ok (.iload_n 1, 1) := by decide +kernel
theorem dX6_meetingRising_19 : decode cX6_meetingRising 19 = .ok (.iload_n 2, 1) := by decide +kernel
theorem dX6_meetingRising_20 : decode cX6_meetingRising 20 = .ok (.invokestatic 340, 3) := by decide +kernel
theorem dX6_meetingRising_23 : decode cX6_meetingRising 23 = .ok (.istore_n 1, 1) := by decide +kernel
theorem dX6_meetingRising_24 : decode cX6_meetingRising 24 = .ok (.iinc 2 1, 3) := by decide +kernel
theorem dX6_meetingRising_27 : decode cX6_meetingRising 27 = .ok (.goto (-23), 3) := by decide +kernel
theorem dX6_meetingRising_30 : decode cX6_meetingRising 30 = .ok (.iload_n 1, 1) := by decide +kernel
theorem dX6_meetingRising_31 : decode cX6_meetingRising 31 = .ok (.ireturn, 1) := by decide +kernel
theorem dX6_factorial_0 : decode cX6_factorial 0 = .ok (.lconst 1, 1) := by decide +kernel
theorem dX6_factorial_1 : decode cX6_factorial 1 = .ok (.lstore_n 1, 1) := by decide +kernel
theorem dX6_factorial_2 : decode cX6_factorial 2 = .ok (.iconst 2, 1) := by decide +kernel
theorem dX6_factorial_3 : decode cX6_factorial 3 = .ok (.istore_n 3, 1) := by decide +kernel
theorem dX6_factorial_4 : decode cX6_factorial 4 = .ok (.iload_n 3, 1) := by decide +kernel
theorem dX6_factorial_5 : decode cX6_factorial 5 = .ok (.iload_n 0, 1) := by decide +kernel
theorem dX6_factorial_6 : decode cX6_factorial 6 = .ok (.if_icmp .gt 14, 3) := by decide +kernel
theorem dX6_factorial_9 : decode cX6_factorial 9 = .ok (.lload_n 1, 1) := by decide +kernel
theorem dX6_factorial_10 : decode cX6_factorial 10 = .ok (.iload_n 3, 1) := by decide +kernel
theorem dX6_factorial_11 : decode cX6_factorial 11 = .ok (.i2l, 1) := by decide +kernel
theorem dX6_factorial_12 : decode cX6_factorial 12 = .ok (.lmul, 1) := by decide +kernel
theorem dX6_factorial_13 : decode cX6_factorial 13 = .ok (.lstore_n 1, 1) := by decide +kernel
theorem dX6_factorial_14 : decode cX6_factorial 14 = .ok (.iinc 3 1, 3) := by decide +kernel
theorem dX6_factorial_17 : decode cX6_factorial 17 = .ok (.goto (-13), 3) := by decide +kernel
theorem dX6_factorial_20 : decode cX6_factorial 20 = .ok (.lload_n 1, 1) := by decide +kernel
theorem dX6_factorial_21 : decode cX6_factorial 21 = .ok (.lreturn, 1) := by decide +kernel
theorem dX6_power_0 : decode cX6_power 0 = .ok (.lconst 1, 1) := by decide +kernel
theorem dX6_power_1 : decode cX6_power 1 = .ok (.lstore_n 2, 1) := by decide +kernel
theorem dX6_power_2 : decode cX6_power 2 = .ok (.iconst 0, 1) := by decide +kernel
theorem dX6_power_3 : decode cX6_power 3 = .ok (.istore 4, 2) := by decide +kernel
theorem dX6_power_5 : decode cX6_power 5 = .ok (.iload 4, 2) := by decide +kernel
theorem dX6_power_7 : decode cX6_power 7 = .ok (.iload_n 1, 1) := by decide +kernel
theorem dX6_power_8 : decode cX6_power 8 = .ok (.if_icmp .ge 14, 3) := by decide +kernel
theorem dX6_power_11 : decode cX6_power 11 = .ok (.lload_n 2, 1) := by decide +kernel
theorem dX6_power_12 : decode cX6_power 12 = .ok (.iload_n 0, 1) := by decide +kernel
theorem dX6_power_13 : decode cX6_power 13 = .ok (.i2l, 1) := by decide +kernel
theorem dX6_power_14 : decode cX6_power 14 = .ok (.lmul, 1) := by decide +kernel
theorem dX6_power_15 : decode cX6_power 15 = .ok (.lstore_n 2, 1) := by decide +kernel
theorem dX6_power_16 : decode cX6_power 16 = .ok (.iinc 4 1, 3) := by decide +kernel
theorem dX6_power_19 : decode cX6_power 19 = .ok (.goto (-14), 3) := by decide +kernel
theorem dX6_power_22 : decode cX6_power 22 = .ok (.lload_n 2, 1) := by decide +kernel
theorem dX6_power_23 : decode cX6_power 23 = .ok (.lreturn, 1) := by decide +kernel
theorem dX6_greatestDivisor_0 : decode cX6_greatestDivisor 0 = .ok (.lload_n 0, 1) := by decide +kernel
theorem dX6_greatestDivisor_1 : decode cX6_greatestDivisor 1 = .ok (.lstore 4, 2) := by decide +kernel
theorem dX6_greatestDivisor_3 : decode cX6_greatestDivisor 3 = .ok (.lload_n 2, 1) := by decide +kernel
theorem dX6_greatestDivisor_4 : decode cX6_greatestDivisor 4 = .ok (.lstore 6, 2) := by decide +kernel
theorem dX6_greatestDivisor_6 : decode cX6_greatestDivisor 6 = .ok (.iconst 0, 1) := by decide +kernel
theorem dX6_greatestDivisor_7 : decode cX6_greatestDivisor 7 = .ok (.istore 8, 2) := by decide +kernel
theorem dX6_greatestDivisor_9 : decode cX6_greatestDivisor 9 = .ok (.iload 8, 2) := by decide +kernel
theorem dX6_greatestDivisor_11 : decode cX6_greatestDivisor 11 = .ok (.bipush 100, 2) := by decide +kernel
theorem dX6_greatestDivisor_13 : decode cX6_greatestDivisor 13 = .ok (.if_icmp .ge 31, 3) := by decide +kernel
theorem dX6_greatestDivisor_16 : decode cX6_greatestDivisor 16 = .ok (.lload 6, 2) := by decide +kernel
theorem dX6_greatestDivisor_18 : decode cX6_greatestDivisor 18 = .ok (.lconst 0, 1) := by decide +kernel
theorem dX6_greatestDivisor_19 : decode cX6_greatestDivisor 19 = .ok (.lcmp, 1) := by decide +kernel
theorem dX6_greatestDivisor_20 : decode cX6_greatestDivisor 20 = .ok (.ifCond .eq 24, 3) := by decide +kernel
theorem dX6_greatestDivisor_23 : decode cX6_greatestDivisor 23 = .ok (.lload 4, 2) := by decide +kernel
theorem dX6_greatestDivisor_25 : decode cX6_greatestDivisor 25 = .ok (.lload 6, 2) := by decide +kernel
theorem dX6_greatestDivisor_27 : decode cX6_greatestDivisor 27 = .ok (.lrem, 1) := by decide +kernel
theorem dX6_greatestDivisor_28 : decode cX6_greatestDivisor 28 = .ok (.lstore 9, 2) := by decide +kernel
theorem dX6_greatestDivisor_30 : decode cX6_greatestDivisor 30 = .ok (.lload 6, 2) := by decide +kernel
theorem dX6_greatestDivisor_32 : decode cX6_greatestDivisor 32 = .ok (.lstore 4, 2) := by decide +kernel
theorem dX6_greatestDivisor_34 : decode cX6_greatestDivisor 34 = .ok (.lload 9, 2) := by decide +kernel
theorem dX6_greatestDivisor_36 : decode cX6_greatestDivisor 36 = .ok (.lstore 6, 2) := by decide +kernel
theorem dX6_greatestDivisor_38 : decode cX6_greatestDivisor 38 = .ok (.iinc 8 1, 3) := by decide +kernel
theorem dX6_greatestDivisor_41 : decode cX6_greatestDivisor 41 = .ok (.goto (-32), 3) := by decide +kernel
theorem dX6_greatestDivisor_44 : decode cX6_greatestDivisor 44 = .ok (.lload 4, 2) := by decide +kernel
theorem dX6_greatestDivisor_46 : decode cX6_greatestDivisor 46 = .ok (.lreturn, 1) := by decide +kernel
theorem dX7_init_0 : decode cX7_init 0 = .ok (.aload_n 0, 1) := by decide +kernel
theorem dX7_init_1 : decode cX7_init 1 = .ok (.invokespecial 1, 3) := by decide +kernel
theorem dX7_init_4 : decode cX7_init 4 = .ok (.aload_n 0, 1) := by decide +kernel
theorem dX7_init_5 : decode cX7_init 5 = .ok (.sipush 3776, 3) := by decide +kernel
theorem dX7_init_8 : decode cX7_init 8 = .ok (.newarray .int, 2) := by decide +kernel
theorem dX7_init_10 : decode cX7_init 10 = .ok (.putfield 7, 3) := by decide +kernel
theorem dX7_init_13 : decode cX7_init 13 = .ok (.aload_n 0, 1) := by decide +kernel
theorem dX7_init_14 : decode cX7_init 14 = .ok (.bipush 7, 2) := by decide +kernel
theorem dX7_init_16 : decode cX7_init 16 = .ok (.newarray .int, 2) := by decide +kernel
theorem dX7_init_18 : decode cX7_init 18 = .ok (.putfield 13, 3) := by decide +kernel
theorem dX7_init_21 : decode cX7_init 21 = .ok (.aload_n 0, 1) := by decide +kernel
theorem dX7_init_22 : decode cX7_init 22 = .ok (.bipush 7, 2) := by decide +kernel
theorem dX7_init_24 : decode cX7_init 24 = .ok (.newarray .int, 2) := by decide +kernel
theorem dX7_init_26 : decode cX7_init 26 = .ok (.putfield 16, 3) := by decide +kernel
theorem dX7_init_29 : decode cX7_init 29 = .ok (.aload_n 0, 1) := by decide +kernel
theorem dX7_init_30 : decode cX7_init 30 = .ok (.bipush 7, 2) := by decide +kernel
theorem dX7_init_32 : decode cX7_init 32 = .ok (.newarray .int, 2) := by decide +kernel
theorem dX7_init_34 : decode cX7_init 34 = .ok (.putfield 19, 3) := by decide +kernel
theorem dX7_init_37 : decode cX7_init 37 = .ok (.aload_n 0, 1) := by decide +kernel
theorem dX7_init_38 : decode cX7_init 38 = .ok (.bipush 6, 2) := by decide +kernel
theorem dX7_init_40 : decode cX7_init 40 = .ok (.newarray .int, 2) := by decide +kernel
theorem dX7_init_42 : decode cX7_init 42 = .ok (.dup, 1) := by decide +kernel
theorem dX7_init_43 : decode cX7_init 43 = .ok (.iconst 0, 1) := by decide +kernel
theorem dX7_init_44 : decode cX7_init 44 = .ok (.iconst (-1), 1) := by decide +kernel
theorem dX7_init_45 : decode cX7_init 45 = .ok (.iastore, 1) := by decide +kernel
theorem dX7_init_46 : decode cX7_init 46 = .ok (.dup, 1) := by decide +kernel
theorem dX7_init_47 : decode cX7_init 47 = .ok (.iconst 1, 1) := by decide +kernel
theorem dX7_init_48 : decode cX7_init 48 = .ok (.iconst (-1), 1) := by decide +kernel
theorem dX7_init_49 : decode cX7_init 49 = .ok (.iastore, 1) := by decide +kernel
theorem dX7_init_50 : decode cX7_init 50 = .ok (.dup, 1) := by decide +kernel
theorem dX7_init_51 : decode cX7_init 51 = .ok (.iconst 2, 1) := by decide +kernel
theorem dX7_init_52 : decode cX7_init 52 = .ok (.iconst (-1), 1) := by decide +kernel
theorem dX7_init_53 : decode cX7_init 53 = .ok (.iastore, 1) := by decide +kernel
theorem dX7_init_54 : decode cX7_init 54 = .ok (.dup, 1) := by decide +kernel
theorem dX7_init_55 : decode cX7_init 55 = .ok (.iconst 3, 1) := by decide +kernel
theorem dX7_init_56 : decode cX7_init 56 = .ok (.iconst (-1), 1) := by decide +kernel
theorem dX7_init_57 : decode cX7_init 57 = .ok (.iastore, 1) := by decide +kernel
theorem dX7_init_58 : decode cX7_init 58 = .ok (.dup, 1) := by decide +kernel
theorem dX7_init_59 : decode cX7_init 59 = .ok (.iconst 4, 1) := by decide +kernel
theorem dX7_init_60 : decode cX7_init 60 = .ok (.iconst (-1), 1) := by decide +kernel
theorem dX7_init_61 : decode cX7_init 61 = .ok (.iastore, 1) := by decide +kernel
theorem dX7_init_62 : decode cX7_init 62 = .ok (.dup, 1) := by decide +kernel
theorem dX7_init_63 : decode cX7_init 63 = .ok (.iconst 5, 1) := by decide +kernel
theorem dX7_init_64 : decode cX7_init 64 = .ok (.iconst (-1), 1) := by decide +kernel
theorem dX7_init_65 : decode cX7_init 65 = .ok (.iastore, 1) := by decide +kernel
theorem dX7_init_66 : decode cX7_init 66 = .ok (.putfield 22, 3) := by decide +kernel
theorem dX7_init_69 : decode cX7_init 69 = .ok (.aload_n 0, 1) := by decide +kernel
theorem dX7_init_70 : decode cX7_init 70 = .ok (.sipush 240, 3) := by decide +kernel
theorem dX7_init_73 : decode cX7_init 73 = .ok (.newarray .int, 2) := by decide +kernel
theorem dX7_init_75 : decode cX7_init 75 = .ok (.putfield 25, 3) := by decide +kernel
theorem dX7_init_78 : decode cX7_init 78 = .ok (.aload_n 0, 1) := by decide +kernel
theorem dX7_init_79 : decode cX7_init 79 = .ok (.iconst 4, 1) := by decide +kernel
theorem dX7_init_80 : decode cX7_init 80 = .ok (.newarray .int, 2) := by decide +kernel
theorem dX7_init_82 : decode cX7_init 82 = .ok (.dup, 1) := by decide +kernel
theorem dX7_init_83 : decode cX7_init 83 = .ok (.iconst 0, 1) := by decide +kernel
theorem dX7_init_84 : decode cX7_init 84 = .ok (.iconst (-1), 1) := by decide +kernel
theorem dX7_init_85 : decode cX7_init 85 = .ok (.iastore, 1) := by decide +kernel
theorem dX7_init_86 : decode cX7_init 86 = .ok (.dup, 1) := by decide +kernel
theorem dX7_init_87 : decode cX7_init 87 = .ok (.iconst 1, 1) := by decide +kernel
theorem dX7_init_88 : decode cX7_init 88 = .ok (.iconst (-1), 1) := by decide +kernel
theorem dX7_init_89 : decode cX7_init 89 = .ok (.iastore, 1) := by decide +kernel
theorem dX7_init_90 : decode cX7_init 90 = .ok (.dup, 1) := by decide +kernel
theorem dX7_init_91 : decode cX7_init 91 = .ok (.iconst 2, 1) := by decide +kernel
theorem dX7_init_92 : decode cX7_init 92 = .ok (.iconst (-1), 1) := by decide +kernel
theorem dX7_init_93 : decode cX7_init 93 = .ok (.iastore, 1) := by decide +kernel
theorem dX7_init_94 : decode cX7_init 94 = .ok (.dup, 1) := by decide +kernel
theorem dX7_init_95 : decode cX7_init 95 = .ok (.iconst 3, 1) := by decide +kernel
theorem dX7_init_96 : decode cX7_init 96 = .ok (.iconst (-1), 1) := by decide +kernel
theorem dX7_init_97 : decode cX7_init 97 = .ok (.iastore, 1) := by decide +kernel
theorem dX7_init_98 : decode cX7_init 98 = .ok (.putfield 28, 3) := by decide +kernel
theorem dX7_init_101 : decode cX7_init 101 = .ok (.aload_n 0, 1) := by decide +kernel
theorem dX7_init_102 : decode cX7_init 102 = .ok (.sipush 320, 3) := by decide +kernel
theorem dX7_init_105 : decode cX7_init 105 = .ok (.newarray .int, 2) := by decide +kernel
theorem dX7_init_107 : decode cX7_init 107 = .ok (.putfield 31, 3) := by decide +kernel
theorem dX7_init_110 : decode cX7_init 110 = .ok (.aload_n 0, 1) := by decide +kernel
theorem dX7_init_111 : decode cX7_init 111 = .ok (.lconst 1, 1) := by decide +kernel
theorem dX7_init_112 : decode cX7_init 112 = .ok (.putfield 34, 3) := by decide +kernel
theorem dX7_init_115 : decode cX7_init 115 = .ok (.aload_n 0, 1) := by decide +kernel
theorem dX7_init_116 : decode cX7_init 116 = .ok (.bipush 6, 2) := by decide +kernel
theorem dX7_init_118 : decode cX7_init 118 = .ok (.newarray .int, 2) := by decide +kernel
theorem dX7_init_120 : decode cX7_init 120 = .ok (.putfield 38, 3) := by decide +kernel
theorem dX7_init_123 : decode cX7_init 123 = .ok (.aload_n 0, 1) := by decide +kernel
theorem dX7_init_124 : decode cX7_init 124 = .ok (.bipush 14, 2) := by decide +kernel
theorem dX7_init_126 : decode cX7_init 126 = .ok (.newarray .int, 2) := by decide +kernel
theorem dX7_init_128 : decode cX7_init 128 = .ok (.putfield 41, 3) := by decide +kernel
theorem dX7_init_131 : decode cX7_init 131 = .ok (.aload_n 0, 1) := by decide +kernel
theorem dX7_init_132 : decode cX7_init 132 = .ok (.bipush 7, 2) := by decide +kernel
theorem dX7_init_134 : decode cX7_init 134 = .ok (.newarray .int, 2) := by decide +kernel
theorem dX7_init_136 : decode cX7_init 136 = .ok (.putfield 44, 3) := by decide +kernel
theorem dX7_init_139 : decode cX7_init 139 = .ok (.aload_n 0, 1) := by decide +kernel
theorem dX7_init_140 : decode cX7_init 140 = .ok (.sipush 16512, 3) := by decide +kernel
theorem dX7_init_143 : decode cX7_init 143 = .ok (.newarray .int, 2) := by decide +kernel
theorem dX7_init_145 : decode cX7_init 145 = .ok (.putfield 47, 3) := by decide +kernel
theorem dX7_init_148 : decode cX7_init 148 = .ok (.aload_n 0, 1) := by decide +kernel
theorem dX7_init_149 : decode cX7_init 149 = .ok (.bipush 7, 2) := by decide +kernel
theorem dX7_init_151 : decode cX7_init 151 = .ok (.newarray .int, 2) := by decide +kernel
theorem dX7_init_153 : decode cX7_init 153 = .ok (.putfield 50, 3) := by decide +kernel
theorem dX7_init_156 : decode cX7_init 156 = .ok (.aload_n 0, 1) := by decide +kernel
theorem dX7_init_157 : decode cX7_init 157 = .ok (.sipush 2187, 3) := by decide +kernel
theorem dX7_init_160 : decode cX7_init 160 = .ok (.newarray .boolean, 2) := by decide +kernel
theorem dX7_init_162 : decode cX7_init 162 = .ok (.putfield 53, 3) := by decide +kernel
theorem dX7_init_165 : decode cX7_init 165 = .ok (.iconst 1, 1) := by decide +kernel
theorem dX7_init_166 : decode cX7_init 166 = .ok (.istore_n 1, 1) := by decide +kernel
theorem dX7_init_167 : decode cX7_init 167 = .ok (.iload_n 1, 1) := by decide +kernel
theorem dX7_init_168 : decode cX7_init 168 = .ok (.iconst 4, 1) := by decide +kernel
theorem dX7_init_169 : decode cX7_init 169 = .ok (.if_icmp .ge 22, 3) := by decide +kernel
theorem dX7_init_172 : decode cX7_init 172 = .ok (.aload_n 0, 1) := by decide +kernel
theorem dX7_init_173 : decode cX7_init 173 = .ok (.getfield 7, 3) := by decide +kernel
theorem dX7_init_176 : decode cX7_init 176 = .ok (.sipush 944, 3) := by decide +kernel
theorem dX7_init_179 : decode cX7_init 179 = .ok (.iload_n 1, 1) := by decide +kernel
theorem dX7_init_180 : decode cX7_init 180 = .ok (.imul, 1) := by decide +kernel
theorem dX7_init_181 : decode cX7_init 181 = .ok (.iconst 0, 1) := by decide +kernel
theorem dX7_init_182 : decode cX7_init 182 = .ok (.iadd, 1) := by decide +kernel
theorem dX7_init_183 : decode cX7_init 183 = .ok (.iconst (-1), 1) := by decide +kernel
theorem dX7_init_184 : decode cX7_init 184 = .ok (.iastore, 1) := by decide +kernel
theorem dX7_init_185 : decode cX7_init 185 = .ok (.iinc 1 1, 3) := by decide +kernel
theorem dX7_init_188 : decode cX7_init 188 = .ok (.goto (-21), 3) := by decide +kernel
theorem dX7_init_191 : decode cX7_init 191 = .ok (.return_, 1) := by decide +kernel
theorem dX7_bits_0 : decode cX7_bits 0 = .ok (.iconst 0, 1) := by decide +kernel
theorem dX7_bits_1 : decode cX7_bits 1 = .ok (.istore_n 1, 1) := by decide +kernel
theorem dX7_bits_2 : decode cX7_bits 2 = .ok (.iconst 0, 1) := by decide +kernel
theorem dX7_bits_3 : decode cX7_bits 3 = .ok (.istore_n 2, 1) := by decide +kernel
theorem dX7_bits_4 : decode cX7_bits 4 = .ok (.iload_n 2, 1) := by decide +kernel
theorem dX7_bits_5 : decode cX7_bits 5 = .ok (.bipush 7, 2) := by decide +kernel
theorem dX7_bits_7 : decode cX7_bits 7 = .ok (.if_icmp .ge 17, 3) := by decide +kernel
theorem dX7_bits_10 : decode cX7_bits 10 = .ok (.iload_n 1, 1) := by decide +kernel
theorem dX7_bits_11 : decode cX7_bits 11 = .ok (.iload_n 0, 1) := by decide +kernel
theorem dX7_bits_12 : decode cX7_bits 12 = .ok (.iload_n 2, 1) := by decide +kernel
theorem dX7_bits_13 : decode cX7_bits 13 = .ok (.ishr, 1) := by decide +kernel
theorem dX7_bits_14 : decode cX7_bits 14 = .ok (.iconst 1, 1) := by decide +kernel
theorem dX7_bits_15 : decode cX7_bits 15 = .ok (.iand, 1) := by decide +kernel
theorem dX7_bits_16 : decode cX7_bits 16 = .ok (.iadd, 1) := by decide +kernel
theorem dX7_bits_17 : decode cX7_bits 17 = .ok (.istore_n 1, 1) := by decide +kernel
theorem dX7_bits_18 : decode cX7_bits 18 = .ok (.iinc 2 1, 3) := by decide +kernel
theorem dX7_bits_21 : decode cX7_bits 21 = .ok (.goto (-17), 3) := by decide +kernel
theorem dX7_bits_24 : decode cX7_bits 24 = .ok (.iload_n 1, 1) := by decide +kernel
theorem dX7_bits_25 : decode cX7_bits 25 = .ok (.ireturn, 1) := by decide +kernel
theorem dX7_in_0 : decode cX7_in 0 = .ok (.lload_n 0, 1) := by decide +kernel
theorem dX7_in_1 : decode cX7_in 1 = .ok (.lload_n 2, 1) := by decide +kernel
theorem dX7_in_2 : decode cX7_in 2 = .ok (.lcmp, 1) := by decide +kernel
theorem dX7_in_3 : decode cX7_in 3 = .ok (.ifCond .lt 14, 3) := by decide +kernel
theorem dX7_in_6 : decode cX7_in 6 = .ok (.lload_n 0, 1) := by decide +kernel
theorem dX7_in_7 : decode cX7_in 7 = .ok (.lload 4, 2) := by decide +kernel
theorem dX7_in_9 : decode cX7_in 9 = .ok (.lcmp, 1) := by decide +kernel
theorem dX7_in_10 : decode cX7_in 10 = .ok (.ifCond .gt 7, 3) := by decide +kernel
theorem dX7_in_13 : decode cX7_in 13 = .ok (.iconst 1, 1) := by decide +kernel
theorem dX7_in_14 : decode cX7_in 14 = .ok (.goto 4, 3) := by decide +kernel
theorem dX7_in_17 : decode cX7_in 17 = .ok (.iconst 0, 1) := by decide +kernel
theorem dX7_in_18 : decode cX7_in 18 = .ok (.ireturn, 1) := by decide +kernel
theorem dX7_has_0 : decode cX7_has 0 = .ok (.iload_n 0, 1) := by decide +kernel
theorem dX7_has_1 : decode cX7_has 1 = .ok (.iload_n 1, 1) := by decide +kernel
theorem dX7_has_2 : decode cX7_has 2 = .ok (.ishr, 1) := by decide +kernel
theorem dX7_has_3 : decode cX7_has 3 = .ok (.iconst 1, 1) := by decide +kernel
theorem dX7_has_4 : decode cX7_has 4 = .ok (.iand, 1) := by decide +kernel
theorem dX7_has_5 : decode cX7_has 5 = .ok (.iconst 1, 1) := by decide +kernel
theorem dX7_has_6 : decode cX7_has 6 = .ok (.if_icmp .ne 7, 3) := by decide +kernel
theorem dX7_has_9 : decode cX7_has 9 = .ok (.iconst 1, 1) := by decide +kernel
theorem dX7_has_10 : decode cX7_has 10 = .ok (.goto 4, 3) := by decide +kernel
theorem dX7_has_13 : decode cX7_has 13 = .ok (.iconst 0, 1) := by decide +kernel
theorem dX7_has_14 : decode cX7_has 14 = .ok (.ireturn, 1) := by decide +kernel
theorem dX7_find_0 : decode cX7_find 0 = .ok (.aload_n 0, 1) := by decide +kernel
theorem dX7_find_1 : decode cX7_find 1 = .ok (.iload_n 1, 1) := by decide +kernel
theorem dX7_find_2 : decode cX7_find 2 = .ok (.putfield 57, 3) := by decide +kernel
theorem dX7_find_5 : decode cX7_find 5 = .ok (.aload_n 0, 1) := by decide +kernel
theorem dX7_find_6 : decode cX7_find 6 = .ok (.getfield 38, 3) := by decide +kernel
theorem dX7_find_9 : decode cX7_find 9 = .ok (.iload_n 1, 1) := by decide +kernel
theorem dX7_find_10 : decode cX7_find 10 = .ok (.dup2, 1) := by decide +kernel
theorem dX7_find_11 : decode cX7_find 11 = .ok (.iaload, 1) := by decide +kernel
theorem dX7_find_12 : decode cX7_find 12 = .ok (.iconst 1, 1) := by decide +kernel
theorem dX7_find_13 : decode cX7_find 13 = .ok (.iadd, 1) := by decide +kernel
theorem dX7_find_14 : decode cX7_find 14 = .ok (.iastore, 1) := by decide +kernel
theorem dX7_find_15 : decode cX7_find 15 = .ok (.bipush (-3), 2) := by decide +kernel
theorem dX7_find_17 : decode cX7_find 17 = .ok (.ireturn, 1) := by decide +kernel
theorem dX7_tell_0 : decode cX7_tell 0 = .ok (.aload_n 0, 1) := by decide +kernel
theorem dX7_tell_1 : decode cX7_tell 1 = .ok (.iload_n 1, 1) := by decide +kernel
theorem dX7_tell_2 : decode cX7_tell 2 = .ok (.putfield 61, 3) := by decide +kernel
theorem dX7_tell_5 : decode cX7_tell 5 = .ok (.iconst 1, 1) := by decide +kernel
theorem dX7_tell_6 : decode cX7_tell 6 = .ok (.ireturn, 1) := by decide +kernel
theorem dX7_isRow_0 : decode cX7_isRow 0 = .ok (.iload_n 0, 1) := by decide +kernel
theorem dX7_isRow_1 : decode cX7_isRow 1 = .ok (.i2l, 1) := by decide +kernel
theorem dX7_isRow_2 : decode cX7_isRow 2 = .ok (.lconst 0, 1) := by decide +kernel
theorem dX7_isRow_3 : decode cX7_isRow 3 = .ok (.ldc2_w 64, 3) := by decide +kernel
theorem dX7_isRow_6 : decode cX7_isRow 6 = .ok (.invokestatic 66, 3) := by decide +kernel
theorem dX7_isRow_9 : decode cX7_isRow 9 = .ok (.ireturn, 1) := by decide +kernel
theorem dX7_isText_0 : decode cX7_isText 0 = .ok (.iload_n 0, 1) := by decide +kernel
theorem dX7_isText_1 : decode cX7_isText 1 = .ok (.i2l, 1) := by decide +kernel
theorem dX7_isText_2 : decode cX7_isText 2 = .ok (.lconst 0, 1) := by decide +kernel
theorem dX7_isText_3 : decode cX7_isText 3 = .ok (.ldc2_w 70, 3) := by decide +kernel
theorem dX7_isText_6 : decode cX7_isText 6 = .ok (.invokestatic 66, 3) := by decide +kernel
theorem dX7_isText_9 : decode cX7_isText 9 = .ok (.ireturn, 1) := by decide +kernel
theorem dX7_row_0 : decode cX7_row 0 = .ok (.iload_n 1, 1) := by decide +kernel
theorem dX7_row_1 : decode cX7_row 1 = .ok (.invokestatic 72, 3) := by decide +kernel
theorem dX7_row_4 : decode cX7_row 4 = .ok (.ifCond .eq 9, 3) := by decide +kernel
theorem dX7_row_7 : decode cX7_row 7 = .ok (.iload_n 2, 1) := by decide +kernel
theorem dX7_row_8 : decode cX7_row 8 = .ok (.bipush 40, 2) := by decide +kernel
theorem dX7_row_10 : decode cX7_row 10 = .ok (.if_icmp .le 5, 3) := by decide +kernel
theorem dX7_row_13 : decode cX7_row 13 = .ok (.iconst (-1), 1) := by decide +kernel
theorem dX7_row_14 : decode cX7_row 14 = .ok (.ireturn, 1) := by decide +kernel
theorem dX7_row_15 : decode cX7_row 15 = .ok (.iload_n 2, 1) := by decide +kernel
theorem dX7_row_16 : decode cX7_row 16 = .ok (.ifCond .ge 9, 3) := by decide +kernel
theorem dX7_row_19 : decode cX7_row 19 = .ok (.aload_n 0, 1) := by decide +kernel
theorem dX7_row_20 : decode cX7_row 20 = .ok (.iconst 5, 1) := by decide +kernel
theorem dX7_row_21 : decode cX7_row 21 = .ok (.invokevirtual 76, 3) := by decide +kernel
theorem dX7_row_24 : decode cX7_row 24 = .ok (.ireturn, 1) := by decide +kernel
theorem dX7_row_25 : decode cX7_row 25 = .ok (.aload_n 0, 1) := by decide +kernel
theorem dX7_row_26 : decode cX7_row 26 = .ok (.iload_n 1, 1) := by decide +kernel
theorem dX7_row_27 : decode cX7_row 27 = .ok (.iload_n 2, 1) := by decide +kernel
theorem dX7_row_28 : decode cX7_row 28 = .ok (.invokevirtual 80, 3) := by decide +kernel
theorem dX7_row_31 : decode cX7_row 31 = .ok (.iload_n 2, 1) := by decide +kernel
theorem dX7_row_32 : decode cX7_row 32 = .ok (.ireturn, 1) := by decide +kernel
theorem dX7_makeRow_0 : decode cX7_makeRow 0 = .ok (.aload_n 0, 1) := by decide +kernel
theorem dX7_makeRow_1 : decode cX7_makeRow 1 = .ok (.getfield 22, 3) := by decide +kernel
theorem dX7_makeRow_4 : decode cX7_makeRow 4 = .ok (.iload_n 1, 1) := by decide +kernel
theorem dX7_makeRow_5 : decode cX7_makeRow 5 = .ok (.iload_n 2, 1) := by decide +kernel
theorem dX7_makeRow_6 : decode cX7_makeRow 6 = .ok (.iastore, 1) := by decide +kernel
theorem dX7_makeRow_7 : decode cX7_makeRow 7 = .ok (.iconst 0, 1) := by decide +kernel
theorem dX7_makeRow_8 : decode cX7_makeRow 8 = .ok (.istore_n 3, 1) := by decide +kernel
theorem dX7_makeRow_9 : decode cX7_makeRow 9 = .ok (.iload_n 3, 1) := by decide +kernel
theorem dX7_makeRow_10 : decode cX7_makeRow 10 = .ok (.bipush 40, 2) := by decide +kernel
theorem dX7_makeRow_12 : decode cX7_makeRow 12 = .ok (.if_icmp .ge 21, 3) := by decide +kernel
theorem dX7_makeRow_15 : decode cX7_makeRow 15 = .ok (.aload_n 0, 1) := by decide +kernel
theorem dX7_makeRow_16 : decode cX7_makeRow 16 = .ok (.getfield 25, 3) := by decide +kernel
theorem dX7_makeRow_19 : decode cX7_makeRow 19 = .ok (.bipush 40, 2) := by decide +kernel
theorem dX7_makeRow_21 : decode cX7_makeRow 21 = .ok (.iload_n 1, 1) := by decide +kernel
theorem dX7_makeRow_22 : decode cX7_makeRow 22 = .ok (.imul, 1) := by decide +kernel
theorem dX7_makeRow_23 : decode cX7_makeRow 23 = .ok (.iload_n 3, 1) := by decide +kernel
theorem dX7_makeRow_24 : decode cX7_makeRow 24 = .ok (.iadd, 1) := by decide +kernel
theorem dX7_makeRow_25 : decode cX7_makeRow 25 = .ok (.iconst 0, 1) := by decide +kernel
theorem dX7_makeRow_26 : decode cX7_makeRow 26 = .ok (.iastore, 1) := by decide +kernel
theorem dX7_makeRow_27 : decode cX7_makeRow 27 = .ok (.iinc 3 1, 3) := by decide +kernel
theorem dX7_makeRow_30 : decode cX7_makeRow 30 = .ok (.goto (-21), 3) := by decide +kernel
theorem dX7_makeRow_33 : decode cX7_makeRow 33 = .ok (.return_, 1) := by decide +kernel
theorem dX7_refused_0 : decode cX7_refused 0 = .ok (.iload_n 1, 1) := by decide +kernel
theorem dX7_refused_1 : decode cX7_refused 1 = .ok (.invokestatic 72, 3) := by decide +kernel
theorem dX7_refused_4 : decode cX7_refused 4 = .ok (.ifCond .ne 7, 3) := by decide +kernel
theorem dX7_refused_7 : decode cX7_refused 7 = .ok (.iconst (-1), 1) := by decide +kernel
theorem dX7_refused_8 : decode cX7_refused 8 = .ok (.goto 47, 3) := by decide +kernel
theorem dX7_refused_11 : decode cX7_refused 11 = .ok (.aload_n 0, 1) := by decide +kernel
theorem dX7_refused_12 : decode cX7_refused 12 = .ok (.getfield 22, 3) := by decide +kernel
theorem dX7_refused_15 : decode cX7_refused 15 = .ok (.iload_n 1, 1) := by decide +kernel
theorem dX7_refused_16 : decode cX7_refused 16 = .ok (.iaload, 1) := by decide +kernel
theorem dX7_refused_17 : decode cX7_refused 17 = .ok (.ifCond .ge 11, 3) := by decide +kernel
theorem dX7_refused_20 : decode cX7_refused 20 = .ok (.aload_n 0, 1) := by decide +kernel
theorem dX7_refused_21 : decode cX7_refused 21 = .ok (.iconst 1, 1) := by decide +kernel
theorem dX7_refused_22 : decode cX7_refused 22 = .ok (.invokevirtual 76, 3) := by decide +kernel
theorem dX7_refused_25 : decode cX7_refused 25 = .ok (.goto 30, 3) := by decide +kernel
theorem dX7_refused_28 : decode cX7_refused 28 = .ok (.iload_n 2, 1) := by decide +kernel
theorem dX7_refused_29 : decode cX7_refused 29 = .ok (.i2l, 1) := by decide +kernel
theorem dX7_refused_30 : decode cX7_refused 30 = .ok (.lconst 0, 1) := by decide +kernel
theorem dX7_refused_31 : decode cX7_refused 31 = .ok (.aload_n 0, 1) := by decide +kernel
theorem dX7_refused_32 : decode cX7_refused 32 = .ok (.getfield 22, 3) := by decide +kernel
theorem dX7_refused_35 : decode cX7_refused 35 = .ok (.iload_n 1, 1) := by decide +kernel
theorem dX7_refused_36 : decode cX7_refused 36 = .ok (.iaload, 1) := by decide +kernel
theorem dX7_refused_37 : decode cX7_refused 37 = .ok (.iconst 1, 1) := by decide +kernel
theorem dX7_refused_38 : decode cX7_refused 38 = .ok (.isub, 1) := by decide +kernel
theorem dX7_refused_39 : decode cX7_refused 39 = .ok (.i2l, 1) := by decide +kernel
theorem dX7_refused_40 : decode cX7_refused 40 = .ok (.invokestatic 66, 3) := by decide +kernel
theorem dX7_refused_43 : decode cX7_refused 43 = .ok (.ifCond .eq 7, 3) := by decide +kernel
theorem dX7_refused_46 : decode cX7_refused 46 = .ok (.iconst 0, 1) := by decide +kernel
theorem dX7_refused_47 : decode cX7_refused 47 = .ok (.goto 8, 3) := by decide +kernel
theorem dX7_refused_50 : decode cX7_refused 50 = .ok (.aload_n 0, 1) := by decide +kernel
theorem dX7_refused_51 : decode cX7_refused 51 = .ok (.iconst 2, 1) := by decide +kernel
theorem dX7_refused_52 : decode cX7_refused 52 = .ok (.invokevirtual 76, 3) := by decide +kernel
theorem dX7_refused_55 : decode cX7_refused 55 = .ok (.ireturn, 1) := by decide +kernel
theorem dX7_lay_0 : decode cX7_lay 0 = .ok (.aload_n 0, 1) := by decide +kernel
theorem dX7_lay_1 : decode cX7_lay 1 = .ok (.iload_n 1, 1) := by decide +kernel
theorem dX7_lay_2 : decode cX7_lay 2 = .ok (.iload_n 2, 1) := by decide +kernel
theorem dX7_lay_3 : decode cX7_lay 3 = .ok (.invokevirtual 84, 3) := by decide +kernel
theorem dX7_lay_6 : decode cX7_lay 6 = .ok (.istore 4, 2) := by decide +kernel
theorem dX7_lay_8 : decode cX7_lay 8 = .ok (.iload 4, 2) := by decide +kernel
theorem dX7_lay_10 : decode cX7_lay 10 = .ok (.ifCond .eq 6, 3) := by decide +kernel
theorem dX7_lay_13 : decode cX7_lay 13 = .ok (.iload 4, 2) := by decide +kernel
theorem dX7_lay_15 : decode cX7_lay 15 = .ok (.ireturn, 1) := by decide +kernel
theorem dX7_lay_16 : decode cX7_lay 16 = .ok (.aload_n 0, 1) := by decide +kernel
theorem dX7_lay_17 : decode cX7_lay 17 = .ok (.getfield 25, 3) := by decide +kernel
theorem dX7_lay_20 : decode cX7_lay 20 = .ok (.bipush 40, 2) := by decide +kernel
theorem dX7_lay_22 : decode cX7_lay 22 = .ok (.iload_n 1, 1) := by decide +kernel
theorem dX7_lay_23 : decode cX7_lay 23 = .ok (.imul, 1) := by decide +kernel
theorem dX7_lay_24 : decode cX7_lay 24 = .ok (.iload_n 2, 1) := by decide +kernel
theorem dX7_lay_25 : decode cX7_lay 25 = .ok (.iadd, 1) := by decide +kernel
theorem dX7_lay_26 : decode cX7_lay 26 = .ok (.iaload, 1) := by decide +kernel
theorem dX7_lay_27 : decode cX7_lay 27 = .ok (.istore 5, 2) := by decide +kernel
theorem dX7_lay_29 : decode cX7_lay 29 = .ok (.aload_n 0, 1) := by decide +kernel
theorem dX7_lay_30 : decode cX7_lay 30 = .ok (.getfield 25, 3) := by decide +kernel
theorem dX7_lay_33 : decode cX7_lay 33 = .ok (.bipush 40, 2) := by decide +kernel
theorem dX7_lay_35 : decode cX7_lay 35 = .ok (.iload_n 1, 1) := by decide +kernel
theorem dX7_lay_36 : decode cX7_lay 36 = .ok (.imul, 1) := by decide +kernel
theorem dX7_lay_37 : decode cX7_lay 37 = .ok (.iload_n 2, 1) := by decide +kernel
theorem dX7_lay_38 : decode cX7_lay 38 = .ok (.iadd, 1) := by decide +kernel
theorem dX7_lay_39 : decode cX7_lay 39 = .ok (.iload_n 3, 1) := by decide +kernel
theorem dX7_lay_40 : decode cX7_lay 40 = .ok (.iastore, 1) := by decide +kernel
theorem dX7_lay_41 : decode cX7_lay 41 = .ok (.aload_n 0, 1) := by decide +kernel
theorem dX7_lay_42 : decode cX7_lay 42 = .ok (.iload 5, 2) := by decide +kernel
theorem dX7_lay_44 : decode cX7_lay 44 = .ok (.invokevirtual 88, 3) := by decide +kernel
theorem dX7_lay_47 : decode cX7_lay 47 = .ok (.ireturn, 1) := by decide +kernel
theorem dX7_at_0 : decode cX7_at 0 = .ok (.aload_n 0, 1) := by decide +kernel
theorem dX7_at_1 : decode cX7_at 1 = .ok (.iload_n 1, 1) := by decide +kernel
theorem dX7_at_2 : decode cX7_at 2 = .ok (.iload_n 2, 1) := by decide +kernel
theorem dX7_at_3 : decode cX7_at 3 = .ok (.invokevirtual 84, 3) := by decide +kernel
theorem dX7_at_6 : decode cX7_at 6 = .ok (.istore_n 3, 1) := by decide +kernel
theorem dX7_at_7 : decode cX7_at 7 = .ok (.iload_n 3, 1) := by decide +kernel
theorem dX7_at_8 : decode cX7_at 8 = .ok (.ifCond .eq 7, 3) := by decide +kernel
theorem dX7_at_11 : decode cX7_at 11 = .ok (.iload_n 3, 1) := by decide +kernel
theorem dX7_at_12 : decode cX7_at 12 = .ok (.goto 18, 3) := by decide +kernel
theorem dX7_at_15 : decode cX7_at 15 = .ok (.aload_n 0, 1) := by decide +kernel
theorem dX7_at_16 : decode cX7_at 16 = .ok (.aload_n 0, 1) := by decide +kernel
theorem dX7_at_17 : decode cX7_at 17 = .ok (.getfield 25, 3) := by decide +kernel
theorem dX7_at_20 : decode cX7_at 20 = .ok (.bipush 40, 2) := by decide +kernel
theorem dX7_at_22 : decode cX7_at 22 = .ok (.iload_n 1, 1) := by decide +kernel
theorem dX7_at_23 : decode cX7_at 23 = .ok (.imul, 1) := by decide +kernel
theorem dX7_at_24 : decode cX7_at 24 = .ok (.iload_n 2, 1) := by decide +kernel
theorem dX7_at_25 : decode cX7_at 25 = .ok (.iadd, 1) := by decide +kernel
theorem dX7_at_26 : decode cX7_at 26 = .ok (.iaload, 1) := by decide +kernel
theorem dX7_at_27 : decode cX7_at 27 = .ok (.invokevirtual 88, 3) := by decide +kernel
theorem dX7_at_30 : decode cX7_at 30 = .ok (.ireturn, 1) := by decide +kernel
theorem dX7_tear_0 : decode cX7_tear 0 = .ok (.iload_n 1, 1) := by decide +kernel
theorem dX7_tear_1 : decode cX7_tear 1 = .ok (.invokestatic 72, 3) := by decide +kernel
theorem dX7_tear_4 : decode cX7_tear 4 = .ok (.ifCond .ne 5, 3) := by decide +kernel
theorem dX7_tear_7 : decode cX7_tear 7 = .ok (.iconst (-1), 1) := by decide +kernel
theorem dX7_tear_8 : decode cX7_tear 8 = .ok (.ireturn, 1) := by decide +kernel
theorem dX7_tear_9 : decode cX7_tear 9 = .ok (.aload_n 0, 1) := by decide +kernel
theorem dX7_tear_10 : decode cX7_tear 10 = .ok (.getfield 22, 3) := by decide +kernel
theorem dX7_tear_13 : decode cX7_tear 13 = .ok (.iload_n 1, 1) := by decide +kernel
theorem dX7_tear_14 : decode cX7_tear 14 = .ok (.iaload, 1) := by decide +kernel
theorem dX7_tear_15 : decode cX7_tear 15 = .ok (.ifCond .ge 9, 3) := by decide +kernel
theorem dX7_tear_18 : decode cX7_tear 18 = .ok (.aload_n 0, 1) := by decide +kernel
theorem dX7_tear_19 : decode cX7_tear 19 = .ok (.iconst 1, 1) := by decide +kernel
theorem dX7_tear_20 : decode cX7_tear 20 = .ok (.invokevirtual 76, 3) := by decide +kernel
theorem dX7_tear_23 : decode cX7_tear 23 = .ok (.ireturn, 1) := by decide +kernel
theorem dX7_tear_24 : decode cX7_tear 24 = .ok (.aload_n 0, 1) := by decide +kernel
theorem dX7_tear_25 : decode cX7_tear 25 = .ok (.getfield 22, 3) := by decide +kernel
theorem dX7_tear_28 : decode cX7_tear 28 = .ok (.iload_n 1, 1) := by decide +kernel
theorem dX7_tear_29 : decode cX7_tear 29 = .ok (.iconst (-1), 1) := by decide +kernel
theorem dX7_tear_30 : decode cX7_tear 30 = .ok (.iastore, 1) := by decide +kernel
theorem dX7_tear_31 : decode cX7_tear 31 = .ok (.iconst 1, 1) := by decide +kernel
theorem dX7_tear_32 : decode cX7_tear 32 = .ok (.ireturn, 1) := by decide +kernel
theorem dX7_isSpan_0 : decode cX7_isSpan 0 = .ok (.iload_n 2, 1) := by decide +kernel
theorem dX7_isSpan_1 : decode cX7_isSpan 1 = .ok (.ifCond .lt 23, 3) := by decide +kernel
theorem dX7_isSpan_4 : decode cX7_isSpan 4 = .ok (.iload_n 2, 1) := by decide +kernel
theorem dX7_isSpan_5 : decode cX7_isSpan 5 = .ok (.i2l, 1) := by decide +kernel
theorem dX7_isSpan_6 : decode cX7_isSpan 6 = .ok (.iload_n 3, 1) := by decide +kernel
theorem dX7_isSpan_7 : decode cX7_isSpan 7 = .ok (.i2l, 1) := by decide +kernel
theorem dX7_isSpan_8 : decode cX7_isSpan 8 = .ok (.ladd, 1) := by decide +kernel
theorem dX7_isSpan_9 : decode cX7_isSpan 9 = .ok (.aload_n 0, 1) := by decide +kernel
theorem dX7_isSpan_10 : decode cX7_isSpan 10 = .ok (.getfield 22, 3) := by decide +kernel
theorem dX7_isSpan_13 : decode cX7_isSpan 13 = .ok (.iload_n 1, 1) := by decide +kernel
theorem dX7_isSpan_14 : decode cX7_isSpan 14 = .ok (.iaload, 1) := by decide +kernel
theorem dX7_isSpan_15 : decode cX7_isSpan 15 = .ok (.i2l, 1) := by decide +kernel
theorem dX7_isSpan_16 : decode cX7_isSpan 16 = .ok (.lcmp, 1) := by decide +kernel
theorem dX7_isSpan_17 : decode cX7_isSpan 17 = .ok (.ifCond .gt 7, 3) := by decide +kernel
theorem dX7_isSpan_20 : decode cX7_isSpan 20 = .ok (.iconst 1, 1) := by decide +kernel
theorem dX7_isSpan_21 : decode cX7_isSpan 21 = .ok (.goto 4, 3) := by decide +kernel
theorem dX7_isSpan_24 : decode cX7_isSpan 24 = .ok (.iconst 0, 1) := by decide +kernel
theorem dX7_isSpan_25 : decode cX7_isSpan 25 = .ok (.ireturn, 1) := by decide +kernel
theorem dX7_copy_0 : decode cX7_copy 0 = .ok (.iload_n 1, 1) := by decide +kernel
theorem dX7_copy_1 : decode cX7_copy 1 = .ok (.invokestatic 72, 3) := by decide +kernel
theorem dX7_copy_4 : decode cX7_copy 4 = .ok (.ifCond .eq 10, 3) := by decide +kernel
theorem dX7_copy_7 : decode cX7_copy 7 = .ok (.iload_n 3, 1) := by decide +kernel
theorem dX7_copy_8 : decode cX7_copy 8 = .ok (.invokestatic 72, 3) := by decide +kernel
theorem dX7_copy_11 : decode cX7_copy 11 = .ok (.ifCond .ne 5, 3) := by decide +kernel
theorem dX7_copy_14 : decode cX7_copy 14 = .ok (.iconst (-1), 1) := by decide +kernel
theorem dX7_copy_15 : decode cX7_copy 15 = .ok (.ireturn, 1) := by decide +kernel
theorem dX7_copy_16 : decode cX7_copy 16 = .ok (.iload 5, 2) := by decide +kernel
theorem dX7_copy_18 : decode cX7_copy 18 = .ok (.ifCond .ge 9, 3) := by decide +kernel
theorem dX7_copy_21 : decode cX7_copy 21 = .ok (.aload_n 0, 1) := by decide +kernel
theorem dX7_copy_22 : decode cX7_copy 22 = .ok (.iconst 5, 1) := by decide +kernel
theorem dX7_copy_23 : decode cX7_copy 23 = .ok (.invokevirtual 76, 3) := by decide +kernel
theorem dX7_copy_26 : decode cX7_copy 26 = .ok (.ireturn, 1) := by decide +kernel
theorem dX7_copy_27 : decode cX7_copy 27 = .ok (.aload_n 0, 1) := by decide +kernel
theorem dX7_copy_28 : decode cX7_copy 28 = .ok (.getfield 22, 3) := by decide +kernel
theorem dX7_copy_31 : decode cX7_copy 31 = .ok (.iload_n 1, 1) := by decide +kernel
theorem dX7_copy_32 : decode cX7_copy 32 = .ok (.iaload, 1) := by decide +kernel
theorem dX7_copy_33 : decode cX7_copy 33 = .ok (.ifCond .lt 12, 3) := by decide +kernel
theorem dX7_copy_36 : decode cX7_copy 36 = .ok (.aload_n 0, 1) := by decide +kernel
theorem dX7_copy_37 : decode cX7_copy 37 = .ok (.getfield 22, 3) := by decide +kernel
theorem dX7_copy_40 : decode cX7_copy 40 = .ok (.iload_n 3, 1) := by decide +kernel
theorem dX7_copy_41 : decode cX7_copy 41 = .ok (.iaload, 1) := by decide +kernel
theorem dX7_copy_42 : decode cX7_copy 42 = .ok (.ifCond .ge 9, 3) := by decide +kernel
theorem dX7_copy_45 : decode cX7_copy 45 = .ok (.aload_n 0, 1) := by decide +kernel
theorem dX7_copy_46 : decode cX7_copy 46 = .ok (.iconst 1, 1) := by decide +kernel
theorem dX7_copy_47 : decode cX7_copy 47 = .ok (.invokevirtual 76, 3) := by decide +kernel
theorem dX7_copy_50 : decode cX7_copy 50 = .ok (.ireturn, 1) := by decide +kernel
theorem dX7_copy_51 : decode cX7_copy 51 = .ok (.aload_n 0, 1) := by decide +kernel
theorem dX7_copy_52 : decode cX7_copy 52 = .ok (.iload_n 1, 1) := by decide +kernel
theorem dX7_copy_53 : decode cX7_copy 53 = .ok (.iload_n 2, 1) := by decide +kernel
theorem dX7_copy_54 : decode cX7_copy 54 = .ok (.iload 5, 2) := by decide +kernel
theorem dX7_copy_56 : decode cX7_copy 56 = .ok (.invokevirtual 91, 3) := by decide +kernel
theorem dX7_copy_59 : decode cX7_copy 59 = .ok (.ifCond .eq 15, 3) := by decide +kernel
theorem dX7_copy_62 : decode cX7_copy 62 = .ok (.aload_n 0, 1) := by decide +kernel
theorem dX7_copy_63 : decode cX7_copy 63 = .ok (.iload_n 3, 1) := by decide +kernel
theorem dX7_copy_64 : decode cX7_copy 64 = .ok (.iload 4, 2) := by decide +kernel
theorem dX7_copy_66 : decode cX7_copy 66 = .ok (.iload 5, 2) := by decide +kernel
theorem dX7_copy_68 : decode cX7_copy 68 = .ok (.invokevirtual 91, 3) := by decide +kernel
theorem dX7_copy_71 : decode cX7_copy 71 = .ok (.ifCond .ne 9, 3) := by decide +kernel
theorem dX7_copy_74 : decode cX7_copy 74 = .ok (.aload_n 0, 1) := by decide +kernel
theorem dX7_copy_75 : decode cX7_copy 75 = .ok (.iconst 2, 1) := by decide +kernel
theorem dX7_copy_76 : decode cX7_copy 76 = .ok (.invokevirtual 76, 3) := by decide +kernel
theorem dX7_copy_79 : decode cX7_copy 79 = .ok (.ireturn, 1) := by decide +kernel
theorem dX7_copy_80 : decode cX7_copy 80 = .ok (.iload_n 2, 1) := by decide +kernel
theorem dX7_copy_81 : decode cX7_copy 81 = .ok (.iload 4, 2) := by decide +kernel
theorem dX7_copy_83 : decode cX7_copy 83 = .ok (.if_icmp .ge 7, 3) := by decide +kernel
theorem dX7_copy_86 : decode cX7_copy 86 = .ok (.iconst 1, 1) := by decide +kernel
theorem dX7_copy_87 : decode cX7_copy 87 = .ok (.goto 4, 3) := by decide +kernel
theorem dX7_copy_90 : decode cX7_copy 90 = .ok (.iconst 0, 1) := by decide +kernel
theorem dX7_copy_91 : decode cX7_copy 91 = .ok (.istore 6, 2) := by decide +kernel
theorem dX7_copy_93 : decode cX7_copy 93 = .ok (.iconst 0, 1) := by decide +kernel
theorem dX7_copy_94 : decode cX7_copy 94 = .ok (.istore 7, 2) := by decide +kernel
theorem dX7_copy_96 : decode cX7_copy 96 = .ok (.iload 7, 2) := by decide +kernel
theorem dX7_copy_98 : decode cX7_copy 98 = .ok (.iload 5, 2) := by decide +kernel
theorem dX7_copy_100 : decode cX7_copy 100 = .ok (.if_icmp .ge 57, 3) := by decide +kernel
theorem dX7_copy_103 : decode cX7_copy 103 = .ok (.iload 6, 2) := by decide +kernel
theorem dX7_copy_105 : decode cX7_copy 105 = .ok (.ifCond .eq 13, 3) := by decide +kernel
theorem dX7_copy_108 : decode cX7_copy 108 = .ok (.iload 5, 2) := by decide +kernel
theorem dX7_copy_110 : decode cX7_copy 110 = .ok (.iconst 1, 1) := by decide +kernel
theorem dX7_copy_111 : decode cX7_copy 111 = .ok (.isub, 1) := by decide +kernel
theorem dX7_copy_112 : decode cX7_copy 112 = .ok (.iload 7, 2) := by decide +kernel
theorem dX7_copy_114 : decode cX7_copy 114 = .ok (.isub, 1) := by decide +kernel
theorem dX7_copy_115 : decode cX7_copy 115 = .ok (.goto 5, 3) := by decide +kernel
theorem dX7_copy_118 : decode cX7_copy 118 = .ok (.iload 7, 2) := by decide +kernel
theorem dX7_copy_120 : decode cX7_copy 120 = .ok (.istore 8, 2) := by decide +kernel
theorem dX7_copy_122 : decode cX7_copy 122 = .ok (.aload_n 0, 1) := by decide +kernel
theorem dX7_copy_123 : decode cX7_copy 123 = .ok (.getfield 25, 3) := by decide +kernel
theorem dX7_copy_126 : decode cX7_copy 126 = .ok (.bipush 40, 2) := by decide +kernel
theorem dX7_copy_128 : decode cX7_copy 128 = .ok (.iload_n 3, 1) := by decide +kernel
theorem dX7_copy_129 : decode cX7_copy 129 = .ok (.imul, 1) := by decide +kernel
theorem dX7_copy_130 : decode cX7_copy 130 = .ok (.iload 4, 2) := by decide +kernel
theorem dX7_copy_132 : decode cX7_copy 132 = .ok (.iadd, 1) := by decide +kernel
theorem dX7_copy_133 : decode cX7_copy 133 = .ok (.iload 8, 2) := by decide +kernel
theorem dX7_copy_135 : decode cX7_copy 135 = .ok (.iadd, 1) := by decide +kernel
theorem dX7_copy_136 : decode cX7_copy 136 = .ok (.aload_n 0, 1) := by decide +kernel
theorem dX7_copy_137 : decode cX7_copy 137 = .ok (.getfield 25, 3) := by decide +kernel
theorem dX7_copy_140 : decode cX7_copy 140 = .ok (.bipush 40, 2) := by decide +kernel
theorem dX7_copy_142 : decode cX7_copy 142 = .ok (.iload_n 1, 1) := by decide +kernel
theorem dX7_copy_143 : decode cX7_copy 143 = .ok (.imul, 1) := by decide +kernel
theorem dX7_copy_144 : decode cX7_copy 144 = .ok (.iload_n 2, 1) := by decide +kernel
theorem dX7_copy_145 : decode cX7_copy 145 = .ok (.iadd, 1) := by decide +kernel
theorem dX7_copy_146 : decode cX7_copy 146 = .ok (.iload 8, 2) := by decide +kernel
theorem dX7_copy_148 : decode cX7_copy 148 = .ok (.iadd, 1) := by decide +kernel
theorem dX7_copy_149 : decode cX7_copy 149 = .ok (.iaload, 1) := by decide +kernel
theorem dX7_copy_150 : decode cX7_copy 150 = .ok (.iastore, 1) := by decide +kernel
theorem dX7_copy_151 : decode cX7_copy 151 = .ok (.iinc 7 1, 3) := by decide +kernel
theorem dX7_copy_154 : decode cX7_copy 154 = .ok (.goto (-58), 3) := by decide +kernel
theorem dX7_copy_157 : decode cX7_copy 157 = .ok (.iconst 1, 1) := by decide +kernel
theorem dX7_copy_158 : decode cX7_copy 158 = .ok (.ireturn, 1) := by decide +kernel
theorem dX7_mean_0 : decode cX7_mean 0 = .ok (.iload_n 1, 1) := by decide +kernel
theorem dX7_mean_1 : decode cX7_mean 1 = .ok (.invokestatic 72, 3) := by decide +kernel
theorem dX7_mean_4 : decode cX7_mean 4 = .ok (.ifCond .ne 5, 3) := by decide +kernel
theorem dX7_mean_7 : decode cX7_mean 7 = .ok (.iconst (-1), 1) := by decide +kernel
theorem dX7_mean_8 : decode cX7_mean 8 = .ok (.ireturn, 1) := by decide +kernel
theorem dX7_mean_9 : decode cX7_mean 9 = .ok (.aload_n 0, 1) := by decide +kernel
theorem dX7_mean_10 : decode cX7_mean 10 = .ok (.getfield 22, 3) := by decide +kernel
theorem dX7_mean_13 : decode cX7_mean 13 = .ok (.iload_n 1, 1) := by decide +kernel
theorem dX7_mean_14 : decode cX7_mean 14 = .ok (.iaload, 1) := by decide +kernel
theorem dX7_mean_15 : decode cX7_mean 15 = .ok (.ifCond .ge 9, 3) := by decide +kernel
theorem dX7_mean_18 : decode cX7_mean 18 = .ok (.aload_n 0, 1) := by decide +kernel
theorem dX7_mean_19 : decode cX7_mean 19 = .ok (.iconst 1, 1) := by decide +kernel
theorem dX7_mean_20 : decode cX7_mean 20 = .ok (.invokevirtual 76, 3) := by decide +kernel
theorem dX7_mean_23 : decode cX7_mean 23 = .ok (.ireturn, 1) := by decide +kernel
theorem dX7_mean_24 : decode cX7_mean 24 = .ok (.aload_n 0, 1) := by decide +kernel
theorem dX7_mean_25 : decode cX7_mean 25 = .ok (.getfield 22, 3) := by decide +kernel
theorem dX7_mean_28 : decode cX7_mean 28 = .ok (.iload_n 1, 1) := by decide +kernel
theorem dX7_mean_29 : decode cX7_mean 29 = .ok (.iaload, 1) := by decide +kernel
theorem dX7_mean_30 : decode cX7_mean 30 = .ok (.ifCond .ne 9, 3) := by decide +kernel
theorem dX7_mean_33 : decode cX7_mean 33 = .ok (.aload_n 0, 1) := by decide +kernel
theorem dX7_mean_34 : decode cX7_mean 34 = .ok (.iconst 4, 1) := by decide +kernel
theorem dX7_mean_35 : decode cX7_mean 35 = .ok (.invokevirtual 76, 3) := by decide +kernel
theorem dX7_mean_38 : decode cX7_mean 38 = .ok (.ireturn, 1) := by decide +kernel
theorem dX7_mean_39 : decode cX7_mean 39 = .ok (.lconst 0, 1) := by decide +kernel
theorem dX7_mean_40 : decode cX7_mean 40 = .ok (.lstore_n 2, 1) := by decide +kernel
theorem dX7_mean_41 : decode cX7_mean 41 = .ok (.iconst 0, 1) := by decide +kernel
theorem dX7_mean_42 : decode cX7_mean 42 = .ok (.istore 4, 2) := by decide +kernel
theorem dX7_mean_44 : decode cX7_mean 44 = .ok (.iload 4, 2) := by decide +kernel
theorem dX7_mean_46 : decode cX7_mean 46 = .ok (.aload_n 0, 1) := by decide +kernel
theorem dX7_mean_47 : decode cX7_mean 47 = .ok (.getfield 22, 3) := by decide +kernel
theorem dX7_mean_50 : decode cX7_mean 50 = .ok (.iload_n 1, 1) := by decide +kernel
theorem dX7_mean_51 : decode cX7_mean 51 = .ok (.iaload, 1) := by decide +kernel
theorem dX7_mean_52 : decode cX7_mean 52 = .ok (.if_icmp .ge 25, 3) := by decide +kernel
theorem dX7_mean_55 : decode cX7_mean 55 = .ok (.lload_n 2, 1) := by decide +kernel
theorem dX7_mean_56 : decode cX7_mean 56 = .ok (.aload_n 0, 1) := by decide +kernel
theorem dX7_mean_57 : decode cX7_mean 57 = .ok (.getfield 25, 3) := by decide +kernel
theorem dX7_mean_60 : decode cX7_mean 60 = .ok (.bipush 40, 2) := by decide +kernel
theorem dX7_mean_62 : decode cX7_mean 62 = .ok (.iload_n 1, 1) := by decide +kernel
theorem dX7_mean_63 : decode cX7_mean 63 = .ok (.imul, 1) := by decide +kernel
theorem dX7_mean_64 : decode cX7_mean 64 = .ok (.iload 4, 2) := by decide +kernel
theorem dX7_mean_66 : decode cX7_mean 66 = .ok (.iadd, 1) := by decide +kernel
theorem dX7_mean_67 : decode cX7_mean 67 = .ok (.iaload, 1) := by decide +kernel
theorem dX7_mean_68 : decode cX7_mean 68 = .ok (.i2l, 1) := by decide +kernel
theorem dX7_mean_69 : decode cX7_mean 69 = .ok (.ladd, 1) := by decide +kernel
theorem dX7_mean_70 : decode cX7_mean 70 = .ok (.lstore_n 2, 1) := by decide +kernel
theorem dX7_mean_71 : decode cX7_mean 71 = .ok (.iinc 4 1, 3) := by decide +kernel
theorem dX7_mean_74 : decode cX7_mean 74 = .ok (.goto (-30), 3) := by decide +kernel
theorem dX7_mean_77 : decode cX7_mean 77 = .ok (.aload_n 0, 1) := by decide +kernel
theorem dX7_mean_78 : decode cX7_mean 78 = .ok (.lload_n 2, 1) := by decide +kernel
theorem dX7_mean_79 : decode cX7_mean 79 = .ok (.aload_n 0, 1) := by decide +kernel
theorem dX7_mean_80 : decode cX7_mean 80 = .ok (.getfield 22, 3) := by decide +kernel
theorem dX7_mean_83 : decode cX7_mean 83 = .ok (.iload_n 1, 1) := by decide +kernel
theorem dX7_mean_84 : decode cX7_mean 84 = .ok (.iaload, 1) := by decide +kernel
theorem dX7_mean_85 : decode cX7_mean 85 = .ok (.i2l, 1) := by decide +kernel
theorem dX7_mean_86 : decode cX7_mean 86 = .ok (.ldiv, 1) := by decide +kernel
theorem dX7_mean_87 : decode cX7_mean 87 = .ok (.l2i, 1) := by decide +kernel
theorem dX7_mean_88 : decode cX7_mean 88 = .ok (.invokevirtual 88, 3) := by decide +kernel
theorem dX7_mean_91 : decode cX7_mean 91 = .ok (.ireturn, 1) := by decide +kernel
theorem dX7_text_0 : decode cX7_text 0 = .ok (.iload_n 1, 1) := by decide +kernel
theorem dX7_text_1 : decode cX7_text 1 = .ok (.invokestatic 95, 3) := by decide +kernel
theorem dX7_text_4 : decode cX7_text 4 = .ok (.ifCond .eq 9, 3) := by decide +kernel
theorem dX7_text_7 : decode cX7_text 7 = .ok (.iload_n 2, 1) := by decide +kernel
theorem dX7_text_8 : decode cX7_text 8 = .ok (.bipush 80, 2) := by decide +kernel
theorem dX7_text_10 : decode cX7_text 10 = .ok (.if_icmp .le 5, 3) := by decide +kernel
theorem dX7_text_13 : decode cX7_text 13 = .ok (.iconst (-1), 1) := by decide +kernel
theorem dX7_text_14 : decode cX7_text 14 = .ok (.ireturn, 1) := by decide +kernel
theorem dX7_text_15 : decode cX7_text 15 = .ok (.iload_n 2, 1) := by decide +kernel
theorem dX7_text_16 : decode cX7_text 16 = .ok (.ifCond .ge 9, 3) := by decide +kernel
theorem dX7_text_19 : decode cX7_text 19 = .ok (.aload_n 0, 1) := by decide +kernel
theorem dX7_text_20 : decode cX7_text 20 = .ok (.iconst 5, 1) := by decide +kernel
theorem dX7_text_21 : decode cX7_text 21 = .ok (.invokevirtual 76, 3) := by decide +kernel
theorem dX7_text_24 : decode cX7_text 24 = .ok (.ireturn, 1) := by decide +kernel
theorem dX7_text_25 : decode cX7_text 25 = .ok (.aload_n 0, 1) := by decide +kernel
theorem dX7_text_26 : decode cX7_text 26 = .ok (.getfield 28, 3) := by decide +kernel
theorem dX7_text_29 : decode cX7_text 29 = .ok (.iload_n 1, 1) := by decide +kernel
theorem dX7_text_30 : decode cX7_text 30 = .ok (.iload_n 2, 1) := by decide +kernel
theorem dX7_text_31 : decode cX7_text 31 = .ok (.iastore, 1) := by decide +kernel
theorem dX7_text_32 : decode cX7_text 32 = .ok (.iconst 0, 1) := by decide +kernel
theorem dX7_text_33 : decode cX7_text 33 = .ok (.istore_n 3, 1) := by decide +kernel
theorem dX7_text_34 : decode cX7_text 34 = .ok (.iload_n 3, 1) := by decide +kernel
theorem dX7_text_35 : decode cX7_text 35 = .ok (.bipush 80, 2) := by decide +kernel
theorem dX7_text_37 : decode cX7_text 37 = .ok (.if_icmp .ge 22, 3) := by decide +kernel
theorem dX7_text_40 : decode cX7_text 40 = .ok (.aload_n 0, 1) := by decide +kernel
theorem dX7_text_41 : decode cX7_text 41 = .ok (.getfield 31, 3) := by decide +kernel
theorem dX7_text_44 : decode cX7_text 44 = .ok (.bipush 80, 2) := by decide +kernel
theorem dX7_text_46 : decode cX7_text 46 = .ok (.iload_n 1, 1) := by decide +kernel
theorem dX7_text_47 : decode cX7_text 47 = .ok (.imul, 1) := by decide +kernel
theorem dX7_text_48 : decode cX7_text 48 = .ok (.iload_n 3, 1) := by decide +kernel
theorem dX7_text_49 : decode cX7_text 49 = .ok (.iadd, 1) := by decide +kernel
theorem dX7_text_50 : decode cX7_text 50 = .ok (.bipush 32, 2) := by decide +kernel
theorem dX7_text_52 : decode cX7_text 52 = .ok (.iastore, 1) := by decide +kernel
theorem dX7_text_53 : decode cX7_text 53 = .ok (.iinc 3 1, 3) := by decide +kernel
theorem dX7_text_56 : decode cX7_text 56 = .ok (.goto (-22), 3) := by decide +kernel
theorem dX7_text_59 : decode cX7_text 59 = .ok (.iload_n 2, 1) := by decide +kernel
theorem dX7_text_60 : decode cX7_text 60 = .ok (.ireturn, 1) := by decide +kernel
theorem dX7_put_0 : decode cX7_put 0 = .ok (.iload_n 1, 1) := by decide +kernel
theorem dX7_put_1 : decode cX7_put 1 = .ok (.invokestatic 95, 3) := by decide +kernel
theorem dX7_put_4 : decode cX7_put 4 = .ok (.ifCond .ne 5, 3) := by decide +kernel
theorem dX7_put_7 : decode cX7_put 7 = .ok (.iconst (-1), 1) := by decide +kernel
theorem dX7_put_8 : decode cX7_put 8 = .ok (.ireturn, 1) := by decide +kernel
theorem dX7_put_9 : decode cX7_put 9 = .ok (.aload_n 0, 1) := by decide +kernel
theorem dX7_put_10 : decode cX7_put 10 = .ok (.getfield 28, 3) := by decide +kernel
theorem dX7_put_13 : decode cX7_put 13 = .ok (.iload_n 1, 1) := by decide +kernel
theorem dX7_put_14 : decode cX7_put 14 = .ok (.iaload, 1) := by decide +kernel
theorem dX7_put_15 : decode cX7_put 15 = .ok (.ifCond .ge 9, 3) := by decide +kernel
theorem dX7_put_18 : decode cX7_put 18 = .ok (.aload_n 0, 1) := by decide +kernel
theorem dX7_put_19 : decode cX7_put 19 = .ok (.iconst 1, 1) := by decide +kernel
theorem dX7_put_20 : decode cX7_put 20 = .ok (.invokevirtual 76, 3) := by decide +kernel
theorem dX7_put_23 : decode cX7_put 23 = .ok (.ireturn, 1) := by decide +kernel
theorem dX7_put_24 : decode cX7_put 24 = .ok (.iload_n 2, 1) := by decide +kernel
theorem dX7_put_25 : decode cX7_put 25 = .ok (.i2l, 1) := by decide +kernel
theorem dX7_put_26 : decode cX7_put 26 = .ok (.lconst 0, 1) := by decide +kernel
theorem dX7_put_27 : decode cX7_put 27 = .ok (.aload_n 0, 1) := by decide +kernel
theorem dX7_put_28 : decode cX7_put 28 = .ok (.getfield 28, 3) := by decide +kernel
theorem dX7_put_31 : decode cX7_put 31 = .ok (.iload_n 1, 1) := by decide +kernel
theorem dX7_put_32 : decode cX7_put 32 = .ok (.iaload, 1) := by decide +kernel
theorem dX7_put_33 : decode cX7_put 33 = .ok (.iconst 1, 1) := by decide +kernel
theorem dX7_put_34 : decode cX7_put 34 = .ok (.isub, 1) := by decide +kernel
theorem dX7_put_35 : decode cX7_put 35 = .ok (.i2l, 1) := by decide +kernel
theorem dX7_put_36 : decode cX7_put 36 = .ok (.invokestatic 66, 3) := by decide +kernel
theorem dX7_put_39 : decode cX7_put 39 = .ok (.ifCond .ne 9, 3) := by decide +kernel
theorem dX7_put_42 : decode cX7_put 42 = .ok (.aload_n 0, 1) := by decide +kernel
theorem dX7_put_43 : decode cX7_put 43 = .ok (.iconst 2, 1) := by decide +kernel
theorem dX7_put_44 : decode cX7_put 44 = .ok (.invokevirtual 76, 3) := by decide +kernel
theorem dX7_put_47 : decode cX7_put 47 = .ok (.ireturn, 1) := by decide +kernel
theorem dX7_put_48 : decode cX7_put 48 = .ok (.aload_n 0, 1) := by decide +kernel
theorem dX7_put_49 : decode cX7_put 49 = .ok (.getfield 31, 3) := by decide +kernel
theorem dX7_put_52 : decode cX7_put 52 = .ok (.bipush 80, 2) := by decide +kernel
theorem dX7_put_54 : decode cX7_put 54 = .ok (.iload_n 1, 1) := by decide +kernel
theorem dX7_put_55 : decode cX7_put 55 = .ok (.imul, 1) := by decide +kernel
theorem dX7_put_56 : decode cX7_put 56 = .ok (.iload_n 2, 1) := by decide +kernel
theorem dX7_put_57 : decode cX7_put 57 = .ok (.iadd, 1) := by decide +kernel
theorem dX7_put_58 : decode cX7_put 58 = .ok (.iaload, 1) := by decide +kernel
theorem dX7_put_59 : decode cX7_put 59 = .ok (.istore 4, 2) := by decide +kernel
theorem dX7_put_61 : decode cX7_put 61 = .ok (.aload_n 0, 1) := by decide +kernel
theorem dX7_put_62 : decode cX7_put 62 = .ok (.getfield 31, 3) := by decide +kernel
theorem dX7_put_65 : decode cX7_put 65 = .ok (.bipush 80, 2) := by decide +kernel
theorem dX7_put_67 : decode cX7_put 67 = .ok (.iload_n 1, 1) := by decide +kernel
theorem dX7_put_68 : decode cX7_put 68 = .ok (.imul, 1) := by decide +kernel
theorem dX7_put_69 : decode cX7_put 69 = .ok (.iload_n 2, 1) := by decide +kernel
theorem dX7_put_70 : decode cX7_put 70 = .ok (.iadd, 1) := by decide +kernel
theorem dX7_put_71 : decode cX7_put 71 = .ok (.iload_n 3, 1) := by decide +kernel
theorem dX7_put_72 : decode cX7_put 72 = .ok (.i2b, 1) := by decide +kernel
theorem dX7_put_73 : decode cX7_put 73 = .ok (.iastore, 1) := by decide +kernel
theorem dX7_put_74 : decode cX7_put 74 = .ok (.iload 4, 2) := by decide +kernel
theorem dX7_put_76 : decode cX7_put 76 = .ok (.sipush 1000, 3) := by decide +kernel
theorem dX7_put_79 : decode cX7_put 79 = .ok (.iadd, 1) := by decide +kernel
theorem dX7_put_80 : decode cX7_put 80 = .ok (.ireturn, 1) := by decide +kernel
theorem dX7_here_0 : decode cX7_here 0 = .ok (.aload_n 0, 1) := by decide +kernel
theorem dX7_here_1 : decode cX7_here 1 = .ok (.getfield 31, 3) := by decide +kernel
theorem dX7_here_4 : decode cX7_here 4 = .ok (.aload_n 0, 1) := by decide +kernel
theorem dX7_here_5 : decode cX7_here 5 = .ok (.getfield 98, 3) := by decide +kernel
theorem dX7_here_8 : decode cX7_here 8 = .ok (.aload_n 0, 1) := by decide +kernel
theorem dX7_here_9 : decode cX7_here 9 = .ok (.getfield 101, 3) := by decide +kernel
theorem dX7_here_12 : decode cX7_here 12 = .ok (.iadd, 1) := by decide +kernel
theorem dX7_here_13 : decode cX7_here 13 = .ok (.iaload, 1) := by decide +kernel
theorem dX7_here_14 : decode cX7_here 14 = .ok (.ireturn, 1) := by decide +kernel
theorem dX7_skip_0 : decode cX7_skip 0 = .ok (.aload_n 0, 1) := by decide +kernel
theorem dX7_skip_1 : decode cX7_skip 1 = .ok (.getfield 101, 3) := by decide +kernel
theorem dX7_skip_4 : decode cX7_skip 4 = .ok (.aload_n 0, 1) := by decide +kernel
theorem dX7_skip_5 : decode cX7_skip 5 = .ok (.getfield 104, 3) := by decide +kernel
theorem dX7_skip_8 : decode cX7_skip 8 = .ok (.if_icmp .ge 25, 3) := by decide +kernel
theorem dX7_skip_11 : decode cX7_skip 11 = .ok (.aload_n 0, 1) := by decide +kernel
theorem dX7_skip_12 : decode cX7_skip 12 = .ok (.invokevirtual 107, 3) := by decide +kernel
theorem dX7_skip_15 : decode cX7_skip 15 = .ok (.bipush 32, 2) := by decide +kernel
theorem dX7_skip_17 : decode cX7_skip 17 = .ok (.if_icmp .ne 16, 3) := by decide +kernel
theorem dX7_skip_20 : decode cX7_skip 20 = .ok (.aload_n 0, 1) := by decide +kernel
theorem dX7_skip_21 : decode cX7_skip 21 = .ok (.dup, 1) := by decide +kernel
theorem dX7_skip_22 : decode cX7_skip 22 = .ok (.getfield 101, 3) := by decide +kernel
theorem dX7_skip_25 : decode cX7_skip 25 = .ok (.iconst 1, 1) := by decide +kernel
theorem dX7_skip_26 : decode cX7_skip 26 = .ok (.iadd, 1) := by decide +kernel
theorem dX7_skip_27 : decode cX7_skip 27 = .ok (.putfield 101, 3) := by decide +kernel
theorem dX7_skip_30 : decode cX7_skip 30 = .ok (.goto (-30), 3) := by decide +kernel
theorem dX7_skip_33 : decode cX7_skip 33 = .ok (.return_, 1) := by decide +kernel
theorem dX7_figure_0 : decode cX7_figure 0 = .ok (.aload_n 0, 1) := by decide +kernel
theorem dX7_figure_1 : decode cX7_figure 1 = .ok (.getfield 101, 3) := by decide +kernel
theorem dX7_figure_4 : decode cX7_figure 4 = .ok (.aload_n 0, 1) := by decide +kernel
theorem dX7_figure_5 : decode cX7_figure 5 = .ok (.getfield 104, 3) := by decide +kernel
theorem dX7_figure_8 : decode cX7_figure 8 = .ok (.if_icmp .eq 24, 3) := by decide +kernel
theorem dX7_figure_11 : decode cX7_figure 11 = .ok (.aload_n 0, 1) := by decide +kernel
theorem dX7_figure_12 : decode cX7_figure 12 = .ok (.invokevirtual 107, 3) := by decide +kernel
theorem dX7_figure_15 : decode cX7_figure 15 = .ok (.i2l, 1) := by decide +kernel
theorem dX7_figure_16 : decode cX7_figure 16 = .ok (.bipush 48, 2) := by decide +kernel
theorem dX7_figure_18 : decode cX7_figure 18 = .ok (.iload_n 1, 1) := by decide +kernel
theorem dX7_figure_19 : decode cX7_figure 19 = .ok (.iadd, 1) := by decide +kernel
theorem dX7_figure_20 : decode cX7_figure 20 = .ok (.i2l, 1) := by decide +kernel
theorem dX7_figure_21 : decode cX7_figure 21 = .ok (.bipush 48, 2) := by decide +kernel
theorem dX7_figure_23 : decode cX7_figure 23 = .ok (.iload_n 2, 1) := by decide +kernel
theorem dX7_figure_24 : decode cX7_figure 24 = .ok (.iadd, 1) := by decide +kernel
theorem dX7_figure_25 : decode cX7_figure 25 = .ok (.i2l, 1) := by decide +kernel
theorem dX7_figure_26 : decode cX7_figure 26 = .ok (.invokestatic 66, 3) := by decide +kernel
theorem dX7_figure_29 : decode cX7_figure 29 = .ok (.ifCond .ne 6, 3) := by decide +kernel
theorem dX7_figure_32 : decode cX7_figure 32 = .ok (.bipush (-9), 2) := by decide +kernel
theorem dX7_figure_34 : decode cX7_figure 34 = .ok (.ireturn, 1) := by decide +kernel
theorem dX7_figure_35 : decode cX7_figure 35 = .ok (.aload_n 0, 1) := by decide +kernel
theorem dX7_figure_36 : decode cX7_figure 36 = .ok (.dup, 1) := by decide +kernel
theorem dX7_figure_37 : decode cX7_figure 37 = .ok (.getfield 101, 3) := by decide +kernel
theorem dX7_figure_40 : decode cX7_figure 40 = .ok (.iconst 1, 1) := by decide +kernel
theorem dX7_figure_41 : decode cX7_figure 41 = .ok (.iadd, 1) := by decide +kernel
theorem dX7_figure_42 : decode cX7_figure 42 = .ok (.putfield 101, 3) := by decide +kernel
theorem dX7_figure_45 : decode cX7_figure 45 = .ok (.aload_n 0, 1) := by decide +kernel
theorem dX7_figure_46 : decode cX7_figure 46 = .ok (.getfield 31, 3) := by decide +kernel
theorem dX7_figure_49 : decode cX7_figure 49 = .ok (.aload_n 0, 1) := by decide +kernel
theorem dX7_figure_50 : decode cX7_figure 50 = .ok (.getfield 98, 3) := by decide +kernel
theorem dX7_figure_53 : decode cX7_figure 53 = .ok (.aload_n 0, 1) := by decide +kernel
theorem dX7_figure_54 : decode cX7_figure 54 = .ok (.getfield 101, 3) := by decide +kernel
theorem dX7_figure_57 : decode cX7_figure 57 = .ok (.iadd, 1) := by decide +kernel
theorem dX7_figure_58 : decode cX7_figure 58 = .ok (.iconst 1, 1) := by decide +kernel
theorem dX7_figure_59 : decode cX7_figure 59 = .ok (.isub, 1) := by decide +kernel
theorem dX7_figure_60 : decode cX7_figure 60 = .ok (.iaload, 1) := by decide +kernel
theorem dX7_figure_61 : decode cX7_figure 61 = .ok (.bipush 48, 2) := by decide +kernel
theorem dX7_figure_63 : decode cX7_figure 63 = .ok (.isub, 1) := by decide +kernel
theorem dX7_figure_64 : decode cX7_figure 64 = .ok (.ireturn, 1) := by decide +kernel
theorem dX7_readsWell_0 : decode cX7_readsWell 0 = .ok (.aload_n 0, 1) := by decide +kernel
theorem dX7_readsWell_1 : decode cX7_readsWell 1 = .ok (.invokevirtual 111, 3) := by decide +kernel
theorem dX7_readsWell_4 : decode cX7_readsWell 4 = .ok (.aload_n 0, 1) := by decide +kernel
theorem dX7_readsWell_5 : decode cX7_readsWell 5 = .ok (.getfield 101, 3) := by decide +kernel
theorem dX7_readsWell_8 : decode cX7_readsWell 8 = .ok (.aload_n 0, 1) := by decide +kernel
theorem dX7_readsWell_9 : decode cX7_readsWell 9 = .ok (.getfield 104, 3) := by decide +kernel
theorem dX7_readsWell_12 : decode cX7_readsWell 12 = .ok (.if_icmp .eq 12, 3) := by decide +kernel
theorem dX7_readsWell_15 : decode cX7_readsWell 15 = .ok (.aload_n 0, 1) := by decide +kernel
theorem dX7_readsWell_16 : decode cX7_readsWell 16 = .ok (.invokevirtual 107, 3) := by decide +kernel
theorem dX7_readsWell_19 : decode cX7_readsWell 19 = .ok (.bipush 113, 2) := by decide +kernel
theorem dX7_readsWell_21 : decode cX7_readsWell 21 = .ok (.if_icmp .eq 5, 3) := by decide +kernel
theorem dX7_readsWell_24 : decode cX7_readsWell 24 = .ok (.iconst 0, 1) := by decide +kernel
theorem dX7_readsWell_25 : decode cX7_readsWell 25 = .ok (.ireturn, 1) := by decide +kernel
theorem dX7_readsWell_26 : decode cX7_readsWell 26 = .ok (.aload_n 0, 1) := by decide +kernel
theorem dX7_readsWell_27 : decode cX7_readsWell 27 = .ok (.dup, 1) := by decide +kernel
theorem dX7_readsWell_28 : decode cX7_readsWell 28 = .ok (.getfield 101, 3) := by decide +kernel
theorem dX7_readsWell_31 : decode cX7_readsWell 31 = .ok (.iconst 1, 1) := by decide +kernel
theorem dX7_readsWell_32 : decode cX7_readsWell 32 = .ok (.iadd, 1) := by decide +kernel
theorem dX7_readsWell_33 : decode cX7_readsWell 33 = .ok (.putfield 101, 3) := by decide +kernel
theorem dX7_readsWell_36 : decode cX7_readsWell 36 = .ok (.aload_n 0, 1) := by decide +kernel
theorem dX7_readsWell_37 : decode cX7_readsWell 37 = .ok (.aload_n 0, 1) := by decide +kernel
theorem dX7_readsWell_38 : decode cX7_readsWell 38 = .ok (.iconst 1, 1) := by decide +kernel
theorem dX7_readsWell_39 : decode cX7_readsWell 39 = .ok (.bipush 9, 2) := by decide +kernel
theorem dX7_readsWell_41 : decode cX7_readsWell 41 = .ok (.invokevirtual 114, 3) := by decide +kernel
theorem dX7_readsWell_44 : decode cX7_readsWell 44 = .ok (.putfield 117, 3) := by decide +kernel
theorem dX7_readsWell_47 : decode cX7_readsWell 47 = .ok (.aload_n 0, 1) := by decide +kernel
theorem dX7_readsWell_48 : decode cX7_readsWell 48 = .ok (.getfield 117, 3) := by decide +kernel
theorem dX7_readsWell_51 : decode cX7_readsWell 51 = .ok (.bipush (-9), 2) := by decide +kernel
theorem dX7_readsWell_53 : decode cX7_readsWell 53 = .ok (.if_icmp .ne 8, 3) := by decide +kernel
theorem dX7_readsWell_56 : decode cX7_readsWell 56 = .ok (.bipush (-9), 2) := by decide +kernel
theorem dX7_readsWell_58 : decode cX7_readsWell 58 = .ok (.goto 10, 3) := by decide +kernel
theorem dX7_readsWell_61 : decode cX7_readsWell 61 = .ok (.aload_n 0, 1) := by decide +kernel
theorem dX7_readsWell_62 : decode cX7_readsWell 62 = .ok (.iconst 0, 1) := by decide +kernel
theorem dX7_readsWell_63 : decode cX7_readsWell 63 = .ok (.bipush 9, 2) := by decide +kernel
theorem dX7_readsWell_65 : decode cX7_readsWell 65 = .ok (.invokevirtual 114, 3) := by decide +kernel
theorem dX7_readsWell_68 : decode cX7_readsWell 68 = .ok (.istore_n 1, 1) := by decide +kernel
theorem dX7_readsWell_69 : decode cX7_readsWell 69 = .ok (.iload_n 1, 1) := by decide +kernel
theorem dX7_readsWell_70 : decode cX7_readsWell 70 = .ok (.bipush (-9), 2) := by decide +kernel
theorem dX7_readsWell_72 : decode cX7_readsWell 72 = .ok (.if_icmp .ne 8, 3) := by decide +kernel
theorem dX7_readsWell_75 : decode cX7_readsWell 75 = .ok (.bipush (-9), 2) := by decide +kernel
theorem dX7_readsWell_77 : decode cX7_readsWell 77 = .ok (.goto 10, 3) := by decide +kernel
theorem dX7_readsWell_80 : decode cX7_readsWell 80 = .ok (.aload_n 0, 1) := by decide +kernel
theorem dX7_readsWell_81 : decode cX7_readsWell 81 = .ok (.iconst 0, 1) := by decide +kernel
theorem dX7_readsWell_82 : decode cX7_readsWell 82 = .ok (.bipush 9, 2) := by decide +kernel
theorem dX7_readsWell_84 : decode cX7_readsWell 84 = .ok (.invokevirtual 114, 3) := by decide +kernel
theorem dX7_readsWell_87 : decode cX7_readsWell 87 = .ok (.istore_n 2, 1) := by decide +kernel
theorem dX7_readsWell_88 : decode cX7_readsWell 88 = .ok (.aload_n 0, 1) := by decide +kernel
theorem dX7_readsWell_89 : decode cX7_readsWell 89 = .ok (.bipush 10, 2) := by decide +kernel
theorem dX7_readsWell_91 : decode cX7_readsWell 91 = .ok (.iload_n 1, 1) := by decide +kernel
theorem dX7_readsWell_92 : decode cX7_readsWell 92 = .ok (.imul, 1) := by decide +kernel
theorem dX7_readsWell_93 : decode cX7_readsWell 93 = .ok (.iload_n 2, 1) := by decide +kernel
theorem dX7_readsWell_94 : decode cX7_readsWell 94 = .ok (.iadd, 1) := by decide +kernel
theorem dX7_readsWell_95 : decode cX7_readsWell 95 = .ok (.putfield 120, 3) := by decide +kernel
theorem dX7_readsWell_98 : decode cX7_readsWell 98 = .ok (.aload_n 0, 1) := by decide +kernel
theorem dX7_readsWell_99 : decode cX7_readsWell 99 = .ok (.iload_n 2, 1) := by decide +kernel
theorem dX7_readsWell_100 : decode cX7_readsWell 100 = .ok (.bipush (-9), 2) := by decide +kernel
theorem dX7_readsWell_102 : decode cX7_readsWell 102 = .ok (.if_icmp .ne 8, 3) := by decide +kernel
theorem dX7_readsWell_105 : decode cX7_readsWell 105 = .ok (.bipush (-9), 2) := by decide +kernel
theorem dX7_readsWell_107 : decode cX7_readsWell 107 = .ok (.goto 10, 3) := by decide +kernel
theorem dX7_readsWell_110 : decode cX7_readsWell 110 = .ok (.aload_n 0, 1) := by decide +kernel
theorem dX7_readsWell_111 : decode cX7_readsWell 111 = .ok (.iconst 0, 1) := by decide +kernel
theorem dX7_readsWell_112 : decode cX7_readsWell 112 = .ok (.bipush 9, 2) := by decide +kernel
theorem dX7_readsWell_114 : decode cX7_readsWell 114 = .ok (.invokevirtual 114, 3) := by decide +kernel
theorem dX7_readsWell_117 : decode cX7_readsWell 117 = .ok (.putfield 123, 3) := by decide +kernel
theorem dX7_readsWell_120 : decode cX7_readsWell 120 = .ok (.aload_n 0, 1) := by decide +kernel
theorem dX7_readsWell_121 : decode cX7_readsWell 121 = .ok (.getfield 123, 3) := by decide +kernel
theorem dX7_readsWell_124 : decode cX7_readsWell 124 = .ok (.bipush (-9), 2) := by decide +kernel
theorem dX7_readsWell_126 : decode cX7_readsWell 126 = .ok (.if_icmp .eq 7, 3) := by decide +kernel
theorem dX7_readsWell_129 : decode cX7_readsWell 129 = .ok (.iconst 1, 1) := by decide +kernel
theorem dX7_readsWell_130 : decode cX7_readsWell 130 = .ok (.goto 4, 3) := by decide +kernel
theorem dX7_readsWell_133 : decode cX7_readsWell 133 = .ok (.iconst 0, 1) := by decide +kernel
theorem dX7_readsWell_134 : decode cX7_readsWell 134 = .ok (.ireturn, 1) := by decide +kernel
theorem dX7_kindOfLetter_0 : decode cX7_kindOfLetter 0 = .ok (.iload_n 0, 1) := by decide +kernel
theorem dX7_kindOfLetter_1 : decode cX7_kindOfLetter 1 = .ok (.bipush 104, 2) := by decide +kernel
theorem dX7_kindOfLetter_3 : decode cX7_kindOfLetter 3 = .ok (.if_icmp .ne 7, 3) := by decide +kernel
theorem dX7_kindOfLetter_6 : decode cX7_kindOfLetter 6 = .ok (.iconst 0, 1) := by decide +kernel
theorem dX7_kindOfLetter_7 : decode cX7_kindOfLetter 7 = .ok (.goto 55, 3) := by decide +kernel
theorem dX7_kindOfLetter_10 : decode cX7_kindOfLetter 10 = .ok (.iload_n 0, 1) := by decide +kernel
theorem dX7_kindOfLetter_11 : decode cX7_kindOfLetter 11 = .ok (.bipush 99, 2) := by decide +kernel
theorem dX7_kindOfLetter_13 : decode cX7_kindOfLetter 13 = .ok (.if_icmp .ne 7, 3) := by decide +kernel
theorem dX7_kindOfLetter_16 : decode cX7_kindOfLetter 16 = .ok (.iconst 1, 1) := by decide +kernel
theorem dX7_kindOfLetter_17 : decode cX7_kindOfLetter 17 = .ok (.goto 45, 3) := by decide +kernel
theorem dX7_kindOfLetter_20 : decode cX7_kindOfLetter 20 = .ok (.iload_n 0, 1) := by decide +kernel
theorem dX7_kindOfLetter_21 : decode cX7_kindOfLetter 21 = .ok (.bipush 114, 2) := by decide +kernel
theorem dX7_kindOfLetter_23 : decode cX7_kindOfLetter 23 = .ok (.if_icmp .ne 7, 3) := by decide +kernel
theorem dX7_kindOfLetter_26 : decode cX7_kindOfLetter 26 = .ok (.iconst 2, 1) := by decide +kernel
theorem dX7_kindOfLetter_27 : decode cX7_kindOfLetter 27 = .ok (.goto 35, 3) := by decide +kernel
theorem dX7_kindOfLetter_30 : decode cX7_kindOfLetter 30 = .ok (.iload_n 0, 1) := by decide +kernel
theorem dX7_kindOfLetter_31 : decode cX7_kindOfLetter 31 = .ok (.bipush 100, 2) := by decide +kernel
theorem dX7_kindOfLetter_33 : decode cX7_kindOfLetter 33 = .ok (.if_icmp .ne 7, 3) := by decide +kernel
theorem dX7_kindOfLetter_36 : decode cX7_kindOfLetter 36 = .ok (.iconst 3, 1) := by decide +kernel
theorem dX7_kindOfLetter_37 : decode cX7_kindOfLetter 37 = .ok (.goto 25, 3) := by decide +kernel
theorem dX7_kindOfLetter_40 : decode cX7_kindOfLetter 40 = .ok (.iload_n 0, 1) := by decide +kernel
theorem dX7_kindOfLetter_41 : decode cX7_kindOfLetter 41 = .ok (.bipush 115, 2) := by decide +kernel
theorem dX7_kindOfLetter_43 : decode cX7_kindOfLetter 43 = .ok (.if_icmp .ne 7, 3) := by decide +kernel
theorem dX7_kindOfLetter_46 : decode cX7_kindOfLetter 46 = .ok (.iconst 4, 1) := by decide +kernel
theorem dX7_kindOfLetter_47 : decode cX7_kindOfLetter 47 = .ok (.goto 15, 3) := by decide +kernel
theorem dX7_kindOfLetter_50 : decode cX7_kindOfLetter 50 = .ok (.iload_n 0, 1) := by decide +kernel
theorem dX7_kindOfLetter_51 : decode cX7_kindOfLetter 51 = .ok (.bipush 109, 2) := by decide +kernel
theorem dX7_kindOfLetter_53 : decode cX7_kindOfLetter 53 = .ok (.if_icmp .ne 7, 3) := by decide +kernel
theorem dX7_kindOfLetter_56 : decode cX7_kindOfLetter 56 = .ok (.iconst 5, 1) := by decide +kernel
theorem dX7_kindOfLetter_57 : decode cX7_kindOfLetter 57 = .ok (.goto 5, 3) := by decide +kernel
theorem dX7_kindOfLetter_60 : decode cX7_kindOfLetter 60 = .ok (.bipush (-9), 2) := by decide +kernel
theorem dX7_kindOfLetter_62 : decode cX7_kindOfLetter 62 = .ok (.ireturn, 1) := by decide +kernel
theorem dX7_readsHouse_0 : decode cX7_readsHouse 0 = .ok (.aload_n 0, 1) := by decide +kernel
theorem dX7_readsHouse_1 : decode cX7_readsHouse 1 = .ok (.invokevirtual 107, 3) := by decide +kernel
theorem dX7_readsHouse_4 : decode cX7_readsHouse 4 = .ok (.invokestatic 126, 3) := by decide +kernel
theorem dX7_readsHouse_7 : decode cX7_readsHouse 7 = .ok (.istore_n 1, 1) := by decide +kernel
theorem dX7_readsHouse_8 : decode cX7_readsHouse 8 = .ok (.iload_n 1, 1) := by decide +kernel
theorem dX7_readsHouse_9 : decode cX7_readsHouse 9 = .ok (.bipush (-9), 2) := by decide +kernel
theorem dX7_readsHouse_11 : decode cX7_readsHouse 11 = .ok (.if_icmp .eq 19, 3) := by decide +kernel
theorem dX7_readsHouse_14 : decode cX7_readsHouse 14 = .ok (.aload_n 0, 1) := by decide +kernel
theorem dX7_readsHouse_15 : decode cX7_readsHouse 15 = .ok (.getfield 129, 3) := by decide +kernel
theorem dX7_readsHouse_18 : decode cX7_readsHouse 18 = .ok (.bipush 7, 2) := by decide +kernel
theorem dX7_readsHouse_20 : decode cX7_readsHouse 20 = .ok (.if_icmp .eq 10, 3) := by decide +kernel
theorem dX7_readsHouse_23 : decode cX7_readsHouse 23 = .ok (.aload_n 0, 1) := by decide +kernel
theorem dX7_readsHouse_24 : decode cX7_readsHouse 24 = .ok (.getfield 132, 3) := by decide +kernel
theorem dX7_readsHouse_27 : decode cX7_readsHouse 27 = .ok (.ifCond .le 5, 3) := by decide +kernel
theorem dX7_readsHouse_30 : decode cX7_readsHouse 30 = .ok (.iconst 0, 1) := by decide +kernel
theorem dX7_readsHouse_31 : decode cX7_readsHouse 31 = .ok (.ireturn, 1) := by decide +kernel
theorem dX7_readsHouse_32 : decode cX7_readsHouse 32 = .ok (.aload_n 0, 1) := by decide +kernel
theorem dX7_readsHouse_33 : decode cX7_readsHouse 33 = .ok (.dup, 1) := by decide +kernel
theorem dX7_readsHouse_34 : decode cX7_readsHouse 34 = .ok (.getfield 101, 3) := by decide +kernel
theorem dX7_readsHouse_37 : decode cX7_readsHouse 37 = .ok (.iconst 1, 1) := by decide +kernel
theorem dX7_readsHouse_38 : decode cX7_readsHouse 38 = .ok (.iadd, 1) := by decide +kernel
theorem dX7_readsHouse_39 : decode cX7_readsHouse 39 = .ok (.putfield 101, 3) := by decide +kernel
theorem dX7_readsHouse_42 : decode cX7_readsHouse 42 = .ok (.aload_n 0, 1) := by decide +kernel
theorem dX7_readsHouse_43 : decode cX7_readsHouse 43 = .ok (.iconst 0, 1) := by decide +kernel
theorem dX7_readsHouse_44 : decode cX7_readsHouse 44 = .ok (.bipush 9, 2) := by decide +kernel
theorem dX7_readsHouse_46 : decode cX7_readsHouse 46 = .ok (.invokevirtual 114, 3) := by decide +kernel
theorem dX7_readsHouse_49 : decode cX7_readsHouse 49 = .ok (.istore_n 2, 1) := by decide +kernel
theorem dX7_readsHouse_50 : decode cX7_readsHouse 50 = .ok (.iload_n 2, 1) := by decide +kernel
theorem dX7_readsHouse_51 : decode cX7_readsHouse 51 = .ok (.bipush (-9), 2) := by decide +kernel
theorem dX7_readsHouse_53 : decode cX7_readsHouse 53 = .ok (.if_icmp .ne 5, 3) := by decide +kernel
theorem dX7_readsHouse_56 : decode cX7_readsHouse 56 = .ok (.iconst 0, 1) := by decide +kernel
theorem dX7_readsHouse_57 : decode cX7_readsHouse 57 = .ok (.ireturn, 1) := by decide +kernel
theorem dX7_readsHouse_58 : decode cX7_readsHouse 58 = .ok (.aload_n 0, 1) := by decide +kernel
theorem dX7_readsHouse_59 : decode cX7_readsHouse 59 = .ok (.getfield 41, 3) := by decide +kernel
theorem dX7_readsHouse_62 : decode cX7_readsHouse 62 = .ok (.iconst 2, 1) := by decide +kernel
theorem dX7_readsHouse_63 : decode cX7_readsHouse 63 = .ok (.aload_n 0, 1) := by decide +kernel
theorem dX7_readsHouse_64 : decode cX7_readsHouse 64 = .ok (.getfield 129, 3) := by decide +kernel
theorem dX7_readsHouse_67 : decode cX7_readsHouse 67 = .ok (.imul, 1) := by decide +kernel
theorem dX7_readsHouse_68 : decode cX7_readsHouse 68 = .ok (.iload_n 1, 1) := by decide +kernel
theorem dX7_readsHouse_69 : decode cX7_readsHouse 69 = .ok (.iastore, 1) := by decide +kernel
theorem dX7_readsHouse_70 : decode cX7_readsHouse 70 = .ok (.aload_n 0, 1) := by decide +kernel
theorem dX7_readsHouse_71 : decode cX7_readsHouse 71 = .ok (.getfield 41, 3) := by decide +kernel
theorem dX7_readsHouse_74 : decode cX7_readsHouse 74 = .ok (.iconst 2, 1) := by decide +kernel
theorem dX7_readsHouse_75 : decode cX7_readsHouse 75 = .ok (.aload_n 0, 1) := by decide +kernel
theorem dX7_readsHouse_76 : decode cX7_readsHouse 76 = .ok (.getfield 129, 3) := by decide +kernel
theorem dX7_readsHouse_79 : decode cX7_readsHouse 79 = .ok (.imul, 1) := by decide +kernel
theorem dX7_readsHouse_80 : decode cX7_readsHouse 80 = .ok (.iconst 1, 1) := by decide +kernel
theorem dX7_readsHouse_81 : decode cX7_readsHouse 81 = .ok (.iadd, 1) := by decide +kernel
theorem dX7_readsHouse_82 : decode cX7_readsHouse 82 = .ok (.iload_n 2, 1) := by decide +kernel
theorem dX7_readsHouse_83 : decode cX7_readsHouse 83 = .ok (.iastore, 1) := by decide +kernel
theorem dX7_readsHouse_84 : decode cX7_readsHouse 84 = .ok (.aload_n 0, 1) := by decide +kernel
theorem dX7_readsHouse_85 : decode cX7_readsHouse 85 = .ok (.dup, 1) := by decide +kernel
theorem dX7_readsHouse_86 : decode cX7_readsHouse 86 = .ok (.getfield 129, 3) := by decide +kernel
theorem dX7_readsHouse_89 : decode cX7_readsHouse 89 = .ok (.iconst 1, 1) := by decide +kernel
theorem dX7_readsHouse_90 : decode cX7_readsHouse 90 = .ok (.iadd, 1) := by decide +kernel
theorem dX7_readsHouse_91 : decode cX7_readsHouse 91 = .ok (.putfield 129, 3) := by decide +kernel
theorem dX7_readsHouse_94 : decode cX7_readsHouse 94 = .ok (.iconst 1, 1) := by decide +kernel
theorem dX7_readsHouse_95 : decode cX7_readsHouse 95 = .ok (.ireturn, 1) := by decide +kernel
theorem dX7_readsFeud_0 : decode cX7_readsFeud 0 = .ok (.aload_n 0, 1) := by decide +kernel
theorem dX7_readsFeud_1 : decode cX7_readsFeud 1 = .ok (.getfield 129, 3) := by decide +kernel
theorem dX7_readsFeud_4 : decode cX7_readsFeud 4 = .ok (.ifCond .ne 5, 3) := by decide +kernel
theorem dX7_readsFeud_7 : decode cX7_readsFeud 7 = .ok (.iconst 0, 1) := by decide +kernel
theorem dX7_readsFeud_8 : decode cX7_readsFeud 8 = .ok (.ireturn, 1) := by decide +kernel
theorem dX7_readsFeud_9 : decode cX7_readsFeud 9 = .ok (.aload_n 0, 1) := by decide +kernel
theorem dX7_readsFeud_10 : decode cX7_readsFeud 10 = .ok (.dup, 1) := by decide +kernel
theorem dX7_readsFeud_11 : decode cX7_readsFeud 11 = .ok (.getfield 101, 3) := by decide +kernel
theorem dX7_readsFeud_14 : decode cX7_readsFeud 14 = .ok (.iconst 1, 1) := by decide +kernel
theorem dX7_readsFeud_15 : decode cX7_readsFeud 15 = .ok (.iadd, 1) := by decide +kernel
theorem dX7_readsFeud_16 : decode cX7_readsFeud 16 = .ok (.putfield 101, 3) := by decide +kernel
theorem dX7_readsFeud_19 : decode cX7_readsFeud 19 = .ok (.aload_n 0, 1) := by decide +kernel
theorem dX7_readsFeud_20 : decode cX7_readsFeud 20 = .ok (.iconst 0, 1) := by decide +kernel
theorem dX7_readsFeud_21 : decode cX7_readsFeud 21 = .ok (.aload_n 0, 1) := by decide +kernel
theorem dX7_readsFeud_22 : decode cX7_readsFeud 22 = .ok (.getfield 129, 3) := by decide +kernel
theorem dX7_readsFeud_25 : decode cX7_readsFeud 25 = .ok (.iconst 1, 1) := by decide +kernel
theorem dX7_readsFeud_26 : decode cX7_readsFeud 26 = .ok (.isub, 1) := by decide +kernel
theorem dX7_readsFeud_27 : decode cX7_readsFeud 27 = .ok (.invokevirtual 114, 3) := by decide +kernel
theorem dX7_readsFeud_30 : decode cX7_readsFeud 30 = .ok (.istore_n 1, 1) := by decide +kernel
theorem dX7_readsFeud_31 : decode cX7_readsFeud 31 = .ok (.iload_n 1, 1) := by decide +kernel
theorem dX7_readsFeud_32 : decode cX7_readsFeud 32 = .ok (.bipush (-9), 2) := by decide +kernel
theorem dX7_readsFeud_34 : decode cX7_readsFeud 34 = .ok (.if_icmp .ne 8, 3) := by decide +kernel
theorem dX7_readsFeud_37 : decode cX7_readsFeud 37 = .ok (.bipush (-9), 2) := by decide +kernel
theorem dX7_readsFeud_39 : decode cX7_readsFeud 39 = .ok (.goto 16, 3) := by decide +kernel
theorem dX7_readsFeud_42 : decode cX7_readsFeud 42 = .ok (.aload_n 0, 1) := by decide +kernel
theorem dX7_readsFeud_43 : decode cX7_readsFeud 43 = .ok (.iload_n 1, 1) := by decide +kernel
theorem dX7_readsFeud_44 : decode cX7_readsFeud 44 = .ok (.iconst 1, 1) := by decide +kernel
theorem dX7_readsFeud_45 : decode cX7_readsFeud 45 = .ok (.iadd, 1) := by decide +kernel
theorem dX7_readsFeud_46 : decode cX7_readsFeud 46 = .ok (.aload_n 0, 1) := by decide +kernel
theorem dX7_readsFeud_47 : decode cX7_readsFeud 47 = .ok (.getfield 129, 3) := by decide +kernel
theorem dX7_readsFeud_50 : decode cX7_readsFeud 50 = .ok (.iconst 1, 1) := by decide +kernel
theorem dX7_readsFeud_51 : decode cX7_readsFeud 51 = .ok (.isub, 1) := by decide +kernel
theorem dX7_readsFeud_52 : decode cX7_readsFeud 52 = .ok (.invokevirtual 114, 3) := by decide +kernel
theorem dX7_readsFeud_55 : decode cX7_readsFeud 55 = .ok (.istore_n 2, 1) := by decide +kernel
theorem dX7_readsFeud_56 : decode cX7_readsFeud 56 = .ok (.iload_n 2, 1) := by decide +kernel
theorem dX7_readsFeud_57 : decode cX7_readsFeud 57 = .ok (.bipush (-9), 2) := by decide +kernel
theorem dX7_readsFeud_59 : decode cX7_readsFeud 59 = .ok (.if_icmp .ne 5, 3) := by decide +kernel
theorem dX7_readsFeud_62 : decode cX7_readsFeud 62 = .ok (.iconst 0, 1) := by decide +kernel
theorem dX7_readsFeud_63 : decode cX7_readsFeud 63 = .ok (.ireturn, 1) := by decide +kernel
theorem dX7_readsFeud_64 : decode cX7_readsFeud 64 = .ok (.aload_n 0, 1) := by decide +kernel
theorem dX7_readsFeud_65 : decode cX7_readsFeud 65 = .ok (.getfield 44, 3) := by decide +kernel
theorem dX7_readsFeud_68 : decode cX7_readsFeud 68 = .ok (.iload_n 1, 1) := by decide +kernel
theorem dX7_readsFeud_69 : decode cX7_readsFeud 69 = .ok (.iaload, 1) := by decide +kernel
theorem dX7_readsFeud_70 : decode cX7_readsFeud 70 = .ok (.iload_n 2, 1) := by decide +kernel
theorem dX7_readsFeud_71 : decode cX7_readsFeud 71 = .ok (.invokestatic 135, 3) := by decide +kernel
theorem dX7_readsFeud_74 : decode cX7_readsFeud 74 = .ok (.ifCond .eq 15, 3) := by decide +kernel
theorem dX7_readsFeud_77 : decode cX7_readsFeud 77 = .ok (.aload_n 0, 1) := by decide +kernel
theorem dX7_readsFeud_78 : decode cX7_readsFeud 78 = .ok (.dup, 1) := by decide +kernel
theorem dX7_readsFeud_79 : decode cX7_readsFeud 79 = .ok (.getfield 101, 3) := by decide +kernel
theorem dX7_readsFeud_82 : decode cX7_readsFeud 82 = .ok (.iconst 1, 1) := by decide +kernel
theorem dX7_readsFeud_83 : decode cX7_readsFeud 83 = .ok (.isub, 1) := by decide +kernel
theorem dX7_readsFeud_84 : decode cX7_readsFeud 84 = .ok (.putfield 101, 3) := by decide +kernel
theorem dX7_readsFeud_87 : decode cX7_readsFeud 87 = .ok (.iconst 0, 1) := by decide +kernel
theorem dX7_readsFeud_88 : decode cX7_readsFeud 88 = .ok (.ireturn, 1) := by decide +kernel
theorem dX7_readsFeud_89 : decode cX7_readsFeud 89 = .ok (.aload_n 0, 1) := by decide +kernel
theorem dX7_readsFeud_90 : decode cX7_readsFeud 90 = .ok (.getfield 44, 3) := by decide +kernel
theorem dX7_readsFeud_93 : decode cX7_readsFeud 93 = .ok (.iload_n 1, 1) := by decide +kernel
theorem dX7_readsFeud_94 : decode cX7_readsFeud 94 = .ok (.dup2, 1) := by decide +kernel
theorem dX7_readsFeud_95 : decode cX7_readsFeud 95 = .ok (.iaload, 1) := by decide +kernel
theorem dX7_readsFeud_96 : decode cX7_readsFeud 96 = .ok (.iconst 1, 1) := by decide +kernel
theorem dX7_readsFeud_97 : decode cX7_readsFeud 97 = .ok (.iload_n 2, 1) := by decide +kernel
theorem dX7_readsFeud_98 : decode cX7_readsFeud 98 = .ok (.ishl, 1) := by decide +kernel
theorem dX7_readsFeud_99 : decode cX7_readsFeud 99 = .ok (.ior, 1) := by decide +kernel
theorem dX7_readsFeud_100 : decode cX7_readsFeud 100 = .ok (.iastore, 1) := by decide +kernel
theorem dX7_readsFeud_101 : decode cX7_readsFeud 101 = .ok (.aload_n 0, 1) := by decide +kernel
theorem dX7_readsFeud_102 : decode cX7_readsFeud 102 = .ok (.getfield 44, 3) := by decide +kernel
theorem dX7_readsFeud_105 : decode cX7_readsFeud 105 = .ok (.iload_n 2, 1) := by decide +kernel
theorem dX7_readsFeud_106 : decode cX7_readsFeud 106 = .ok (.dup2, 1) := by decide +kernel
theorem dX7_readsFeud_107 : decode cX7_readsFeud 107 = .ok (.iaload, 1) := by decide +kernel
theorem dX7_readsFeud_108 : decode cX7_readsFeud 108 = .ok (.iconst 1, 1) := by decide +kernel
theorem dX7_readsFeud_109 : decode cX7_readsFeud 109 = .ok (.iload_n 1, 1) := by decide +kernel
theorem dX7_readsFeud_110 : decode cX7_readsFeud 110 = .ok (.ishl, 1) := by decide +kernel
theorem dX7_readsFeud_111 : decode cX7_readsFeud 111 = .ok (.ior, 1) := by decide +kernel
theorem dX7_readsFeud_112 : decode cX7_readsFeud 112 = .ok (.iastore, 1) := by decide +kernel
theorem dX7_readsFeud_113 : decode cX7_readsFeud 113 = .ok (.aload_n 0, 1) := by decide +kernel
theorem dX7_readsFeud_114 : decode cX7_readsFeud 114 = .ok (.dup, 1) := by decide +kernel
theorem dX7_readsFeud_115 : decode cX7_readsFeud 115 = .ok (.getfield 132, 3) := by decide +kernel
theorem dX7_readsFeud_118 : decode cX7_readsFeud 118 = .ok (.iconst 1, 1) := by decide +kernel
theorem dX7_readsFeud_119 : decode cX7_readsFeud 119 = .ok (.iadd, 1) := by decide +kernel
theorem dX7_readsFeud_120 : decode cX7_readsFeud 120 = .ok (.putfield 132, 3) := by decide +kernel
theorem dX7_readsFeud_123 : decode cX7_readsFeud 123 = .ok (.iconst 1, 1) := by decide +kernel
theorem dX7_readsFeud_124 : decode cX7_readsFeud 124 = .ok (.ireturn, 1) := by decide +kernel
theorem dX7_faultOf_0 : decode cX7_faultOf 0 = .ok (.aload_n 0, 1) := by decide +kernel
theorem dX7_faultOf_1 : decode cX7_faultOf 1 = .ok (.bipush 80, 2) := by decide +kernel
theorem dX7_faultOf_3 : decode cX7_faultOf 3 = .ok (.iload_n 1, 1) := by decide +kernel
theorem dX7_faultOf_4 : decode cX7_faultOf 4 = .ok (.imul, 1) := by decide +kernel
theorem dX7_faultOf_5 : decode cX7_faultOf 5 = .ok (.putfield 98, 3) := by decide +kernel
theorem dX7_faultOf_8 : decode cX7_faultOf 8 = .ok (.aload_n 0, 1) := by decide +kernel
theorem dX7_faultOf_9 : decode cX7_faultOf 9 = .ok (.iconst 0, 1) := by decide +kernel
theorem dX7_faultOf_10 : decode cX7_faultOf 10 = .ok (.putfield 101, 3) := by decide +kernel
theorem dX7_faultOf_13 : decode cX7_faultOf 13 = .ok (.aload_n 0, 1) := by decide +kernel
theorem dX7_faultOf_14 : decode cX7_faultOf 14 = .ok (.aload_n 0, 1) := by decide +kernel
theorem dX7_faultOf_15 : decode cX7_faultOf 15 = .ok (.getfield 28, 3) := by decide +kernel
theorem dX7_faultOf_18 : decode cX7_faultOf 18 = .ok (.iload_n 1, 1) := by decide +kernel
theorem dX7_faultOf_19 : decode cX7_faultOf 19 = .ok (.iaload, 1) := by decide +kernel
theorem dX7_faultOf_20 : decode cX7_faultOf 20 = .ok (.putfield 104, 3) := by decide +kernel
theorem dX7_faultOf_23 : decode cX7_faultOf 23 = .ok (.aload_n 0, 1) := by decide +kernel
theorem dX7_faultOf_24 : decode cX7_faultOf 24 = .ok (.iconst 0, 1) := by decide +kernel
theorem dX7_faultOf_25 : decode cX7_faultOf 25 = .ok (.putfield 129, 3) := by decide +kernel
theorem dX7_faultOf_28 : decode cX7_faultOf 28 = .ok (.aload_n 0, 1) := by decide +kernel
theorem dX7_faultOf_29 : decode cX7_faultOf 29 = .ok (.iconst 0, 1) := by decide +kernel
theorem dX7_faultOf_30 : decode cX7_faultOf 30 = .ok (.putfield 132, 3) := by decide +kernel
theorem dX7_faultOf_33 : decode cX7_faultOf 33 = .ok (.iconst 0, 1) := by decide +kernel
theorem dX7_faultOf_34 : decode cX7_faultOf 34 = .ok (.istore_n 2, 1) := by decide +kernel
theorem dX7_faultOf_35 : decode cX7_faultOf 35 = .ok (.iload_n 2, 1) := by decide +kernel
theorem dX7_faultOf_36 : decode cX7_faultOf 36 = .ok (.bipush 7, 2) := by decide +kernel
theorem dX7_faultOf_38 : decode cX7_faultOf 38 = .ok (.if_icmp .ge 16, 3) := by decide +kernel
theorem dX7_faultOf_41 : decode cX7_faultOf 41 = .ok (.aload_n 0, 1) := by decide +kernel
theorem dX7_faultOf_42 : decode cX7_faultOf 42 = .ok (.getfield 44, 3) := by decide +kernel
theorem dX7_faultOf_45 : decode cX7_faultOf 45 = .ok (.iload_n 2, 1) := by decide +kernel
theorem dX7_faultOf_46 : decode cX7_faultOf 46 = .ok (.iconst 0, 1) := by decide +kernel
theorem dX7_faultOf_47 : decode cX7_faultOf 47 = .ok (.iastore, 1) := by decide +kernel
theorem dX7_faultOf_48 : decode cX7_faultOf 48 = .ok (.iinc 2 1, 3) := by decide +kernel
theorem dX7_faultOf_51 : decode cX7_faultOf 51 = .ok (.goto (-16), 3) := by decide +kernel
theorem dX7_faultOf_54 : decode cX7_faultOf 54 = .ok (.aload_n 0, 1) := by decide +kernel
theorem dX7_faultOf_55 : decode cX7_faultOf 55 = .ok (.invokevirtual 139, 3) := by decide +kernel
theorem dX7_faultOf_58 : decode cX7_faultOf 58 = .ok (.istore_n 2, 1) := by decide +kernel
theorem dX7_faultOf_59 : decode cX7_faultOf 59 = .ok (.iload_n 2, 1) := by decide +kernel
theorem dX7_faultOf_60 : decode cX7_faultOf 60 = .ok (.ifCond .eq 7, 3) := by decide +kernel
theorem dX7_faultOf_63 : decode cX7_faultOf 63 = .ok (.aload_n 0, 1) := by decide +kernel
theorem dX7_faultOf_64 : decode cX7_faultOf 64 = .ok (.invokevirtual 111, 3) := by decide +kernel
theorem dX7_faultOf_67 : decode cX7_faultOf 67 = .ok (.iload_n 2, 1) := by decide +kernel
theorem dX7_faultOf_68 : decode cX7_faultOf 68 = .ok (.ifCond .eq 46, 3) := by decide +kernel
theorem dX7_faultOf_71 : decode cX7_faultOf 71 = .ok (.aload_n 0, 1) := by decide +kernel
theorem dX7_faultOf_72 : decode cX7_faultOf 72 = .ok (.getfield 101, 3) := by decide +kernel
theorem dX7_faultOf_75 : decode cX7_faultOf 75 = .ok (.aload_n 0, 1) := by decide +kernel
theorem dX7_faultOf_76 : decode cX7_faultOf 76 = .ok (.getfield 104, 3) := by decide +kernel
theorem dX7_faultOf_79 : decode cX7_faultOf 79 = .ok (.if_icmp .ge 35, 3) := by decide +kernel
theorem dX7_faultOf_82 : decode cX7_faultOf 82 = .ok (.aload_n 0, 1) := by decide +kernel
theorem dX7_faultOf_83 : decode cX7_faultOf 83 = .ok (.invokevirtual 107, 3) := by decide +kernel
theorem dX7_faultOf_86 : decode cX7_faultOf 86 = .ok (.bipush 120, 2) := by decide +kernel
theorem dX7_faultOf_88 : decode cX7_faultOf 88 = .ok (.if_icmp .ne 10, 3) := by decide +kernel
theorem dX7_faultOf_91 : decode cX7_faultOf 91 = .ok (.aload_n 0, 1) := by decide +kernel
theorem dX7_faultOf_92 : decode cX7_faultOf 92 = .ok (.invokevirtual 143, 3) := by decide +kernel
theorem dX7_faultOf_95 : decode cX7_faultOf 95 = .ok (.goto 7, 3) := by decide +kernel
theorem dX7_faultOf_98 : decode cX7_faultOf 98 = .ok (.aload_n 0, 1) := by decide +kernel
theorem dX7_faultOf_99 : decode cX7_faultOf 99 = .ok (.invokevirtual 146, 3) := by decide +kernel
theorem dX7_faultOf_102 : decode cX7_faultOf 102 = .ok (.istore_n 2, 1) := by decide +kernel
theorem dX7_faultOf_103 : decode cX7_faultOf 103 = .ok (.iload_n 2, 1) := by decide +kernel
theorem dX7_faultOf_104 : decode cX7_faultOf 104 = .ok (.ifCond .eq (-37), 3) := by decide +kernel
theorem dX7_faultOf_107 : decode cX7_faultOf 107 = .ok (.aload_n 0, 1) := by decide +kernel
theorem dX7_faultOf_108 : decode cX7_faultOf 108 = .ok (.invokevirtual 111, 3) := by decide +kernel
theorem dX7_faultOf_111 : decode cX7_faultOf 111 = .ok (.goto (-44), 3) := by decide +kernel
theorem dX7_faultOf_114 : decode cX7_faultOf 114 = .ok (.iload_n 2, 1) := by decide +kernel
theorem dX7_faultOf_115 : decode cX7_faultOf 115 = .ok (.ifCond .eq 15, 3) := by decide +kernel
theorem dX7_faultOf_118 : decode cX7_faultOf 118 = .ok (.aload_n 0, 1) := by decide +kernel
theorem dX7_faultOf_119 : decode cX7_faultOf 119 = .ok (.getfield 129, 3) := by decide +kernel
theorem dX7_faultOf_122 : decode cX7_faultOf 122 = .ok (.ifCond .le 8, 3) := by decide +kernel
theorem dX7_faultOf_125 : decode cX7_faultOf 125 = .ok (.bipush (-9), 2) := by decide +kernel
theorem dX7_faultOf_127 : decode cX7_faultOf 127 = .ok (.goto 7, 3) := by decide +kernel
theorem dX7_faultOf_130 : decode cX7_faultOf 130 = .ok (.aload_n 0, 1) := by decide +kernel
theorem dX7_faultOf_131 : decode cX7_faultOf 131 = .ok (.getfield 101, 3) := by decide +kernel
theorem dX7_faultOf_134 : decode cX7_faultOf 134 = .ok (.ireturn, 1) := by decide +kernel
theorem dX7_fault_0 : decode cX7_fault 0 = .ok (.iload_n 1, 1) := by decide +kernel
theorem dX7_fault_1 : decode cX7_fault 1 = .ok (.invokestatic 95, 3) := by decide +kernel
theorem dX7_fault_4 : decode cX7_fault 4 = .ok (.ifCond .ne 5, 3) := by decide +kernel
theorem dX7_fault_7 : decode cX7_fault 7 = .ok (.iconst (-1), 1) := by decide +kernel
theorem dX7_fault_8 : decode cX7_fault 8 = .ok (.ireturn, 1) := by decide +kernel
theorem dX7_fault_9 : decode cX7_fault 9 = .ok (.aload_n 0, 1) := by decide +kernel
theorem dX7_fault_10 : decode cX7_fault 10 = .ok (.getfield 28, 3) := by decide +kernel
theorem dX7_fault_13 : decode cX7_fault 13 = .ok (.iload_n 1, 1) := by decide +kernel
theorem dX7_fault_14 : decode cX7_fault 14 = .ok (.iaload, 1) := by decide +kernel
theorem dX7_fault_15 : decode cX7_fault 15 = .ok (.ifCond .ge 11, 3) := by decide +kernel
theorem dX7_fault_18 : decode cX7_fault 18 = .ok (.aload_n 0, 1) := by decide +kernel
theorem dX7_fault_19 : decode cX7_fault 19 = .ok (.iconst 1, 1) := by decide +kernel
theorem dX7_fault_20 : decode cX7_fault 20 = .ok (.invokevirtual 76, 3) := by decide +kernel
theorem dX7_fault_23 : decode cX7_fault 23 = .ok (.goto 8, 3) := by decide +kernel
theorem dX7_fault_26 : decode cX7_fault 26 = .ok (.aload_n 0, 1) := by decide +kernel
theorem dX7_fault_27 : decode cX7_fault 27 = .ok (.iload_n 1, 1) := by decide +kernel
theorem dX7_fault_28 : decode cX7_fault 28 = .ok (.invokevirtual 149, 3) := by decide +kernel
theorem dX7_fault_31 : decode cX7_fault 31 = .ok (.ireturn, 1) := by decide +kernel
theorem dX7_well_0 : decode cX7_well 0 = .ok (.iload_n 1, 1) := by decide +kernel
theorem dX7_well_1 : decode cX7_well 1 = .ok (.invokestatic 95, 3) := by decide +kernel
theorem dX7_well_4 : decode cX7_well 4 = .ok (.ifCond .ne 5, 3) := by decide +kernel
theorem dX7_well_7 : decode cX7_well 7 = .ok (.iconst (-1), 1) := by decide +kernel
theorem dX7_well_8 : decode cX7_well 8 = .ok (.ireturn, 1) := by decide +kernel
theorem dX7_well_9 : decode cX7_well 9 = .ok (.aload_n 0, 1) := by decide +kernel
theorem dX7_well_10 : decode cX7_well 10 = .ok (.getfield 28, 3) := by decide +kernel
theorem dX7_well_13 : decode cX7_well 13 = .ok (.iload_n 1, 1) := by decide +kernel
theorem dX7_well_14 : decode cX7_well 14 = .ok (.iaload, 1) := by decide +kernel
theorem dX7_well_15 : decode cX7_well 15 = .ok (.ifCond .ge 9, 3) := by decide +kernel
theorem dX7_well_18 : decode cX7_well 18 = .ok (.aload_n 0, 1) := by decide +kernel
theorem dX7_well_19 : decode cX7_well 19 = .ok (.iconst 1, 1) := by decide +kernel
theorem dX7_well_20 : decode cX7_well 20 = .ok (.invokevirtual 76, 3) := by decide +kernel
theorem dX7_well_23 : decode cX7_well 23 = .ok (.ireturn, 1) := by decide +kernel
theorem dX7_well_24 : decode cX7_well 24 = .ok (.aload_n 0, 1) := by decide +kernel
theorem dX7_well_25 : decode cX7_well 25 = .ok (.iload_n 1, 1) := by decide +kernel
theorem dX7_well_26 : decode cX7_well 26 = .ok (.invokevirtual 149, 3) := by decide +kernel
theorem dX7_well_29 : decode cX7_well 29 = .ok (.bipush (-9), 2) := by decide +kernel
theorem dX7_well_31 : decode cX7_well 31 = .ok (.if_icmp .eq 6, 3) := by decide +kernel
theorem dX7_well_34 : decode cX7_well 34 = .ok (.bipush (-4), 2) := by decide +kernel
theorem dX7_well_36 : decode cX7_well 36 = .ok (.ireturn, 1) := by decide +kernel
theorem dX7_well_37 : decode cX7_well 37 = .ok (.aload_n 0, 1) := by decide +kernel
theorem dX7_well_38 : decode cX7_well 38 = .ok (.aload_n 0, 1) := by decide +kernel
theorem dX7_well_39 : decode cX7_well 39 = .ok (.getfield 117, 3) := by decide +kernel
theorem dX7_well_42 : decode cX7_well 42 = .ok (.putfield 152, 3) := by decide +kernel
theorem dX7_well_45 : decode cX7_well 45 = .ok (.aload_n 0, 1) := by decide +kernel
theorem dX7_well_46 : decode cX7_well 46 = .ok (.aload_n 0, 1) := by decide +kernel
theorem dX7_well_47 : decode cX7_well 47 = .ok (.getfield 123, 3) := by decide +kernel
theorem dX7_well_50 : decode cX7_well 50 = .ok (.putfield 155, 3) := by decide +kernel
theorem dX7_well_53 : decode cX7_well 53 = .ok (.aload_n 0, 1) := by decide +kernel
theorem dX7_well_54 : decode cX7_well 54 = .ok (.aload_n 0, 1) := by decide +kernel
theorem dX7_well_55 : decode cX7_well 55 = .ok (.getfield 129, 3) := by decide +kernel
theorem dX7_well_58 : decode cX7_well 58 = .ok (.putfield 158, 3) := by decide +kernel
theorem dX7_well_61 : decode cX7_well 61 = .ok (.aload_n 0, 1) := by decide +kernel
theorem dX7_well_62 : decode cX7_well 62 = .ok (.aload_n 0, 1) := by decide +kernel
theorem dX7_well_63 : decode cX7_well 63 = .ok (.getfield 132, 3) := by decide +kernel
theorem dX7_well_66 : decode cX7_well 66 = .ok (.putfield 161, 3) := by decide +kernel
theorem dX7_well_69 : decode cX7_well 69 = .ok (.iconst 0, 1) := by decide +kernel
theorem dX7_well_70 : decode cX7_well 70 = .ok (.istore_n 2, 1) := by decide +kernel
theorem dX7_well_71 : decode cX7_well 71 = .ok (.iload_n 2, 1) := by decide +kernel
theorem dX7_well_72 : decode cX7_well 72 = .ok (.sipush 944, 3) := by decide +kernel
theorem dX7_well_75 : decode cX7_well 75 = .ok (.if_icmp .ge 16, 3) := by decide +kernel
theorem dX7_well_78 : decode cX7_well 78 = .ok (.aload_n 0, 1) := by decide +kernel
theorem dX7_well_79 : decode cX7_well 79 = .ok (.getfield 7, 3) := by decide +kernel
theorem dX7_well_82 : decode cX7_well 82 = .ok (.iload_n 2, 1) := by decide +kernel
theorem dX7_well_83 : decode cX7_well 83 = .ok (.iconst 0, 1) := by decide +kernel
theorem dX7_well_84 : decode cX7_well 84 = .ok (.iastore, 1) := by decide +kernel
theorem dX7_well_85 : decode cX7_well 85 = .ok (.iinc 2 1, 3) := by decide +kernel
theorem dX7_well_88 : decode cX7_well 88 = .ok (.goto (-17), 3) := by decide +kernel
theorem dX7_well_91 : decode cX7_well 91 = .ok (.aload_n 0, 1) := by decide +kernel
theorem dX7_well_92 : decode cX7_well 92 = .ok (.getfield 7, 3) := by decide +kernel
theorem dX7_well_95 : decode cX7_well 95 = .ok (.iconst 2, 1) := by decide +kernel
theorem dX7_well_96 : decode cX7_well 96 = .ok (.aload_n 0, 1) := by decide +kernel
theorem dX7_well_97 : decode cX7_well 97 = .ok (.getfield 120, 3) := by decide +kernel
theorem dX7_well_100 : decode cX7_well 100 = .ok (.iastore, 1) := by decide +kernel
theorem dX7_well_101 : decode cX7_well 101 = .ok (.iconst 0, 1) := by decide +kernel
theorem dX7_well_102 : decode cX7_well 102 = .ok (.istore_n 2, 1) := by decide +kernel
theorem dX7_well_103 : decode cX7_well 103 = .ok (.iload_n 2, 1) := by decide +kernel
theorem dX7_well_104 : decode cX7_well 104 = .ok (.bipush 7, 2) := by decide +kernel
theorem dX7_well_106 : decode cX7_well 106 = .ok (.if_icmp .ge 84, 3) := by decide +kernel
theorem dX7_well_109 : decode cX7_well 109 = .ok (.aload_n 0, 1) := by decide +kernel
theorem dX7_well_110 : decode cX7_well 110 = .ok (.getfield 13, 3) := by decide +kernel
theorem dX7_well_113 : decode cX7_well 113 = .ok (.iload_n 2, 1) := by decide +kernel
theorem dX7_well_114 : decode cX7_well 114 = .ok (.iload_n 2, 1) := by decide +kernel
theorem dX7_well_115 : decode cX7_well 115 = .ok (.aload_n 0, 1) := by decide +kernel
theorem dX7_well_116 : decode cX7_well 116 = .ok (.getfield 158, 3) := by decide +kernel
theorem dX7_well_119 : decode cX7_well 119 = .ok (.if_icmp .ge 14, 3) := by decide +kernel
theorem dX7_well_122 : decode cX7_well 122 = .ok (.aload_n 0, 1) := by decide +kernel
theorem dX7_well_123 : decode cX7_well 123 = .ok (.getfield 41, 3) := by decide +kernel
theorem dX7_well_126 : decode cX7_well 126 = .ok (.iconst 2, 1) := by decide +kernel
theorem dX7_well_127 : decode cX7_well 127 = .ok (.iload_n 2, 1) := by decide +kernel
theorem dX7_well_128 : decode cX7_well 128 = .ok (.imul, 1) := by decide +kernel
theorem dX7_well_129 : decode cX7_well 129 = .ok (.iaload, 1) := by decide +kernel
theorem dX7_well_130 : decode cX7_well 130 = .ok (.goto 4, 3) := by decide +kernel
theorem dX7_well_133 : decode cX7_well 133 = .ok (.iconst 0, 1) := by decide +kernel
theorem dX7_well_134 : decode cX7_well 134 = .ok (.iastore, 1) := by decide +kernel
theorem dX7_well_135 : decode cX7_well 135 = .ok (.aload_n 0, 1) := by decide +kernel
theorem dX7_well_136 : decode cX7_well 136 = .ok (.getfield 16, 3) := by decide +kernel
theorem dX7_well_139 : decode cX7_well 139 = .ok (.iload_n 2, 1) := by decide +kernel
theorem dX7_well_140 : decode cX7_well 140 = .ok (.iload_n 2, 1) := by decide +kernel
theorem dX7_well_141 : decode cX7_well 141 = .ok (.aload_n 0, 1) := by decide +kernel
theorem dX7_well_142 : decode cX7_well 142 = .ok (.getfield 158, 3) := by decide +kernel
theorem dX7_well_145 : decode cX7_well 145 = .ok (.if_icmp .ge 16, 3) := by decide +kernel
theorem dX7_well_148 : decode cX7_well 148 = .ok (.aload_n 0, 1) := by decide +kernel
theorem dX7_well_149 : decode cX7_well 149 = .ok (.getfield 41, 3) := by decide +kernel
theorem dX7_well_152 : decode cX7_well 152 = .ok (.iconst 2, 1) := by decide +kernel
theorem dX7_well_153 : decode cX7_well 153 = .ok (.iload_n 2, 1) := by decide +kernel
theorem dX7_well_154 : decode cX7_well 154 = .ok (.imul, 1) := by decide +kernel
theorem dX7_well_155 : decode cX7_well 155 = .ok (.iconst 1, 1) := by decide +kernel
theorem dX7_well_156 : decode cX7_well 156 = .ok (.iadd, 1) := by decide +kernel
theorem dX7_well_157 : decode cX7_well 157 = .ok (.iaload, 1) := by decide +kernel
theorem dX7_well_158 : decode cX7_well 158 = .ok (.goto 4, 3) := by decide +kernel
theorem dX7_well_161 : decode cX7_well 161 = .ok (.iconst 0, 1) := by decide +kernel
theorem dX7_well_162 : decode cX7_well 162 = .ok (.iastore, 1) := by decide +kernel
theorem dX7_well_163 : decode cX7_well 163 = .ok (.aload_n 0, 1) := by decide +kernel
theorem dX7_well_164 : decode cX7_well 164 = .ok (.getfield 19, 3) := by decide +kernel
theorem dX7_well_167 : decode cX7_well 167 = .ok (.iload_n 2, 1) := by decide +kernel
theorem dX7_well_168 : decode cX7_well 168 = .ok (.aload_n 0, 1) := by decide +kernel
theorem dX7_well_169 : decode cX7_well 169 = .ok (.getfield 44, 3) := by decide +kernel
theorem dX7_well_172 : decode cX7_well 172 = .ok (.iload_n 2, 1) := by decide +kernel
theorem dX7_well_173 : decode cX7_well 173 = .ok (.iaload, 1) := by decide +kernel
theorem dX7_well_174 : decode cX7_well 174 = .ok (.iastore, 1) := by decide +kernel
theorem dX7_well_175 : decode cX7_well 175 = .ok (.aload_n 0, 1) := by decide +kernel
theorem dX7_well_176 : decode cX7_well 176 = .ok (.getfield 7, 3) := by decide +kernel
theorem dX7_well_179 : decode cX7_well 179 = .ok (.iconst 3, 1) := by decide +kernel
theorem dX7_well_180 : decode cX7_well 180 = .ok (.iload_n 2, 1) := by decide +kernel
theorem dX7_well_181 : decode cX7_well 181 = .ok (.iadd, 1) := by decide +kernel
theorem dX7_well_182 : decode cX7_well 182 = .ok (.iload_n 2, 1) := by decide +kernel
theorem dX7_well_183 : decode cX7_well 183 = .ok (.iastore, 1) := by decide +kernel
theorem dX7_well_184 : decode cX7_well 184 = .ok (.iinc 2 1, 3) := by decide +kernel
theorem dX7_well_187 : decode cX7_well 187 = .ok (.goto (-84), 3) := by decide +kernel
theorem dX7_well_190 : decode cX7_well 190 = .ok (.iconst 1, 1) := by decide +kernel
theorem dX7_well_191 : decode cX7_well 191 = .ok (.istore_n 2, 1) := by decide +kernel
theorem dX7_well_192 : decode cX7_well 192 = .ok (.iload_n 2, 1) := by decide +kernel
theorem dX7_well_193 : decode cX7_well 193 = .ok (.iconst 4, 1) := by decide +kernel
theorem dX7_well_194 : decode cX7_well 194 = .ok (.if_icmp .ge 22, 3) := by decide +kernel
theorem dX7_well_197 : decode cX7_well 197 = .ok (.aload_n 0, 1) := by decide +kernel
theorem dX7_well_198 : decode cX7_well 198 = .ok (.getfield 7, 3) := by decide +kernel
theorem dX7_well_201 : decode cX7_well 201 = .ok (.sipush 944, 3) := by decide +kernel
theorem dX7_well_204 : decode cX7_well 204 = .ok (.iload_n 2, 1) := by decide +kernel
theorem dX7_well_205 : decode cX7_well 205 = .ok (.imul, 1) := by decide +kernel
theorem dX7_well_206 : decode cX7_well 206 = .ok (.iconst 0, 1) := by decide +kernel
theorem dX7_well_207 : decode cX7_well 207 = .ok (.iadd, 1) := by decide +kernel
theorem dX7_well_208 : decode cX7_well 208 = .ok (.iconst (-1), 1) := by decide +kernel
theorem dX7_well_209 : decode cX7_well 209 = .ok (.iastore, 1) := by decide +kernel
theorem dX7_well_210 : decode cX7_well 210 = .ok (.iinc 2 1, 3) := by decide +kernel
theorem dX7_well_213 : decode cX7_well 213 = .ok (.goto (-21), 3) := by decide +kernel
theorem dX7_well_216 : decode cX7_well 216 = .ok (.aload_n 0, 1) := by decide +kernel
theorem dX7_well_217 : decode cX7_well 217 = .ok (.getfield 158, 3) := by decide +kernel
theorem dX7_well_220 : decode cX7_well 220 = .ok (.ireturn, 1) := by decide +kernel
theorem dX7_isHouse_0 : decode cX7_isHouse 0 = .ok (.iload_n 1, 1) := by decide +kernel
theorem dX7_isHouse_1 : decode cX7_isHouse 1 = .ok (.i2l, 1) := by decide +kernel
theorem dX7_isHouse_2 : decode cX7_isHouse 2 = .ok (.lconst 0, 1) := by decide +kernel
theorem dX7_isHouse_3 : decode cX7_isHouse 3 = .ok (.aload_n 0, 1) := by decide +kernel
theorem dX7_isHouse_4 : decode cX7_isHouse 4 = .ok (.getfield 158, 3) := by decide +kernel
theorem dX7_isHouse_7 : decode cX7_isHouse 7 = .ok (.iconst 1, 1) := by decide +kernel
theorem dX7_isHouse_8 : decode cX7_isHouse 8 = .ok (.isub, 1) := by decide +kernel
theorem dX7_isHouse_9 : decode cX7_isHouse 9 = .ok (.i2l, 1) := by decide +kernel
theorem dX7_isHouse_10 : decode cX7_isHouse 10 = .ok (.invokestatic 66, 3) := by decide +kernel
theorem dX7_isHouse_13 : decode cX7_isHouse 13 = .ok (.ireturn, 1) := by decide +kernel
theorem dX7_all_0 : decode cX7_all 0 = .ok (.iconst 1, 1) := by decide +kernel
theorem dX7_all_1 : decode cX7_all 1 = .ok (.aload_n 0, 1) := by decide +kernel
theorem dX7_all_2 : decode cX7_all 2 = .ok (.getfield 158, 3) := by decide +kernel
theorem dX7_all_5 : decode cX7_all 5 = .ok (.ishl, 1) := by decide +kernel
theorem dX7_all_6 : decode cX7_all 6 = .ok (.iconst 1, 1) := by decide +kernel
theorem dX7_all_7 : decode cX7_all 7 = .ok (.isub, 1) := by decide +kernel
theorem dX7_all_8 : decode cX7_all 8 = .ok (.ireturn, 1) := by decide +kernel
theorem dX7_isSet_0 : decode cX7_isSet 0 = .ok (.iload_n 1, 1) := by decide +kernel
theorem dX7_isSet_1 : decode cX7_isSet 1 = .ok (.i2l, 1) := by decide +kernel
theorem dX7_isSet_2 : decode cX7_isSet 2 = .ok (.lconst 0, 1) := by decide +kernel
theorem dX7_isSet_3 : decode cX7_isSet 3 = .ok (.aload_n 0, 1) := by decide +kernel
theorem dX7_isSet_4 : decode cX7_isSet 4 = .ok (.invokevirtual 164, 3) := by decide +kernel
theorem dX7_isSet_7 : decode cX7_isSet 7 = .ok (.i2l, 1) := by decide +kernel
theorem dX7_isSet_8 : decode cX7_isSet 8 = .ok (.invokestatic 66, 3) := by decide +kernel
theorem dX7_isSet_11 : decode cX7_isSet 11 = .ok (.ireturn, 1) := by decide +kernel
theorem dX7_keyWeight_0 : decode cX7_keyWeight 0 = .ok (.aload_n 0, 1) := by decide +kernel
theorem dX7_keyWeight_1 : decode cX7_keyWeight 1 = .ok (.getfield 13, 3) := by decide +kernel
theorem dX7_keyWeight_4 : decode cX7_keyWeight 4 = .ok (.iload_n 1, 1) := by decide +kernel
theorem dX7_keyWeight_5 : decode cX7_keyWeight 5 = .ok (.iaload, 1) := by decide +kernel
theorem dX7_keyWeight_6 : decode cX7_keyWeight 6 = .ok (.tableswitch 55 1 5 #[34, 55, 51, 34, 53], 34) := by decide +kernel
theorem dX7_keyWeight_40 : decode cX7_keyWeight 40 = .ok (.aload_n 0, 1) := by decide +kernel
theorem dX7_keyWeight_41 : decode cX7_keyWeight 41 = .ok (.getfield 7, 3) := by decide +kernel
theorem dX7_keyWeight_44 : decode cX7_keyWeight 44 = .ok (.iconst 1, 1) := by decide +kernel
theorem dX7_keyWeight_45 : decode cX7_keyWeight 45 = .ok (.iaload, 1) := by decide +kernel
theorem dX7_keyWeight_46 : decode cX7_keyWeight 46 = .ok (.iconst 2, 1) := by decide +kernel
theorem dX7_keyWeight_47 : decode cX7_keyWeight 47 = .ok (.irem, 1) := by decide +kernel
theorem dX7_keyWeight_48 : decode cX7_keyWeight 48 = .ok (.ifCond .ne 7, 3) := by decide +kernel
theorem dX7_keyWeight_51 : decode cX7_keyWeight 51 = .ok (.iconst 1, 1) := by decide +kernel
theorem dX7_keyWeight_52 : decode cX7_keyWeight 52 = .ok (.goto 4, 3) := by decide +kernel
theorem dX7_keyWeight_55 : decode cX7_keyWeight 55 = .ok (.iconst 0, 1) := by decide +kernel
theorem dX7_keyWeight_56 : decode cX7_keyWeight 56 = .ok (.ireturn, 1) := by decide +kernel
theorem dX7_keyWeight_57 : decode cX7_keyWeight 57 = .ok (.iconst 2, 1) := by decide +kernel
theorem dX7_keyWeight_58 : decode cX7_keyWeight 58 = .ok (.ireturn, 1) := by decide +kernel
theorem dX7_keyWeight_59 : decode cX7_keyWeight 59 = .ok (.iconst 3, 1) := by decide +kernel
theorem dX7_keyWeight_60 : decode cX7_keyWeight 60 = .ok (.ireturn, 1) := by decide +kernel
theorem dX7_keyWeight_61 : decode cX7_keyWeight 61 = .ok (.iconst 1, 1) := by decide +kernel
theorem dX7_keyWeight_62 : decode cX7_keyWeight 62 = .ok (.ireturn, 1) := by decide +kernel
theorem dX7_weightOf_0 : decode cX7_weightOf 0 = .ok (.iconst 0, 1) := by decide +kernel
theorem dX7_weightOf_1 : decode cX7_weightOf 1 = .ok (.istore_n 2, 1) := by decide +kernel
theorem dX7_weightOf_2 : decode cX7_weightOf 2 = .ok (.iconst 0, 1) := by decide +kernel
theorem dX7_weightOf_3 : decode cX7_weightOf 3 = .ok (.istore_n 3, 1) := by decide +kernel
theorem dX7_weightOf_4 : decode cX7_weightOf 4 = .ok (.iload_n 3, 1) := by decide +kernel
theorem dX7_weightOf_5 : decode cX7_weightOf 5 = .ok (.aload_n 0, 1) := by decide +kernel
theorem dX7_weightOf_6 : decode cX7_weightOf 6 = .ok (.getfield 158, 3) := by decide +kernel
theorem dX7_weightOf_9 : decode cX7_weightOf 9 = .ok (.if_icmp .ge 65, 3) := by decide +kernel
theorem dX7_weightOf_12 : decode cX7_weightOf 12 = .ok (.iload_n 1, 1) := by decide +kernel
theorem dX7_weightOf_13 : decode cX7_weightOf 13 = .ok (.aload_n 0, 1) := by decide +kernel
theorem dX7_weightOf_14 : decode cX7_weightOf 14 = .ok (.getfield 7, 3) := by decide +kernel
theorem dX7_weightOf_17 : decode cX7_weightOf 17 = .ok (.iconst 3, 1) := by decide +kernel
theorem dX7_weightOf_18 : decode cX7_weightOf 18 = .ok (.iload_n 3, 1) := by decide +kernel
theorem dX7_weightOf_19 : decode cX7_weightOf 19 = .ok (.iadd, 1) := by decide +kernel
theorem dX7_weightOf_20 : decode cX7_weightOf 20 = .ok (.iaload, 1) := by decide +kernel
theorem dX7_weightOf_21 : decode cX7_weightOf 21 = .ok (.invokestatic 135, 3) := by decide +kernel
theorem dX7_weightOf_24 : decode cX7_weightOf 24 = .ok (.istore 4, 2) := by decide +kernel
theorem dX7_weightOf_26 : decode cX7_weightOf 26 = .ok (.iload_n 2, 1) := by decide +kernel
theorem dX7_weightOf_27 : decode cX7_weightOf 27 = .ok (.iload 4, 2) := by decide +kernel
theorem dX7_weightOf_29 : decode cX7_weightOf 29 = .ok (.ifCond .eq 11, 3) := by decide +kernel
theorem dX7_weightOf_32 : decode cX7_weightOf 32 = .ok (.aload_n 0, 1) := by decide +kernel
theorem dX7_weightOf_33 : decode cX7_weightOf 33 = .ok (.iload_n 3, 1) := by decide +kernel
theorem dX7_weightOf_34 : decode cX7_weightOf 34 = .ok (.invokevirtual 167, 3) := by decide +kernel
theorem dX7_weightOf_37 : decode cX7_weightOf 37 = .ok (.goto 29, 3) := by decide +kernel
theorem dX7_weightOf_40 : decode cX7_weightOf 40 = .ok (.aload_n 0, 1) := by decide +kernel
theorem dX7_weightOf_41 : decode cX7_weightOf 41 = .ok (.getfield 13, 3) := by decide +kernel
theorem dX7_weightOf_44 : decode cX7_weightOf 44 = .ok (.iload_n 3, 1) := by decide +kernel
theorem dX7_weightOf_45 : decode cX7_weightOf 45 = .ok (.iaload, 1) := by decide +kernel
theorem dX7_weightOf_46 : decode cX7_weightOf 46 = .ok (.iconst 2, 1) := by decide +kernel
theorem dX7_weightOf_47 : decode cX7_weightOf 47 = .ok (.if_icmp .ne 18, 3) := by decide +kernel
theorem dX7_weightOf_50 : decode cX7_weightOf 50 = .ok (.aload_n 0, 1) := by decide +kernel
theorem dX7_weightOf_51 : decode cX7_weightOf 51 = .ok (.getfield 7, 3) := by decide +kernel
theorem dX7_weightOf_54 : decode cX7_weightOf 54 = .ok (.iconst 1, 1) := by decide +kernel
theorem dX7_weightOf_55 : decode cX7_weightOf 55 = .ok (.iaload, 1) := by decide +kernel
theorem dX7_weightOf_56 : decode cX7_weightOf 56 = .ok (.iconst 3, 1) := by decide +kernel
theorem dX7_weightOf_57 : decode cX7_weightOf 57 = .ok (.irem, 1) := by decide +kernel
theorem dX7_weightOf_58 : decode cX7_weightOf 58 = .ok (.ifCond .ne 7, 3) := by decide +kernel
theorem dX7_weightOf_61 : decode cX7_weightOf 61 = .ok (.iconst 1, 1) := by decide +kernel
theorem dX7_weightOf_62 : decode cX7_weightOf 62 = .ok (.goto 4, 3) := by decide +kernel
theorem dX7_weightOf_65 : decode cX7_weightOf 65 = .ok (.iconst 0, 1) := by decide +kernel
theorem dX7_weightOf_66 : decode cX7_weightOf 66 = .ok (.iadd, 1) := by decide +kernel
theorem dX7_weightOf_67 : decode cX7_weightOf 67 = .ok (.istore_n 2, 1) := by decide +kernel
theorem dX7_weightOf_68 : decode cX7_weightOf 68 = .ok (.iinc 3 1, 3) := by decide +kernel
theorem dX7_weightOf_71 : decode cX7_weightOf 71 = .ok (.goto (-67), 3) := by decide +kernel
theorem dX7_weightOf_74 : decode cX7_weightOf 74 = .ok (.iload_n 2, 1) := by decide +kernel
theorem dX7_weightOf_75 : decode cX7_weightOf 75 = .ok (.ireturn, 1) := by decide +kernel
theorem dX7_isPeace_0 : decode cX7_isPeace 0 = .ok (.iconst 1, 1) := by decide +kernel
theorem dX7_isPeace_1 : decode cX7_isPeace 1 = .ok (.istore_n 2, 1) := by decide +kernel
theorem dX7_isPeace_2 : decode cX7_isPeace 2 = .ok (.iconst 0, 1) := by decide +kernel
theorem dX7_isPeace_3 : decode cX7_isPeace 3 = .ok (.istore_n 3, 1) := by decide +kernel
theorem dX7_isPeace_4 : decode cX7_isPeace 4 = .ok (.iload_n 3, 1) := by decide +kernel
theorem dX7_isPeace_5 : decode cX7_isPeace 5 = .ok (.aload_n 0, 1) := by decide +kernel
theorem dX7_isPeace_6 : decode cX7_isPeace 6 = .ok (.getfield 158, 3) := by decide +kernel
theorem dX7_isPeace_9 : decode cX7_isPeace 9 = .ok (.if_icmp .ge 38, 3) := by decide +kernel
theorem dX7_isPeace_12 : decode cX7_isPeace 12 = .ok (.iload_n 2, 1) := by decide +kernel
theorem dX7_isPeace_13 : decode cX7_isPeace 13 = .ok (.ifCond .eq 26, 3) := by decide +kernel
theorem dX7_isPeace_16 : decode cX7_isPeace 16 = .ok (.iload_n 1, 1) := by decide +kernel
theorem dX7_isPeace_17 : decode cX7_isPeace 17 = .ok (.iload_n 3, 1) := by decide +kernel
theorem dX7_isPeace_18 : decode cX7_isPeace 18 = .ok (.invokestatic 135, 3) := by decide +kernel
theorem dX7_isPeace_21 : decode cX7_isPeace 21 = .ok (.ifCond .eq 14, 3) := by decide +kernel
theorem dX7_isPeace_24 : decode cX7_isPeace 24 = .ok (.aload_n 0, 1) := by decide +kernel
theorem dX7_isPeace_25 : decode cX7_isPeace 25 = .ok (.getfield 19, 3) := by decide +kernel
theorem dX7_isPeace_28 : decode cX7_isPeace 28 = .ok (.iload_n 3, 1) := by decide +kernel
theorem dX7_isPeace_29 : decode cX7_isPeace 29 = .ok (.iaload, 1) := by decide +kernel
theorem dX7_isPeace_30 : decode cX7_isPeace 30 = .ok (.iload_n 1, 1) := by decide +kernel
theorem dX7_isPeace_31 : decode cX7_isPeace 31 = .ok (.iand, 1) := by decide +kernel
theorem dX7_isPeace_32 : decode cX7_isPeace 32 = .ok (.ifCond .ne 7, 3) := by decide +kernel
theorem dX7_isPeace_35 : decode cX7_isPeace 35 = .ok (.iconst 1, 1) := by decide +kernel
theorem dX7_isPeace_36 : decode cX7_isPeace 36 = .ok (.goto 4, 3) := by decide +kernel
theorem dX7_isPeace_39 : decode cX7_isPeace 39 = .ok (.iconst 0, 1) := by decide +kernel
theorem dX7_isPeace_40 : decode cX7_isPeace 40 = .ok (.istore_n 2, 1) := by decide +kernel
theorem dX7_isPeace_41 : decode cX7_isPeace 41 = .ok (.iinc 3 1, 3) := by decide +kernel
theorem dX7_isPeace_44 : decode cX7_isPeace 44 = .ok (.goto (-40), 3) := by decide +kernel
theorem dX7_isPeace_47 : decode cX7_isPeace 47 = .ok (.iload_n 2, 1) := by decide +kernel
theorem dX7_isPeace_48 : decode cX7_isPeace 48 = .ok (.ireturn, 1) := by decide +kernel
theorem dX7_isOpen_0 : decode cX7_isOpen 0 = .ok (.aload_n 0, 1) := by decide +kernel
theorem dX7_isOpen_1 : decode cX7_isOpen 1 = .ok (.getfield 158, 3) := by decide +kernel
theorem dX7_isOpen_4 : decode cX7_isOpen 4 = .ok (.ifCond .le 27, 3) := by decide +kernel
theorem dX7_isOpen_7 : decode cX7_isOpen 7 = .ok (.aload_n 0, 1) := by decide +kernel
theorem dX7_isOpen_8 : decode cX7_isOpen 8 = .ok (.iload_n 1, 1) := by decide +kernel
theorem dX7_isOpen_9 : decode cX7_isOpen 9 = .ok (.invokevirtual 170, 3) := by decide +kernel
theorem dX7_isOpen_12 : decode cX7_isOpen 12 = .ok (.aload_n 0, 1) := by decide +kernel
theorem dX7_isOpen_13 : decode cX7_isOpen 13 = .ok (.getfield 152, 3) := by decide +kernel
theorem dX7_isOpen_16 : decode cX7_isOpen 16 = .ok (.if_icmp .lt 15, 3) := by decide +kernel
theorem dX7_isOpen_19 : decode cX7_isOpen 19 = .ok (.aload_n 0, 1) := by decide +kernel
theorem dX7_isOpen_20 : decode cX7_isOpen 20 = .ok (.iload_n 1, 1) := by decide +kernel
theorem dX7_isOpen_21 : decode cX7_isOpen 21 = .ok (.invokevirtual 173, 3) := by decide +kernel
theorem dX7_isOpen_24 : decode cX7_isOpen 24 = .ok (.ifCond .eq 7, 3) := by decide +kernel
theorem dX7_isOpen_27 : decode cX7_isOpen 27 = .ok (.iconst 1, 1) := by decide +kernel
theorem dX7_isOpen_28 : decode cX7_isOpen 28 = .ok (.goto 4, 3) := by decide +kernel
theorem dX7_isOpen_31 : decode cX7_isOpen 31 = .ok (.iconst 0, 1) := by decide +kernel
theorem dX7_isOpen_32 : decode cX7_isOpen 32 = .ok (.ireturn, 1) := by decide +kernel
theorem dX7_wants_0 : decode cX7_wants 0 = .ok (.aload_n 0, 1) := by decide +kernel
theorem dX7_wants_1 : decode cX7_wants 1 = .ok (.getfield 13, 3) := by decide +kernel
theorem dX7_wants_4 : decode cX7_wants 4 = .ok (.iload_n 1, 1) := by decide +kernel
theorem dX7_wants_5 : decode cX7_wants 5 = .ok (.iaload, 1) := by decide +kernel
theorem dX7_wants_6 : decode cX7_wants 6 = .ok (.iconst 5, 1) := by decide +kernel
theorem dX7_wants_7 : decode cX7_wants 7 = .ok (.if_icmp .ne 7, 3) := by decide +kernel
theorem dX7_wants_10 : decode cX7_wants 10 = .ok (.iconst 0, 1) := by decide +kernel
theorem dX7_wants_11 : decode cX7_wants 11 = .ok (.goto 30, 3) := by decide +kernel
theorem dX7_wants_14 : decode cX7_wants 14 = .ok (.aload_n 0, 1) := by decide +kernel
theorem dX7_wants_15 : decode cX7_wants 15 = .ok (.getfield 13, 3) := by decide +kernel
theorem dX7_wants_18 : decode cX7_wants 18 = .ok (.iload_n 1, 1) := by decide +kernel
theorem dX7_wants_19 : decode cX7_wants 19 = .ok (.iaload, 1) := by decide +kernel
theorem dX7_wants_20 : decode cX7_wants 20 = .ok (.iconst 4, 1) := by decide +kernel
theorem dX7_wants_21 : decode cX7_wants 21 = .ok (.if_icmp .ne 14, 3) := by decide +kernel
theorem dX7_wants_24 : decode cX7_wants 24 = .ok (.aload_n 0, 1) := by decide +kernel
theorem dX7_wants_25 : decode cX7_wants 25 = .ok (.getfield 16, 3) := by decide +kernel
theorem dX7_wants_28 : decode cX7_wants 28 = .ok (.iload_n 1, 1) := by decide +kernel
theorem dX7_wants_29 : decode cX7_wants 29 = .ok (.iaload, 1) := by decide +kernel
theorem dX7_wants_30 : decode cX7_wants 30 = .ok (.iconst 2, 1) := by decide +kernel
theorem dX7_wants_31 : decode cX7_wants 31 = .ok (.idiv, 1) := by decide +kernel
theorem dX7_wants_32 : decode cX7_wants 32 = .ok (.goto 9, 3) := by decide +kernel
theorem dX7_wants_35 : decode cX7_wants 35 = .ok (.aload_n 0, 1) := by decide +kernel
theorem dX7_wants_36 : decode cX7_wants 36 = .ok (.getfield 16, 3) := by decide +kernel
theorem dX7_wants_39 : decode cX7_wants 39 = .ok (.iload_n 1, 1) := by decide +kernel
theorem dX7_wants_40 : decode cX7_wants 40 = .ok (.iaload, 1) := by decide +kernel
theorem dX7_wants_41 : decode cX7_wants 41 = .ok (.ireturn, 1) := by decide +kernel
theorem dX7_wantsYet_0 : decode cX7_wantsYet 0 = .ok (.aload_n 0, 1) := by decide +kernel
theorem dX7_wantsYet_1 : decode cX7_wantsYet 1 = .ok (.iload_n 1, 1) := by decide +kernel
theorem dX7_wantsYet_2 : decode cX7_wantsYet 2 = .ok (.invokevirtual 176, 3) := by decide +kernel
theorem dX7_wantsYet_5 : decode cX7_wantsYet 5 = .ok (.aload_n 0, 1) := by decide +kernel
theorem dX7_wantsYet_6 : decode cX7_wantsYet 6 = .ok (.getfield 7, 3) := by decide +kernel
theorem dX7_wantsYet_9 : decode cX7_wantsYet 9 = .ok (.bipush 10, 2) := by decide +kernel
theorem dX7_wantsYet_11 : decode cX7_wantsYet 11 = .ok (.iload_n 1, 1) := by decide +kernel
theorem dX7_wantsYet_12 : decode cX7_wantsYet 12 = .ok (.iadd, 1) := by decide +kernel
theorem dX7_wantsYet_13 : decode cX7_wantsYet 13 = .ok (.iaload, 1) := by decide +kernel
theorem dX7_wantsYet_14 : decode cX7_wantsYet 14 = .ok (.isub, 1) := by decide +kernel
theorem dX7_wantsYet_15 : decode cX7_wantsYet 15 = .ok (.ireturn, 1) := by decide +kernel
theorem dX7_toldOf_0 : decode cX7_toldOf 0 = .ok (.iload_n 2, 1) := by decide +kernel
theorem dX7_toldOf_1 : decode cX7_toldOf 1 = .ok (.tableswitch 88 0 5 #[39, 46, 53, 63, 73, 82], 39) := by decide +kernel
theorem dX7_toldOf_40 : decode cX7_toldOf 40 = .ok (.aload_n 0, 1) := by decide +kernel
theorem dX7_toldOf_41 : decode cX7_toldOf 41 = .ok (.getfield 13, 3) := by decide +kernel
theorem dX7_toldOf_44 : decode cX7_toldOf 44 = .ok (.iload_n 1, 1) := by decide +kernel
theorem dX7_toldOf_45 : decode cX7_toldOf 45 = .ok (.iaload, 1) := by decide +kernel
theorem dX7_toldOf_46 : decode cX7_toldOf 46 = .ok (.ireturn, 1) := by decide +kernel
theorem dX7_toldOf_47 : decode cX7_toldOf 47 = .ok (.aload_n 0, 1) := by decide +kernel
theorem dX7_toldOf_48 : decode cX7_toldOf 48 = .ok (.getfield 16, 3) := by decide +kernel
theorem dX7_toldOf_51 : decode cX7_toldOf 51 = .ok (.iload_n 1, 1) := by decide +kernel
theorem dX7_toldOf_52 : decode cX7_toldOf 52 = .ok (.iaload, 1) := by decide +kernel
theorem dX7_toldOf_53 : decode cX7_toldOf 53 = .ok (.ireturn, 1) := by decide +kernel
theorem dX7_toldOf_54 : decode cX7_toldOf 54 = .ok (.aload_n 0, 1) := by decide +kernel
theorem dX7_toldOf_55 : decode cX7_toldOf 55 = .ok (.getfield 7, 3) := by decide +kernel
theorem dX7_toldOf_58 : decode cX7_toldOf 58 = .ok (.bipush 10, 2) := by decide +kernel
theorem dX7_toldOf_60 : decode cX7_toldOf 60 = .ok (.iload_n 1, 1) := by decide +kernel
theorem dX7_toldOf_61 : decode cX7_toldOf 61 = .ok (.iadd, 1) := by decide +kernel
theorem dX7_toldOf_62 : decode cX7_toldOf 62 = .ok (.iaload, 1) := by decide +kernel
theorem dX7_toldOf_63 : decode cX7_toldOf 63 = .ok (.ireturn, 1) := by decide +kernel
theorem dX7_toldOf_64 : decode cX7_toldOf 64 = .ok (.aload_n 0, 1) := by decide +kernel
theorem dX7_toldOf_65 : decode cX7_toldOf 65 = .ok (.getfield 7, 3) := by decide +kernel
theorem dX7_toldOf_68 : decode cX7_toldOf 68 = .ok (.bipush 17, 2) := by decide +kernel
theorem dX7_toldOf_70 : decode cX7_toldOf 70 = .ok (.iload_n 1, 1) := by decide +kernel
theorem dX7_toldOf_71 : decode cX7_toldOf 71 = .ok (.iadd, 1) := by decide +kernel
theorem dX7_toldOf_72 : decode cX7_toldOf 72 = .ok (.iaload, 1) := by decide +kernel
theorem dX7_toldOf_73 : decode cX7_toldOf 73 = .ok (.ireturn, 1) := by decide +kernel
theorem dX7_toldOf_74 : decode cX7_toldOf 74 = .ok (.aload_n 0, 1) := by decide +kernel
theorem dX7_toldOf_75 : decode cX7_toldOf 75 = .ok (.getfield 7, 3) := by decide +kernel
theorem dX7_toldOf_78 : decode cX7_toldOf 78 = .ok (.iconst 3, 1) := by decide +kernel
theorem dX7_toldOf_79 : decode cX7_toldOf 79 = .ok (.iload_n 1, 1) := by decide +kernel
theorem dX7_toldOf_80 : decode cX7_toldOf 80 = .ok (.iadd, 1) := by decide +kernel
theorem dX7_toldOf_81 : decode cX7_toldOf 81 = .ok (.iaload, 1) := by decide +kernel
theorem dX7_toldOf_82 : decode cX7_toldOf 82 = .ok (.ireturn, 1) := by decide +kernel
theorem dX7_toldOf_83 : decode cX7_toldOf 83 = .ok (.aload_n 0, 1) := by decide +kernel
theorem dX7_toldOf_84 : decode cX7_toldOf 84 = .ok (.iload_n 1, 1) := by decide +kernel
theorem dX7_toldOf_85 : decode cX7_toldOf 85 = .ok (.invokevirtual 167, 3) := by decide +kernel
theorem dX7_toldOf_88 : decode cX7_toldOf 88 = .ok (.ireturn, 1) := by decide +kernel
theorem dX7_toldOf_89 : decode cX7_toldOf 89 = .ok (.aload_n 0, 1) := by decide +kernel
theorem dX7_toldOf_90 : decode cX7_toldOf 90 = .ok (.getfield 19, 3) := by decide +kernel
theorem dX7_toldOf_93 : decode cX7_toldOf 93 = .ok (.iload_n 1, 1) := by decide +kernel
theorem dX7_toldOf_94 : decode cX7_toldOf 94 = .ok (.iaload, 1) := by decide +kernel
theorem dX7_toldOf_95 : decode cX7_toldOf 95 = .ok (.ireturn, 1) := by decide +kernel
theorem dX7_house_0 : decode cX7_house 0 = .ok (.aload_n 0, 1) := by decide +kernel
theorem dX7_house_1 : decode cX7_house 1 = .ok (.iload_n 1, 1) := by decide +kernel
theorem dX7_house_2 : decode cX7_house 2 = .ok (.invokevirtual 179, 3) := by decide +kernel
theorem dX7_house_5 : decode cX7_house 5 = .ok (.ifCond .eq 28, 3) := by decide +kernel
theorem dX7_house_8 : decode cX7_house 8 = .ok (.iload_n 2, 1) := by decide +kernel
theorem dX7_house_9 : decode cX7_house 9 = .ok (.i2l, 1) := by decide +kernel
theorem dX7_house_10 : decode cX7_house 10 = .ok (.lconst 0, 1) := by decide +kernel
theorem dX7_house_11 : decode cX7_house 11 = .ok (.ldc2_w 182, 3) := by decide +kernel
theorem dX7_house_14 : decode cX7_house 14 = .ok (.invokestatic 66, 3) := by decide +kernel
theorem dX7_house_17 : decode cX7_house 17 = .ok (.ifCond .eq 16, 3) := by decide +kernel
theorem dX7_house_20 : decode cX7_house 20 = .ok (.aload_n 0, 1) := by decide +kernel
theorem dX7_house_21 : decode cX7_house 21 = .ok (.aload_n 0, 1) := by decide +kernel
theorem dX7_house_22 : decode cX7_house 22 = .ok (.iload_n 1, 1) := by decide +kernel
theorem dX7_house_23 : decode cX7_house 23 = .ok (.iload_n 2, 1) := by decide +kernel
theorem dX7_house_24 : decode cX7_house 24 = .ok (.invokevirtual 184, 3) := by decide +kernel
theorem dX7_house_27 : decode cX7_house 27 = .ok (.invokevirtual 88, 3) := by decide +kernel
theorem dX7_house_30 : decode cX7_house 30 = .ok (.goto 4, 3) := by decide +kernel
theorem dX7_house_33 : decode cX7_house 33 = .ok (.iconst (-1), 1) := by decide +kernel
theorem dX7_house_34 : decode cX7_house 34 = .ok (.ireturn, 1) := by decide +kernel
theorem dX7_isOf_0 : decode cX7_isOf 0 = .ok (.aload_n 0, 1) := by decide +kernel
theorem dX7_isOf_1 : decode cX7_isOf 1 = .ok (.getfield 13, 3) := by decide +kernel
theorem dX7_isOf_4 : decode cX7_isOf 4 = .ok (.iload_n 1, 1) := by decide +kernel
theorem dX7_isOf_5 : decode cX7_isOf 5 = .ok (.iaload, 1) := by decide +kernel
theorem dX7_isOf_6 : decode cX7_isOf 6 = .ok (.iload_n 2, 1) := by decide +kernel
theorem dX7_isOf_7 : decode cX7_isOf 7 = .ok (.if_icmp .eq 33, 3) := by decide +kernel
theorem dX7_isOf_10 : decode cX7_isOf 10 = .ok (.iload_n 2, 1) := by decide +kernel
theorem dX7_isOf_11 : decode cX7_isOf 11 = .ok (.iconst 1, 1) := by decide +kernel
theorem dX7_isOf_12 : decode cX7_isOf 12 = .ok (.if_icmp .ne 13, 3) := by decide +kernel
theorem dX7_isOf_15 : decode cX7_isOf 15 = .ok (.aload_n 0, 1) := by decide +kernel
theorem dX7_isOf_16 : decode cX7_isOf 16 = .ok (.getfield 13, 3) := by decide +kernel
theorem dX7_isOf_19 : decode cX7_isOf 19 = .ok (.iload_n 1, 1) := by decide +kernel
theorem dX7_isOf_20 : decode cX7_isOf 20 = .ok (.iaload, 1) := by decide +kernel
theorem dX7_isOf_21 : decode cX7_isOf 21 = .ok (.iconst 4, 1) := by decide +kernel
theorem dX7_isOf_22 : decode cX7_isOf 22 = .ok (.if_icmp .eq 18, 3) := by decide +kernel
theorem dX7_isOf_25 : decode cX7_isOf 25 = .ok (.iload_n 2, 1) := by decide +kernel
theorem dX7_isOf_26 : decode cX7_isOf 26 = .ok (.iconst 3, 1) := by decide +kernel
theorem dX7_isOf_27 : decode cX7_isOf 27 = .ok (.if_icmp .ne 17, 3) := by decide +kernel
theorem dX7_isOf_30 : decode cX7_isOf 30 = .ok (.aload_n 0, 1) := by decide +kernel
theorem dX7_isOf_31 : decode cX7_isOf 31 = .ok (.getfield 13, 3) := by decide +kernel
theorem dX7_isOf_34 : decode cX7_isOf 34 = .ok (.iload_n 1, 1) := by decide +kernel
theorem dX7_isOf_35 : decode cX7_isOf 35 = .ok (.iaload, 1) := by decide +kernel
theorem dX7_isOf_36 : decode cX7_isOf 36 = .ok (.iconst 5, 1) := by decide +kernel
theorem dX7_isOf_37 : decode cX7_isOf 37 = .ok (.if_icmp .ne 7, 3) := by decide +kernel
theorem dX7_isOf_40 : decode cX7_isOf 40 = .ok (.iconst 1, 1) := by decide +kernel
theorem dX7_isOf_41 : decode cX7_isOf 41 = .ok (.goto 4, 3) := by decide +kernel
theorem dX7_isOf_44 : decode cX7_isOf 44 = .ok (.iconst 0, 1) := by decide +kernel
theorem dX7_isOf_45 : decode cX7_isOf 45 = .ok (.ireturn, 1) := by decide +kernel
theorem dX7_needed_0 : decode cX7_needed 0 = .ok (.iconst 0, 1) := by decide +kernel
theorem dX7_needed_1 : decode cX7_needed 1 = .ok (.istore_n 2, 1) := by decide +kernel
theorem dX7_needed_2 : decode cX7_needed 2 = .ok (.iconst 0, 1) := by decide +kernel
theorem dX7_needed_3 : decode cX7_needed 3 = .ok (.istore_n 3, 1) := by decide +kernel
theorem dX7_needed_4 : decode cX7_needed 4 = .ok (.iload_n 3, 1) := by decide +kernel
theorem dX7_needed_5 : decode cX7_needed 5 = .ok (.aload_n 0, 1) := by decide +kernel
theorem dX7_needed_6 : decode cX7_needed 6 = .ok (.getfield 158, 3) := by decide +kernel
theorem dX7_needed_9 : decode cX7_needed 9 = .ok (.if_icmp .ge 39, 3) := by decide +kernel
theorem dX7_needed_12 : decode cX7_needed 12 = .ok (.iload_n 2, 1) := by decide +kernel
theorem dX7_needed_13 : decode cX7_needed 13 = .ok (.iload_n 3, 1) := by decide +kernel
theorem dX7_needed_14 : decode cX7_needed 14 = .ok (.iload_n 1, 1) := by decide +kernel
theorem dX7_needed_15 : decode cX7_needed 15 = .ok (.if_icmp .eq 24, 3) := by decide +kernel
theorem dX7_needed_18 : decode cX7_needed 18 = .ok (.aload_n 0, 1) := by decide +kernel
theorem dX7_needed_19 : decode cX7_needed 19 = .ok (.aload_n 0, 1) := by decide +kernel
theorem dX7_needed_20 : decode cX7_needed 20 = .ok (.invokevirtual 164, 3) := by decide +kernel
theorem dX7_needed_23 : decode cX7_needed 23 = .ok (.iconst 1, 1) := by decide +kernel
theorem dX7_needed_24 : decode cX7_needed 24 = .ok (.iload_n 3, 1) := by decide +kernel
theorem dX7_needed_25 : decode cX7_needed 25 = .ok (.ishl, 1) := by decide +kernel
theorem dX7_needed_26 : decode cX7_needed 26 = .ok (.iconst (-1), 1) := by decide +kernel
theorem dX7_needed_27 : decode cX7_needed 27 = .ok (.ixor, 1) := by decide +kernel
theorem dX7_needed_28 : decode cX7_needed 28 = .ok (.iand, 1) := by decide +kernel
theorem dX7_needed_29 : decode cX7_needed 29 = .ok (.invokevirtual 187, 3) := by decide +kernel
theorem dX7_needed_32 : decode cX7_needed 32 = .ok (.ifCond .ne 7, 3) := by decide +kernel
theorem dX7_needed_35 : decode cX7_needed 35 = .ok (.iconst 1, 1) := by decide +kernel
theorem dX7_needed_36 : decode cX7_needed 36 = .ok (.goto 4, 3) := by decide +kernel
theorem dX7_needed_39 : decode cX7_needed 39 = .ok (.iconst 0, 1) := by decide +kernel
theorem dX7_needed_40 : decode cX7_needed 40 = .ok (.iadd, 1) := by decide +kernel
theorem dX7_needed_41 : decode cX7_needed 41 = .ok (.istore_n 2, 1) := by decide +kernel
theorem dX7_needed_42 : decode cX7_needed 42 = .ok (.iinc 3 1, 3) := by decide +kernel
theorem dX7_needed_45 : decode cX7_needed 45 = .ok (.goto (-41), 3) := by decide +kernel
theorem dX7_needed_48 : decode cX7_needed 48 = .ok (.iload_n 2, 1) := by decide +kernel
theorem dX7_needed_49 : decode cX7_needed 49 = .ok (.ireturn, 1) := by decide +kernel
theorem dX7_keysHeld_0 : decode cX7_keysHeld 0 = .ok (.iconst 0, 1) := by decide +kernel
theorem dX7_keysHeld_1 : decode cX7_keysHeld 1 = .ok (.istore_n 2, 1) := by decide +kernel
theorem dX7_keysHeld_2 : decode cX7_keysHeld 2 = .ok (.iconst 0, 1) := by decide +kernel
theorem dX7_keysHeld_3 : decode cX7_keysHeld 3 = .ok (.istore_n 3, 1) := by decide +kernel
theorem dX7_keysHeld_4 : decode cX7_keysHeld 4 = .ok (.iload_n 3, 1) := by decide +kernel
theorem dX7_keysHeld_5 : decode cX7_keysHeld 5 = .ok (.aload_n 0, 1) := by decide +kernel
theorem dX7_keysHeld_6 : decode cX7_keysHeld 6 = .ok (.getfield 158, 3) := by decide +kernel
theorem dX7_keysHeld_9 : decode cX7_keysHeld 9 = .ok (.if_icmp .ge 29, 3) := by decide +kernel
theorem dX7_keysHeld_12 : decode cX7_keysHeld 12 = .ok (.iload_n 2, 1) := by decide +kernel
theorem dX7_keysHeld_13 : decode cX7_keysHeld 13 = .ok (.aload_n 0, 1) := by decide +kernel
theorem dX7_keysHeld_14 : decode cX7_keysHeld 14 = .ok (.getfield 7, 3) := by decide +kernel
theorem dX7_keysHeld_17 : decode cX7_keysHeld 17 = .ok (.iconst 3, 1) := by decide +kernel
theorem dX7_keysHeld_18 : decode cX7_keysHeld 18 = .ok (.iload_n 3, 1) := by decide +kernel
theorem dX7_keysHeld_19 : decode cX7_keysHeld 19 = .ok (.iadd, 1) := by decide +kernel
theorem dX7_keysHeld_20 : decode cX7_keysHeld 20 = .ok (.iaload, 1) := by decide +kernel
theorem dX7_keysHeld_21 : decode cX7_keysHeld 21 = .ok (.iload_n 1, 1) := by decide +kernel
theorem dX7_keysHeld_22 : decode cX7_keysHeld 22 = .ok (.if_icmp .ne 7, 3) := by decide +kernel
theorem dX7_keysHeld_25 : decode cX7_keysHeld 25 = .ok (.iconst 1, 1) := by decide +kernel
theorem dX7_keysHeld_26 : decode cX7_keysHeld 26 = .ok (.goto 4, 3) := by decide +kernel
theorem dX7_keysHeld_29 : decode cX7_keysHeld 29 = .ok (.iconst 0, 1) := by decide +kernel
theorem dX7_keysHeld_30 : decode cX7_keysHeld 30 = .ok (.iadd, 1) := by decide +kernel
theorem dX7_keysHeld_31 : decode cX7_keysHeld 31 = .ok (.istore_n 2, 1) := by decide +kernel
theorem dX7_keysHeld_32 : decode cX7_keysHeld 32 = .ok (.iinc 3 1, 3) := by decide +kernel
theorem dX7_keysHeld_35 : decode cX7_keysHeld 35 = .ok (.goto (-31), 3) := by decide +kernel
theorem dX7_keysHeld_38 : decode cX7_keysHeld 38 = .ok (.iload_n 2, 1) := by decide +kernel
theorem dX7_keysHeld_39 : decode cX7_keysHeld 39 = .ok (.ireturn, 1) := by decide +kernel
theorem dX7_mark_0 : decode cX7_mark 0 = .ok (.aload_n 0, 1) := by decide +kernel
theorem dX7_mark_1 : decode cX7_mark 1 = .ok (.iload_n 1, 1) := by decide +kernel
theorem dX7_mark_2 : decode cX7_mark 2 = .ok (.invokevirtual 179, 3) := by decide +kernel
theorem dX7_mark_5 : decode cX7_mark 5 = .ok (.ifCond .eq 15, 3) := by decide +kernel
theorem dX7_mark_8 : decode cX7_mark 8 = .ok (.iload_n 2, 1) := by decide +kernel
theorem dX7_mark_9 : decode cX7_mark 9 = .ok (.i2l, 1) := by decide +kernel
theorem dX7_mark_10 : decode cX7_mark 10 = .ok (.lconst 1, 1) := by decide +kernel
theorem dX7_mark_11 : decode cX7_mark 11 = .ok (.ldc2_w 64, 3) := by decide +kernel
theorem dX7_mark_14 : decode cX7_mark 14 = .ok (.invokestatic 66, 3) := by decide +kernel
theorem dX7_mark_17 : decode cX7_mark 17 = .ok (.ifCond .ne 5, 3) := by decide +kernel
theorem dX7_mark_20 : decode cX7_mark 20 = .ok (.iconst (-1), 1) := by decide +kernel
theorem dX7_mark_21 : decode cX7_mark 21 = .ok (.ireturn, 1) := by decide +kernel
theorem dX7_mark_22 : decode cX7_mark 22 = .ok (.aload_n 0, 1) := by decide +kernel
theorem dX7_mark_23 : decode cX7_mark 23 = .ok (.iload_n 1, 1) := by decide +kernel
theorem dX7_mark_24 : decode cX7_mark 24 = .ok (.iload_n 2, 1) := by decide +kernel
theorem dX7_mark_25 : decode cX7_mark 25 = .ok (.invokevirtual 190, 3) := by decide +kernel
theorem dX7_mark_28 : decode cX7_mark 28 = .ok (.ifCond .ne 9, 3) := by decide +kernel
theorem dX7_mark_31 : decode cX7_mark 31 = .ok (.aload_n 0, 1) := by decide +kernel
theorem dX7_mark_32 : decode cX7_mark 32 = .ok (.iconst 3, 1) := by decide +kernel
theorem dX7_mark_33 : decode cX7_mark 33 = .ok (.invokevirtual 76, 3) := by decide +kernel
theorem dX7_mark_36 : decode cX7_mark 36 = .ok (.ireturn, 1) := by decide +kernel
theorem dX7_mark_37 : decode cX7_mark 37 = .ok (.iload_n 2, 1) := by decide +kernel
theorem dX7_mark_38 : decode cX7_mark 38 = .ok (.tableswitch 71 1 4 #[30, 39, 52, 58], 30) := by decide +kernel
theorem dX7_mark_68 : decode cX7_mark 68 = .ok (.aload_n 0, 1) := by decide +kernel
theorem dX7_mark_69 : decode cX7_mark 69 = .ok (.getfield 7, 3) := by decide +kernel
theorem dX7_mark_72 : decode cX7_mark 72 = .ok (.iconst 1, 1) := by decide +kernel
theorem dX7_mark_73 : decode cX7_mark 73 = .ok (.iaload, 1) := by decide +kernel
theorem dX7_mark_74 : decode cX7_mark 74 = .ok (.iconst 2, 1) := by decide +kernel
theorem dX7_mark_75 : decode cX7_mark 75 = .ok (.irem, 1) := by decide +kernel
theorem dX7_mark_76 : decode cX7_mark 76 = .ok (.ireturn, 1) := by decide +kernel
theorem dX7_mark_77 : decode cX7_mark 77 = .ok (.iconst 3, 1) := by decide +kernel
theorem dX7_mark_78 : decode cX7_mark 78 = .ok (.aload_n 0, 1) := by decide +kernel
theorem dX7_mark_79 : decode cX7_mark 79 = .ok (.getfield 7, 3) := by decide +kernel
theorem dX7_mark_82 : decode cX7_mark 82 = .ok (.iconst 1, 1) := by decide +kernel
theorem dX7_mark_83 : decode cX7_mark 83 = .ok (.iaload, 1) := by decide +kernel
theorem dX7_mark_84 : decode cX7_mark 84 = .ok (.iconst 3, 1) := by decide +kernel
theorem dX7_mark_85 : decode cX7_mark 85 = .ok (.irem, 1) := by decide +kernel
theorem dX7_mark_86 : decode cX7_mark 86 = .ok (.isub, 1) := by decide +kernel
theorem dX7_mark_87 : decode cX7_mark 87 = .ok (.iconst 3, 1) := by decide +kernel
theorem dX7_mark_88 : decode cX7_mark 88 = .ok (.irem, 1) := by decide +kernel
theorem dX7_mark_89 : decode cX7_mark 89 = .ok (.ireturn, 1) := by decide +kernel
theorem dX7_mark_90 : decode cX7_mark 90 = .ok (.aload_n 0, 1) := by decide +kernel
theorem dX7_mark_91 : decode cX7_mark 91 = .ok (.iload_n 1, 1) := by decide +kernel
theorem dX7_mark_92 : decode cX7_mark 92 = .ok (.invokevirtual 193, 3) := by decide +kernel
theorem dX7_mark_95 : decode cX7_mark 95 = .ok (.ireturn, 1) := by decide +kernel
theorem dX7_mark_96 : decode cX7_mark 96 = .ok (.aload_n 0, 1) := by decide +kernel
theorem dX7_mark_97 : decode cX7_mark 97 = .ok (.getfield 16, 3) := by decide +kernel
theorem dX7_mark_100 : decode cX7_mark 100 = .ok (.iload_n 1, 1) := by decide +kernel
theorem dX7_mark_101 : decode cX7_mark 101 = .ok (.iaload, 1) := by decide +kernel
theorem dX7_mark_102 : decode cX7_mark 102 = .ok (.aload_n 0, 1) := by decide +kernel
theorem dX7_mark_103 : decode cX7_mark 103 = .ok (.iload_n 1, 1) := by decide +kernel
theorem dX7_mark_104 : decode cX7_mark 104 = .ok (.invokevirtual 176, 3) := by decide +kernel
theorem dX7_mark_107 : decode cX7_mark 107 = .ok (.isub, 1) := by decide +kernel
theorem dX7_mark_108 : decode cX7_mark 108 = .ok (.ireturn, 1) := by decide +kernel
theorem dX7_mark_109 : decode cX7_mark 109 = .ok (.aload_n 0, 1) := by decide +kernel
theorem dX7_mark_110 : decode cX7_mark 110 = .ok (.iload_n 1, 1) := by decide +kernel
theorem dX7_mark_111 : decode cX7_mark 111 = .ok (.invokevirtual 196, 3) := by decide +kernel
theorem dX7_mark_114 : decode cX7_mark 114 = .ok (.ireturn, 1) := by decide +kernel
theorem dX7_keepPast_0 : decode cX7_keepPast 0 = .ok (.iconst 0, 1) := by decide +kernel
theorem dX7_keepPast_1 : decode cX7_keepPast 1 = .ok (.istore_n 1, 1) := by decide +kernel
theorem dX7_keepPast_2 : decode cX7_keepPast 2 = .ok (.iload_n 1, 1) := by decide +kernel
theorem dX7_keepPast_3 : decode cX7_keepPast 3 = .ok (.bipush 23, 2) := by decide +kernel
theorem dX7_keepPast_5 : decode cX7_keepPast 5 = .ok (.if_icmp .ge 36, 3) := by decide +kernel
theorem dX7_keepPast_8 : decode cX7_keepPast 8 = .ok (.aload_n 0, 1) := by decide +kernel
theorem dX7_keepPast_9 : decode cX7_keepPast 9 = .ok (.getfield 7, 3) := by decide +kernel
theorem dX7_keepPast_12 : decode cX7_keepPast 12 = .ok (.bipush 24, 2) := by decide +kernel
theorem dX7_keepPast_14 : decode cX7_keepPast 14 = .ok (.bipush 23, 2) := by decide +kernel
theorem dX7_keepPast_16 : decode cX7_keepPast 16 = .ok (.aload_n 0, 1) := by decide +kernel
theorem dX7_keepPast_17 : decode cX7_keepPast 17 = .ok (.getfield 7, 3) := by decide +kernel
theorem dX7_keepPast_20 : decode cX7_keepPast 20 = .ok (.iconst 0, 1) := by decide +kernel
theorem dX7_keepPast_21 : decode cX7_keepPast 21 = .ok (.iaload, 1) := by decide +kernel
theorem dX7_keepPast_22 : decode cX7_keepPast 22 = .ok (.imul, 1) := by decide +kernel
theorem dX7_keepPast_23 : decode cX7_keepPast 23 = .ok (.iadd, 1) := by decide +kernel
theorem dX7_keepPast_24 : decode cX7_keepPast 24 = .ok (.iload_n 1, 1) := by decide +kernel
theorem dX7_keepPast_25 : decode cX7_keepPast 25 = .ok (.iadd, 1) := by decide +kernel
theorem dX7_keepPast_26 : decode cX7_keepPast 26 = .ok (.aload_n 0, 1) := by decide +kernel
theorem dX7_keepPast_27 : decode cX7_keepPast 27 = .ok (.getfield 7, 3) := by decide +kernel
theorem dX7_keepPast_30 : decode cX7_keepPast 30 = .ok (.iconst 1, 1) := by decide +kernel
theorem dX7_keepPast_31 : decode cX7_keepPast 31 = .ok (.iload_n 1, 1) := by decide +kernel
theorem dX7_keepPast_32 : decode cX7_keepPast 32 = .ok (.iadd, 1) := by decide +kernel
theorem dX7_keepPast_33 : decode cX7_keepPast 33 = .ok (.iaload, 1) := by decide +kernel
theorem dX7_keepPast_34 : decode cX7_keepPast 34 = .ok (.iastore, 1) := by decide +kernel
theorem dX7_keepPast_35 : decode cX7_keepPast 35 = .ok (.iinc 1 1, 3) := by decide +kernel
theorem dX7_keepPast_38 : decode cX7_keepPast 38 = .ok (.goto (-36), 3) := by decide +kernel
theorem dX7_keepPast_41 : decode cX7_keepPast 41 = .ok (.aload_n 0, 1) := by decide +kernel
theorem dX7_keepPast_42 : decode cX7_keepPast 42 = .ok (.getfield 7, 3) := by decide +kernel
theorem dX7_keepPast_45 : decode cX7_keepPast 45 = .ok (.iconst 0, 1) := by decide +kernel
theorem dX7_keepPast_46 : decode cX7_keepPast 46 = .ok (.dup2, 1) := by decide +kernel
theorem dX7_keepPast_47 : decode cX7_keepPast 47 = .ok (.iaload, 1) := by decide +kernel
theorem dX7_keepPast_48 : decode cX7_keepPast 48 = .ok (.iconst 1, 1) := by decide +kernel
theorem dX7_keepPast_49 : decode cX7_keepPast 49 = .ok (.iadd, 1) := by decide +kernel
theorem dX7_keepPast_50 : decode cX7_keepPast 50 = .ok (.iastore, 1) := by decide +kernel
theorem dX7_keepPast_51 : decode cX7_keepPast 51 = .ok (.return_, 1) := by decide +kernel
theorem dX7_draws_0 : decode cX7_draws 0 = .ok (.aload_n 0, 1) := by decide +kernel
theorem dX7_draws_1 : decode cX7_draws 1 = .ok (.iload_n 1, 1) := by decide +kernel
theorem dX7_draws_2 : decode cX7_draws 2 = .ok (.invokevirtual 199, 3) := by decide +kernel
theorem dX7_draws_5 : decode cX7_draws 5 = .ok (.aload_n 0, 1) := by decide +kernel
theorem dX7_draws_6 : decode cX7_draws 6 = .ok (.getfield 7, 3) := by decide +kernel
theorem dX7_draws_9 : decode cX7_draws 9 = .ok (.iconst 2, 1) := by decide +kernel
theorem dX7_draws_10 : decode cX7_draws 10 = .ok (.iaload, 1) := by decide +kernel
theorem dX7_draws_11 : decode cX7_draws 11 = .ok (.if_icmp .ge 11, 3) := by decide +kernel
theorem dX7_draws_14 : decode cX7_draws 14 = .ok (.aload_n 0, 1) := by decide +kernel
theorem dX7_draws_15 : decode cX7_draws 15 = .ok (.iload_n 1, 1) := by decide +kernel
theorem dX7_draws_16 : decode cX7_draws 16 = .ok (.invokevirtual 199, 3) := by decide +kernel
theorem dX7_draws_19 : decode cX7_draws 19 = .ok (.goto 9, 3) := by decide +kernel
theorem dX7_draws_22 : decode cX7_draws 22 = .ok (.aload_n 0, 1) := by decide +kernel
theorem dX7_draws_23 : decode cX7_draws 23 = .ok (.getfield 7, 3) := by decide +kernel
theorem dX7_draws_26 : decode cX7_draws 26 = .ok (.iconst 2, 1) := by decide +kernel
theorem dX7_draws_27 : decode cX7_draws 27 = .ok (.iaload, 1) := by decide +kernel
theorem dX7_draws_28 : decode cX7_draws 28 = .ok (.istore_n 2, 1) := by decide +kernel
theorem dX7_draws_29 : decode cX7_draws 29 = .ok (.aload_n 0, 1) := by decide +kernel
theorem dX7_draws_30 : decode cX7_draws 30 = .ok (.getfield 7, 3) := by decide +kernel
theorem dX7_draws_33 : decode cX7_draws 33 = .ok (.iconst 2, 1) := by decide +kernel
theorem dX7_draws_34 : decode cX7_draws 34 = .ok (.dup2, 1) := by decide +kernel
theorem dX7_draws_35 : decode cX7_draws 35 = .ok (.iaload, 1) := by decide +kernel
theorem dX7_draws_36 : decode cX7_draws 36 = .ok (.iload_n 2, 1) := by decide +kernel
theorem dX7_draws_37 : decode cX7_draws 37 = .ok (.isub, 1) := by decide +kernel
theorem dX7_draws_38 : decode cX7_draws 38 = .ok (.iastore, 1) := by decide +kernel
theorem dX7_draws_39 : decode cX7_draws 39 = .ok (.aload_n 0, 1) := by decide +kernel
theorem dX7_draws_40 : decode cX7_draws 40 = .ok (.getfield 7, 3) := by decide +kernel
theorem dX7_draws_43 : decode cX7_draws 43 = .ok (.bipush 10, 2) := by decide +kernel
theorem dX7_draws_45 : decode cX7_draws 45 = .ok (.iload_n 1, 1) := by decide +kernel
theorem dX7_draws_46 : decode cX7_draws 46 = .ok (.iadd, 1) := by decide +kernel
theorem dX7_draws_47 : decode cX7_draws 47 = .ok (.dup2, 1) := by decide +kernel
theorem dX7_draws_48 : decode cX7_draws 48 = .ok (.iaload, 1) := by decide +kernel
theorem dX7_draws_49 : decode cX7_draws 49 = .ok (.iload_n 2, 1) := by decide +kernel
theorem dX7_draws_50 : decode cX7_draws 50 = .ok (.iadd, 1) := by decide +kernel
theorem dX7_draws_51 : decode cX7_draws 51 = .ok (.iastore, 1) := by decide +kernel
theorem dX7_draws_52 : decode cX7_draws 52 = .ok (.aload_n 0, 1) := by decide +kernel
theorem dX7_draws_53 : decode cX7_draws 53 = .ok (.getfield 7, 3) := by decide +kernel
theorem dX7_draws_56 : decode cX7_draws 56 = .ok (.bipush 17, 2) := by decide +kernel
theorem dX7_draws_58 : decode cX7_draws 58 = .ok (.iload_n 1, 1) := by decide +kernel
theorem dX7_draws_59 : decode cX7_draws 59 = .ok (.iadd, 1) := by decide +kernel
theorem dX7_draws_60 : decode cX7_draws 60 = .ok (.dup2, 1) := by decide +kernel
theorem dX7_draws_61 : decode cX7_draws 61 = .ok (.iaload, 1) := by decide +kernel
theorem dX7_draws_62 : decode cX7_draws 62 = .ok (.iload_n 2, 1) := by decide +kernel
theorem dX7_draws_63 : decode cX7_draws 63 = .ok (.iadd, 1) := by decide +kernel
theorem dX7_draws_64 : decode cX7_draws 64 = .ok (.iastore, 1) := by decide +kernel
theorem dX7_draws_65 : decode cX7_draws 65 = .ok (.iload_n 2, 1) := by decide +kernel
theorem dX7_draws_66 : decode cX7_draws 66 = .ok (.ireturn, 1) := by decide +kernel
theorem dX7_setOf_0 : decode cX7_setOf 0 = .ok (.iconst 0, 1) := by decide +kernel
theorem dX7_setOf_1 : decode cX7_setOf 1 = .ok (.istore_n 2, 1) := by decide +kernel
theorem dX7_setOf_2 : decode cX7_setOf 2 = .ok (.iconst 0, 1) := by decide +kernel
theorem dX7_setOf_3 : decode cX7_setOf 3 = .ok (.istore_n 3, 1) := by decide +kernel
theorem dX7_setOf_4 : decode cX7_setOf 4 = .ok (.iload_n 3, 1) := by decide +kernel
theorem dX7_setOf_5 : decode cX7_setOf 5 = .ok (.aload_n 0, 1) := by decide +kernel
theorem dX7_setOf_6 : decode cX7_setOf 6 = .ok (.getfield 22, 3) := by decide +kernel
theorem dX7_setOf_9 : decode cX7_setOf 9 = .ok (.iload_n 1, 1) := by decide +kernel
theorem dX7_setOf_10 : decode cX7_setOf 10 = .ok (.iaload, 1) := by decide +kernel
theorem dX7_setOf_11 : decode cX7_setOf 11 = .ok (.if_icmp .ge 50, 3) := by decide +kernel
theorem dX7_setOf_14 : decode cX7_setOf 14 = .ok (.aload_n 0, 1) := by decide +kernel
theorem dX7_setOf_15 : decode cX7_setOf 15 = .ok (.getfield 25, 3) := by decide +kernel
theorem dX7_setOf_18 : decode cX7_setOf 18 = .ok (.bipush 40, 2) := by decide +kernel
theorem dX7_setOf_20 : decode cX7_setOf 20 = .ok (.iload_n 1, 1) := by decide +kernel
theorem dX7_setOf_21 : decode cX7_setOf 21 = .ok (.imul, 1) := by decide +kernel
theorem dX7_setOf_22 : decode cX7_setOf 22 = .ok (.iload_n 3, 1) := by decide +kernel
theorem dX7_setOf_23 : decode cX7_setOf 23 = .ok (.iadd, 1) := by decide +kernel
theorem dX7_setOf_24 : decode cX7_setOf 24 = .ok (.iaload, 1) := by decide +kernel
theorem dX7_setOf_25 : decode cX7_setOf 25 = .ok (.istore 4, 2) := by decide +kernel
theorem dX7_setOf_27 : decode cX7_setOf 27 = .ok (.aload_n 0, 1) := by decide +kernel
theorem dX7_setOf_28 : decode cX7_setOf 28 = .ok (.iload 4, 2) := by decide +kernel
theorem dX7_setOf_30 : decode cX7_setOf 30 = .ok (.invokevirtual 179, 3) := by decide +kernel
theorem dX7_setOf_33 : decode cX7_setOf 33 = .ok (.ifCond .eq 12, 3) := by decide +kernel
theorem dX7_setOf_36 : decode cX7_setOf 36 = .ok (.iload_n 2, 1) := by decide +kernel
theorem dX7_setOf_37 : decode cX7_setOf 37 = .ok (.iload 4, 2) := by decide +kernel
theorem dX7_setOf_39 : decode cX7_setOf 39 = .ok (.invokestatic 135, 3) := by decide +kernel
theorem dX7_setOf_42 : decode cX7_setOf 42 = .ok (.ifCond .eq 6, 3) := by decide +kernel
theorem dX7_setOf_45 : decode cX7_setOf 45 = .ok (.bipush (-9), 2) := by decide +kernel
theorem dX7_setOf_47 : decode cX7_setOf 47 = .ok (.ireturn, 1) := by decide +kernel
theorem dX7_setOf_48 : decode cX7_setOf 48 = .ok (.iload_n 2, 1) := by decide +kernel
theorem dX7_setOf_49 : decode cX7_setOf 49 = .ok (.iconst 1, 1) := by decide +kernel
theorem dX7_setOf_50 : decode cX7_setOf 50 = .ok (.iload 4, 2) := by decide +kernel
theorem dX7_setOf_52 : decode cX7_setOf 52 = .ok (.ishl, 1) := by decide +kernel
theorem dX7_setOf_53 : decode cX7_setOf 53 = .ok (.ior, 1) := by decide +kernel
theorem dX7_setOf_54 : decode cX7_setOf 54 = .ok (.istore_n 2, 1) := by decide +kernel
theorem dX7_setOf_55 : decode cX7_setOf 55 = .ok (.iinc 3 1, 3) := by decide +kernel
theorem dX7_setOf_58 : decode cX7_setOf 58 = .ok (.goto (-54), 3) := by decide +kernel
theorem dX7_setOf_61 : decode cX7_setOf 61 = .ok (.iload_n 2, 1) := by decide +kernel
theorem dX7_setOf_62 : decode cX7_setOf 62 = .ok (.ireturn, 1) := by decide +kernel
theorem dX7_meet_0 : decode cX7_meet 0 = .ok (.iload_n 1, 1) := by decide +kernel
theorem dX7_meet_1 : decode cX7_meet 1 = .ok (.invokestatic 72, 3) := by decide +kernel
theorem dX7_meet_4 : decode cX7_meet 4 = .ok (.ifCond .ne 5, 3) := by decide +kernel
theorem dX7_meet_7 : decode cX7_meet 7 = .ok (.iconst (-1), 1) := by decide +kernel
theorem dX7_meet_8 : decode cX7_meet 8 = .ok (.ireturn, 1) := by decide +kernel
theorem dX7_meet_9 : decode cX7_meet 9 = .ok (.aload_n 0, 1) := by decide +kernel
theorem dX7_meet_10 : decode cX7_meet 10 = .ok (.getfield 22, 3) := by decide +kernel
theorem dX7_meet_13 : decode cX7_meet 13 = .ok (.iload_n 1, 1) := by decide +kernel
theorem dX7_meet_14 : decode cX7_meet 14 = .ok (.iaload, 1) := by decide +kernel
theorem dX7_meet_15 : decode cX7_meet 15 = .ok (.ifCond .ge 9, 3) := by decide +kernel
theorem dX7_meet_18 : decode cX7_meet 18 = .ok (.aload_n 0, 1) := by decide +kernel
theorem dX7_meet_19 : decode cX7_meet 19 = .ok (.iconst 1, 1) := by decide +kernel
theorem dX7_meet_20 : decode cX7_meet 20 = .ok (.invokevirtual 76, 3) := by decide +kernel
theorem dX7_meet_23 : decode cX7_meet 23 = .ok (.ireturn, 1) := by decide +kernel
theorem dX7_meet_24 : decode cX7_meet 24 = .ok (.aload_n 0, 1) := by decide +kernel
theorem dX7_meet_25 : decode cX7_meet 25 = .ok (.getfield 22, 3) := by decide +kernel
theorem dX7_meet_28 : decode cX7_meet 28 = .ok (.iload_n 1, 1) := by decide +kernel
theorem dX7_meet_29 : decode cX7_meet 29 = .ok (.iaload, 1) := by decide +kernel
theorem dX7_meet_30 : decode cX7_meet 30 = .ok (.aload_n 0, 1) := by decide +kernel
theorem dX7_meet_31 : decode cX7_meet 31 = .ok (.getfield 158, 3) := by decide +kernel
theorem dX7_meet_34 : decode cX7_meet 34 = .ok (.if_icmp .le 9, 3) := by decide +kernel
theorem dX7_meet_37 : decode cX7_meet 37 = .ok (.aload_n 0, 1) := by decide +kernel
theorem dX7_meet_38 : decode cX7_meet 38 = .ok (.iconst 5, 1) := by decide +kernel
theorem dX7_meet_39 : decode cX7_meet 39 = .ok (.invokevirtual 76, 3) := by decide +kernel
theorem dX7_meet_42 : decode cX7_meet 42 = .ok (.ireturn, 1) := by decide +kernel
theorem dX7_meet_43 : decode cX7_meet 43 = .ok (.aload_n 0, 1) := by decide +kernel
theorem dX7_meet_44 : decode cX7_meet 44 = .ok (.iload_n 1, 1) := by decide +kernel
theorem dX7_meet_45 : decode cX7_meet 45 = .ok (.invokevirtual 202, 3) := by decide +kernel
theorem dX7_meet_48 : decode cX7_meet 48 = .ok (.istore_n 2, 1) := by decide +kernel
theorem dX7_meet_49 : decode cX7_meet 49 = .ok (.iload_n 2, 1) := by decide +kernel
theorem dX7_meet_50 : decode cX7_meet 50 = .ok (.bipush (-9), 2) := by decide +kernel
theorem dX7_meet_52 : decode cX7_meet 52 = .ok (.if_icmp .ne 9, 3) := by decide +kernel
theorem dX7_meet_55 : decode cX7_meet 55 = .ok (.aload_n 0, 1) := by decide +kernel
theorem dX7_meet_56 : decode cX7_meet 56 = .ok (.iconst 3, 1) := by decide +kernel
theorem dX7_meet_57 : decode cX7_meet 57 = .ok (.invokevirtual 76, 3) := by decide +kernel
theorem dX7_meet_60 : decode cX7_meet 60 = .ok (.ireturn, 1) := by decide +kernel
theorem dX7_meet_61 : decode cX7_meet 61 = .ok (.aload_n 0, 1) := by decide +kernel
theorem dX7_meet_62 : decode cX7_meet 62 = .ok (.iload_n 2, 1) := by decide +kernel
theorem dX7_meet_63 : decode cX7_meet 63 = .ok (.invokevirtual 187, 3) := by decide +kernel
theorem dX7_meet_66 : decode cX7_meet 66 = .ok (.ifCond .ne 6, 3) := by decide +kernel
theorem dX7_meet_69 : decode cX7_meet 69 = .ok (.bipush (-4), 2) := by decide +kernel
theorem dX7_meet_71 : decode cX7_meet 71 = .ok (.ireturn, 1) := by decide +kernel
theorem dX7_meet_72 : decode cX7_meet 72 = .ok (.aload_n 0, 1) := by decide +kernel
theorem dX7_meet_73 : decode cX7_meet 73 = .ok (.getfield 7, 3) := by decide +kernel
theorem dX7_meet_76 : decode cX7_meet 76 = .ok (.iconst 0, 1) := by decide +kernel
theorem dX7_meet_77 : decode cX7_meet 77 = .ok (.iaload, 1) := by decide +kernel
theorem dX7_meet_78 : decode cX7_meet 78 = .ok (.bipush 40, 2) := by decide +kernel
theorem dX7_meet_80 : decode cX7_meet 80 = .ok (.if_icmp .ne 6, 3) := by decide +kernel
theorem dX7_meet_83 : decode cX7_meet 83 = .ok (.bipush (-2), 2) := by decide +kernel
theorem dX7_meet_85 : decode cX7_meet 85 = .ok (.ireturn, 1) := by decide +kernel
theorem dX7_meet_86 : decode cX7_meet 86 = .ok (.aload_n 0, 1) := by decide +kernel
theorem dX7_meet_87 : decode cX7_meet 87 = .ok (.invokevirtual 205, 3) := by decide +kernel
theorem dX7_meet_90 : decode cX7_meet 90 = .ok (.iconst 0, 1) := by decide +kernel
theorem dX7_meet_91 : decode cX7_meet 91 = .ok (.istore_n 3, 1) := by decide +kernel
theorem dX7_meet_92 : decode cX7_meet 92 = .ok (.iconst 0, 1) := by decide +kernel
theorem dX7_meet_93 : decode cX7_meet 93 = .ok (.istore 4, 2) := by decide +kernel
theorem dX7_meet_95 : decode cX7_meet 95 = .ok (.iload 4, 2) := by decide +kernel
theorem dX7_meet_97 : decode cX7_meet 97 = .ok (.aload_n 0, 1) := by decide +kernel
theorem dX7_meet_98 : decode cX7_meet 98 = .ok (.getfield 22, 3) := by decide +kernel
theorem dX7_meet_101 : decode cX7_meet 101 = .ok (.iload_n 1, 1) := by decide +kernel
theorem dX7_meet_102 : decode cX7_meet 102 = .ok (.iaload, 1) := by decide +kernel
theorem dX7_meet_103 : decode cX7_meet 103 = .ok (.if_icmp .ge 28, 3) := by decide +kernel
theorem dX7_meet_106 : decode cX7_meet 106 = .ok (.iload_n 3, 1) := by decide +kernel
theorem dX7_meet_107 : decode cX7_meet 107 = .ok (.aload_n 0, 1) := by decide +kernel
theorem dX7_meet_108 : decode cX7_meet 108 = .ok (.aload_n 0, 1) := by decide +kernel
theorem dX7_meet_109 : decode cX7_meet 109 = .ok (.getfield 25, 3) := by decide +kernel
theorem dX7_meet_112 : decode cX7_meet 112 = .ok (.bipush 40, 2) := by decide +kernel
theorem dX7_meet_114 : decode cX7_meet 114 = .ok (.iload_n 1, 1) := by decide +kernel
theorem dX7_meet_115 : decode cX7_meet 115 = .ok (.imul, 1) := by decide +kernel
theorem dX7_meet_116 : decode cX7_meet 116 = .ok (.iload 4, 2) := by decide +kernel
theorem dX7_meet_118 : decode cX7_meet 118 = .ok (.iadd, 1) := by decide +kernel
theorem dX7_meet_119 : decode cX7_meet 119 = .ok (.iaload, 1) := by decide +kernel
theorem dX7_meet_120 : decode cX7_meet 120 = .ok (.invokevirtual 208, 3) := by decide +kernel
theorem dX7_meet_123 : decode cX7_meet 123 = .ok (.iadd, 1) := by decide +kernel
theorem dX7_meet_124 : decode cX7_meet 124 = .ok (.istore_n 3, 1) := by decide +kernel
theorem dX7_meet_125 : decode cX7_meet 125 = .ok (.iinc 4 1, 3) := by decide +kernel
theorem dX7_meet_128 : decode cX7_meet 128 = .ok (.goto (-33), 3) := by decide +kernel
theorem dX7_meet_131 : decode cX7_meet 131 = .ok (.iload_n 3, 1) := by decide +kernel
theorem dX7_meet_132 : decode cX7_meet 132 = .ok (.ireturn, 1) := by decide +kernel
theorem dX7_pledge_0 : decode cX7_pledge 0 = .ok (.aload_n 0, 1) := by decide +kernel
theorem dX7_pledge_1 : decode cX7_pledge 1 = .ok (.iload_n 1, 1) := by decide +kernel
theorem dX7_pledge_2 : decode cX7_pledge 2 = .ok (.invokevirtual 179, 3) := by decide +kernel
theorem dX7_pledge_5 : decode cX7_pledge 5 = .ok (.ifCond .eq 11, 3) := by decide +kernel
theorem dX7_pledge_8 : decode cX7_pledge 8 = .ok (.aload_n 0, 1) := by decide +kernel
theorem dX7_pledge_9 : decode cX7_pledge 9 = .ok (.iload_n 2, 1) := by decide +kernel
theorem dX7_pledge_10 : decode cX7_pledge 10 = .ok (.invokevirtual 179, 3) := by decide +kernel
theorem dX7_pledge_13 : decode cX7_pledge 13 = .ok (.ifCond .ne 5, 3) := by decide +kernel
theorem dX7_pledge_16 : decode cX7_pledge 16 = .ok (.iconst (-1), 1) := by decide +kernel
theorem dX7_pledge_17 : decode cX7_pledge 17 = .ok (.ireturn, 1) := by decide +kernel
theorem dX7_pledge_18 : decode cX7_pledge 18 = .ok (.aload_n 0, 1) := by decide +kernel
theorem dX7_pledge_19 : decode cX7_pledge 19 = .ok (.getfield 7, 3) := by decide +kernel
theorem dX7_pledge_22 : decode cX7_pledge 22 = .ok (.iconst 3, 1) := by decide +kernel
theorem dX7_pledge_23 : decode cX7_pledge 23 = .ok (.iload_n 1, 1) := by decide +kernel
theorem dX7_pledge_24 : decode cX7_pledge 24 = .ok (.iadd, 1) := by decide +kernel
theorem dX7_pledge_25 : decode cX7_pledge 25 = .ok (.iaload, 1) := by decide +kernel
theorem dX7_pledge_26 : decode cX7_pledge 26 = .ok (.istore_n 3, 1) := by decide +kernel
theorem dX7_pledge_27 : decode cX7_pledge 27 = .ok (.iload_n 3, 1) := by decide +kernel
theorem dX7_pledge_28 : decode cX7_pledge 28 = .ok (.iload_n 2, 1) := by decide +kernel
theorem dX7_pledge_29 : decode cX7_pledge 29 = .ok (.if_icmp .ne 6, 3) := by decide +kernel
theorem dX7_pledge_32 : decode cX7_pledge 32 = .ok (.bipush (-4), 2) := by decide +kernel
theorem dX7_pledge_34 : decode cX7_pledge 34 = .ok (.ireturn, 1) := by decide +kernel
theorem dX7_pledge_35 : decode cX7_pledge 35 = .ok (.aload_n 0, 1) := by decide +kernel
theorem dX7_pledge_36 : decode cX7_pledge 36 = .ok (.getfield 7, 3) := by decide +kernel
theorem dX7_pledge_39 : decode cX7_pledge 39 = .ok (.iconst 0, 1) := by decide +kernel
theorem dX7_pledge_40 : decode cX7_pledge 40 = .ok (.iaload, 1) := by decide +kernel
theorem dX7_pledge_41 : decode cX7_pledge 41 = .ok (.bipush 40, 2) := by decide +kernel
theorem dX7_pledge_43 : decode cX7_pledge 43 = .ok (.if_icmp .ne 6, 3) := by decide +kernel
theorem dX7_pledge_46 : decode cX7_pledge 46 = .ok (.bipush (-2), 2) := by decide +kernel
theorem dX7_pledge_48 : decode cX7_pledge 48 = .ok (.ireturn, 1) := by decide +kernel
theorem dX7_pledge_49 : decode cX7_pledge 49 = .ok (.aload_n 0, 1) := by decide +kernel
theorem dX7_pledge_50 : decode cX7_pledge 50 = .ok (.invokevirtual 205, 3) := by decide +kernel
theorem dX7_pledge_53 : decode cX7_pledge 53 = .ok (.aload_n 0, 1) := by decide +kernel
theorem dX7_pledge_54 : decode cX7_pledge 54 = .ok (.getfield 7, 3) := by decide +kernel
theorem dX7_pledge_57 : decode cX7_pledge 57 = .ok (.iconst 3, 1) := by decide +kernel
theorem dX7_pledge_58 : decode cX7_pledge 58 = .ok (.iload_n 1, 1) := by decide +kernel
theorem dX7_pledge_59 : decode cX7_pledge 59 = .ok (.iadd, 1) := by decide +kernel
theorem dX7_pledge_60 : decode cX7_pledge 60 = .ok (.iload_n 2, 1) := by decide +kernel
theorem dX7_pledge_61 : decode cX7_pledge 61 = .ok (.iastore, 1) := by decide +kernel
theorem dX7_pledge_62 : decode cX7_pledge 62 = .ok (.iload_n 3, 1) := by decide +kernel
theorem dX7_pledge_63 : decode cX7_pledge 63 = .ok (.ireturn, 1) := by decide +kernel
theorem dX7_doDay_0 : decode cX7_doDay 0 = .ok (.aload_n 0, 1) := by decide +kernel
theorem dX7_doDay_1 : decode cX7_doDay 1 = .ok (.invokevirtual 205, 3) := by decide +kernel
theorem dX7_doDay_4 : decode cX7_doDay 4 = .ok (.aload_n 0, 1) := by decide +kernel
theorem dX7_doDay_5 : decode cX7_doDay 5 = .ok (.getfield 7, 3) := by decide +kernel
theorem dX7_doDay_8 : decode cX7_doDay 8 = .ok (.iconst 1, 1) := by decide +kernel
theorem dX7_doDay_9 : decode cX7_doDay 9 = .ok (.dup2, 1) := by decide +kernel
theorem dX7_doDay_10 : decode cX7_doDay 10 = .ok (.iaload, 1) := by decide +kernel
theorem dX7_doDay_11 : decode cX7_doDay 11 = .ok (.iconst 1, 1) := by decide +kernel
theorem dX7_doDay_12 : decode cX7_doDay 12 = .ok (.iadd, 1) := by decide +kernel
theorem dX7_doDay_13 : decode cX7_doDay 13 = .ok (.iastore, 1) := by decide +kernel
theorem dX7_doDay_14 : decode cX7_doDay 14 = .ok (.aload_n 0, 1) := by decide +kernel
theorem dX7_doDay_15 : decode cX7_doDay 15 = .ok (.getfield 7, 3) := by decide +kernel
theorem dX7_doDay_18 : decode cX7_doDay 18 = .ok (.iconst 2, 1) := by decide +kernel
theorem dX7_doDay_19 : decode cX7_doDay 19 = .ok (.aload_n 0, 1) := by decide +kernel
theorem dX7_doDay_20 : decode cX7_doDay 20 = .ok (.getfield 7, 3) := by decide +kernel
theorem dX7_doDay_23 : decode cX7_doDay 23 = .ok (.iconst 2, 1) := by decide +kernel
theorem dX7_doDay_24 : decode cX7_doDay 24 = .ok (.iaload, 1) := by decide +kernel
theorem dX7_doDay_25 : decode cX7_doDay 25 = .ok (.aload_n 0, 1) := by decide +kernel
theorem dX7_doDay_26 : decode cX7_doDay 26 = .ok (.getfield 155, 3) := by decide +kernel
theorem dX7_doDay_29 : decode cX7_doDay 29 = .ok (.iadd, 1) := by decide +kernel
theorem dX7_doDay_30 : decode cX7_doDay 30 = .ok (.bipush 99, 2) := by decide +kernel
theorem dX7_doDay_32 : decode cX7_doDay 32 = .ok (.if_icmp .le 8, 3) := by decide +kernel
theorem dX7_doDay_35 : decode cX7_doDay 35 = .ok (.bipush 99, 2) := by decide +kernel
theorem dX7_doDay_37 : decode cX7_doDay 37 = .ok (.goto 14, 3) := by decide +kernel
theorem dX7_doDay_40 : decode cX7_doDay 40 = .ok (.aload_n 0, 1) := by decide +kernel
theorem dX7_doDay_41 : decode cX7_doDay 41 = .ok (.getfield 7, 3) := by decide +kernel
theorem dX7_doDay_44 : decode cX7_doDay 44 = .ok (.iconst 2, 1) := by decide +kernel
theorem dX7_doDay_45 : decode cX7_doDay 45 = .ok (.iaload, 1) := by decide +kernel
theorem dX7_doDay_46 : decode cX7_doDay 46 = .ok (.aload_n 0, 1) := by decide +kernel
theorem dX7_doDay_47 : decode cX7_doDay 47 = .ok (.getfield 155, 3) := by decide +kernel
theorem dX7_doDay_50 : decode cX7_doDay 50 = .ok (.iadd, 1) := by decide +kernel
theorem dX7_doDay_51 : decode cX7_doDay 51 = .ok (.iastore, 1) := by decide +kernel
theorem dX7_doDay_52 : decode cX7_doDay 52 = .ok (.iconst 0, 1) := by decide +kernel
theorem dX7_doDay_53 : decode cX7_doDay 53 = .ok (.istore_n 1, 1) := by decide +kernel
theorem dX7_doDay_54 : decode cX7_doDay 54 = .ok (.iload_n 1, 1) := by decide +kernel
theorem dX7_doDay_55 : decode cX7_doDay 55 = .ok (.bipush 7, 2) := by decide +kernel
theorem dX7_doDay_57 : decode cX7_doDay 57 = .ok (.if_icmp .ge 19, 3) := by decide +kernel
theorem dX7_doDay_60 : decode cX7_doDay 60 = .ok (.aload_n 0, 1) := by decide +kernel
theorem dX7_doDay_61 : decode cX7_doDay 61 = .ok (.getfield 7, 3) := by decide +kernel
theorem dX7_doDay_64 : decode cX7_doDay 64 = .ok (.bipush 10, 2) := by decide +kernel
theorem dX7_doDay_66 : decode cX7_doDay 66 = .ok (.iload_n 1, 1) := by decide +kernel
theorem dX7_doDay_67 : decode cX7_doDay 67 = .ok (.iadd, 1) := by decide +kernel
theorem dX7_doDay_68 : decode cX7_doDay 68 = .ok (.iconst 0, 1) := by decide +kernel
theorem dX7_doDay_69 : decode cX7_doDay 69 = .ok (.iastore, 1) := by decide +kernel
theorem dX7_doDay_70 : decode cX7_doDay 70 = .ok (.iinc 1 1, 3) := by decide +kernel
theorem dX7_doDay_73 : decode cX7_doDay 73 = .ok (.goto (-19), 3) := by decide +kernel
theorem dX7_doDay_76 : decode cX7_doDay 76 = .ok (.aload_n 0, 1) := by decide +kernel
theorem dX7_doDay_77 : decode cX7_doDay 77 = .ok (.getfield 7, 3) := by decide +kernel
theorem dX7_doDay_80 : decode cX7_doDay 80 = .ok (.iconst 2, 1) := by decide +kernel
theorem dX7_doDay_81 : decode cX7_doDay 81 = .ok (.iaload, 1) := by decide +kernel
theorem dX7_doDay_82 : decode cX7_doDay 82 = .ok (.ireturn, 1) := by decide +kernel
theorem dX7_day_0 : decode cX7_day 0 = .ok (.aload_n 0, 1) := by decide +kernel
theorem dX7_day_1 : decode cX7_day 1 = .ok (.getfield 158, 3) := by decide +kernel
theorem dX7_day_4 : decode cX7_day 4 = .ok (.ifCond .ne 6, 3) := by decide +kernel
theorem dX7_day_7 : decode cX7_day 7 = .ok (.bipush (-4), 2) := by decide +kernel
theorem dX7_day_9 : decode cX7_day 9 = .ok (.ireturn, 1) := by decide +kernel
theorem dX7_day_10 : decode cX7_day 10 = .ok (.aload_n 0, 1) := by decide +kernel
theorem dX7_day_11 : decode cX7_day 11 = .ok (.getfield 7, 3) := by decide +kernel
theorem dX7_day_14 : decode cX7_day 14 = .ok (.iconst 0, 1) := by decide +kernel
theorem dX7_day_15 : decode cX7_day 15 = .ok (.iaload, 1) := by decide +kernel
theorem dX7_day_16 : decode cX7_day 16 = .ok (.bipush 40, 2) := by decide +kernel
theorem dX7_day_18 : decode cX7_day 18 = .ok (.if_icmp .ne 8, 3) := by decide +kernel
theorem dX7_day_21 : decode cX7_day 21 = .ok (.bipush (-2), 2) := by decide +kernel
theorem dX7_day_23 : decode cX7_day 23 = .ok (.goto 7, 3) := by decide +kernel
theorem dX7_day_26 : decode cX7_day 26 = .ok (.aload_n 0, 1) := by decide +kernel
theorem dX7_day_27 : decode cX7_day 27 = .ok (.invokevirtual 211, 3) := by decide +kernel
theorem dX7_day_30 : decode cX7_day 30 = .ok (.ireturn, 1) := by decide +kernel
theorem dX7_undo_0 : decode cX7_undo 0 = .ok (.iload_n 1, 1) := by decide +kernel
theorem dX7_undo_1 : decode cX7_undo 1 = .ok (.i2l, 1) := by decide +kernel
theorem dX7_undo_2 : decode cX7_undo 2 = .ok (.lconst 0, 1) := by decide +kernel
theorem dX7_undo_3 : decode cX7_undo 3 = .ok (.aload_n 0, 1) := by decide +kernel
theorem dX7_undo_4 : decode cX7_undo 4 = .ok (.getfield 7, 3) := by decide +kernel
theorem dX7_undo_7 : decode cX7_undo 7 = .ok (.iconst 0, 1) := by decide +kernel
theorem dX7_undo_8 : decode cX7_undo 8 = .ok (.iaload, 1) := by decide +kernel
theorem dX7_undo_9 : decode cX7_undo 9 = .ok (.i2l, 1) := by decide +kernel
theorem dX7_undo_10 : decode cX7_undo 10 = .ok (.invokestatic 66, 3) := by decide +kernel
theorem dX7_undo_13 : decode cX7_undo 13 = .ok (.ifCond .ne 5, 3) := by decide +kernel
theorem dX7_undo_16 : decode cX7_undo 16 = .ok (.iconst (-1), 1) := by decide +kernel
theorem dX7_undo_17 : decode cX7_undo 17 = .ok (.ireturn, 1) := by decide +kernel
theorem dX7_undo_18 : decode cX7_undo 18 = .ok (.aload_n 0, 1) := by decide +kernel
theorem dX7_undo_19 : decode cX7_undo 19 = .ok (.getfield 7, 3) := by decide +kernel
theorem dX7_undo_22 : decode cX7_undo 22 = .ok (.iconst 0, 1) := by decide +kernel
theorem dX7_undo_23 : decode cX7_undo 23 = .ok (.iaload, 1) := by decide +kernel
theorem dX7_undo_24 : decode cX7_undo 24 = .ok (.iload_n 1, 1) := by decide +kernel
theorem dX7_undo_25 : decode cX7_undo 25 = .ok (.isub, 1) := by decide +kernel
theorem dX7_undo_26 : decode cX7_undo 26 = .ok (.istore_n 2, 1) := by decide +kernel
theorem dX7_undo_27 : decode cX7_undo 27 = .ok (.iconst 0, 1) := by decide +kernel
theorem dX7_undo_28 : decode cX7_undo 28 = .ok (.istore_n 3, 1) := by decide +kernel
theorem dX7_undo_29 : decode cX7_undo 29 = .ok (.iload_n 3, 1) := by decide +kernel
theorem dX7_undo_30 : decode cX7_undo 30 = .ok (.bipush 23, 2) := by decide +kernel
theorem dX7_undo_32 : decode cX7_undo 32 = .ok (.if_icmp .ge 35, 3) := by decide +kernel
theorem dX7_undo_35 : decode cX7_undo 35 = .ok (.iload_n 2, 1) := by decide +kernel
theorem dX7_undo_36 : decode cX7_undo 36 = .ok (.ifCond .le 31, 3) := by decide +kernel
theorem dX7_undo_39 : decode cX7_undo 39 = .ok (.aload_n 0, 1) := by decide +kernel
theorem dX7_undo_40 : decode cX7_undo 40 = .ok (.getfield 7, 3) := by decide +kernel
theorem dX7_undo_43 : decode cX7_undo 43 = .ok (.iconst 1, 1) := by decide +kernel
theorem dX7_undo_44 : decode cX7_undo 44 = .ok (.iload_n 3, 1) := by decide +kernel
theorem dX7_undo_45 : decode cX7_undo 45 = .ok (.iadd, 1) := by decide +kernel
theorem dX7_undo_46 : decode cX7_undo 46 = .ok (.aload_n 0, 1) := by decide +kernel
theorem dX7_undo_47 : decode cX7_undo 47 = .ok (.getfield 7, 3) := by decide +kernel
theorem dX7_undo_50 : decode cX7_undo 50 = .ok (.bipush 24, 2) := by decide +kernel
theorem dX7_undo_52 : decode cX7_undo 52 = .ok (.bipush 23, 2) := by decide +kernel
theorem dX7_undo_54 : decode cX7_undo 54 = .ok (.iload_n 1, 1) := by decide +kernel
theorem dX7_undo_55 : decode cX7_undo 55 = .ok (.imul, 1) := by decide +kernel
theorem dX7_undo_56 : decode cX7_undo 56 = .ok (.iadd, 1) := by decide +kernel
theorem dX7_undo_57 : decode cX7_undo 57 = .ok (.iload_n 3, 1) := by decide +kernel
theorem dX7_undo_58 : decode cX7_undo 58 = .ok (.iadd, 1) := by decide +kernel
theorem dX7_undo_59 : decode cX7_undo 59 = .ok (.iaload, 1) := by decide +kernel
theorem dX7_undo_60 : decode cX7_undo 60 = .ok (.iastore, 1) := by decide +kernel
theorem dX7_undo_61 : decode cX7_undo 61 = .ok (.iinc 3 1, 3) := by decide +kernel
theorem dX7_undo_64 : decode cX7_undo 64 = .ok (.goto (-35), 3) := by decide +kernel
theorem dX7_undo_67 : decode cX7_undo 67 = .ok (.aload_n 0, 1) := by decide +kernel
theorem dX7_undo_68 : decode cX7_undo 68 = .ok (.getfield 7, 3) := by decide +kernel
theorem dX7_undo_71 : decode cX7_undo 71 = .ok (.iconst 0, 1) := by decide +kernel
theorem dX7_undo_72 : decode cX7_undo 72 = .ok (.iload_n 1, 1) := by decide +kernel
theorem dX7_undo_73 : decode cX7_undo 73 = .ok (.iastore, 1) := by decide +kernel
theorem dX7_undo_74 : decode cX7_undo 74 = .ok (.iload_n 2, 1) := by decide +kernel
theorem dX7_undo_75 : decode cX7_undo 75 = .ok (.ireturn, 1) := by decide +kernel
theorem dX7_copyWell_0 : decode cX7_copyWell 0 = .ok (.iconst 0, 1) := by decide +kernel
theorem dX7_copyWell_1 : decode cX7_copyWell 1 = .ok (.istore_n 3, 1) := by decide +kernel
theorem dX7_copyWell_2 : decode cX7_copyWell 2 = .ok (.iload_n 3, 1) := by decide +kernel
theorem dX7_copyWell_3 : decode cX7_copyWell 3 = .ok (.sipush 944, 3) := by decide +kernel
theorem dX7_copyWell_6 : decode cX7_copyWell 6 = .ok (.if_icmp .ge 25, 3) := by decide +kernel
theorem dX7_copyWell_9 : decode cX7_copyWell 9 = .ok (.aload_n 0, 1) := by decide +kernel
theorem dX7_copyWell_10 : decode cX7_copyWell 10 = .ok (.getfield 7, 3) := by decide +kernel
theorem dX7_copyWell_13 : decode cX7_copyWell 13 = .ok (.iload_n 2, 1) := by decide +kernel
theorem dX7_copyWell_14 : decode cX7_copyWell 14 = .ok (.iload_n 3, 1) := by decide +kernel
theorem dX7_copyWell_15 : decode cX7_copyWell 15 = .ok (.iadd, 1) := by decide +kernel
theorem dX7_copyWell_16 : decode cX7_copyWell 16 = .ok (.aload_n 0, 1) := by decide +kernel
theorem dX7_copyWell_17 : decode cX7_copyWell 17 = .ok (.getfield 7, 3) := by decide +kernel
theorem dX7_copyWell_20 : decode cX7_copyWell 20 = .ok (.iload_n 1, 1) := by decide +kernel
theorem dX7_copyWell_21 : decode cX7_copyWell 21 = .ok (.iload_n 3, 1) := by decide +kernel
theorem dX7_copyWell_22 : decode cX7_copyWell 22 = .ok (.iadd, 1) := by decide +kernel
theorem dX7_copyWell_23 : decode cX7_copyWell 23 = .ok (.iaload, 1) := by decide +kernel
theorem dX7_copyWell_24 : decode cX7_copyWell 24 = .ok (.iastore, 1) := by decide +kernel
theorem dX7_copyWell_25 : decode cX7_copyWell 25 = .ok (.iinc 3 1, 3) := by decide +kernel
theorem dX7_copyWell_28 : decode cX7_copyWell 28 = .ok (.goto (-26), 3) := by decide +kernel
theorem dX7_copyWell_31 : decode cX7_copyWell 31 = .ok (.return_, 1) := by decide +kernel
theorem dX7_keep_0 : decode cX7_keep 0 = .ok (.iload_n 1, 1) := by decide +kernel
theorem dX7_keep_1 : decode cX7_keep 1 = .ok (.i2l, 1) := by decide +kernel
theorem dX7_keep_2 : decode cX7_keep 2 = .ok (.lconst 0, 1) := by decide +kernel
theorem dX7_keep_3 : decode cX7_keep 3 = .ok (.ldc2_w 214, 3) := by decide +kernel
theorem dX7_keep_6 : decode cX7_keep 6 = .ok (.invokestatic 66, 3) := by decide +kernel
theorem dX7_keep_9 : decode cX7_keep 9 = .ok (.ifCond .ne 5, 3) := by decide +kernel
theorem dX7_keep_12 : decode cX7_keep 12 = .ok (.iconst (-1), 1) := by decide +kernel
theorem dX7_keep_13 : decode cX7_keep 13 = .ok (.ireturn, 1) := by decide +kernel
theorem dX7_keep_14 : decode cX7_keep 14 = .ok (.aload_n 0, 1) := by decide +kernel
theorem dX7_keep_15 : decode cX7_keep 15 = .ok (.getfield 158, 3) := by decide +kernel
theorem dX7_keep_18 : decode cX7_keep 18 = .ok (.ifCond .ne 6, 3) := by decide +kernel
theorem dX7_keep_21 : decode cX7_keep 21 = .ok (.bipush (-4), 2) := by decide +kernel
theorem dX7_keep_23 : decode cX7_keep 23 = .ok (.ireturn, 1) := by decide +kernel
theorem dX7_keep_24 : decode cX7_keep 24 = .ok (.aload_n 0, 1) := by decide +kernel
theorem dX7_keep_25 : decode cX7_keep 25 = .ok (.iconst 0, 1) := by decide +kernel
theorem dX7_keep_26 : decode cX7_keep 26 = .ok (.sipush 944, 3) := by decide +kernel
theorem dX7_keep_29 : decode cX7_keep 29 = .ok (.iconst 1, 1) := by decide +kernel
theorem dX7_keep_30 : decode cX7_keep 30 = .ok (.iload_n 1, 1) := by decide +kernel
theorem dX7_keep_31 : decode cX7_keep 31 = .ok (.iadd, 1) := by decide +kernel
theorem dX7_keep_32 : decode cX7_keep 32 = .ok (.imul, 1) := by decide +kernel
theorem dX7_keep_33 : decode cX7_keep 33 = .ok (.invokevirtual 216, 3) := by decide +kernel
theorem dX7_keep_36 : decode cX7_keep 36 = .ok (.aload_n 0, 1) := by decide +kernel
theorem dX7_keep_37 : decode cX7_keep 37 = .ok (.getfield 7, 3) := by decide +kernel
theorem dX7_keep_40 : decode cX7_keep 40 = .ok (.iconst 0, 1) := by decide +kernel
theorem dX7_keep_41 : decode cX7_keep 41 = .ok (.iaload, 1) := by decide +kernel
theorem dX7_keep_42 : decode cX7_keep 42 = .ok (.ireturn, 1) := by decide +kernel
theorem dX7_on_0 : decode cX7_on 0 = .ok (.iload_n 1, 1) := by decide +kernel
theorem dX7_on_1 : decode cX7_on 1 = .ok (.i2l, 1) := by decide +kernel
theorem dX7_on_2 : decode cX7_on 2 = .ok (.lconst 0, 1) := by decide +kernel
theorem dX7_on_3 : decode cX7_on 3 = .ok (.ldc2_w 214, 3) := by decide +kernel
theorem dX7_on_6 : decode cX7_on 6 = .ok (.invokestatic 66, 3) := by decide +kernel
theorem dX7_on_9 : decode cX7_on 9 = .ok (.ifCond .ne 5, 3) := by decide +kernel
theorem dX7_on_12 : decode cX7_on 12 = .ok (.iconst (-1), 1) := by decide +kernel
theorem dX7_on_13 : decode cX7_on 13 = .ok (.ireturn, 1) := by decide +kernel
theorem dX7_on_14 : decode cX7_on 14 = .ok (.aload_n 0, 1) := by decide +kernel
theorem dX7_on_15 : decode cX7_on 15 = .ok (.getfield 7, 3) := by decide +kernel
theorem dX7_on_18 : decode cX7_on 18 = .ok (.sipush 944, 3) := by decide +kernel
theorem dX7_on_21 : decode cX7_on 21 = .ok (.iconst 1, 1) := by decide +kernel
theorem dX7_on_22 : decode cX7_on 22 = .ok (.iload_n 1, 1) := by decide +kernel
theorem dX7_on_23 : decode cX7_on 23 = .ok (.iadd, 1) := by decide +kernel
theorem dX7_on_24 : decode cX7_on 24 = .ok (.imul, 1) := by decide +kernel
theorem dX7_on_25 : decode cX7_on 25 = .ok (.iconst 0, 1) := by decide +kernel
theorem dX7_on_26 : decode cX7_on 26 = .ok (.iadd, 1) := by decide +kernel
theorem dX7_on_27 : decode cX7_on 27 = .ok (.iaload, 1) := by decide +kernel
theorem dX7_on_28 : decode cX7_on 28 = .ok (.ifCond .ge 9, 3) := by decide +kernel
theorem dX7_on_31 : decode cX7_on 31 = .ok (.aload_n 0, 1) := by decide +kernel
theorem dX7_on_32 : decode cX7_on 32 = .ok (.iconst 1, 1) := by decide +kernel
theorem dX7_on_33 : decode cX7_on 33 = .ok (.invokevirtual 76, 3) := by decide +kernel
theorem dX7_on_36 : decode cX7_on 36 = .ok (.ireturn, 1) := by decide +kernel
theorem dX7_on_37 : decode cX7_on 37 = .ok (.aload_n 0, 1) := by decide +kernel
theorem dX7_on_38 : decode cX7_on 38 = .ok (.sipush 944, 3) := by decide +kernel
theorem dX7_on_41 : decode cX7_on 41 = .ok (.iconst 1, 1) := by decide +kernel
theorem dX7_on_42 : decode cX7_on 42 = .ok (.iload_n 1, 1) := by decide +kernel
theorem dX7_on_43 : decode cX7_on 43 = .ok (.iadd, 1) := by decide +kernel
theorem dX7_on_44 : decode cX7_on 44 = .ok (.imul, 1) := by decide +kernel
theorem dX7_on_45 : decode cX7_on 45 = .ok (.iconst 0, 1) := by decide +kernel
theorem dX7_on_46 : decode cX7_on 46 = .ok (.invokevirtual 216, 3) := by decide +kernel
theorem dX7_on_49 : decode cX7_on 49 = .ok (.aload_n 0, 1) := by decide +kernel
theorem dX7_on_50 : decode cX7_on 50 = .ok (.getfield 7, 3) := by decide +kernel
theorem dX7_on_53 : decode cX7_on 53 = .ok (.iconst 0, 1) := by decide +kernel
theorem dX7_on_54 : decode cX7_on 54 = .ok (.iaload, 1) := by decide +kernel
theorem dX7_on_55 : decode cX7_on 55 = .ok (.ireturn, 1) := by decide +kernel
theorem dX7_weight_0 : decode cX7_weight 0 = .ok (.aload_n 0, 1) := by decide +kernel
theorem dX7_weight_1 : decode cX7_weight 1 = .ok (.iload_n 1, 1) := by decide +kernel
theorem dX7_weight_2 : decode cX7_weight 2 = .ok (.invokevirtual 219, 3) := by decide +kernel
theorem dX7_weight_5 : decode cX7_weight 5 = .ok (.ifCond .ne 5, 3) := by decide +kernel
theorem dX7_weight_8 : decode cX7_weight 8 = .ok (.iconst (-1), 1) := by decide +kernel
theorem dX7_weight_9 : decode cX7_weight 9 = .ok (.ireturn, 1) := by decide +kernel
theorem dX7_weight_10 : decode cX7_weight 10 = .ok (.aload_n 0, 1) := by decide +kernel
theorem dX7_weight_11 : decode cX7_weight 11 = .ok (.aload_n 0, 1) := by decide +kernel
theorem dX7_weight_12 : decode cX7_weight 12 = .ok (.iload_n 1, 1) := by decide +kernel
theorem dX7_weight_13 : decode cX7_weight 13 = .ok (.invokevirtual 187, 3) := by decide +kernel
theorem dX7_weight_16 : decode cX7_weight 16 = .ok (.ifCond .eq 7, 3) := by decide +kernel
theorem dX7_weight_19 : decode cX7_weight 19 = .ok (.iconst 1, 1) := by decide +kernel
theorem dX7_weight_20 : decode cX7_weight 20 = .ok (.goto 4, 3) := by decide +kernel
theorem dX7_weight_23 : decode cX7_weight 23 = .ok (.iconst 0, 1) := by decide +kernel
theorem dX7_weight_24 : decode cX7_weight 24 = .ok (.putfield 61, 3) := by decide +kernel
theorem dX7_weight_27 : decode cX7_weight 27 = .ok (.aload_n 0, 1) := by decide +kernel
theorem dX7_weight_28 : decode cX7_weight 28 = .ok (.iload_n 1, 1) := by decide +kernel
theorem dX7_weight_29 : decode cX7_weight 29 = .ok (.invokevirtual 170, 3) := by decide +kernel
theorem dX7_weight_32 : decode cX7_weight 32 = .ok (.ireturn, 1) := by decide +kernel
theorem dX7_tellMany_0 : decode cX7_tellMany 0 = .ok (.aload_n 0, 1) := by decide +kernel
theorem dX7_tellMany_1 : decode cX7_tellMany 1 = .ok (.lload_n 1, 1) := by decide +kernel
theorem dX7_tellMany_2 : decode cX7_tellMany 2 = .ok (.putfield 222, 3) := by decide +kernel
theorem dX7_tellMany_5 : decode cX7_tellMany 5 = .ok (.aload_n 0, 1) := by decide +kernel
theorem dX7_tellMany_6 : decode cX7_tellMany 6 = .ok (.lconst 1, 1) := by decide +kernel
theorem dX7_tellMany_7 : decode cX7_tellMany 7 = .ok (.putfield 34, 3) := by decide +kernel
theorem dX7_tellMany_10 : decode cX7_tellMany 10 = .ok (.iconst 1, 1) := by decide +kernel
theorem dX7_tellMany_11 : decode cX7_tellMany 11 = .ok (.ireturn, 1) := by decide +kernel
theorem dX7_opens_0 : decode cX7_opens 0 = .ok (.iconst 0, 1) := by decide +kernel
theorem dX7_opens_1 : decode cX7_opens 1 = .ok (.istore_n 1, 1) := by decide +kernel
theorem dX7_opens_2 : decode cX7_opens 2 = .ok (.aload_n 0, 1) := by decide +kernel
theorem dX7_opens_3 : decode cX7_opens 3 = .ok (.bipush (-9), 2) := by decide +kernel
theorem dX7_opens_5 : decode cX7_opens 5 = .ok (.putfield 61, 3) := by decide +kernel
theorem dX7_opens_8 : decode cX7_opens 8 = .ok (.iconst 0, 1) := by decide +kernel
theorem dX7_opens_9 : decode cX7_opens 9 = .ok (.istore_n 2, 1) := by decide +kernel
theorem dX7_opens_10 : decode cX7_opens 10 = .ok (.iload_n 2, 1) := by decide +kernel
theorem dX7_opens_11 : decode cX7_opens 11 = .ok (.aload_n 0, 1) := by decide +kernel
theorem dX7_opens_12 : decode cX7_opens 12 = .ok (.invokevirtual 164, 3) := by decide +kernel
theorem dX7_opens_15 : decode cX7_opens 15 = .ok (.if_icmp .gt 66, 3) := by decide +kernel
theorem dX7_opens_18 : decode cX7_opens 18 = .ok (.aload_n 0, 1) := by decide +kernel
theorem dX7_opens_19 : decode cX7_opens 19 = .ok (.iload_n 2, 1) := by decide +kernel
theorem dX7_opens_20 : decode cX7_opens 20 = .ok (.invokevirtual 187, 3) := by decide +kernel
theorem dX7_opens_23 : decode cX7_opens 23 = .ok (.istore_n 3, 1) := by decide +kernel
theorem dX7_opens_24 : decode cX7_opens 24 = .ok (.iload_n 1, 1) := by decide +kernel
theorem dX7_opens_25 : decode cX7_opens 25 = .ok (.iload_n 3, 1) := by decide +kernel
theorem dX7_opens_26 : decode cX7_opens 26 = .ok (.ifCond .eq 7, 3) := by decide +kernel
theorem dX7_opens_29 : decode cX7_opens 29 = .ok (.iconst 1, 1) := by decide +kernel
theorem dX7_opens_30 : decode cX7_opens 30 = .ok (.goto 4, 3) := by decide +kernel
theorem dX7_opens_33 : decode cX7_opens 33 = .ok (.iconst 0, 1) := by decide +kernel
theorem dX7_opens_34 : decode cX7_opens 34 = .ok (.iadd, 1) := by decide +kernel
theorem dX7_opens_35 : decode cX7_opens 35 = .ok (.istore_n 1, 1) := by decide +kernel
theorem dX7_opens_36 : decode cX7_opens 36 = .ok (.aload_n 0, 1) := by decide +kernel
theorem dX7_opens_37 : decode cX7_opens 37 = .ok (.iload_n 3, 1) := by decide +kernel
theorem dX7_opens_38 : decode cX7_opens 38 = .ok (.ifCond .eq 30, 3) := by decide +kernel
theorem dX7_opens_41 : decode cX7_opens 41 = .ok (.aload_n 0, 1) := by decide +kernel
theorem dX7_opens_42 : decode cX7_opens 42 = .ok (.getfield 61, 3) := by decide +kernel
theorem dX7_opens_45 : decode cX7_opens 45 = .ok (.bipush (-9), 2) := by decide +kernel
theorem dX7_opens_47 : decode cX7_opens 47 = .ok (.if_icmp .eq 17, 3) := by decide +kernel
theorem dX7_opens_50 : decode cX7_opens 50 = .ok (.iload_n 2, 1) := by decide +kernel
theorem dX7_opens_51 : decode cX7_opens 51 = .ok (.invokestatic 225, 3) := by decide +kernel
theorem dX7_opens_54 : decode cX7_opens 54 = .ok (.aload_n 0, 1) := by decide +kernel
theorem dX7_opens_55 : decode cX7_opens 55 = .ok (.getfield 61, 3) := by decide +kernel
theorem dX7_opens_58 : decode cX7_opens 58 = .ok (.invokestatic 225, 3) := by decide +kernel
theorem dX7_opens_61 : decode cX7_opens 61 = .ok (.if_icmp .ge 7, 3) := by decide +kernel
theorem dX7_opens_64 : decode cX7_opens 64 = .ok (.iload_n 2, 1) := by decide +kernel
theorem dX7_opens_65 : decode cX7_opens 65 = .ok (.goto 7, 3) := by decide +kernel
theorem dX7_opens_68 : decode cX7_opens 68 = .ok (.aload_n 0, 1) := by decide +kernel
theorem dX7_opens_69 : decode cX7_opens 69 = .ok (.getfield 61, 3) := by decide +kernel
theorem dX7_opens_72 : decode cX7_opens 72 = .ok (.putfield 61, 3) := by decide +kernel
theorem dX7_opens_75 : decode cX7_opens 75 = .ok (.iinc 2 1, 3) := by decide +kernel
theorem dX7_opens_78 : decode cX7_opens 78 = .ok (.goto (-68), 3) := by decide +kernel
theorem dX7_opens_81 : decode cX7_opens 81 = .ok (.aload_n 0, 1) := by decide +kernel
theorem dX7_opens_82 : decode cX7_opens 82 = .ok (.iload_n 1, 1) := by decide +kernel
theorem dX7_opens_83 : decode cX7_opens 83 = .ok (.i2l, 1) := by decide +kernel
theorem dX7_opens_84 : decode cX7_opens 84 = .ok (.invokevirtual 228, 3) := by decide +kernel
theorem dX7_opens_87 : decode cX7_opens 87 = .ok (.ireturn, 1) := by decide +kernel
theorem dX7_must_0 : decode cX7_must 0 = .ok (.aload_n 0, 1) := by decide +kernel
theorem dX7_must_1 : decode cX7_must 1 = .ok (.invokevirtual 164, 3) := by decide +kernel
theorem dX7_must_4 : decode cX7_must 4 = .ok (.istore_n 1, 1) := by decide +kernel
theorem dX7_must_5 : decode cX7_must 5 = .ok (.iconst 0, 1) := by decide +kernel
theorem dX7_must_6 : decode cX7_must 6 = .ok (.istore_n 2, 1) := by decide +kernel
theorem dX7_must_7 : decode cX7_must 7 = .ok (.iconst 0, 1) := by decide +kernel
theorem dX7_must_8 : decode cX7_must 8 = .ok (.istore_n 3, 1) := by decide +kernel
theorem dX7_must_9 : decode cX7_must 9 = .ok (.iconst 0, 1) := by decide +kernel
theorem dX7_must_10 : decode cX7_must 10 = .ok (.istore 4, 2) := by decide +kernel
theorem dX7_must_12 : decode cX7_must 12 = .ok (.iload 4, 2) := by decide +kernel
theorem dX7_must_14 : decode cX7_must 14 = .ok (.aload_n 0, 1) := by decide +kernel
theorem dX7_must_15 : decode cX7_must 15 = .ok (.invokevirtual 164, 3) := by decide +kernel
theorem dX7_must_18 : decode cX7_must 18 = .ok (.if_icmp .gt 30, 3) := by decide +kernel
theorem dX7_must_21 : decode cX7_must 21 = .ok (.aload_n 0, 1) := by decide +kernel
theorem dX7_must_22 : decode cX7_must 22 = .ok (.iload 4, 2) := by decide +kernel
theorem dX7_must_24 : decode cX7_must 24 = .ok (.invokevirtual 187, 3) := by decide +kernel
theorem dX7_must_27 : decode cX7_must 27 = .ok (.ifCond .eq 15, 3) := by decide +kernel
theorem dX7_must_30 : decode cX7_must 30 = .ok (.iload_n 1, 1) := by decide +kernel
theorem dX7_must_31 : decode cX7_must 31 = .ok (.iload 4, 2) := by decide +kernel
theorem dX7_must_33 : decode cX7_must 33 = .ok (.iand, 1) := by decide +kernel
theorem dX7_must_34 : decode cX7_must 34 = .ok (.istore_n 1, 1) := by decide +kernel
theorem dX7_must_35 : decode cX7_must 35 = .ok (.iload_n 2, 1) := by decide +kernel
theorem dX7_must_36 : decode cX7_must 36 = .ok (.iload 4, 2) := by decide +kernel
theorem dX7_must_38 : decode cX7_must 38 = .ok (.ior, 1) := by decide +kernel
theorem dX7_must_39 : decode cX7_must 39 = .ok (.istore_n 2, 1) := by decide +kernel
theorem dX7_must_40 : decode cX7_must 40 = .ok (.iconst 1, 1) := by decide +kernel
theorem dX7_must_41 : decode cX7_must 41 = .ok (.istore_n 3, 1) := by decide +kernel
theorem dX7_must_42 : decode cX7_must 42 = .ok (.iinc 4 1, 3) := by decide +kernel
theorem dX7_must_45 : decode cX7_must 45 = .ok (.goto (-33), 3) := by decide +kernel
theorem dX7_must_48 : decode cX7_must 48 = .ok (.iload_n 3, 1) := by decide +kernel
theorem dX7_must_49 : decode cX7_must 49 = .ok (.ifCond .ne 6, 3) := by decide +kernel
theorem dX7_must_52 : decode cX7_must 52 = .ok (.bipush (-4), 2) := by decide +kernel
theorem dX7_must_54 : decode cX7_must 54 = .ok (.ireturn, 1) := by decide +kernel
theorem dX7_must_55 : decode cX7_must 55 = .ok (.aload_n 0, 1) := by decide +kernel
theorem dX7_must_56 : decode cX7_must 56 = .ok (.iload_n 2, 1) := by decide +kernel
theorem dX7_must_57 : decode cX7_must 57 = .ok (.putfield 61, 3) := by decide +kernel
theorem dX7_must_60 : decode cX7_must 60 = .ok (.iload_n 1, 1) := by decide +kernel
theorem dX7_must_61 : decode cX7_must 61 = .ok (.ireturn, 1) := by decide +kernel
theorem dX7_holds_0 : decode cX7_holds 0 = .ok (.aload_n 0, 1) := by decide +kernel
theorem dX7_holds_1 : decode cX7_holds 1 = .ok (.iload_n 1, 1) := by decide +kernel
theorem dX7_holds_2 : decode cX7_holds 2 = .ok (.invokevirtual 179, 3) := by decide +kernel
theorem dX7_holds_5 : decode cX7_holds 5 = .ok (.ifCond .ne 5, 3) := by decide +kernel
theorem dX7_holds_8 : decode cX7_holds 8 = .ok (.iconst (-1), 1) := by decide +kernel
theorem dX7_holds_9 : decode cX7_holds 9 = .ok (.ireturn, 1) := by decide +kernel
theorem dX7_holds_10 : decode cX7_holds 10 = .ok (.iconst 0, 1) := by decide +kernel
theorem dX7_holds_11 : decode cX7_holds 11 = .ok (.istore_n 2, 1) := by decide +kernel
theorem dX7_holds_12 : decode cX7_holds 12 = .ok (.iconst 0, 1) := by decide +kernel
theorem dX7_holds_13 : decode cX7_holds 13 = .ok (.istore_n 3, 1) := by decide +kernel
theorem dX7_holds_14 : decode cX7_holds 14 = .ok (.iload_n 3, 1) := by decide +kernel
theorem dX7_holds_15 : decode cX7_holds 15 = .ok (.aload_n 0, 1) := by decide +kernel
theorem dX7_holds_16 : decode cX7_holds 16 = .ok (.invokevirtual 164, 3) := by decide +kernel
theorem dX7_holds_19 : decode cX7_holds 19 = .ok (.if_icmp .gt 47, 3) := by decide +kernel
theorem dX7_holds_22 : decode cX7_holds 22 = .ok (.iload_n 2, 1) := by decide +kernel
theorem dX7_holds_23 : decode cX7_holds 23 = .ok (.iload_n 3, 1) := by decide +kernel
theorem dX7_holds_24 : decode cX7_holds 24 = .ok (.iload_n 1, 1) := by decide +kernel
theorem dX7_holds_25 : decode cX7_holds 25 = .ok (.invokestatic 135, 3) := by decide +kernel
theorem dX7_holds_28 : decode cX7_holds 28 = .ok (.ifCond .eq 29, 3) := by decide +kernel
theorem dX7_holds_31 : decode cX7_holds 31 = .ok (.aload_n 0, 1) := by decide +kernel
theorem dX7_holds_32 : decode cX7_holds 32 = .ok (.iload_n 3, 1) := by decide +kernel
theorem dX7_holds_33 : decode cX7_holds 33 = .ok (.invokevirtual 187, 3) := by decide +kernel
theorem dX7_holds_36 : decode cX7_holds 36 = .ok (.ifCond .eq 21, 3) := by decide +kernel
theorem dX7_holds_39 : decode cX7_holds 39 = .ok (.aload_n 0, 1) := by decide +kernel
theorem dX7_holds_40 : decode cX7_holds 40 = .ok (.iload_n 3, 1) := by decide +kernel
theorem dX7_holds_41 : decode cX7_holds 41 = .ok (.iconst 1, 1) := by decide +kernel
theorem dX7_holds_42 : decode cX7_holds 42 = .ok (.iload_n 1, 1) := by decide +kernel
theorem dX7_holds_43 : decode cX7_holds 43 = .ok (.ishl, 1) := by decide +kernel
theorem dX7_holds_44 : decode cX7_holds 44 = .ok (.iconst (-1), 1) := by decide +kernel
theorem dX7_holds_45 : decode cX7_holds 45 = .ok (.ixor, 1) := by decide +kernel
theorem dX7_holds_46 : decode cX7_holds 46 = .ok (.iand, 1) := by decide +kernel
theorem dX7_holds_47 : decode cX7_holds 47 = .ok (.invokevirtual 187, 3) := by decide +kernel
theorem dX7_holds_50 : decode cX7_holds 50 = .ok (.ifCond .ne 7, 3) := by decide +kernel
theorem dX7_holds_53 : decode cX7_holds 53 = .ok (.iconst 1, 1) := by decide +kernel
theorem dX7_holds_54 : decode cX7_holds 54 = .ok (.goto 4, 3) := by decide +kernel
theorem dX7_holds_57 : decode cX7_holds 57 = .ok (.iconst 0, 1) := by decide +kernel
theorem dX7_holds_58 : decode cX7_holds 58 = .ok (.iadd, 1) := by decide +kernel
theorem dX7_holds_59 : decode cX7_holds 59 = .ok (.istore_n 2, 1) := by decide +kernel
theorem dX7_holds_60 : decode cX7_holds 60 = .ok (.iinc 3 1, 3) := by decide +kernel
theorem dX7_holds_63 : decode cX7_holds 63 = .ok (.goto (-49), 3) := by decide +kernel
theorem dX7_holds_66 : decode cX7_holds 66 = .ok (.iload_n 2, 1) := by decide +kernel
theorem dX7_holds_67 : decode cX7_holds 67 = .ok (.ireturn, 1) := by decide +kernel
theorem dX7_orders_0 : decode cX7_orders 0 = .ok (.iconst 1, 1) := by decide +kernel
theorem dX7_orders_1 : decode cX7_orders 1 = .ok (.istore_n 1, 1) := by decide +kernel
theorem dX7_orders_2 : decode cX7_orders 2 = .ok (.iconst 2, 1) := by decide +kernel
theorem dX7_orders_3 : decode cX7_orders 3 = .ok (.istore_n 2, 1) := by decide +kernel
theorem dX7_orders_4 : decode cX7_orders 4 = .ok (.iload_n 2, 1) := by decide +kernel
theorem dX7_orders_5 : decode cX7_orders 5 = .ok (.iload_n 0, 1) := by decide +kernel
theorem dX7_orders_6 : decode cX7_orders 6 = .ok (.if_icmp .gt 13, 3) := by decide +kernel
theorem dX7_orders_9 : decode cX7_orders 9 = .ok (.iload_n 1, 1) := by decide +kernel
theorem dX7_orders_10 : decode cX7_orders 10 = .ok (.iload_n 2, 1) := by decide +kernel
theorem dX7_orders_11 : decode cX7_orders 11 = .ok (.imul, 1) := by decide +kernel
theorem dX7_orders_12 : decode cX7_orders 12 = .ok (.istore_n 1, 1) := by decide +kernel
theorem dX7_orders_13 : decode cX7_orders 13 = .ok (.iinc 2 1, 3) := by decide +kernel
theorem dX7_orders_16 : decode cX7_orders 16 = .ok (.goto (-12), 3) := by decide +kernel
theorem dX7_orders_19 : decode cX7_orders 19 = .ok (.iload_n 1, 1) := by decide +kernel
theorem dX7_orders_20 : decode cX7_orders 20 = .ok (.ireturn, 1) := by decide +kernel
theorem dX7_tellParts_0 : decode cX7_tellParts 0 = .ok (.lload_n 1, 1) := by decide +kernel
theorem dX7_tellParts_1 : decode cX7_tellParts 1 = .ok (.lstore 5, 2) := by decide +kernel
theorem dX7_tellParts_3 : decode cX7_tellParts 3 = .ok (.lload_n 3, 1) := by decide +kernel
theorem dX7_tellParts_4 : decode cX7_tellParts 4 = .ok (.lstore 7, 2) := by decide +kernel
theorem dX7_tellParts_6 : decode cX7_tellParts 6 = .ok (.lload 7, 2) := by decide +kernel
theorem dX7_tellParts_8 : decode cX7_tellParts 8 = .ok (.lconst 0, 1) := by decide +kernel
theorem dX7_tellParts_9 : decode cX7_tellParts 9 = .ok (.lcmp, 1) := by decide +kernel
theorem dX7_tellParts_10 : decode cX7_tellParts 10 = .ok (.ifCond .eq 21, 3) := by decide +kernel
theorem dX7_tellParts_13 : decode cX7_tellParts 13 = .ok (.lload 5, 2) := by decide +kernel
theorem dX7_tellParts_15 : decode cX7_tellParts 15 = .ok (.lload 7, 2) := by decide +kernel
theorem dX7_tellParts_17 : decode cX7_tellParts 17 = .ok (.lrem, 1) := by decide +kernel
theorem dX7_tellParts_18 : decode cX7_tellParts 18 = .ok (.lstore 9, 2) := by decide +kernel
theorem dX7_tellParts_20 : decode cX7_tellParts 20 = .ok (.lload 7, 2) := by decide +kernel
theorem dX7_tellParts_22 : decode cX7_tellParts 22 = .ok (.lstore 5, 2) := by decide +kernel
theorem dX7_tellParts_24 : decode cX7_tellParts 24 = .ok (.lload 9, 2) := by decide +kernel
theorem dX7_tellParts_26 : decode cX7_tellParts 26 = .ok (.lstore 7, 2) := by decide +kernel
theorem dX7_tellParts_28 : decode cX7_tellParts 28 = .ok (.goto (-22), 3) := by decide +kernel
theorem dX7_tellParts_31 : decode cX7_tellParts 31 = .ok (.aload_n 0, 1) := by decide +kernel
theorem dX7_tellParts_32 : decode cX7_tellParts 32 = .ok (.lload_n 1, 1) := by decide +kernel
theorem dX7_tellParts_33 : decode cX7_tellParts 33 = .ok (.lload 5, 2) := by decide +kernel
theorem dX7_tellParts_35 : decode cX7_tellParts 35 = .ok (.ldiv, 1) := by decide +kernel
theorem dX7_tellParts_36 : decode cX7_tellParts 36 = .ok (.putfield 222, 3) := by decide +kernel
theorem dX7_tellParts_39 : decode cX7_tellParts 39 = .ok (.aload_n 0, 1) := by decide +kernel
theorem dX7_tellParts_40 : decode cX7_tellParts 40 = .ok (.lload_n 3, 1) := by decide +kernel
theorem dX7_tellParts_41 : decode cX7_tellParts 41 = .ok (.lload 5, 2) := by decide +kernel
theorem dX7_tellParts_43 : decode cX7_tellParts 43 = .ok (.ldiv, 1) := by decide +kernel
theorem dX7_tellParts_44 : decode cX7_tellParts 44 = .ok (.putfield 34, 3) := by decide +kernel
theorem dX7_tellParts_47 : decode cX7_tellParts 47 = .ok (.iconst 1, 1) := by decide +kernel
theorem dX7_tellParts_48 : decode cX7_tellParts 48 = .ok (.ireturn, 1) := by decide +kernel
theorem dX7_part_0 : decode cX7_part 0 = .ok (.aload_n 0, 1) := by decide +kernel
theorem dX7_part_1 : decode cX7_part 1 = .ok (.iload_n 1, 1) := by decide +kernel
theorem dX7_part_2 : decode cX7_part 2 = .ok (.invokevirtual 179, 3) := by decide +kernel
theorem dX7_part_5 : decode cX7_part 5 = .ok (.ifCond .ne 5, 3) := by decide +kernel
theorem dX7_part_8 : decode cX7_part 8 = .ok (.iconst (-1), 1) := by decide +kernel
theorem dX7_part_9 : decode cX7_part 9 = .ok (.ireturn, 1) := by decide +kernel
theorem dX7_part_10 : decode cX7_part 10 = .ok (.lconst 0, 1) := by decide +kernel
theorem dX7_part_11 : decode cX7_part 11 = .ok (.lstore_n 2, 1) := by decide +kernel
theorem dX7_part_12 : decode cX7_part 12 = .ok (.iconst 0, 1) := by decide +kernel
theorem dX7_part_13 : decode cX7_part 13 = .ok (.istore 4, 2) := by decide +kernel
theorem dX7_part_15 : decode cX7_part 15 = .ok (.iload 4, 2) := by decide +kernel
theorem dX7_part_17 : decode cX7_part 17 = .ok (.aload_n 0, 1) := by decide +kernel
theorem dX7_part_18 : decode cX7_part 18 = .ok (.invokevirtual 164, 3) := by decide +kernel
theorem dX7_part_21 : decode cX7_part 21 = .ok (.if_icmp .gt 93, 3) := by decide +kernel
theorem dX7_part_24 : decode cX7_part 24 = .ok (.iload 4, 2) := by decide +kernel
theorem dX7_part_26 : decode cX7_part 26 = .ok (.iload_n 1, 1) := by decide +kernel
theorem dX7_part_27 : decode cX7_part 27 = .ok (.invokestatic 135, 3) := by decide +kernel
theorem dX7_part_30 : decode cX7_part 30 = .ok (.ifCond .ne 37, 3) := by decide +kernel
theorem dX7_part_33 : decode cX7_part 33 = .ok (.aload_n 0, 1) := by decide +kernel
theorem dX7_part_34 : decode cX7_part 34 = .ok (.iload 4, 2) := by decide +kernel
theorem dX7_part_36 : decode cX7_part 36 = .ok (.invokevirtual 170, 3) := by decide +kernel
theorem dX7_part_39 : decode cX7_part 39 = .ok (.aload_n 0, 1) := by decide +kernel
theorem dX7_part_40 : decode cX7_part 40 = .ok (.getfield 152, 3) := by decide +kernel
theorem dX7_part_43 : decode cX7_part 43 = .ok (.if_icmp .ge 24, 3) := by decide +kernel
theorem dX7_part_46 : decode cX7_part 46 = .ok (.aload_n 0, 1) := by decide +kernel
theorem dX7_part_47 : decode cX7_part 47 = .ok (.iload 4, 2) := by decide +kernel
theorem dX7_part_49 : decode cX7_part 49 = .ok (.iconst 1, 1) := by decide +kernel
theorem dX7_part_50 : decode cX7_part 50 = .ok (.iload_n 1, 1) := by decide +kernel
theorem dX7_part_51 : decode cX7_part 51 = .ok (.ishl, 1) := by decide +kernel
theorem dX7_part_52 : decode cX7_part 52 = .ok (.ior, 1) := by decide +kernel
theorem dX7_part_53 : decode cX7_part 53 = .ok (.invokevirtual 170, 3) := by decide +kernel
theorem dX7_part_56 : decode cX7_part 56 = .ok (.aload_n 0, 1) := by decide +kernel
theorem dX7_part_57 : decode cX7_part 57 = .ok (.getfield 152, 3) := by decide +kernel
theorem dX7_part_60 : decode cX7_part 60 = .ok (.if_icmp .lt 7, 3) := by decide +kernel
theorem dX7_part_63 : decode cX7_part 63 = .ok (.iconst 1, 1) := by decide +kernel
theorem dX7_part_64 : decode cX7_part 64 = .ok (.goto 4, 3) := by decide +kernel
theorem dX7_part_67 : decode cX7_part 67 = .ok (.iconst 0, 1) := by decide +kernel
theorem dX7_part_68 : decode cX7_part 68 = .ok (.istore 5, 2) := by decide +kernel
theorem dX7_part_70 : decode cX7_part 70 = .ok (.lload_n 2, 1) := by decide +kernel
theorem dX7_part_71 : decode cX7_part 71 = .ok (.iload 5, 2) := by decide +kernel
theorem dX7_part_73 : decode cX7_part 73 = .ok (.ifCond .eq 32, 3) := by decide +kernel
theorem dX7_part_76 : decode cX7_part 76 = .ok (.iload 4, 2) := by decide +kernel
theorem dX7_part_78 : decode cX7_part 78 = .ok (.invokestatic 225, 3) := by decide +kernel
theorem dX7_part_81 : decode cX7_part 81 = .ok (.invokestatic 232, 3) := by decide +kernel
theorem dX7_part_84 : decode cX7_part 84 = .ok (.i2l, 1) := by decide +kernel
theorem dX7_part_85 : decode cX7_part 85 = .ok (.aload_n 0, 1) := by decide +kernel
theorem dX7_part_86 : decode cX7_part 86 = .ok (.getfield 158, 3) := by decide +kernel
theorem dX7_part_89 : decode cX7_part 89 = .ok (.iconst 1, 1) := by decide +kernel
theorem dX7_part_90 : decode cX7_part 90 = .ok (.isub, 1) := by decide +kernel
theorem dX7_part_91 : decode cX7_part 91 = .ok (.iload 4, 2) := by decide +kernel
theorem dX7_part_93 : decode cX7_part 93 = .ok (.invokestatic 225, 3) := by decide +kernel
theorem dX7_part_96 : decode cX7_part 96 = .ok (.isub, 1) := by decide +kernel
theorem dX7_part_97 : decode cX7_part 97 = .ok (.invokestatic 232, 3) := by decide +kernel
theorem dX7_part_100 : decode cX7_part 100 = .ok (.i2l, 1) := by decide +kernel
theorem dX7_part_101 : decode cX7_part 101 = .ok (.lmul, 1) := by decide +kernel
theorem dX7_part_102 : decode cX7_part 102 = .ok (.goto 4, 3) := by decide +kernel
theorem dX7_part_105 : decode cX7_part 105 = .ok (.lconst 0, 1) := by decide +kernel
theorem dX7_part_106 : decode cX7_part 106 = .ok (.ladd, 1) := by decide +kernel
theorem dX7_part_107 : decode cX7_part 107 = .ok (.lstore_n 2, 1) := by decide +kernel
theorem dX7_part_108 : decode cX7_part 108 = .ok (.iinc 4 1, 3) := by decide +kernel
theorem dX7_part_111 : decode cX7_part 111 = .ok (.goto (-96), 3) := by decide +kernel
theorem dX7_part_114 : decode cX7_part 114 = .ok (.aload_n 0, 1) := by decide +kernel
theorem dX7_part_115 : decode cX7_part 115 = .ok (.lload_n 2, 1) := by decide +kernel
theorem dX7_part_116 : decode cX7_part 116 = .ok (.aload_n 0, 1) := by decide +kernel
theorem dX7_part_117 : decode cX7_part 117 = .ok (.getfield 158, 3) := by decide +kernel
theorem dX7_part_120 : decode cX7_part 120 = .ok (.invokestatic 232, 3) := by decide +kernel
theorem dX7_part_123 : decode cX7_part 123 = .ok (.i2l, 1) := by decide +kernel
theorem dX7_part_124 : decode cX7_part 124 = .ok (.invokevirtual 235, 3) := by decide +kernel
theorem dX7_part_127 : decode cX7_part 127 = .ok (.ireturn, 1) := by decide +kernel
theorem dX7_thirsty_0 : decode cX7_thirsty 0 = .ok (.iconst 0, 1) := by decide +kernel
theorem dX7_thirsty_1 : decode cX7_thirsty 1 = .ok (.istore_n 1, 1) := by decide +kernel
theorem dX7_thirsty_2 : decode cX7_thirsty 2 = .ok (.iconst 0, 1) := by decide +kernel
theorem dX7_thirsty_3 : decode cX7_thirsty 3 = .ok (.istore_n 2, 1) := by decide +kernel
theorem dX7_thirsty_4 : decode cX7_thirsty 4 = .ok (.iload_n 2, 1) := by decide +kernel
theorem dX7_thirsty_5 : decode cX7_thirsty 5 = .ok (.aload_n 0, 1) := by decide +kernel
theorem dX7_thirsty_6 : decode cX7_thirsty 6 = .ok (.getfield 158, 3) := by decide +kernel
theorem dX7_thirsty_9 : decode cX7_thirsty 9 = .ok (.if_icmp .ge 27, 3) := by decide +kernel
theorem dX7_thirsty_12 : decode cX7_thirsty 12 = .ok (.iload_n 1, 1) := by decide +kernel
theorem dX7_thirsty_13 : decode cX7_thirsty 13 = .ok (.aload_n 0, 1) := by decide +kernel
theorem dX7_thirsty_14 : decode cX7_thirsty 14 = .ok (.iload_n 2, 1) := by decide +kernel
theorem dX7_thirsty_15 : decode cX7_thirsty 15 = .ok (.invokevirtual 199, 3) := by decide +kernel
theorem dX7_thirsty_18 : decode cX7_thirsty 18 = .ok (.ifCond .le 9, 3) := by decide +kernel
theorem dX7_thirsty_21 : decode cX7_thirsty 21 = .ok (.iconst 1, 1) := by decide +kernel
theorem dX7_thirsty_22 : decode cX7_thirsty 22 = .ok (.iload_n 2, 1) := by decide +kernel
theorem dX7_thirsty_23 : decode cX7_thirsty 23 = .ok (.ishl, 1) := by decide +kernel
theorem dX7_thirsty_24 : decode cX7_thirsty 24 = .ok (.goto 4, 3) := by decide +kernel
theorem dX7_thirsty_27 : decode cX7_thirsty 27 = .ok (.iconst 0, 1) := by decide +kernel
theorem dX7_thirsty_28 : decode cX7_thirsty 28 = .ok (.ior, 1) := by decide +kernel
theorem dX7_thirsty_29 : decode cX7_thirsty 29 = .ok (.istore_n 1, 1) := by decide +kernel
theorem dX7_thirsty_30 : decode cX7_thirsty 30 = .ok (.iinc 2 1, 3) := by decide +kernel
theorem dX7_thirsty_33 : decode cX7_thirsty 33 = .ok (.goto (-29), 3) := by decide +kernel
theorem dX7_thirsty_36 : decode cX7_thirsty 36 = .ok (.iload_n 1, 1) := by decide +kernel
theorem dX7_thirsty_37 : decode cX7_thirsty 37 = .ok (.ireturn, 1) := by decide +kernel
theorem dX7_with_0 : decode cX7_with 0 = .ok (.aload_n 0, 1) := by decide +kernel
theorem dX7_with_1 : decode cX7_with 1 = .ok (.iload_n 1, 1) := by decide +kernel
theorem dX7_with_2 : decode cX7_with 2 = .ok (.invokevirtual 187, 3) := by decide +kernel
theorem dX7_with_5 : decode cX7_with 5 = .ok (.ifCond .eq 26, 3) := by decide +kernel
theorem dX7_with_8 : decode cX7_with 8 = .ok (.iconst 1, 1) := by decide +kernel
theorem dX7_with_9 : decode cX7_with 9 = .ok (.aload_n 0, 1) := by decide +kernel
theorem dX7_with_10 : decode cX7_with 10 = .ok (.getfield 47, 3) := by decide +kernel
theorem dX7_with_13 : decode cX7_with 13 = .ok (.sipush 128, 3) := by decide +kernel
theorem dX7_with_16 : decode cX7_with 16 = .ok (.iload_n 1, 1) := by decide +kernel
theorem dX7_with_17 : decode cX7_with 17 = .ok (.iconst 1, 1) := by decide +kernel
theorem dX7_with_18 : decode cX7_with 18 = .ok (.iadd, 1) := by decide +kernel
theorem dX7_with_19 : decode cX7_with 19 = .ok (.imul, 1) := by decide +kernel
theorem dX7_with_20 : decode cX7_with 20 = .ok (.iload_n 2, 1) := by decide +kernel
theorem dX7_with_21 : decode cX7_with 21 = .ok (.iload_n 1, 1) := by decide +kernel
theorem dX7_with_22 : decode cX7_with 22 = .ok (.iconst (-1), 1) := by decide +kernel
theorem dX7_with_23 : decode cX7_with 23 = .ok (.ixor, 1) := by decide +kernel
theorem dX7_with_24 : decode cX7_with 24 = .ok (.iand, 1) := by decide +kernel
theorem dX7_with_25 : decode cX7_with 25 = .ok (.iadd, 1) := by decide +kernel
theorem dX7_with_26 : decode cX7_with 26 = .ok (.iaload, 1) := by decide +kernel
theorem dX7_with_27 : decode cX7_with 27 = .ok (.iadd, 1) := by decide +kernel
theorem dX7_with_28 : decode cX7_with 28 = .ok (.goto 5, 3) := by decide +kernel
theorem dX7_with_31 : decode cX7_with 31 = .ok (.bipush 99, 2) := by decide +kernel
theorem dX7_with_33 : decode cX7_with 33 = .ok (.ireturn, 1) := by decide +kernel
theorem dX7_layMeetings_0 : decode cX7_layMeetings 0 = .ok (.iconst 0, 1) := by decide +kernel
theorem dX7_layMeetings_1 : decode cX7_layMeetings 1 = .ok (.istore_n 1, 1) := by decide +kernel
theorem dX7_layMeetings_2 : decode cX7_layMeetings 2 = .ok (.iload_n 1, 1) := by decide +kernel
theorem dX7_layMeetings_3 : decode cX7_layMeetings 3 = .ok (.sipush 128, 3) := by decide +kernel
theorem dX7_layMeetings_6 : decode cX7_layMeetings 6 = .ok (.if_icmp .ge 29, 3) := by decide +kernel
theorem dX7_layMeetings_9 : decode cX7_layMeetings 9 = .ok (.aload_n 0, 1) := by decide +kernel
theorem dX7_layMeetings_10 : decode cX7_layMeetings 10 = .ok (.getfield 47, 3) := by decide +kernel
theorem dX7_layMeetings_13 : decode cX7_layMeetings 13 = .ok (.sipush 16384, 3) := by decide +kernel
theorem dX7_layMeetings_16 : decode cX7_layMeetings 16 = .ok (.iload_n 1, 1) := by decide +kernel
theorem dX7_layMeetings_17 : decode cX7_layMeetings 17 = .ok (.iadd, 1) := by decide +kernel
theorem dX7_layMeetings_18 : decode cX7_layMeetings 18 = .ok (.iload_n 1, 1) := by decide +kernel
theorem dX7_layMeetings_19 : decode cX7_layMeetings 19 = .ok (.ifCond .ne 7, 3) := by decide +kernel
theorem dX7_layMeetings_22 : decode cX7_layMeetings 22 = .ok (.iconst 0, 1) := by decide +kernel
theorem dX7_layMeetings_23 : decode cX7_layMeetings 23 = .ok (.goto 5, 3) := by decide +kernel
theorem dX7_layMeetings_26 : decode cX7_layMeetings 26 = .ok (.bipush 99, 2) := by decide +kernel
theorem dX7_layMeetings_28 : decode cX7_layMeetings 28 = .ok (.iastore, 1) := by decide +kernel
theorem dX7_layMeetings_29 : decode cX7_layMeetings 29 = .ok (.iinc 1 1, 3) := by decide +kernel
theorem dX7_layMeetings_32 : decode cX7_layMeetings 32 = .ok (.goto (-30), 3) := by decide +kernel
theorem dX7_layMeetings_35 : decode cX7_layMeetings 35 = .ok (.bipush 127, 2) := by decide +kernel
theorem dX7_layMeetings_37 : decode cX7_layMeetings 37 = .ok (.istore_n 1, 1) := by decide +kernel
theorem dX7_layMeetings_38 : decode cX7_layMeetings 38 = .ok (.iload_n 1, 1) := by decide +kernel
theorem dX7_layMeetings_39 : decode cX7_layMeetings 39 = .ok (.ifCond .lt 119, 3) := by decide +kernel
theorem dX7_layMeetings_42 : decode cX7_layMeetings 42 = .ok (.iload_n 1, 1) := by decide +kernel
theorem dX7_layMeetings_43 : decode cX7_layMeetings 43 = .ok (.aload_n 0, 1) := by decide +kernel
theorem dX7_layMeetings_44 : decode cX7_layMeetings 44 = .ok (.invokevirtual 164, 3) := by decide +kernel
theorem dX7_layMeetings_47 : decode cX7_layMeetings 47 = .ok (.if_icmp .gt 15, 3) := by decide +kernel
theorem dX7_layMeetings_50 : decode cX7_layMeetings 50 = .ok (.aload_n 0, 1) := by decide +kernel
theorem dX7_layMeetings_51 : decode cX7_layMeetings 51 = .ok (.iload_n 1, 1) := by decide +kernel
theorem dX7_layMeetings_52 : decode cX7_layMeetings 52 = .ok (.invokevirtual 187, 3) := by decide +kernel
theorem dX7_layMeetings_55 : decode cX7_layMeetings 55 = .ok (.ifCond .eq 7, 3) := by decide +kernel
theorem dX7_layMeetings_58 : decode cX7_layMeetings 58 = .ok (.iconst 1, 1) := by decide +kernel
theorem dX7_layMeetings_59 : decode cX7_layMeetings 59 = .ok (.goto 4, 3) := by decide +kernel
theorem dX7_layMeetings_62 : decode cX7_layMeetings 62 = .ok (.iconst 0, 1) := by decide +kernel
theorem dX7_layMeetings_63 : decode cX7_layMeetings 63 = .ok (.istore_n 2, 1) := by decide +kernel
theorem dX7_layMeetings_64 : decode cX7_layMeetings 64 = .ok (.iconst 0, 1) := by decide +kernel
theorem dX7_layMeetings_65 : decode cX7_layMeetings 65 = .ok (.istore_n 3, 1) := by decide +kernel
theorem dX7_layMeetings_66 : decode cX7_layMeetings 66 = .ok (.iload_n 3, 1) := by decide +kernel
theorem dX7_layMeetings_67 : decode cX7_layMeetings 67 = .ok (.sipush 128, 3) := by decide +kernel
theorem dX7_layMeetings_70 : decode cX7_layMeetings 70 = .ok (.if_icmp .ge 82, 3) := by decide +kernel
theorem dX7_layMeetings_73 : decode cX7_layMeetings 73 = .ok (.aload_n 0, 1) := by decide +kernel
theorem dX7_layMeetings_74 : decode cX7_layMeetings 74 = .ok (.getfield 47, 3) := by decide +kernel
theorem dX7_layMeetings_77 : decode cX7_layMeetings 77 = .ok (.sipush 128, 3) := by decide +kernel
theorem dX7_layMeetings_80 : decode cX7_layMeetings 80 = .ok (.iload_n 1, 1) := by decide +kernel
theorem dX7_layMeetings_81 : decode cX7_layMeetings 81 = .ok (.iconst 1, 1) := by decide +kernel
theorem dX7_layMeetings_82 : decode cX7_layMeetings 82 = .ok (.iadd, 1) := by decide +kernel
theorem dX7_layMeetings_83 : decode cX7_layMeetings 83 = .ok (.imul, 1) := by decide +kernel
theorem dX7_layMeetings_84 : decode cX7_layMeetings 84 = .ok (.iload_n 3, 1) := by decide +kernel
theorem dX7_layMeetings_85 : decode cX7_layMeetings 85 = .ok (.iadd, 1) := by decide +kernel
theorem dX7_layMeetings_86 : decode cX7_layMeetings 86 = .ok (.iaload, 1) := by decide +kernel
theorem dX7_layMeetings_87 : decode cX7_layMeetings 87 = .ok (.istore 4, 2) := by decide +kernel
theorem dX7_layMeetings_89 : decode cX7_layMeetings 89 = .ok (.iload_n 2, 1) := by decide +kernel
theorem dX7_layMeetings_90 : decode cX7_layMeetings 90 = .ok (.ifCond .eq 26, 3) := by decide +kernel
theorem dX7_layMeetings_93 : decode cX7_layMeetings 93 = .ok (.iconst 1, 1) := by decide +kernel
theorem dX7_layMeetings_94 : decode cX7_layMeetings 94 = .ok (.aload_n 0, 1) := by decide +kernel
theorem dX7_layMeetings_95 : decode cX7_layMeetings 95 = .ok (.getfield 47, 3) := by decide +kernel
theorem dX7_layMeetings_98 : decode cX7_layMeetings 98 = .ok (.sipush 128, 3) := by decide +kernel
theorem dX7_layMeetings_101 : decode cX7_layMeetings 101 = .ok (.iload_n 1, 1) := by decide +kernel
theorem dX7_layMeetings_102 : decode cX7_layMeetings 102 = .ok (.iconst 1, 1) := by decide +kernel
theorem dX7_layMeetings_103 : decode cX7_layMeetings 103 = .ok (.iadd, 1) := by decide +kernel
theorem dX7_layMeetings_104 : decode cX7_layMeetings 104 = .ok (.imul, 1) := by decide +kernel
theorem dX7_layMeetings_105 : decode cX7_layMeetings 105 = .ok (.iload_n 3, 1) := by decide +kernel
theorem dX7_layMeetings_106 : decode cX7_layMeetings 106 = .ok (.iload_n 1, 1) := by decide +kernel
theorem dX7_layMeetings_107 : decode cX7_layMeetings 107 = .ok (.iconst (-1), 1) := by decide +kernel
theorem dX7_layMeetings_108 : decode cX7_layMeetings 108 = .ok (.ixor, 1) := by decide +kernel
theorem dX7_layMeetings_109 : decode cX7_layMeetings 109 = .ok (.iand, 1) := by decide +kernel
theorem dX7_layMeetings_110 : decode cX7_layMeetings 110 = .ok (.iadd, 1) := by decide +kernel
theorem dX7_layMeetings_111 : decode cX7_layMeetings 111 = .ok (.iaload, 1) := by decide +kernel
theorem dX7_layMeetings_112 : decode cX7_layMeetings 112 = .ok (.iadd, 1) := by decide +kernel
theorem dX7_layMeetings_113 : decode cX7_layMeetings 113 = .ok (.goto 5, 3) := by decide +kernel
theorem dX7_layMeetings_116 : decode cX7_layMeetings 116 = .ok (.bipush 99, 2) := by decide +kernel
theorem dX7_layMeetings_118 : decode cX7_layMeetings 118 = .ok (.istore 5, 2) := by decide +kernel
theorem dX7_layMeetings_120 : decode cX7_layMeetings 120 = .ok (.aload_n 0, 1) := by decide +kernel
theorem dX7_layMeetings_121 : decode cX7_layMeetings 121 = .ok (.getfield 47, 3) := by decide +kernel
theorem dX7_layMeetings_124 : decode cX7_layMeetings 124 = .ok (.sipush 128, 3) := by decide +kernel
theorem dX7_layMeetings_127 : decode cX7_layMeetings 127 = .ok (.iload_n 1, 1) := by decide +kernel
theorem dX7_layMeetings_128 : decode cX7_layMeetings 128 = .ok (.imul, 1) := by decide +kernel
theorem dX7_layMeetings_129 : decode cX7_layMeetings 129 = .ok (.iload_n 3, 1) := by decide +kernel
theorem dX7_layMeetings_130 : decode cX7_layMeetings 130 = .ok (.iadd, 1) := by decide +kernel
theorem dX7_layMeetings_131 : decode cX7_layMeetings 131 = .ok (.iload 5, 2) := by decide +kernel
theorem dX7_layMeetings_133 : decode cX7_layMeetings 133 = .ok (.iload 4, 2) := by decide +kernel
theorem dX7_layMeetings_135 : decode cX7_layMeetings 135 = .ok (.if_icmp .ge 8, 3) := by decide +kernel
theorem dX7_layMeetings_138 : decode cX7_layMeetings 138 = .ok (.iload 5, 2) := by decide +kernel
theorem dX7_layMeetings_140 : decode cX7_layMeetings 140 = .ok (.goto 5, 3) := by decide +kernel
theorem dX7_layMeetings_143 : decode cX7_layMeetings 143 = .ok (.iload 4, 2) := by decide +kernel
theorem dX7_layMeetings_145 : decode cX7_layMeetings 145 = .ok (.iastore, 1) := by decide +kernel
theorem dX7_layMeetings_146 : decode cX7_layMeetings 146 = .ok (.iinc 3 1, 3) := by decide +kernel
theorem dX7_layMeetings_149 : decode cX7_layMeetings 149 = .ok (.goto (-83), 3) := by decide +kernel
theorem dX7_layMeetings_152 : decode cX7_layMeetings 152 = .ok (.iinc 1 (-1), 3) := by decide +kernel
theorem dX7_layMeetings_155 : decode cX7_layMeetings 155 = .ok (.goto (-117), 3) := by decide +kernel
theorem dX7_layMeetings_158 : decode cX7_layMeetings 158 = .ok (.return_, 1) := by decide +kernel
theorem dX7_drink_0 : decode cX7_drink 0 = .ok (.iload_n 1, 1) := by decide +kernel
theorem dX7_drink_1 : decode cX7_drink 1 = .ok (.invokestatic 72, 3) := by decide +kernel
theorem dX7_drink_4 : decode cX7_drink 4 = .ok (.ifCond .ne 5, 3) := by decide +kernel
theorem dX7_drink_7 : decode cX7_drink 7 = .ok (.iconst (-1), 1) := by decide +kernel
theorem dX7_drink_8 : decode cX7_drink 8 = .ok (.ireturn, 1) := by decide +kernel
theorem dX7_drink_9 : decode cX7_drink 9 = .ok (.aload_n 0, 1) := by decide +kernel
theorem dX7_drink_10 : decode cX7_drink 10 = .ok (.getfield 158, 3) := by decide +kernel
theorem dX7_drink_13 : decode cX7_drink 13 = .ok (.ifCond .ne 6, 3) := by decide +kernel
theorem dX7_drink_16 : decode cX7_drink 16 = .ok (.bipush (-4), 2) := by decide +kernel
theorem dX7_drink_18 : decode cX7_drink 18 = .ok (.ireturn, 1) := by decide +kernel
theorem dX7_drink_19 : decode cX7_drink 19 = .ok (.aload_n 0, 1) := by decide +kernel
theorem dX7_drink_20 : decode cX7_drink 20 = .ok (.invokevirtual 239, 3) := by decide +kernel
theorem dX7_drink_23 : decode cX7_drink 23 = .ok (.aload_n 0, 1) := by decide +kernel
theorem dX7_drink_24 : decode cX7_drink 24 = .ok (.invokevirtual 242, 3) := by decide +kernel
theorem dX7_drink_27 : decode cX7_drink 27 = .ok (.istore_n 2, 1) := by decide +kernel
theorem dX7_drink_28 : decode cX7_drink 28 = .ok (.aload_n 0, 1) := by decide +kernel
theorem dX7_drink_29 : decode cX7_drink 29 = .ok (.getfield 47, 3) := by decide +kernel
theorem dX7_drink_32 : decode cX7_drink 32 = .ok (.iload_n 2, 1) := by decide +kernel
theorem dX7_drink_33 : decode cX7_drink 33 = .ok (.iaload, 1) := by decide +kernel
theorem dX7_drink_34 : decode cX7_drink 34 = .ok (.istore_n 3, 1) := by decide +kernel
theorem dX7_drink_35 : decode cX7_drink 35 = .ok (.iload_n 3, 1) := by decide +kernel
theorem dX7_drink_36 : decode cX7_drink 36 = .ok (.bipush 99, 2) := by decide +kernel
theorem dX7_drink_38 : decode cX7_drink 38 = .ok (.if_icmp .lt 6, 3) := by decide +kernel
theorem dX7_drink_41 : decode cX7_drink 41 = .ok (.bipush (-9), 2) := by decide +kernel
theorem dX7_drink_43 : decode cX7_drink 43 = .ok (.ireturn, 1) := by decide +kernel
theorem dX7_drink_44 : decode cX7_drink 44 = .ok (.aload_n 0, 1) := by decide +kernel
theorem dX7_drink_45 : decode cX7_drink 45 = .ok (.iload_n 1, 1) := by decide +kernel
theorem dX7_drink_46 : decode cX7_drink 46 = .ok (.iload_n 3, 1) := by decide +kernel
theorem dX7_drink_47 : decode cX7_drink 47 = .ok (.invokevirtual 80, 3) := by decide +kernel
theorem dX7_drink_50 : decode cX7_drink 50 = .ok (.iconst 0, 1) := by decide +kernel
theorem dX7_drink_51 : decode cX7_drink 51 = .ok (.istore 4, 2) := by decide +kernel
theorem dX7_drink_53 : decode cX7_drink 53 = .ok (.iconst 0, 1) := by decide +kernel
theorem dX7_drink_54 : decode cX7_drink 54 = .ok (.istore 5, 2) := by decide +kernel
theorem dX7_drink_56 : decode cX7_drink 56 = .ok (.iload 5, 2) := by decide +kernel
theorem dX7_drink_58 : decode cX7_drink 58 = .ok (.aload_n 0, 1) := by decide +kernel
theorem dX7_drink_59 : decode cX7_drink 59 = .ok (.invokevirtual 164, 3) := by decide +kernel
theorem dX7_drink_62 : decode cX7_drink 62 = .ok (.if_icmp .gt 53, 3) := by decide +kernel
theorem dX7_drink_65 : decode cX7_drink 65 = .ok (.iload 4, 2) := by decide +kernel
theorem dX7_drink_67 : decode cX7_drink 67 = .ok (.iload_n 3, 1) := by decide +kernel
theorem dX7_drink_68 : decode cX7_drink 68 = .ok (.if_icmp .ge 47, 3) := by decide +kernel
theorem dX7_drink_71 : decode cX7_drink 71 = .ok (.aload_n 0, 1) := by decide +kernel
theorem dX7_drink_72 : decode cX7_drink 72 = .ok (.iload 5, 2) := by decide +kernel
theorem dX7_drink_74 : decode cX7_drink 74 = .ok (.iload_n 2, 1) := by decide +kernel
theorem dX7_drink_75 : decode cX7_drink 75 = .ok (.invokevirtual 245, 3) := by decide +kernel
theorem dX7_drink_78 : decode cX7_drink 78 = .ok (.iload_n 3, 1) := by decide +kernel
theorem dX7_drink_79 : decode cX7_drink 79 = .ok (.iload 4, 2) := by decide +kernel
theorem dX7_drink_81 : decode cX7_drink 81 = .ok (.isub, 1) := by decide +kernel
theorem dX7_drink_82 : decode cX7_drink 82 = .ok (.if_icmp .ne 27, 3) := by decide +kernel
theorem dX7_drink_85 : decode cX7_drink 85 = .ok (.aload_n 0, 1) := by decide +kernel
theorem dX7_drink_86 : decode cX7_drink 86 = .ok (.getfield 25, 3) := by decide +kernel
theorem dX7_drink_89 : decode cX7_drink 89 = .ok (.bipush 40, 2) := by decide +kernel
theorem dX7_drink_91 : decode cX7_drink 91 = .ok (.iload_n 1, 1) := by decide +kernel
theorem dX7_drink_92 : decode cX7_drink 92 = .ok (.imul, 1) := by decide +kernel
theorem dX7_drink_93 : decode cX7_drink 93 = .ok (.iload 4, 2) := by decide +kernel
theorem dX7_drink_95 : decode cX7_drink 95 = .ok (.iadd, 1) := by decide +kernel
theorem dX7_drink_96 : decode cX7_drink 96 = .ok (.iload 5, 2) := by decide +kernel
theorem dX7_drink_98 : decode cX7_drink 98 = .ok (.iastore, 1) := by decide +kernel
theorem dX7_drink_99 : decode cX7_drink 99 = .ok (.iload_n 2, 1) := by decide +kernel
theorem dX7_drink_100 : decode cX7_drink 100 = .ok (.iload 5, 2) := by decide +kernel
theorem dX7_drink_102 : decode cX7_drink 102 = .ok (.iconst (-1), 1) := by decide +kernel
theorem dX7_drink_103 : decode cX7_drink 103 = .ok (.ixor, 1) := by decide +kernel
theorem dX7_drink_104 : decode cX7_drink 104 = .ok (.iand, 1) := by decide +kernel
theorem dX7_drink_105 : decode cX7_drink 105 = .ok (.istore_n 2, 1) := by decide +kernel
theorem dX7_drink_106 : decode cX7_drink 106 = .ok (.iinc 4 1, 3) := by decide +kernel
theorem dX7_drink_109 : decode cX7_drink 109 = .ok (.iinc 5 1, 3) := by decide +kernel
theorem dX7_drink_112 : decode cX7_drink 112 = .ok (.goto (-56), 3) := by decide +kernel
theorem dX7_drink_115 : decode cX7_drink 115 = .ok (.iload_n 3, 1) := by decide +kernel
theorem dX7_drink_116 : decode cX7_drink 116 = .ok (.ireturn, 1) := by decide +kernel
theorem dX7_nextOrder_0 : decode cX7_nextOrder 0 = .ok (.iload_n 1, 1) := by decide +kernel
theorem dX7_nextOrder_1 : decode cX7_nextOrder 1 = .ok (.iconst 2, 1) := by decide +kernel
theorem dX7_nextOrder_2 : decode cX7_nextOrder 2 = .ok (.isub, 1) := by decide +kernel
theorem dX7_nextOrder_3 : decode cX7_nextOrder 3 = .ok (.istore_n 2, 1) := by decide +kernel
theorem dX7_nextOrder_4 : decode cX7_nextOrder 4 = .ok (.iload_n 2, 1) := by decide +kernel
theorem dX7_nextOrder_5 : decode cX7_nextOrder 5 = .ok (.ifCond .lt 26, 3) := by decide +kernel
theorem dX7_nextOrder_8 : decode cX7_nextOrder 8 = .ok (.aload_n 0, 1) := by decide +kernel
theorem dX7_nextOrder_9 : decode cX7_nextOrder 9 = .ok (.getfield 50, 3) := by decide +kernel
theorem dX7_nextOrder_12 : decode cX7_nextOrder 12 = .ok (.iload_n 2, 1) := by decide +kernel
theorem dX7_nextOrder_13 : decode cX7_nextOrder 13 = .ok (.iaload, 1) := by decide +kernel
theorem dX7_nextOrder_14 : decode cX7_nextOrder 14 = .ok (.aload_n 0, 1) := by decide +kernel
theorem dX7_nextOrder_15 : decode cX7_nextOrder 15 = .ok (.getfield 50, 3) := by decide +kernel
theorem dX7_nextOrder_18 : decode cX7_nextOrder 18 = .ok (.iload_n 2, 1) := by decide +kernel
theorem dX7_nextOrder_19 : decode cX7_nextOrder 19 = .ok (.iconst 1, 1) := by decide +kernel
theorem dX7_nextOrder_20 : decode cX7_nextOrder 20 = .ok (.iadd, 1) := by decide +kernel
theorem dX7_nextOrder_21 : decode cX7_nextOrder 21 = .ok (.iaload, 1) := by decide +kernel
theorem dX7_nextOrder_22 : decode cX7_nextOrder 22 = .ok (.if_icmp .le 9, 3) := by decide +kernel
theorem dX7_nextOrder_25 : decode cX7_nextOrder 25 = .ok (.iinc 2 (-1), 3) := by decide +kernel
theorem dX7_nextOrder_28 : decode cX7_nextOrder 28 = .ok (.goto (-24), 3) := by decide +kernel
theorem dX7_nextOrder_31 : decode cX7_nextOrder 31 = .ok (.iload_n 2, 1) := by decide +kernel
theorem dX7_nextOrder_32 : decode cX7_nextOrder 32 = .ok (.ifCond .ge 5, 3) := by decide +kernel
theorem dX7_nextOrder_35 : decode cX7_nextOrder 35 = .ok (.iconst 0, 1) := by decide +kernel
theorem dX7_nextOrder_36 : decode cX7_nextOrder 36 = .ok (.ireturn, 1) := by decide +kernel
theorem dX7_nextOrder_37 : decode cX7_nextOrder 37 = .ok (.iload_n 1, 1) := by decide +kernel
theorem dX7_nextOrder_38 : decode cX7_nextOrder 38 = .ok (.iconst 1, 1) := by decide +kernel
theorem dX7_nextOrder_39 : decode cX7_nextOrder 39 = .ok (.isub, 1) := by decide +kernel
theorem dX7_nextOrder_40 : decode cX7_nextOrder 40 = .ok (.istore_n 3, 1) := by decide +kernel
theorem dX7_nextOrder_41 : decode cX7_nextOrder 41 = .ok (.aload_n 0, 1) := by decide +kernel
theorem dX7_nextOrder_42 : decode cX7_nextOrder 42 = .ok (.getfield 50, 3) := by decide +kernel
theorem dX7_nextOrder_45 : decode cX7_nextOrder 45 = .ok (.iload_n 3, 1) := by decide +kernel
theorem dX7_nextOrder_46 : decode cX7_nextOrder 46 = .ok (.iaload, 1) := by decide +kernel
theorem dX7_nextOrder_47 : decode cX7_nextOrder 47 = .ok (.aload_n 0, 1) := by decide +kernel
theorem dX7_nextOrder_48 : decode cX7_nextOrder 48 = .ok (.getfield 50, 3) := by decide +kernel
theorem dX7_nextOrder_51 : decode cX7_nextOrder 51 = .ok (.iload_n 2, 1) := by decide +kernel
theorem dX7_nextOrder_52 : decode cX7_nextOrder 52 = .ok (.iaload, 1) := by decide +kernel
theorem dX7_nextOrder_53 : decode cX7_nextOrder 53 = .ok (.if_icmp .ge 9, 3) := by decide +kernel
theorem dX7_nextOrder_56 : decode cX7_nextOrder 56 = .ok (.iinc 3 (-1), 3) := by decide +kernel
theorem dX7_nextOrder_59 : decode cX7_nextOrder 59 = .ok (.goto (-18), 3) := by decide +kernel
theorem dX7_nextOrder_62 : decode cX7_nextOrder 62 = .ok (.aload_n 0, 1) := by decide +kernel
theorem dX7_nextOrder_63 : decode cX7_nextOrder 63 = .ok (.getfield 50, 3) := by decide +kernel
theorem dX7_nextOrder_66 : decode cX7_nextOrder 66 = .ok (.iload_n 2, 1) := by decide +kernel
theorem dX7_nextOrder_67 : decode cX7_nextOrder 67 = .ok (.iaload, 1) := by decide +kernel
theorem dX7_nextOrder_68 : decode cX7_nextOrder 68 = .ok (.istore 4, 2) := by decide +kernel
theorem dX7_nextOrder_70 : decode cX7_nextOrder 70 = .ok (.aload_n 0, 1) := by decide +kernel
theorem dX7_nextOrder_71 : decode cX7_nextOrder 71 = .ok (.getfield 50, 3) := by decide +kernel
theorem dX7_nextOrder_74 : decode cX7_nextOrder 74 = .ok (.iload_n 2, 1) := by decide +kernel
theorem dX7_nextOrder_75 : decode cX7_nextOrder 75 = .ok (.aload_n 0, 1) := by decide +kernel
theorem dX7_nextOrder_76 : decode cX7_nextOrder 76 = .ok (.getfield 50, 3) := by decide +kernel
theorem dX7_nextOrder_79 : decode cX7_nextOrder 79 = .ok (.iload_n 3, 1) := by decide +kernel
theorem dX7_nextOrder_80 : decode cX7_nextOrder 80 = .ok (.iaload, 1) := by decide +kernel
theorem dX7_nextOrder_81 : decode cX7_nextOrder 81 = .ok (.iastore, 1) := by decide +kernel
theorem dX7_nextOrder_82 : decode cX7_nextOrder 82 = .ok (.aload_n 0, 1) := by decide +kernel
theorem dX7_nextOrder_83 : decode cX7_nextOrder 83 = .ok (.getfield 50, 3) := by decide +kernel
theorem dX7_nextOrder_86 : decode cX7_nextOrder 86 = .ok (.iload_n 3, 1) := by decide +kernel
theorem dX7_nextOrder_87 : decode cX7_nextOrder 87 = .ok (.iload 4, 2) := by decide +kernel
theorem dX7_nextOrder_89 : decode cX7_nextOrder 89 = .ok (.iastore, 1) := by decide +kernel
theorem dX7_nextOrder_90 : decode cX7_nextOrder 90 = .ok (.iload_n 2, 1) := by decide +kernel
theorem dX7_nextOrder_91 : decode cX7_nextOrder 91 = .ok (.iconst 1, 1) := by decide +kernel
theorem dX7_nextOrder_92 : decode cX7_nextOrder 92 = .ok (.iadd, 1) := by decide +kernel
theorem dX7_nextOrder_93 : decode cX7_nextOrder 93 = .ok (.istore 5, 2) := by decide +kernel
theorem dX7_nextOrder_95 : decode cX7_nextOrder 95 = .ok (.iload_n 1, 1) := by decide +kernel
theorem dX7_nextOrder_96 : decode cX7_nextOrder 96 = .ok (.iconst 1, 1) := by decide +kernel
theorem dX7_nextOrder_97 : decode cX7_nextOrder 97 = .ok (.isub, 1) := by decide +kernel
theorem dX7_nextOrder_98 : decode cX7_nextOrder 98 = .ok (.istore 6, 2) := by decide +kernel
theorem dX7_nextOrder_100 : decode cX7_nextOrder 100 = .ok (.iload 5, 2) := by decide +kernel
theorem dX7_nextOrder_102 : decode cX7_nextOrder 102 = .ok (.iload 6, 2) := by decide +kernel
theorem dX7_nextOrder_104 : decode cX7_nextOrder 104 = .ok (.if_icmp .ge 44, 3) := by decide +kernel
theorem dX7_nextOrder_107 : decode cX7_nextOrder 107 = .ok (.aload_n 0, 1) := by decide +kernel
theorem dX7_nextOrder_108 : decode cX7_nextOrder 108 = .ok (.getfield 50, 3) := by decide +kernel
theorem dX7_nextOrder_111 : decode cX7_nextOrder 111 = .ok (.iload 5, 2) := by decide +kernel
theorem dX7_nextOrder_113 : decode cX7_nextOrder 113 = .ok (.iaload, 1) := by decide +kernel
theorem dX7_nextOrder_114 : decode cX7_nextOrder 114 = .ok (.istore 4, 2) := by decide +kernel
theorem dX7_nextOrder_116 : decode cX7_nextOrder 116 = .ok (.aload_n 0, 1) := by decide +kernel
theorem dX7_nextOrder_117 : decode cX7_nextOrder 117 = .ok (.getfield 50, 3) := by decide +kernel
theorem dX7_nextOrder_120 : decode cX7_nextOrder 120 = .ok (.iload 5, 2) := by decide +kernel
theorem dX7_nextOrder_122 : decode cX7_nextOrder 122 = .ok (.aload_n 0, 1) := by decide +kernel
theorem dX7_nextOrder_123 : decode cX7_nextOrder 123 = .ok (.getfield 50, 3) := by decide +kernel
theorem dX7_nextOrder_126 : decode cX7_nextOrder 126 = .ok (.iload 6, 2) := by decide +kernel
theorem dX7_nextOrder_128 : decode cX7_nextOrder 128 = .ok (.iaload, 1) := by decide +kernel
theorem dX7_nextOrder_129 : decode cX7_nextOrder 129 = .ok (.iastore, 1) := by decide +kernel
theorem dX7_nextOrder_130 : decode cX7_nextOrder 130 = .ok (.aload_n 0, 1) := by decide +kernel
theorem dX7_nextOrder_131 : decode cX7_nextOrder 131 = .ok (.getfield 50, 3) := by decide +kernel
theorem dX7_nextOrder_134 : decode cX7_nextOrder 134 = .ok (.iload 6, 2) := by decide +kernel
theorem dX7_nextOrder_136 : decode cX7_nextOrder 136 = .ok (.iload 4, 2) := by decide +kernel
theorem dX7_nextOrder_138 : decode cX7_nextOrder 138 = .ok (.iastore, 1) := by decide +kernel
theorem dX7_nextOrder_139 : decode cX7_nextOrder 139 = .ok (.iinc 5 1, 3) := by decide +kernel
theorem dX7_nextOrder_142 : decode cX7_nextOrder 142 = .ok (.iinc 6 (-1), 3) := by decide +kernel
theorem dX7_nextOrder_145 : decode cX7_nextOrder 145 = .ok (.goto (-45), 3) := by decide +kernel
theorem dX7_nextOrder_148 : decode cX7_nextOrder 148 = .ok (.iconst 1, 1) := by decide +kernel
theorem dX7_nextOrder_149 : decode cX7_nextOrder 149 = .ok (.ireturn, 1) := by decide +kernel
theorem dX7_served_0 : decode cX7_served 0 = .ok (.aload_n 0, 1) := by decide +kernel
theorem dX7_served_1 : decode cX7_served 1 = .ok (.getfield 7, 3) := by decide +kernel
theorem dX7_served_4 : decode cX7_served 4 = .ok (.iconst 2, 1) := by decide +kernel
theorem dX7_served_5 : decode cX7_served 5 = .ok (.iaload, 1) := by decide +kernel
theorem dX7_served_6 : decode cX7_served 6 = .ok (.istore_n 2, 1) := by decide +kernel
theorem dX7_served_7 : decode cX7_served 7 = .ok (.iconst 0, 1) := by decide +kernel
theorem dX7_served_8 : decode cX7_served 8 = .ok (.istore_n 3, 1) := by decide +kernel
theorem dX7_served_9 : decode cX7_served 9 = .ok (.iconst 0, 1) := by decide +kernel
theorem dX7_served_10 : decode cX7_served 10 = .ok (.istore 4, 2) := by decide +kernel
theorem dX7_served_12 : decode cX7_served 12 = .ok (.iload 4, 2) := by decide +kernel
theorem dX7_served_14 : decode cX7_served 14 = .ok (.iload_n 1, 1) := by decide +kernel
theorem dX7_served_15 : decode cX7_served 15 = .ok (.if_icmp .ge 56, 3) := by decide +kernel
theorem dX7_served_18 : decode cX7_served 18 = .ok (.aload_n 0, 1) := by decide +kernel
theorem dX7_served_19 : decode cX7_served 19 = .ok (.aload_n 0, 1) := by decide +kernel
theorem dX7_served_20 : decode cX7_served 20 = .ok (.getfield 50, 3) := by decide +kernel
theorem dX7_served_23 : decode cX7_served 23 = .ok (.iload 4, 2) := by decide +kernel
theorem dX7_served_25 : decode cX7_served 25 = .ok (.iaload, 1) := by decide +kernel
theorem dX7_served_26 : decode cX7_served 26 = .ok (.invokevirtual 199, 3) := by decide +kernel
theorem dX7_served_29 : decode cX7_served 29 = .ok (.istore 5, 2) := by decide +kernel
theorem dX7_served_31 : decode cX7_served 31 = .ok (.iload_n 3, 1) := by decide +kernel
theorem dX7_served_32 : decode cX7_served 32 = .ok (.iload 5, 2) := by decide +kernel
theorem dX7_served_34 : decode cX7_served 34 = .ok (.ifCond .le 13, 3) := by decide +kernel
theorem dX7_served_37 : decode cX7_served 37 = .ok (.iload 5, 2) := by decide +kernel
theorem dX7_served_39 : decode cX7_served 39 = .ok (.iload_n 2, 1) := by decide +kernel
theorem dX7_served_40 : decode cX7_served 40 = .ok (.if_icmp .gt 7, 3) := by decide +kernel
theorem dX7_served_43 : decode cX7_served 43 = .ok (.iconst 1, 1) := by decide +kernel
theorem dX7_served_44 : decode cX7_served 44 = .ok (.goto 4, 3) := by decide +kernel
theorem dX7_served_47 : decode cX7_served 47 = .ok (.iconst 0, 1) := by decide +kernel
theorem dX7_served_48 : decode cX7_served 48 = .ok (.iadd, 1) := by decide +kernel
theorem dX7_served_49 : decode cX7_served 49 = .ok (.istore_n 3, 1) := by decide +kernel
theorem dX7_served_50 : decode cX7_served 50 = .ok (.iload_n 2, 1) := by decide +kernel
theorem dX7_served_51 : decode cX7_served 51 = .ok (.iload 5, 2) := by decide +kernel
theorem dX7_served_53 : decode cX7_served 53 = .ok (.iload_n 2, 1) := by decide +kernel
theorem dX7_served_54 : decode cX7_served 54 = .ok (.if_icmp .ge 8, 3) := by decide +kernel
theorem dX7_served_57 : decode cX7_served 57 = .ok (.iload 5, 2) := by decide +kernel
theorem dX7_served_59 : decode cX7_served 59 = .ok (.goto 4, 3) := by decide +kernel
theorem dX7_served_62 : decode cX7_served 62 = .ok (.iload_n 2, 1) := by decide +kernel
theorem dX7_served_63 : decode cX7_served 63 = .ok (.isub, 1) := by decide +kernel
theorem dX7_served_64 : decode cX7_served 64 = .ok (.istore_n 2, 1) := by decide +kernel
theorem dX7_served_65 : decode cX7_served 65 = .ok (.iinc 4 1, 3) := by decide +kernel
theorem dX7_served_68 : decode cX7_served 68 = .ok (.goto (-56), 3) := by decide +kernel
theorem dX7_served_71 : decode cX7_served 71 = .ok (.iload_n 3, 1) := by decide +kernel
theorem dX7_served_72 : decode cX7_served 72 = .ok (.ireturn, 1) := by decide +kernel
theorem dX7_best_0 : decode cX7_best 0 = .ok (.aload_n 0, 1) := by decide +kernel
theorem dX7_best_1 : decode cX7_best 1 = .ok (.iload_n 1, 1) := by decide +kernel
theorem dX7_best_2 : decode cX7_best 2 = .ok (.invokevirtual 219, 3) := by decide +kernel
theorem dX7_best_5 : decode cX7_best 5 = .ok (.ifCond .eq 10, 3) := by decide +kernel
theorem dX7_best_8 : decode cX7_best 8 = .ok (.iload_n 2, 1) := by decide +kernel
theorem dX7_best_9 : decode cX7_best 9 = .ok (.invokestatic 72, 3) := by decide +kernel
theorem dX7_best_12 : decode cX7_best 12 = .ok (.ifCond .ne 5, 3) := by decide +kernel
theorem dX7_best_15 : decode cX7_best 15 = .ok (.iconst (-1), 1) := by decide +kernel
theorem dX7_best_16 : decode cX7_best 16 = .ok (.ireturn, 1) := by decide +kernel
theorem dX7_best_17 : decode cX7_best 17 = .ok (.aload_n 0, 1) := by decide +kernel
theorem dX7_best_18 : decode cX7_best 18 = .ok (.iload_n 1, 1) := by decide +kernel
theorem dX7_best_19 : decode cX7_best 19 = .ok (.invokevirtual 187, 3) := by decide +kernel
theorem dX7_best_22 : decode cX7_best 22 = .ok (.ifCond .ne 6, 3) := by decide +kernel
theorem dX7_best_25 : decode cX7_best 25 = .ok (.bipush (-4), 2) := by decide +kernel
theorem dX7_best_27 : decode cX7_best 27 = .ok (.ireturn, 1) := by decide +kernel
theorem dX7_best_28 : decode cX7_best 28 = .ok (.iconst 0, 1) := by decide +kernel
theorem dX7_best_29 : decode cX7_best 29 = .ok (.istore_n 3, 1) := by decide +kernel
theorem dX7_best_30 : decode cX7_best 30 = .ok (.iconst 0, 1) := by decide +kernel
theorem dX7_best_31 : decode cX7_best 31 = .ok (.istore 4, 2) := by decide +kernel
theorem dX7_best_33 : decode cX7_best 33 = .ok (.iload 4, 2) := by decide +kernel
theorem dX7_best_35 : decode cX7_best 35 = .ok (.aload_n 0, 1) := by decide +kernel
theorem dX7_best_36 : decode cX7_best 36 = .ok (.getfield 158, 3) := by decide +kernel
theorem dX7_best_39 : decode cX7_best 39 = .ok (.if_icmp .ge 29, 3) := by decide +kernel
theorem dX7_best_42 : decode cX7_best 42 = .ok (.iload_n 1, 1) := by decide +kernel
theorem dX7_best_43 : decode cX7_best 43 = .ok (.iload 4, 2) := by decide +kernel
theorem dX7_best_45 : decode cX7_best 45 = .ok (.invokestatic 135, 3) := by decide +kernel
theorem dX7_best_48 : decode cX7_best 48 = .ok (.ifCond .eq 14, 3) := by decide +kernel
theorem dX7_best_51 : decode cX7_best 51 = .ok (.aload_n 0, 1) := by decide +kernel
theorem dX7_best_52 : decode cX7_best 52 = .ok (.getfield 50, 3) := by decide +kernel
theorem dX7_best_55 : decode cX7_best 55 = .ok (.iload_n 3, 1) := by decide +kernel
theorem dX7_best_56 : decode cX7_best 56 = .ok (.iload 4, 2) := by decide +kernel
theorem dX7_best_58 : decode cX7_best 58 = .ok (.iastore, 1) := by decide +kernel
theorem dX7_best_59 : decode cX7_best 59 = .ok (.iinc 3 1, 3) := by decide +kernel
theorem dX7_best_62 : decode cX7_best 62 = .ok (.iinc 4 1, 3) := by decide +kernel
theorem dX7_best_65 : decode cX7_best 65 = .ok (.goto (-32), 3) := by decide +kernel
theorem dX7_best_68 : decode cX7_best 68 = .ok (.iconst (-1), 1) := by decide +kernel
theorem dX7_best_69 : decode cX7_best 69 = .ok (.istore 4, 2) := by decide +kernel
theorem dX7_best_71 : decode cX7_best 71 = .ok (.iconst 1, 1) := by decide +kernel
theorem dX7_best_72 : decode cX7_best 72 = .ok (.istore 5, 2) := by decide +kernel
theorem dX7_best_74 : decode cX7_best 74 = .ok (.iload 5, 2) := by decide +kernel
theorem dX7_best_76 : decode cX7_best 76 = .ok (.ifCond .eq 71, 3) := by decide +kernel
theorem dX7_best_79 : decode cX7_best 79 = .ok (.aload_n 0, 1) := by decide +kernel
theorem dX7_best_80 : decode cX7_best 80 = .ok (.iload_n 3, 1) := by decide +kernel
theorem dX7_best_81 : decode cX7_best 81 = .ok (.invokevirtual 248, 3) := by decide +kernel
theorem dX7_best_84 : decode cX7_best 84 = .ok (.istore 6, 2) := by decide +kernel
theorem dX7_best_86 : decode cX7_best 86 = .ok (.iload 6, 2) := by decide +kernel
theorem dX7_best_88 : decode cX7_best 88 = .ok (.iload 4, 2) := by decide +kernel
theorem dX7_best_90 : decode cX7_best 90 = .ok (.if_icmp .le 47, 3) := by decide +kernel
theorem dX7_best_93 : decode cX7_best 93 = .ok (.iload 6, 2) := by decide +kernel
theorem dX7_best_95 : decode cX7_best 95 = .ok (.istore 4, 2) := by decide +kernel
theorem dX7_best_97 : decode cX7_best 97 = .ok (.aload_n 0, 1) := by decide +kernel
theorem dX7_best_98 : decode cX7_best 98 = .ok (.iload_n 2, 1) := by decide +kernel
theorem dX7_best_99 : decode cX7_best 99 = .ok (.iload_n 3, 1) := by decide +kernel
theorem dX7_best_100 : decode cX7_best 100 = .ok (.invokevirtual 80, 3) := by decide +kernel
theorem dX7_best_103 : decode cX7_best 103 = .ok (.iconst 0, 1) := by decide +kernel
theorem dX7_best_104 : decode cX7_best 104 = .ok (.istore 7, 2) := by decide +kernel
theorem dX7_best_106 : decode cX7_best 106 = .ok (.iload 7, 2) := by decide +kernel
theorem dX7_best_108 : decode cX7_best 108 = .ok (.iload_n 3, 1) := by decide +kernel
theorem dX7_best_109 : decode cX7_best 109 = .ok (.if_icmp .ge 28, 3) := by decide +kernel
theorem dX7_best_112 : decode cX7_best 112 = .ok (.aload_n 0, 1) := by decide +kernel
theorem dX7_best_113 : decode cX7_best 113 = .ok (.getfield 25, 3) := by decide +kernel
theorem dX7_best_116 : decode cX7_best 116 = .ok (.bipush 40, 2) := by decide +kernel
theorem dX7_best_118 : decode cX7_best 118 = .ok (.iload_n 2, 1) := by decide +kernel
theorem dX7_best_119 : decode cX7_best 119 = .ok (.imul, 1) := by decide +kernel
theorem dX7_best_120 : decode cX7_best 120 = .ok (.iload 7, 2) := by decide +kernel
theorem dX7_best_122 : decode cX7_best 122 = .ok (.iadd, 1) := by decide +kernel
theorem dX7_best_123 : decode cX7_best 123 = .ok (.aload_n 0, 1) := by decide +kernel
theorem dX7_best_124 : decode cX7_best 124 = .ok (.getfield 50, 3) := by decide +kernel
theorem dX7_best_127 : decode cX7_best 127 = .ok (.iload 7, 2) := by decide +kernel
theorem dX7_best_129 : decode cX7_best 129 = .ok (.iaload, 1) := by decide +kernel
theorem dX7_best_130 : decode cX7_best 130 = .ok (.iastore, 1) := by decide +kernel
theorem dX7_best_131 : decode cX7_best 131 = .ok (.iinc 7 1, 3) := by decide +kernel
theorem dX7_best_134 : decode cX7_best 134 = .ok (.goto (-28), 3) := by decide +kernel
theorem dX7_best_137 : decode cX7_best 137 = .ok (.aload_n 0, 1) := by decide +kernel
theorem dX7_best_138 : decode cX7_best 138 = .ok (.iload_n 3, 1) := by decide +kernel
theorem dX7_best_139 : decode cX7_best 139 = .ok (.invokevirtual 251, 3) := by decide +kernel
theorem dX7_best_142 : decode cX7_best 142 = .ok (.istore 5, 2) := by decide +kernel
theorem dX7_best_144 : decode cX7_best 144 = .ok (.goto (-70), 3) := by decide +kernel
theorem dX7_best_147 : decode cX7_best 147 = .ok (.iload 4, 2) := by decide +kernel
theorem dX7_best_149 : decode cX7_best 149 = .ok (.ireturn, 1) := by decide +kernel
theorem dX7_drawnBy_0 : decode cX7_drawnBy 0 = .ok (.iconst 0, 1) := by decide +kernel
theorem dX7_drawnBy_1 : decode cX7_drawnBy 1 = .ok (.istore_n 2, 1) := by decide +kernel
theorem dX7_drawnBy_2 : decode cX7_drawnBy 2 = .ok (.iconst 0, 1) := by decide +kernel
theorem dX7_drawnBy_3 : decode cX7_drawnBy 3 = .ok (.istore_n 3, 1) := by decide +kernel
theorem dX7_drawnBy_4 : decode cX7_drawnBy 4 = .ok (.iload_n 3, 1) := by decide +kernel
theorem dX7_drawnBy_5 : decode cX7_drawnBy 5 = .ok (.aload_n 0, 1) := by decide +kernel
theorem dX7_drawnBy_6 : decode cX7_drawnBy 6 = .ok (.getfield 158, 3) := by decide +kernel
theorem dX7_drawnBy_9 : decode cX7_drawnBy 9 = .ok (.if_icmp .ge 30, 3) := by decide +kernel
theorem dX7_drawnBy_12 : decode cX7_drawnBy 12 = .ok (.iload_n 2, 1) := by decide +kernel
theorem dX7_drawnBy_13 : decode cX7_drawnBy 13 = .ok (.aload_n 0, 1) := by decide +kernel
theorem dX7_drawnBy_14 : decode cX7_drawnBy 14 = .ok (.iload_n 3, 1) := by decide +kernel
theorem dX7_drawnBy_15 : decode cX7_drawnBy 15 = .ok (.invokevirtual 199, 3) := by decide +kernel
theorem dX7_drawnBy_18 : decode cX7_drawnBy 18 = .ok (.iload_n 1, 1) := by decide +kernel
theorem dX7_drawnBy_19 : decode cX7_drawnBy 19 = .ok (.if_icmp .ge 11, 3) := by decide +kernel
theorem dX7_drawnBy_22 : decode cX7_drawnBy 22 = .ok (.aload_n 0, 1) := by decide +kernel
theorem dX7_drawnBy_23 : decode cX7_drawnBy 23 = .ok (.iload_n 3, 1) := by decide +kernel
theorem dX7_drawnBy_24 : decode cX7_drawnBy 24 = .ok (.invokevirtual 199, 3) := by decide +kernel
theorem dX7_drawnBy_27 : decode cX7_drawnBy 27 = .ok (.goto 4, 3) := by decide +kernel
theorem dX7_drawnBy_30 : decode cX7_drawnBy 30 = .ok (.iload_n 1, 1) := by decide +kernel
theorem dX7_drawnBy_31 : decode cX7_drawnBy 31 = .ok (.iadd, 1) := by decide +kernel
theorem dX7_drawnBy_32 : decode cX7_drawnBy 32 = .ok (.istore_n 2, 1) := by decide +kernel
theorem dX7_drawnBy_33 : decode cX7_drawnBy 33 = .ok (.iinc 3 1, 3) := by decide +kernel
theorem dX7_drawnBy_36 : decode cX7_drawnBy 36 = .ok (.goto (-32), 3) := by decide +kernel
theorem dX7_drawnBy_39 : decode cX7_drawnBy 39 = .ok (.iload_n 2, 1) := by decide +kernel
theorem dX7_drawnBy_40 : decode cX7_drawnBy 40 = .ok (.ireturn, 1) := by decide +kernel
theorem dX7_ration_0 : decode cX7_ration 0 = .ok (.aload_n 0, 1) := by decide +kernel
theorem dX7_ration_1 : decode cX7_ration 1 = .ok (.getfield 158, 3) := by decide +kernel
theorem dX7_ration_4 : decode cX7_ration 4 = .ok (.ifCond .ne 6, 3) := by decide +kernel
theorem dX7_ration_7 : decode cX7_ration 7 = .ok (.bipush (-4), 2) := by decide +kernel
theorem dX7_ration_9 : decode cX7_ration 9 = .ok (.ireturn, 1) := by decide +kernel
theorem dX7_ration_10 : decode cX7_ration 10 = .ok (.iconst 0, 1) := by decide +kernel
theorem dX7_ration_11 : decode cX7_ration 11 = .ok (.istore_n 1, 1) := by decide +kernel
theorem dX7_ration_12 : decode cX7_ration 12 = .ok (.iconst 0, 1) := by decide +kernel
theorem dX7_ration_13 : decode cX7_ration 13 = .ok (.istore_n 2, 1) := by decide +kernel
theorem dX7_ration_14 : decode cX7_ration 14 = .ok (.iload_n 2, 1) := by decide +kernel
theorem dX7_ration_15 : decode cX7_ration 15 = .ok (.bipush 100, 2) := by decide +kernel
theorem dX7_ration_17 : decode cX7_ration 17 = .ok (.if_icmp .ge 29, 3) := by decide +kernel
theorem dX7_ration_20 : decode cX7_ration 20 = .ok (.aload_n 0, 1) := by decide +kernel
theorem dX7_ration_21 : decode cX7_ration 21 = .ok (.iload_n 2, 1) := by decide +kernel
theorem dX7_ration_22 : decode cX7_ration 22 = .ok (.invokevirtual 254, 3) := by decide +kernel
theorem dX7_ration_25 : decode cX7_ration 25 = .ok (.aload_n 0, 1) := by decide +kernel
theorem dX7_ration_26 : decode cX7_ration 26 = .ok (.getfield 7, 3) := by decide +kernel
theorem dX7_ration_29 : decode cX7_ration 29 = .ok (.iconst 2, 1) := by decide +kernel
theorem dX7_ration_30 : decode cX7_ration 30 = .ok (.iaload, 1) := by decide +kernel
theorem dX7_ration_31 : decode cX7_ration 31 = .ok (.if_icmp .gt 7, 3) := by decide +kernel
theorem dX7_ration_34 : decode cX7_ration 34 = .ok (.iload_n 2, 1) := by decide +kernel
theorem dX7_ration_35 : decode cX7_ration 35 = .ok (.goto 4, 3) := by decide +kernel
theorem dX7_ration_38 : decode cX7_ration 38 = .ok (.iload_n 1, 1) := by decide +kernel
theorem dX7_ration_39 : decode cX7_ration 39 = .ok (.istore_n 1, 1) := by decide +kernel
theorem dX7_ration_40 : decode cX7_ration 40 = .ok (.iinc 2 1, 3) := by decide +kernel
theorem dX7_ration_43 : decode cX7_ration 43 = .ok (.goto (-29), 3) := by decide +kernel
theorem dX7_ration_46 : decode cX7_ration 46 = .ok (.aload_n 0, 1) := by decide +kernel
theorem dX7_ration_47 : decode cX7_ration 47 = .ok (.aload_n 0, 1) := by decide +kernel
theorem dX7_ration_48 : decode cX7_ration 48 = .ok (.iload_n 1, 1) := by decide +kernel
theorem dX7_ration_49 : decode cX7_ration 49 = .ok (.invokevirtual 254, 3) := by decide +kernel
theorem dX7_ration_52 : decode cX7_ration 52 = .ok (.putfield 61, 3) := by decide +kernel
theorem dX7_ration_55 : decode cX7_ration 55 = .ok (.iload_n 1, 1) := by decide +kernel
theorem dX7_ration_56 : decode cX7_ration 56 = .ok (.ireturn, 1) := by decide +kernel
theorem dX7_drawnOf_0 : decode cX7_drawnOf 0 = .ok (.iconst 0, 1) := by decide +kernel
theorem dX7_drawnOf_1 : decode cX7_drawnOf 1 = .ok (.istore_n 2, 1) := by decide +kernel
theorem dX7_drawnOf_2 : decode cX7_drawnOf 2 = .ok (.iconst 0, 1) := by decide +kernel
theorem dX7_drawnOf_3 : decode cX7_drawnOf 3 = .ok (.istore_n 3, 1) := by decide +kernel
theorem dX7_drawnOf_4 : decode cX7_drawnOf 4 = .ok (.iload_n 3, 1) := by decide +kernel
theorem dX7_drawnOf_5 : decode cX7_drawnOf 5 = .ok (.aload_n 0, 1) := by decide +kernel
theorem dX7_drawnOf_6 : decode cX7_drawnOf 6 = .ok (.getfield 158, 3) := by decide +kernel
theorem dX7_drawnOf_9 : decode cX7_drawnOf 9 = .ok (.if_icmp .ge 29, 3) := by decide +kernel
theorem dX7_drawnOf_12 : decode cX7_drawnOf 12 = .ok (.iload_n 2, 1) := by decide +kernel
theorem dX7_drawnOf_13 : decode cX7_drawnOf 13 = .ok (.iload_n 1, 1) := by decide +kernel
theorem dX7_drawnOf_14 : decode cX7_drawnOf 14 = .ok (.iload_n 3, 1) := by decide +kernel
theorem dX7_drawnOf_15 : decode cX7_drawnOf 15 = .ok (.invokestatic 135, 3) := by decide +kernel
theorem dX7_drawnOf_18 : decode cX7_drawnOf 18 = .ok (.ifCond .eq 11, 3) := by decide +kernel
theorem dX7_drawnOf_21 : decode cX7_drawnOf 21 = .ok (.aload_n 0, 1) := by decide +kernel
theorem dX7_drawnOf_22 : decode cX7_drawnOf 22 = .ok (.iload_n 3, 1) := by decide +kernel
theorem dX7_drawnOf_23 : decode cX7_drawnOf 23 = .ok (.invokevirtual 199, 3) := by decide +kernel
theorem dX7_drawnOf_26 : decode cX7_drawnOf 26 = .ok (.goto 4, 3) := by decide +kernel
theorem dX7_drawnOf_29 : decode cX7_drawnOf 29 = .ok (.iconst 0, 1) := by decide +kernel
theorem dX7_drawnOf_30 : decode cX7_drawnOf 30 = .ok (.iadd, 1) := by decide +kernel
theorem dX7_drawnOf_31 : decode cX7_drawnOf 31 = .ok (.istore_n 2, 1) := by decide +kernel
theorem dX7_drawnOf_32 : decode cX7_drawnOf 32 = .ok (.iinc 3 1, 3) := by decide +kernel
theorem dX7_drawnOf_35 : decode cX7_drawnOf 35 = .ok (.goto (-31), 3) := by decide +kernel
theorem dX7_drawnOf_38 : decode cX7_drawnOf 38 = .ok (.iload_n 2, 1) := by decide +kernel
theorem dX7_drawnOf_39 : decode cX7_drawnOf 39 = .ok (.aload_n 0, 1) := by decide +kernel
theorem dX7_drawnOf_40 : decode cX7_drawnOf 40 = .ok (.getfield 7, 3) := by decide +kernel
theorem dX7_drawnOf_43 : decode cX7_drawnOf 43 = .ok (.iconst 2, 1) := by decide +kernel
theorem dX7_drawnOf_44 : decode cX7_drawnOf 44 = .ok (.iaload, 1) := by decide +kernel
theorem dX7_drawnOf_45 : decode cX7_drawnOf 45 = .ok (.if_icmp .ge 7, 3) := by decide +kernel
theorem dX7_drawnOf_48 : decode cX7_drawnOf 48 = .ok (.iload_n 2, 1) := by decide +kernel
theorem dX7_drawnOf_49 : decode cX7_drawnOf 49 = .ok (.goto 9, 3) := by decide +kernel
theorem dX7_drawnOf_52 : decode cX7_drawnOf 52 = .ok (.aload_n 0, 1) := by decide +kernel
theorem dX7_drawnOf_53 : decode cX7_drawnOf 53 = .ok (.getfield 7, 3) := by decide +kernel
theorem dX7_drawnOf_56 : decode cX7_drawnOf 56 = .ok (.iconst 2, 1) := by decide +kernel
theorem dX7_drawnOf_57 : decode cX7_drawnOf 57 = .ok (.iaload, 1) := by decide +kernel
theorem dX7_drawnOf_58 : decode cX7_drawnOf 58 = .ok (.ireturn, 1) := by decide +kernel
theorem dX7_frogs_0 : decode cX7_frogs 0 = .ok (.iload_n 1, 1) := by decide +kernel
theorem dX7_frogs_1 : decode cX7_frogs 1 = .ok (.i2l, 1) := by decide +kernel
theorem dX7_frogs_2 : decode cX7_frogs 2 = .ok (.lconst 0, 1) := by decide +kernel
theorem dX7_frogs_3 : decode cX7_frogs 3 = .ok (.ldc2_w 257, 3) := by decide +kernel
theorem dX7_frogs_6 : decode cX7_frogs 6 = .ok (.invokestatic 66, 3) := by decide +kernel
theorem dX7_frogs_9 : decode cX7_frogs 9 = .ok (.ifCond .ne 5, 3) := by decide +kernel
theorem dX7_frogs_12 : decode cX7_frogs 12 = .ok (.iconst (-1), 1) := by decide +kernel
theorem dX7_frogs_13 : decode cX7_frogs 13 = .ok (.ireturn, 1) := by decide +kernel
theorem dX7_frogs_14 : decode cX7_frogs 14 = .ok (.iconst 0, 1) := by decide +kernel
theorem dX7_frogs_15 : decode cX7_frogs 15 = .ok (.istore_n 2, 1) := by decide +kernel
theorem dX7_frogs_16 : decode cX7_frogs 16 = .ok (.aload_n 0, 1) := by decide +kernel
theorem dX7_frogs_17 : decode cX7_frogs 17 = .ok (.invokevirtual 164, 3) := by decide +kernel
theorem dX7_frogs_20 : decode cX7_frogs 20 = .ok (.istore_n 3, 1) := by decide +kernel
theorem dX7_frogs_21 : decode cX7_frogs 21 = .ok (.iconst 0, 1) := by decide +kernel
theorem dX7_frogs_22 : decode cX7_frogs 22 = .ok (.istore 4, 2) := by decide +kernel
theorem dX7_frogs_24 : decode cX7_frogs 24 = .ok (.iload 4, 2) := by decide +kernel
theorem dX7_frogs_26 : decode cX7_frogs 26 = .ok (.aload_n 0, 1) := by decide +kernel
theorem dX7_frogs_27 : decode cX7_frogs 27 = .ok (.invokevirtual 164, 3) := by decide +kernel
theorem dX7_frogs_30 : decode cX7_frogs 30 = .ok (.if_icmp .gt 62, 3) := by decide +kernel
theorem dX7_frogs_33 : decode cX7_frogs 33 = .ok (.aload_n 0, 1) := by decide +kernel
theorem dX7_frogs_34 : decode cX7_frogs 34 = .ok (.iload 4, 2) := by decide +kernel
theorem dX7_frogs_36 : decode cX7_frogs 36 = .ok (.invokevirtual 187, 3) := by decide +kernel
theorem dX7_frogs_39 : decode cX7_frogs 39 = .ok (.ifCond .eq 17, 3) := by decide +kernel
theorem dX7_frogs_42 : decode cX7_frogs 42 = .ok (.aload_n 0, 1) := by decide +kernel
theorem dX7_frogs_43 : decode cX7_frogs 43 = .ok (.iload 4, 2) := by decide +kernel
theorem dX7_frogs_45 : decode cX7_frogs 45 = .ok (.invokevirtual 259, 3) := by decide +kernel
theorem dX7_frogs_48 : decode cX7_frogs 48 = .ok (.iload_n 1, 1) := by decide +kernel
theorem dX7_frogs_49 : decode cX7_frogs 49 = .ok (.if_icmp .ne 7, 3) := by decide +kernel
theorem dX7_frogs_52 : decode cX7_frogs 52 = .ok (.iconst 1, 1) := by decide +kernel
theorem dX7_frogs_53 : decode cX7_frogs 53 = .ok (.goto 4, 3) := by decide +kernel
theorem dX7_frogs_56 : decode cX7_frogs 56 = .ok (.iconst 0, 1) := by decide +kernel
theorem dX7_frogs_57 : decode cX7_frogs 57 = .ok (.istore 5, 2) := by decide +kernel
theorem dX7_frogs_59 : decode cX7_frogs 59 = .ok (.iload_n 2, 1) := by decide +kernel
theorem dX7_frogs_60 : decode cX7_frogs 60 = .ok (.iload 5, 2) := by decide +kernel
theorem dX7_frogs_62 : decode cX7_frogs 62 = .ok (.ifCond .eq 7, 3) := by decide +kernel
theorem dX7_frogs_65 : decode cX7_frogs 65 = .ok (.iconst 1, 1) := by decide +kernel
theorem dX7_frogs_66 : decode cX7_frogs 66 = .ok (.goto 4, 3) := by decide +kernel
theorem dX7_frogs_69 : decode cX7_frogs 69 = .ok (.iconst 0, 1) := by decide +kernel
theorem dX7_frogs_70 : decode cX7_frogs 70 = .ok (.iadd, 1) := by decide +kernel
theorem dX7_frogs_71 : decode cX7_frogs 71 = .ok (.istore_n 2, 1) := by decide +kernel
theorem dX7_frogs_72 : decode cX7_frogs 72 = .ok (.iload_n 3, 1) := by decide +kernel
theorem dX7_frogs_73 : decode cX7_frogs 73 = .ok (.iload 5, 2) := by decide +kernel
theorem dX7_frogs_75 : decode cX7_frogs 75 = .ok (.ifCond .eq 8, 3) := by decide +kernel
theorem dX7_frogs_78 : decode cX7_frogs 78 = .ok (.iload 4, 2) := by decide +kernel
theorem dX7_frogs_80 : decode cX7_frogs 80 = .ok (.goto 4, 3) := by decide +kernel
theorem dX7_frogs_83 : decode cX7_frogs 83 = .ok (.iload_n 3, 1) := by decide +kernel
theorem dX7_frogs_84 : decode cX7_frogs 84 = .ok (.iand, 1) := by decide +kernel
theorem dX7_frogs_85 : decode cX7_frogs 85 = .ok (.istore_n 3, 1) := by decide +kernel
theorem dX7_frogs_86 : decode cX7_frogs 86 = .ok (.iinc 4 1, 3) := by decide +kernel
theorem dX7_frogs_89 : decode cX7_frogs 89 = .ok (.goto (-65), 3) := by decide +kernel
theorem dX7_frogs_92 : decode cX7_frogs 92 = .ok (.aload_n 0, 1) := by decide +kernel
theorem dX7_frogs_93 : decode cX7_frogs 93 = .ok (.iload_n 2, 1) := by decide +kernel
theorem dX7_frogs_94 : decode cX7_frogs 94 = .ok (.ifCond .ne 7, 3) := by decide +kernel
theorem dX7_frogs_97 : decode cX7_frogs 97 = .ok (.iconst 0, 1) := by decide +kernel
theorem dX7_frogs_98 : decode cX7_frogs 98 = .ok (.goto 4, 3) := by decide +kernel
theorem dX7_frogs_101 : decode cX7_frogs 101 = .ok (.iload_n 3, 1) := by decide +kernel
theorem dX7_frogs_102 : decode cX7_frogs 102 = .ok (.putfield 61, 3) := by decide +kernel
theorem dX7_frogs_105 : decode cX7_frogs 105 = .ok (.aload_n 0, 1) := by decide +kernel
theorem dX7_frogs_106 : decode cX7_frogs 106 = .ok (.iload_n 2, 1) := by decide +kernel
theorem dX7_frogs_107 : decode cX7_frogs 107 = .ok (.i2l, 1) := by decide +kernel
theorem dX7_frogs_108 : decode cX7_frogs 108 = .ok (.invokevirtual 228, 3) := by decide +kernel
theorem dX7_frogs_111 : decode cX7_frogs 111 = .ok (.ireturn, 1) := by decide +kernel
theorem dX7_noPairs_0 : decode cX7_noPairs 0 = .ok (.aload_n 0, 1) := by decide +kernel
theorem dX7_noPairs_1 : decode cX7_noPairs 1 = .ok (.getfield 22, 3) := by decide +kernel
theorem dX7_noPairs_4 : decode cX7_noPairs 4 = .ok (.iload_n 1, 1) := by decide +kernel
theorem dX7_noPairs_5 : decode cX7_noPairs 5 = .ok (.iaload, 1) := by decide +kernel
theorem dX7_noPairs_6 : decode cX7_noPairs 6 = .ok (.ifCond .ge 9, 3) := by decide +kernel
theorem dX7_noPairs_9 : decode cX7_noPairs 9 = .ok (.aload_n 0, 1) := by decide +kernel
theorem dX7_noPairs_10 : decode cX7_noPairs 10 = .ok (.iconst 1, 1) := by decide +kernel
theorem dX7_noPairs_11 : decode cX7_noPairs 11 = .ok (.invokevirtual 76, 3) := by decide +kernel
theorem dX7_noPairs_14 : decode cX7_noPairs 14 = .ok (.ireturn, 1) := by decide +kernel
theorem dX7_noPairs_15 : decode cX7_noPairs 15 = .ok (.aload_n 0, 1) := by decide +kernel
theorem dX7_noPairs_16 : decode cX7_noPairs 16 = .ok (.getfield 22, 3) := by decide +kernel
theorem dX7_noPairs_19 : decode cX7_noPairs 19 = .ok (.iload_n 1, 1) := by decide +kernel
theorem dX7_noPairs_20 : decode cX7_noPairs 20 = .ok (.iaload, 1) := by decide +kernel
theorem dX7_noPairs_21 : decode cX7_noPairs 21 = .ok (.iconst 2, 1) := by decide +kernel
theorem dX7_noPairs_22 : decode cX7_noPairs 22 = .ok (.irem, 1) := by decide +kernel
theorem dX7_noPairs_23 : decode cX7_noPairs 23 = .ok (.ifCond .ne 14, 3) := by decide +kernel
theorem dX7_noPairs_26 : decode cX7_noPairs 26 = .ok (.aload_n 0, 1) := by decide +kernel
theorem dX7_noPairs_27 : decode cX7_noPairs 27 = .ok (.getfield 22, 3) := by decide +kernel
theorem dX7_noPairs_30 : decode cX7_noPairs 30 = .ok (.iload_n 1, 1) := by decide +kernel
theorem dX7_noPairs_31 : decode cX7_noPairs 31 = .ok (.iaload, 1) := by decide +kernel
theorem dX7_noPairs_32 : decode cX7_noPairs 32 = .ok (.bipush 16, 2) := by decide +kernel
theorem dX7_noPairs_34 : decode cX7_noPairs 34 = .ok (.if_icmp .le 9, 3) := by decide +kernel
theorem dX7_noPairs_37 : decode cX7_noPairs 37 = .ok (.aload_n 0, 1) := by decide +kernel
theorem dX7_noPairs_38 : decode cX7_noPairs 38 = .ok (.iconst 5, 1) := by decide +kernel
theorem dX7_noPairs_39 : decode cX7_noPairs 39 = .ok (.invokevirtual 76, 3) := by decide +kernel
theorem dX7_noPairs_42 : decode cX7_noPairs 42 = .ok (.ireturn, 1) := by decide +kernel
theorem dX7_noPairs_43 : decode cX7_noPairs 43 = .ok (.iconst 1, 1) := by decide +kernel
theorem dX7_noPairs_44 : decode cX7_noPairs 44 = .ok (.istore_n 2, 1) := by decide +kernel
theorem dX7_noPairs_45 : decode cX7_noPairs 45 = .ok (.bipush 40, 2) := by decide +kernel
theorem dX7_noPairs_47 : decode cX7_noPairs 47 = .ok (.iload_n 1, 1) := by decide +kernel
theorem dX7_noPairs_48 : decode cX7_noPairs 48 = .ok (.imul, 1) := by decide +kernel
theorem dX7_noPairs_49 : decode cX7_noPairs 49 = .ok (.istore_n 3, 1) := by decide +kernel
theorem dX7_noPairs_50 : decode cX7_noPairs 50 = .ok (.iload_n 3, 1) := by decide +kernel
theorem dX7_noPairs_51 : decode cX7_noPairs 51 = .ok (.bipush 40, 2) := by decide +kernel
theorem dX7_noPairs_53 : decode cX7_noPairs 53 = .ok (.iload_n 1, 1) := by decide +kernel
theorem dX7_noPairs_54 : decode cX7_noPairs 54 = .ok (.imul, 1) := by decide +kernel
theorem dX7_noPairs_55 : decode cX7_noPairs 55 = .ok (.aload_n 0, 1) := by decide +kernel
theorem dX7_noPairs_56 : decode cX7_noPairs 56 = .ok (.getfield 22, 3) := by decide +kernel
theorem dX7_noPairs_59 : decode cX7_noPairs 59 = .ok (.iload_n 1, 1) := by decide +kernel
theorem dX7_noPairs_60 : decode cX7_noPairs 60 = .ok (.iaload, 1) := by decide +kernel
theorem dX7_noPairs_61 : decode cX7_noPairs 61 = .ok (.iadd, 1) := by decide +kernel
theorem dX7_noPairs_62 : decode cX7_noPairs 62 = .ok (.if_icmp .ge 49, 3) := by decide +kernel
theorem dX7_noPairs_65 : decode cX7_noPairs 65 = .ok (.iload_n 2, 1) := by decide +kernel
theorem dX7_noPairs_66 : decode cX7_noPairs 66 = .ok (.ifCond .eq 37, 3) := by decide +kernel
theorem dX7_noPairs_69 : decode cX7_noPairs 69 = .ok (.aload_n 0, 1) := by decide +kernel
theorem dX7_noPairs_70 : decode cX7_noPairs 70 = .ok (.aload_n 0, 1) := by decide +kernel
theorem dX7_noPairs_71 : decode cX7_noPairs 71 = .ok (.getfield 25, 3) := by decide +kernel
theorem dX7_noPairs_74 : decode cX7_noPairs 74 = .ok (.iload_n 3, 1) := by decide +kernel
theorem dX7_noPairs_75 : decode cX7_noPairs 75 = .ok (.iaload, 1) := by decide +kernel
theorem dX7_noPairs_76 : decode cX7_noPairs 76 = .ok (.invokevirtual 219, 3) := by decide +kernel
theorem dX7_noPairs_79 : decode cX7_noPairs 79 = .ok (.ifCond .eq 24, 3) := by decide +kernel
theorem dX7_noPairs_82 : decode cX7_noPairs 82 = .ok (.aload_n 0, 1) := by decide +kernel
theorem dX7_noPairs_83 : decode cX7_noPairs 83 = .ok (.getfield 25, 3) := by decide +kernel
theorem dX7_noPairs_86 : decode cX7_noPairs 86 = .ok (.iload_n 3, 1) := by decide +kernel
theorem dX7_noPairs_87 : decode cX7_noPairs 87 = .ok (.iconst 1, 1) := by decide +kernel
theorem dX7_noPairs_88 : decode cX7_noPairs 88 = .ok (.iadd, 1) := by decide +kernel
theorem dX7_noPairs_89 : decode cX7_noPairs 89 = .ok (.iaload, 1) := by decide +kernel
theorem dX7_noPairs_90 : decode cX7_noPairs 90 = .ok (.i2l, 1) := by decide +kernel
theorem dX7_noPairs_91 : decode cX7_noPairs 91 = .ok (.lconst 0, 1) := by decide +kernel
theorem dX7_noPairs_92 : decode cX7_noPairs 92 = .ok (.lconst 1, 1) := by decide +kernel
theorem dX7_noPairs_93 : decode cX7_noPairs 93 = .ok (.invokestatic 66, 3) := by decide +kernel
theorem dX7_noPairs_96 : decode cX7_noPairs 96 = .ok (.ifCond .eq 7, 3) := by decide +kernel
theorem dX7_noPairs_99 : decode cX7_noPairs 99 = .ok (.iconst 1, 1) := by decide +kernel
theorem dX7_noPairs_100 : decode cX7_noPairs 100 = .ok (.goto 4, 3) := by decide +kernel
theorem dX7_noPairs_103 : decode cX7_noPairs 103 = .ok (.iconst 0, 1) := by decide +kernel
theorem dX7_noPairs_104 : decode cX7_noPairs 104 = .ok (.istore_n 2, 1) := by decide +kernel
theorem dX7_noPairs_105 : decode cX7_noPairs 105 = .ok (.iinc 3 2, 3) := by decide +kernel
theorem dX7_noPairs_108 : decode cX7_noPairs 108 = .ok (.goto (-58), 3) := by decide +kernel
theorem dX7_noPairs_111 : decode cX7_noPairs 111 = .ok (.iload_n 2, 1) := by decide +kernel
theorem dX7_noPairs_112 : decode cX7_noPairs 112 = .ok (.ifCond .eq 7, 3) := by decide +kernel
theorem dX7_noPairs_115 : decode cX7_noPairs 115 = .ok (.iconst 0, 1) := by decide +kernel
theorem dX7_noPairs_116 : decode cX7_noPairs 116 = .ok (.goto 8, 3) := by decide +kernel
theorem dX7_noPairs_119 : decode cX7_noPairs 119 = .ok (.aload_n 0, 1) := by decide +kernel
theorem dX7_noPairs_120 : decode cX7_noPairs 120 = .ok (.iconst 3, 1) := by decide +kernel
theorem dX7_noPairs_121 : decode cX7_noPairs 121 = .ok (.invokevirtual 76, 3) := by decide +kernel
theorem dX7_noPairs_124 : decode cX7_noPairs 124 = .ok (.ireturn, 1) := by decide +kernel
theorem dX7_twice_0 : decode cX7_twice 0 = .ok (.iload_n 1, 1) := by decide +kernel
theorem dX7_twice_1 : decode cX7_twice 1 = .ok (.invokestatic 72, 3) := by decide +kernel
theorem dX7_twice_4 : decode cX7_twice 4 = .ok (.ifCond .ne 5, 3) := by decide +kernel
theorem dX7_twice_7 : decode cX7_twice 7 = .ok (.iconst (-1), 1) := by decide +kernel
theorem dX7_twice_8 : decode cX7_twice 8 = .ok (.ireturn, 1) := by decide +kernel
theorem dX7_twice_9 : decode cX7_twice 9 = .ok (.aload_n 0, 1) := by decide +kernel
theorem dX7_twice_10 : decode cX7_twice 10 = .ok (.iload_n 1, 1) := by decide +kernel
theorem dX7_twice_11 : decode cX7_twice 11 = .ok (.invokevirtual 262, 3) := by decide +kernel
theorem dX7_twice_14 : decode cX7_twice 14 = .ok (.istore_n 2, 1) := by decide +kernel
theorem dX7_twice_15 : decode cX7_twice 15 = .ok (.iload_n 2, 1) := by decide +kernel
theorem dX7_twice_16 : decode cX7_twice 16 = .ok (.ifCond .eq 5, 3) := by decide +kernel
theorem dX7_twice_19 : decode cX7_twice 19 = .ok (.iload_n 2, 1) := by decide +kernel
theorem dX7_twice_20 : decode cX7_twice 20 = .ok (.ireturn, 1) := by decide +kernel
theorem dX7_twice_21 : decode cX7_twice 21 = .ok (.iconst 0, 1) := by decide +kernel
theorem dX7_twice_22 : decode cX7_twice 22 = .ok (.istore_n 3, 1) := by decide +kernel
theorem dX7_twice_23 : decode cX7_twice 23 = .ok (.iconst 0, 1) := by decide +kernel
theorem dX7_twice_24 : decode cX7_twice 24 = .ok (.istore 4, 2) := by decide +kernel
theorem dX7_twice_26 : decode cX7_twice 26 = .ok (.iload 4, 2) := by decide +kernel
theorem dX7_twice_28 : decode cX7_twice 28 = .ok (.aload_n 0, 1) := by decide +kernel
theorem dX7_twice_29 : decode cX7_twice 29 = .ok (.getfield 158, 3) := by decide +kernel
theorem dX7_twice_32 : decode cX7_twice 32 = .ok (.if_icmp .ge 150, 3) := by decide +kernel
theorem dX7_twice_35 : decode cX7_twice 35 = .ok (.iconst 1, 1) := by decide +kernel
theorem dX7_twice_36 : decode cX7_twice 36 = .ok (.istore 5, 2) := by decide +kernel
theorem dX7_twice_38 : decode cX7_twice 38 = .ok (.bipush 40, 2) := by decide +kernel
theorem dX7_twice_40 : decode cX7_twice 40 = .ok (.iload_n 1, 1) := by decide +kernel
theorem dX7_twice_41 : decode cX7_twice 41 = .ok (.imul, 1) := by decide +kernel
theorem dX7_twice_42 : decode cX7_twice 42 = .ok (.istore 6, 2) := by decide +kernel
theorem dX7_twice_44 : decode cX7_twice 44 = .ok (.iload 6, 2) := by decide +kernel
theorem dX7_twice_46 : decode cX7_twice 46 = .ok (.bipush 40, 2) := by decide +kernel
theorem dX7_twice_48 : decode cX7_twice 48 = .ok (.iload_n 1, 1) := by decide +kernel
theorem dX7_twice_49 : decode cX7_twice 49 = .ok (.imul, 1) := by decide +kernel
theorem dX7_twice_50 : decode cX7_twice 50 = .ok (.aload_n 0, 1) := by decide +kernel
theorem dX7_twice_51 : decode cX7_twice 51 = .ok (.getfield 22, 3) := by decide +kernel
theorem dX7_twice_54 : decode cX7_twice 54 = .ok (.iload_n 1, 1) := by decide +kernel
theorem dX7_twice_55 : decode cX7_twice 55 = .ok (.iaload, 1) := by decide +kernel
theorem dX7_twice_56 : decode cX7_twice 56 = .ok (.iadd, 1) := by decide +kernel
theorem dX7_twice_57 : decode cX7_twice 57 = .ok (.if_icmp .ge 103, 3) := by decide +kernel
theorem dX7_twice_60 : decode cX7_twice 60 = .ok (.aload_n 0, 1) := by decide +kernel
theorem dX7_twice_61 : decode cX7_twice 61 = .ok (.getfield 25, 3) := by decide +kernel
theorem dX7_twice_64 : decode cX7_twice 64 = .ok (.iload 6, 2) := by decide +kernel
theorem dX7_twice_66 : decode cX7_twice 66 = .ok (.iaload, 1) := by decide +kernel
theorem dX7_twice_67 : decode cX7_twice 67 = .ok (.invokestatic 225, 3) := by decide +kernel
theorem dX7_twice_70 : decode cX7_twice 70 = .ok (.aload_n 0, 1) := by decide +kernel
theorem dX7_twice_71 : decode cX7_twice 71 = .ok (.getfield 25, 3) := by decide +kernel
theorem dX7_twice_74 : decode cX7_twice 74 = .ok (.iload 6, 2) := by decide +kernel
theorem dX7_twice_76 : decode cX7_twice 76 = .ok (.iaload, 1) := by decide +kernel
theorem dX7_twice_77 : decode cX7_twice 77 = .ok (.iload 4, 2) := by decide +kernel
theorem dX7_twice_79 : decode cX7_twice 79 = .ok (.invokestatic 135, 3) := by decide +kernel
theorem dX7_twice_82 : decode cX7_twice 82 = .ok (.ifCond .eq 7, 3) := by decide +kernel
theorem dX7_twice_85 : decode cX7_twice 85 = .ok (.iconst 1, 1) := by decide +kernel
theorem dX7_twice_86 : decode cX7_twice 86 = .ok (.goto 4, 3) := by decide +kernel
theorem dX7_twice_89 : decode cX7_twice 89 = .ok (.iconst 0, 1) := by decide +kernel
theorem dX7_twice_90 : decode cX7_twice 90 = .ok (.iadd, 1) := by decide +kernel
theorem dX7_twice_91 : decode cX7_twice 91 = .ok (.istore 7, 2) := by decide +kernel
theorem dX7_twice_93 : decode cX7_twice 93 = .ok (.iload 5, 2) := by decide +kernel
theorem dX7_twice_95 : decode cX7_twice 95 = .ok (.ifCond .eq 56, 3) := by decide +kernel
theorem dX7_twice_98 : decode cX7_twice 98 = .ok (.iload 7, 2) := by decide +kernel
theorem dX7_twice_100 : decode cX7_twice 100 = .ok (.aload_n 0, 1) := by decide +kernel
theorem dX7_twice_101 : decode cX7_twice 101 = .ok (.getfield 152, 3) := by decide +kernel
theorem dX7_twice_104 : decode cX7_twice 104 = .ok (.if_icmp .lt 21, 3) := by decide +kernel
theorem dX7_twice_107 : decode cX7_twice 107 = .ok (.aload_n 0, 1) := by decide +kernel
theorem dX7_twice_108 : decode cX7_twice 108 = .ok (.aload_n 0, 1) := by decide +kernel
theorem dX7_twice_109 : decode cX7_twice 109 = .ok (.getfield 25, 3) := by decide +kernel
theorem dX7_twice_112 : decode cX7_twice 112 = .ok (.iload 6, 2) := by decide +kernel
theorem dX7_twice_114 : decode cX7_twice 114 = .ok (.iaload, 1) := by decide +kernel
theorem dX7_twice_115 : decode cX7_twice 115 = .ok (.invokevirtual 173, 3) := by decide +kernel
theorem dX7_twice_118 : decode cX7_twice 118 = .ok (.ifCond .eq 7, 3) := by decide +kernel
theorem dX7_twice_121 : decode cX7_twice 121 = .ok (.iconst 1, 1) := by decide +kernel
theorem dX7_twice_122 : decode cX7_twice 122 = .ok (.goto 4, 3) := by decide +kernel
theorem dX7_twice_125 : decode cX7_twice 125 = .ok (.iconst 0, 1) := by decide +kernel
theorem dX7_twice_126 : decode cX7_twice 126 = .ok (.aload_n 0, 1) := by decide +kernel
theorem dX7_twice_127 : decode cX7_twice 127 = .ok (.getfield 25, 3) := by decide +kernel
theorem dX7_twice_130 : decode cX7_twice 130 = .ok (.iload 6, 2) := by decide +kernel
theorem dX7_twice_132 : decode cX7_twice 132 = .ok (.iconst 1, 1) := by decide +kernel
theorem dX7_twice_133 : decode cX7_twice 133 = .ok (.iadd, 1) := by decide +kernel
theorem dX7_twice_134 : decode cX7_twice 134 = .ok (.iaload, 1) := by decide +kernel
theorem dX7_twice_135 : decode cX7_twice 135 = .ok (.iconst 1, 1) := by decide +kernel
theorem dX7_twice_136 : decode cX7_twice 136 = .ok (.if_icmp .ne 7, 3) := by decide +kernel
theorem dX7_twice_139 : decode cX7_twice 139 = .ok (.iconst 1, 1) := by decide +kernel
theorem dX7_twice_140 : decode cX7_twice 140 = .ok (.goto 4, 3) := by decide +kernel
theorem dX7_twice_143 : decode cX7_twice 143 = .ok (.iconst 0, 1) := by decide +kernel
theorem dX7_twice_144 : decode cX7_twice 144 = .ok (.if_icmp .ne 7, 3) := by decide +kernel
theorem dX7_twice_147 : decode cX7_twice 147 = .ok (.iconst 1, 1) := by decide +kernel
theorem dX7_twice_148 : decode cX7_twice 148 = .ok (.goto 4, 3) := by decide +kernel
theorem dX7_twice_151 : decode cX7_twice 151 = .ok (.iconst 0, 1) := by decide +kernel
theorem dX7_twice_152 : decode cX7_twice 152 = .ok (.istore 5, 2) := by decide +kernel
theorem dX7_twice_154 : decode cX7_twice 154 = .ok (.iinc 6 2, 3) := by decide +kernel
theorem dX7_twice_157 : decode cX7_twice 157 = .ok (.goto (-113), 3) := by decide +kernel
theorem dX7_twice_160 : decode cX7_twice 160 = .ok (.iload_n 3, 1) := by decide +kernel
theorem dX7_twice_161 : decode cX7_twice 161 = .ok (.iload 5, 2) := by decide +kernel
theorem dX7_twice_163 : decode cX7_twice 163 = .ok (.ifCond .eq 10, 3) := by decide +kernel
theorem dX7_twice_166 : decode cX7_twice 166 = .ok (.iconst 1, 1) := by decide +kernel
theorem dX7_twice_167 : decode cX7_twice 167 = .ok (.iload 4, 2) := by decide +kernel
theorem dX7_twice_169 : decode cX7_twice 169 = .ok (.ishl, 1) := by decide +kernel
theorem dX7_twice_170 : decode cX7_twice 170 = .ok (.goto 4, 3) := by decide +kernel
theorem dX7_twice_173 : decode cX7_twice 173 = .ok (.iconst 0, 1) := by decide +kernel
theorem dX7_twice_174 : decode cX7_twice 174 = .ok (.ior, 1) := by decide +kernel
theorem dX7_twice_175 : decode cX7_twice 175 = .ok (.istore_n 3, 1) := by decide +kernel
theorem dX7_twice_176 : decode cX7_twice 176 = .ok (.iinc 4 1, 3) := by decide +kernel
theorem dX7_twice_179 : decode cX7_twice 179 = .ok (.goto (-153), 3) := by decide +kernel
theorem dX7_twice_182 : decode cX7_twice 182 = .ok (.iload_n 3, 1) := by decide +kernel
theorem dX7_twice_183 : decode cX7_twice 183 = .ok (.ireturn, 1) := by decide +kernel
theorem dX7_quorum_0 : decode cX7_quorum 0 = .ok (.iload_n 1, 1) := by decide +kernel
theorem dX7_quorum_1 : decode cX7_quorum 1 = .ok (.invokestatic 72, 3) := by decide +kernel
theorem dX7_quorum_4 : decode cX7_quorum 4 = .ok (.ifCond .ne 5, 3) := by decide +kernel
theorem dX7_quorum_7 : decode cX7_quorum 7 = .ok (.iconst (-1), 1) := by decide +kernel
theorem dX7_quorum_8 : decode cX7_quorum 8 = .ok (.ireturn, 1) := by decide +kernel
theorem dX7_quorum_9 : decode cX7_quorum 9 = .ok (.aload_n 0, 1) := by decide +kernel
theorem dX7_quorum_10 : decode cX7_quorum 10 = .ok (.iload_n 1, 1) := by decide +kernel
theorem dX7_quorum_11 : decode cX7_quorum 11 = .ok (.invokevirtual 262, 3) := by decide +kernel
theorem dX7_quorum_14 : decode cX7_quorum 14 = .ok (.istore_n 2, 1) := by decide +kernel
theorem dX7_quorum_15 : decode cX7_quorum 15 = .ok (.iload_n 2, 1) := by decide +kernel
theorem dX7_quorum_16 : decode cX7_quorum 16 = .ok (.ifCond .eq 5, 3) := by decide +kernel
theorem dX7_quorum_19 : decode cX7_quorum 19 = .ok (.iload_n 2, 1) := by decide +kernel
theorem dX7_quorum_20 : decode cX7_quorum 20 = .ok (.ireturn, 1) := by decide +kernel
theorem dX7_quorum_21 : decode cX7_quorum 21 = .ok (.iconst 0, 1) := by decide +kernel
theorem dX7_quorum_22 : decode cX7_quorum 22 = .ok (.istore_n 3, 1) := by decide +kernel
theorem dX7_quorum_23 : decode cX7_quorum 23 = .ok (.iconst 1, 1) := by decide +kernel
theorem dX7_quorum_24 : decode cX7_quorum 24 = .ok (.istore 4, 2) := by decide +kernel
theorem dX7_quorum_26 : decode cX7_quorum 26 = .ok (.iload 4, 2) := by decide +kernel
theorem dX7_quorum_28 : decode cX7_quorum 28 = .ok (.bipush 10, 2) := by decide +kernel
theorem dX7_quorum_30 : decode cX7_quorum 30 = .ok (.if_icmp .ge 135, 3) := by decide +kernel
theorem dX7_quorum_33 : decode cX7_quorum 33 = .ok (.iconst 1, 1) := by decide +kernel
theorem dX7_quorum_34 : decode cX7_quorum 34 = .ok (.istore 5, 2) := by decide +kernel
theorem dX7_quorum_36 : decode cX7_quorum 36 = .ok (.bipush 40, 2) := by decide +kernel
theorem dX7_quorum_38 : decode cX7_quorum 38 = .ok (.iload_n 1, 1) := by decide +kernel
theorem dX7_quorum_39 : decode cX7_quorum 39 = .ok (.imul, 1) := by decide +kernel
theorem dX7_quorum_40 : decode cX7_quorum 40 = .ok (.istore 6, 2) := by decide +kernel
theorem dX7_quorum_42 : decode cX7_quorum 42 = .ok (.iload 6, 2) := by decide +kernel
theorem dX7_quorum_44 : decode cX7_quorum 44 = .ok (.bipush 40, 2) := by decide +kernel
theorem dX7_quorum_46 : decode cX7_quorum 46 = .ok (.iload_n 1, 1) := by decide +kernel
theorem dX7_quorum_47 : decode cX7_quorum 47 = .ok (.imul, 1) := by decide +kernel
theorem dX7_quorum_48 : decode cX7_quorum 48 = .ok (.aload_n 0, 1) := by decide +kernel
theorem dX7_quorum_49 : decode cX7_quorum 49 = .ok (.getfield 22, 3) := by decide +kernel
theorem dX7_quorum_52 : decode cX7_quorum 52 = .ok (.iload_n 1, 1) := by decide +kernel
theorem dX7_quorum_53 : decode cX7_quorum 53 = .ok (.iaload, 1) := by decide +kernel
theorem dX7_quorum_54 : decode cX7_quorum 54 = .ok (.iadd, 1) := by decide +kernel
theorem dX7_quorum_55 : decode cX7_quorum 55 = .ok (.if_icmp .ge 88, 3) := by decide +kernel
theorem dX7_quorum_58 : decode cX7_quorum 58 = .ok (.aload_n 0, 1) := by decide +kernel
theorem dX7_quorum_59 : decode cX7_quorum 59 = .ok (.getfield 158, 3) := by decide +kernel
theorem dX7_quorum_62 : decode cX7_quorum 62 = .ok (.ifCond .le 37, 3) := by decide +kernel
theorem dX7_quorum_65 : decode cX7_quorum 65 = .ok (.aload_n 0, 1) := by decide +kernel
theorem dX7_quorum_66 : decode cX7_quorum 66 = .ok (.aload_n 0, 1) := by decide +kernel
theorem dX7_quorum_67 : decode cX7_quorum 67 = .ok (.getfield 25, 3) := by decide +kernel
theorem dX7_quorum_70 : decode cX7_quorum 70 = .ok (.iload 6, 2) := by decide +kernel
theorem dX7_quorum_72 : decode cX7_quorum 72 = .ok (.iaload, 1) := by decide +kernel
theorem dX7_quorum_73 : decode cX7_quorum 73 = .ok (.invokevirtual 170, 3) := by decide +kernel
theorem dX7_quorum_76 : decode cX7_quorum 76 = .ok (.iload 4, 2) := by decide +kernel
theorem dX7_quorum_78 : decode cX7_quorum 78 = .ok (.if_icmp .lt 21, 3) := by decide +kernel
theorem dX7_quorum_81 : decode cX7_quorum 81 = .ok (.aload_n 0, 1) := by decide +kernel
theorem dX7_quorum_82 : decode cX7_quorum 82 = .ok (.aload_n 0, 1) := by decide +kernel
theorem dX7_quorum_83 : decode cX7_quorum 83 = .ok (.getfield 25, 3) := by decide +kernel
theorem dX7_quorum_86 : decode cX7_quorum 86 = .ok (.iload 6, 2) := by decide +kernel
theorem dX7_quorum_88 : decode cX7_quorum 88 = .ok (.iaload, 1) := by decide +kernel
theorem dX7_quorum_89 : decode cX7_quorum 89 = .ok (.invokevirtual 173, 3) := by decide +kernel
theorem dX7_quorum_92 : decode cX7_quorum 92 = .ok (.ifCond .eq 7, 3) := by decide +kernel
theorem dX7_quorum_95 : decode cX7_quorum 95 = .ok (.iconst 1, 1) := by decide +kernel
theorem dX7_quorum_96 : decode cX7_quorum 96 = .ok (.goto 4, 3) := by decide +kernel
theorem dX7_quorum_99 : decode cX7_quorum 99 = .ok (.iconst 0, 1) := by decide +kernel
theorem dX7_quorum_100 : decode cX7_quorum 100 = .ok (.istore 7, 2) := by decide +kernel
theorem dX7_quorum_102 : decode cX7_quorum 102 = .ok (.iload 5, 2) := by decide +kernel
theorem dX7_quorum_104 : decode cX7_quorum 104 = .ok (.ifCond .eq 30, 3) := by decide +kernel
theorem dX7_quorum_107 : decode cX7_quorum 107 = .ok (.iload 7, 2) := by decide +kernel
theorem dX7_quorum_109 : decode cX7_quorum 109 = .ok (.aload_n 0, 1) := by decide +kernel
theorem dX7_quorum_110 : decode cX7_quorum 110 = .ok (.getfield 25, 3) := by decide +kernel
theorem dX7_quorum_113 : decode cX7_quorum 113 = .ok (.iload 6, 2) := by decide +kernel
theorem dX7_quorum_115 : decode cX7_quorum 115 = .ok (.iconst 1, 1) := by decide +kernel
theorem dX7_quorum_116 : decode cX7_quorum 116 = .ok (.iadd, 1) := by decide +kernel
theorem dX7_quorum_117 : decode cX7_quorum 117 = .ok (.iaload, 1) := by decide +kernel
theorem dX7_quorum_118 : decode cX7_quorum 118 = .ok (.iconst 1, 1) := by decide +kernel
theorem dX7_quorum_119 : decode cX7_quorum 119 = .ok (.if_icmp .ne 7, 3) := by decide +kernel
theorem dX7_quorum_122 : decode cX7_quorum 122 = .ok (.iconst 1, 1) := by decide +kernel
theorem dX7_quorum_123 : decode cX7_quorum 123 = .ok (.goto 4, 3) := by decide +kernel
theorem dX7_quorum_126 : decode cX7_quorum 126 = .ok (.iconst 0, 1) := by decide +kernel
theorem dX7_quorum_127 : decode cX7_quorum 127 = .ok (.if_icmp .ne 7, 3) := by decide +kernel
theorem dX7_quorum_130 : decode cX7_quorum 130 = .ok (.iconst 1, 1) := by decide +kernel
theorem dX7_quorum_131 : decode cX7_quorum 131 = .ok (.goto 4, 3) := by decide +kernel
theorem dX7_quorum_134 : decode cX7_quorum 134 = .ok (.iconst 0, 1) := by decide +kernel
theorem dX7_quorum_135 : decode cX7_quorum 135 = .ok (.istore 5, 2) := by decide +kernel
theorem dX7_quorum_137 : decode cX7_quorum 137 = .ok (.iinc 6 2, 3) := by decide +kernel
theorem dX7_quorum_140 : decode cX7_quorum 140 = .ok (.goto (-98), 3) := by decide +kernel
theorem dX7_quorum_143 : decode cX7_quorum 143 = .ok (.iload_n 3, 1) := by decide +kernel
theorem dX7_quorum_144 : decode cX7_quorum 144 = .ok (.iload 5, 2) := by decide +kernel
theorem dX7_quorum_146 : decode cX7_quorum 146 = .ok (.ifCond .eq 10, 3) := by decide +kernel
theorem dX7_quorum_149 : decode cX7_quorum 149 = .ok (.iconst 1, 1) := by decide +kernel
theorem dX7_quorum_150 : decode cX7_quorum 150 = .ok (.iload 4, 2) := by decide +kernel
theorem dX7_quorum_152 : decode cX7_quorum 152 = .ok (.ishl, 1) := by decide +kernel
theorem dX7_quorum_153 : decode cX7_quorum 153 = .ok (.goto 4, 3) := by decide +kernel
theorem dX7_quorum_156 : decode cX7_quorum 156 = .ok (.iconst 0, 1) := by decide +kernel
theorem dX7_quorum_157 : decode cX7_quorum 157 = .ok (.ior, 1) := by decide +kernel
theorem dX7_quorum_158 : decode cX7_quorum 158 = .ok (.istore_n 3, 1) := by decide +kernel
theorem dX7_quorum_159 : decode cX7_quorum 159 = .ok (.iinc 4 1, 3) := by decide +kernel
theorem dX7_quorum_162 : decode cX7_quorum 162 = .ok (.goto (-136), 3) := by decide +kernel
theorem dX7_quorum_165 : decode cX7_quorum 165 = .ok (.iload_n 3, 1) := by decide +kernel
theorem dX7_quorum_166 : decode cX7_quorum 166 = .ok (.ireturn, 1) := by decide +kernel
theorem dX7_power_0 : decode cX7_power 0 = .ok (.iconst 1, 1) := by decide +kernel
theorem dX7_power_1 : decode cX7_power 1 = .ok (.istore_n 1, 1) := by decide +kernel
theorem dX7_power_2 : decode cX7_power 2 = .ok (.iconst 0, 1) := by decide +kernel
theorem dX7_power_3 : decode cX7_power 3 = .ok (.istore_n 2, 1) := by decide +kernel
theorem dX7_power_4 : decode cX7_power 4 = .ok (.iload_n 2, 1) := by decide +kernel
theorem dX7_power_5 : decode cX7_power 5 = .ok (.iload_n 0, 1) := by decide +kernel
theorem dX7_power_6 : decode cX7_power 6 = .ok (.if_icmp .ge 13, 3) := by decide +kernel
theorem dX7_power_9 : decode cX7_power 9 = .ok (.iload_n 1, 1) := by decide +kernel
theorem dX7_power_10 : decode cX7_power 10 = .ok (.iconst 3, 1) := by decide +kernel
theorem dX7_power_11 : decode cX7_power 11 = .ok (.imul, 1) := by decide +kernel
theorem dX7_power_12 : decode cX7_power 12 = .ok (.istore_n 1, 1) := by decide +kernel
theorem dX7_power_13 : decode cX7_power 13 = .ok (.iinc 2 1, 3) := by decide +kernel
theorem dX7_power_16 : decode cX7_power 16 = .ok (.goto (-12), 3) := by decide +kernel
theorem dX7_power_19 : decode cX7_power 19 = .ok (.iload_n 1, 1) := by decide +kernel
theorem dX7_power_20 : decode cX7_power 20 = .ok (.ireturn, 1) := by decide +kernel
theorem dX7_layWins_0 : decode cX7_layWins 0 = .ok (.aload_n 0, 1) := by decide +kernel
theorem dX7_layWins_1 : decode cX7_layWins 1 = .ok (.getfield 158, 3) := by decide +kernel
theorem dX7_layWins_4 : decode cX7_layWins 4 = .ok (.invokestatic 265, 3) := by decide +kernel
theorem dX7_layWins_7 : decode cX7_layWins 7 = .ok (.iconst 1, 1) := by decide +kernel
theorem dX7_layWins_8 : decode cX7_layWins 8 = .ok (.isub, 1) := by decide +kernel
theorem dX7_layWins_9 : decode cX7_layWins 9 = .ok (.istore_n 1, 1) := by decide +kernel
theorem dX7_layWins_10 : decode cX7_layWins 10 = .ok (.iload_n 1, 1) := by decide +kernel
theorem dX7_layWins_11 : decode cX7_layWins 11 = .ok (.ifCond .lt 213, 3) := by decide +kernel
theorem dX7_layWins_14 : decode cX7_layWins 14 = .ok (.iconst 0, 1) := by decide +kernel
theorem dX7_layWins_15 : decode cX7_layWins 15 = .ok (.istore_n 2, 1) := by decide +kernel
theorem dX7_layWins_16 : decode cX7_layWins 16 = .ok (.iconst 0, 1) := by decide +kernel
theorem dX7_layWins_17 : decode cX7_layWins 17 = .ok (.istore_n 3, 1) := by decide +kernel
theorem dX7_layWins_18 : decode cX7_layWins 18 = .ok (.iconst 0, 1) := by decide +kernel
theorem dX7_layWins_19 : decode cX7_layWins 19 = .ok (.istore 4, 2) := by decide +kernel
theorem dX7_layWins_21 : decode cX7_layWins 21 = .ok (.iload 4, 2) := by decide +kernel
theorem dX7_layWins_23 : decode cX7_layWins 23 = .ok (.aload_n 0, 1) := by decide +kernel
theorem dX7_layWins_24 : decode cX7_layWins 24 = .ok (.getfield 158, 3) := by decide +kernel
theorem dX7_layWins_27 : decode cX7_layWins 27 = .ok (.if_icmp .ge 50, 3) := by decide +kernel
theorem dX7_layWins_30 : decode cX7_layWins 30 = .ok (.iload_n 1, 1) := by decide +kernel
theorem dX7_layWins_31 : decode cX7_layWins 31 = .ok (.iload 4, 2) := by decide +kernel
theorem dX7_layWins_33 : decode cX7_layWins 33 = .ok (.invokestatic 265, 3) := by decide +kernel
theorem dX7_layWins_36 : decode cX7_layWins 36 = .ok (.idiv, 1) := by decide +kernel
theorem dX7_layWins_37 : decode cX7_layWins 37 = .ok (.iconst 3, 1) := by decide +kernel
theorem dX7_layWins_38 : decode cX7_layWins 38 = .ok (.irem, 1) := by decide +kernel
theorem dX7_layWins_39 : decode cX7_layWins 39 = .ok (.istore 5, 2) := by decide +kernel
theorem dX7_layWins_41 : decode cX7_layWins 41 = .ok (.iload_n 2, 1) := by decide +kernel
theorem dX7_layWins_42 : decode cX7_layWins 42 = .ok (.iload 5, 2) := by decide +kernel
theorem dX7_layWins_44 : decode cX7_layWins 44 = .ok (.iconst 1, 1) := by decide +kernel
theorem dX7_layWins_45 : decode cX7_layWins 45 = .ok (.if_icmp .ne 10, 3) := by decide +kernel
theorem dX7_layWins_48 : decode cX7_layWins 48 = .ok (.iconst 1, 1) := by decide +kernel
theorem dX7_layWins_49 : decode cX7_layWins 49 = .ok (.iload 4, 2) := by decide +kernel
theorem dX7_layWins_51 : decode cX7_layWins 51 = .ok (.ishl, 1) := by decide +kernel
theorem dX7_layWins_52 : decode cX7_layWins 52 = .ok (.goto 4, 3) := by decide +kernel
theorem dX7_layWins_55 : decode cX7_layWins 55 = .ok (.iconst 0, 1) := by decide +kernel
theorem dX7_layWins_56 : decode cX7_layWins 56 = .ok (.ior, 1) := by decide +kernel
theorem dX7_layWins_57 : decode cX7_layWins 57 = .ok (.istore_n 2, 1) := by decide +kernel
theorem dX7_layWins_58 : decode cX7_layWins 58 = .ok (.iload_n 3, 1) := by decide +kernel
theorem dX7_layWins_59 : decode cX7_layWins 59 = .ok (.iload 5, 2) := by decide +kernel
theorem dX7_layWins_61 : decode cX7_layWins 61 = .ok (.ifCond .ne 7, 3) := by decide +kernel
theorem dX7_layWins_64 : decode cX7_layWins 64 = .ok (.iconst 0, 1) := by decide +kernel
theorem dX7_layWins_65 : decode cX7_layWins 65 = .ok (.goto 4, 3) := by decide +kernel
theorem dX7_layWins_68 : decode cX7_layWins 68 = .ok (.iconst 1, 1) := by decide +kernel
theorem dX7_layWins_69 : decode cX7_layWins 69 = .ok (.iadd, 1) := by decide +kernel
theorem dX7_layWins_70 : decode cX7_layWins 70 = .ok (.istore_n 3, 1) := by decide +kernel
theorem dX7_layWins_71 : decode cX7_layWins 71 = .ok (.iinc 4 1, 3) := by decide +kernel
theorem dX7_layWins_74 : decode cX7_layWins 74 = .ok (.goto (-53), 3) := by decide +kernel
theorem dX7_layWins_77 : decode cX7_layWins 77 = .ok (.iload_n 3, 1) := by decide +kernel
theorem dX7_layWins_78 : decode cX7_layWins 78 = .ok (.iconst 2, 1) := by decide +kernel
theorem dX7_layWins_79 : decode cX7_layWins 79 = .ok (.irem, 1) := by decide +kernel
theorem dX7_layWins_80 : decode cX7_layWins 80 = .ok (.ifCond .ne 7, 3) := by decide +kernel
theorem dX7_layWins_83 : decode cX7_layWins 83 = .ok (.iconst 1, 1) := by decide +kernel
theorem dX7_layWins_84 : decode cX7_layWins 84 = .ok (.goto 4, 3) := by decide +kernel
theorem dX7_layWins_87 : decode cX7_layWins 87 = .ok (.iconst 0, 1) := by decide +kernel
theorem dX7_layWins_88 : decode cX7_layWins 88 = .ok (.istore 4, 2) := by decide +kernel
theorem dX7_layWins_90 : decode cX7_layWins 90 = .ok (.iload_n 3, 1) := by decide +kernel
theorem dX7_layWins_91 : decode cX7_layWins 91 = .ok (.aload_n 0, 1) := by decide +kernel
theorem dX7_layWins_92 : decode cX7_layWins 92 = .ok (.getfield 158, 3) := by decide +kernel
theorem dX7_layWins_95 : decode cX7_layWins 95 = .ok (.if_icmp .ne 11, 3) := by decide +kernel
theorem dX7_layWins_98 : decode cX7_layWins 98 = .ok (.aload_n 0, 1) := by decide +kernel
theorem dX7_layWins_99 : decode cX7_layWins 99 = .ok (.iload_n 2, 1) := by decide +kernel
theorem dX7_layWins_100 : decode cX7_layWins 100 = .ok (.invokevirtual 187, 3) := by decide +kernel
theorem dX7_layWins_103 : decode cX7_layWins 103 = .ok (.goto 13, 3) := by decide +kernel
theorem dX7_layWins_106 : decode cX7_layWins 106 = .ok (.iload 4, 2) := by decide +kernel
theorem dX7_layWins_108 : decode cX7_layWins 108 = .ok (.ifCond .ne 7, 3) := by decide +kernel
theorem dX7_layWins_111 : decode cX7_layWins 111 = .ok (.iconst 1, 1) := by decide +kernel
theorem dX7_layWins_112 : decode cX7_layWins 112 = .ok (.goto 4, 3) := by decide +kernel
theorem dX7_layWins_115 : decode cX7_layWins 115 = .ok (.iconst 0, 1) := by decide +kernel
theorem dX7_layWins_116 : decode cX7_layWins 116 = .ok (.istore 5, 2) := by decide +kernel
theorem dX7_layWins_118 : decode cX7_layWins 118 = .ok (.iconst 0, 1) := by decide +kernel
theorem dX7_layWins_119 : decode cX7_layWins 119 = .ok (.istore 6, 2) := by decide +kernel
theorem dX7_layWins_121 : decode cX7_layWins 121 = .ok (.iload 6, 2) := by decide +kernel
theorem dX7_layWins_123 : decode cX7_layWins 123 = .ok (.aload_n 0, 1) := by decide +kernel
theorem dX7_layWins_124 : decode cX7_layWins 124 = .ok (.getfield 158, 3) := by decide +kernel
theorem dX7_layWins_127 : decode cX7_layWins 127 = .ok (.if_icmp .ge 83, 3) := by decide +kernel
theorem dX7_layWins_130 : decode cX7_layWins 130 = .ok (.iload_n 1, 1) := by decide +kernel
theorem dX7_layWins_131 : decode cX7_layWins 131 = .ok (.iload 6, 2) := by decide +kernel
theorem dX7_layWins_133 : decode cX7_layWins 133 = .ok (.invokestatic 265, 3) := by decide +kernel
theorem dX7_layWins_136 : decode cX7_layWins 136 = .ok (.idiv, 1) := by decide +kernel
theorem dX7_layWins_137 : decode cX7_layWins 137 = .ok (.iconst 3, 1) := by decide +kernel
theorem dX7_layWins_138 : decode cX7_layWins 138 = .ok (.irem, 1) := by decide +kernel
theorem dX7_layWins_139 : decode cX7_layWins 139 = .ok (.ifCond .ne 65, 3) := by decide +kernel
theorem dX7_layWins_142 : decode cX7_layWins 142 = .ok (.iload 4, 2) := by decide +kernel
theorem dX7_layWins_144 : decode cX7_layWins 144 = .ok (.ifCond .eq 31, 3) := by decide +kernel
theorem dX7_layWins_147 : decode cX7_layWins 147 = .ok (.iload 5, 2) := by decide +kernel
theorem dX7_layWins_149 : decode cX7_layWins 149 = .ok (.ifCond .ne 18, 3) := by decide +kernel
theorem dX7_layWins_152 : decode cX7_layWins 152 = .ok (.aload_n 0, 1) := by decide +kernel
theorem dX7_layWins_153 : decode cX7_layWins 153 = .ok (.getfield 53, 3) := by decide +kernel
theorem dX7_layWins_156 : decode cX7_layWins 156 = .ok (.iload_n 1, 1) := by decide +kernel
theorem dX7_layWins_157 : decode cX7_layWins 157 = .ok (.iload 6, 2) := by decide +kernel
theorem dX7_layWins_159 : decode cX7_layWins 159 = .ok (.invokestatic 265, 3) := by decide +kernel
theorem dX7_layWins_162 : decode cX7_layWins 162 = .ok (.iadd, 1) := by decide +kernel
theorem dX7_layWins_163 : decode cX7_layWins 163 = .ok (.baload, 1) := by decide +kernel
theorem dX7_layWins_164 : decode cX7_layWins 164 = .ok (.ifCond .eq 7, 3) := by decide +kernel
theorem dX7_layWins_167 : decode cX7_layWins 167 = .ok (.iconst 1, 1) := by decide +kernel
theorem dX7_layWins_168 : decode cX7_layWins 168 = .ok (.goto 34, 3) := by decide +kernel
theorem dX7_layWins_171 : decode cX7_layWins 171 = .ok (.iconst 0, 1) := by decide +kernel
theorem dX7_layWins_172 : decode cX7_layWins 172 = .ok (.goto 30, 3) := by decide +kernel
theorem dX7_layWins_175 : decode cX7_layWins 175 = .ok (.iload 5, 2) := by decide +kernel
theorem dX7_layWins_177 : decode cX7_layWins 177 = .ok (.ifCond .eq 24, 3) := by decide +kernel
theorem dX7_layWins_180 : decode cX7_layWins 180 = .ok (.aload_n 0, 1) := by decide +kernel
theorem dX7_layWins_181 : decode cX7_layWins 181 = .ok (.getfield 53, 3) := by decide +kernel
theorem dX7_layWins_184 : decode cX7_layWins 184 = .ok (.iload_n 1, 1) := by decide +kernel
theorem dX7_layWins_185 : decode cX7_layWins 185 = .ok (.iconst 2, 1) := by decide +kernel
theorem dX7_layWins_186 : decode cX7_layWins 186 = .ok (.iload 6, 2) := by decide +kernel
theorem dX7_layWins_188 : decode cX7_layWins 188 = .ok (.invokestatic 265, 3) := by decide +kernel
theorem dX7_layWins_191 : decode cX7_layWins 191 = .ok (.imul, 1) := by decide +kernel
theorem dX7_layWins_192 : decode cX7_layWins 192 = .ok (.iadd, 1) := by decide +kernel
theorem dX7_layWins_193 : decode cX7_layWins 193 = .ok (.baload, 1) := by decide +kernel
theorem dX7_layWins_194 : decode cX7_layWins 194 = .ok (.ifCond .eq 7, 3) := by decide +kernel
theorem dX7_layWins_197 : decode cX7_layWins 197 = .ok (.iconst 1, 1) := by decide +kernel
theorem dX7_layWins_198 : decode cX7_layWins 198 = .ok (.goto 4, 3) := by decide +kernel
theorem dX7_layWins_201 : decode cX7_layWins 201 = .ok (.iconst 0, 1) := by decide +kernel
theorem dX7_layWins_202 : decode cX7_layWins 202 = .ok (.istore 5, 2) := by decide +kernel
theorem dX7_layWins_204 : decode cX7_layWins 204 = .ok (.iinc 6 1, 3) := by decide +kernel
theorem dX7_layWins_207 : decode cX7_layWins 207 = .ok (.goto (-86), 3) := by decide +kernel
theorem dX7_layWins_210 : decode cX7_layWins 210 = .ok (.aload_n 0, 1) := by decide +kernel
theorem dX7_layWins_211 : decode cX7_layWins 211 = .ok (.getfield 53, 3) := by decide +kernel
theorem dX7_layWins_214 : decode cX7_layWins 214 = .ok (.iload_n 1, 1) := by decide +kernel
theorem dX7_layWins_215 : decode cX7_layWins 215 = .ok (.iload 5, 2) := by decide +kernel
theorem dX7_layWins_217 : decode cX7_layWins 217 = .ok (.bastore, 1) := by decide +kernel
theorem dX7_layWins_218 : decode cX7_layWins 218 = .ok (.iinc 1 (-1), 3) := by decide +kernel
theorem dX7_layWins_221 : decode cX7_layWins 221 = .ok (.goto (-211), 3) := by decide +kernel
theorem dX7_layWins_224 : decode cX7_layWins 224 = .ok (.return_, 1) := by decide +kernel
theorem dX7_call_0 : decode cX7_call 0 = .ok (.aload_n 0, 1) := by decide +kernel
theorem dX7_call_1 : decode cX7_call 1 = .ok (.getfield 158, 3) := by decide +kernel
theorem dX7_call_4 : decode cX7_call 4 = .ok (.ifCond .ne 6, 3) := by decide +kernel
theorem dX7_call_7 : decode cX7_call 7 = .ok (.bipush (-4), 2) := by decide +kernel
theorem dX7_call_9 : decode cX7_call 9 = .ok (.ireturn, 1) := by decide +kernel
theorem dX7_call_10 : decode cX7_call 10 = .ok (.aload_n 0, 1) := by decide +kernel
theorem dX7_call_11 : decode cX7_call 11 = .ok (.invokevirtual 268, 3) := by decide +kernel
theorem dX7_call_14 : decode cX7_call 14 = .ok (.aload_n 0, 1) := by decide +kernel
theorem dX7_call_15 : decode cX7_call 15 = .ok (.getfield 53, 3) := by decide +kernel
theorem dX7_call_18 : decode cX7_call 18 = .ok (.iconst 0, 1) := by decide +kernel
theorem dX7_call_19 : decode cX7_call 19 = .ok (.baload, 1) := by decide +kernel
theorem dX7_call_20 : decode cX7_call 20 = .ok (.ifCond .eq 7, 3) := by decide +kernel
theorem dX7_call_23 : decode cX7_call 23 = .ok (.iconst 1, 1) := by decide +kernel
theorem dX7_call_24 : decode cX7_call 24 = .ok (.goto 4, 3) := by decide +kernel
theorem dX7_call_27 : decode cX7_call 27 = .ok (.iconst 0, 1) := by decide +kernel
theorem dX7_call_28 : decode cX7_call 28 = .ok (.ireturn, 1) := by decide +kernel
theorem dX7_first_0 : decode cX7_first 0 = .ok (.aload_n 0, 1) := by decide +kernel
theorem dX7_first_1 : decode cX7_first 1 = .ok (.getfield 158, 3) := by decide +kernel
theorem dX7_first_4 : decode cX7_first 4 = .ok (.ifCond .ne 6, 3) := by decide +kernel
theorem dX7_first_7 : decode cX7_first 7 = .ok (.bipush (-4), 2) := by decide +kernel
theorem dX7_first_9 : decode cX7_first 9 = .ok (.ireturn, 1) := by decide +kernel
theorem dX7_first_10 : decode cX7_first 10 = .ok (.aload_n 0, 1) := by decide +kernel
theorem dX7_first_11 : decode cX7_first 11 = .ok (.invokevirtual 268, 3) := by decide +kernel
theorem dX7_first_14 : decode cX7_first 14 = .ok (.iconst 0, 1) := by decide +kernel
theorem dX7_first_15 : decode cX7_first 15 = .ok (.istore_n 1, 1) := by decide +kernel
theorem dX7_first_16 : decode cX7_first 16 = .ok (.iload_n 1, 1) := by decide +kernel
theorem dX7_first_17 : decode cX7_first 17 = .ok (.aload_n 0, 1) := by decide +kernel
theorem dX7_first_18 : decode cX7_first 18 = .ok (.getfield 158, 3) := by decide +kernel
theorem dX7_first_21 : decode cX7_first 21 = .ok (.if_icmp .ge 23, 3) := by decide +kernel
theorem dX7_first_24 : decode cX7_first 24 = .ok (.aload_n 0, 1) := by decide +kernel
theorem dX7_first_25 : decode cX7_first 25 = .ok (.getfield 53, 3) := by decide +kernel
theorem dX7_first_28 : decode cX7_first 28 = .ok (.iload_n 1, 1) := by decide +kernel
theorem dX7_first_29 : decode cX7_first 29 = .ok (.invokestatic 265, 3) := by decide +kernel
theorem dX7_first_32 : decode cX7_first 32 = .ok (.baload, 1) := by decide +kernel
theorem dX7_first_33 : decode cX7_first 33 = .ok (.ifCond .eq 5, 3) := by decide +kernel
theorem dX7_first_36 : decode cX7_first 36 = .ok (.iload_n 1, 1) := by decide +kernel
theorem dX7_first_37 : decode cX7_first 37 = .ok (.ireturn, 1) := by decide +kernel
theorem dX7_first_38 : decode cX7_first 38 = .ok (.iinc 1 1, 3) := by decide +kernel
theorem dX7_first_41 : decode cX7_first 41 = .ok (.goto (-25), 3) := by decide +kernel
theorem dX7_first_44 : decode cX7_first 44 = .ok (.bipush (-9), 2) := by decide +kernel
theorem dX7_first_46 : decode cX7_first 46 = .ok (.ireturn, 1) := by decide +kernel
theorem dX7_tellChance_0 : decode cX7_tellChance 0 = .ok (.lconst 0, 1) := by decide +kernel
theorem dX7_tellChance_1 : decode cX7_tellChance 1 = .ok (.lstore_n 3, 1) := by decide +kernel
theorem dX7_tellChance_2 : decode cX7_tellChance 2 = .ok (.lconst 0, 1) := by decide +kernel
theorem dX7_tellChance_3 : decode cX7_tellChance 3 = .ok (.lstore 5, 2) := by decide +kernel
theorem dX7_tellChance_5 : decode cX7_tellChance 5 = .ok (.iconst 0, 1) := by decide +kernel
theorem dX7_tellChance_6 : decode cX7_tellChance 6 = .ok (.istore 7, 2) := by decide +kernel
theorem dX7_tellChance_8 : decode cX7_tellChance 8 = .ok (.iload 7, 2) := by decide +kernel
theorem dX7_tellChance_10 : decode cX7_tellChance 10 = .ok (.aload_n 0, 1) := by decide +kernel
theorem dX7_tellChance_11 : decode cX7_tellChance 11 = .ok (.invokevirtual 164, 3) := by decide +kernel
theorem dX7_tellChance_14 : decode cX7_tellChance 14 = .ok (.if_icmp .gt 97, 3) := by decide +kernel
theorem dX7_tellChance_17 : decode cX7_tellChance 17 = .ok (.lconst 1, 1) := by decide +kernel
theorem dX7_tellChance_18 : decode cX7_tellChance 18 = .ok (.lstore 8, 2) := by decide +kernel
theorem dX7_tellChance_20 : decode cX7_tellChance 20 = .ok (.iconst 0, 1) := by decide +kernel
theorem dX7_tellChance_21 : decode cX7_tellChance 21 = .ok (.istore 10, 2) := by decide +kernel
theorem dX7_tellChance_23 : decode cX7_tellChance 23 = .ok (.iload 10, 2) := by decide +kernel
theorem dX7_tellChance_25 : decode cX7_tellChance 25 = .ok (.aload_n 0, 1) := by decide +kernel
theorem dX7_tellChance_26 : decode cX7_tellChance 26 = .ok (.getfield 158, 3) := by decide +kernel
theorem dX7_tellChance_29 : decode cX7_tellChance 29 = .ok (.if_icmp .ge 34, 3) := by decide +kernel
theorem dX7_tellChance_32 : decode cX7_tellChance 32 = .ok (.lload 8, 2) := by decide +kernel
theorem dX7_tellChance_34 : decode cX7_tellChance 34 = .ok (.iload 7, 2) := by decide +kernel
theorem dX7_tellChance_36 : decode cX7_tellChance 36 = .ok (.iload 10, 2) := by decide +kernel
theorem dX7_tellChance_38 : decode cX7_tellChance 38 = .ok (.invokestatic 135, 3) := by decide +kernel
theorem dX7_tellChance_41 : decode cX7_tellChance 41 = .ok (.ifCond .eq 8, 3) := by decide +kernel
theorem dX7_tellChance_44 : decode cX7_tellChance 44 = .ok (.iload_n 1, 1) := by decide +kernel
theorem dX7_tellChance_45 : decode cX7_tellChance 45 = .ok (.i2l, 1) := by decide +kernel
theorem dX7_tellChance_46 : decode cX7_tellChance 46 = .ok (.goto 8, 3) := by decide +kernel
theorem dX7_tellChance_49 : decode cX7_tellChance 49 = .ok (.bipush 12, 2) := by decide +kernel
theorem dX7_tellChance_51 : decode cX7_tellChance 51 = .ok (.iload_n 1, 1) := by decide +kernel
theorem dX7_tellChance_52 : decode cX7_tellChance 52 = .ok (.isub, 1) := by decide +kernel
theorem dX7_tellChance_53 : decode cX7_tellChance 53 = .ok (.i2l, 1) := by decide +kernel
theorem dX7_tellChance_54 : decode cX7_tellChance 54 = .ok (.lmul, 1) := by decide +kernel
theorem dX7_tellChance_55 : decode cX7_tellChance 55 = .ok (.lstore 8, 2) := by decide +kernel
theorem dX7_tellChance_57 : decode cX7_tellChance 57 = .ok (.iinc 10 1, 3) := by decide +kernel
theorem dX7_tellChance_60 : decode cX7_tellChance 60 = .ok (.goto (-37), 3) := by decide +kernel
theorem dX7_tellChance_63 : decode cX7_tellChance 63 = .ok (.lload_n 3, 1) := by decide +kernel
theorem dX7_tellChance_64 : decode cX7_tellChance 64 = .ok (.aload_n 0, 1) := by decide +kernel
theorem dX7_tellChance_65 : decode cX7_tellChance 65 = .ok (.iload 7, 2) := by decide +kernel
theorem dX7_tellChance_67 : decode cX7_tellChance 67 = .ok (.invokevirtual 187, 3) := by decide +kernel
theorem dX7_tellChance_70 : decode cX7_tellChance 70 = .ok (.ifCond .ne 7, 3) := by decide +kernel
theorem dX7_tellChance_73 : decode cX7_tellChance 73 = .ok (.lconst 0, 1) := by decide +kernel
theorem dX7_tellChance_74 : decode cX7_tellChance 74 = .ok (.goto 22, 3) := by decide +kernel
theorem dX7_tellChance_77 : decode cX7_tellChance 77 = .ok (.iload_n 2, 1) := by decide +kernel
theorem dX7_tellChance_78 : decode cX7_tellChance 78 = .ok (.ifCond .eq 16, 3) := by decide +kernel
theorem dX7_tellChance_81 : decode cX7_tellChance 81 = .ok (.lload 8, 2) := by decide +kernel
theorem dX7_tellChance_83 : decode cX7_tellChance 83 = .ok (.aload_n 0, 1) := by decide +kernel
theorem dX7_tellChance_84 : decode cX7_tellChance 84 = .ok (.iload 7, 2) := by decide +kernel
theorem dX7_tellChance_86 : decode cX7_tellChance 86 = .ok (.invokevirtual 259, 3) := by decide +kernel
theorem dX7_tellChance_89 : decode cX7_tellChance 89 = .ok (.i2l, 1) := by decide +kernel
theorem dX7_tellChance_90 : decode cX7_tellChance 90 = .ok (.lmul, 1) := by decide +kernel
theorem dX7_tellChance_91 : decode cX7_tellChance 91 = .ok (.goto 5, 3) := by decide +kernel
theorem dX7_tellChance_94 : decode cX7_tellChance 94 = .ok (.lload 8, 2) := by decide +kernel
theorem dX7_tellChance_96 : decode cX7_tellChance 96 = .ok (.ladd, 1) := by decide +kernel
theorem dX7_tellChance_97 : decode cX7_tellChance 97 = .ok (.lstore_n 3, 1) := by decide +kernel
theorem dX7_tellChance_98 : decode cX7_tellChance 98 = .ok (.lload 5, 2) := by decide +kernel
theorem dX7_tellChance_100 : decode cX7_tellChance 100 = .ok (.lload 8, 2) := by decide +kernel
theorem dX7_tellChance_102 : decode cX7_tellChance 102 = .ok (.ladd, 1) := by decide +kernel
theorem dX7_tellChance_103 : decode cX7_tellChance 103 = .ok (.lstore 5, 2) := by decide +kernel
theorem dX7_tellChance_105 : decode cX7_tellChance 105 = .ok (.iinc 7 1, 3) := by decide +kernel
theorem dX7_tellChance_108 : decode cX7_tellChance 108 = .ok (.goto (-100), 3) := by decide +kernel
theorem dX7_tellChance_111 : decode cX7_tellChance 111 = .ok (.aload_n 0, 1) := by decide +kernel
theorem dX7_tellChance_112 : decode cX7_tellChance 112 = .ok (.lload_n 3, 1) := by decide +kernel
theorem dX7_tellChance_113 : decode cX7_tellChance 113 = .ok (.lload 5, 2) := by decide +kernel
theorem dX7_tellChance_115 : decode cX7_tellChance 115 = .ok (.invokevirtual 235, 3) := by decide +kernel
theorem dX7_tellChance_118 : decode cX7_tellChance 118 = .ok (.ireturn, 1) := by decide +kernel
theorem dX7_odds_0 : decode cX7_odds 0 = .ok (.iload_n 1, 1) := by decide +kernel
theorem dX7_odds_1 : decode cX7_odds 1 = .ok (.i2l, 1) := by decide +kernel
theorem dX7_odds_2 : decode cX7_odds 2 = .ok (.lconst 0, 1) := by decide +kernel
theorem dX7_odds_3 : decode cX7_odds 3 = .ok (.ldc2_w 271, 3) := by decide +kernel
theorem dX7_odds_6 : decode cX7_odds 6 = .ok (.invokestatic 66, 3) := by decide +kernel
theorem dX7_odds_9 : decode cX7_odds 9 = .ok (.ifCond .ne 5, 3) := by decide +kernel
theorem dX7_odds_12 : decode cX7_odds 12 = .ok (.iconst (-1), 1) := by decide +kernel
theorem dX7_odds_13 : decode cX7_odds 13 = .ok (.ireturn, 1) := by decide +kernel
theorem dX7_odds_14 : decode cX7_odds 14 = .ok (.aload_n 0, 1) := by decide +kernel
theorem dX7_odds_15 : decode cX7_odds 15 = .ok (.getfield 158, 3) := by decide +kernel
theorem dX7_odds_18 : decode cX7_odds 18 = .ok (.ifCond .ne 8, 3) := by decide +kernel
theorem dX7_odds_21 : decode cX7_odds 21 = .ok (.bipush (-4), 2) := by decide +kernel
theorem dX7_odds_23 : decode cX7_odds 23 = .ok (.goto 9, 3) := by decide +kernel
theorem dX7_odds_26 : decode cX7_odds 26 = .ok (.aload_n 0, 1) := by decide +kernel
theorem dX7_odds_27 : decode cX7_odds 27 = .ok (.iload_n 1, 1) := by decide +kernel
theorem dX7_odds_28 : decode cX7_odds 28 = .ok (.iconst 0, 1) := by decide +kernel
theorem dX7_odds_29 : decode cX7_odds 29 = .ok (.invokevirtual 273, 3) := by decide +kernel
theorem dX7_odds_32 : decode cX7_odds 32 = .ok (.ireturn, 1) := by decide +kernel
theorem dX7_mid_0 : decode cX7_mid 0 = .ok (.iload_n 1, 1) := by decide +kernel
theorem dX7_mid_1 : decode cX7_mid 1 = .ok (.i2l, 1) := by decide +kernel
theorem dX7_mid_2 : decode cX7_mid 2 = .ok (.lconst 0, 1) := by decide +kernel
theorem dX7_mid_3 : decode cX7_mid 3 = .ok (.ldc2_w 271, 3) := by decide +kernel
theorem dX7_mid_6 : decode cX7_mid 6 = .ok (.invokestatic 66, 3) := by decide +kernel
theorem dX7_mid_9 : decode cX7_mid 9 = .ok (.ifCond .ne 5, 3) := by decide +kernel
theorem dX7_mid_12 : decode cX7_mid 12 = .ok (.iconst (-1), 1) := by decide +kernel
theorem dX7_mid_13 : decode cX7_mid 13 = .ok (.ireturn, 1) := by decide +kernel
theorem dX7_mid_14 : decode cX7_mid 14 = .ok (.aload_n 0, 1) := by decide +kernel
theorem dX7_mid_15 : decode cX7_mid 15 = .ok (.getfield 158, 3) := by decide +kernel
theorem dX7_mid_18 : decode cX7_mid 18 = .ok (.ifCond .ne 8, 3) := by decide +kernel
theorem dX7_mid_21 : decode cX7_mid 21 = .ok (.bipush (-4), 2) := by decide +kernel
theorem dX7_mid_23 : decode cX7_mid 23 = .ok (.goto 9, 3) := by decide +kernel
theorem dX7_mid_26 : decode cX7_mid 26 = .ok (.aload_n 0, 1) := by decide +kernel
theorem dX7_mid_27 : decode cX7_mid 27 = .ok (.iload_n 1, 1) := by decide +kernel
theorem dX7_mid_28 : decode cX7_mid 28 = .ok (.iconst 1, 1) := by decide +kernel
theorem dX7_mid_29 : decode cX7_mid 29 = .ok (.invokevirtual 273, 3) := by decide +kernel
theorem dX7_mid_32 : decode cX7_mid 32 = .ok (.ireturn, 1) := by decide +kernel
theorem dX7_doLot_0 : decode cX7_doLot 0 = .ok (.iconst 0, 1) := by decide +kernel
theorem dX7_doLot_1 : decode cX7_doLot 1 = .ok (.istore_n 2, 1) := by decide +kernel
theorem dX7_doLot_2 : decode cX7_doLot 2 = .ok (.aload_n 0, 1) := by decide +kernel
theorem dX7_doLot_3 : decode cX7_doLot 3 = .ok (.iload_n 1, 1) := by decide +kernel
theorem dX7_doLot_4 : decode cX7_doLot 4 = .ok (.invokevirtual 187, 3) := by decide +kernel
theorem dX7_doLot_7 : decode cX7_doLot 7 = .ok (.ifCond .eq 43, 3) := by decide +kernel
theorem dX7_doLot_10 : decode cX7_doLot 10 = .ok (.aload_n 0, 1) := by decide +kernel
theorem dX7_doLot_11 : decode cX7_doLot 11 = .ok (.invokevirtual 205, 3) := by decide +kernel
theorem dX7_doLot_14 : decode cX7_doLot 14 = .ok (.iconst 0, 1) := by decide +kernel
theorem dX7_doLot_15 : decode cX7_doLot 15 = .ok (.istore_n 3, 1) := by decide +kernel
theorem dX7_doLot_16 : decode cX7_doLot 16 = .ok (.iload_n 3, 1) := by decide +kernel
theorem dX7_doLot_17 : decode cX7_doLot 17 = .ok (.aload_n 0, 1) := by decide +kernel
theorem dX7_doLot_18 : decode cX7_doLot 18 = .ok (.getfield 158, 3) := by decide +kernel
theorem dX7_doLot_21 : decode cX7_doLot 21 = .ok (.if_icmp .ge 29, 3) := by decide +kernel
theorem dX7_doLot_24 : decode cX7_doLot 24 = .ok (.iload_n 2, 1) := by decide +kernel
theorem dX7_doLot_25 : decode cX7_doLot 25 = .ok (.iload_n 1, 1) := by decide +kernel
theorem dX7_doLot_26 : decode cX7_doLot 26 = .ok (.iload_n 3, 1) := by decide +kernel
theorem dX7_doLot_27 : decode cX7_doLot 27 = .ok (.invokestatic 135, 3) := by decide +kernel
theorem dX7_doLot_30 : decode cX7_doLot 30 = .ok (.ifCond .eq 11, 3) := by decide +kernel
theorem dX7_doLot_33 : decode cX7_doLot 33 = .ok (.aload_n 0, 1) := by decide +kernel
theorem dX7_doLot_34 : decode cX7_doLot 34 = .ok (.iload_n 3, 1) := by decide +kernel
theorem dX7_doLot_35 : decode cX7_doLot 35 = .ok (.invokevirtual 208, 3) := by decide +kernel
theorem dX7_doLot_38 : decode cX7_doLot 38 = .ok (.goto 4, 3) := by decide +kernel
theorem dX7_doLot_41 : decode cX7_doLot 41 = .ok (.iconst 0, 1) := by decide +kernel
theorem dX7_doLot_42 : decode cX7_doLot 42 = .ok (.iadd, 1) := by decide +kernel
theorem dX7_doLot_43 : decode cX7_doLot 43 = .ok (.istore_n 2, 1) := by decide +kernel
theorem dX7_doLot_44 : decode cX7_doLot 44 = .ok (.iinc 3 1, 3) := by decide +kernel
theorem dX7_doLot_47 : decode cX7_doLot 47 = .ok (.goto (-31), 3) := by decide +kernel
theorem dX7_doLot_50 : decode cX7_doLot 50 = .ok (.aload_n 0, 1) := by decide +kernel
theorem dX7_doLot_51 : decode cX7_doLot 51 = .ok (.invokevirtual 211, 3) := by decide +kernel
theorem dX7_doLot_54 : decode cX7_doLot 54 = .ok (.pop, 1) := by decide +kernel
theorem dX7_doLot_55 : decode cX7_doLot 55 = .ok (.iload_n 2, 1) := by decide +kernel
theorem dX7_doLot_56 : decode cX7_doLot 56 = .ok (.ireturn, 1) := by decide +kernel
theorem dX7_lots_0 : decode cX7_lots 0 = .ok (.iload_n 1, 1) := by decide +kernel
theorem dX7_lots_1 : decode cX7_lots 1 = .ok (.i2l, 1) := by decide +kernel
theorem dX7_lots_2 : decode cX7_lots 2 = .ok (.lconst 1, 1) := by decide +kernel
theorem dX7_lots_3 : decode cX7_lots 3 = .ok (.ldc2_w 277, 3) := by decide +kernel
theorem dX7_lots_6 : decode cX7_lots 6 = .ok (.invokestatic 66, 3) := by decide +kernel
theorem dX7_lots_9 : decode cX7_lots 9 = .ok (.ifCond .eq 15, 3) := by decide +kernel
theorem dX7_lots_12 : decode cX7_lots 12 = .ok (.iload_n 2, 1) := by decide +kernel
theorem dX7_lots_13 : decode cX7_lots 13 = .ok (.i2l, 1) := by decide +kernel
theorem dX7_lots_14 : decode cX7_lots 14 = .ok (.lconst 1, 1) := by decide +kernel
theorem dX7_lots_15 : decode cX7_lots 15 = .ok (.ldc2_w 279, 3) := by decide +kernel
theorem dX7_lots_18 : decode cX7_lots 18 = .ok (.invokestatic 66, 3) := by decide +kernel
theorem dX7_lots_21 : decode cX7_lots 21 = .ok (.ifCond .ne 5, 3) := by decide +kernel
theorem dX7_lots_24 : decode cX7_lots 24 = .ok (.iconst (-1), 1) := by decide +kernel
theorem dX7_lots_25 : decode cX7_lots 25 = .ok (.ireturn, 1) := by decide +kernel
theorem dX7_lots_26 : decode cX7_lots 26 = .ok (.aload_n 0, 1) := by decide +kernel
theorem dX7_lots_27 : decode cX7_lots 27 = .ok (.getfield 158, 3) := by decide +kernel
theorem dX7_lots_30 : decode cX7_lots 30 = .ok (.ifCond .ne 6, 3) := by decide +kernel
theorem dX7_lots_33 : decode cX7_lots 33 = .ok (.bipush (-4), 2) := by decide +kernel
theorem dX7_lots_35 : decode cX7_lots 35 = .ok (.ireturn, 1) := by decide +kernel
theorem dX7_lots_36 : decode cX7_lots 36 = .ok (.aload_n 0, 1) := by decide +kernel
theorem dX7_lots_37 : decode cX7_lots 37 = .ok (.getfield 7, 3) := by decide +kernel
theorem dX7_lots_40 : decode cX7_lots 40 = .ok (.iconst 0, 1) := by decide +kernel
theorem dX7_lots_41 : decode cX7_lots 41 = .ok (.iaload, 1) := by decide +kernel
theorem dX7_lots_42 : decode cX7_lots 42 = .ok (.iconst 2, 1) := by decide +kernel
theorem dX7_lots_43 : decode cX7_lots 43 = .ok (.iload_n 1, 1) := by decide +kernel
theorem dX7_lots_44 : decode cX7_lots 44 = .ok (.imul, 1) := by decide +kernel
theorem dX7_lots_45 : decode cX7_lots 45 = .ok (.iadd, 1) := by decide +kernel
theorem dX7_lots_46 : decode cX7_lots 46 = .ok (.bipush 40, 2) := by decide +kernel
theorem dX7_lots_48 : decode cX7_lots 48 = .ok (.if_icmp .le 6, 3) := by decide +kernel
theorem dX7_lots_51 : decode cX7_lots 51 = .ok (.bipush (-2), 2) := by decide +kernel
theorem dX7_lots_53 : decode cX7_lots 53 = .ok (.ireturn, 1) := by decide +kernel
theorem dX7_lots_54 : decode cX7_lots 54 = .ok (.iload_n 2, 1) := by decide +kernel
theorem dX7_lots_55 : decode cX7_lots 55 = .ok (.i2l, 1) := by decide +kernel
theorem dX7_lots_56 : decode cX7_lots 56 = .ok (.lstore_n 3, 1) := by decide +kernel
theorem dX7_lots_57 : decode cX7_lots 57 = .ok (.iconst 0, 1) := by decide +kernel
theorem dX7_lots_58 : decode cX7_lots 58 = .ok (.istore 5, 2) := by decide +kernel
theorem dX7_lots_60 : decode cX7_lots 60 = .ok (.iconst 0, 1) := by decide +kernel
theorem dX7_lots_61 : decode cX7_lots 61 = .ok (.istore 6, 2) := by decide +kernel
theorem dX7_lots_63 : decode cX7_lots 63 = .ok (.iload 6, 2) := by decide +kernel
theorem dX7_lots_65 : decode cX7_lots 65 = .ok (.iload_n 1, 1) := by decide +kernel
theorem dX7_lots_66 : decode cX7_lots 66 = .ok (.if_icmp .ge 42, 3) := by decide +kernel
theorem dX7_lots_69 : decode cX7_lots 69 = .ok (.lload_n 3, 1) := by decide +kernel
theorem dX7_lots_70 : decode cX7_lots 70 = .ok (.ldc2_w 281, 3) := by decide +kernel
theorem dX7_lots_73 : decode cX7_lots 73 = .ok (.lmul, 1) := by decide +kernel
theorem dX7_lots_74 : decode cX7_lots 74 = .ok (.ldc2_w 283, 3) := by decide +kernel
theorem dX7_lots_77 : decode cX7_lots 77 = .ok (.lrem, 1) := by decide +kernel
theorem dX7_lots_78 : decode cX7_lots 78 = .ok (.lstore_n 3, 1) := by decide +kernel
theorem dX7_lots_79 : decode cX7_lots 79 = .ok (.iload 5, 2) := by decide +kernel
theorem dX7_lots_81 : decode cX7_lots 81 = .ok (.aload_n 0, 1) := by decide +kernel
theorem dX7_lots_82 : decode cX7_lots 82 = .ok (.lload_n 3, 1) := by decide +kernel
theorem dX7_lots_83 : decode cX7_lots 83 = .ok (.ldc2_w 285, 3) := by decide +kernel
theorem dX7_lots_86 : decode cX7_lots 86 = .ok (.ldiv, 1) := by decide +kernel
theorem dX7_lots_87 : decode cX7_lots 87 = .ok (.aload_n 0, 1) := by decide +kernel
theorem dX7_lots_88 : decode cX7_lots 88 = .ok (.invokevirtual 164, 3) := by decide +kernel
theorem dX7_lots_91 : decode cX7_lots 91 = .ok (.iconst 1, 1) := by decide +kernel
theorem dX7_lots_92 : decode cX7_lots 92 = .ok (.iadd, 1) := by decide +kernel
theorem dX7_lots_93 : decode cX7_lots 93 = .ok (.i2l, 1) := by decide +kernel
theorem dX7_lots_94 : decode cX7_lots 94 = .ok (.lrem, 1) := by decide +kernel
theorem dX7_lots_95 : decode cX7_lots 95 = .ok (.l2i, 1) := by decide +kernel
theorem dX7_lots_96 : decode cX7_lots 96 = .ok (.invokevirtual 287, 3) := by decide +kernel
theorem dX7_lots_99 : decode cX7_lots 99 = .ok (.iadd, 1) := by decide +kernel
theorem dX7_lots_100 : decode cX7_lots 100 = .ok (.istore 5, 2) := by decide +kernel
theorem dX7_lots_102 : decode cX7_lots 102 = .ok (.iinc 6 1, 3) := by decide +kernel
theorem dX7_lots_105 : decode cX7_lots 105 = .ok (.goto (-42), 3) := by decide +kernel
theorem dX7_lots_108 : decode cX7_lots 108 = .ok (.iload 5, 2) := by decide +kernel
theorem dX7_lots_110 : decode cX7_lots 110 = .ok (.ireturn, 1) := by decide +kernel
theorem dX7_asked_0 : decode cX7_asked 0 = .ok (.aload_n 0, 1) := by decide +kernel
theorem dX7_asked_1 : decode cX7_asked 1 = .ok (.getfield 61, 3) := by decide +kernel
theorem dX7_asked_4 : decode cX7_asked 4 = .ok (.ireturn, 1) := by decide +kernel
theorem dX7_upper_0 : decode cX7_upper 0 = .ok (.aload_n 0, 1) := by decide +kernel
theorem dX7_upper_1 : decode cX7_upper 1 = .ok (.getfield 222, 3) := by decide +kernel
theorem dX7_upper_4 : decode cX7_upper 4 = .ok (.lreturn, 1) := by decide +kernel
theorem dX7_lower_0 : decode cX7_lower 0 = .ok (.aload_n 0, 1) := by decide +kernel
theorem dX7_lower_1 : decode cX7_lower 1 = .ok (.getfield 34, 3) := by decide +kernel
theorem dX7_lower_4 : decode cX7_lower 4 = .ok (.lreturn, 1) := by decide +kernel
theorem dX7_kindMany_0 : decode cX7_kindMany 0 = .ok (.iconst 0, 1) := by decide +kernel
theorem dX7_kindMany_1 : decode cX7_kindMany 1 = .ok (.istore_n 2, 1) := by decide +kernel
theorem dX7_kindMany_2 : decode cX7_kindMany 2 = .ok (.iconst 0, 1) := by decide +kernel
theorem dX7_kindMany_3 : decode cX7_kindMany 3 = .ok (.istore_n 3, 1) := by decide +kernel
theorem dX7_kindMany_4 : decode cX7_kindMany 4 = .ok (.iload_n 3, 1) := by decide +kernel
theorem dX7_kindMany_5 : decode cX7_kindMany 5 = .ok (.aload_n 0, 1) := by decide +kernel
theorem dX7_kindMany_6 : decode cX7_kindMany 6 = .ok (.getfield 158, 3) := by decide +kernel
theorem dX7_kindMany_9 : decode cX7_kindMany 9 = .ok (.if_icmp .ge 26, 3) := by decide +kernel
theorem dX7_kindMany_12 : decode cX7_kindMany 12 = .ok (.iload_n 2, 1) := by decide +kernel
theorem dX7_kindMany_13 : decode cX7_kindMany 13 = .ok (.aload_n 0, 1) := by decide +kernel
theorem dX7_kindMany_14 : decode cX7_kindMany 14 = .ok (.iload_n 3, 1) := by decide +kernel
theorem dX7_kindMany_15 : decode cX7_kindMany 15 = .ok (.iload_n 1, 1) := by decide +kernel
theorem dX7_kindMany_16 : decode cX7_kindMany 16 = .ok (.invokevirtual 190, 3) := by decide +kernel
theorem dX7_kindMany_19 : decode cX7_kindMany 19 = .ok (.ifCond .eq 7, 3) := by decide +kernel
theorem dX7_kindMany_22 : decode cX7_kindMany 22 = .ok (.iconst 1, 1) := by decide +kernel
theorem dX7_kindMany_23 : decode cX7_kindMany 23 = .ok (.goto 4, 3) := by decide +kernel
theorem dX7_kindMany_26 : decode cX7_kindMany 26 = .ok (.iconst 0, 1) := by decide +kernel
theorem dX7_kindMany_27 : decode cX7_kindMany 27 = .ok (.iadd, 1) := by decide +kernel
theorem dX7_kindMany_28 : decode cX7_kindMany 28 = .ok (.istore_n 2, 1) := by decide +kernel
theorem dX7_kindMany_29 : decode cX7_kindMany 29 = .ok (.iinc 3 1, 3) := by decide +kernel
theorem dX7_kindMany_32 : decode cX7_kindMany 32 = .ok (.goto (-28), 3) := by decide +kernel
theorem dX7_kindMany_35 : decode cX7_kindMany 35 = .ok (.iload_n 2, 1) := by decide +kernel
theorem dX7_kindMany_36 : decode cX7_kindMany 36 = .ok (.ireturn, 1) := by decide +kernel
theorem dX7_thereOf_0 : decode cX7_thereOf 0 = .ok (.iconst 0, 1) := by decide +kernel
theorem dX7_thereOf_1 : decode cX7_thereOf 1 = .ok (.istore_n 2, 1) := by decide +kernel
theorem dX7_thereOf_2 : decode cX7_thereOf 2 = .ok (.iconst 0, 1) := by decide +kernel
theorem dX7_thereOf_3 : decode cX7_thereOf 3 = .ok (.istore_n 3, 1) := by decide +kernel
theorem dX7_thereOf_4 : decode cX7_thereOf 4 = .ok (.iload_n 3, 1) := by decide +kernel
theorem dX7_thereOf_5 : decode cX7_thereOf 5 = .ok (.bipush 6, 2) := by decide +kernel
theorem dX7_thereOf_7 : decode cX7_thereOf 7 = .ok (.if_icmp .ge 90, 3) := by decide +kernel
theorem dX7_thereOf_10 : decode cX7_thereOf 10 = .ok (.iload_n 2, 1) := by decide +kernel
theorem dX7_thereOf_11 : decode cX7_thereOf 11 = .ok (.iload_n 1, 1) := by decide +kernel
theorem dX7_thereOf_12 : decode cX7_thereOf 12 = .ok (.bipush 8, 2) := by decide +kernel
theorem dX7_thereOf_14 : decode cX7_thereOf 14 = .ok (.if_icmp .ne 20, 3) := by decide +kernel
theorem dX7_thereOf_17 : decode cX7_thereOf 17 = .ok (.aload_n 0, 1) := by decide +kernel
theorem dX7_thereOf_18 : decode cX7_thereOf 18 = .ok (.getfield 22, 3) := by decide +kernel
theorem dX7_thereOf_21 : decode cX7_thereOf 21 = .ok (.iload_n 3, 1) := by decide +kernel
theorem dX7_thereOf_22 : decode cX7_thereOf 22 = .ok (.iaload, 1) := by decide +kernel
theorem dX7_thereOf_23 : decode cX7_thereOf 23 = .ok (.ifCond .ge 7, 3) := by decide +kernel
theorem dX7_thereOf_26 : decode cX7_thereOf 26 = .ok (.iconst 0, 1) := by decide +kernel
theorem dX7_thereOf_27 : decode cX7_thereOf 27 = .ok (.goto 62, 3) := by decide +kernel
theorem dX7_thereOf_30 : decode cX7_thereOf 30 = .ok (.iconst 1, 1) := by decide +kernel
theorem dX7_thereOf_31 : decode cX7_thereOf 31 = .ok (.goto 58, 3) := by decide +kernel
theorem dX7_thereOf_34 : decode cX7_thereOf 34 = .ok (.iload_n 1, 1) := by decide +kernel
theorem dX7_thereOf_35 : decode cX7_thereOf 35 = .ok (.bipush 9, 2) := by decide +kernel
theorem dX7_thereOf_37 : decode cX7_thereOf 37 = .ok (.if_icmp .ne 25, 3) := by decide +kernel
theorem dX7_thereOf_40 : decode cX7_thereOf 40 = .ok (.iload_n 3, 1) := by decide +kernel
theorem dX7_thereOf_41 : decode cX7_thereOf 41 = .ok (.iconst 4, 1) := by decide +kernel
theorem dX7_thereOf_42 : decode cX7_thereOf 42 = .ok (.if_icmp .ge 16, 3) := by decide +kernel
theorem dX7_thereOf_45 : decode cX7_thereOf 45 = .ok (.aload_n 0, 1) := by decide +kernel
theorem dX7_thereOf_46 : decode cX7_thereOf 46 = .ok (.getfield 28, 3) := by decide +kernel
theorem dX7_thereOf_49 : decode cX7_thereOf 49 = .ok (.iload_n 3, 1) := by decide +kernel
theorem dX7_thereOf_50 : decode cX7_thereOf 50 = .ok (.iaload, 1) := by decide +kernel
theorem dX7_thereOf_51 : decode cX7_thereOf 51 = .ok (.ifCond .lt 7, 3) := by decide +kernel
theorem dX7_thereOf_54 : decode cX7_thereOf 54 = .ok (.iconst 1, 1) := by decide +kernel
theorem dX7_thereOf_55 : decode cX7_thereOf 55 = .ok (.goto 34, 3) := by decide +kernel
theorem dX7_thereOf_58 : decode cX7_thereOf 58 = .ok (.iconst 0, 1) := by decide +kernel
theorem dX7_thereOf_59 : decode cX7_thereOf 59 = .ok (.goto 30, 3) := by decide +kernel
theorem dX7_thereOf_62 : decode cX7_thereOf 62 = .ok (.iload_n 3, 1) := by decide +kernel
theorem dX7_thereOf_63 : decode cX7_thereOf 63 = .ok (.iconst 3, 1) := by decide +kernel
theorem dX7_thereOf_64 : decode cX7_thereOf 64 = .ok (.if_icmp .ge 24, 3) := by decide +kernel
theorem dX7_thereOf_67 : decode cX7_thereOf 67 = .ok (.aload_n 0, 1) := by decide +kernel
theorem dX7_thereOf_68 : decode cX7_thereOf 68 = .ok (.getfield 7, 3) := by decide +kernel
theorem dX7_thereOf_71 : decode cX7_thereOf 71 = .ok (.sipush 944, 3) := by decide +kernel
theorem dX7_thereOf_74 : decode cX7_thereOf 74 = .ok (.iconst 1, 1) := by decide +kernel
theorem dX7_thereOf_75 : decode cX7_thereOf 75 = .ok (.iload_n 3, 1) := by decide +kernel
theorem dX7_thereOf_76 : decode cX7_thereOf 76 = .ok (.iadd, 1) := by decide +kernel
theorem dX7_thereOf_77 : decode cX7_thereOf 77 = .ok (.imul, 1) := by decide +kernel
theorem dX7_thereOf_78 : decode cX7_thereOf 78 = .ok (.iconst 0, 1) := by decide +kernel
theorem dX7_thereOf_79 : decode cX7_thereOf 79 = .ok (.iadd, 1) := by decide +kernel
theorem dX7_thereOf_80 : decode cX7_thereOf 80 = .ok (.iaload, 1) := by decide +kernel
theorem dX7_thereOf_81 : decode cX7_thereOf 81 = .ok (.ifCond .lt 7, 3) := by decide +kernel
theorem dX7_thereOf_84 : decode cX7_thereOf 84 = .ok (.iconst 1, 1) := by decide +kernel
theorem dX7_thereOf_85 : decode cX7_thereOf 85 = .ok (.goto 4, 3) := by decide +kernel
theorem dX7_thereOf_88 : decode cX7_thereOf 88 = .ok (.iconst 0, 1) := by decide +kernel
theorem dX7_thereOf_89 : decode cX7_thereOf 89 = .ok (.iadd, 1) := by decide +kernel
theorem dX7_thereOf_90 : decode cX7_thereOf 90 = .ok (.istore_n 2, 1) := by decide +kernel
theorem dX7_thereOf_91 : decode cX7_thereOf 91 = .ok (.iinc 3 1, 3) := by decide +kernel
theorem dX7_thereOf_94 : decode cX7_thereOf 94 = .ok (.goto (-90), 3) := by decide +kernel
theorem dX7_thereOf_97 : decode cX7_thereOf 97 = .ok (.iload_n 2, 1) := by decide +kernel
theorem dX7_thereOf_98 : decode cX7_thereOf 98 = .ok (.ireturn, 1) := by decide +kernel
theorem dX7_countOf_0 : decode cX7_countOf 0 = .ok (.iload_n 1, 1) := by decide +kernel
theorem dX7_countOf_1 : decode cX7_countOf 1 = .ok (.tableswitch 95 0 7 #[47, 52, 59, 66, 73, 78, 83, 89], 47) := by decide +kernel
theorem dX7_countOf_48 : decode cX7_countOf 48 = .ok (.aload_n 0, 1) := by decide +kernel
theorem dX7_countOf_49 : decode cX7_countOf 49 = .ok (.getfield 158, 3) := by decide +kernel
theorem dX7_countOf_52 : decode cX7_countOf 52 = .ok (.ireturn, 1) := by decide +kernel
theorem dX7_countOf_53 : decode cX7_countOf 53 = .ok (.aload_n 0, 1) := by decide +kernel
theorem dX7_countOf_54 : decode cX7_countOf 54 = .ok (.getfield 7, 3) := by decide +kernel
theorem dX7_countOf_57 : decode cX7_countOf 57 = .ok (.iconst 1, 1) := by decide +kernel
theorem dX7_countOf_58 : decode cX7_countOf 58 = .ok (.iaload, 1) := by decide +kernel
theorem dX7_countOf_59 : decode cX7_countOf 59 = .ok (.ireturn, 1) := by decide +kernel
theorem dX7_countOf_60 : decode cX7_countOf 60 = .ok (.aload_n 0, 1) := by decide +kernel
theorem dX7_countOf_61 : decode cX7_countOf 61 = .ok (.getfield 7, 3) := by decide +kernel
theorem dX7_countOf_64 : decode cX7_countOf 64 = .ok (.iconst 0, 1) := by decide +kernel
theorem dX7_countOf_65 : decode cX7_countOf 65 = .ok (.iaload, 1) := by decide +kernel
theorem dX7_countOf_66 : decode cX7_countOf 66 = .ok (.ireturn, 1) := by decide +kernel
theorem dX7_countOf_67 : decode cX7_countOf 67 = .ok (.aload_n 0, 1) := by decide +kernel
theorem dX7_countOf_68 : decode cX7_countOf 68 = .ok (.getfield 7, 3) := by decide +kernel
theorem dX7_countOf_71 : decode cX7_countOf 71 = .ok (.iconst 2, 1) := by decide +kernel
theorem dX7_countOf_72 : decode cX7_countOf 72 = .ok (.iaload, 1) := by decide +kernel
theorem dX7_countOf_73 : decode cX7_countOf 73 = .ok (.ireturn, 1) := by decide +kernel
theorem dX7_countOf_74 : decode cX7_countOf 74 = .ok (.aload_n 0, 1) := by decide +kernel
theorem dX7_countOf_75 : decode cX7_countOf 75 = .ok (.getfield 152, 3) := by decide +kernel
theorem dX7_countOf_78 : decode cX7_countOf 78 = .ok (.ireturn, 1) := by decide +kernel
theorem dX7_countOf_79 : decode cX7_countOf 79 = .ok (.aload_n 0, 1) := by decide +kernel
theorem dX7_countOf_80 : decode cX7_countOf 80 = .ok (.getfield 161, 3) := by decide +kernel
theorem dX7_countOf_83 : decode cX7_countOf 83 = .ok (.ireturn, 1) := by decide +kernel
theorem dX7_countOf_84 : decode cX7_countOf 84 = .ok (.aload_n 0, 1) := by decide +kernel
theorem dX7_countOf_85 : decode cX7_countOf 85 = .ok (.iconst 1, 1) := by decide +kernel
theorem dX7_countOf_86 : decode cX7_countOf 86 = .ok (.invokevirtual 290, 3) := by decide +kernel
theorem dX7_countOf_89 : decode cX7_countOf 89 = .ok (.ireturn, 1) := by decide +kernel
theorem dX7_countOf_90 : decode cX7_countOf 90 = .ok (.aload_n 0, 1) := by decide +kernel
theorem dX7_countOf_91 : decode cX7_countOf 91 = .ok (.iconst 3, 1) := by decide +kernel
theorem dX7_countOf_92 : decode cX7_countOf 92 = .ok (.invokevirtual 290, 3) := by decide +kernel
theorem dX7_countOf_95 : decode cX7_countOf 95 = .ok (.ireturn, 1) := by decide +kernel
theorem dX7_countOf_96 : decode cX7_countOf 96 = .ok (.aload_n 0, 1) := by decide +kernel
theorem dX7_countOf_97 : decode cX7_countOf 97 = .ok (.iload_n 1, 1) := by decide +kernel
theorem dX7_countOf_98 : decode cX7_countOf 98 = .ok (.invokevirtual 293, 3) := by decide +kernel
theorem dX7_countOf_101 : decode cX7_countOf 101 = .ok (.ireturn, 1) := by decide +kernel
theorem dX7_count_0 : decode cX7_count 0 = .ok (.iload_n 1, 1) := by decide +kernel
theorem dX7_count_1 : decode cX7_count 1 = .ok (.i2l, 1) := by decide +kernel
theorem dX7_count_2 : decode cX7_count 2 = .ok (.lconst 0, 1) := by decide +kernel
theorem dX7_count_3 : decode cX7_count 3 = .ok (.ldc2_w 296, 3) := by decide +kernel
theorem dX7_count_6 : decode cX7_count 6 = .ok (.invokestatic 66, 3) := by decide +kernel
theorem dX7_count_9 : decode cX7_count 9 = .ok (.ifCond .eq 11, 3) := by decide +kernel
theorem dX7_count_12 : decode cX7_count 12 = .ok (.aload_n 0, 1) := by decide +kernel
theorem dX7_count_13 : decode cX7_count 13 = .ok (.iload_n 1, 1) := by decide +kernel
theorem dX7_count_14 : decode cX7_count 14 = .ok (.invokevirtual 298, 3) := by decide +kernel
theorem dX7_count_17 : decode cX7_count 17 = .ok (.goto 4, 3) := by decide +kernel
theorem dX7_count_20 : decode cX7_count 20 = .ok (.iconst (-1), 1) := by decide +kernel
theorem dX7_count_21 : decode cX7_count 21 = .ok (.ireturn, 1) := by decide +kernel
theorem dX7_finding_0 : decode cX7_finding 0 = .ok (.aload_n 0, 1) := by decide +kernel
theorem dX7_finding_1 : decode cX7_finding 1 = .ok (.getfield 57, 3) := by decide +kernel
theorem dX7_finding_4 : decode cX7_finding 4 = .ok (.ireturn, 1) := by decide +kernel
theorem dX7_findings_0 : decode cX7_findings 0 = .ok (.iload_n 1, 1) := by decide +kernel
theorem dX7_findings_1 : decode cX7_findings 1 = .ok (.i2l, 1) := by decide +kernel
theorem dX7_findings_2 : decode cX7_findings 2 = .ok (.lconst 1, 1) := by decide +kernel
theorem dX7_findings_3 : decode cX7_findings 3 = .ok (.ldc2_w 64, 3) := by decide +kernel
theorem dX7_findings_6 : decode cX7_findings 6 = .ok (.invokestatic 66, 3) := by decide +kernel
theorem dX7_findings_9 : decode cX7_findings 9 = .ok (.ifCond .eq 12, 3) := by decide +kernel
theorem dX7_findings_12 : decode cX7_findings 12 = .ok (.aload_n 0, 1) := by decide +kernel
theorem dX7_findings_13 : decode cX7_findings 13 = .ok (.getfield 38, 3) := by decide +kernel
theorem dX7_findings_16 : decode cX7_findings 16 = .ok (.iload_n 1, 1) := by decide +kernel
theorem dX7_findings_17 : decode cX7_findings 17 = .ok (.iaload, 1) := by decide +kernel
theorem dX7_findings_18 : decode cX7_findings 18 = .ok (.goto 4, 3) := by decide +kernel
theorem dX7_findings_21 : decode cX7_findings 21 = .ok (.iconst (-1), 1) := by decide +kernel
theorem dX7_findings_22 : decode cX7_findings 22 = .ok (.ireturn, 1) := by decide +kernel
theorem dX7_digest_0 : decode cX7_digest 0 = .ok (.ldc2_w 301, 3) := by decide +kernel
theorem dX7_digest_3 : decode cX7_digest 3 = .ok (.lstore_n 1, 1) := by decide +kernel
theorem dX7_digest_4 : decode cX7_digest 4 = .ok (.iconst 0, 1) := by decide +kernel
theorem dX7_digest_5 : decode cX7_digest 5 = .ok (.istore_n 3, 1) := by decide +kernel
theorem dX7_digest_6 : decode cX7_digest 6 = .ok (.iload_n 3, 1) := by decide +kernel
theorem dX7_digest_7 : decode cX7_digest 7 = .ok (.bipush 11, 2) := by decide +kernel
theorem dX7_digest_9 : decode cX7_digest 9 = .ok (.if_icmp .ge 22, 3) := by decide +kernel
theorem dX7_digest_12 : decode cX7_digest 12 = .ok (.ldc2_w 303, 3) := by decide +kernel
theorem dX7_digest_15 : decode cX7_digest 15 = .ok (.lload_n 1, 1) := by decide +kernel
theorem dX7_digest_16 : decode cX7_digest 16 = .ok (.lmul, 1) := by decide +kernel
theorem dX7_digest_17 : decode cX7_digest 17 = .ok (.aload_n 0, 1) := by decide +kernel
theorem dX7_digest_18 : decode cX7_digest 18 = .ok (.iload_n 3, 1) := by decide +kernel
theorem dX7_digest_19 : decode cX7_digest 19 = .ok (.invokevirtual 298, 3) := by decide +kernel
theorem dX7_digest_22 : decode cX7_digest 22 = .ok (.i2l, 1) := by decide +kernel
theorem dX7_digest_23 : decode cX7_digest 23 = .ok (.ladd, 1) := by decide +kernel
theorem dX7_digest_24 : decode cX7_digest 24 = .ok (.lstore_n 1, 1) := by decide +kernel
theorem dX7_digest_25 : decode cX7_digest 25 = .ok (.iinc 3 1, 3) := by decide +kernel
theorem dX7_digest_28 : decode cX7_digest 28 = .ok (.goto (-22), 3) := by decide +kernel
theorem dX7_digest_31 : decode cX7_digest 31 = .ok (.iconst 0, 1) := by decide +kernel
theorem dX7_digest_32 : decode cX7_digest 32 = .ok (.istore_n 3, 1) := by decide +kernel
theorem dX7_digest_33 : decode cX7_digest 33 = .ok (.iload_n 3, 1) := by decide +kernel
theorem dX7_digest_34 : decode cX7_digest 34 = .ok (.bipush 7, 2) := by decide +kernel
theorem dX7_digest_36 : decode cX7_digest 36 = .ok (.aload_n 0, 1) := by decide +kernel
theorem dX7_digest_37 : decode cX7_digest 37 = .ok (.getfield 158, 3) := by decide +kernel
theorem dX7_digest_40 : decode cX7_digest 40 = .ok (.imul, 1) := by decide +kernel
theorem dX7_digest_41 : decode cX7_digest 41 = .ok (.if_icmp .ge 29, 3) := by decide +kernel
theorem dX7_digest_44 : decode cX7_digest 44 = .ok (.ldc2_w 303, 3) := by decide +kernel
theorem dX7_digest_47 : decode cX7_digest 47 = .ok (.lload_n 1, 1) := by decide +kernel
theorem dX7_digest_48 : decode cX7_digest 48 = .ok (.lmul, 1) := by decide +kernel
theorem dX7_digest_49 : decode cX7_digest 49 = .ok (.aload_n 0, 1) := by decide +kernel
theorem dX7_digest_50 : decode cX7_digest 50 = .ok (.iload_n 3, 1) := by decide +kernel
theorem dX7_digest_51 : decode cX7_digest 51 = .ok (.bipush 7, 2) := by decide +kernel
theorem dX7_digest_53 : decode cX7_digest 53 = .ok (.idiv, 1) := by decide +kernel
theorem dX7_digest_54 : decode cX7_digest 54 = .ok (.iload_n 3, 1) := by decide +kernel
theorem dX7_digest_55 : decode cX7_digest 55 = .ok (.bipush 7, 2) := by decide +kernel
theorem dX7_digest_57 : decode cX7_digest 57 = .ok (.irem, 1) := by decide +kernel
theorem dX7_digest_58 : decode cX7_digest 58 = .ok (.invokevirtual 184, 3) := by decide +kernel
theorem dX7_digest_61 : decode cX7_digest 61 = .ok (.i2l, 1) := by decide +kernel
theorem dX7_digest_62 : decode cX7_digest 62 = .ok (.ladd, 1) := by decide +kernel
theorem dX7_digest_63 : decode cX7_digest 63 = .ok (.lstore_n 1, 1) := by decide +kernel
theorem dX7_digest_64 : decode cX7_digest 64 = .ok (.iinc 3 1, 3) := by decide +kernel
theorem dX7_digest_67 : decode cX7_digest 67 = .ok (.goto (-34), 3) := by decide +kernel
theorem dX7_digest_70 : decode cX7_digest 70 = .ok (.iconst 1, 1) := by decide +kernel
theorem dX7_digest_71 : decode cX7_digest 71 = .ok (.istore_n 3, 1) := by decide +kernel
theorem dX7_digest_72 : decode cX7_digest 72 = .ok (.iload_n 3, 1) := by decide +kernel
theorem dX7_digest_73 : decode cX7_digest 73 = .ok (.iconst 4, 1) := by decide +kernel
theorem dX7_digest_74 : decode cX7_digest 74 = .ok (.if_icmp .ge 29, 3) := by decide +kernel
theorem dX7_digest_77 : decode cX7_digest 77 = .ok (.ldc2_w 303, 3) := by decide +kernel
theorem dX7_digest_80 : decode cX7_digest 80 = .ok (.lload_n 1, 1) := by decide +kernel
theorem dX7_digest_81 : decode cX7_digest 81 = .ok (.lmul, 1) := by decide +kernel
theorem dX7_digest_82 : decode cX7_digest 82 = .ok (.aload_n 0, 1) := by decide +kernel
theorem dX7_digest_83 : decode cX7_digest 83 = .ok (.getfield 7, 3) := by decide +kernel
theorem dX7_digest_86 : decode cX7_digest 86 = .ok (.sipush 944, 3) := by decide +kernel
theorem dX7_digest_89 : decode cX7_digest 89 = .ok (.iload_n 3, 1) := by decide +kernel
theorem dX7_digest_90 : decode cX7_digest 90 = .ok (.imul, 1) := by decide +kernel
theorem dX7_digest_91 : decode cX7_digest 91 = .ok (.iconst 0, 1) := by decide +kernel
theorem dX7_digest_92 : decode cX7_digest 92 = .ok (.iadd, 1) := by decide +kernel
theorem dX7_digest_93 : decode cX7_digest 93 = .ok (.iaload, 1) := by decide +kernel
theorem dX7_digest_94 : decode cX7_digest 94 = .ok (.i2l, 1) := by decide +kernel
theorem dX7_digest_95 : decode cX7_digest 95 = .ok (.ladd, 1) := by decide +kernel
theorem dX7_digest_96 : decode cX7_digest 96 = .ok (.lstore_n 1, 1) := by decide +kernel
theorem dX7_digest_97 : decode cX7_digest 97 = .ok (.iinc 3 1, 3) := by decide +kernel
theorem dX7_digest_100 : decode cX7_digest 100 = .ok (.goto (-28), 3) := by decide +kernel
theorem dX7_digest_103 : decode cX7_digest 103 = .ok (.iconst 0, 1) := by decide +kernel
theorem dX7_digest_104 : decode cX7_digest 104 = .ok (.istore_n 3, 1) := by decide +kernel
theorem dX7_digest_105 : decode cX7_digest 105 = .ok (.iload_n 3, 1) := by decide +kernel
theorem dX7_digest_106 : decode cX7_digest 106 = .ok (.bipush 6, 2) := by decide +kernel
theorem dX7_digest_108 : decode cX7_digest 108 = .ok (.if_icmp .ge 63, 3) := by decide +kernel
theorem dX7_digest_111 : decode cX7_digest 111 = .ok (.ldc2_w 303, 3) := by decide +kernel
theorem dX7_digest_114 : decode cX7_digest 114 = .ok (.lload_n 1, 1) := by decide +kernel
theorem dX7_digest_115 : decode cX7_digest 115 = .ok (.lmul, 1) := by decide +kernel
theorem dX7_digest_116 : decode cX7_digest 116 = .ok (.aload_n 0, 1) := by decide +kernel
theorem dX7_digest_117 : decode cX7_digest 117 = .ok (.getfield 22, 3) := by decide +kernel
theorem dX7_digest_120 : decode cX7_digest 120 = .ok (.iload_n 3, 1) := by decide +kernel
theorem dX7_digest_121 : decode cX7_digest 121 = .ok (.iaload, 1) := by decide +kernel
theorem dX7_digest_122 : decode cX7_digest 122 = .ok (.i2l, 1) := by decide +kernel
theorem dX7_digest_123 : decode cX7_digest 123 = .ok (.ladd, 1) := by decide +kernel
theorem dX7_digest_124 : decode cX7_digest 124 = .ok (.lstore_n 1, 1) := by decide +kernel
theorem dX7_digest_125 : decode cX7_digest 125 = .ok (.iconst 0, 1) := by decide +kernel
theorem dX7_digest_126 : decode cX7_digest 126 = .ok (.istore 4, 2) := by decide +kernel
theorem dX7_digest_128 : decode cX7_digest 128 = .ok (.iload 4, 2) := by decide +kernel
theorem dX7_digest_130 : decode cX7_digest 130 = .ok (.aload_n 0, 1) := by decide +kernel
theorem dX7_digest_131 : decode cX7_digest 131 = .ok (.getfield 22, 3) := by decide +kernel
theorem dX7_digest_134 : decode cX7_digest 134 = .ok (.iload_n 3, 1) := by decide +kernel
theorem dX7_digest_135 : decode cX7_digest 135 = .ok (.iaload, 1) := by decide +kernel
theorem dX7_digest_136 : decode cX7_digest 136 = .ok (.if_icmp .ge 29, 3) := by decide +kernel
theorem dX7_digest_139 : decode cX7_digest 139 = .ok (.ldc2_w 303, 3) := by decide +kernel
theorem dX7_digest_142 : decode cX7_digest 142 = .ok (.lload_n 1, 1) := by decide +kernel
theorem dX7_digest_143 : decode cX7_digest 143 = .ok (.lmul, 1) := by decide +kernel
theorem dX7_digest_144 : decode cX7_digest 144 = .ok (.aload_n 0, 1) := by decide +kernel
theorem dX7_digest_145 : decode cX7_digest 145 = .ok (.getfield 25, 3) := by decide +kernel
theorem dX7_digest_148 : decode cX7_digest 148 = .ok (.bipush 40, 2) := by decide +kernel
theorem dX7_digest_150 : decode cX7_digest 150 = .ok (.iload_n 3, 1) := by decide +kernel
theorem dX7_digest_151 : decode cX7_digest 151 = .ok (.imul, 1) := by decide +kernel
theorem dX7_digest_152 : decode cX7_digest 152 = .ok (.iload 4, 2) := by decide +kernel
theorem dX7_digest_154 : decode cX7_digest 154 = .ok (.iadd, 1) := by decide +kernel
theorem dX7_digest_155 : decode cX7_digest 155 = .ok (.iaload, 1) := by decide +kernel
theorem dX7_digest_156 : decode cX7_digest 156 = .ok (.i2l, 1) := by decide +kernel
theorem dX7_digest_157 : decode cX7_digest 157 = .ok (.ladd, 1) := by decide +kernel
theorem dX7_digest_158 : decode cX7_digest 158 = .ok (.lstore_n 1, 1) := by decide +kernel
theorem dX7_digest_159 : decode cX7_digest 159 = .ok (.iinc 4 1, 3) := by decide +kernel
theorem dX7_digest_162 : decode cX7_digest 162 = .ok (.goto (-34), 3) := by decide +kernel
theorem dX7_digest_165 : decode cX7_digest 165 = .ok (.iinc 3 1, 3) := by decide +kernel
theorem dX7_digest_168 : decode cX7_digest 168 = .ok (.goto (-63), 3) := by decide +kernel
theorem dX7_digest_171 : decode cX7_digest 171 = .ok (.iconst 0, 1) := by decide +kernel
theorem dX7_digest_172 : decode cX7_digest 172 = .ok (.istore_n 3, 1) := by decide +kernel
theorem dX7_digest_173 : decode cX7_digest 173 = .ok (.iload_n 3, 1) := by decide +kernel
theorem dX7_digest_174 : decode cX7_digest 174 = .ok (.iconst 4, 1) := by decide +kernel
theorem dX7_digest_175 : decode cX7_digest 175 = .ok (.if_icmp .ge 63, 3) := by decide +kernel
theorem dX7_digest_178 : decode cX7_digest 178 = .ok (.ldc2_w 303, 3) := by decide +kernel
theorem dX7_digest_181 : decode cX7_digest 181 = .ok (.lload_n 1, 1) := by decide +kernel
theorem dX7_digest_182 : decode cX7_digest 182 = .ok (.lmul, 1) := by decide +kernel
theorem dX7_digest_183 : decode cX7_digest 183 = .ok (.aload_n 0, 1) := by decide +kernel
theorem dX7_digest_184 : decode cX7_digest 184 = .ok (.getfield 28, 3) := by decide +kernel
theorem dX7_digest_187 : decode cX7_digest 187 = .ok (.iload_n 3, 1) := by decide +kernel
theorem dX7_digest_188 : decode cX7_digest 188 = .ok (.iaload, 1) := by decide +kernel
theorem dX7_digest_189 : decode cX7_digest 189 = .ok (.i2l, 1) := by decide +kernel
theorem dX7_digest_190 : decode cX7_digest 190 = .ok (.ladd, 1) := by decide +kernel
theorem dX7_digest_191 : decode cX7_digest 191 = .ok (.lstore_n 1, 1) := by decide +kernel
theorem dX7_digest_192 : decode cX7_digest 192 = .ok (.iconst 0, 1) := by decide +kernel
theorem dX7_digest_193 : decode cX7_digest 193 = .ok (.istore 4, 2) := by decide +kernel
theorem dX7_digest_195 : decode cX7_digest 195 = .ok (.iload 4, 2) := by decide +kernel
theorem dX7_digest_197 : decode cX7_digest 197 = .ok (.aload_n 0, 1) := by decide +kernel
theorem dX7_digest_198 : decode cX7_digest 198 = .ok (.getfield 28, 3) := by decide +kernel
theorem dX7_digest_201 : decode cX7_digest 201 = .ok (.iload_n 3, 1) := by decide +kernel
theorem dX7_digest_202 : decode cX7_digest 202 = .ok (.iaload, 1) := by decide +kernel
theorem dX7_digest_203 : decode cX7_digest 203 = .ok (.if_icmp .ge 29, 3) := by decide +kernel
theorem dX7_digest_206 : decode cX7_digest 206 = .ok (.ldc2_w 303, 3) := by decide +kernel
theorem dX7_digest_209 : decode cX7_digest 209 = .ok (.lload_n 1, 1) := by decide +kernel
theorem dX7_digest_210 : decode cX7_digest 210 = .ok (.lmul, 1) := by decide +kernel
theorem dX7_digest_211 : decode cX7_digest 211 = .ok (.aload_n 0, 1) := by decide +kernel
theorem dX7_digest_212 : decode cX7_digest 212 = .ok (.getfield 31, 3) := by decide +kernel
theorem dX7_digest_215 : decode cX7_digest 215 = .ok (.bipush 80, 2) := by decide +kernel
theorem dX7_digest_217 : decode cX7_digest 217 = .ok (.iload_n 3, 1) := by decide +kernel
theorem dX7_digest_218 : decode cX7_digest 218 = .ok (.imul, 1) := by decide +kernel
theorem dX7_digest_219 : decode cX7_digest 219 = .ok (.iload 4, 2) := by decide +kernel
theorem dX7_digest_221 : decode cX7_digest 221 = .ok (.iadd, 1) := by decide +kernel
theorem dX7_digest_222 : decode cX7_digest 222 = .ok (.iaload, 1) := by decide +kernel
theorem dX7_digest_223 : decode cX7_digest 223 = .ok (.i2l, 1) := by decide +kernel
theorem dX7_digest_224 : decode cX7_digest 224 = .ok (.ladd, 1) := by decide +kernel
theorem dX7_digest_225 : decode cX7_digest 225 = .ok (.lstore_n 1, 1) := by decide +kernel
theorem dX7_digest_226 : decode cX7_digest 226 = .ok (.iinc 4 1, 3) := by decide +kernel
theorem dX7_digest_229 : decode cX7_digest 229 = .ok (.goto (-34), 3) := by decide +kernel
theorem dX7_digest_232 : decode cX7_digest 232 = .ok (.iinc 3 1, 3) := by decide +kernel
theorem dX7_digest_235 : decode cX7_digest 235 = .ok (.goto (-62), 3) := by decide +kernel
theorem dX7_digest_238 : decode cX7_digest 238 = .ok (.lload_n 1, 1) := by decide +kernel
theorem dX7_digest_239 : decode cX7_digest 239 = .ok (.lreturn, 1) := by decide +kernel
theorem dJ6_bitCount_0f7a4_0 : decode cJ6_bitCount_0f7a4 0 = .ok (.iload_n 0, 1) := by decide +kernel
theorem dJ6_bitCount_0f7a4_1 : decode cJ6_bitCount_0f7a4 1 = .ok (.iload_n 0, 1) := by decide +kernel
theorem dJ6_bitCount_0f7a4_2 : decode cJ6_bitCount_0f7a4 2 = .ok (.iconst 1, 1) := by decide +kernel
theorem dJ6_bitCount_0f7a4_3 : decode cJ6_bitCount_0f7a4 3 = .ok (.iushr, 1) := by decide +kernel
theorem dJ6_bitCount_0f7a4_4 : decode cJ6_bitCount_0f7a4 4 = .ok (.ldc_w 265, 3) := by decide +kernel
theorem dJ6_bitCount_0f7a4_7 : decode cJ6_bitCount_0f7a4 7 = .ok (.iand, 1) := by decide +kernel
theorem dJ6_bitCount_0f7a4_8 : decode cJ6_bitCount_0f7a4 8 = .ok (.isub, 1) := by decide +kernel
theorem dJ6_bitCount_0f7a4_9 : decode cJ6_bitCount_0f7a4 9 = .ok (.istore_n 0, 1) := by decide +kernel
theorem dJ6_bitCount_0f7a4_10 : decode cJ6_bitCount_0f7a4 10 = .ok (.iload_n 0, 1) := by decide +kernel
theorem dJ6_bitCount_0f7a4_11 : decode cJ6_bitCount_0f7a4 11 = .ok (.ldc_w 266, 3) := by decide +kernel
theorem dJ6_bitCount_0f7a4_14 : decode cJ6_bitCount_0f7a4 14 = .ok (.iand, 1) := by decide +kernel
theorem dJ6_bitCount_0f7a4_15 : decode cJ6_bitCount_0f7a4 15 = .ok (.iload_n 0, 1) := by decide +kernel
theorem dJ6_bitCount_0f7a4_16 : decode cJ6_bitCount_0f7a4 16 = .ok (.iconst 2, 1) := by decide +kernel
theorem dJ6_bitCount_0f7a4_17 : decode cJ6_bitCount_0f7a4 17 = .ok (.iushr, 1) := by decide +kernel
theorem dJ6_bitCount_0f7a4_18 : decode cJ6_bitCount_0f7a4 18 = .ok (.ldc_w 266, 3) := by decide +kernel
theorem dJ6_bitCount_0f7a4_21 : decode cJ6_bitCount_0f7a4 21 = .ok (.iand, 1) := by decide +kernel
theorem dJ6_bitCount_0f7a4_22 : decode cJ6_bitCount_0f7a4 22 = .ok (.iadd, 1) := by decide +kernel
theorem dJ6_bitCount_0f7a4_23 : decode cJ6_bitCount_0f7a4 23 = .ok (.istore_n 0, 1) := by decide +kernel
theorem dJ6_bitCount_0f7a4_24 : decode cJ6_bitCount_0f7a4 24 = .ok (.iload_n 0, 1) := by decide +kernel
theorem dJ6_bitCount_0f7a4_25 : decode cJ6_bitCount_0f7a4 25 = .ok (.iload_n 0, 1) := by decide +kernel
theorem dJ6_bitCount_0f7a4_26 : decode cJ6_bitCount_0f7a4 26 = .ok (.iconst 4, 1) := by decide +kernel
theorem dJ6_bitCount_0f7a4_27 : decode cJ6_bitCount_0f7a4 27 = .ok (.iushr, 1) := by decide +kernel
theorem dJ6_bitCount_0f7a4_28 : decode cJ6_bitCount_0f7a4 28 = .ok (.iadd, 1) := by decide +kernel
theorem dJ6_bitCount_0f7a4_29 : decode cJ6_bitCount_0f7a4 29 = .ok (.ldc_w 267, 3) := by decide +kernel
theorem dJ6_bitCount_0f7a4_32 : decode cJ6_bitCount_0f7a4 32 = .ok (.iand, 1) := by decide +kernel
theorem dJ6_bitCount_0f7a4_33 : decode cJ6_bitCount_0f7a4 33 = .ok (.istore_n 0, 1) := by decide +kernel
theorem dJ6_bitCount_0f7a4_34 : decode cJ6_bitCount_0f7a4 34 = .ok (.iload_n 0, 1) := by decide +kernel
theorem dJ6_bitCount_0f7a4_35 : decode cJ6_bitCount_0f7a4 35 = .ok (.iload_n 0, 1) := by decide +kernel
theorem dJ6_bitCount_0f7a4_36 : decode cJ6_bitCount_0f7a4 36 = .ok (.bipush 8, 2) := by decide +kernel
theorem dJ6_bitCount_0f7a4_38 : decode cJ6_bitCount_0f7a4 38 = .ok (.iushr, 1) := by decide +kernel
theorem dJ6_bitCount_0f7a4_39 : decode cJ6_bitCount_0f7a4 39 = .ok (.iadd, 1) := by decide +kernel
theorem dJ6_bitCount_0f7a4_40 : decode cJ6_bitCount_0f7a4 40 = .ok (.istore_n 0, 1) := by decide +kernel
theorem dJ6_bitCount_0f7a4_41 : decode cJ6_bitCount_0f7a4 41 = .ok (.iload_n 0, 1) := by decide +kernel
theorem dJ6_bitCount_0f7a4_42 : decode cJ6_bitCount_0f7a4 42 = .ok (.iload_n 0, 1) := by decide +kernel
theorem dJ6_bitCount_0f7a4_43 : decode cJ6_bitCount_0f7a4 43 = .ok (.bipush 16, 2) := by decide +kernel
theorem dJ6_bitCount_0f7a4_45 : decode cJ6_bitCount_0f7a4 45 = .ok (.iushr, 1) := by decide +kernel
theorem dJ6_bitCount_0f7a4_46 : decode cJ6_bitCount_0f7a4 46 = .ok (.iadd, 1) := by decide +kernel
theorem dJ6_bitCount_0f7a4_47 : decode cJ6_bitCount_0f7a4 47 = .ok (.istore_n 0, 1) := by decide +kernel
theorem dJ6_bitCount_0f7a4_48 : decode cJ6_bitCount_0f7a4 48 = .ok (.iload_n 0, 1) := by decide +kernel
theorem dJ6_bitCount_0f7a4_49 : decode cJ6_bitCount_0f7a4 49 = .ok (.bipush 63, 2) := by decide +kernel
theorem dJ6_bitCount_0f7a4_51 : decode cJ6_bitCount_0f7a4 51 = .ok (.iand, 1) := by decide +kernel
theorem dJ6_bitCount_0f7a4_52 : decode cJ6_bitCount_0f7a4 52 = .ok (.ireturn, 1) := by decide +kernel
theorem dJ9_max_7cf53_0 : decode cJ9_max_7cf53 0 = .ok (.iload_n 0, 1) := by decide +kernel
theorem dJ9_max_7cf53_1 : decode cJ9_max_7cf53 1 = .ok (.iload_n 1, 1) := by decide +kernel
theorem dJ9_max_7cf53_2 : decode cJ9_max_7cf53 2 = .ok (.if_icmp .lt 7, 3) := by decide +kernel
theorem dJ9_max_7cf53_5 : decode cJ9_max_7cf53 5 = .ok (.iload_n 0, 1) := by decide +kernel
theorem dJ9_max_7cf53_6 : decode cJ9_max_7cf53 6 = .ok (.goto 4, 3) := by decide +kernel
theorem dJ9_max_7cf53_9 : decode cJ9_max_7cf53 9 = .ok (.iload_n 1, 1) := by decide +kernel
theorem dJ9_max_7cf53_10 : decode cJ9_max_7cf53 10 = .ok (.ireturn, 1) := by decide +kernel
theorem dJ9_min_7cf53_0 : decode cJ9_min_7cf53 0 = .ok (.iload_n 0, 1) := by decide +kernel
theorem dJ9_min_7cf53_1 : decode cJ9_min_7cf53 1 = .ok (.iload_n 1, 1) := by decide +kernel
theorem dJ9_min_7cf53_2 : decode cJ9_min_7cf53 2 = .ok (.if_icmp .gt 7, 3) := by decide +kernel
theorem dJ9_min_7cf53_5 : decode cJ9_min_7cf53 5 = .ok (.iload_n 0, 1) := by decide +kernel
theorem dJ9_min_7cf53_6 : decode cJ9_min_7cf53 6 = .ok (.goto 4, 3) := by decide +kernel
theorem dJ9_min_7cf53_9 : decode cJ9_min_7cf53 9 = .ok (.iload_n 1, 1) := by decide +kernel
theorem dJ9_min_7cf53_10 : decode cJ9_min_7cf53 10 = .ok (.ireturn, 1) := by decide +kernel
theorem dJ0_charAt_5068e_0 : decode cJ0_charAt_5068e 0 = .ok (.aload_n 0, 1) := by decide +kernel
theorem dJ0_charAt_5068e_1 : decode cJ0_charAt_5068e 1 = .ok (.invokevirtual 492, 3) := by decide +kernel
theorem dJ0_charAt_5068e_4 : decode cJ0_charAt_5068e 4 = .ok (.ifCond .eq 12, 3) := by decide +kernel
theorem dJ0_charAt_5068e_7 : decode cJ0_charAt_5068e 7 = .ok (.aload_n 0, 1) := by decide +kernel
theorem dJ0_charAt_5068e_8 : decode cJ0_charAt_5068e 8 = .ok (.getfield 9, 3) := by decide +kernel
theorem dJ0_charAt_5068e_11 : decode cJ0_charAt_5068e 11 = .ok (.iload_n 1, 1) := by decide +kernel
theorem dJ0_charAt_5068e_12 : decode cJ0_charAt_5068e 12 = .ok (.invokestatic 495, 3) := by decide +kernel
theorem dJ0_charAt_5068e_15 : decode cJ0_charAt_5068e 15 = .ok (.ireturn, 1) := by decide +kernel
theorem dJ0_charAt_5068e_16 : decode cJ0_charAt_5068e 16 = .ok (.aload_n 0, 1) := by decide +kernel
theorem dJ0_charAt_5068e_17 : decode cJ0_charAt_5068e 17 = .ok (.getfield 9, 3) := by decide +kernel
theorem dJ0_charAt_5068e_20 : decode cJ0_charAt_5068e 20 = .ok (.iload_n 1, 1) := by decide +kernel
theorem dJ0_charAt_5068e_21 : decode cJ0_charAt_5068e 21 = .ok (.invokestatic 498, 3) := by decide +kernel
theorem dJ0_charAt_5068e_24 : decode cJ0_charAt_5068e 24 = .ok (.ireturn, 1) := by decide +kernel
theorem dJ0_isLatin1_aae02_0 : decode cJ0_isLatin1_aae02 0 = .ok (.getstatic 38, 3) := by decide +kernel
theorem dJ0_isLatin1_aae02_3 : decode cJ0_isLatin1_aae02 3 = .ok (.ifCond .eq 14, 3) := by decide +kernel
theorem dJ0_isLatin1_aae02_6 : decode cJ0_isLatin1_aae02 6 = .ok (.aload_n 0, 1) := by decide +kernel
theorem dJ0_isLatin1_aae02_7 : decode cJ0_isLatin1_aae02 7 = .ok (.getfield 15, 3) := by decide +kernel
theorem dJ0_isLatin1_aae02_10 : decode cJ0_isLatin1_aae02 10 = .ok (.ifCond .ne 7, 3) := by decide +kernel
theorem dJ0_isLatin1_aae02_13 : decode cJ0_isLatin1_aae02 13 = .ok (.iconst 1, 1) := by decide +kernel
theorem dJ0_isLatin1_aae02_14 : decode cJ0_isLatin1_aae02 14 = .ok (.goto 4, 3) := by decide +kernel
theorem dJ0_isLatin1_aae02_17 : decode cJ0_isLatin1_aae02 17 = .ok (.iconst 0, 1) := by decide +kernel
theorem dJ0_isLatin1_aae02_18 : decode cJ0_isLatin1_aae02 18 = .ok (.ireturn, 1) := by decide +kernel
theorem dJ0_checkIndex_df160_0 : decode cJ0_checkIndex_df160 0 = .ok (.iload_n 0, 1) := by decide +kernel
theorem dJ0_checkIndex_df160_1 : decode cJ0_checkIndex_df160 1 = .ok (.iload_n 1, 1) := by decide +kernel
theorem dJ0_checkIndex_df160_2 : decode cJ0_checkIndex_df160 2 = .ok (.getstatic 1053, 3) := by decide +kernel
theorem dJ0_checkIndex_df160_5 : decode cJ0_checkIndex_df160 5 = .ok (.invokestatic 1059, 3) := by decide +kernel
theorem dJ0_checkIndex_df160_8 : decode cJ0_checkIndex_df160 8 = .ok (.pop, 1) := by decide +kernel
theorem dJ0_checkIndex_df160_9 : decode cJ0_checkIndex_df160 9 = .ok (.return_, 1) := by decide +kernel
theorem dJ1_charAt_3b067_0 : decode cJ1_charAt_3b067 0 = .ok (.iload_n 1, 1) := by decide +kernel
theorem dJ1_charAt_3b067_1 : decode cJ1_charAt_3b067 1 = .ok (.aload_n 0, 1) := by decide +kernel
theorem dJ1_charAt_3b067_2 : decode cJ1_charAt_3b067 2 = .ok (.arraylength, 1) := by decide +kernel
theorem dJ1_charAt_3b067_3 : decode cJ1_charAt_3b067 3 = .ok (.invokestatic 9, 3) := by decide +kernel
theorem dJ1_charAt_3b067_6 : decode cJ1_charAt_3b067 6 = .ok (.aload_n 0, 1) := by decide +kernel
theorem dJ1_charAt_3b067_7 : decode cJ1_charAt_3b067 7 = .ok (.iload_n 1, 1) := by decide +kernel
theorem dJ1_charAt_3b067_8 : decode cJ1_charAt_3b067 8 = .ok (.baload, 1) := by decide +kernel
theorem dJ1_charAt_3b067_9 : decode cJ1_charAt_3b067 9 = .ok (.sipush 255, 3) := by decide +kernel
theorem dJ1_charAt_3b067_12 : decode cJ1_charAt_3b067 12 = .ok (.iand, 1) := by decide +kernel
theorem dJ1_charAt_3b067_13 : decode cJ1_charAt_3b067 13 = .ok (.i2c, 1) := by decide +kernel
theorem dJ1_charAt_3b067_14 : decode cJ1_charAt_3b067 14 = .ok (.ireturn, 1) := by decide +kernel
theorem dJ2_getChar_3b067_0 : decode cJ2_getChar_3b067 0 = .ok (.getstatic 44, 3) := by decide +kernel
theorem dJ2_getChar_3b067_3 : decode cJ2_getChar_3b067 3 = .ok (.ifCond .ne 25, 3) := by decide +kernel
theorem dJ2_getChar_3b067_6 : decode cJ2_getChar_3b067 6 = .ok (.iload_n 1, 1) := by decide +kernel
theorem dJ2_getChar_3b067_7 : decode cJ2_getChar_3b067 7 = .ok (.ifCond .lt 11, 3) := by decide +kernel
theorem dJ2_getChar_3b067_10 : decode cJ2_getChar_3b067 10 = .ok (.iload_n 1, 1) := by decide +kernel
theorem dJ2_getChar_3b067_11 : decode cJ2_getChar_3b067 11 = .ok (.aload_n 0, 1) := by decide +kernel
theorem dJ2_getChar_3b067_12 : decode cJ2_getChar_3b067 12 = .ok (.invokestatic 48, 3) := by decide +kernel
theorem dJ2_getChar_3b067_15 : decode cJ2_getChar_3b067 15 = .ok (.if_icmp .lt 13, 3) := by decide +kernel
theorem dJ2_getChar_3b067_18 : decode cJ2_getChar_3b067 18 = .ok (.new 52, 3) := by decide +kernel
theorem dJ2_getChar_3b067_21 : decode cJ2_getChar_3b067 21 = .ok (.dup, 1) := by decide +kernel
theorem dJ2_getChar_3b067_22 : decode cJ2_getChar_3b067 22 = .ok (.ldc 54, 2) := by decide +kernel
theorem dJ2_getChar_3b067_24 : decode cJ2_getChar_3b067 24 = .ok (.invokespecial 56, 3) := by decide +kernel
theorem dJ2_getChar_3b067_27 : decode cJ2_getChar_3b067 27 = .ok (.athrow, 1) := by decide +kernel
theorem dJ2_getChar_3b067_28 : decode cJ2_getChar_3b067 28 = .ok (.iload_n 1, 1) := by decide +kernel
theorem dJ2_getChar_3b067_29 : decode cJ2_getChar_3b067 29 = .ok (.iconst 1, 1) := by decide +kernel
theorem dJ2_getChar_3b067_30 : decode cJ2_getChar_3b067 30 = .ok (.ishl, 1) := by decide +kernel
theorem dJ2_getChar_3b067_31 : decode cJ2_getChar_3b067 31 = .ok (.istore_n 1, 1) := by decide +kernel
theorem dJ2_getChar_3b067_32 : decode cJ2_getChar_3b067 32 = .ok (.aload_n 0, 1) := by decide +kernel
theorem dJ2_getChar_3b067_33 : decode cJ2_getChar_3b067 33 = .ok (.iload_n 1, 1) := by decide +kernel
theorem dJ2_getChar_3b067_34 : decode cJ2_getChar_3b067 34 = .ok (.iinc 1 1, 3) := by decide +kernel
theorem dJ2_getChar_3b067_37 : decode cJ2_getChar_3b067 37 = .ok (.baload, 1) := by decide +kernel
theorem dJ2_getChar_3b067_38 : decode cJ2_getChar_3b067 38 = .ok (.sipush 255, 3) := by decide +kernel
theorem dJ2_getChar_3b067_41 : decode cJ2_getChar_3b067 41 = .ok (.iand, 1) := by decide +kernel
theorem dJ2_getChar_3b067_42 : decode cJ2_getChar_3b067 42 = .ok (.getstatic 59, 3) := by decide +kernel
theorem dJ2_getChar_3b067_45 : decode cJ2_getChar_3b067 45 = .ok (.ishl, 1) := by decide +kernel
theorem dJ2_getChar_3b067_46 : decode cJ2_getChar_3b067 46 = .ok (.aload_n 0, 1) := by decide +kernel
theorem dJ2_getChar_3b067_47 : decode cJ2_getChar_3b067 47 = .ok (.iload_n 1, 1) := by decide +kernel
theorem dJ2_getChar_3b067_48 : decode cJ2_getChar_3b067 48 = .ok (.baload, 1) := by decide +kernel
theorem dJ2_getChar_3b067_49 : decode cJ2_getChar_3b067 49 = .ok (.sipush 255, 3) := by decide +kernel
theorem dJ2_getChar_3b067_52 : decode cJ2_getChar_3b067 52 = .ok (.iand, 1) := by decide +kernel
theorem dJ2_getChar_3b067_53 : decode cJ2_getChar_3b067 53 = .ok (.getstatic 63, 3) := by decide +kernel
theorem dJ2_getChar_3b067_56 : decode cJ2_getChar_3b067 56 = .ok (.ishl, 1) := by decide +kernel
theorem dJ2_getChar_3b067_57 : decode cJ2_getChar_3b067 57 = .ok (.ior, 1) := by decide +kernel
theorem dJ2_getChar_3b067_58 : decode cJ2_getChar_3b067 58 = .ok (.i2c, 1) := by decide +kernel
theorem dJ2_getChar_3b067_59 : decode cJ2_getChar_3b067 59 = .ok (.ireturn, 1) := by decide +kernel
theorem dJ2_length_9d52b_0 : decode cJ2_length_9d52b 0 = .ok (.aload_n 0, 1) := by decide +kernel
theorem dJ2_length_9d52b_1 : decode cJ2_length_9d52b 1 = .ok (.arraylength, 1) := by decide +kernel
theorem dJ2_length_9d52b_2 : decode cJ2_length_9d52b 2 = .ok (.iconst 1, 1) := by decide +kernel
theorem dJ2_length_9d52b_3 : decode cJ2_length_9d52b 3 = .ok (.ishr, 1) := by decide +kernel
theorem dJ2_length_9d52b_4 : decode cJ2_length_9d52b 4 = .ok (.ireturn, 1) := by decide +kernel
theorem dJ2_charAt_3b067_0 : decode cJ2_charAt_3b067 0 = .ok (.iload_n 1, 1) := by decide +kernel
theorem dJ2_charAt_3b067_1 : decode cJ2_charAt_3b067 1 = .ok (.aload_n 0, 1) := by decide +kernel
theorem dJ2_charAt_3b067_2 : decode cJ2_charAt_3b067 2 = .ok (.invokestatic 67, 3) := by decide +kernel
theorem dJ2_charAt_3b067_5 : decode cJ2_charAt_3b067 5 = .ok (.aload_n 0, 1) := by decide +kernel
theorem dJ2_charAt_3b067_6 : decode cJ2_charAt_3b067 6 = .ok (.iload_n 1, 1) := by decide +kernel
theorem dJ2_charAt_3b067_7 : decode cJ2_charAt_3b067 7 = .ok (.invokestatic 71, 3) := by decide +kernel
theorem dJ2_charAt_3b067_10 : decode cJ2_charAt_3b067 10 = .ok (.ireturn, 1) := by decide +kernel
theorem dJ2_checkIndex_2214a_0 : decode cJ2_checkIndex_2214a 0 = .ok (.iload_n 0, 1) := by decide +kernel
theorem dJ2_checkIndex_2214a_1 : decode cJ2_checkIndex_2214a 1 = .ok (.aload_n 1, 1) := by decide +kernel
theorem dJ2_checkIndex_2214a_2 : decode cJ2_checkIndex_2214a 2 = .ok (.invokestatic 48, 3) := by decide +kernel
theorem dJ2_checkIndex_2214a_5 : decode cJ2_checkIndex_2214a 5 = .ok (.invokestatic 414, 3) := by decide +kernel
theorem dJ2_checkIndex_2214a_8 : decode cJ2_checkIndex_2214a 8 = .ok (.return_, 1) := by decide +kernel
theorem dJ7_fill_53178_0 : decode cJ7_fill_53178 0 = .ok (.iconst 0, 1) := by decide +kernel
theorem dJ7_fill_53178_1 : decode cJ7_fill_53178 1 = .ok (.istore_n 2, 1) := by decide +kernel
theorem dJ7_fill_53178_2 : decode cJ7_fill_53178 2 = .ok (.aload_n 0, 1) := by decide +kernel
theorem dJ7_fill_53178_3 : decode cJ7_fill_53178 3 = .ok (.arraylength, 1) := by decide +kernel
theorem dJ7_fill_53178_4 : decode cJ7_fill_53178 4 = .ok (.istore_n 3, 1) := by decide +kernel
theorem dJ7_fill_53178_5 : decode cJ7_fill_53178 5 = .ok (.iload_n 2, 1) := by decide +kernel
theorem dJ7_fill_53178_6 : decode cJ7_fill_53178 6 = .ok (.iload_n 3, 1) := by decide +kernel
theorem dJ7_fill_53178_7 : decode cJ7_fill_53178 7 = .ok (.if_icmp .ge 13, 3) := by decide +kernel
theorem dJ7_fill_53178_10 : decode cJ7_fill_53178 10 = .ok (.aload_n 0, 1) := by decide +kernel
theorem dJ7_fill_53178_11 : decode cJ7_fill_53178 11 = .ok (.iload_n 2, 1) := by decide +kernel
theorem dJ7_fill_53178_12 : decode cJ7_fill_53178 12 = .ok (.iload_n 1, 1) := by decide +kernel
theorem dJ7_fill_53178_13 : decode cJ7_fill_53178 13 = .ok (.iastore, 1) := by decide +kernel
theorem dJ7_fill_53178_14 : decode cJ7_fill_53178 14 = .ok (.iinc 2 1, 3) := by decide +kernel
theorem dJ7_fill_53178_17 : decode cJ7_fill_53178 17 = .ok (.goto (-12), 3) := by decide +kernel
theorem dJ7_fill_53178_20 : decode cJ7_fill_53178 20 = .ok (.return_, 1) := by decide +kernel
theorem dJ3_checkIndex_8e157_0 : decode cJ3_checkIndex_8e157 0 = .ok (.iload_n 0, 1) := by decide +kernel
theorem dJ3_checkIndex_8e157_1 : decode cJ3_checkIndex_8e157 1 = .ok (.ifCond .lt 8, 3) := by decide +kernel
theorem dJ3_checkIndex_8e157_4 : decode cJ3_checkIndex_8e157 4 = .ok (.iload_n 0, 1) := by decide +kernel
theorem dJ3_checkIndex_8e157_5 : decode cJ3_checkIndex_8e157 5 = .ok (.iload_n 1, 1) := by decide +kernel
theorem dJ3_checkIndex_8e157_6 : decode cJ3_checkIndex_8e157 6 = .ok (.if_icmp .lt 10, 3) := by decide +kernel
theorem dJ3_checkIndex_8e157_9 : decode cJ3_checkIndex_8e157 9 = .ok (.aload_n 2, 1) := by decide +kernel
theorem dJ3_checkIndex_8e157_10 : decode cJ3_checkIndex_8e157 10 = .ok (.iload_n 0, 1) := by decide +kernel
theorem dJ3_checkIndex_8e157_11 : decode cJ3_checkIndex_8e157 11 = .ok (.iload_n 1, 1) := by decide +kernel
theorem dJ3_checkIndex_8e157_12 : decode cJ3_checkIndex_8e157 12 = .ok (.invokestatic 95, 3) := by decide +kernel
theorem dJ3_checkIndex_8e157_15 : decode cJ3_checkIndex_8e157 15 = .ok (.athrow, 1) := by decide +kernel
theorem dJ3_checkIndex_8e157_16 : decode cJ3_checkIndex_8e157 16 = .ok (.iload_n 0, 1) := by decide +kernel
theorem dJ3_checkIndex_8e157_17 : decode cJ3_checkIndex_8e157 17 = .ok (.ireturn, 1) := by decide +kernel
theorem dL_law_0 : decode cL_law 0 = .ok (.new 7, 3) := by decide +kernel
theorem dL_law_3 : decode cL_law 3 = .ok (.dup, 1) := by decide +kernel
theorem dL_law_4 : decode cL_law 4 = .ok (.invokespecial 9, 3) := by decide +kernel
theorem dL_law_7 : decode cL_law 7 = .ok (.astore_n 1, 1) := by decide +kernel
theorem dL_law_8 : decode cL_law 8 = .ok (.new 10, 3) := by decide +kernel
theorem dL_law_11 : decode cL_law 11 = .ok (.dup, 1) := by decide +kernel
theorem dL_law_12 : decode cL_law 12 = .ok (.invokespecial 12, 3) := by decide +kernel
theorem dL_law_15 : decode cL_law 15 = .ok (.astore_n 2, 1) := by decide +kernel
theorem dL_law_16 : decode cL_law 16 = .ok (.iconst 0, 1) := by decide +kernel
theorem dL_law_17 : decode cL_law 17 = .ok (.istore_n 3, 1) := by decide +kernel
theorem dL_law_18 : decode cL_law 18 = .ok (.iload_n 3, 1) := by decide +kernel
theorem dL_law_19 : decode cL_law 19 = .ok (.aload_n 0, 1) := by decide +kernel
theorem dL_law_20 : decode cL_law 20 = .ok (.arraylength, 1) := by decide +kernel
theorem dL_law_21 : decode cL_law 21 = .ok (.bipush 6, 2) := by decide +kernel
theorem dL_law_23 : decode cL_law 23 = .ok (.isub, 1) := by decide +kernel
theorem dL_law_24 : decode cL_law 24 = .ok (.if_icmp .gt 1190, 3) := by decide +kernel
theorem dL_law_27 : decode cL_law 27 = .ok (.aload_n 0, 1) := by decide +kernel
theorem dL_law_28 : decode cL_law 28 = .ok (.iload_n 3, 1) := by decide +kernel
theorem dL_law_29 : decode cL_law 29 = .ok (.iaload, 1) := by decide +kernel
theorem dL_law_30 : decode cL_law 30 = .ok (.bipush 63, 2) := by decide +kernel
theorem dL_law_32 : decode cL_law 32 = .ok (.iand, 1) := by decide +kernel
theorem dL_law_33 : decode cL_law 33 = .ok (.tableswitch 1175 0 40 #[179, 212, 255, 288, 311, 374, 397, 430, 473, 496, 519, 552, 585, 608, 641, 654, 677, 700, 723, 746, 759, 772, 795, 818, 841, 874, 887, 910, 933, 956, 969, 982, 1005, 1028, 1061, 1074, 1088, 1102, 1125, 1138, 1161], 179) := by decide +kernel
theorem dL_law_212 : decode cL_law 212 = .ok (.aload_n 1, 1) := by decide +kernel
theorem dL_law_213 : decode cL_law 213 = .ok (.aload_n 0, 1) := by decide +kernel
theorem dL_law_214 : decode cL_law 214 = .ok (.iload_n 3, 1) := by decide +kernel
theorem dL_law_215 : decode cL_law 215 = .ok (.iconst 1, 1) := by decide +kernel
theorem dL_law_216 : decode cL_law 216 = .ok (.iadd, 1) := by decide +kernel
theorem dL_law_217 : decode cL_law 217 = .ok (.iaload, 1) := by decide +kernel
theorem dL_law_218 : decode cL_law 218 = .ok (.aload_n 0, 1) := by decide +kernel
theorem dL_law_219 : decode cL_law 219 = .ok (.iload_n 3, 1) := by decide +kernel
theorem dL_law_220 : decode cL_law 220 = .ok (.iconst 2, 1) := by decide +kernel
theorem dL_law_221 : decode cL_law 221 = .ok (.iadd, 1) := by decide +kernel
theorem dL_law_222 : decode cL_law 222 = .ok (.iaload, 1) := by decide +kernel
theorem dL_law_223 : decode cL_law 223 = .ok (.invokevirtual 13, 3) := by decide +kernel
theorem dL_law_226 : decode cL_law 226 = .ok (.aload_n 2, 1) := by decide +kernel
theorem dL_law_227 : decode cL_law 227 = .ok (.aload_n 0, 1) := by decide +kernel
theorem dL_law_228 : decode cL_law 228 = .ok (.iload_n 3, 1) := by decide +kernel
theorem dL_law_229 : decode cL_law 229 = .ok (.iconst 1, 1) := by decide +kernel
theorem dL_law_230 : decode cL_law 230 = .ok (.iadd, 1) := by decide +kernel
theorem dL_law_231 : decode cL_law 231 = .ok (.iaload, 1) := by decide +kernel
theorem dL_law_232 : decode cL_law 232 = .ok (.aload_n 0, 1) := by decide +kernel
theorem dL_law_233 : decode cL_law 233 = .ok (.iload_n 3, 1) := by decide +kernel
theorem dL_law_234 : decode cL_law 234 = .ok (.iconst 2, 1) := by decide +kernel
theorem dL_law_235 : decode cL_law 235 = .ok (.iadd, 1) := by decide +kernel
theorem dL_law_236 : decode cL_law 236 = .ok (.iaload, 1) := by decide +kernel
theorem dL_law_237 : decode cL_law 237 = .ok (.invokevirtual 17, 3) := by decide +kernel
theorem dL_law_240 : decode cL_law 240 = .ok (.if_icmp .eq 968, 3) := by decide +kernel
theorem dL_law_243 : decode cL_law 243 = .ok (.iconst 0, 1) := by decide +kernel
theorem dL_law_244 : decode cL_law 244 = .ok (.ireturn, 1) := by decide +kernel
theorem dL_law_245 : decode cL_law 245 = .ok (.aload_n 1, 1) := by decide +kernel
theorem dL_law_246 : decode cL_law 246 = .ok (.aload_n 0, 1) := by decide +kernel
theorem dL_law_247 : decode cL_law 247 = .ok (.iload_n 3, 1) := by decide +kernel
theorem dL_law_248 : decode cL_law 248 = .ok (.iconst 1, 1) := by decide +kernel
theorem dL_law_249 : decode cL_law 249 = .ok (.iadd, 1) := by decide +kernel
theorem dL_law_250 : decode cL_law 250 = .ok (.iaload, 1) := by decide +kernel
theorem dL_law_251 : decode cL_law 251 = .ok (.aload_n 0, 1) := by decide +kernel
theorem dL_law_252 : decode cL_law 252 = .ok (.iload_n 3, 1) := by decide +kernel
theorem dL_law_253 : decode cL_law 253 = .ok (.iconst 2, 1) := by decide +kernel
theorem dL_law_254 : decode cL_law 254 = .ok (.iadd, 1) := by decide +kernel
theorem dL_law_255 : decode cL_law 255 = .ok (.iaload, 1) := by decide +kernel
theorem dL_law_256 : decode cL_law 256 = .ok (.aload_n 0, 1) := by decide +kernel
theorem dL_law_257 : decode cL_law 257 = .ok (.iload_n 3, 1) := by decide +kernel
theorem dL_law_258 : decode cL_law 258 = .ok (.iconst 3, 1) := by decide +kernel
theorem dL_law_259 : decode cL_law 259 = .ok (.iadd, 1) := by decide +kernel
theorem dL_law_260 : decode cL_law 260 = .ok (.iaload, 1) := by decide +kernel
theorem dL_law_261 : decode cL_law 261 = .ok (.invokevirtual 18, 3) := by decide +kernel
theorem dL_law_264 : decode cL_law 264 = .ok (.aload_n 2, 1) := by decide +kernel
theorem dL_law_265 : decode cL_law 265 = .ok (.aload_n 0, 1) := by decide +kernel
theorem dL_law_266 : decode cL_law 266 = .ok (.iload_n 3, 1) := by decide +kernel
theorem dL_law_267 : decode cL_law 267 = .ok (.iconst 1, 1) := by decide +kernel
theorem dL_law_268 : decode cL_law 268 = .ok (.iadd, 1) := by decide +kernel
theorem dL_law_269 : decode cL_law 269 = .ok (.iaload, 1) := by decide +kernel
theorem dL_law_270 : decode cL_law 270 = .ok (.aload_n 0, 1) := by decide +kernel
theorem dL_law_271 : decode cL_law 271 = .ok (.iload_n 3, 1) := by decide +kernel
theorem dL_law_272 : decode cL_law 272 = .ok (.iconst 2, 1) := by decide +kernel
theorem dL_law_273 : decode cL_law 273 = .ok (.iadd, 1) := by decide +kernel
theorem dL_law_274 : decode cL_law 274 = .ok (.iaload, 1) := by decide +kernel
theorem dL_law_275 : decode cL_law 275 = .ok (.aload_n 0, 1) := by decide +kernel
theorem dL_law_276 : decode cL_law 276 = .ok (.iload_n 3, 1) := by decide +kernel
theorem dL_law_277 : decode cL_law 277 = .ok (.iconst 3, 1) := by decide +kernel
theorem dL_law_278 : decode cL_law 278 = .ok (.iadd, 1) := by decide +kernel
theorem dL_law_279 : decode cL_law 279 = .ok (.iaload, 1) := by decide +kernel
theorem dL_law_280 : decode cL_law 280 = .ok (.invokevirtual 22, 3) := by decide +kernel
theorem dL_law_283 : decode cL_law 283 = .ok (.if_icmp .eq 925, 3) := by decide +kernel
theorem dL_law_286 : decode cL_law 286 = .ok (.iconst 0, 1) := by decide +kernel
theorem dL_law_287 : decode cL_law 287 = .ok (.ireturn, 1) := by decide +kernel
theorem dL_law_288 : decode cL_law 288 = .ok (.aload_n 1, 1) := by decide +kernel
theorem dL_law_289 : decode cL_law 289 = .ok (.aload_n 0, 1) := by decide +kernel
theorem dL_law_290 : decode cL_law 290 = .ok (.iload_n 3, 1) := by decide +kernel
theorem dL_law_291 : decode cL_law 291 = .ok (.iconst 1, 1) := by decide +kernel
theorem dL_law_292 : decode cL_law 292 = .ok (.iadd, 1) := by decide +kernel
theorem dL_law_293 : decode cL_law 293 = .ok (.iaload, 1) := by decide +kernel
theorem dL_law_294 : decode cL_law 294 = .ok (.aload_n 0, 1) := by decide +kernel
theorem dL_law_295 : decode cL_law 295 = .ok (.iload_n 3, 1) := by decide +kernel
theorem dL_law_296 : decode cL_law 296 = .ok (.iconst 2, 1) := by decide +kernel
theorem dL_law_297 : decode cL_law 297 = .ok (.iadd, 1) := by decide +kernel
theorem dL_law_298 : decode cL_law 298 = .ok (.iaload, 1) := by decide +kernel
theorem dL_law_299 : decode cL_law 299 = .ok (.invokevirtual 23, 3) := by decide +kernel
theorem dL_law_302 : decode cL_law 302 = .ok (.aload_n 2, 1) := by decide +kernel
theorem dL_law_303 : decode cL_law 303 = .ok (.aload_n 0, 1) := by decide +kernel
theorem dL_law_304 : decode cL_law 304 = .ok (.iload_n 3, 1) := by decide +kernel
theorem dL_law_305 : decode cL_law 305 = .ok (.iconst 1, 1) := by decide +kernel
theorem dL_law_306 : decode cL_law 306 = .ok (.iadd, 1) := by decide +kernel
theorem dL_law_307 : decode cL_law 307 = .ok (.iaload, 1) := by decide +kernel
theorem dL_law_308 : decode cL_law 308 = .ok (.aload_n 0, 1) := by decide +kernel
theorem dL_law_309 : decode cL_law 309 = .ok (.iload_n 3, 1) := by decide +kernel
theorem dL_law_310 : decode cL_law 310 = .ok (.iconst 2, 1) := by decide +kernel
theorem dL_law_311 : decode cL_law 311 = .ok (.iadd, 1) := by decide +kernel
theorem dL_law_312 : decode cL_law 312 = .ok (.iaload, 1) := by decide +kernel
theorem dL_law_313 : decode cL_law 313 = .ok (.invokevirtual 26, 3) := by decide +kernel
theorem dL_law_316 : decode cL_law 316 = .ok (.if_icmp .eq 892, 3) := by decide +kernel
theorem dL_law_319 : decode cL_law 319 = .ok (.iconst 0, 1) := by decide +kernel
theorem dL_law_320 : decode cL_law 320 = .ok (.ireturn, 1) := by decide +kernel
theorem dL_law_321 : decode cL_law 321 = .ok (.aload_n 1, 1) := by decide +kernel
theorem dL_law_322 : decode cL_law 322 = .ok (.aload_n 0, 1) := by decide +kernel
theorem dL_law_323 : decode cL_law 323 = .ok (.iload_n 3, 1) := by decide +kernel
theorem dL_law_324 : decode cL_law 324 = .ok (.iconst 1, 1) := by decide +kernel
theorem dL_law_325 : decode cL_law 325 = .ok (.iadd, 1) := by decide +kernel
theorem dL_law_326 : decode cL_law 326 = .ok (.iaload, 1) := by decide +kernel
theorem dL_law_327 : decode cL_law 327 = .ok (.invokevirtual 27, 3) := by decide +kernel
theorem dL_law_330 : decode cL_law 330 = .ok (.aload_n 2, 1) := by decide +kernel
theorem dL_law_331 : decode cL_law 331 = .ok (.aload_n 0, 1) := by decide +kernel
theorem dL_law_332 : decode cL_law 332 = .ok (.iload_n 3, 1) := by decide +kernel
theorem dL_law_333 : decode cL_law 333 = .ok (.iconst 1, 1) := by decide +kernel
theorem dL_law_334 : decode cL_law 334 = .ok (.iadd, 1) := by decide +kernel
theorem dL_law_335 : decode cL_law 335 = .ok (.iaload, 1) := by decide +kernel
theorem dL_law_336 : decode cL_law 336 = .ok (.invokevirtual 31, 3) := by decide +kernel
theorem dL_law_339 : decode cL_law 339 = .ok (.if_icmp .eq 869, 3) := by decide +kernel
theorem dL_law_342 : decode cL_law 342 = .ok (.iconst 0, 1) := by decide +kernel
theorem dL_law_343 : decode cL_law 343 = .ok (.ireturn, 1) := by decide +kernel
theorem dL_law_344 : decode cL_law 344 = .ok (.aload_n 1, 1) := by decide +kernel
theorem dL_law_345 : decode cL_law 345 = .ok (.aload_n 0, 1) := by decide +kernel
theorem dL_law_346 : decode cL_law 346 = .ok (.iload_n 3, 1) := by decide +kernel
theorem dL_law_347 : decode cL_law 347 = .ok (.iconst 1, 1) := by decide +kernel
theorem dL_law_348 : decode cL_law 348 = .ok (.iadd, 1) := by decide +kernel
theorem dL_law_349 : decode cL_law 349 = .ok (.iaload, 1) := by decide +kernel
theorem dL_law_350 : decode cL_law 350 = .ok (.aload_n 0, 1) := by decide +kernel
theorem dL_law_351 : decode cL_law 351 = .ok (.iload_n 3, 1) := by decide +kernel
theorem dL_law_352 : decode cL_law 352 = .ok (.iconst 2, 1) := by decide +kernel
theorem dL_law_353 : decode cL_law 353 = .ok (.iadd, 1) := by decide +kernel
theorem dL_law_354 : decode cL_law 354 = .ok (.iaload, 1) := by decide +kernel
theorem dL_law_355 : decode cL_law 355 = .ok (.aload_n 0, 1) := by decide +kernel
theorem dL_law_356 : decode cL_law 356 = .ok (.iload_n 3, 1) := by decide +kernel
theorem dL_law_357 : decode cL_law 357 = .ok (.iconst 3, 1) := by decide +kernel
theorem dL_law_358 : decode cL_law 358 = .ok (.iadd, 1) := by decide +kernel
theorem dL_law_359 : decode cL_law 359 = .ok (.iaload, 1) := by decide +kernel
theorem dL_law_360 : decode cL_law 360 = .ok (.aload_n 0, 1) := by decide +kernel
theorem dL_law_361 : decode cL_law 361 = .ok (.iload_n 3, 1) := by decide +kernel
theorem dL_law_362 : decode cL_law 362 = .ok (.iconst 4, 1) := by decide +kernel
theorem dL_law_363 : decode cL_law 363 = .ok (.iadd, 1) := by decide +kernel
theorem dL_law_364 : decode cL_law 364 = .ok (.iaload, 1) := by decide +kernel
theorem dL_law_365 : decode cL_law 365 = .ok (.aload_n 0, 1) := by decide +kernel
theorem dL_law_366 : decode cL_law 366 = .ok (.iload_n 3, 1) := by decide +kernel
theorem dL_law_367 : decode cL_law 367 = .ok (.iconst 5, 1) := by decide +kernel
theorem dL_law_368 : decode cL_law 368 = .ok (.iadd, 1) := by decide +kernel
theorem dL_law_369 : decode cL_law 369 = .ok (.iaload, 1) := by decide +kernel
theorem dL_law_370 : decode cL_law 370 = .ok (.invokevirtual 32, 3) := by decide +kernel
theorem dL_law_373 : decode cL_law 373 = .ok (.aload_n 2, 1) := by decide +kernel
theorem dL_law_374 : decode cL_law 374 = .ok (.aload_n 0, 1) := by decide +kernel
theorem dL_law_375 : decode cL_law 375 = .ok (.iload_n 3, 1) := by decide +kernel
theorem dL_law_376 : decode cL_law 376 = .ok (.iconst 1, 1) := by decide +kernel
theorem dL_law_377 : decode cL_law 377 = .ok (.iadd, 1) := by decide +kernel
theorem dL_law_378 : decode cL_law 378 = .ok (.iaload, 1) := by decide +kernel
theorem dL_law_379 : decode cL_law 379 = .ok (.aload_n 0, 1) := by decide +kernel
theorem dL_law_380 : decode cL_law 380 = .ok (.iload_n 3, 1) := by decide +kernel
theorem dL_law_381 : decode cL_law 381 = .ok (.iconst 2, 1) := by decide +kernel
theorem dL_law_382 : decode cL_law 382 = .ok (.iadd, 1) := by decide +kernel
theorem dL_law_383 : decode cL_law 383 = .ok (.iaload, 1) := by decide +kernel
theorem dL_law_384 : decode cL_law 384 = .ok (.aload_n 0, 1) := by decide +kernel
theorem dL_law_385 : decode cL_law 385 = .ok (.iload_n 3, 1) := by decide +kernel
theorem dL_law_386 : decode cL_law 386 = .ok (.iconst 3, 1) := by decide +kernel
theorem dL_law_387 : decode cL_law 387 = .ok (.iadd, 1) := by decide +kernel
theorem dL_law_388 : decode cL_law 388 = .ok (.iaload, 1) := by decide +kernel
theorem dL_law_389 : decode cL_law 389 = .ok (.aload_n 0, 1) := by decide +kernel
theorem dL_law_390 : decode cL_law 390 = .ok (.iload_n 3, 1) := by decide +kernel
theorem dL_law_391 : decode cL_law 391 = .ok (.iconst 4, 1) := by decide +kernel
theorem dL_law_392 : decode cL_law 392 = .ok (.iadd, 1) := by decide +kernel
theorem dL_law_393 : decode cL_law 393 = .ok (.iaload, 1) := by decide +kernel
theorem dL_law_394 : decode cL_law 394 = .ok (.aload_n 0, 1) := by decide +kernel
theorem dL_law_395 : decode cL_law 395 = .ok (.iload_n 3, 1) := by decide +kernel
theorem dL_law_396 : decode cL_law 396 = .ok (.iconst 5, 1) := by decide +kernel
theorem dL_law_397 : decode cL_law 397 = .ok (.iadd, 1) := by decide +kernel
theorem dL_law_398 : decode cL_law 398 = .ok (.iaload, 1) := by decide +kernel
theorem dL_law_399 : decode cL_law 399 = .ok (.invokevirtual 36, 3) := by decide +kernel
theorem dL_law_402 : decode cL_law 402 = .ok (.if_icmp .eq 806, 3) := by decide +kernel
theorem dL_law_405 : decode cL_law 405 = .ok (.iconst 0, 1) := by decide +kernel
theorem dL_law_406 : decode cL_law 406 = .ok (.ireturn, 1) := by decide +kernel
theorem dL_law_407 : decode cL_law 407 = .ok (.aload_n 1, 1) := by decide +kernel
theorem dL_law_408 : decode cL_law 408 = .ok (.aload_n 0, 1) := by decide +kernel
theorem dL_law_409 : decode cL_law 409 = .ok (.iload_n 3, 1) := by decide +kernel
theorem dL_law_410 : decode cL_law 410 = .ok (.iconst 1, 1) := by decide +kernel
theorem dL_law_411 : decode cL_law 411 = .ok (.iadd, 1) := by decide +kernel
theorem dL_law_412 : decode cL_law 412 = .ok (.iaload, 1) := by decide +kernel
theorem dL_law_413 : decode cL_law 413 = .ok (.invokevirtual 37, 3) := by decide +kernel
theorem dL_law_416 : decode cL_law 416 = .ok (.aload_n 2, 1) := by decide +kernel
theorem dL_law_417 : decode cL_law 417 = .ok (.aload_n 0, 1) := by decide +kernel
theorem dL_law_418 : decode cL_law 418 = .ok (.iload_n 3, 1) := by decide +kernel
theorem dL_law_419 : decode cL_law 419 = .ok (.iconst 1, 1) := by decide +kernel
theorem dL_law_420 : decode cL_law 420 = .ok (.iadd, 1) := by decide +kernel
theorem dL_law_421 : decode cL_law 421 = .ok (.iaload, 1) := by decide +kernel
theorem dL_law_422 : decode cL_law 422 = .ok (.invokevirtual 40, 3) := by decide +kernel
theorem dL_law_425 : decode cL_law 425 = .ok (.if_icmp .eq 783, 3) := by decide +kernel
theorem dL_law_428 : decode cL_law 428 = .ok (.iconst 0, 1) := by decide +kernel
theorem dL_law_429 : decode cL_law 429 = .ok (.ireturn, 1) := by decide +kernel
theorem dL_law_430 : decode cL_law 430 = .ok (.aload_n 1, 1) := by decide +kernel
theorem dL_law_431 : decode cL_law 431 = .ok (.aload_n 0, 1) := by decide +kernel
theorem dL_law_432 : decode cL_law 432 = .ok (.iload_n 3, 1) := by decide +kernel
theorem dL_law_433 : decode cL_law 433 = .ok (.iconst 1, 1) := by decide +kernel
theorem dL_law_434 : decode cL_law 434 = .ok (.iadd, 1) := by decide +kernel
theorem dL_law_435 : decode cL_law 435 = .ok (.iaload, 1) := by decide +kernel
theorem dL_law_436 : decode cL_law 436 = .ok (.aload_n 0, 1) := by decide +kernel
theorem dL_law_437 : decode cL_law 437 = .ok (.iload_n 3, 1) := by decide +kernel
theorem dL_law_438 : decode cL_law 438 = .ok (.iconst 2, 1) := by decide +kernel
theorem dL_law_439 : decode cL_law 439 = .ok (.iadd, 1) := by decide +kernel
theorem dL_law_440 : decode cL_law 440 = .ok (.iaload, 1) := by decide +kernel
theorem dL_law_441 : decode cL_law 441 = .ok (.invokevirtual 41, 3) := by decide +kernel
theorem dL_law_444 : decode cL_law 444 = .ok (.aload_n 2, 1) := by decide +kernel
theorem dL_law_445 : decode cL_law 445 = .ok (.aload_n 0, 1) := by decide +kernel
theorem dL_law_446 : decode cL_law 446 = .ok (.iload_n 3, 1) := by decide +kernel
theorem dL_law_447 : decode cL_law 447 = .ok (.iconst 1, 1) := by decide +kernel
theorem dL_law_448 : decode cL_law 448 = .ok (.iadd, 1) := by decide +kernel
theorem dL_law_449 : decode cL_law 449 = .ok (.iaload, 1) := by decide +kernel
theorem dL_law_450 : decode cL_law 450 = .ok (.aload_n 0, 1) := by decide +kernel
theorem dL_law_451 : decode cL_law 451 = .ok (.iload_n 3, 1) := by decide +kernel
theorem dL_law_452 : decode cL_law 452 = .ok (.iconst 2, 1) := by decide +kernel
theorem dL_law_453 : decode cL_law 453 = .ok (.iadd, 1) := by decide +kernel
theorem dL_law_454 : decode cL_law 454 = .ok (.iaload, 1) := by decide +kernel
theorem dL_law_455 : decode cL_law 455 = .ok (.invokevirtual 44, 3) := by decide +kernel
theorem dL_law_458 : decode cL_law 458 = .ok (.if_icmp .eq 750, 3) := by decide +kernel
theorem dL_law_461 : decode cL_law 461 = .ok (.iconst 0, 1) := by decide +kernel
theorem dL_law_462 : decode cL_law 462 = .ok (.ireturn, 1) := by decide +kernel
theorem dL_law_463 : decode cL_law 463 = .ok (.aload_n 1, 1) := by decide +kernel
theorem dL_law_464 : decode cL_law 464 = .ok (.aload_n 0, 1) := by decide +kernel
theorem dL_law_465 : decode cL_law 465 = .ok (.iload_n 3, 1) := by decide +kernel
theorem dL_law_466 : decode cL_law 466 = .ok (.iconst 1, 1) := by decide +kernel
theorem dL_law_467 : decode cL_law 467 = .ok (.iadd, 1) := by decide +kernel
theorem dL_law_468 : decode cL_law 468 = .ok (.iaload, 1) := by decide +kernel
theorem dL_law_469 : decode cL_law 469 = .ok (.aload_n 0, 1) := by decide +kernel
theorem dL_law_470 : decode cL_law 470 = .ok (.iload_n 3, 1) := by decide +kernel
theorem dL_law_471 : decode cL_law 471 = .ok (.iconst 2, 1) := by decide +kernel
theorem dL_law_472 : decode cL_law 472 = .ok (.iadd, 1) := by decide +kernel
theorem dL_law_473 : decode cL_law 473 = .ok (.iaload, 1) := by decide +kernel
theorem dL_law_474 : decode cL_law 474 = .ok (.aload_n 0, 1) := by decide +kernel
theorem dL_law_475 : decode cL_law 475 = .ok (.iload_n 3, 1) := by decide +kernel
theorem dL_law_476 : decode cL_law 476 = .ok (.iconst 3, 1) := by decide +kernel
theorem dL_law_477 : decode cL_law 477 = .ok (.iadd, 1) := by decide +kernel
theorem dL_law_478 : decode cL_law 478 = .ok (.iaload, 1) := by decide +kernel
theorem dL_law_479 : decode cL_law 479 = .ok (.invokevirtual 45, 3) := by decide +kernel
theorem dL_law_482 : decode cL_law 482 = .ok (.aload_n 2, 1) := by decide +kernel
theorem dL_law_483 : decode cL_law 483 = .ok (.aload_n 0, 1) := by decide +kernel
theorem dL_law_484 : decode cL_law 484 = .ok (.iload_n 3, 1) := by decide +kernel
theorem dL_law_485 : decode cL_law 485 = .ok (.iconst 1, 1) := by decide +kernel
theorem dL_law_486 : decode cL_law 486 = .ok (.iadd, 1) := by decide +kernel
theorem dL_law_487 : decode cL_law 487 = .ok (.iaload, 1) := by decide +kernel
theorem dL_law_488 : decode cL_law 488 = .ok (.aload_n 0, 1) := by decide +kernel
theorem dL_law_489 : decode cL_law 489 = .ok (.iload_n 3, 1) := by decide +kernel
theorem dL_law_490 : decode cL_law 490 = .ok (.iconst 2, 1) := by decide +kernel
theorem dL_law_491 : decode cL_law 491 = .ok (.iadd, 1) := by decide +kernel
theorem dL_law_492 : decode cL_law 492 = .ok (.iaload, 1) := by decide +kernel
theorem dL_law_493 : decode cL_law 493 = .ok (.aload_n 0, 1) := by decide +kernel
theorem dL_law_494 : decode cL_law 494 = .ok (.iload_n 3, 1) := by decide +kernel
theorem dL_law_495 : decode cL_law 495 = .ok (.iconst 3, 1) := by decide +kernel
theorem dL_law_496 : decode cL_law 496 = .ok (.iadd, 1) := by decide +kernel
theorem dL_law_497 : decode cL_law 497 = .ok (.iaload, 1) := by decide +kernel
theorem dL_law_498 : decode cL_law 498 = .ok (.invokevirtual 48, 3) := by decide +kernel
theorem dL_law_501 : decode cL_law 501 = .ok (.if_icmp .eq 707, 3) := by decide +kernel
theorem dL_law_504 : decode cL_law 504 = .ok (.iconst 0, 1) := by decide +kernel
theorem dL_law_505 : decode cL_law 505 = .ok (.ireturn, 1) := by decide +kernel
theorem dL_law_506 : decode cL_law 506 = .ok (.aload_n 1, 1) := by decide +kernel
theorem dL_law_507 : decode cL_law 507 = .ok (.aload_n 0, 1) := by decide +kernel
theorem dL_law_508 : decode cL_law 508 = .ok (.iload_n 3, 1) := by decide +kernel
theorem dL_law_509 : decode cL_law 509 = .ok (.iconst 1, 1) := by decide +kernel
theorem dL_law_510 : decode cL_law 510 = .ok (.iadd, 1) := by decide +kernel
theorem dL_law_511 : decode cL_law 511 = .ok (.iaload, 1) := by decide +kernel
theorem dL_law_512 : decode cL_law 512 = .ok (.invokevirtual 49, 3) := by decide +kernel
theorem dL_law_515 : decode cL_law 515 = .ok (.aload_n 2, 1) := by decide +kernel
theorem dL_law_516 : decode cL_law 516 = .ok (.aload_n 0, 1) := by decide +kernel
theorem dL_law_517 : decode cL_law 517 = .ok (.iload_n 3, 1) := by decide +kernel
theorem dL_law_518 : decode cL_law 518 = .ok (.iconst 1, 1) := by decide +kernel
theorem dL_law_519 : decode cL_law 519 = .ok (.iadd, 1) := by decide +kernel
theorem dL_law_520 : decode cL_law 520 = .ok (.iaload, 1) := by decide +kernel
theorem dL_law_521 : decode cL_law 521 = .ok (.invokevirtual 52, 3) := by decide +kernel
theorem dL_law_524 : decode cL_law 524 = .ok (.if_icmp .eq 684, 3) := by decide +kernel
theorem dL_law_527 : decode cL_law 527 = .ok (.iconst 0, 1) := by decide +kernel
theorem dL_law_528 : decode cL_law 528 = .ok (.ireturn, 1) := by decide +kernel
theorem dL_law_529 : decode cL_law 529 = .ok (.aload_n 1, 1) := by decide +kernel
theorem dL_law_530 : decode cL_law 530 = .ok (.aload_n 0, 1) := by decide +kernel
theorem dL_law_531 : decode cL_law 531 = .ok (.iload_n 3, 1) := by decide +kernel
theorem dL_law_532 : decode cL_law 532 = .ok (.iconst 1, 1) := by decide +kernel
theorem dL_law_533 : decode cL_law 533 = .ok (.iadd, 1) := by decide +kernel
theorem dL_law_534 : decode cL_law 534 = .ok (.iaload, 1) := by decide +kernel
theorem dL_law_535 : decode cL_law 535 = .ok (.invokevirtual 53, 3) := by decide +kernel
theorem dL_law_538 : decode cL_law 538 = .ok (.aload_n 2, 1) := by decide +kernel
theorem dL_law_539 : decode cL_law 539 = .ok (.aload_n 0, 1) := by decide +kernel
theorem dL_law_540 : decode cL_law 540 = .ok (.iload_n 3, 1) := by decide +kernel
theorem dL_law_541 : decode cL_law 541 = .ok (.iconst 1, 1) := by decide +kernel
theorem dL_law_542 : decode cL_law 542 = .ok (.iadd, 1) := by decide +kernel
theorem dL_law_543 : decode cL_law 543 = .ok (.iaload, 1) := by decide +kernel
theorem dL_law_544 : decode cL_law 544 = .ok (.invokevirtual 56, 3) := by decide +kernel
theorem dL_law_547 : decode cL_law 547 = .ok (.if_icmp .eq 661, 3) := by decide +kernel
theorem dL_law_550 : decode cL_law 550 = .ok (.iconst 0, 1) := by decide +kernel
theorem dL_law_551 : decode cL_law 551 = .ok (.ireturn, 1) := by decide +kernel
theorem dL_law_552 : decode cL_law 552 = .ok (.aload_n 1, 1) := by decide +kernel
theorem dL_law_553 : decode cL_law 553 = .ok (.aload_n 0, 1) := by decide +kernel
theorem dL_law_554 : decode cL_law 554 = .ok (.iload_n 3, 1) := by decide +kernel
theorem dL_law_555 : decode cL_law 555 = .ok (.iconst 1, 1) := by decide +kernel
theorem dL_law_556 : decode cL_law 556 = .ok (.iadd, 1) := by decide +kernel
theorem dL_law_557 : decode cL_law 557 = .ok (.iaload, 1) := by decide +kernel
theorem dL_law_558 : decode cL_law 558 = .ok (.aload_n 0, 1) := by decide +kernel
theorem dL_law_559 : decode cL_law 559 = .ok (.iload_n 3, 1) := by decide +kernel
theorem dL_law_560 : decode cL_law 560 = .ok (.iconst 2, 1) := by decide +kernel
theorem dL_law_561 : decode cL_law 561 = .ok (.iadd, 1) := by decide +kernel
theorem dL_law_562 : decode cL_law 562 = .ok (.iaload, 1) := by decide +kernel
theorem dL_law_563 : decode cL_law 563 = .ok (.invokevirtual 57, 3) := by decide +kernel
theorem dL_law_566 : decode cL_law 566 = .ok (.aload_n 2, 1) := by decide +kernel
theorem dL_law_567 : decode cL_law 567 = .ok (.aload_n 0, 1) := by decide +kernel
theorem dL_law_568 : decode cL_law 568 = .ok (.iload_n 3, 1) := by decide +kernel
theorem dL_law_569 : decode cL_law 569 = .ok (.iconst 1, 1) := by decide +kernel
theorem dL_law_570 : decode cL_law 570 = .ok (.iadd, 1) := by decide +kernel
theorem dL_law_571 : decode cL_law 571 = .ok (.iaload, 1) := by decide +kernel
theorem dL_law_572 : decode cL_law 572 = .ok (.aload_n 0, 1) := by decide +kernel
theorem dL_law_573 : decode cL_law 573 = .ok (.iload_n 3, 1) := by decide +kernel
theorem dL_law_574 : decode cL_law 574 = .ok (.iconst 2, 1) := by decide +kernel
theorem dL_law_575 : decode cL_law 575 = .ok (.iadd, 1) := by decide +kernel
theorem dL_law_576 : decode cL_law 576 = .ok (.iaload, 1) := by decide +kernel
theorem dL_law_577 : decode cL_law 577 = .ok (.invokevirtual 60, 3) := by decide +kernel
theorem dL_law_580 : decode cL_law 580 = .ok (.if_icmp .eq 628, 3) := by decide +kernel
theorem dL_law_583 : decode cL_law 583 = .ok (.iconst 0, 1) := by decide +kernel
theorem dL_law_584 : decode cL_law 584 = .ok (.ireturn, 1) := by decide +kernel
theorem dL_law_585 : decode cL_law 585 = .ok (.aload_n 1, 1) := by decide +kernel
theorem dL_law_586 : decode cL_law 586 = .ok (.aload_n 0, 1) := by decide +kernel
theorem dL_law_587 : decode cL_law 587 = .ok (.iload_n 3, 1) := by decide +kernel
theorem dL_law_588 : decode cL_law 588 = .ok (.iconst 1, 1) := by decide +kernel
theorem dL_law_589 : decode cL_law 589 = .ok (.iadd, 1) := by decide +kernel
theorem dL_law_590 : decode cL_law 590 = .ok (.iaload, 1) := by decide +kernel
theorem dL_law_591 : decode cL_law 591 = .ok (.aload_n 0, 1) := by decide +kernel
theorem dL_law_592 : decode cL_law 592 = .ok (.iload_n 3, 1) := by decide +kernel
theorem dL_law_593 : decode cL_law 593 = .ok (.iconst 2, 1) := by decide +kernel
theorem dL_law_594 : decode cL_law 594 = .ok (.iadd, 1) := by decide +kernel
theorem dL_law_595 : decode cL_law 595 = .ok (.iaload, 1) := by decide +kernel
theorem dL_law_596 : decode cL_law 596 = .ok (.invokevirtual 61, 3) := by decide +kernel
theorem dL_law_599 : decode cL_law 599 = .ok (.aload_n 2, 1) := by decide +kernel
theorem dL_law_600 : decode cL_law 600 = .ok (.aload_n 0, 1) := by decide +kernel
theorem dL_law_601 : decode cL_law 601 = .ok (.iload_n 3, 1) := by decide +kernel
theorem dL_law_602 : decode cL_law 602 = .ok (.iconst 1, 1) := by decide +kernel
theorem dL_law_603 : decode cL_law 603 = .ok (.iadd, 1) := by decide +kernel
theorem dL_law_604 : decode cL_law 604 = .ok (.iaload, 1) := by decide +kernel
theorem dL_law_605 : decode cL_law 605 = .ok (.aload_n 0, 1) := by decide +kernel
theorem dL_law_606 : decode cL_law 606 = .ok (.iload_n 3, 1) := by decide +kernel
theorem dL_law_607 : decode cL_law 607 = .ok (.iconst 2, 1) := by decide +kernel
theorem dL_law_608 : decode cL_law 608 = .ok (.iadd, 1) := by decide +kernel
theorem dL_law_609 : decode cL_law 609 = .ok (.iaload, 1) := by decide +kernel
theorem dL_law_610 : decode cL_law 610 = .ok (.invokevirtual 64, 3) := by decide +kernel
theorem dL_law_613 : decode cL_law 613 = .ok (.if_icmp .eq 595, 3) := by decide +kernel
theorem dL_law_616 : decode cL_law 616 = .ok (.iconst 0, 1) := by decide +kernel
theorem dL_law_617 : decode cL_law 617 = .ok (.ireturn, 1) := by decide +kernel
theorem dL_law_618 : decode cL_law 618 = .ok (.aload_n 1, 1) := by decide +kernel
theorem dL_law_619 : decode cL_law 619 = .ok (.aload_n 0, 1) := by decide +kernel
theorem dL_law_620 : decode cL_law 620 = .ok (.iload_n 3, 1) := by decide +kernel
theorem dL_law_621 : decode cL_law 621 = .ok (.iconst 1, 1) := by decide +kernel
theorem dL_law_622 : decode cL_law 622 = .ok (.iadd, 1) := by decide +kernel
theorem dL_law_623 : decode cL_law 623 = .ok (.iaload, 1) := by decide +kernel
theorem dL_law_624 : decode cL_law 624 = .ok (.invokevirtual 65, 3) := by decide +kernel
theorem dL_law_627 : decode cL_law 627 = .ok (.aload_n 2, 1) := by decide +kernel
theorem dL_law_628 : decode cL_law 628 = .ok (.aload_n 0, 1) := by decide +kernel
theorem dL_law_629 : decode cL_law 629 = .ok (.iload_n 3, 1) := by decide +kernel
theorem dL_law_630 : decode cL_law 630 = .ok (.iconst 1, 1) := by decide +kernel
theorem dL_law_631 : decode cL_law 631 = .ok (.iadd, 1) := by decide +kernel
theorem dL_law_632 : decode cL_law 632 = .ok (.iaload, 1) := by decide +kernel
theorem dL_law_633 : decode cL_law 633 = .ok (.invokevirtual 68, 3) := by decide +kernel
theorem dL_law_636 : decode cL_law 636 = .ok (.if_icmp .eq 572, 3) := by decide +kernel
theorem dL_law_639 : decode cL_law 639 = .ok (.iconst 0, 1) := by decide +kernel
theorem dL_law_640 : decode cL_law 640 = .ok (.ireturn, 1) := by decide +kernel
theorem dL_law_641 : decode cL_law 641 = .ok (.aload_n 1, 1) := by decide +kernel
theorem dL_law_642 : decode cL_law 642 = .ok (.aload_n 0, 1) := by decide +kernel
theorem dL_law_643 : decode cL_law 643 = .ok (.iload_n 3, 1) := by decide +kernel
theorem dL_law_644 : decode cL_law 644 = .ok (.iconst 1, 1) := by decide +kernel
theorem dL_law_645 : decode cL_law 645 = .ok (.iadd, 1) := by decide +kernel
theorem dL_law_646 : decode cL_law 646 = .ok (.iaload, 1) := by decide +kernel
theorem dL_law_647 : decode cL_law 647 = .ok (.aload_n 0, 1) := by decide +kernel
theorem dL_law_648 : decode cL_law 648 = .ok (.iload_n 3, 1) := by decide +kernel
theorem dL_law_649 : decode cL_law 649 = .ok (.iconst 2, 1) := by decide +kernel
theorem dL_law_650 : decode cL_law 650 = .ok (.iadd, 1) := by decide +kernel
theorem dL_law_651 : decode cL_law 651 = .ok (.iaload, 1) := by decide +kernel
theorem dL_law_652 : decode cL_law 652 = .ok (.invokevirtual 69, 3) := by decide +kernel
theorem dL_law_655 : decode cL_law 655 = .ok (.aload_n 2, 1) := by decide +kernel
theorem dL_law_656 : decode cL_law 656 = .ok (.aload_n 0, 1) := by decide +kernel
theorem dL_law_657 : decode cL_law 657 = .ok (.iload_n 3, 1) := by decide +kernel
theorem dL_law_658 : decode cL_law 658 = .ok (.iconst 1, 1) := by decide +kernel
theorem dL_law_659 : decode cL_law 659 = .ok (.iadd, 1) := by decide +kernel
theorem dL_law_660 : decode cL_law 660 = .ok (.iaload, 1) := by decide +kernel
theorem dL_law_661 : decode cL_law 661 = .ok (.aload_n 0, 1) := by decide +kernel
theorem dL_law_662 : decode cL_law 662 = .ok (.iload_n 3, 1) := by decide +kernel
theorem dL_law_663 : decode cL_law 663 = .ok (.iconst 2, 1) := by decide +kernel
theorem dL_law_664 : decode cL_law 664 = .ok (.iadd, 1) := by decide +kernel
theorem dL_law_665 : decode cL_law 665 = .ok (.iaload, 1) := by decide +kernel
theorem dL_law_666 : decode cL_law 666 = .ok (.invokevirtual 72, 3) := by decide +kernel
theorem dL_law_669 : decode cL_law 669 = .ok (.if_icmp .eq 539, 3) := by decide +kernel
theorem dL_law_672 : decode cL_law 672 = .ok (.iconst 0, 1) := by decide +kernel
theorem dL_law_673 : decode cL_law 673 = .ok (.ireturn, 1) := by decide +kernel
theorem dL_law_674 : decode cL_law 674 = .ok (.aload_n 1, 1) := by decide +kernel
theorem dL_law_675 : decode cL_law 675 = .ok (.invokevirtual 73, 3) := by decide +kernel
theorem dL_law_678 : decode cL_law 678 = .ok (.aload_n 2, 1) := by decide +kernel
theorem dL_law_679 : decode cL_law 679 = .ok (.invokevirtual 77, 3) := by decide +kernel
theorem dL_law_682 : decode cL_law 682 = .ok (.if_icmp .eq 526, 3) := by decide +kernel
theorem dL_law_685 : decode cL_law 685 = .ok (.iconst 0, 1) := by decide +kernel
theorem dL_law_686 : decode cL_law 686 = .ok (.ireturn, 1) := by decide +kernel
theorem dL_law_687 : decode cL_law 687 = .ok (.aload_n 1, 1) := by decide +kernel
theorem dL_law_688 : decode cL_law 688 = .ok (.aload_n 0, 1) := by decide +kernel
theorem dL_law_689 : decode cL_law 689 = .ok (.iload_n 3, 1) := by decide +kernel
theorem dL_law_690 : decode cL_law 690 = .ok (.iconst 1, 1) := by decide +kernel
theorem dL_law_691 : decode cL_law 691 = .ok (.iadd, 1) := by decide +kernel
theorem dL_law_692 : decode cL_law 692 = .ok (.iaload, 1) := by decide +kernel
theorem dL_law_693 : decode cL_law 693 = .ok (.invokevirtual 78, 3) := by decide +kernel
theorem dL_law_696 : decode cL_law 696 = .ok (.aload_n 2, 1) := by decide +kernel
theorem dL_law_697 : decode cL_law 697 = .ok (.aload_n 0, 1) := by decide +kernel
theorem dL_law_698 : decode cL_law 698 = .ok (.iload_n 3, 1) := by decide +kernel
theorem dL_law_699 : decode cL_law 699 = .ok (.iconst 1, 1) := by decide +kernel
theorem dL_law_700 : decode cL_law 700 = .ok (.iadd, 1) := by decide +kernel
theorem dL_law_701 : decode cL_law 701 = .ok (.iaload, 1) := by decide +kernel
theorem dL_law_702 : decode cL_law 702 = .ok (.invokevirtual 81, 3) := by decide +kernel
theorem dL_law_705 : decode cL_law 705 = .ok (.if_icmp .eq 503, 3) := by decide +kernel
theorem dL_law_708 : decode cL_law 708 = .ok (.iconst 0, 1) := by decide +kernel
theorem dL_law_709 : decode cL_law 709 = .ok (.ireturn, 1) := by decide +kernel
theorem dL_law_710 : decode cL_law 710 = .ok (.aload_n 1, 1) := by decide +kernel
theorem dL_law_711 : decode cL_law 711 = .ok (.aload_n 0, 1) := by decide +kernel
theorem dL_law_712 : decode cL_law 712 = .ok (.iload_n 3, 1) := by decide +kernel
theorem dL_law_713 : decode cL_law 713 = .ok (.iconst 1, 1) := by decide +kernel
theorem dL_law_714 : decode cL_law 714 = .ok (.iadd, 1) := by decide +kernel
theorem dL_law_715 : decode cL_law 715 = .ok (.iaload, 1) := by decide +kernel
theorem dL_law_716 : decode cL_law 716 = .ok (.invokevirtual 82, 3) := by decide +kernel
theorem dL_law_719 : decode cL_law 719 = .ok (.aload_n 2, 1) := by decide +kernel
theorem dL_law_720 : decode cL_law 720 = .ok (.aload_n 0, 1) := by decide +kernel
theorem dL_law_721 : decode cL_law 721 = .ok (.iload_n 3, 1) := by decide +kernel
theorem dL_law_722 : decode cL_law 722 = .ok (.iconst 1, 1) := by decide +kernel
theorem dL_law_723 : decode cL_law 723 = .ok (.iadd, 1) := by decide +kernel
theorem dL_law_724 : decode cL_law 724 = .ok (.iaload, 1) := by decide +kernel
theorem dL_law_725 : decode cL_law 725 = .ok (.invokevirtual 85, 3) := by decide +kernel
theorem dL_law_728 : decode cL_law 728 = .ok (.if_icmp .eq 480, 3) := by decide +kernel
theorem dL_law_731 : decode cL_law 731 = .ok (.iconst 0, 1) := by decide +kernel
theorem dL_law_732 : decode cL_law 732 = .ok (.ireturn, 1) := by decide +kernel
theorem dL_law_733 : decode cL_law 733 = .ok (.aload_n 1, 1) := by decide +kernel
theorem dL_law_734 : decode cL_law 734 = .ok (.aload_n 0, 1) := by decide +kernel
theorem dL_law_735 : decode cL_law 735 = .ok (.iload_n 3, 1) := by decide +kernel
theorem dL_law_736 : decode cL_law 736 = .ok (.iconst 1, 1) := by decide +kernel
theorem dL_law_737 : decode cL_law 737 = .ok (.iadd, 1) := by decide +kernel
theorem dL_law_738 : decode cL_law 738 = .ok (.iaload, 1) := by decide +kernel
theorem dL_law_739 : decode cL_law 739 = .ok (.invokevirtual 86, 3) := by decide +kernel
theorem dL_law_742 : decode cL_law 742 = .ok (.aload_n 2, 1) := by decide +kernel
theorem dL_law_743 : decode cL_law 743 = .ok (.aload_n 0, 1) := by decide +kernel
theorem dL_law_744 : decode cL_law 744 = .ok (.iload_n 3, 1) := by decide +kernel
theorem dL_law_745 : decode cL_law 745 = .ok (.iconst 1, 1) := by decide +kernel
theorem dL_law_746 : decode cL_law 746 = .ok (.iadd, 1) := by decide +kernel
theorem dL_law_747 : decode cL_law 747 = .ok (.iaload, 1) := by decide +kernel
theorem dL_law_748 : decode cL_law 748 = .ok (.invokevirtual 89, 3) := by decide +kernel
theorem dL_law_751 : decode cL_law 751 = .ok (.if_icmp .eq 457, 3) := by decide +kernel
theorem dL_law_754 : decode cL_law 754 = .ok (.iconst 0, 1) := by decide +kernel
theorem dL_law_755 : decode cL_law 755 = .ok (.ireturn, 1) := by decide +kernel
theorem dL_law_756 : decode cL_law 756 = .ok (.aload_n 1, 1) := by decide +kernel
theorem dL_law_757 : decode cL_law 757 = .ok (.aload_n 0, 1) := by decide +kernel
theorem dL_law_758 : decode cL_law 758 = .ok (.iload_n 3, 1) := by decide +kernel
theorem dL_law_759 : decode cL_law 759 = .ok (.iconst 1, 1) := by decide +kernel
theorem dL_law_760 : decode cL_law 760 = .ok (.iadd, 1) := by decide +kernel
theorem dL_law_761 : decode cL_law 761 = .ok (.iaload, 1) := by decide +kernel
theorem dL_law_762 : decode cL_law 762 = .ok (.invokevirtual 90, 3) := by decide +kernel
theorem dL_law_765 : decode cL_law 765 = .ok (.aload_n 2, 1) := by decide +kernel
theorem dL_law_766 : decode cL_law 766 = .ok (.aload_n 0, 1) := by decide +kernel
theorem dL_law_767 : decode cL_law 767 = .ok (.iload_n 3, 1) := by decide +kernel
theorem dL_law_768 : decode cL_law 768 = .ok (.iconst 1, 1) := by decide +kernel
theorem dL_law_769 : decode cL_law 769 = .ok (.iadd, 1) := by decide +kernel
theorem dL_law_770 : decode cL_law 770 = .ok (.iaload, 1) := by decide +kernel
theorem dL_law_771 : decode cL_law 771 = .ok (.invokevirtual 93, 3) := by decide +kernel
theorem dL_law_774 : decode cL_law 774 = .ok (.if_icmp .eq 434, 3) := by decide +kernel
theorem dL_law_777 : decode cL_law 777 = .ok (.iconst 0, 1) := by decide +kernel
theorem dL_law_778 : decode cL_law 778 = .ok (.ireturn, 1) := by decide +kernel
theorem dL_law_779 : decode cL_law 779 = .ok (.aload_n 1, 1) := by decide +kernel
theorem dL_law_780 : decode cL_law 780 = .ok (.invokevirtual 94, 3) := by decide +kernel
theorem dL_law_783 : decode cL_law 783 = .ok (.aload_n 2, 1) := by decide +kernel
theorem dL_law_784 : decode cL_law 784 = .ok (.invokevirtual 97, 3) := by decide +kernel
theorem dL_law_787 : decode cL_law 787 = .ok (.if_icmp .eq 421, 3) := by decide +kernel
theorem dL_law_790 : decode cL_law 790 = .ok (.iconst 0, 1) := by decide +kernel
theorem dL_law_791 : decode cL_law 791 = .ok (.ireturn, 1) := by decide +kernel
theorem dL_law_792 : decode cL_law 792 = .ok (.aload_n 1, 1) := by decide +kernel
theorem dL_law_793 : decode cL_law 793 = .ok (.invokevirtual 98, 3) := by decide +kernel
theorem dL_law_796 : decode cL_law 796 = .ok (.aload_n 2, 1) := by decide +kernel
theorem dL_law_797 : decode cL_law 797 = .ok (.invokevirtual 101, 3) := by decide +kernel
theorem dL_law_800 : decode cL_law 800 = .ok (.if_icmp .eq 408, 3) := by decide +kernel
theorem dL_law_803 : decode cL_law 803 = .ok (.iconst 0, 1) := by decide +kernel
theorem dL_law_804 : decode cL_law 804 = .ok (.ireturn, 1) := by decide +kernel
theorem dL_law_805 : decode cL_law 805 = .ok (.aload_n 1, 1) := by decide +kernel
theorem dL_law_806 : decode cL_law 806 = .ok (.aload_n 0, 1) := by decide +kernel
theorem dL_law_807 : decode cL_law 807 = .ok (.iload_n 3, 1) := by decide +kernel
theorem dL_law_808 : decode cL_law 808 = .ok (.iconst 1, 1) := by decide +kernel
theorem dL_law_809 : decode cL_law 809 = .ok (.iadd, 1) := by decide +kernel
theorem dL_law_810 : decode cL_law 810 = .ok (.iaload, 1) := by decide +kernel
theorem dL_law_811 : decode cL_law 811 = .ok (.invokevirtual 102, 3) := by decide +kernel
theorem dL_law_814 : decode cL_law 814 = .ok (.aload_n 2, 1) := by decide +kernel
theorem dL_law_815 : decode cL_law 815 = .ok (.aload_n 0, 1) := by decide +kernel
theorem dL_law_816 : decode cL_law 816 = .ok (.iload_n 3, 1) := by decide +kernel
theorem dL_law_817 : decode cL_law 817 = .ok (.iconst 1, 1) := by decide +kernel
theorem dL_law_818 : decode cL_law 818 = .ok (.iadd, 1) := by decide +kernel
theorem dL_law_819 : decode cL_law 819 = .ok (.iaload, 1) := by decide +kernel
theorem dL_law_820 : decode cL_law 820 = .ok (.invokevirtual 105, 3) := by decide +kernel
theorem dL_law_823 : decode cL_law 823 = .ok (.if_icmp .eq 385, 3) := by decide +kernel
theorem dL_law_826 : decode cL_law 826 = .ok (.iconst 0, 1) := by decide +kernel
theorem dL_law_827 : decode cL_law 827 = .ok (.ireturn, 1) := by decide +kernel
theorem dL_law_828 : decode cL_law 828 = .ok (.aload_n 1, 1) := by decide +kernel
theorem dL_law_829 : decode cL_law 829 = .ok (.aload_n 0, 1) := by decide +kernel
theorem dL_law_830 : decode cL_law 830 = .ok (.iload_n 3, 1) := by decide +kernel
theorem dL_law_831 : decode cL_law 831 = .ok (.iconst 1, 1) := by decide +kernel
theorem dL_law_832 : decode cL_law 832 = .ok (.iadd, 1) := by decide +kernel
theorem dL_law_833 : decode cL_law 833 = .ok (.iaload, 1) := by decide +kernel
theorem dL_law_834 : decode cL_law 834 = .ok (.invokevirtual 106, 3) := by decide +kernel
theorem dL_law_837 : decode cL_law 837 = .ok (.aload_n 2, 1) := by decide +kernel
theorem dL_law_838 : decode cL_law 838 = .ok (.aload_n 0, 1) := by decide +kernel
theorem dL_law_839 : decode cL_law 839 = .ok (.iload_n 3, 1) := by decide +kernel
theorem dL_law_840 : decode cL_law 840 = .ok (.iconst 1, 1) := by decide +kernel
theorem dL_law_841 : decode cL_law 841 = .ok (.iadd, 1) := by decide +kernel
theorem dL_law_842 : decode cL_law 842 = .ok (.iaload, 1) := by decide +kernel
theorem dL_law_843 : decode cL_law 843 = .ok (.invokevirtual 109, 3) := by decide +kernel
theorem dL_law_846 : decode cL_law 846 = .ok (.if_icmp .eq 362, 3) := by decide +kernel
theorem dL_law_849 : decode cL_law 849 = .ok (.iconst 0, 1) := by decide +kernel
theorem dL_law_850 : decode cL_law 850 = .ok (.ireturn, 1) := by decide +kernel
theorem dL_law_851 : decode cL_law 851 = .ok (.aload_n 1, 1) := by decide +kernel
theorem dL_law_852 : decode cL_law 852 = .ok (.aload_n 0, 1) := by decide +kernel
theorem dL_law_853 : decode cL_law 853 = .ok (.iload_n 3, 1) := by decide +kernel
theorem dL_law_854 : decode cL_law 854 = .ok (.iconst 1, 1) := by decide +kernel
theorem dL_law_855 : decode cL_law 855 = .ok (.iadd, 1) := by decide +kernel
theorem dL_law_856 : decode cL_law 856 = .ok (.iaload, 1) := by decide +kernel
theorem dL_law_857 : decode cL_law 857 = .ok (.invokevirtual 110, 3) := by decide +kernel
theorem dL_law_860 : decode cL_law 860 = .ok (.aload_n 2, 1) := by decide +kernel
theorem dL_law_861 : decode cL_law 861 = .ok (.aload_n 0, 1) := by decide +kernel
theorem dL_law_862 : decode cL_law 862 = .ok (.iload_n 3, 1) := by decide +kernel
theorem dL_law_863 : decode cL_law 863 = .ok (.iconst 1, 1) := by decide +kernel
theorem dL_law_864 : decode cL_law 864 = .ok (.iadd, 1) := by decide +kernel
theorem dL_law_865 : decode cL_law 865 = .ok (.iaload, 1) := by decide +kernel
theorem dL_law_866 : decode cL_law 866 = .ok (.invokevirtual 113, 3) := by decide +kernel
theorem dL_law_869 : decode cL_law 869 = .ok (.if_icmp .eq 339, 3) := by decide +kernel
theorem dL_law_872 : decode cL_law 872 = .ok (.iconst 0, 1) := by decide +kernel
theorem dL_law_873 : decode cL_law 873 = .ok (.ireturn, 1) := by decide +kernel
theorem dL_law_874 : decode cL_law 874 = .ok (.aload_n 1, 1) := by decide +kernel
theorem dL_law_875 : decode cL_law 875 = .ok (.aload_n 0, 1) := by decide +kernel
theorem dL_law_876 : decode cL_law 876 = .ok (.iload_n 3, 1) := by decide +kernel
theorem dL_law_877 : decode cL_law 877 = .ok (.iconst 1, 1) := by decide +kernel
theorem dL_law_878 : decode cL_law 878 = .ok (.iadd, 1) := by decide +kernel
theorem dL_law_879 : decode cL_law 879 = .ok (.iaload, 1) := by decide +kernel
theorem dL_law_880 : decode cL_law 880 = .ok (.aload_n 0, 1) := by decide +kernel
theorem dL_law_881 : decode cL_law 881 = .ok (.iload_n 3, 1) := by decide +kernel
theorem dL_law_882 : decode cL_law 882 = .ok (.iconst 2, 1) := by decide +kernel
theorem dL_law_883 : decode cL_law 883 = .ok (.iadd, 1) := by decide +kernel
theorem dL_law_884 : decode cL_law 884 = .ok (.iaload, 1) := by decide +kernel
theorem dL_law_885 : decode cL_law 885 = .ok (.invokevirtual 114, 3) := by decide +kernel
theorem dL_law_888 : decode cL_law 888 = .ok (.aload_n 2, 1) := by decide +kernel
theorem dL_law_889 : decode cL_law 889 = .ok (.aload_n 0, 1) := by decide +kernel
theorem dL_law_890 : decode cL_law 890 = .ok (.iload_n 3, 1) := by decide +kernel
theorem dL_law_891 : decode cL_law 891 = .ok (.iconst 1, 1) := by decide +kernel
theorem dL_law_892 : decode cL_law 892 = .ok (.iadd, 1) := by decide +kernel
theorem dL_law_893 : decode cL_law 893 = .ok (.iaload, 1) := by decide +kernel
theorem dL_law_894 : decode cL_law 894 = .ok (.aload_n 0, 1) := by decide +kernel
theorem dL_law_895 : decode cL_law 895 = .ok (.iload_n 3, 1) := by decide +kernel
theorem dL_law_896 : decode cL_law 896 = .ok (.iconst 2, 1) := by decide +kernel
theorem dL_law_897 : decode cL_law 897 = .ok (.iadd, 1) := by decide +kernel
theorem dL_law_898 : decode cL_law 898 = .ok (.iaload, 1) := by decide +kernel
theorem dL_law_899 : decode cL_law 899 = .ok (.invokevirtual 117, 3) := by decide +kernel
theorem dL_law_902 : decode cL_law 902 = .ok (.if_icmp .eq 306, 3) := by decide +kernel
theorem dL_law_905 : decode cL_law 905 = .ok (.iconst 0, 1) := by decide +kernel
theorem dL_law_906 : decode cL_law 906 = .ok (.ireturn, 1) := by decide +kernel
theorem dL_law_907 : decode cL_law 907 = .ok (.aload_n 1, 1) := by decide +kernel
theorem dL_law_908 : decode cL_law 908 = .ok (.invokevirtual 118, 3) := by decide +kernel
theorem dL_law_911 : decode cL_law 911 = .ok (.aload_n 2, 1) := by decide +kernel
theorem dL_law_912 : decode cL_law 912 = .ok (.invokevirtual 121, 3) := by decide +kernel
theorem dL_law_915 : decode cL_law 915 = .ok (.if_icmp .eq 293, 3) := by decide +kernel
theorem dL_law_918 : decode cL_law 918 = .ok (.iconst 0, 1) := by decide +kernel
theorem dL_law_919 : decode cL_law 919 = .ok (.ireturn, 1) := by decide +kernel
theorem dL_law_920 : decode cL_law 920 = .ok (.aload_n 1, 1) := by decide +kernel
theorem dL_law_921 : decode cL_law 921 = .ok (.aload_n 0, 1) := by decide +kernel
theorem dL_law_922 : decode cL_law 922 = .ok (.iload_n 3, 1) := by decide +kernel
theorem dL_law_923 : decode cL_law 923 = .ok (.iconst 1, 1) := by decide +kernel
theorem dL_law_924 : decode cL_law 924 = .ok (.iadd, 1) := by decide +kernel
theorem dL_law_925 : decode cL_law 925 = .ok (.iaload, 1) := by decide +kernel
theorem dL_law_926 : decode cL_law 926 = .ok (.invokevirtual 122, 3) := by decide +kernel
theorem dL_law_929 : decode cL_law 929 = .ok (.aload_n 2, 1) := by decide +kernel
theorem dL_law_930 : decode cL_law 930 = .ok (.aload_n 0, 1) := by decide +kernel
theorem dL_law_931 : decode cL_law 931 = .ok (.iload_n 3, 1) := by decide +kernel
theorem dL_law_932 : decode cL_law 932 = .ok (.iconst 1, 1) := by decide +kernel
theorem dL_law_933 : decode cL_law 933 = .ok (.iadd, 1) := by decide +kernel
theorem dL_law_934 : decode cL_law 934 = .ok (.iaload, 1) := by decide +kernel
theorem dL_law_935 : decode cL_law 935 = .ok (.invokevirtual 125, 3) := by decide +kernel
theorem dL_law_938 : decode cL_law 938 = .ok (.if_icmp .eq 270, 3) := by decide +kernel
theorem dL_law_941 : decode cL_law 941 = .ok (.iconst 0, 1) := by decide +kernel
theorem dL_law_942 : decode cL_law 942 = .ok (.ireturn, 1) := by decide +kernel
theorem dL_law_943 : decode cL_law 943 = .ok (.aload_n 1, 1) := by decide +kernel
theorem dL_law_944 : decode cL_law 944 = .ok (.aload_n 0, 1) := by decide +kernel
theorem dL_law_945 : decode cL_law 945 = .ok (.iload_n 3, 1) := by decide +kernel
theorem dL_law_946 : decode cL_law 946 = .ok (.iconst 1, 1) := by decide +kernel
theorem dL_law_947 : decode cL_law 947 = .ok (.iadd, 1) := by decide +kernel
theorem dL_law_948 : decode cL_law 948 = .ok (.iaload, 1) := by decide +kernel
theorem dL_law_949 : decode cL_law 949 = .ok (.invokevirtual 126, 3) := by decide +kernel
theorem dL_law_952 : decode cL_law 952 = .ok (.aload_n 2, 1) := by decide +kernel
theorem dL_law_953 : decode cL_law 953 = .ok (.aload_n 0, 1) := by decide +kernel
theorem dL_law_954 : decode cL_law 954 = .ok (.iload_n 3, 1) := by decide +kernel
theorem dL_law_955 : decode cL_law 955 = .ok (.iconst 1, 1) := by decide +kernel
theorem dL_law_956 : decode cL_law 956 = .ok (.iadd, 1) := by decide +kernel
theorem dL_law_957 : decode cL_law 957 = .ok (.iaload, 1) := by decide +kernel
theorem dL_law_958 : decode cL_law 958 = .ok (.invokevirtual 129, 3) := by decide +kernel
theorem dL_law_961 : decode cL_law 961 = .ok (.if_icmp .eq 247, 3) := by decide +kernel
theorem dL_law_964 : decode cL_law 964 = .ok (.iconst 0, 1) := by decide +kernel
theorem dL_law_965 : decode cL_law 965 = .ok (.ireturn, 1) := by decide +kernel
theorem dL_law_966 : decode cL_law 966 = .ok (.aload_n 1, 1) := by decide +kernel
theorem dL_law_967 : decode cL_law 967 = .ok (.aload_n 0, 1) := by decide +kernel
theorem dL_law_968 : decode cL_law 968 = .ok (.iload_n 3, 1) := by decide +kernel
theorem dL_law_969 : decode cL_law 969 = .ok (.iconst 1, 1) := by decide +kernel
theorem dL_law_970 : decode cL_law 970 = .ok (.iadd, 1) := by decide +kernel
theorem dL_law_971 : decode cL_law 971 = .ok (.iaload, 1) := by decide +kernel
theorem dL_law_972 : decode cL_law 972 = .ok (.invokevirtual 130, 3) := by decide +kernel
theorem dL_law_975 : decode cL_law 975 = .ok (.aload_n 2, 1) := by decide +kernel
theorem dL_law_976 : decode cL_law 976 = .ok (.aload_n 0, 1) := by decide +kernel
theorem dL_law_977 : decode cL_law 977 = .ok (.iload_n 3, 1) := by decide +kernel
theorem dL_law_978 : decode cL_law 978 = .ok (.iconst 1, 1) := by decide +kernel
theorem dL_law_979 : decode cL_law 979 = .ok (.iadd, 1) := by decide +kernel
theorem dL_law_980 : decode cL_law 980 = .ok (.iaload, 1) := by decide +kernel
theorem dL_law_981 : decode cL_law 981 = .ok (.invokevirtual 133, 3) := by decide +kernel
theorem dL_law_984 : decode cL_law 984 = .ok (.if_icmp .eq 224, 3) := by decide +kernel
theorem dL_law_987 : decode cL_law 987 = .ok (.iconst 0, 1) := by decide +kernel
theorem dL_law_988 : decode cL_law 988 = .ok (.ireturn, 1) := by decide +kernel
theorem dL_law_989 : decode cL_law 989 = .ok (.aload_n 1, 1) := by decide +kernel
theorem dL_law_990 : decode cL_law 990 = .ok (.invokevirtual 134, 3) := by decide +kernel
theorem dL_law_993 : decode cL_law 993 = .ok (.aload_n 2, 1) := by decide +kernel
theorem dL_law_994 : decode cL_law 994 = .ok (.invokevirtual 137, 3) := by decide +kernel
theorem dL_law_997 : decode cL_law 997 = .ok (.if_icmp .eq 211, 3) := by decide +kernel
theorem dL_law_1000 : decode cL_law 1000 = .ok (.iconst 0, 1) := by decide +kernel
theorem dL_law_1001 : decode cL_law 1001 = .ok (.ireturn, 1) := by decide +kernel
theorem dL_law_1002 : decode cL_law 1002 = .ok (.aload_n 1, 1) := by decide +kernel
theorem dL_law_1003 : decode cL_law 1003 = .ok (.invokevirtual 138, 3) := by decide +kernel
theorem dL_law_1006 : decode cL_law 1006 = .ok (.aload_n 2, 1) := by decide +kernel
theorem dL_law_1007 : decode cL_law 1007 = .ok (.invokevirtual 141, 3) := by decide +kernel
theorem dL_law_1010 : decode cL_law 1010 = .ok (.if_icmp .eq 198, 3) := by decide +kernel
theorem dL_law_1013 : decode cL_law 1013 = .ok (.iconst 0, 1) := by decide +kernel
theorem dL_law_1014 : decode cL_law 1014 = .ok (.ireturn, 1) := by decide +kernel
theorem dL_law_1015 : decode cL_law 1015 = .ok (.aload_n 1, 1) := by decide +kernel
theorem dL_law_1016 : decode cL_law 1016 = .ok (.aload_n 0, 1) := by decide +kernel
theorem dL_law_1017 : decode cL_law 1017 = .ok (.iload_n 3, 1) := by decide +kernel
theorem dL_law_1018 : decode cL_law 1018 = .ok (.iconst 1, 1) := by decide +kernel
theorem dL_law_1019 : decode cL_law 1019 = .ok (.iadd, 1) := by decide +kernel
theorem dL_law_1020 : decode cL_law 1020 = .ok (.iaload, 1) := by decide +kernel
theorem dL_law_1021 : decode cL_law 1021 = .ok (.invokevirtual 142, 3) := by decide +kernel
theorem dL_law_1024 : decode cL_law 1024 = .ok (.aload_n 2, 1) := by decide +kernel
theorem dL_law_1025 : decode cL_law 1025 = .ok (.aload_n 0, 1) := by decide +kernel
theorem dL_law_1026 : decode cL_law 1026 = .ok (.iload_n 3, 1) := by decide +kernel
theorem dL_law_1027 : decode cL_law 1027 = .ok (.iconst 1, 1) := by decide +kernel
theorem dL_law_1028 : decode cL_law 1028 = .ok (.iadd, 1) := by decide +kernel
theorem dL_law_1029 : decode cL_law 1029 = .ok (.iaload, 1) := by decide +kernel
theorem dL_law_1030 : decode cL_law 1030 = .ok (.invokevirtual 145, 3) := by decide +kernel
theorem dL_law_1033 : decode cL_law 1033 = .ok (.if_icmp .eq 175, 3) := by decide +kernel
theorem dL_law_1036 : decode cL_law 1036 = .ok (.iconst 0, 1) := by decide +kernel
theorem dL_law_1037 : decode cL_law 1037 = .ok (.ireturn, 1) := by decide +kernel
theorem dL_law_1038 : decode cL_law 1038 = .ok (.aload_n 1, 1) := by decide +kernel
theorem dL_law_1039 : decode cL_law 1039 = .ok (.aload_n 0, 1) := by decide +kernel
theorem dL_law_1040 : decode cL_law 1040 = .ok (.iload_n 3, 1) := by decide +kernel
theorem dL_law_1041 : decode cL_law 1041 = .ok (.iconst 1, 1) := by decide +kernel
theorem dL_law_1042 : decode cL_law 1042 = .ok (.iadd, 1) := by decide +kernel
theorem dL_law_1043 : decode cL_law 1043 = .ok (.iaload, 1) := by decide +kernel
theorem dL_law_1044 : decode cL_law 1044 = .ok (.invokevirtual 146, 3) := by decide +kernel
theorem dL_law_1047 : decode cL_law 1047 = .ok (.aload_n 2, 1) := by decide +kernel
theorem dL_law_1048 : decode cL_law 1048 = .ok (.aload_n 0, 1) := by decide +kernel
theorem dL_law_1049 : decode cL_law 1049 = .ok (.iload_n 3, 1) := by decide +kernel
theorem dL_law_1050 : decode cL_law 1050 = .ok (.iconst 1, 1) := by decide +kernel
theorem dL_law_1051 : decode cL_law 1051 = .ok (.iadd, 1) := by decide +kernel
theorem dL_law_1052 : decode cL_law 1052 = .ok (.iaload, 1) := by decide +kernel
theorem dL_law_1053 : decode cL_law 1053 = .ok (.invokevirtual 149, 3) := by decide +kernel
theorem dL_law_1056 : decode cL_law 1056 = .ok (.if_icmp .eq 152, 3) := by decide +kernel
theorem dL_law_1059 : decode cL_law 1059 = .ok (.iconst 0, 1) := by decide +kernel
theorem dL_law_1060 : decode cL_law 1060 = .ok (.ireturn, 1) := by decide +kernel
theorem dL_law_1061 : decode cL_law 1061 = .ok (.aload_n 1, 1) := by decide +kernel
theorem dL_law_1062 : decode cL_law 1062 = .ok (.aload_n 0, 1) := by decide +kernel
theorem dL_law_1063 : decode cL_law 1063 = .ok (.iload_n 3, 1) := by decide +kernel
theorem dL_law_1064 : decode cL_law 1064 = .ok (.iconst 1, 1) := by decide +kernel
theorem dL_law_1065 : decode cL_law 1065 = .ok (.iadd, 1) := by decide +kernel
theorem dL_law_1066 : decode cL_law 1066 = .ok (.iaload, 1) := by decide +kernel
theorem dL_law_1067 : decode cL_law 1067 = .ok (.aload_n 0, 1) := by decide +kernel
theorem dL_law_1068 : decode cL_law 1068 = .ok (.iload_n 3, 1) := by decide +kernel
theorem dL_law_1069 : decode cL_law 1069 = .ok (.iconst 2, 1) := by decide +kernel
theorem dL_law_1070 : decode cL_law 1070 = .ok (.iadd, 1) := by decide +kernel
theorem dL_law_1071 : decode cL_law 1071 = .ok (.iaload, 1) := by decide +kernel
theorem dL_law_1072 : decode cL_law 1072 = .ok (.invokevirtual 150, 3) := by decide +kernel
theorem dL_law_1075 : decode cL_law 1075 = .ok (.aload_n 2, 1) := by decide +kernel
theorem dL_law_1076 : decode cL_law 1076 = .ok (.aload_n 0, 1) := by decide +kernel
theorem dL_law_1077 : decode cL_law 1077 = .ok (.iload_n 3, 1) := by decide +kernel
theorem dL_law_1078 : decode cL_law 1078 = .ok (.iconst 1, 1) := by decide +kernel
theorem dL_law_1079 : decode cL_law 1079 = .ok (.iadd, 1) := by decide +kernel
theorem dL_law_1080 : decode cL_law 1080 = .ok (.iaload, 1) := by decide +kernel
theorem dL_law_1081 : decode cL_law 1081 = .ok (.aload_n 0, 1) := by decide +kernel
theorem dL_law_1082 : decode cL_law 1082 = .ok (.iload_n 3, 1) := by decide +kernel
theorem dL_law_1083 : decode cL_law 1083 = .ok (.iconst 2, 1) := by decide +kernel
theorem dL_law_1084 : decode cL_law 1084 = .ok (.iadd, 1) := by decide +kernel
theorem dL_law_1085 : decode cL_law 1085 = .ok (.iaload, 1) := by decide +kernel
theorem dL_law_1086 : decode cL_law 1086 = .ok (.invokevirtual 153, 3) := by decide +kernel
theorem dL_law_1089 : decode cL_law 1089 = .ok (.if_icmp .eq 119, 3) := by decide +kernel
theorem dL_law_1092 : decode cL_law 1092 = .ok (.iconst 0, 1) := by decide +kernel
theorem dL_law_1093 : decode cL_law 1093 = .ok (.ireturn, 1) := by decide +kernel
theorem dL_law_1094 : decode cL_law 1094 = .ok (.aload_n 1, 1) := by decide +kernel
theorem dL_law_1095 : decode cL_law 1095 = .ok (.invokevirtual 154, 3) := by decide +kernel
theorem dL_law_1098 : decode cL_law 1098 = .ok (.aload_n 2, 1) := by decide +kernel
theorem dL_law_1099 : decode cL_law 1099 = .ok (.invokevirtual 157, 3) := by decide +kernel
theorem dL_law_1102 : decode cL_law 1102 = .ok (.if_icmp .eq 106, 3) := by decide +kernel
theorem dL_law_1105 : decode cL_law 1105 = .ok (.iconst 0, 1) := by decide +kernel
theorem dL_law_1106 : decode cL_law 1106 = .ok (.ireturn, 1) := by decide +kernel
theorem dL_law_1107 : decode cL_law 1107 = .ok (.aload_n 1, 1) := by decide +kernel
theorem dL_law_1108 : decode cL_law 1108 = .ok (.invokevirtual 158, 3) := by decide +kernel
theorem dL_law_1111 : decode cL_law 1111 = .ok (.aload_n 2, 1) := by decide +kernel
theorem dL_law_1112 : decode cL_law 1112 = .ok (.invokevirtual 162, 3) := by decide +kernel
theorem dL_law_1115 : decode cL_law 1115 = .ok (.lcmp, 1) := by decide +kernel
theorem dL_law_1116 : decode cL_law 1116 = .ok (.ifCond .eq 92, 3) := by decide +kernel
theorem dL_law_1119 : decode cL_law 1119 = .ok (.iconst 0, 1) := by decide +kernel
theorem dL_law_1120 : decode cL_law 1120 = .ok (.ireturn, 1) := by decide +kernel
theorem dL_law_1121 : decode cL_law 1121 = .ok (.aload_n 1, 1) := by decide +kernel
theorem dL_law_1122 : decode cL_law 1122 = .ok (.invokevirtual 163, 3) := by decide +kernel
theorem dL_law_1125 : decode cL_law 1125 = .ok (.aload_n 2, 1) := by decide +kernel
theorem dL_law_1126 : decode cL_law 1126 = .ok (.invokevirtual 166, 3) := by decide +kernel
theorem dL_law_1129 : decode cL_law 1129 = .ok (.lcmp, 1) := by decide +kernel
theorem dL_law_1130 : decode cL_law 1130 = .ok (.ifCond .eq 78, 3) := by decide +kernel
theorem dL_law_1133 : decode cL_law 1133 = .ok (.iconst 0, 1) := by decide +kernel
theorem dL_law_1134 : decode cL_law 1134 = .ok (.ireturn, 1) := by decide +kernel
theorem dL_law_1135 : decode cL_law 1135 = .ok (.aload_n 1, 1) := by decide +kernel
theorem dL_law_1136 : decode cL_law 1136 = .ok (.aload_n 0, 1) := by decide +kernel
theorem dL_law_1137 : decode cL_law 1137 = .ok (.iload_n 3, 1) := by decide +kernel
theorem dL_law_1138 : decode cL_law 1138 = .ok (.iconst 1, 1) := by decide +kernel
theorem dL_law_1139 : decode cL_law 1139 = .ok (.iadd, 1) := by decide +kernel
theorem dL_law_1140 : decode cL_law 1140 = .ok (.iaload, 1) := by decide +kernel
theorem dL_law_1141 : decode cL_law 1141 = .ok (.invokevirtual 167, 3) := by decide +kernel
theorem dL_law_1144 : decode cL_law 1144 = .ok (.aload_n 2, 1) := by decide +kernel
theorem dL_law_1145 : decode cL_law 1145 = .ok (.aload_n 0, 1) := by decide +kernel
theorem dL_law_1146 : decode cL_law 1146 = .ok (.iload_n 3, 1) := by decide +kernel
theorem dL_law_1147 : decode cL_law 1147 = .ok (.iconst 1, 1) := by decide +kernel
theorem dL_law_1148 : decode cL_law 1148 = .ok (.iadd, 1) := by decide +kernel
theorem dL_law_1149 : decode cL_law 1149 = .ok (.iaload, 1) := by decide +kernel
theorem dL_law_1150 : decode cL_law 1150 = .ok (.invokevirtual 170, 3) := by decide +kernel
theorem dL_law_1153 : decode cL_law 1153 = .ok (.if_icmp .eq 55, 3) := by decide +kernel
theorem dL_law_1156 : decode cL_law 1156 = .ok (.iconst 0, 1) := by decide +kernel
theorem dL_law_1157 : decode cL_law 1157 = .ok (.ireturn, 1) := by decide +kernel
theorem dL_law_1158 : decode cL_law 1158 = .ok (.aload_n 1, 1) := by decide +kernel
theorem dL_law_1159 : decode cL_law 1159 = .ok (.invokevirtual 171, 3) := by decide +kernel
theorem dL_law_1162 : decode cL_law 1162 = .ok (.aload_n 2, 1) := by decide +kernel
theorem dL_law_1163 : decode cL_law 1163 = .ok (.invokevirtual 174, 3) := by decide +kernel
theorem dL_law_1166 : decode cL_law 1166 = .ok (.if_icmp .eq 42, 3) := by decide +kernel
theorem dL_law_1169 : decode cL_law 1169 = .ok (.iconst 0, 1) := by decide +kernel
theorem dL_law_1170 : decode cL_law 1170 = .ok (.ireturn, 1) := by decide +kernel
theorem dL_law_1171 : decode cL_law 1171 = .ok (.aload_n 1, 1) := by decide +kernel
theorem dL_law_1172 : decode cL_law 1172 = .ok (.aload_n 0, 1) := by decide +kernel
theorem dL_law_1173 : decode cL_law 1173 = .ok (.iload_n 3, 1) := by decide +kernel
theorem dL_law_1174 : decode cL_law 1174 = .ok (.iconst 1, 1) := by decide +kernel
theorem dL_law_1175 : decode cL_law 1175 = .ok (.iadd, 1) := by decide +kernel
theorem dL_law_1176 : decode cL_law 1176 = .ok (.iaload, 1) := by decide +kernel
theorem dL_law_1177 : decode cL_law 1177 = .ok (.invokevirtual 175, 3) := by decide +kernel
theorem dL_law_1180 : decode cL_law 1180 = .ok (.aload_n 2, 1) := by decide +kernel
theorem dL_law_1181 : decode cL_law 1181 = .ok (.aload_n 0, 1) := by decide +kernel
theorem dL_law_1182 : decode cL_law 1182 = .ok (.iload_n 3, 1) := by decide +kernel
theorem dL_law_1183 : decode cL_law 1183 = .ok (.iconst 1, 1) := by decide +kernel
theorem dL_law_1184 : decode cL_law 1184 = .ok (.iadd, 1) := by decide +kernel
theorem dL_law_1185 : decode cL_law 1185 = .ok (.iaload, 1) := by decide +kernel
theorem dL_law_1186 : decode cL_law 1186 = .ok (.invokevirtual 178, 3) := by decide +kernel
theorem dL_law_1189 : decode cL_law 1189 = .ok (.if_icmp .eq 19, 3) := by decide +kernel
theorem dL_law_1192 : decode cL_law 1192 = .ok (.iconst 0, 1) := by decide +kernel
theorem dL_law_1193 : decode cL_law 1193 = .ok (.ireturn, 1) := by decide +kernel
theorem dL_law_1194 : decode cL_law 1194 = .ok (.aload_n 1, 1) := by decide +kernel
theorem dL_law_1195 : decode cL_law 1195 = .ok (.invokevirtual 179, 3) := by decide +kernel
theorem dL_law_1198 : decode cL_law 1198 = .ok (.aload_n 2, 1) := by decide +kernel
theorem dL_law_1199 : decode cL_law 1199 = .ok (.invokevirtual 182, 3) := by decide +kernel
theorem dL_law_1202 : decode cL_law 1202 = .ok (.lcmp, 1) := by decide +kernel
theorem dL_law_1203 : decode cL_law 1203 = .ok (.ifCond .eq 5, 3) := by decide +kernel
theorem dL_law_1206 : decode cL_law 1206 = .ok (.iconst 0, 1) := by decide +kernel
theorem dL_law_1207 : decode cL_law 1207 = .ok (.ireturn, 1) := by decide +kernel
theorem dL_law_1208 : decode cL_law 1208 = .ok (.iinc 3 6, 3) := by decide +kernel
theorem dL_law_1211 : decode cL_law 1211 = .ok (.goto (-1193), 3) := by decide +kernel
theorem dL_law_1214 : decode cL_law 1214 = .ok (.iconst 1, 1) := by decide +kernel
theorem dL_law_1215 : decode cL_law 1215 = .ok (.ireturn, 1) := by decide +kernel
