theorem dX0_init_0 : decode cX0_init 0 = .ok (.aload_n 0, 1) := by decide +kernel
theorem dX0_init_1 : decode cX0_init 1 = .ok (.invokespecial 3, 3) := by decide +kernel
theorem dX0_init_4 : decode cX0_init 4 = .ok (.aload_n 0, 1) := by decide +kernel
theorem dX0_init_5 : decode cX0_init 5 = .ok (.sipush 200, 3) := by decide +kernel
theorem dX0_init_8 : decode cX0_init 8 = .ok (.putfield 9, 3) := by decide +kernel
theorem dX0_init_11 : decode cX0_init 11 = .ok (.aload_n 0, 1) := by decide +kernel
theorem dX0_init_12 : decode cX0_init 12 = .ok (.bipush 40, 2) := by decide +kernel
theorem dX0_init_14 : decode cX0_init 14 = .ok (.putfield 15, 3) := by decide +kernel
theorem dX0_init_17 : decode cX0_init 17 = .ok (.return_, 1) := by decide +kernel
theorem dX0_becomeLike_0 : decode cX0_becomeLike 0 = .ok (.aload_n 0, 1) := by decide +kernel
theorem dX0_becomeLike_1 : decode cX0_becomeLike 1 = .ok (.aload_n 1, 1) := by decide +kernel
theorem dX0_becomeLike_2 : decode cX0_becomeLike 2 = .ok (.getfield 9, 3) := by decide +kernel
theorem dX0_becomeLike_5 : decode cX0_becomeLike 5 = .ok (.putfield 9, 3) := by decide +kernel
theorem dX0_becomeLike_8 : decode cX0_becomeLike 8 = .ok (.aload_n 0, 1) := by decide +kernel
theorem dX0_becomeLike_9 : decode cX0_becomeLike 9 = .ok (.aload_n 1, 1) := by decide +kernel
theorem dX0_becomeLike_10 : decode cX0_becomeLike 10 = .ok (.getfield 15, 3) := by decide +kernel
theorem dX0_becomeLike_13 : decode cX0_becomeLike 13 = .ok (.putfield 15, 3) := by decide +kernel
theorem dX0_becomeLike_16 : decode cX0_becomeLike 16 = .ok (.aload_n 0, 1) := by decide +kernel
theorem dX0_becomeLike_17 : decode cX0_becomeLike 17 = .ok (.aload_n 1, 1) := by decide +kernel
theorem dX0_becomeLike_18 : decode cX0_becomeLike 18 = .ok (.getfield 18, 3) := by decide +kernel
theorem dX0_becomeLike_21 : decode cX0_becomeLike 21 = .ok (.putfield 18, 3) := by decide +kernel
theorem dX0_becomeLike_24 : decode cX0_becomeLike 24 = .ok (.aload_n 0, 1) := by decide +kernel
theorem dX0_becomeLike_25 : decode cX0_becomeLike 25 = .ok (.aload_n 1, 1) := by decide +kernel
theorem dX0_becomeLike_26 : decode cX0_becomeLike 26 = .ok (.getfield 21, 3) := by decide +kernel
theorem dX0_becomeLike_29 : decode cX0_becomeLike 29 = .ok (.putfield 21, 3) := by decide +kernel
theorem dX0_becomeLike_32 : decode cX0_becomeLike 32 = .ok (.return_, 1) := by decide +kernel
theorem dX0_flow_0 : decode cX0_flow 0 = .ok (.iconst 0, 1) := by decide +kernel
theorem dX0_flow_1 : decode cX0_flow 1 = .ok (.aload_n 0, 1) := by decide +kernel
theorem dX0_flow_2 : decode cX0_flow 2 = .ok (.getfield 9, 3) := by decide +kernel
theorem dX0_flow_5 : decode cX0_flow 5 = .ok (.aload_n 0, 1) := by decide +kernel
theorem dX0_flow_6 : decode cX0_flow 6 = .ok (.getfield 15, 3) := by decide +kernel
theorem dX0_flow_9 : decode cX0_flow 9 = .ok (.iadd, 1) := by decide +kernel
theorem dX0_flow_10 : decode cX0_flow 10 = .ok (.bipush 120, 2) := by decide +kernel
theorem dX0_flow_12 : decode cX0_flow 12 = .ok (.isub, 1) := by decide +kernel
theorem dX0_flow_13 : decode cX0_flow 13 = .ok (.iconst 2, 1) := by decide +kernel
theorem dX0_flow_14 : decode cX0_flow 14 = .ok (.aload_n 0, 1) := by decide +kernel
theorem dX0_flow_15 : decode cX0_flow 15 = .ok (.getfield 18, 3) := by decide +kernel
theorem dX0_flow_18 : decode cX0_flow 18 = .ok (.imul, 1) := by decide +kernel
theorem dX0_flow_19 : decode cX0_flow 19 = .ok (.isub, 1) := by decide +kernel
theorem dX0_flow_20 : decode cX0_flow 20 = .ok (.bipush 10, 2) := by decide +kernel
theorem dX0_flow_22 : decode cX0_flow 22 = .ok (.idiv, 1) := by decide +kernel
theorem dX0_flow_23 : decode cX0_flow 23 = .ok (.invokestatic 24, 3) := by decide +kernel
theorem dX0_flow_26 : decode cX0_flow 26 = .ok (.ireturn, 1) := by decide +kernel
theorem dX0_letDayGoBy_0 : decode cX0_letDayGoBy 0 = .ok (.aload_n 0, 1) := by decide +kernel
theorem dX0_letDayGoBy_1 : decode cX0_letDayGoBy 1 = .ok (.iconst 0, 1) := by decide +kernel
theorem dX0_letDayGoBy_2 : decode cX0_letDayGoBy 2 = .ok (.sipush 400, 3) := by decide +kernel
theorem dX0_letDayGoBy_5 : decode cX0_letDayGoBy 5 = .ok (.aload_n 0, 1) := by decide +kernel
theorem dX0_letDayGoBy_6 : decode cX0_letDayGoBy 6 = .ok (.getfield 9, 3) := by decide +kernel
theorem dX0_letDayGoBy_9 : decode cX0_letDayGoBy 9 = .ok (.iload_n 1, 1) := by decide +kernel
theorem dX0_letDayGoBy_10 : decode cX0_letDayGoBy 10 = .ok (.iconst 3, 1) := by decide +kernel
theorem dX0_letDayGoBy_11 : decode cX0_letDayGoBy 11 = .ok (.idiv, 1) := by decide +kernel
theorem dX0_letDayGoBy_12 : decode cX0_letDayGoBy 12 = .ok (.iadd, 1) := by decide +kernel
theorem dX0_letDayGoBy_13 : decode cX0_letDayGoBy 13 = .ok (.aload_n 0, 1) := by decide +kernel
theorem dX0_letDayGoBy_14 : decode cX0_letDayGoBy 14 = .ok (.invokevirtual 30, 3) := by decide +kernel
theorem dX0_letDayGoBy_17 : decode cX0_letDayGoBy 17 = .ok (.isub, 1) := by decide +kernel
theorem dX0_letDayGoBy_18 : decode cX0_letDayGoBy 18 = .ok (.aload_n 0, 1) := by decide +kernel
theorem dX0_letDayGoBy_19 : decode cX0_letDayGoBy 19 = .ok (.getfield 21, 3) := by decide +kernel
theorem dX0_letDayGoBy_22 : decode cX0_letDayGoBy 22 = .ok (.isub, 1) := by decide +kernel
theorem dX0_letDayGoBy_23 : decode cX0_letDayGoBy 23 = .ok (.invokestatic 34, 3) := by decide +kernel
theorem dX0_letDayGoBy_26 : decode cX0_letDayGoBy 26 = .ok (.invokestatic 24, 3) := by decide +kernel
theorem dX0_letDayGoBy_29 : decode cX0_letDayGoBy 29 = .ok (.putfield 9, 3) := by decide +kernel
theorem dX0_letDayGoBy_32 : decode cX0_letDayGoBy 32 = .ok (.iload_n 2, 1) := by decide +kernel
theorem dX0_letDayGoBy_33 : decode cX0_letDayGoBy 33 = .ok (.ifCond .eq 8, 3) := by decide +kernel
theorem dX0_letDayGoBy_36 : decode cX0_letDayGoBy 36 = .ok (.aload_n 0, 1) := by decide +kernel
theorem dX0_letDayGoBy_37 : decode cX0_letDayGoBy 37 = .ok (.iconst 1, 1) := by decide +kernel
theorem dX0_letDayGoBy_38 : decode cX0_letDayGoBy 38 = .ok (.invokevirtual 37, 3) := by decide +kernel
theorem dX0_letDayGoBy_41 : decode cX0_letDayGoBy 41 = .ok (.return_, 1) := by decide +kernel
theorem dX0_addMud_0 : decode cX0_addMud 0 = .ok (.aload_n 0, 1) := by decide +kernel
theorem dX0_addMud_1 : decode cX0_addMud 1 = .ok (.bipush 30, 2) := by decide +kernel
theorem dX0_addMud_3 : decode cX0_addMud 3 = .ok (.aload_n 0, 1) := by decide +kernel
theorem dX0_addMud_4 : decode cX0_addMud 4 = .ok (.getfield 18, 3) := by decide +kernel
theorem dX0_addMud_7 : decode cX0_addMud 7 = .ok (.iload_n 1, 1) := by decide +kernel
theorem dX0_addMud_8 : decode cX0_addMud 8 = .ok (.iadd, 1) := by decide +kernel
theorem dX0_addMud_9 : decode cX0_addMud 9 = .ok (.invokestatic 34, 3) := by decide +kernel
theorem dX0_addMud_12 : decode cX0_addMud 12 = .ok (.putfield 18, 3) := by decide +kernel
theorem dX0_addMud_15 : decode cX0_addMud 15 = .ok (.return_, 1) := by decide +kernel
theorem dX1_init_0 : decode cX1_init 0 = .ok (.aload_n 0, 1) := by decide +kernel
theorem dX1_init_1 : decode cX1_init 1 = .ok (.invokespecial 3, 3) := by decide +kernel
theorem dX1_init_4 : decode cX1_init 4 = .ok (.aload_n 0, 1) := by decide +kernel
theorem dX1_init_5 : decode cX1_init 5 = .ok (.bipush 32, 2) := by decide +kernel
theorem dX1_init_7 : decode cX1_init 7 = .ok (.newarray .int, 2) := by decide +kernel
theorem dX1_init_9 : decode cX1_init 9 = .ok (.putfield 11, 3) := by decide +kernel
theorem dX1_init_12 : decode cX1_init 12 = .ok (.return_, 1) := by decide +kernel
theorem dX1_becomeLike_0 : decode cX1_becomeLike 0 = .ok (.aload_n 0, 1) := by decide +kernel
theorem dX1_becomeLike_1 : decode cX1_becomeLike 1 = .ok (.aload_n 1, 1) := by decide +kernel
theorem dX1_becomeLike_2 : decode cX1_becomeLike 2 = .ok (.getfield 15, 3) := by decide +kernel
theorem dX1_becomeLike_5 : decode cX1_becomeLike 5 = .ok (.putfield 15, 3) := by decide +kernel
theorem dX1_becomeLike_8 : decode cX1_becomeLike 8 = .ok (.iconst 0, 1) := by decide +kernel
theorem dX1_becomeLike_9 : decode cX1_becomeLike 9 = .ok (.istore_n 2, 1) := by decide +kernel
theorem dX1_becomeLike_10 : decode cX1_becomeLike 10 = .ok (.iload_n 2, 1) := by decide +kernel
theorem dX1_becomeLike_11 : decode cX1_becomeLike 11 = .ok (.aload_n 0, 1) := by decide +kernel
theorem dX1_becomeLike_12 : decode cX1_becomeLike 12 = .ok (.getfield 15, 3) := by decide +kernel
theorem dX1_becomeLike_15 : decode cX1_becomeLike 15 = .ok (.if_icmp .ge 34, 3) := by decide +kernel
theorem dX1_becomeLike_18 : decode cX1_becomeLike 18 = .ok (.iconst 0, 1) := by decide +kernel
theorem dX1_becomeLike_19 : decode cX1_becomeLike 19 = .ok (.istore_n 3, 1) := by decide +kernel
theorem dX1_becomeLike_20 : decode cX1_becomeLike 20 = .ok (.iload_n 3, 1) := by decide +kernel
theorem dX1_becomeLike_21 : decode cX1_becomeLike 21 = .ok (.iconst 4, 1) := by decide +kernel
theorem dX1_becomeLike_22 : decode cX1_becomeLike 22 = .ok (.if_icmp .ge 21, 3) := by decide +kernel
theorem dX1_becomeLike_25 : decode cX1_becomeLike 25 = .ok (.aload_n 0, 1) := by decide +kernel
theorem dX1_becomeLike_26 : decode cX1_becomeLike 26 = .ok (.iload_n 2, 1) := by decide +kernel
theorem dX1_becomeLike_27 : decode cX1_becomeLike 27 = .ok (.iload_n 3, 1) := by decide +kernel
theorem dX1_becomeLike_28 : decode cX1_becomeLike 28 = .ok (.aload_n 1, 1) := by decide +kernel
theorem dX1_becomeLike_29 : decode cX1_becomeLike 29 = .ok (.iload_n 2, 1) := by decide +kernel
theorem dX1_becomeLike_30 : decode cX1_becomeLike 30 = .ok (.iload_n 3, 1) := by decide +kernel
theorem dX1_becomeLike_31 : decode cX1_becomeLike 31 = .ok (.invokevirtual 19, 3) := by decide +kernel
theorem dX1_becomeLike_34 : decode cX1_becomeLike 34 = .ok (.invokevirtual 23, 3) := by decide +kernel
theorem dX1_becomeLike_37 : decode cX1_becomeLike 37 = .ok (.iinc 3 1, 3) := by decide +kernel
theorem dX1_becomeLike_40 : decode cX1_becomeLike 40 = .ok (.goto (-20), 3) := by decide +kernel
theorem dX1_becomeLike_43 : decode cX1_becomeLike 43 = .ok (.iinc 2 1, 3) := by decide +kernel
theorem dX1_becomeLike_46 : decode cX1_becomeLike 46 = .ok (.goto (-36), 3) := by decide +kernel
theorem dX1_becomeLike_49 : decode cX1_becomeLike 49 = .ok (.return_, 1) := by decide +kernel
theorem dX1_get_0 : decode cX1_get 0 = .ok (.iload_n 1, 1) := by decide +kernel
theorem dX1_get_1 : decode cX1_get 1 = .ok (.iconst 4, 1) := by decide +kernel
theorem dX1_get_2 : decode cX1_get 2 = .ok (.imul, 1) := by decide +kernel
theorem dX1_get_3 : decode cX1_get 3 = .ok (.iload_n 2, 1) := by decide +kernel
theorem dX1_get_4 : decode cX1_get 4 = .ok (.iadd, 1) := by decide +kernel
theorem dX1_get_5 : decode cX1_get 5 = .ok (.istore_n 3, 1) := by decide +kernel
theorem dX1_get_6 : decode cX1_get 6 = .ok (.iload_n 3, 1) := by decide +kernel
theorem dX1_get_7 : decode cX1_get 7 = .ok (.ifCond .lt 21, 3) := by decide +kernel
theorem dX1_get_10 : decode cX1_get 10 = .ok (.iload_n 3, 1) := by decide +kernel
theorem dX1_get_11 : decode cX1_get 11 = .ok (.aload_n 0, 1) := by decide +kernel
theorem dX1_get_12 : decode cX1_get 12 = .ok (.getfield 11, 3) := by decide +kernel
theorem dX1_get_15 : decode cX1_get 15 = .ok (.arraylength, 1) := by decide +kernel
theorem dX1_get_16 : decode cX1_get 16 = .ok (.if_icmp .ge 12, 3) := by decide +kernel
theorem dX1_get_19 : decode cX1_get 19 = .ok (.aload_n 0, 1) := by decide +kernel
theorem dX1_get_20 : decode cX1_get 20 = .ok (.getfield 11, 3) := by decide +kernel
theorem dX1_get_23 : decode cX1_get 23 = .ok (.iload_n 3, 1) := by decide +kernel
theorem dX1_get_24 : decode cX1_get 24 = .ok (.iaload, 1) := by decide +kernel
theorem dX1_get_25 : decode cX1_get 25 = .ok (.goto 4, 3) := by decide +kernel
theorem dX1_get_28 : decode cX1_get 28 = .ok (.iconst (-1), 1) := by decide +kernel
theorem dX1_get_29 : decode cX1_get 29 = .ok (.ireturn, 1) := by decide +kernel
theorem dX1_set_0 : decode cX1_set 0 = .ok (.iload_n 1, 1) := by decide +kernel
theorem dX1_set_1 : decode cX1_set 1 = .ok (.iconst 4, 1) := by decide +kernel
theorem dX1_set_2 : decode cX1_set 2 = .ok (.imul, 1) := by decide +kernel
theorem dX1_set_3 : decode cX1_set 3 = .ok (.iload_n 2, 1) := by decide +kernel
theorem dX1_set_4 : decode cX1_set 4 = .ok (.iadd, 1) := by decide +kernel
theorem dX1_set_5 : decode cX1_set 5 = .ok (.istore 4, 2) := by decide +kernel
theorem dX1_set_7 : decode cX1_set 7 = .ok (.iload 4, 2) := by decide +kernel
theorem dX1_set_9 : decode cX1_set 9 = .ok (.ifCond .lt 21, 3) := by decide +kernel
theorem dX1_set_12 : decode cX1_set 12 = .ok (.iload 4, 2) := by decide +kernel
theorem dX1_set_14 : decode cX1_set 14 = .ok (.aload_n 0, 1) := by decide +kernel
theorem dX1_set_15 : decode cX1_set 15 = .ok (.getfield 11, 3) := by decide +kernel
theorem dX1_set_18 : decode cX1_set 18 = .ok (.arraylength, 1) := by decide +kernel
theorem dX1_set_19 : decode cX1_set 19 = .ok (.if_icmp .ge 11, 3) := by decide +kernel
theorem dX1_set_22 : decode cX1_set 22 = .ok (.aload_n 0, 1) := by decide +kernel
theorem dX1_set_23 : decode cX1_set 23 = .ok (.getfield 11, 3) := by decide +kernel
theorem dX1_set_26 : decode cX1_set 26 = .ok (.iload 4, 2) := by decide +kernel
theorem dX1_set_28 : decode cX1_set 28 = .ok (.iload_n 3, 1) := by decide +kernel
theorem dX1_set_29 : decode cX1_set 29 = .ok (.iastore, 1) := by decide +kernel
theorem dX1_set_30 : decode cX1_set 30 = .ok (.return_, 1) := by decide +kernel
theorem dX1_count_0 : decode cX1_count 0 = .ok (.aload_n 0, 1) := by decide +kernel
theorem dX1_count_1 : decode cX1_count 1 = .ok (.getfield 15, 3) := by decide +kernel
theorem dX1_count_4 : decode cX1_count 4 = .ok (.ireturn, 1) := by decide +kernel
theorem dX1_isFull_0 : decode cX1_isFull 0 = .ok (.aload_n 0, 1) := by decide +kernel
theorem dX1_isFull_1 : decode cX1_isFull 1 = .ok (.getfield 15, 3) := by decide +kernel
theorem dX1_isFull_4 : decode cX1_isFull 4 = .ok (.bipush 8, 2) := by decide +kernel
theorem dX1_isFull_6 : decode cX1_isFull 6 = .ok (.if_icmp .lt 7, 3) := by decide +kernel
theorem dX1_isFull_9 : decode cX1_isFull 9 = .ok (.iconst 1, 1) := by decide +kernel
theorem dX1_isFull_10 : decode cX1_isFull 10 = .ok (.goto 4, 3) := by decide +kernel
theorem dX1_isFull_13 : decode cX1_isFull 13 = .ok (.iconst 0, 1) := by decide +kernel
theorem dX1_isFull_14 : decode cX1_isFull 14 = .ok (.ireturn, 1) := by decide +kernel
theorem dX1_add_0 : decode cX1_add 0 = .ok (.aload_n 0, 1) := by decide +kernel
theorem dX1_add_1 : decode cX1_add 1 = .ok (.aload_n 0, 1) := by decide +kernel
theorem dX1_add_2 : decode cX1_add 2 = .ok (.getfield 15, 3) := by decide +kernel
theorem dX1_add_5 : decode cX1_add 5 = .ok (.iconst 0, 1) := by decide +kernel
theorem dX1_add_6 : decode cX1_add 6 = .ok (.iload_n 1, 1) := by decide +kernel
theorem dX1_add_7 : decode cX1_add 7 = .ok (.invokevirtual 23, 3) := by decide +kernel
theorem dX1_add_10 : decode cX1_add 10 = .ok (.aload_n 0, 1) := by decide +kernel
theorem dX1_add_11 : decode cX1_add 11 = .ok (.aload_n 0, 1) := by decide +kernel
theorem dX1_add_12 : decode cX1_add 12 = .ok (.getfield 15, 3) := by decide +kernel
theorem dX1_add_15 : decode cX1_add 15 = .ok (.iconst 1, 1) := by decide +kernel
theorem dX1_add_16 : decode cX1_add 16 = .ok (.iload_n 2, 1) := by decide +kernel
theorem dX1_add_17 : decode cX1_add 17 = .ok (.invokevirtual 23, 3) := by decide +kernel
theorem dX1_add_20 : decode cX1_add 20 = .ok (.aload_n 0, 1) := by decide +kernel
theorem dX1_add_21 : decode cX1_add 21 = .ok (.aload_n 0, 1) := by decide +kernel
theorem dX1_add_22 : decode cX1_add 22 = .ok (.getfield 15, 3) := by decide +kernel
theorem dX1_add_25 : decode cX1_add 25 = .ok (.iconst 2, 1) := by decide +kernel
theorem dX1_add_26 : decode cX1_add 26 = .ok (.iload_n 3, 1) := by decide +kernel
theorem dX1_add_27 : decode cX1_add 27 = .ok (.invokevirtual 23, 3) := by decide +kernel
theorem dX1_add_30 : decode cX1_add 30 = .ok (.aload_n 0, 1) := by decide +kernel
theorem dX1_add_31 : decode cX1_add 31 = .ok (.aload_n 0, 1) := by decide +kernel
theorem dX1_add_32 : decode cX1_add 32 = .ok (.getfield 15, 3) := by decide +kernel
theorem dX1_add_35 : decode cX1_add 35 = .ok (.iconst 3, 1) := by decide +kernel
theorem dX1_add_36 : decode cX1_add 36 = .ok (.iload 4, 2) := by decide +kernel
theorem dX1_add_38 : decode cX1_add 38 = .ok (.invokevirtual 23, 3) := by decide +kernel
theorem dX1_add_41 : decode cX1_add 41 = .ok (.aload_n 0, 1) := by decide +kernel
theorem dX1_add_42 : decode cX1_add 42 = .ok (.dup, 1) := by decide +kernel
theorem dX1_add_43 : decode cX1_add 43 = .ok (.getfield 15, 3) := by decide +kernel
theorem dX1_add_46 : decode cX1_add 46 = .ok (.iconst 1, 1) := by decide +kernel
theorem dX1_add_47 : decode cX1_add 47 = .ok (.iadd, 1) := by decide +kernel
theorem dX1_add_48 : decode cX1_add 48 = .ok (.putfield 15, 3) := by decide +kernel
theorem dX1_add_51 : decode cX1_add 51 = .ok (.return_, 1) := by decide +kernel
theorem dX1_clear_0 : decode cX1_clear 0 = .ok (.aload_n 0, 1) := by decide +kernel
theorem dX1_clear_1 : decode cX1_clear 1 = .ok (.iconst 0, 1) := by decide +kernel
theorem dX1_clear_2 : decode cX1_clear 2 = .ok (.putfield 15, 3) := by decide +kernel
theorem dX1_clear_5 : decode cX1_clear 5 = .ok (.return_, 1) := by decide +kernel
theorem dX1_amountOf_0 : decode cX1_amountOf 0 = .ok (.iconst 0, 1) := by decide +kernel
theorem dX1_amountOf_1 : decode cX1_amountOf 1 = .ok (.istore_n 3, 1) := by decide +kernel
theorem dX1_amountOf_2 : decode cX1_amountOf 2 = .ok (.iconst 0, 1) := by decide +kernel
theorem dX1_amountOf_3 : decode cX1_amountOf 3 = .ok (.istore 4, 2) := by decide +kernel
theorem dX1_amountOf_5 : decode cX1_amountOf 5 = .ok (.iload 4, 2) := by decide +kernel
theorem dX1_amountOf_7 : decode cX1_amountOf 7 = .ok (.aload_n 0, 1) := by decide +kernel
theorem dX1_amountOf_8 : decode cX1_amountOf 8 = .ok (.getfield 15, 3) := by decide +kernel
theorem dX1_amountOf_11 : decode cX1_amountOf 11 = .ok (.if_icmp .ge 30, 3) := by decide +kernel
theorem dX1_amountOf_14 : decode cX1_amountOf 14 = .ok (.aload_n 0, 1) := by decide +kernel
theorem dX1_amountOf_15 : decode cX1_amountOf 15 = .ok (.iload 4, 2) := by decide +kernel
theorem dX1_amountOf_17 : decode cX1_amountOf 17 = .ok (.iload_n 1, 1) := by decide +kernel
theorem dX1_amountOf_18 : decode cX1_amountOf 18 = .ok (.invokevirtual 19, 3) := by decide +kernel
theorem dX1_amountOf_21 : decode cX1_amountOf 21 = .ok (.iload_n 2, 1) := by decide +kernel
theorem dX1_amountOf_22 : decode cX1_amountOf 22 = .ok (.if_icmp .ne 13, 3) := by decide +kernel
theorem dX1_amountOf_25 : decode cX1_amountOf 25 = .ok (.iload_n 3, 1) := by decide +kernel
theorem dX1_amountOf_26 : decode cX1_amountOf 26 = .ok (.aload_n 0, 1) := by decide +kernel
theorem dX1_amountOf_27 : decode cX1_amountOf 27 = .ok (.iload 4, 2) := by decide +kernel
theorem dX1_amountOf_29 : decode cX1_amountOf 29 = .ok (.iconst 2, 1) := by decide +kernel
theorem dX1_amountOf_30 : decode cX1_amountOf 30 = .ok (.invokevirtual 19, 3) := by decide +kernel
theorem dX1_amountOf_33 : decode cX1_amountOf 33 = .ok (.iadd, 1) := by decide +kernel
theorem dX1_amountOf_34 : decode cX1_amountOf 34 = .ok (.istore_n 3, 1) := by decide +kernel
theorem dX1_amountOf_35 : decode cX1_amountOf 35 = .ok (.iinc 4 1, 3) := by decide +kernel
theorem dX1_amountOf_38 : decode cX1_amountOf 38 = .ok (.goto (-33), 3) := by decide +kernel
theorem dX1_amountOf_41 : decode cX1_amountOf 41 = .ok (.iload_n 3, 1) := by decide +kernel
theorem dX1_amountOf_42 : decode cX1_amountOf 42 = .ok (.ireturn, 1) := by decide +kernel
theorem dX1_shorten_0 : decode cX1_shorten 0 = .ok (.iconst 0, 1) := by decide +kernel
theorem dX1_shorten_1 : decode cX1_shorten 1 = .ok (.istore_n 1, 1) := by decide +kernel
theorem dX1_shorten_2 : decode cX1_shorten 2 = .ok (.iconst 0, 1) := by decide +kernel
theorem dX1_shorten_3 : decode cX1_shorten 3 = .ok (.istore_n 2, 1) := by decide +kernel
theorem dX1_shorten_4 : decode cX1_shorten 4 = .ok (.iload_n 2, 1) := by decide +kernel
theorem dX1_shorten_5 : decode cX1_shorten 5 = .ok (.aload_n 0, 1) := by decide +kernel
theorem dX1_shorten_6 : decode cX1_shorten 6 = .ok (.getfield 15, 3) := by decide +kernel
theorem dX1_shorten_9 : decode cX1_shorten 9 = .ok (.if_icmp .ge 38, 3) := by decide +kernel
theorem dX1_shorten_12 : decode cX1_shorten 12 = .ok (.aload_n 0, 1) := by decide +kernel
theorem dX1_shorten_13 : decode cX1_shorten 13 = .ok (.iload_n 2, 1) := by decide +kernel
theorem dX1_shorten_14 : decode cX1_shorten 14 = .ok (.iconst 3, 1) := by decide +kernel
theorem dX1_shorten_15 : decode cX1_shorten 15 = .ok (.invokevirtual 19, 3) := by decide +kernel
theorem dX1_shorten_18 : decode cX1_shorten 18 = .ok (.iconst 1, 1) := by decide +kernel
theorem dX1_shorten_19 : decode cX1_shorten 19 = .ok (.isub, 1) := by decide +kernel
theorem dX1_shorten_20 : decode cX1_shorten 20 = .ok (.istore_n 3, 1) := by decide +kernel
theorem dX1_shorten_21 : decode cX1_shorten 21 = .ok (.aload_n 0, 1) := by decide +kernel
theorem dX1_shorten_22 : decode cX1_shorten 22 = .ok (.iload_n 2, 1) := by decide +kernel
theorem dX1_shorten_23 : decode cX1_shorten 23 = .ok (.iconst 3, 1) := by decide +kernel
theorem dX1_shorten_24 : decode cX1_shorten 24 = .ok (.iload_n 3, 1) := by decide +kernel
theorem dX1_shorten_25 : decode cX1_shorten 25 = .ok (.invokevirtual 23, 3) := by decide +kernel
theorem dX1_shorten_28 : decode cX1_shorten 28 = .ok (.iload_n 3, 1) := by decide +kernel
theorem dX1_shorten_29 : decode cX1_shorten 29 = .ok (.ifCond .le 12, 3) := by decide +kernel
theorem dX1_shorten_32 : decode cX1_shorten 32 = .ok (.aload_n 0, 1) := by decide +kernel
theorem dX1_shorten_33 : decode cX1_shorten 33 = .ok (.iload_n 1, 1) := by decide +kernel
theorem dX1_shorten_34 : decode cX1_shorten 34 = .ok (.iload_n 2, 1) := by decide +kernel
theorem dX1_shorten_35 : decode cX1_shorten 35 = .ok (.invokevirtual 27, 3) := by decide +kernel
theorem dX1_shorten_38 : decode cX1_shorten 38 = .ok (.iinc 1 1, 3) := by decide +kernel
theorem dX1_shorten_41 : decode cX1_shorten 41 = .ok (.iinc 2 1, 3) := by decide +kernel
theorem dX1_shorten_44 : decode cX1_shorten 44 = .ok (.goto (-40), 3) := by decide +kernel
theorem dX1_shorten_47 : decode cX1_shorten 47 = .ok (.aload_n 0, 1) := by decide +kernel
theorem dX1_shorten_48 : decode cX1_shorten 48 = .ok (.iload_n 1, 1) := by decide +kernel
theorem dX1_shorten_49 : decode cX1_shorten 49 = .ok (.putfield 15, 3) := by decide +kernel
theorem dX1_shorten_52 : decode cX1_shorten 52 = .ok (.return_, 1) := by decide +kernel
theorem dX1_moveTo_0 : decode cX1_moveTo 0 = .ok (.iconst 0, 1) := by decide +kernel
theorem dX1_moveTo_1 : decode cX1_moveTo 1 = .ok (.istore_n 3, 1) := by decide +kernel
theorem dX1_moveTo_2 : decode cX1_moveTo 2 = .ok (.iload_n 3, 1) := by decide +kernel
theorem dX1_moveTo_3 : decode cX1_moveTo 3 = .ok (.iconst 4, 1) := by decide +kernel
theorem dX1_moveTo_4 : decode cX1_moveTo 4 = .ok (.if_icmp .ge 21, 3) := by decide +kernel
theorem dX1_moveTo_7 : decode cX1_moveTo 7 = .ok (.aload_n 0, 1) := by decide +kernel
theorem dX1_moveTo_8 : decode cX1_moveTo 8 = .ok (.iload_n 1, 1) := by decide +kernel
theorem dX1_moveTo_9 : decode cX1_moveTo 9 = .ok (.iload_n 3, 1) := by decide +kernel
theorem dX1_moveTo_10 : decode cX1_moveTo 10 = .ok (.aload_n 0, 1) := by decide +kernel
theorem dX1_moveTo_11 : decode cX1_moveTo 11 = .ok (.iload_n 2, 1) := by decide +kernel
theorem dX1_moveTo_12 : decode cX1_moveTo 12 = .ok (.iload_n 3, 1) := by decide +kernel
theorem dX1_moveTo_13 : decode cX1_moveTo 13 = .ok (.invokevirtual 19, 3) := by decide +kernel
theorem dX1_moveTo_16 : decode cX1_moveTo 16 = .ok (.invokevirtual 23, 3) := by decide +kernel
theorem dX1_moveTo_19 : decode cX1_moveTo 19 = .ok (.iinc 3 1, 3) := by decide +kernel
theorem dX1_moveTo_22 : decode cX1_moveTo 22 = .ok (.goto (-20), 3) := by decide +kernel
theorem dX1_moveTo_25 : decode cX1_moveTo 25 = .ok (.return_, 1) := by decide +kernel
theorem dX2_init_0 : decode cX2_init 0 = .ok (.aload_n 0, 1) := by decide +kernel
theorem dX2_init_1 : decode cX2_init 1 = .ok (.invokespecial 3, 3) := by decide +kernel
theorem dX2_init_4 : decode cX2_init 4 = .ok (.aload_n 0, 1) := by decide +kernel
theorem dX2_init_5 : decode cX2_init 5 = .ok (.new 9, 3) := by decide +kernel
theorem dX2_init_8 : decode cX2_init 8 = .ok (.dup, 1) := by decide +kernel
theorem dX2_init_9 : decode cX2_init 9 = .ok (.invokespecial 11, 3) := by decide +kernel
theorem dX2_init_12 : decode cX2_init 12 = .ok (.putfield 12, 3) := by decide +kernel
theorem dX2_init_15 : decode cX2_init 15 = .ok (.aload_n 0, 1) := by decide +kernel
theorem dX2_init_16 : decode cX2_init 16 = .ok (.new 18, 3) := by decide +kernel
theorem dX2_init_19 : decode cX2_init 19 = .ok (.dup, 1) := by decide +kernel
theorem dX2_init_20 : decode cX2_init 20 = .ok (.invokespecial 20, 3) := by decide +kernel
theorem dX2_init_23 : decode cX2_init 23 = .ok (.putfield 21, 3) := by decide +kernel
theorem dX2_init_26 : decode cX2_init 26 = .ok (.aload_n 0, 1) := by decide +kernel
theorem dX2_init_27 : decode cX2_init 27 = .ok (.new 25, 3) := by decide +kernel
theorem dX2_init_30 : decode cX2_init 30 = .ok (.dup, 1) := by decide +kernel
theorem dX2_init_31 : decode cX2_init 31 = .ok (.invokespecial 27, 3) := by decide +kernel
theorem dX2_init_34 : decode cX2_init 34 = .ok (.putfield 28, 3) := by decide +kernel
theorem dX2_init_37 : decode cX2_init 37 = .ok (.aload_n 0, 1) := by decide +kernel
theorem dX2_init_38 : decode cX2_init 38 = .ok (.new 25, 3) := by decide +kernel
theorem dX2_init_41 : decode cX2_init 41 = .ok (.dup, 1) := by decide +kernel
theorem dX2_init_42 : decode cX2_init 42 = .ok (.invokespecial 27, 3) := by decide +kernel
theorem dX2_init_45 : decode cX2_init 45 = .ok (.putfield 32, 3) := by decide +kernel
theorem dX2_init_48 : decode cX2_init 48 = .ok (.return_, 1) := by decide +kernel
theorem dX2_becomeLike_0 : decode cX2_becomeLike 0 = .ok (.aload_n 0, 1) := by decide +kernel
theorem dX2_becomeLike_1 : decode cX2_becomeLike 1 = .ok (.getfield 12, 3) := by decide +kernel
theorem dX2_becomeLike_4 : decode cX2_becomeLike 4 = .ok (.aload_n 1, 1) := by decide +kernel
theorem dX2_becomeLike_5 : decode cX2_becomeLike 5 = .ok (.getfield 12, 3) := by decide +kernel
theorem dX2_becomeLike_8 : decode cX2_becomeLike 8 = .ok (.invokevirtual 35, 3) := by decide +kernel
theorem dX2_becomeLike_11 : decode cX2_becomeLike 11 = .ok (.aload_n 0, 1) := by decide +kernel
theorem dX2_becomeLike_12 : decode cX2_becomeLike 12 = .ok (.getfield 21, 3) := by decide +kernel
theorem dX2_becomeLike_15 : decode cX2_becomeLike 15 = .ok (.aload_n 1, 1) := by decide +kernel
theorem dX2_becomeLike_16 : decode cX2_becomeLike 16 = .ok (.getfield 21, 3) := by decide +kernel
theorem dX2_becomeLike_19 : decode cX2_becomeLike 19 = .ok (.invokevirtual 39, 3) := by decide +kernel
theorem dX2_becomeLike_22 : decode cX2_becomeLike 22 = .ok (.aload_n 0, 1) := by decide +kernel
theorem dX2_becomeLike_23 : decode cX2_becomeLike 23 = .ok (.getfield 28, 3) := by decide +kernel
theorem dX2_becomeLike_26 : decode cX2_becomeLike 26 = .ok (.aload_n 1, 1) := by decide +kernel
theorem dX2_becomeLike_27 : decode cX2_becomeLike 27 = .ok (.getfield 28, 3) := by decide +kernel
theorem dX2_becomeLike_30 : decode cX2_becomeLike 30 = .ok (.invokevirtual 42, 3) := by decide +kernel
theorem dX2_becomeLike_33 : decode cX2_becomeLike 33 = .ok (.aload_n 0, 1) := by decide +kernel
theorem dX2_becomeLike_34 : decode cX2_becomeLike 34 = .ok (.getfield 32, 3) := by decide +kernel
theorem dX2_becomeLike_37 : decode cX2_becomeLike 37 = .ok (.aload_n 1, 1) := by decide +kernel
theorem dX2_becomeLike_38 : decode cX2_becomeLike 38 = .ok (.getfield 32, 3) := by decide +kernel
theorem dX2_becomeLike_41 : decode cX2_becomeLike 41 = .ok (.invokevirtual 42, 3) := by decide +kernel
theorem dX2_becomeLike_44 : decode cX2_becomeLike 44 = .ok (.aload_n 0, 1) := by decide +kernel
theorem dX2_becomeLike_45 : decode cX2_becomeLike 45 = .ok (.aload_n 1, 1) := by decide +kernel
theorem dX2_becomeLike_46 : decode cX2_becomeLike 46 = .ok (.getfield 45, 3) := by decide +kernel
theorem dX2_becomeLike_49 : decode cX2_becomeLike 49 = .ok (.putfield 45, 3) := by decide +kernel
theorem dX2_becomeLike_52 : decode cX2_becomeLike 52 = .ok (.aload_n 0, 1) := by decide +kernel
theorem dX2_becomeLike_53 : decode cX2_becomeLike 53 = .ok (.aload_n 1, 1) := by decide +kernel
theorem dX2_becomeLike_54 : decode cX2_becomeLike 54 = .ok (.getfield 49, 3) := by decide +kernel
theorem dX2_becomeLike_57 : decode cX2_becomeLike 57 = .ok (.putfield 49, 3) := by decide +kernel
theorem dX2_becomeLike_60 : decode cX2_becomeLike 60 = .ok (.aload_n 0, 1) := by decide +kernel
theorem dX2_becomeLike_61 : decode cX2_becomeLike 61 = .ok (.aload_n 1, 1) := by decide +kernel
theorem dX2_becomeLike_62 : decode cX2_becomeLike 62 = .ok (.getfield 52, 3) := by decide +kernel
theorem dX2_becomeLike_65 : decode cX2_becomeLike 65 = .ok (.putfield 52, 3) := by decide +kernel
theorem dX2_becomeLike_68 : decode cX2_becomeLike 68 = .ok (.aload_n 0, 1) := by decide +kernel
theorem dX2_becomeLike_69 : decode cX2_becomeLike 69 = .ok (.aload_n 1, 1) := by decide +kernel
theorem dX2_becomeLike_70 : decode cX2_becomeLike 70 = .ok (.getfield 55, 3) := by decide +kernel
theorem dX2_becomeLike_73 : decode cX2_becomeLike 73 = .ok (.putfield 55, 3) := by decide +kernel
theorem dX2_becomeLike_76 : decode cX2_becomeLike 76 = .ok (.return_, 1) := by decide +kernel
theorem dX2_date_0 : decode cX2_date 0 = .ok (.aload_n 0, 1) := by decide +kernel
theorem dX2_date_1 : decode cX2_date 1 = .ok (.getfield 45, 3) := by decide +kernel
theorem dX2_date_4 : decode cX2_date 4 = .ok (.bipush 70, 2) := by decide +kernel
theorem dX2_date_6 : decode cX2_date 6 = .ok (.irem, 1) := by decide +kernel
theorem dX2_date_7 : decode cX2_date 7 = .ok (.ireturn, 1) := by decide +kernel
theorem dX2_daysToHarvest_0 : decode cX2_daysToHarvest 0 = .ok (.bipush 60, 2) := by decide +kernel
theorem dX2_daysToHarvest_2 : decode cX2_daysToHarvest 2 = .ok (.aload_n 0, 1) := by decide +kernel
theorem dX2_daysToHarvest_3 : decode cX2_daysToHarvest 3 = .ok (.invokevirtual 58, 3) := by decide +kernel
theorem dX2_daysToHarvest_6 : decode cX2_daysToHarvest 6 = .ok (.isub, 1) := by decide +kernel
theorem dX2_daysToHarvest_7 : decode cX2_daysToHarvest 7 = .ok (.istore_n 1, 1) := by decide +kernel
theorem dX2_daysToHarvest_8 : decode cX2_daysToHarvest 8 = .ok (.iload_n 1, 1) := by decide +kernel
theorem dX2_daysToHarvest_9 : decode cX2_daysToHarvest 9 = .ok (.ifCond .le 7, 3) := by decide +kernel
theorem dX2_daysToHarvest_12 : decode cX2_daysToHarvest 12 = .ok (.iload_n 1, 1) := by decide +kernel
theorem dX2_daysToHarvest_13 : decode cX2_daysToHarvest 13 = .ok (.goto 7, 3) := by decide +kernel
theorem dX2_daysToHarvest_16 : decode cX2_daysToHarvest 16 = .ok (.iload_n 1, 1) := by decide +kernel
theorem dX2_daysToHarvest_17 : decode cX2_daysToHarvest 17 = .ok (.bipush 70, 2) := by decide +kernel
theorem dX2_daysToHarvest_19 : decode cX2_daysToHarvest 19 = .ok (.iadd, 1) := by decide +kernel
theorem dX2_daysToHarvest_20 : decode cX2_daysToHarvest 20 = .ok (.ireturn, 1) := by decide +kernel
theorem dX2_letDaysGoBy_0 : decode cX2_letDaysGoBy 0 = .ok (.iconst 0, 1) := by decide +kernel
theorem dX2_letDaysGoBy_1 : decode cX2_letDaysGoBy 1 = .ok (.istore_n 3, 1) := by decide +kernel
theorem dX2_letDaysGoBy_2 : decode cX2_letDaysGoBy 2 = .ok (.iconst 0, 1) := by decide +kernel
theorem dX2_letDaysGoBy_3 : decode cX2_letDaysGoBy 3 = .ok (.istore 4, 2) := by decide +kernel
theorem dX2_letDaysGoBy_5 : decode cX2_letDaysGoBy 5 = .ok (.iload 4, 2) := by decide +kernel
theorem dX2_letDaysGoBy_7 : decode cX2_letDaysGoBy 7 = .ok (.iload_n 2, 1) := by decide +kernel
theorem dX2_letDaysGoBy_8 : decode cX2_letDaysGoBy 8 = .ok (.if_icmp .ge 17, 3) := by decide +kernel
theorem dX2_letDaysGoBy_11 : decode cX2_letDaysGoBy 11 = .ok (.iload_n 3, 1) := by decide +kernel
theorem dX2_letDaysGoBy_12 : decode cX2_letDaysGoBy 12 = .ok (.aload_n 0, 1) := by decide +kernel
theorem dX2_letDaysGoBy_13 : decode cX2_letDaysGoBy 13 = .ok (.iload_n 1, 1) := by decide +kernel
theorem dX2_letDaysGoBy_14 : decode cX2_letDaysGoBy 14 = .ok (.invokevirtual 62, 3) := by decide +kernel
theorem dX2_letDaysGoBy_17 : decode cX2_letDaysGoBy 17 = .ok (.iadd, 1) := by decide +kernel
theorem dX2_letDaysGoBy_18 : decode cX2_letDaysGoBy 18 = .ok (.istore_n 3, 1) := by decide +kernel
theorem dX2_letDaysGoBy_19 : decode cX2_letDaysGoBy 19 = .ok (.iinc 4 1, 3) := by decide +kernel
theorem dX2_letDaysGoBy_22 : decode cX2_letDaysGoBy 22 = .ok (.goto (-17), 3) := by decide +kernel
theorem dX2_letDaysGoBy_25 : decode cX2_letDaysGoBy 25 = .ok (.iload_n 3, 1) := by decide +kernel
theorem dX2_letDaysGoBy_26 : decode cX2_letDaysGoBy 26 = .ok (.ireturn, 1) := by decide +kernel
theorem dX2_letDayGoBy_0 : decode cX2_letDayGoBy 0 = .ok (.aload_n 0, 1) := by decide +kernel
theorem dX2_letDayGoBy_1 : decode cX2_letDayGoBy 1 = .ok (.dup, 1) := by decide +kernel
theorem dX2_letDayGoBy_2 : decode cX2_letDayGoBy 2 = .ok (.getfield 45, 3) := by decide +kernel
theorem dX2_letDayGoBy_5 : decode cX2_letDayGoBy 5 = .ok (.iconst 1, 1) := by decide +kernel
theorem dX2_letDayGoBy_6 : decode cX2_letDayGoBy 6 = .ok (.iadd, 1) := by decide +kernel
theorem dX2_letDayGoBy_7 : decode cX2_letDayGoBy 7 = .ok (.putfield 45, 3) := by decide +kernel
theorem dX2_letDayGoBy_10 : decode cX2_letDayGoBy 10 = .ok (.aload_n 0, 1) := by decide +kernel
theorem dX2_letDayGoBy_11 : decode cX2_letDayGoBy 11 = .ok (.invokevirtual 58, 3) := by decide +kernel
theorem dX2_letDayGoBy_14 : decode cX2_letDayGoBy 14 = .ok (.bipush 10, 2) := by decide +kernel
theorem dX2_letDayGoBy_16 : decode cX2_letDayGoBy 16 = .ok (.irem, 1) := by decide +kernel
theorem dX2_letDayGoBy_17 : decode cX2_letDayGoBy 17 = .ok (.ifCond .ne 7, 3) := by decide +kernel
theorem dX2_letDayGoBy_20 : decode cX2_letDayGoBy 20 = .ok (.iconst 1, 1) := by decide +kernel
theorem dX2_letDayGoBy_21 : decode cX2_letDayGoBy 21 = .ok (.goto 4, 3) := by decide +kernel
theorem dX2_letDayGoBy_24 : decode cX2_letDayGoBy 24 = .ok (.iconst 0, 1) := by decide +kernel
theorem dX2_letDayGoBy_25 : decode cX2_letDayGoBy 25 = .ok (.istore_n 2, 1) := by decide +kernel
theorem dX2_letDayGoBy_26 : decode cX2_letDayGoBy 26 = .ok (.aload_n 0, 1) := by decide +kernel
theorem dX2_letDayGoBy_27 : decode cX2_letDayGoBy 27 = .ok (.getfield 12, 3) := by decide +kernel
theorem dX2_letDayGoBy_30 : decode cX2_letDayGoBy 30 = .ok (.iload_n 1, 1) := by decide +kernel
theorem dX2_letDayGoBy_31 : decode cX2_letDayGoBy 31 = .ok (.iload_n 2, 1) := by decide +kernel
theorem dX2_letDayGoBy_32 : decode cX2_letDayGoBy 32 = .ok (.invokevirtual 66, 3) := by decide +kernel
theorem dX2_letDayGoBy_35 : decode cX2_letDayGoBy 35 = .ok (.aload_n 0, 1) := by decide +kernel
theorem dX2_letDayGoBy_36 : decode cX2_letDayGoBy 36 = .ok (.invokevirtual 69, 3) := by decide +kernel
theorem dX2_letDayGoBy_39 : decode cX2_letDayGoBy 39 = .ok (.istore_n 3, 1) := by decide +kernel
theorem dX2_letDayGoBy_40 : decode cX2_letDayGoBy 40 = .ok (.aload_n 0, 1) := by decide +kernel
theorem dX2_letDayGoBy_41 : decode cX2_letDayGoBy 41 = .ok (.getfield 21, 3) := by decide +kernel
theorem dX2_letDayGoBy_44 : decode cX2_letDayGoBy 44 = .ok (.iload_n 2, 1) := by decide +kernel
theorem dX2_letDayGoBy_45 : decode cX2_letDayGoBy 45 = .ok (.invokevirtual 72, 3) := by decide +kernel
theorem dX2_letDayGoBy_48 : decode cX2_letDayGoBy 48 = .ok (.aload_n 0, 1) := by decide +kernel
theorem dX2_letDayGoBy_49 : decode cX2_letDayGoBy 49 = .ok (.invokevirtual 58, 3) := by decide +kernel
theorem dX2_letDayGoBy_52 : decode cX2_letDayGoBy 52 = .ok (.bipush 60, 2) := by decide +kernel
theorem dX2_letDayGoBy_54 : decode cX2_letDayGoBy 54 = .ok (.if_icmp .ne 23, 3) := by decide +kernel
theorem dX2_letDayGoBy_57 : decode cX2_letDayGoBy 57 = .ok (.aload_n 0, 1) := by decide +kernel
theorem dX2_letDayGoBy_58 : decode cX2_letDayGoBy 58 = .ok (.dup, 1) := by decide +kernel
theorem dX2_letDayGoBy_59 : decode cX2_letDayGoBy 59 = .ok (.getfield 55, 3) := by decide +kernel
theorem dX2_letDayGoBy_62 : decode cX2_letDayGoBy 62 = .ok (.aload_n 0, 1) := by decide +kernel
theorem dX2_letDayGoBy_63 : decode cX2_letDayGoBy 63 = .ok (.getfield 21, 3) := by decide +kernel
theorem dX2_letDayGoBy_66 : decode cX2_letDayGoBy 66 = .ok (.invokevirtual 76, 3) := by decide +kernel
theorem dX2_letDayGoBy_69 : decode cX2_letDayGoBy 69 = .ok (.iadd, 1) := by decide +kernel
theorem dX2_letDayGoBy_70 : decode cX2_letDayGoBy 70 = .ok (.putfield 55, 3) := by decide +kernel
theorem dX2_letDayGoBy_73 : decode cX2_letDayGoBy 73 = .ok (.aload_n 0, 1) := by decide +kernel
theorem dX2_letDayGoBy_74 : decode cX2_letDayGoBy 74 = .ok (.invokevirtual 79, 3) := by decide +kernel
theorem dX2_letDayGoBy_77 : decode cX2_letDayGoBy 77 = .ok (.aload_n 0, 1) := by decide +kernel
theorem dX2_letDayGoBy_78 : decode cX2_letDayGoBy 78 = .ok (.getfield 45, 3) := by decide +kernel
theorem dX2_letDayGoBy_81 : decode cX2_letDayGoBy 81 = .ok (.bipush 7, 2) := by decide +kernel
theorem dX2_letDayGoBy_83 : decode cX2_letDayGoBy 83 = .ok (.irem, 1) := by decide +kernel
theorem dX2_letDayGoBy_84 : decode cX2_letDayGoBy 84 = .ok (.ifCond .ne 10, 3) := by decide +kernel
theorem dX2_letDayGoBy_87 : decode cX2_letDayGoBy 87 = .ok (.aload_n 0, 1) := by decide +kernel
theorem dX2_letDayGoBy_88 : decode cX2_letDayGoBy 88 = .ok (.getfield 28, 3) := by decide +kernel
theorem dX2_letDayGoBy_91 : decode cX2_letDayGoBy 91 = .ok (.invokevirtual 82, 3) := by decide +kernel
theorem dX2_letDayGoBy_94 : decode cX2_letDayGoBy 94 = .ok (.iload_n 3, 1) := by decide +kernel
theorem dX2_letDayGoBy_95 : decode cX2_letDayGoBy 95 = .ok (.ireturn, 1) := by decide +kernel
theorem dX2_giveWater_0 : decode cX2_giveWater 0 = .ok (.aload_n 0, 1) := by decide +kernel
theorem dX2_giveWater_1 : decode cX2_giveWater 1 = .ok (.getfield 12, 3) := by decide +kernel
theorem dX2_giveWater_4 : decode cX2_giveWater 4 = .ok (.invokevirtual 85, 3) := by decide +kernel
theorem dX2_giveWater_7 : decode cX2_giveWater 7 = .ok (.istore_n 1, 1) := by decide +kernel
theorem dX2_giveWater_8 : decode cX2_giveWater 8 = .ok (.aload_n 0, 1) := by decide +kernel
theorem dX2_giveWater_9 : decode cX2_giveWater 9 = .ok (.getfield 45, 3) := by decide +kernel
theorem dX2_giveWater_12 : decode cX2_giveWater 12 = .ok (.bipush 7, 2) := by decide +kernel
theorem dX2_giveWater_14 : decode cX2_giveWater 14 = .ok (.irem, 1) := by decide +kernel
theorem dX2_giveWater_15 : decode cX2_giveWater 15 = .ok (.sipush 720, 3) := by decide +kernel
theorem dX2_giveWater_18 : decode cX2_giveWater 18 = .ok (.imul, 1) := by decide +kernel
theorem dX2_giveWater_19 : decode cX2_giveWater 19 = .ok (.istore_n 2, 1) := by decide +kernel
theorem dX2_giveWater_20 : decode cX2_giveWater 20 = .ok (.iconst 0, 1) := by decide +kernel
theorem dX2_giveWater_21 : decode cX2_giveWater 21 = .ok (.istore_n 3, 1) := by decide +kernel
theorem dX2_giveWater_22 : decode cX2_giveWater 22 = .ok (.iconst 0, 1) := by decide +kernel
theorem dX2_giveWater_23 : decode cX2_giveWater 23 = .ok (.istore 4, 2) := by decide +kernel
theorem dX2_giveWater_25 : decode cX2_giveWater 25 = .ok (.iload 4, 2) := by decide +kernel
theorem dX2_giveWater_27 : decode cX2_giveWater 27 = .ok (.aload_n 0, 1) := by decide +kernel
theorem dX2_giveWater_28 : decode cX2_giveWater 28 = .ok (.getfield 21, 3) := by decide +kernel
theorem dX2_giveWater_31 : decode cX2_giveWater 31 = .ok (.invokevirtual 88, 3) := by decide +kernel
theorem dX2_giveWater_34 : decode cX2_giveWater 34 = .ok (.if_icmp .ge 63, 3) := by decide +kernel
theorem dX2_giveWater_37 : decode cX2_giveWater 37 = .ok (.aload_n 0, 1) := by decide +kernel
theorem dX2_giveWater_38 : decode cX2_giveWater 38 = .ok (.getfield 21, 3) := by decide +kernel
theorem dX2_giveWater_41 : decode cX2_giveWater 41 = .ok (.iload 4, 2) := by decide +kernel
theorem dX2_giveWater_43 : decode cX2_giveWater 43 = .ok (.invokevirtual 91, 3) := by decide +kernel
theorem dX2_giveWater_46 : decode cX2_giveWater 46 = .ok (.astore 5, 2) := by decide +kernel
theorem dX2_giveWater_48 : decode cX2_giveWater 48 = .ok (.iload_n 3, 1) := by decide +kernel
theorem dX2_giveWater_49 : decode cX2_giveWater 49 = .ok (.aload 5, 2) := by decide +kernel
theorem dX2_giveWater_51 : decode cX2_giveWater 51 = .ok (.getfield 95, 3) := by decide +kernel
theorem dX2_giveWater_54 : decode cX2_giveWater 54 = .ok (.iadd, 1) := by decide +kernel
theorem dX2_giveWater_55 : decode cX2_giveWater 55 = .ok (.istore 6, 2) := by decide +kernel
theorem dX2_giveWater_57 : decode cX2_giveWater 57 = .ok (.aload_n 0, 1) := by decide +kernel
theorem dX2_giveWater_58 : decode cX2_giveWater 58 = .ok (.aload 5, 2) := by decide +kernel
theorem dX2_giveWater_60 : decode cX2_giveWater 60 = .ok (.iload 6, 2) := by decide +kernel
theorem dX2_giveWater_62 : decode cX2_giveWater 62 = .ok (.iload_n 2, 1) := by decide +kernel
theorem dX2_giveWater_63 : decode cX2_giveWater 63 = .ok (.iload_n 1, 1) := by decide +kernel
theorem dX2_giveWater_64 : decode cX2_giveWater 64 = .ok (.invokevirtual 100, 3) := by decide +kernel
theorem dX2_giveWater_67 : decode cX2_giveWater 67 = .ok (.istore 7, 2) := by decide +kernel
theorem dX2_giveWater_69 : decode cX2_giveWater 69 = .ok (.aload 5, 2) := by decide +kernel
theorem dX2_giveWater_71 : decode cX2_giveWater 71 = .ok (.dup, 1) := by decide +kernel
theorem dX2_giveWater_72 : decode cX2_giveWater 72 = .ok (.getfield 104, 3) := by decide +kernel
theorem dX2_giveWater_75 : decode cX2_giveWater 75 = .ok (.iload_n 3, 1) := by decide +kernel
theorem dX2_giveWater_76 : decode cX2_giveWater 76 = .ok (.iload 7, 2) := by decide +kernel
theorem dX2_giveWater_78 : decode cX2_giveWater 78 = .ok (.iload_n 2, 1) := by decide +kernel
theorem dX2_giveWater_79 : decode cX2_giveWater 79 = .ok (.invokestatic 107, 3) := by decide +kernel
theorem dX2_giveWater_82 : decode cX2_giveWater 82 = .ok (.iload_n 1, 1) := by decide +kernel
theorem dX2_giveWater_83 : decode cX2_giveWater 83 = .ok (.imul, 1) := by decide +kernel
theorem dX2_giveWater_84 : decode cX2_giveWater 84 = .ok (.iadd, 1) := by decide +kernel
theorem dX2_giveWater_85 : decode cX2_giveWater 85 = .ok (.putfield 104, 3) := by decide +kernel
theorem dX2_giveWater_88 : decode cX2_giveWater 88 = .ok (.iload 6, 2) := by decide +kernel
theorem dX2_giveWater_90 : decode cX2_giveWater 90 = .ok (.istore_n 3, 1) := by decide +kernel
theorem dX2_giveWater_91 : decode cX2_giveWater 91 = .ok (.iinc 4 1, 3) := by decide +kernel
theorem dX2_giveWater_94 : decode cX2_giveWater 94 = .ok (.goto (-69), 3) := by decide +kernel
theorem dX2_giveWater_97 : decode cX2_giveWater 97 = .ok (.aload_n 0, 1) := by decide +kernel
theorem dX2_giveWater_98 : decode cX2_giveWater 98 = .ok (.dup, 1) := by decide +kernel
theorem dX2_giveWater_99 : decode cX2_giveWater 99 = .ok (.getfield 49, 3) := by decide +kernel
theorem dX2_giveWater_102 : decode cX2_giveWater 102 = .ok (.iload_n 3, 1) := by decide +kernel
theorem dX2_giveWater_103 : decode cX2_giveWater 103 = .ok (.sipush 5040, 3) := by decide +kernel
theorem dX2_giveWater_106 : decode cX2_giveWater 106 = .ok (.iload_n 2, 1) := by decide +kernel
theorem dX2_giveWater_107 : decode cX2_giveWater 107 = .ok (.invokestatic 107, 3) := by decide +kernel
theorem dX2_giveWater_110 : decode cX2_giveWater 110 = .ok (.iload_n 1, 1) := by decide +kernel
theorem dX2_giveWater_111 : decode cX2_giveWater 111 = .ok (.imul, 1) := by decide +kernel
theorem dX2_giveWater_112 : decode cX2_giveWater 112 = .ok (.iadd, 1) := by decide +kernel
theorem dX2_giveWater_113 : decode cX2_giveWater 113 = .ok (.putfield 49, 3) := by decide +kernel
theorem dX2_giveWater_116 : decode cX2_giveWater 116 = .ok (.iconst 0, 1) := by decide +kernel
theorem dX2_giveWater_117 : decode cX2_giveWater 117 = .ok (.istore 4, 2) := by decide +kernel
theorem dX2_giveWater_119 : decode cX2_giveWater 119 = .ok (.iconst 0, 1) := by decide +kernel
theorem dX2_giveWater_120 : decode cX2_giveWater 120 = .ok (.istore 5, 2) := by decide +kernel
theorem dX2_giveWater_122 : decode cX2_giveWater 122 = .ok (.iload 5, 2) := by decide +kernel
theorem dX2_giveWater_124 : decode cX2_giveWater 124 = .ok (.aload_n 0, 1) := by decide +kernel
theorem dX2_giveWater_125 : decode cX2_giveWater 125 = .ok (.getfield 21, 3) := by decide +kernel
theorem dX2_giveWater_128 : decode cX2_giveWater 128 = .ok (.invokevirtual 88, 3) := by decide +kernel
theorem dX2_giveWater_131 : decode cX2_giveWater 131 = .ok (.if_icmp .ge 65, 3) := by decide +kernel
theorem dX2_giveWater_134 : decode cX2_giveWater 134 = .ok (.aload_n 0, 1) := by decide +kernel
theorem dX2_giveWater_135 : decode cX2_giveWater 135 = .ok (.getfield 21, 3) := by decide +kernel
theorem dX2_giveWater_138 : decode cX2_giveWater 138 = .ok (.iload 5, 2) := by decide +kernel
theorem dX2_giveWater_140 : decode cX2_giveWater 140 = .ok (.invokevirtual 91, 3) := by decide +kernel
theorem dX2_giveWater_143 : decode cX2_giveWater 143 = .ok (.astore 6, 2) := by decide +kernel
theorem dX2_giveWater_145 : decode cX2_giveWater 145 = .ok (.aload_n 0, 1) := by decide +kernel
theorem dX2_giveWater_146 : decode cX2_giveWater 146 = .ok (.dup, 1) := by decide +kernel
theorem dX2_giveWater_147 : decode cX2_giveWater 147 = .ok (.getfield 52, 3) := by decide +kernel
theorem dX2_giveWater_150 : decode cX2_giveWater 150 = .ok (.aload 6, 2) := by decide +kernel
theorem dX2_giveWater_152 : decode cX2_giveWater 152 = .ok (.getfield 104, 3) := by decide +kernel
theorem dX2_giveWater_155 : decode cX2_giveWater 155 = .ok (.iadd, 1) := by decide +kernel
theorem dX2_giveWater_156 : decode cX2_giveWater 156 = .ok (.putfield 52, 3) := by decide +kernel
theorem dX2_giveWater_159 : decode cX2_giveWater 159 = .ok (.aload 6, 2) := by decide +kernel
theorem dX2_giveWater_161 : decode cX2_giveWater 161 = .ok (.iload 5, 2) := by decide +kernel
theorem dX2_giveWater_163 : decode cX2_giveWater 163 = .ok (.invokevirtual 111, 3) := by decide +kernel
theorem dX2_giveWater_166 : decode cX2_giveWater 166 = .ok (.aload_n 0, 1) := by decide +kernel
theorem dX2_giveWater_167 : decode cX2_giveWater 167 = .ok (.dup, 1) := by decide +kernel
theorem dX2_giveWater_168 : decode cX2_giveWater 168 = .ok (.getfield 52, 3) := by decide +kernel
theorem dX2_giveWater_171 : decode cX2_giveWater 171 = .ok (.aload 6, 2) := by decide +kernel
theorem dX2_giveWater_173 : decode cX2_giveWater 173 = .ok (.getfield 115, 3) := by decide +kernel
theorem dX2_giveWater_176 : decode cX2_giveWater 176 = .ok (.isub, 1) := by decide +kernel
theorem dX2_giveWater_177 : decode cX2_giveWater 177 = .ok (.putfield 52, 3) := by decide +kernel
theorem dX2_giveWater_180 : decode cX2_giveWater 180 = .ok (.iload 4, 2) := by decide +kernel
theorem dX2_giveWater_182 : decode cX2_giveWater 182 = .ok (.aload 6, 2) := by decide +kernel
theorem dX2_giveWater_184 : decode cX2_giveWater 184 = .ok (.getfield 115, 3) := by decide +kernel
theorem dX2_giveWater_187 : decode cX2_giveWater 187 = .ok (.iadd, 1) := by decide +kernel
theorem dX2_giveWater_188 : decode cX2_giveWater 188 = .ok (.istore 4, 2) := by decide +kernel
theorem dX2_giveWater_190 : decode cX2_giveWater 190 = .ok (.iinc 5 1, 3) := by decide +kernel
theorem dX2_giveWater_193 : decode cX2_giveWater 193 = .ok (.goto (-71), 3) := by decide +kernel
theorem dX2_giveWater_196 : decode cX2_giveWater 196 = .ok (.iload 4, 2) := by decide +kernel
theorem dX2_giveWater_198 : decode cX2_giveWater 198 = .ok (.ireturn, 1) := by decide +kernel
theorem dX2_giveLentWater_0 : decode cX2_giveLentWater 0 = .ok (.iload_n 2, 1) := by decide +kernel
theorem dX2_giveLentWater_1 : decode cX2_giveLentWater 1 = .ok (.istore 5, 2) := by decide +kernel
theorem dX2_giveLentWater_3 : decode cX2_giveLentWater 3 = .ok (.iconst 0, 1) := by decide +kernel
theorem dX2_giveLentWater_4 : decode cX2_giveLentWater 4 = .ok (.istore 6, 2) := by decide +kernel
theorem dX2_giveLentWater_6 : decode cX2_giveLentWater 6 = .ok (.iload 6, 2) := by decide +kernel
theorem dX2_giveLentWater_8 : decode cX2_giveLentWater 8 = .ok (.aload_n 0, 1) := by decide +kernel
theorem dX2_giveLentWater_9 : decode cX2_giveLentWater 9 = .ok (.getfield 28, 3) := by decide +kernel
theorem dX2_giveLentWater_12 : decode cX2_giveLentWater 12 = .ok (.invokevirtual 118, 3) := by decide +kernel
theorem dX2_giveLentWater_15 : decode cX2_giveLentWater 15 = .ok (.if_icmp .ge 85, 3) := by decide +kernel
theorem dX2_giveLentWater_18 : decode cX2_giveLentWater 18 = .ok (.aload_n 0, 1) := by decide +kernel
theorem dX2_giveLentWater_19 : decode cX2_giveLentWater 19 = .ok (.getfield 28, 3) := by decide +kernel
theorem dX2_giveLentWater_22 : decode cX2_giveLentWater 22 = .ok (.iload 6, 2) := by decide +kernel
theorem dX2_giveLentWater_24 : decode cX2_giveLentWater 24 = .ok (.iconst 0, 1) := by decide +kernel
theorem dX2_giveLentWater_25 : decode cX2_giveLentWater 25 = .ok (.invokevirtual 121, 3) := by decide +kernel
theorem dX2_giveLentWater_28 : decode cX2_giveLentWater 28 = .ok (.aload_n 1, 1) := by decide +kernel
theorem dX2_giveLentWater_29 : decode cX2_giveLentWater 29 = .ok (.getfield 125, 3) := by decide +kernel
theorem dX2_giveLentWater_32 : decode cX2_giveLentWater 32 = .ok (.if_icmp .ne 62, 3) := by decide +kernel
theorem dX2_giveLentWater_35 : decode cX2_giveLentWater 35 = .ok (.iload 5, 2) := by decide +kernel
theorem dX2_giveLentWater_37 : decode cX2_giveLentWater 37 = .ok (.aload_n 0, 1) := by decide +kernel
theorem dX2_giveLentWater_38 : decode cX2_giveLentWater 38 = .ok (.getfield 28, 3) := by decide +kernel
theorem dX2_giveLentWater_41 : decode cX2_giveLentWater 41 = .ok (.iload 6, 2) := by decide +kernel
theorem dX2_giveLentWater_43 : decode cX2_giveLentWater 43 = .ok (.iconst 2, 1) := by decide +kernel
theorem dX2_giveLentWater_44 : decode cX2_giveLentWater 44 = .ok (.invokevirtual 121, 3) := by decide +kernel
theorem dX2_giveLentWater_47 : decode cX2_giveLentWater 47 = .ok (.isub, 1) := by decide +kernel
theorem dX2_giveLentWater_48 : decode cX2_giveLentWater 48 = .ok (.istore 7, 2) := by decide +kernel
theorem dX2_giveLentWater_50 : decode cX2_giveLentWater 50 = .ok (.aload_n 0, 1) := by decide +kernel
theorem dX2_giveLentWater_51 : decode cX2_giveLentWater 51 = .ok (.getfield 21, 3) := by decide +kernel
theorem dX2_giveLentWater_54 : decode cX2_giveLentWater 54 = .ok (.aload_n 0, 1) := by decide +kernel
theorem dX2_giveLentWater_55 : decode cX2_giveLentWater 55 = .ok (.getfield 28, 3) := by decide +kernel
theorem dX2_giveLentWater_58 : decode cX2_giveLentWater 58 = .ok (.iload 6, 2) := by decide +kernel
theorem dX2_giveLentWater_60 : decode cX2_giveLentWater 60 = .ok (.iconst 1, 1) := by decide +kernel
theorem dX2_giveLentWater_61 : decode cX2_giveLentWater 61 = .ok (.invokevirtual 121, 3) := by decide +kernel
theorem dX2_giveLentWater_64 : decode cX2_giveLentWater 64 = .ok (.invokevirtual 128, 3) := by decide +kernel
theorem dX2_giveLentWater_67 : decode cX2_giveLentWater 67 = .ok (.astore 8, 2) := by decide +kernel
theorem dX2_giveLentWater_69 : decode cX2_giveLentWater 69 = .ok (.aload 8, 2) := by decide +kernel
theorem dX2_giveLentWater_71 : decode cX2_giveLentWater 71 = .ok (.dup, 1) := by decide +kernel
theorem dX2_giveLentWater_72 : decode cX2_giveLentWater 72 = .ok (.getfield 104, 3) := by decide +kernel
theorem dX2_giveLentWater_75 : decode cX2_giveLentWater 75 = .ok (.iload 7, 2) := by decide +kernel
theorem dX2_giveLentWater_77 : decode cX2_giveLentWater 77 = .ok (.iload 5, 2) := by decide +kernel
theorem dX2_giveLentWater_79 : decode cX2_giveLentWater 79 = .ok (.iload_n 3, 1) := by decide +kernel
theorem dX2_giveLentWater_80 : decode cX2_giveLentWater 80 = .ok (.invokestatic 107, 3) := by decide +kernel
theorem dX2_giveLentWater_83 : decode cX2_giveLentWater 83 = .ok (.iload 4, 2) := by decide +kernel
theorem dX2_giveLentWater_85 : decode cX2_giveLentWater 85 = .ok (.imul, 1) := by decide +kernel
theorem dX2_giveLentWater_86 : decode cX2_giveLentWater 86 = .ok (.iadd, 1) := by decide +kernel
theorem dX2_giveLentWater_87 : decode cX2_giveLentWater 87 = .ok (.putfield 104, 3) := by decide +kernel
theorem dX2_giveLentWater_90 : decode cX2_giveLentWater 90 = .ok (.iload 7, 2) := by decide +kernel
theorem dX2_giveLentWater_92 : decode cX2_giveLentWater 92 = .ok (.istore 5, 2) := by decide +kernel
theorem dX2_giveLentWater_94 : decode cX2_giveLentWater 94 = .ok (.iinc 6 1, 3) := by decide +kernel
theorem dX2_giveLentWater_97 : decode cX2_giveLentWater 97 = .ok (.goto (-91), 3) := by decide +kernel
theorem dX2_giveLentWater_100 : decode cX2_giveLentWater 100 = .ok (.iload 5, 2) := by decide +kernel
theorem dX2_giveLentWater_102 : decode cX2_giveLentWater 102 = .ok (.ireturn, 1) := by decide +kernel
theorem dX2_bowlsOfDay_0 : decode cX2_bowlsOfDay 0 = .ok (.iload_n 0, 1) := by decide +kernel
theorem dX2_bowlsOfDay_1 : decode cX2_bowlsOfDay 1 = .ok (.iload_n 2, 1) := by decide +kernel
theorem dX2_bowlsOfDay_2 : decode cX2_bowlsOfDay 2 = .ok (.invokestatic 131, 3) := by decide +kernel
theorem dX2_bowlsOfDay_5 : decode cX2_bowlsOfDay 5 = .ok (.istore_n 3, 1) := by decide +kernel
theorem dX2_bowlsOfDay_6 : decode cX2_bowlsOfDay 6 = .ok (.iload_n 1, 1) := by decide +kernel
theorem dX2_bowlsOfDay_7 : decode cX2_bowlsOfDay 7 = .ok (.iload_n 2, 1) := by decide +kernel
theorem dX2_bowlsOfDay_8 : decode cX2_bowlsOfDay 8 = .ok (.sipush 720, 3) := by decide +kernel
theorem dX2_bowlsOfDay_11 : decode cX2_bowlsOfDay 11 = .ok (.iadd, 1) := by decide +kernel
theorem dX2_bowlsOfDay_12 : decode cX2_bowlsOfDay 12 = .ok (.invokestatic 136, 3) := by decide +kernel
theorem dX2_bowlsOfDay_15 : decode cX2_bowlsOfDay 15 = .ok (.istore 4, 2) := by decide +kernel
theorem dX2_bowlsOfDay_17 : decode cX2_bowlsOfDay 17 = .ok (.iconst 0, 1) := by decide +kernel
theorem dX2_bowlsOfDay_18 : decode cX2_bowlsOfDay 18 = .ok (.iload 4, 2) := by decide +kernel
theorem dX2_bowlsOfDay_20 : decode cX2_bowlsOfDay 20 = .ok (.iload_n 3, 1) := by decide +kernel
theorem dX2_bowlsOfDay_21 : decode cX2_bowlsOfDay 21 = .ok (.isub, 1) := by decide +kernel
theorem dX2_bowlsOfDay_22 : decode cX2_bowlsOfDay 22 = .ok (.invokestatic 131, 3) := by decide +kernel
theorem dX2_bowlsOfDay_25 : decode cX2_bowlsOfDay 25 = .ok (.ireturn, 1) := by decide +kernel
theorem dX2_deliverSales_0 : decode cX2_deliverSales 0 = .ok (.iconst 0, 1) := by decide +kernel
theorem dX2_deliverSales_1 : decode cX2_deliverSales 1 = .ok (.istore_n 1, 1) := by decide +kernel
theorem dX2_deliverSales_2 : decode cX2_deliverSales 2 = .ok (.iload_n 1, 1) := by decide +kernel
theorem dX2_deliverSales_3 : decode cX2_deliverSales 3 = .ok (.aload_n 0, 1) := by decide +kernel
theorem dX2_deliverSales_4 : decode cX2_deliverSales 4 = .ok (.getfield 32, 3) := by decide +kernel
theorem dX2_deliverSales_7 : decode cX2_deliverSales 7 = .ok (.invokevirtual 118, 3) := by decide +kernel
theorem dX2_deliverSales_10 : decode cX2_deliverSales 10 = .ok (.if_icmp .ge 99, 3) := by decide +kernel
theorem dX2_deliverSales_13 : decode cX2_deliverSales 13 = .ok (.aload_n 0, 1) := by decide +kernel
theorem dX2_deliverSales_14 : decode cX2_deliverSales 14 = .ok (.getfield 21, 3) := by decide +kernel
theorem dX2_deliverSales_17 : decode cX2_deliverSales 17 = .ok (.aload_n 0, 1) := by decide +kernel
theorem dX2_deliverSales_18 : decode cX2_deliverSales 18 = .ok (.getfield 32, 3) := by decide +kernel
theorem dX2_deliverSales_21 : decode cX2_deliverSales 21 = .ok (.iload_n 1, 1) := by decide +kernel
theorem dX2_deliverSales_22 : decode cX2_deliverSales 22 = .ok (.iconst 0, 1) := by decide +kernel
theorem dX2_deliverSales_23 : decode cX2_deliverSales 23 = .ok (.invokevirtual 121, 3) := by decide +kernel
theorem dX2_deliverSales_26 : decode cX2_deliverSales 26 = .ok (.invokevirtual 128, 3) := by decide +kernel
theorem dX2_deliverSales_29 : decode cX2_deliverSales 29 = .ok (.astore_n 2, 1) := by decide +kernel
theorem dX2_deliverSales_30 : decode cX2_deliverSales 30 = .ok (.aload_n 0, 1) := by decide +kernel
theorem dX2_deliverSales_31 : decode cX2_deliverSales 31 = .ok (.getfield 21, 3) := by decide +kernel
theorem dX2_deliverSales_34 : decode cX2_deliverSales 34 = .ok (.aload_n 0, 1) := by decide +kernel
theorem dX2_deliverSales_35 : decode cX2_deliverSales 35 = .ok (.getfield 32, 3) := by decide +kernel
theorem dX2_deliverSales_38 : decode cX2_deliverSales 38 = .ok (.iload_n 1, 1) := by decide +kernel
theorem dX2_deliverSales_39 : decode cX2_deliverSales 39 = .ok (.iconst 1, 1) := by decide +kernel
theorem dX2_deliverSales_40 : decode cX2_deliverSales 40 = .ok (.invokevirtual 121, 3) := by decide +kernel
theorem dX2_deliverSales_43 : decode cX2_deliverSales 43 = .ok (.invokevirtual 128, 3) := by decide +kernel
theorem dX2_deliverSales_46 : decode cX2_deliverSales 46 = .ok (.astore_n 3, 1) := by decide +kernel
theorem dX2_deliverSales_47 : decode cX2_deliverSales 47 = .ok (.aload_n 0, 1) := by decide +kernel
theorem dX2_deliverSales_48 : decode cX2_deliverSales 48 = .ok (.getfield 32, 3) := by decide +kernel
theorem dX2_deliverSales_51 : decode cX2_deliverSales 51 = .ok (.iload_n 1, 1) := by decide +kernel
theorem dX2_deliverSales_52 : decode cX2_deliverSales 52 = .ok (.iconst 2, 1) := by decide +kernel
theorem dX2_deliverSales_53 : decode cX2_deliverSales 53 = .ok (.invokevirtual 121, 3) := by decide +kernel
theorem dX2_deliverSales_56 : decode cX2_deliverSales 56 = .ok (.istore 4, 2) := by decide +kernel
theorem dX2_deliverSales_58 : decode cX2_deliverSales 58 = .ok (.iload 4, 2) := by decide +kernel
theorem dX2_deliverSales_60 : decode cX2_deliverSales 60 = .ok (.aload_n 2, 1) := by decide +kernel
theorem dX2_deliverSales_61 : decode cX2_deliverSales 61 = .ok (.getfield 139, 3) := by decide +kernel
theorem dX2_deliverSales_64 : decode cX2_deliverSales 64 = .ok (.invokestatic 136, 3) := by decide +kernel
theorem dX2_deliverSales_67 : decode cX2_deliverSales 67 = .ok (.istore 5, 2) := by decide +kernel
theorem dX2_deliverSales_69 : decode cX2_deliverSales 69 = .ok (.aload_n 2, 1) := by decide +kernel
theorem dX2_deliverSales_70 : decode cX2_deliverSales 70 = .ok (.dup, 1) := by decide +kernel
theorem dX2_deliverSales_71 : decode cX2_deliverSales 71 = .ok (.getfield 139, 3) := by decide +kernel
theorem dX2_deliverSales_74 : decode cX2_deliverSales 74 = .ok (.iload 5, 2) := by decide +kernel
theorem dX2_deliverSales_76 : decode cX2_deliverSales 76 = .ok (.isub, 1) := by decide +kernel
theorem dX2_deliverSales_77 : decode cX2_deliverSales 77 = .ok (.putfield 139, 3) := by decide +kernel
theorem dX2_deliverSales_80 : decode cX2_deliverSales 80 = .ok (.aload_n 3, 1) := by decide +kernel
theorem dX2_deliverSales_81 : decode cX2_deliverSales 81 = .ok (.dup, 1) := by decide +kernel
theorem dX2_deliverSales_82 : decode cX2_deliverSales 82 = .ok (.getfield 139, 3) := by decide +kernel
theorem dX2_deliverSales_85 : decode cX2_deliverSales 85 = .ok (.iload 5, 2) := by decide +kernel
theorem dX2_deliverSales_87 : decode cX2_deliverSales 87 = .ok (.iadd, 1) := by decide +kernel
theorem dX2_deliverSales_88 : decode cX2_deliverSales 88 = .ok (.putfield 139, 3) := by decide +kernel
theorem dX2_deliverSales_91 : decode cX2_deliverSales 91 = .ok (.aload_n 2, 1) := by decide +kernel
theorem dX2_deliverSales_92 : decode cX2_deliverSales 92 = .ok (.aload_n 3, 1) := by decide +kernel
theorem dX2_deliverSales_93 : decode cX2_deliverSales 93 = .ok (.iconst 2, 1) := by decide +kernel
theorem dX2_deliverSales_94 : decode cX2_deliverSales 94 = .ok (.iload 4, 2) := by decide +kernel
theorem dX2_deliverSales_96 : decode cX2_deliverSales 96 = .ok (.iload 5, 2) := by decide +kernel
theorem dX2_deliverSales_98 : decode cX2_deliverSales 98 = .ok (.isub, 1) := by decide +kernel
theorem dX2_deliverSales_99 : decode cX2_deliverSales 99 = .ok (.imul, 1) := by decide +kernel
theorem dX2_deliverSales_100 : decode cX2_deliverSales 100 = .ok (.invokevirtual 142, 3) := by decide +kernel
theorem dX2_deliverSales_103 : decode cX2_deliverSales 103 = .ok (.iinc 1 1, 3) := by decide +kernel
theorem dX2_deliverSales_106 : decode cX2_deliverSales 106 = .ok (.goto (-104), 3) := by decide +kernel
theorem dX2_deliverSales_109 : decode cX2_deliverSales 109 = .ok (.aload_n 0, 1) := by decide +kernel
theorem dX2_deliverSales_110 : decode cX2_deliverSales 110 = .ok (.getfield 32, 3) := by decide +kernel
theorem dX2_deliverSales_113 : decode cX2_deliverSales 113 = .ok (.invokevirtual 146, 3) := by decide +kernel
theorem dX2_deliverSales_116 : decode cX2_deliverSales 116 = .ok (.return_, 1) := by decide +kernel
theorem dX2_unlentBowls_0 : decode cX2_unlentBowls 0 = .ok (.aload_n 1, 1) := by decide +kernel
theorem dX2_unlentBowls_1 : decode cX2_unlentBowls 1 = .ok (.getfield 95, 3) := by decide +kernel
theorem dX2_unlentBowls_4 : decode cX2_unlentBowls 4 = .ok (.aload_n 0, 1) := by decide +kernel
theorem dX2_unlentBowls_5 : decode cX2_unlentBowls 5 = .ok (.getfield 28, 3) := by decide +kernel
theorem dX2_unlentBowls_8 : decode cX2_unlentBowls 8 = .ok (.iconst 0, 1) := by decide +kernel
theorem dX2_unlentBowls_9 : decode cX2_unlentBowls 9 = .ok (.aload_n 1, 1) := by decide +kernel
theorem dX2_unlentBowls_10 : decode cX2_unlentBowls 10 = .ok (.getfield 125, 3) := by decide +kernel
theorem dX2_unlentBowls_13 : decode cX2_unlentBowls 13 = .ok (.invokevirtual 164, 3) := by decide +kernel
theorem dX2_unlentBowls_16 : decode cX2_unlentBowls 16 = .ok (.isub, 1) := by decide +kernel
theorem dX2_unlentBowls_17 : decode cX2_unlentBowls 17 = .ok (.ireturn, 1) := by decide +kernel
theorem dX2_userOf_0 : decode cX2_userOf 0 = .ok (.aload_n 0, 1) := by decide +kernel
theorem dX2_userOf_1 : decode cX2_userOf 1 = .ok (.getfield 21, 3) := by decide +kernel
theorem dX2_userOf_4 : decode cX2_userOf 4 = .ok (.iload_n 1, 1) := by decide +kernel
theorem dX2_userOf_5 : decode cX2_userOf 5 = .ok (.invokevirtual 167, 3) := by decide +kernel
theorem dX2_userOf_8 : decode cX2_userOf 8 = .ok (.istore_n 2, 1) := by decide +kernel
theorem dX2_userOf_9 : decode cX2_userOf 9 = .ok (.iload_n 2, 1) := by decide +kernel
theorem dX2_userOf_10 : decode cX2_userOf 10 = .ok (.iconst (-1), 1) := by decide +kernel
theorem dX2_userOf_11 : decode cX2_userOf 11 = .ok (.if_icmp .ne 5, 3) := by decide +kernel
theorem dX2_userOf_14 : decode cX2_userOf 14 = .ok (.iconst (-1), 1) := by decide +kernel
theorem dX2_userOf_15 : decode cX2_userOf 15 = .ok (.ireturn, 1) := by decide +kernel
theorem dX2_userOf_16 : decode cX2_userOf 16 = .ok (.aload_n 0, 1) := by decide +kernel
theorem dX2_userOf_17 : decode cX2_userOf 17 = .ok (.getfield 21, 3) := by decide +kernel
theorem dX2_userOf_20 : decode cX2_userOf 20 = .ok (.iload_n 2, 1) := by decide +kernel
theorem dX2_userOf_21 : decode cX2_userOf 21 = .ok (.invokevirtual 128, 3) := by decide +kernel
theorem dX2_userOf_24 : decode cX2_userOf 24 = .ok (.astore_n 3, 1) := by decide +kernel
theorem dX2_userOf_25 : decode cX2_userOf 25 = .ok (.aload_n 0, 1) := by decide +kernel
theorem dX2_userOf_26 : decode cX2_userOf 26 = .ok (.getfield 21, 3) := by decide +kernel
theorem dX2_userOf_29 : decode cX2_userOf 29 = .ok (.aload_n 3, 1) := by decide +kernel
theorem dX2_userOf_30 : decode cX2_userOf 30 = .ok (.invokevirtual 170, 3) := by decide +kernel
theorem dX2_userOf_33 : decode cX2_userOf 33 = .ok (.aload_n 3, 1) := by decide +kernel
theorem dX2_userOf_34 : decode cX2_userOf 34 = .ok (.getfield 95, 3) := by decide +kernel
theorem dX2_userOf_37 : decode cX2_userOf 37 = .ok (.iadd, 1) := by decide +kernel
theorem dX2_userOf_38 : decode cX2_userOf 38 = .ok (.iconst 1, 1) := by decide +kernel
theorem dX2_userOf_39 : decode cX2_userOf 39 = .ok (.isub, 1) := by decide +kernel
theorem dX2_userOf_40 : decode cX2_userOf 40 = .ok (.iload_n 1, 1) := by decide +kernel
theorem dX2_userOf_41 : decode cX2_userOf 41 = .ok (.isub, 1) := by decide +kernel
theorem dX2_userOf_42 : decode cX2_userOf 42 = .ok (.istore 4, 2) := by decide +kernel
theorem dX2_userOf_44 : decode cX2_userOf 44 = .ok (.iconst 0, 1) := by decide +kernel
theorem dX2_userOf_45 : decode cX2_userOf 45 = .ok (.istore 5, 2) := by decide +kernel
theorem dX2_userOf_47 : decode cX2_userOf 47 = .ok (.iload 5, 2) := by decide +kernel
theorem dX2_userOf_49 : decode cX2_userOf 49 = .ok (.aload_n 0, 1) := by decide +kernel
theorem dX2_userOf_50 : decode cX2_userOf 50 = .ok (.getfield 28, 3) := by decide +kernel
theorem dX2_userOf_53 : decode cX2_userOf 53 = .ok (.invokevirtual 118, 3) := by decide +kernel
theorem dX2_userOf_56 : decode cX2_userOf 56 = .ok (.if_icmp .ge 64, 3) := by decide +kernel
theorem dX2_userOf_59 : decode cX2_userOf 59 = .ok (.aload_n 0, 1) := by decide +kernel
theorem dX2_userOf_60 : decode cX2_userOf 60 = .ok (.getfield 28, 3) := by decide +kernel
theorem dX2_userOf_63 : decode cX2_userOf 63 = .ok (.iload 5, 2) := by decide +kernel
theorem dX2_userOf_65 : decode cX2_userOf 65 = .ok (.iconst 0, 1) := by decide +kernel
theorem dX2_userOf_66 : decode cX2_userOf 66 = .ok (.invokevirtual 121, 3) := by decide +kernel
theorem dX2_userOf_69 : decode cX2_userOf 69 = .ok (.iload_n 2, 1) := by decide +kernel
theorem dX2_userOf_70 : decode cX2_userOf 70 = .ok (.if_icmp .ne 44, 3) := by decide +kernel
theorem dX2_userOf_73 : decode cX2_userOf 73 = .ok (.iload 4, 2) := by decide +kernel
theorem dX2_userOf_75 : decode cX2_userOf 75 = .ok (.aload_n 0, 1) := by decide +kernel
theorem dX2_userOf_76 : decode cX2_userOf 76 = .ok (.getfield 28, 3) := by decide +kernel
theorem dX2_userOf_79 : decode cX2_userOf 79 = .ok (.iload 5, 2) := by decide +kernel
theorem dX2_userOf_81 : decode cX2_userOf 81 = .ok (.iconst 2, 1) := by decide +kernel
theorem dX2_userOf_82 : decode cX2_userOf 82 = .ok (.invokevirtual 121, 3) := by decide +kernel
theorem dX2_userOf_85 : decode cX2_userOf 85 = .ok (.if_icmp .ge 14, 3) := by decide +kernel
theorem dX2_userOf_88 : decode cX2_userOf 88 = .ok (.aload_n 0, 1) := by decide +kernel
theorem dX2_userOf_89 : decode cX2_userOf 89 = .ok (.getfield 28, 3) := by decide +kernel
theorem dX2_userOf_92 : decode cX2_userOf 92 = .ok (.iload 5, 2) := by decide +kernel
theorem dX2_userOf_94 : decode cX2_userOf 94 = .ok (.iconst 1, 1) := by decide +kernel
theorem dX2_userOf_95 : decode cX2_userOf 95 = .ok (.invokevirtual 121, 3) := by decide +kernel
theorem dX2_userOf_98 : decode cX2_userOf 98 = .ok (.ireturn, 1) := by decide +kernel
theorem dX2_userOf_99 : decode cX2_userOf 99 = .ok (.iload 4, 2) := by decide +kernel
theorem dX2_userOf_101 : decode cX2_userOf 101 = .ok (.aload_n 0, 1) := by decide +kernel
theorem dX2_userOf_102 : decode cX2_userOf 102 = .ok (.getfield 28, 3) := by decide +kernel
theorem dX2_userOf_105 : decode cX2_userOf 105 = .ok (.iload 5, 2) := by decide +kernel
theorem dX2_userOf_107 : decode cX2_userOf 107 = .ok (.iconst 2, 1) := by decide +kernel
theorem dX2_userOf_108 : decode cX2_userOf 108 = .ok (.invokevirtual 121, 3) := by decide +kernel
theorem dX2_userOf_111 : decode cX2_userOf 111 = .ok (.isub, 1) := by decide +kernel
theorem dX2_userOf_112 : decode cX2_userOf 112 = .ok (.istore 4, 2) := by decide +kernel
theorem dX2_userOf_114 : decode cX2_userOf 114 = .ok (.iinc 5 1, 3) := by decide +kernel
theorem dX2_userOf_117 : decode cX2_userOf 117 = .ok (.goto (-70), 3) := by decide +kernel
theorem dX2_userOf_120 : decode cX2_userOf 120 = .ok (.iload_n 2, 1) := by decide +kernel
theorem dX2_userOf_121 : decode cX2_userOf 121 = .ok (.ireturn, 1) := by decide +kernel
theorem dX2_askOwner_0 : decode cX2_askOwner 0 = .ok (.iload_n 2, 1) := by decide +kernel
theorem dX2_askOwner_1 : decode cX2_askOwner 1 = .ok (.tableswitch 174 0 13 #[71, 76, 81, 86, 91, 96, 101, 106, 115, 135, 154, 159, 164, 169], 71) := by decide +kernel
theorem dX2_askOwner_72 : decode cX2_askOwner 72 = .ok (.aload_n 1, 1) := by decide +kernel
theorem dX2_askOwner_73 : decode cX2_askOwner 73 = .ok (.getfield 95, 3) := by decide +kernel
theorem dX2_askOwner_76 : decode cX2_askOwner 76 = .ok (.ireturn, 1) := by decide +kernel
theorem dX2_askOwner_77 : decode cX2_askOwner 77 = .ok (.aload_n 1, 1) := by decide +kernel
theorem dX2_askOwner_78 : decode cX2_askOwner 78 = .ok (.getfield 174, 3) := by decide +kernel
theorem dX2_askOwner_81 : decode cX2_askOwner 81 = .ok (.ireturn, 1) := by decide +kernel
theorem dX2_askOwner_82 : decode cX2_askOwner 82 = .ok (.aload_n 1, 1) := by decide +kernel
theorem dX2_askOwner_83 : decode cX2_askOwner 83 = .ok (.getfield 177, 3) := by decide +kernel
theorem dX2_askOwner_86 : decode cX2_askOwner 86 = .ok (.ireturn, 1) := by decide +kernel
theorem dX2_askOwner_87 : decode cX2_askOwner 87 = .ok (.aload_n 1, 1) := by decide +kernel
theorem dX2_askOwner_88 : decode cX2_askOwner 88 = .ok (.getfield 180, 3) := by decide +kernel
theorem dX2_askOwner_91 : decode cX2_askOwner 91 = .ok (.ireturn, 1) := by decide +kernel
theorem dX2_askOwner_92 : decode cX2_askOwner 92 = .ok (.aload_n 1, 1) := by decide +kernel
theorem dX2_askOwner_93 : decode cX2_askOwner 93 = .ok (.getfield 183, 3) := by decide +kernel
theorem dX2_askOwner_96 : decode cX2_askOwner 96 = .ok (.ireturn, 1) := by decide +kernel
theorem dX2_askOwner_97 : decode cX2_askOwner 97 = .ok (.aload_n 1, 1) := by decide +kernel
theorem dX2_askOwner_98 : decode cX2_askOwner 98 = .ok (.getfield 186, 3) := by decide +kernel
theorem dX2_askOwner_101 : decode cX2_askOwner 101 = .ok (.ireturn, 1) := by decide +kernel
theorem dX2_askOwner_102 : decode cX2_askOwner 102 = .ok (.aload_n 1, 1) := by decide +kernel
theorem dX2_askOwner_103 : decode cX2_askOwner 103 = .ok (.getfield 139, 3) := by decide +kernel
theorem dX2_askOwner_106 : decode cX2_askOwner 106 = .ok (.ireturn, 1) := by decide +kernel
theorem dX2_askOwner_107 : decode cX2_askOwner 107 = .ok (.aload_n 0, 1) := by decide +kernel
theorem dX2_askOwner_108 : decode cX2_askOwner 108 = .ok (.getfield 21, 3) := by decide +kernel
theorem dX2_askOwner_111 : decode cX2_askOwner 111 = .ok (.aload_n 1, 1) := by decide +kernel
theorem dX2_askOwner_112 : decode cX2_askOwner 112 = .ok (.invokevirtual 189, 3) := by decide +kernel
theorem dX2_askOwner_115 : decode cX2_askOwner 115 = .ok (.ireturn, 1) := by decide +kernel
theorem dX2_askOwner_116 : decode cX2_askOwner 116 = .ok (.aload_n 1, 1) := by decide +kernel
theorem dX2_askOwner_117 : decode cX2_askOwner 117 = .ok (.getfield 95, 3) := by decide +kernel
theorem dX2_askOwner_120 : decode cX2_askOwner 120 = .ok (.ifCond .le 14, 3) := by decide +kernel
theorem dX2_askOwner_123 : decode cX2_askOwner 123 = .ok (.aload_n 0, 1) := by decide +kernel
theorem dX2_askOwner_124 : decode cX2_askOwner 124 = .ok (.getfield 21, 3) := by decide +kernel
theorem dX2_askOwner_127 : decode cX2_askOwner 127 = .ok (.aload_n 1, 1) := by decide +kernel
theorem dX2_askOwner_128 : decode cX2_askOwner 128 = .ok (.invokevirtual 170, 3) := by decide +kernel
theorem dX2_askOwner_131 : decode cX2_askOwner 131 = .ok (.goto 4, 3) := by decide +kernel
theorem dX2_askOwner_134 : decode cX2_askOwner 134 = .ok (.iconst (-1), 1) := by decide +kernel
theorem dX2_askOwner_135 : decode cX2_askOwner 135 = .ok (.ireturn, 1) := by decide +kernel
theorem dX2_askOwner_136 : decode cX2_askOwner 136 = .ok (.aload_n 0, 1) := by decide +kernel
theorem dX2_askOwner_137 : decode cX2_askOwner 137 = .ok (.aload_n 1, 1) := by decide +kernel
theorem dX2_askOwner_138 : decode cX2_askOwner 138 = .ok (.invokevirtual 192, 3) := by decide +kernel
theorem dX2_askOwner_141 : decode cX2_askOwner 141 = .ok (.aload_n 0, 1) := by decide +kernel
theorem dX2_askOwner_142 : decode cX2_askOwner 142 = .ok (.getfield 28, 3) := by decide +kernel
theorem dX2_askOwner_145 : decode cX2_askOwner 145 = .ok (.iconst 1, 1) := by decide +kernel
theorem dX2_askOwner_146 : decode cX2_askOwner 146 = .ok (.aload_n 1, 1) := by decide +kernel
theorem dX2_askOwner_147 : decode cX2_askOwner 147 = .ok (.getfield 125, 3) := by decide +kernel
theorem dX2_askOwner_150 : decode cX2_askOwner 150 = .ok (.invokevirtual 164, 3) := by decide +kernel
theorem dX2_askOwner_153 : decode cX2_askOwner 153 = .ok (.iadd, 1) := by decide +kernel
theorem dX2_askOwner_154 : decode cX2_askOwner 154 = .ok (.ireturn, 1) := by decide +kernel
theorem dX2_askOwner_155 : decode cX2_askOwner 155 = .ok (.aload_n 1, 1) := by decide +kernel
theorem dX2_askOwner_156 : decode cX2_askOwner 156 = .ok (.getfield 195, 3) := by decide +kernel
theorem dX2_askOwner_159 : decode cX2_askOwner 159 = .ok (.ireturn, 1) := by decide +kernel
theorem dX2_askOwner_160 : decode cX2_askOwner 160 = .ok (.aload_n 1, 1) := by decide +kernel
theorem dX2_askOwner_161 : decode cX2_askOwner 161 = .ok (.invokevirtual 198, 3) := by decide +kernel
theorem dX2_askOwner_164 : decode cX2_askOwner 164 = .ok (.ireturn, 1) := by decide +kernel
theorem dX2_askOwner_165 : decode cX2_askOwner 165 = .ok (.aload_n 1, 1) := by decide +kernel
theorem dX2_askOwner_166 : decode cX2_askOwner 166 = .ok (.getfield 115, 3) := by decide +kernel
theorem dX2_askOwner_169 : decode cX2_askOwner 169 = .ok (.ireturn, 1) := by decide +kernel
theorem dX2_askOwner_170 : decode cX2_askOwner 170 = .ok (.aload_n 1, 1) := by decide +kernel
theorem dX2_askOwner_171 : decode cX2_askOwner 171 = .ok (.getfield 201, 3) := by decide +kernel
theorem dX2_askOwner_174 : decode cX2_askOwner 174 = .ok (.ireturn, 1) := by decide +kernel
theorem dX2_askOwner_175 : decode cX2_askOwner 175 = .ok (.iconst (-1), 1) := by decide +kernel
theorem dX2_askOwner_176 : decode cX2_askOwner 176 = .ok (.ireturn, 1) := by decide +kernel
theorem dX2_askAll_0 : decode cX2_askAll 0 = .ok (.iload_n 1, 1) := by decide +kernel
theorem dX2_askAll_1 : decode cX2_askAll 1 = .ok (.tableswitch 192 0 15 #[79, 84, 89, 97, 105, 113, 121, 129, 137, 145, 153, 161, 169, 174, 179, 184], 79) := by decide +kernel
theorem dX2_askAll_80 : decode cX2_askAll 80 = .ok (.aload_n 0, 1) := by decide +kernel
theorem dX2_askAll_81 : decode cX2_askAll 81 = .ok (.getfield 45, 3) := by decide +kernel
theorem dX2_askAll_84 : decode cX2_askAll 84 = .ok (.ireturn, 1) := by decide +kernel
theorem dX2_askAll_85 : decode cX2_askAll 85 = .ok (.aload_n 0, 1) := by decide +kernel
theorem dX2_askAll_86 : decode cX2_askAll 86 = .ok (.invokevirtual 58, 3) := by decide +kernel
theorem dX2_askAll_89 : decode cX2_askAll 89 = .ok (.ireturn, 1) := by decide +kernel
theorem dX2_askAll_90 : decode cX2_askAll 90 = .ok (.aload_n 0, 1) := by decide +kernel
theorem dX2_askAll_91 : decode cX2_askAll 91 = .ok (.getfield 12, 3) := by decide +kernel
theorem dX2_askAll_94 : decode cX2_askAll 94 = .ok (.getfield 204, 3) := by decide +kernel
theorem dX2_askAll_97 : decode cX2_askAll 97 = .ok (.ireturn, 1) := by decide +kernel
theorem dX2_askAll_98 : decode cX2_askAll 98 = .ok (.aload_n 0, 1) := by decide +kernel
theorem dX2_askAll_99 : decode cX2_askAll 99 = .ok (.getfield 12, 3) := by decide +kernel
theorem dX2_askAll_102 : decode cX2_askAll 102 = .ok (.invokevirtual 85, 3) := by decide +kernel
theorem dX2_askAll_105 : decode cX2_askAll 105 = .ok (.ireturn, 1) := by decide +kernel
theorem dX2_askAll_106 : decode cX2_askAll 106 = .ok (.aload_n 0, 1) := by decide +kernel
theorem dX2_askAll_107 : decode cX2_askAll 107 = .ok (.getfield 12, 3) := by decide +kernel
theorem dX2_askAll_110 : decode cX2_askAll 110 = .ok (.getfield 207, 3) := by decide +kernel
theorem dX2_askAll_113 : decode cX2_askAll 113 = .ok (.ireturn, 1) := by decide +kernel
theorem dX2_askAll_114 : decode cX2_askAll 114 = .ok (.aload_n 0, 1) := by decide +kernel
theorem dX2_askAll_115 : decode cX2_askAll 115 = .ok (.getfield 12, 3) := by decide +kernel
theorem dX2_askAll_118 : decode cX2_askAll 118 = .ok (.getfield 210, 3) := by decide +kernel
theorem dX2_askAll_121 : decode cX2_askAll 121 = .ok (.ireturn, 1) := by decide +kernel
theorem dX2_askAll_122 : decode cX2_askAll 122 = .ok (.aload_n 0, 1) := by decide +kernel
theorem dX2_askAll_123 : decode cX2_askAll 123 = .ok (.getfield 12, 3) := by decide +kernel
theorem dX2_askAll_126 : decode cX2_askAll 126 = .ok (.getfield 213, 3) := by decide +kernel
theorem dX2_askAll_129 : decode cX2_askAll 129 = .ok (.ireturn, 1) := by decide +kernel
theorem dX2_askAll_130 : decode cX2_askAll 130 = .ok (.aload_n 0, 1) := by decide +kernel
theorem dX2_askAll_131 : decode cX2_askAll 131 = .ok (.getfield 21, 3) := by decide +kernel
theorem dX2_askAll_134 : decode cX2_askAll 134 = .ok (.invokevirtual 88, 3) := by decide +kernel
theorem dX2_askAll_137 : decode cX2_askAll 137 = .ok (.ireturn, 1) := by decide +kernel
theorem dX2_askAll_138 : decode cX2_askAll 138 = .ok (.aload_n 0, 1) := by decide +kernel
theorem dX2_askAll_139 : decode cX2_askAll 139 = .ok (.getfield 21, 3) := by decide +kernel
theorem dX2_askAll_142 : decode cX2_askAll 142 = .ok (.invokevirtual 216, 3) := by decide +kernel
theorem dX2_askAll_145 : decode cX2_askAll 145 = .ok (.ireturn, 1) := by decide +kernel
theorem dX2_askAll_146 : decode cX2_askAll 146 = .ok (.aload_n 0, 1) := by decide +kernel
theorem dX2_askAll_147 : decode cX2_askAll 147 = .ok (.getfield 21, 3) := by decide +kernel
theorem dX2_askAll_150 : decode cX2_askAll 150 = .ok (.invokevirtual 219, 3) := by decide +kernel
theorem dX2_askAll_153 : decode cX2_askAll 153 = .ok (.ireturn, 1) := by decide +kernel
theorem dX2_askAll_154 : decode cX2_askAll 154 = .ok (.aload_n 0, 1) := by decide +kernel
theorem dX2_askAll_155 : decode cX2_askAll 155 = .ok (.getfield 28, 3) := by decide +kernel
theorem dX2_askAll_158 : decode cX2_askAll 158 = .ok (.invokevirtual 118, 3) := by decide +kernel
theorem dX2_askAll_161 : decode cX2_askAll 161 = .ok (.ireturn, 1) := by decide +kernel
theorem dX2_askAll_162 : decode cX2_askAll 162 = .ok (.aload_n 0, 1) := by decide +kernel
theorem dX2_askAll_163 : decode cX2_askAll 163 = .ok (.getfield 32, 3) := by decide +kernel
theorem dX2_askAll_166 : decode cX2_askAll 166 = .ok (.invokevirtual 118, 3) := by decide +kernel
theorem dX2_askAll_169 : decode cX2_askAll 169 = .ok (.ireturn, 1) := by decide +kernel
theorem dX2_askAll_170 : decode cX2_askAll 170 = .ok (.aload_n 0, 1) := by decide +kernel
theorem dX2_askAll_171 : decode cX2_askAll 171 = .ok (.getfield 49, 3) := by decide +kernel
theorem dX2_askAll_174 : decode cX2_askAll 174 = .ok (.ireturn, 1) := by decide +kernel
theorem dX2_askAll_175 : decode cX2_askAll 175 = .ok (.aload_n 0, 1) := by decide +kernel
theorem dX2_askAll_176 : decode cX2_askAll 176 = .ok (.getfield 52, 3) := by decide +kernel
theorem dX2_askAll_179 : decode cX2_askAll 179 = .ok (.ireturn, 1) := by decide +kernel
theorem dX2_askAll_180 : decode cX2_askAll 180 = .ok (.aload_n 0, 1) := by decide +kernel
theorem dX2_askAll_181 : decode cX2_askAll 181 = .ok (.getfield 55, 3) := by decide +kernel
theorem dX2_askAll_184 : decode cX2_askAll 184 = .ok (.ireturn, 1) := by decide +kernel
theorem dX2_askAll_185 : decode cX2_askAll 185 = .ok (.aload_n 0, 1) := by decide +kernel
theorem dX2_askAll_186 : decode cX2_askAll 186 = .ok (.getfield 21, 3) := by decide +kernel
theorem dX2_askAll_189 : decode cX2_askAll 189 = .ok (.invokevirtual 222, 3) := by decide +kernel
theorem dX2_askAll_192 : decode cX2_askAll 192 = .ok (.ireturn, 1) := by decide +kernel
theorem dX2_askAll_193 : decode cX2_askAll 193 = .ok (.iconst (-1), 1) := by decide +kernel
theorem dX2_askAll_194 : decode cX2_askAll 194 = .ok (.ireturn, 1) := by decide +kernel
theorem dX3_init_0 : decode cX3_init 0 = .ok (.aload_n 0, 1) := by decide +kernel
theorem dX3_init_1 : decode cX3_init 1 = .ok (.invokespecial 3, 3) := by decide +kernel
theorem dX3_init_4 : decode cX3_init 4 = .ok (.aload_n 0, 1) := by decide +kernel
theorem dX3_init_5 : decode cX3_init 5 = .ok (.iload_n 1, 1) := by decide +kernel
theorem dX3_init_6 : decode cX3_init 6 = .ok (.putfield 9, 3) := by decide +kernel
theorem dX3_init_9 : decode cX3_init 9 = .ok (.return_, 1) := by decide +kernel
theorem dX3_becomeLike_0 : decode cX3_becomeLike 0 = .ok (.aload_n 0, 1) := by decide +kernel
theorem dX3_becomeLike_1 : decode cX3_becomeLike 1 = .ok (.aload_n 1, 1) := by decide +kernel
theorem dX3_becomeLike_2 : decode cX3_becomeLike 2 = .ok (.getfield 15, 3) := by decide +kernel
theorem dX3_becomeLike_5 : decode cX3_becomeLike 5 = .ok (.putfield 15, 3) := by decide +kernel
theorem dX3_becomeLike_8 : decode cX3_becomeLike 8 = .ok (.aload_n 0, 1) := by decide +kernel
theorem dX3_becomeLike_9 : decode cX3_becomeLike 9 = .ok (.aload_n 1, 1) := by decide +kernel
theorem dX3_becomeLike_10 : decode cX3_becomeLike 10 = .ok (.getfield 19, 3) := by decide +kernel
theorem dX3_becomeLike_13 : decode cX3_becomeLike 13 = .ok (.putfield 19, 3) := by decide +kernel
theorem dX3_becomeLike_16 : decode cX3_becomeLike 16 = .ok (.aload_n 0, 1) := by decide +kernel
theorem dX3_becomeLike_17 : decode cX3_becomeLike 17 = .ok (.aload_n 1, 1) := by decide +kernel
theorem dX3_becomeLike_18 : decode cX3_becomeLike 18 = .ok (.getfield 22, 3) := by decide +kernel
theorem dX3_becomeLike_21 : decode cX3_becomeLike 21 = .ok (.putfield 22, 3) := by decide +kernel
theorem dX3_becomeLike_24 : decode cX3_becomeLike 24 = .ok (.aload_n 0, 1) := by decide +kernel
theorem dX3_becomeLike_25 : decode cX3_becomeLike 25 = .ok (.aload_n 1, 1) := by decide +kernel
theorem dX3_becomeLike_26 : decode cX3_becomeLike 26 = .ok (.getfield 25, 3) := by decide +kernel
theorem dX3_becomeLike_29 : decode cX3_becomeLike 29 = .ok (.putfield 25, 3) := by decide +kernel
theorem dX3_becomeLike_32 : decode cX3_becomeLike 32 = .ok (.aload_n 0, 1) := by decide +kernel
theorem dX3_becomeLike_33 : decode cX3_becomeLike 33 = .ok (.aload_n 1, 1) := by decide +kernel
theorem dX3_becomeLike_34 : decode cX3_becomeLike 34 = .ok (.getfield 28, 3) := by decide +kernel
theorem dX3_becomeLike_37 : decode cX3_becomeLike 37 = .ok (.putfield 28, 3) := by decide +kernel
theorem dX3_becomeLike_40 : decode cX3_becomeLike 40 = .ok (.aload_n 0, 1) := by decide +kernel
theorem dX3_becomeLike_41 : decode cX3_becomeLike 41 = .ok (.aload_n 1, 1) := by decide +kernel
theorem dX3_becomeLike_42 : decode cX3_becomeLike 42 = .ok (.getfield 31, 3) := by decide +kernel
theorem dX3_becomeLike_45 : decode cX3_becomeLike 45 = .ok (.putfield 31, 3) := by decide +kernel
theorem dX3_becomeLike_48 : decode cX3_becomeLike 48 = .ok (.aload_n 0, 1) := by decide +kernel
theorem dX3_becomeLike_49 : decode cX3_becomeLike 49 = .ok (.aload_n 1, 1) := by decide +kernel
theorem dX3_becomeLike_50 : decode cX3_becomeLike 50 = .ok (.getfield 34, 3) := by decide +kernel
theorem dX3_becomeLike_53 : decode cX3_becomeLike 53 = .ok (.putfield 34, 3) := by decide +kernel
theorem dX3_becomeLike_56 : decode cX3_becomeLike 56 = .ok (.aload_n 0, 1) := by decide +kernel
theorem dX3_becomeLike_57 : decode cX3_becomeLike 57 = .ok (.aload_n 1, 1) := by decide +kernel
theorem dX3_becomeLike_58 : decode cX3_becomeLike 58 = .ok (.getfield 37, 3) := by decide +kernel
theorem dX3_becomeLike_61 : decode cX3_becomeLike 61 = .ok (.putfield 37, 3) := by decide +kernel
theorem dX3_becomeLike_64 : decode cX3_becomeLike 64 = .ok (.aload_n 0, 1) := by decide +kernel
theorem dX3_becomeLike_65 : decode cX3_becomeLike 65 = .ok (.aload_n 1, 1) := by decide +kernel
theorem dX3_becomeLike_66 : decode cX3_becomeLike 66 = .ok (.getfield 40, 3) := by decide +kernel
theorem dX3_becomeLike_69 : decode cX3_becomeLike 69 = .ok (.putfield 40, 3) := by decide +kernel
theorem dX3_becomeLike_72 : decode cX3_becomeLike 72 = .ok (.aload_n 0, 1) := by decide +kernel
theorem dX3_becomeLike_73 : decode cX3_becomeLike 73 = .ok (.aload_n 1, 1) := by decide +kernel
theorem dX3_becomeLike_74 : decode cX3_becomeLike 74 = .ok (.getfield 43, 3) := by decide +kernel
theorem dX3_becomeLike_77 : decode cX3_becomeLike 77 = .ok (.putfield 43, 3) := by decide +kernel
theorem dX3_becomeLike_80 : decode cX3_becomeLike 80 = .ok (.aload_n 0, 1) := by decide +kernel
theorem dX3_becomeLike_81 : decode cX3_becomeLike 81 = .ok (.aload_n 1, 1) := by decide +kernel
theorem dX3_becomeLike_82 : decode cX3_becomeLike 82 = .ok (.getfield 46, 3) := by decide +kernel
theorem dX3_becomeLike_85 : decode cX3_becomeLike 85 = .ok (.putfield 46, 3) := by decide +kernel
theorem dX3_becomeLike_88 : decode cX3_becomeLike 88 = .ok (.aload_n 0, 1) := by decide +kernel
theorem dX3_becomeLike_89 : decode cX3_becomeLike 89 = .ok (.aload_n 1, 1) := by decide +kernel
theorem dX3_becomeLike_90 : decode cX3_becomeLike 90 = .ok (.getfield 49, 3) := by decide +kernel
theorem dX3_becomeLike_93 : decode cX3_becomeLike 93 = .ok (.putfield 49, 3) := by decide +kernel
theorem dX3_becomeLike_96 : decode cX3_becomeLike 96 = .ok (.aload_n 0, 1) := by decide +kernel
theorem dX3_becomeLike_97 : decode cX3_becomeLike 97 = .ok (.aload_n 1, 1) := by decide +kernel
theorem dX3_becomeLike_98 : decode cX3_becomeLike 98 = .ok (.getfield 52, 3) := by decide +kernel
theorem dX3_becomeLike_101 : decode cX3_becomeLike 101 = .ok (.putfield 52, 3) := by decide +kernel
theorem dX3_becomeLike_104 : decode cX3_becomeLike 104 = .ok (.aload_n 0, 1) := by decide +kernel
theorem dX3_becomeLike_105 : decode cX3_becomeLike 105 = .ok (.aload_n 1, 1) := by decide +kernel
theorem dX3_becomeLike_106 : decode cX3_becomeLike 106 = .ok (.getfield 55, 3) := by decide +kernel
theorem dX3_becomeLike_109 : decode cX3_becomeLike 109 = .ok (.putfield 55, 3) := by decide +kernel
theorem dX3_becomeLike_112 : decode cX3_becomeLike 112 = .ok (.return_, 1) := by decide +kernel
theorem dX3_settle_0 : decode cX3_settle 0 = .ok (.aload_n 0, 1) := by decide +kernel
theorem dX3_settle_1 : decode cX3_settle 1 = .ok (.iload_n 1, 1) := by decide +kernel
theorem dX3_settle_2 : decode cX3_settle 2 = .ok (.putfield 19, 3) := by decide +kernel
theorem dX3_settle_5 : decode cX3_settle 5 = .ok (.aload_n 0, 1) := by decide +kernel
theorem dX3_settle_6 : decode cX3_settle 6 = .ok (.iload_n 2, 1) := by decide +kernel
theorem dX3_settle_7 : decode cX3_settle 7 = .ok (.putfield 22, 3) := by decide +kernel
theorem dX3_settle_10 : decode cX3_settle 10 = .ok (.aload_n 0, 1) := by decide +kernel
theorem dX3_settle_11 : decode cX3_settle 11 = .ok (.iload_n 3, 1) := by decide +kernel
theorem dX3_settle_12 : decode cX3_settle 12 = .ok (.putfield 25, 3) := by decide +kernel
theorem dX3_settle_15 : decode cX3_settle 15 = .ok (.aload_n 0, 1) := by decide +kernel
theorem dX3_settle_16 : decode cX3_settle 16 = .ok (.iload 4, 2) := by decide +kernel
theorem dX3_settle_18 : decode cX3_settle 18 = .ok (.putfield 28, 3) := by decide +kernel
theorem dX3_settle_21 : decode cX3_settle 21 = .ok (.aload_n 0, 1) := by decide +kernel
theorem dX3_settle_22 : decode cX3_settle 22 = .ok (.bipush 50, 2) := by decide +kernel
theorem dX3_settle_24 : decode cX3_settle 24 = .ok (.putfield 31, 3) := by decide +kernel
theorem dX3_settle_27 : decode cX3_settle 27 = .ok (.return_, 1) := by decide +kernel
theorem dX3_payTo_0 : decode cX3_payTo 0 = .ok (.aload_n 0, 1) := by decide +kernel
theorem dX3_payTo_1 : decode cX3_payTo 1 = .ok (.dup, 1) := by decide +kernel
theorem dX3_payTo_2 : decode cX3_payTo 2 = .ok (.getfield 22, 3) := by decide +kernel
theorem dX3_payTo_5 : decode cX3_payTo 5 = .ok (.iload_n 2, 1) := by decide +kernel
theorem dX3_payTo_6 : decode cX3_payTo 6 = .ok (.isub, 1) := by decide +kernel
theorem dX3_payTo_7 : decode cX3_payTo 7 = .ok (.putfield 22, 3) := by decide +kernel
theorem dX3_payTo_10 : decode cX3_payTo 10 = .ok (.aload_n 1, 1) := by decide +kernel
theorem dX3_payTo_11 : decode cX3_payTo 11 = .ok (.dup, 1) := by decide +kernel
theorem dX3_payTo_12 : decode cX3_payTo 12 = .ok (.getfield 22, 3) := by decide +kernel
theorem dX3_payTo_15 : decode cX3_payTo 15 = .ok (.iload_n 2, 1) := by decide +kernel
theorem dX3_payTo_16 : decode cX3_payTo 16 = .ok (.iadd, 1) := by decide +kernel
theorem dX3_payTo_17 : decode cX3_payTo 17 = .ok (.putfield 22, 3) := by decide +kernel
theorem dX3_payTo_20 : decode cX3_payTo 20 = .ok (.return_, 1) := by decide +kernel
theorem dX3_pollenPalms_0 : decode cX3_pollenPalms 0 = .ok (.aload_n 0, 1) := by decide +kernel
theorem dX3_pollenPalms_1 : decode cX3_pollenPalms 1 = .ok (.getfield 28, 3) := by decide +kernel
theorem dX3_pollenPalms_4 : decode cX3_pollenPalms 4 = .ok (.bipush 20, 2) := by decide +kernel
theorem dX3_pollenPalms_6 : decode cX3_pollenPalms 6 = .ok (.imul, 1) := by decide +kernel
theorem dX3_pollenPalms_7 : decode cX3_pollenPalms 7 = .ok (.aload_n 0, 1) := by decide +kernel
theorem dX3_pollenPalms_8 : decode cX3_pollenPalms 8 = .ok (.getfield 43, 3) := by decide +kernel
theorem dX3_pollenPalms_11 : decode cX3_pollenPalms 11 = .ok (.iadd, 1) := by decide +kernel
theorem dX3_pollenPalms_12 : decode cX3_pollenPalms 12 = .ok (.ireturn, 1) := by decide +kernel
theorem dX3_takeFlowing_0 : decode cX3_takeFlowing 0 = .ok (.aload_n 0, 1) := by decide +kernel
theorem dX3_takeFlowing_1 : decode cX3_takeFlowing 1 = .ok (.aload_n 0, 1) := by decide +kernel
theorem dX3_takeFlowing_2 : decode cX3_takeFlowing 2 = .ok (.getfield 46, 3) := by decide +kernel
theorem dX3_takeFlowing_5 : decode cX3_takeFlowing 5 = .ok (.bipush 100, 2) := by decide +kernel
theorem dX3_takeFlowing_7 : decode cX3_takeFlowing 7 = .ok (.iconst 2, 1) := by decide +kernel
theorem dX3_takeFlowing_8 : decode cX3_takeFlowing 8 = .ok (.iload_n 1, 1) := by decide +kernel
theorem dX3_takeFlowing_9 : decode cX3_takeFlowing 9 = .ok (.imul, 1) := by decide +kernel
theorem dX3_takeFlowing_10 : decode cX3_takeFlowing 10 = .ok (.isub, 1) := by decide +kernel
theorem dX3_takeFlowing_11 : decode cX3_takeFlowing 11 = .ok (.imul, 1) := by decide +kernel
theorem dX3_takeFlowing_12 : decode cX3_takeFlowing 12 = .ok (.bipush 100, 2) := by decide +kernel
theorem dX3_takeFlowing_14 : decode cX3_takeFlowing 14 = .ok (.idiv, 1) := by decide +kernel
theorem dX3_takeFlowing_15 : decode cX3_takeFlowing 15 = .ok (.putfield 49, 3) := by decide +kernel
theorem dX3_takeFlowing_18 : decode cX3_takeFlowing 18 = .ok (.aload_n 0, 1) := by decide +kernel
theorem dX3_takeFlowing_19 : decode cX3_takeFlowing 19 = .ok (.dup, 1) := by decide +kernel
theorem dX3_takeFlowing_20 : decode cX3_takeFlowing 20 = .ok (.getfield 52, 3) := by decide +kernel
theorem dX3_takeFlowing_23 : decode cX3_takeFlowing 23 = .ok (.aload_n 0, 1) := by decide +kernel
theorem dX3_takeFlowing_24 : decode cX3_takeFlowing 24 = .ok (.getfield 49, 3) := by decide +kernel
theorem dX3_takeFlowing_27 : decode cX3_takeFlowing 27 = .ok (.iadd, 1) := by decide +kernel
theorem dX3_takeFlowing_28 : decode cX3_takeFlowing 28 = .ok (.putfield 52, 3) := by decide +kernel
theorem dX3_takeFlowing_31 : decode cX3_takeFlowing 31 = .ok (.aload_n 0, 1) := by decide +kernel
theorem dX3_takeFlowing_32 : decode cX3_takeFlowing 32 = .ok (.iconst 0, 1) := by decide +kernel
theorem dX3_takeFlowing_33 : decode cX3_takeFlowing 33 = .ok (.putfield 46, 3) := by decide +kernel
theorem dX3_takeFlowing_36 : decode cX3_takeFlowing 36 = .ok (.return_, 1) := by decide +kernel
theorem dX3_growPalms_0 : decode cX3_growPalms 0 = .ok (.aload_n 0, 1) := by decide +kernel
theorem dX3_growPalms_1 : decode cX3_growPalms 1 = .ok (.getfield 25, 3) := by decide +kernel
theorem dX3_growPalms_4 : decode cX3_growPalms 4 = .ok (.bipush 20, 2) := by decide +kernel
theorem dX3_growPalms_6 : decode cX3_growPalms 6 = .ok (.imul, 1) := by decide +kernel
theorem dX3_growPalms_7 : decode cX3_growPalms 7 = .ok (.istore_n 2, 1) := by decide +kernel
theorem dX3_growPalms_8 : decode cX3_growPalms 8 = .ok (.iload_n 2, 1) := by decide +kernel
theorem dX3_growPalms_9 : decode cX3_growPalms 9 = .ok (.iconst 1, 1) := by decide +kernel
theorem dX3_growPalms_10 : decode cX3_growPalms 10 = .ok (.if_icmp .ge 4, 3) := by decide +kernel
theorem dX3_growPalms_13 : decode cX3_growPalms 13 = .ok (.return_, 1) := by decide +kernel
theorem dX3_growPalms_14 : decode cX3_growPalms 14 = .ok (.bipush 40, 2) := by decide +kernel
theorem dX3_growPalms_16 : decode cX3_growPalms 16 = .ok (.aload_n 0, 1) := by decide +kernel
theorem dX3_growPalms_17 : decode cX3_growPalms 17 = .ok (.getfield 49, 3) := by decide +kernel
theorem dX3_growPalms_20 : decode cX3_growPalms 20 = .ok (.bipush 30, 2) := by decide +kernel
theorem dX3_growPalms_22 : decode cX3_growPalms 22 = .ok (.imul, 1) := by decide +kernel
theorem dX3_growPalms_23 : decode cX3_growPalms 23 = .ok (.iload_n 2, 1) := by decide +kernel
theorem dX3_growPalms_24 : decode cX3_growPalms 24 = .ok (.idiv, 1) := by decide +kernel
theorem dX3_growPalms_25 : decode cX3_growPalms 25 = .ok (.invokestatic 68, 3) := by decide +kernel
theorem dX3_growPalms_28 : decode cX3_growPalms 28 = .ok (.istore_n 3, 1) := by decide +kernel
theorem dX3_growPalms_29 : decode cX3_growPalms 29 = .ok (.aload_n 0, 1) := by decide +kernel
theorem dX3_growPalms_30 : decode cX3_growPalms 30 = .ok (.iconst 0, 1) := by decide +kernel
theorem dX3_growPalms_31 : decode cX3_growPalms 31 = .ok (.bipush 99, 2) := by decide +kernel
theorem dX3_growPalms_33 : decode cX3_growPalms 33 = .ok (.aload_n 0, 1) := by decide +kernel
theorem dX3_growPalms_34 : decode cX3_growPalms 34 = .ok (.getfield 31, 3) := by decide +kernel
theorem dX3_growPalms_37 : decode cX3_growPalms 37 = .ok (.iload_n 3, 1) := by decide +kernel
theorem dX3_growPalms_38 : decode cX3_growPalms 38 = .ok (.iadd, 1) := by decide +kernel
theorem dX3_growPalms_39 : decode cX3_growPalms 39 = .ok (.invokestatic 68, 3) := by decide +kernel
theorem dX3_growPalms_42 : decode cX3_growPalms 42 = .ok (.bipush 6, 2) := by decide +kernel
theorem dX3_growPalms_44 : decode cX3_growPalms 44 = .ok (.isub, 1) := by decide +kernel
theorem dX3_growPalms_45 : decode cX3_growPalms 45 = .ok (.invokestatic 71, 3) := by decide +kernel
theorem dX3_growPalms_48 : decode cX3_growPalms 48 = .ok (.putfield 31, 3) := by decide +kernel
theorem dX3_growPalms_51 : decode cX3_growPalms 51 = .ok (.aload_n 0, 1) := by decide +kernel
theorem dX3_growPalms_52 : decode cX3_growPalms 52 = .ok (.getfield 49, 3) := by decide +kernel
theorem dX3_growPalms_55 : decode cX3_growPalms 55 = .ok (.iconst 2, 1) := by decide +kernel
theorem dX3_growPalms_56 : decode cX3_growPalms 56 = .ok (.iload_n 2, 1) := by decide +kernel
theorem dX3_growPalms_57 : decode cX3_growPalms 57 = .ok (.imul, 1) := by decide +kernel
theorem dX3_growPalms_58 : decode cX3_growPalms 58 = .ok (.if_icmp .le 18, 3) := by decide +kernel
theorem dX3_growPalms_61 : decode cX3_growPalms 61 = .ok (.aload_n 0, 1) := by decide +kernel
theorem dX3_growPalms_62 : decode cX3_growPalms 62 = .ok (.bipush 99, 2) := by decide +kernel
theorem dX3_growPalms_64 : decode cX3_growPalms 64 = .ok (.aload_n 0, 1) := by decide +kernel
theorem dX3_growPalms_65 : decode cX3_growPalms 65 = .ok (.getfield 34, 3) := by decide +kernel
theorem dX3_growPalms_68 : decode cX3_growPalms 68 = .ok (.iconst 1, 1) := by decide +kernel
theorem dX3_growPalms_69 : decode cX3_growPalms 69 = .ok (.iadd, 1) := by decide +kernel
theorem dX3_growPalms_70 : decode cX3_growPalms 70 = .ok (.invokestatic 68, 3) := by decide +kernel
theorem dX3_growPalms_73 : decode cX3_growPalms 73 = .ok (.putfield 34, 3) := by decide +kernel
theorem dX3_growPalms_76 : decode cX3_growPalms 76 = .ok (.iload_n 1, 1) := by decide +kernel
theorem dX3_growPalms_77 : decode cX3_growPalms 77 = .ok (.ifCond .eq 45, 3) := by decide +kernel
theorem dX3_growPalms_80 : decode cX3_growPalms 80 = .ok (.aload_n 0, 1) := by decide +kernel
theorem dX3_growPalms_81 : decode cX3_growPalms 81 = .ok (.getfield 31, 3) := by decide +kernel
theorem dX3_growPalms_84 : decode cX3_growPalms 84 = .ok (.bipush 15, 2) := by decide +kernel
theorem dX3_growPalms_86 : decode cX3_growPalms 86 = .ok (.if_icmp .ge 36, 3) := by decide +kernel
theorem dX3_growPalms_89 : decode cX3_growPalms 89 = .ok (.aload_n 0, 1) := by decide +kernel
theorem dX3_growPalms_90 : decode cX3_growPalms 90 = .ok (.dup, 1) := by decide +kernel
theorem dX3_growPalms_91 : decode cX3_growPalms 91 = .ok (.getfield 25, 3) := by decide +kernel
theorem dX3_growPalms_94 : decode cX3_growPalms 94 = .ok (.aload_n 0, 1) := by decide +kernel
theorem dX3_growPalms_95 : decode cX3_growPalms 95 = .ok (.getfield 25, 3) := by decide +kernel
theorem dX3_growPalms_98 : decode cX3_growPalms 98 = .ok (.bipush 10, 2) := by decide +kernel
theorem dX3_growPalms_100 : decode cX3_growPalms 100 = .ok (.idiv, 1) := by decide +kernel
theorem dX3_growPalms_101 : decode cX3_growPalms 101 = .ok (.iconst 1, 1) := by decide +kernel
theorem dX3_growPalms_102 : decode cX3_growPalms 102 = .ok (.iadd, 1) := by decide +kernel
theorem dX3_growPalms_103 : decode cX3_growPalms 103 = .ok (.isub, 1) := by decide +kernel
theorem dX3_growPalms_104 : decode cX3_growPalms 104 = .ok (.putfield 25, 3) := by decide +kernel
theorem dX3_growPalms_107 : decode cX3_growPalms 107 = .ok (.aload_n 0, 1) := by decide +kernel
theorem dX3_growPalms_108 : decode cX3_growPalms 108 = .ok (.aload_n 0, 1) := by decide +kernel
theorem dX3_growPalms_109 : decode cX3_growPalms 109 = .ok (.getfield 40, 3) := by decide +kernel
theorem dX3_growPalms_112 : decode cX3_growPalms 112 = .ok (.aload_n 0, 1) := by decide +kernel
theorem dX3_growPalms_113 : decode cX3_growPalms 113 = .ok (.getfield 25, 3) := by decide +kernel
theorem dX3_growPalms_116 : decode cX3_growPalms 116 = .ok (.invokestatic 68, 3) := by decide +kernel
theorem dX3_growPalms_119 : decode cX3_growPalms 119 = .ok (.putfield 40, 3) := by decide +kernel
theorem dX3_growPalms_122 : decode cX3_growPalms 122 = .ok (.return_, 1) := by decide +kernel
theorem dX3_reap_0 : decode cX3_reap 0 = .ok (.aload_n 0, 1) := by decide +kernel
theorem dX3_reap_1 : decode cX3_reap 1 = .ok (.aload_n 0, 1) := by decide +kernel
theorem dX3_reap_2 : decode cX3_reap 2 = .ok (.getfield 40, 3) := by decide +kernel
theorem dX3_reap_5 : decode cX3_reap 5 = .ok (.aload_n 0, 1) := by decide +kernel
theorem dX3_reap_6 : decode cX3_reap 6 = .ok (.getfield 31, 3) := by decide +kernel
theorem dX3_reap_9 : decode cX3_reap 9 = .ok (.imul, 1) := by decide +kernel
theorem dX3_reap_10 : decode cX3_reap 10 = .ok (.bipush 100, 2) := by decide +kernel
theorem dX3_reap_12 : decode cX3_reap 12 = .ok (.aload_n 0, 1) := by decide +kernel
theorem dX3_reap_13 : decode cX3_reap 13 = .ok (.getfield 34, 3) := by decide +kernel
theorem dX3_reap_16 : decode cX3_reap 16 = .ok (.isub, 1) := by decide +kernel
theorem dX3_reap_17 : decode cX3_reap 17 = .ok (.imul, 1) := by decide +kernel
theorem dX3_reap_18 : decode cX3_reap 18 = .ok (.sipush 1000, 3) := by decide +kernel
theorem dX3_reap_21 : decode cX3_reap 21 = .ok (.idiv, 1) := by decide +kernel
theorem dX3_reap_22 : decode cX3_reap 22 = .ok (.putfield 55, 3) := by decide +kernel
theorem dX3_reap_25 : decode cX3_reap 25 = .ok (.aload_n 0, 1) := by decide +kernel
theorem dX3_reap_26 : decode cX3_reap 26 = .ok (.dup, 1) := by decide +kernel
theorem dX3_reap_27 : decode cX3_reap 27 = .ok (.getfield 37, 3) := by decide +kernel
theorem dX3_reap_30 : decode cX3_reap 30 = .ok (.aload_n 0, 1) := by decide +kernel
theorem dX3_reap_31 : decode cX3_reap 31 = .ok (.getfield 55, 3) := by decide +kernel
theorem dX3_reap_34 : decode cX3_reap 34 = .ok (.iadd, 1) := by decide +kernel
theorem dX3_reap_35 : decode cX3_reap 35 = .ok (.putfield 37, 3) := by decide +kernel
theorem dX3_reap_38 : decode cX3_reap 38 = .ok (.aload_n 0, 1) := by decide +kernel
theorem dX3_reap_39 : decode cX3_reap 39 = .ok (.iconst 0, 1) := by decide +kernel
theorem dX3_reap_40 : decode cX3_reap 40 = .ok (.putfield 40, 3) := by decide +kernel
theorem dX3_reap_43 : decode cX3_reap 43 = .ok (.aload_n 0, 1) := by decide +kernel
theorem dX3_reap_44 : decode cX3_reap 44 = .ok (.iconst 0, 1) := by decide +kernel
theorem dX3_reap_45 : decode cX3_reap 45 = .ok (.putfield 43, 3) := by decide +kernel
theorem dX3_reap_48 : decode cX3_reap 48 = .ok (.return_, 1) := by decide +kernel
theorem dX4_init_0 : decode cX4_init 0 = .ok (.aload_n 0, 1) := by decide +kernel
theorem dX4_init_1 : decode cX4_init 1 = .ok (.invokespecial 3, 3) := by decide +kernel
theorem dX4_init_4 : decode cX4_init 4 = .ok (.aload_n 0, 1) := by decide +kernel
theorem dX4_init_5 : decode cX4_init 5 = .ok (.bipush 10, 2) := by decide +kernel
theorem dX4_init_7 : decode cX4_init 7 = .ok (.anewarray 9, 3) := by decide +kernel
theorem dX4_init_10 : decode cX4_init 10 = .ok (.putfield 11, 3) := by decide +kernel
theorem dX4_init_13 : decode cX4_init 13 = .ok (.aload_n 0, 1) := by decide +kernel
theorem dX4_init_14 : decode cX4_init 14 = .ok (.bipush 10, 2) := by decide +kernel
theorem dX4_init_16 : decode cX4_init 16 = .ok (.newarray .int, 2) := by decide +kernel
theorem dX4_init_18 : decode cX4_init 18 = .ok (.putfield 17, 3) := by decide +kernel
theorem dX4_init_21 : decode cX4_init 21 = .ok (.aload_n 0, 1) := by decide +kernel
theorem dX4_init_22 : decode cX4_init 22 = .ok (.new 9, 3) := by decide +kernel
theorem dX4_init_25 : decode cX4_init 25 = .ok (.dup, 1) := by decide +kernel
theorem dX4_init_26 : decode cX4_init 26 = .ok (.iconst (-1), 1) := by decide +kernel
theorem dX4_init_27 : decode cX4_init 27 = .ok (.invokespecial 21, 3) := by decide +kernel
theorem dX4_init_30 : decode cX4_init 30 = .ok (.putfield 24, 3) := by decide +kernel
theorem dX4_init_33 : decode cX4_init 33 = .ok (.iconst 0, 1) := by decide +kernel
theorem dX4_init_34 : decode cX4_init 34 = .ok (.istore_n 1, 1) := by decide +kernel
theorem dX4_init_35 : decode cX4_init 35 = .ok (.iload_n 1, 1) := by decide +kernel
theorem dX4_init_36 : decode cX4_init 36 = .ok (.aload_n 0, 1) := by decide +kernel
theorem dX4_init_37 : decode cX4_init 37 = .ok (.getfield 11, 3) := by decide +kernel
theorem dX4_init_40 : decode cX4_init 40 = .ok (.arraylength, 1) := by decide +kernel
theorem dX4_init_41 : decode cX4_init 41 = .ok (.if_icmp .ge 23, 3) := by decide +kernel
theorem dX4_init_44 : decode cX4_init 44 = .ok (.aload_n 0, 1) := by decide +kernel
theorem dX4_init_45 : decode cX4_init 45 = .ok (.getfield 11, 3) := by decide +kernel
theorem dX4_init_48 : decode cX4_init 48 = .ok (.iload_n 1, 1) := by decide +kernel
theorem dX4_init_49 : decode cX4_init 49 = .ok (.new 9, 3) := by decide +kernel
theorem dX4_init_52 : decode cX4_init 52 = .ok (.dup, 1) := by decide +kernel
theorem dX4_init_53 : decode cX4_init 53 = .ok (.iload_n 1, 1) := by decide +kernel
theorem dX4_init_54 : decode cX4_init 54 = .ok (.invokespecial 21, 3) := by decide +kernel
theorem dX4_init_57 : decode cX4_init 57 = .ok (.aastore, 1) := by decide +kernel
theorem dX4_init_58 : decode cX4_init 58 = .ok (.iinc 1 1, 3) := by decide +kernel
theorem dX4_init_61 : decode cX4_init 61 = .ok (.goto (-26), 3) := by decide +kernel
theorem dX4_init_64 : decode cX4_init 64 = .ok (.return_, 1) := by decide +kernel
theorem dX4_becomeLike_0 : decode cX4_becomeLike 0 = .ok (.iconst 0, 1) := by decide +kernel
theorem dX4_becomeLike_1 : decode cX4_becomeLike 1 = .ok (.istore_n 2, 1) := by decide +kernel
theorem dX4_becomeLike_2 : decode cX4_becomeLike 2 = .ok (.iload_n 2, 1) := by decide +kernel
theorem dX4_becomeLike_3 : decode cX4_becomeLike 3 = .ok (.bipush 10, 2) := by decide +kernel
theorem dX4_becomeLike_5 : decode cX4_becomeLike 5 = .ok (.if_icmp .ge 22, 3) := by decide +kernel
theorem dX4_becomeLike_8 : decode cX4_becomeLike 8 = .ok (.aload_n 0, 1) := by decide +kernel
theorem dX4_becomeLike_9 : decode cX4_becomeLike 9 = .ok (.iload_n 2, 1) := by decide +kernel
theorem dX4_becomeLike_10 : decode cX4_becomeLike 10 = .ok (.invokevirtual 28, 3) := by decide +kernel
theorem dX4_becomeLike_13 : decode cX4_becomeLike 13 = .ok (.aload_n 1, 1) := by decide +kernel
theorem dX4_becomeLike_14 : decode cX4_becomeLike 14 = .ok (.iload_n 2, 1) := by decide +kernel
theorem dX4_becomeLike_15 : decode cX4_becomeLike 15 = .ok (.invokevirtual 28, 3) := by decide +kernel
theorem dX4_becomeLike_18 : decode cX4_becomeLike 18 = .ok (.invokevirtual 32, 3) := by decide +kernel
theorem dX4_becomeLike_21 : decode cX4_becomeLike 21 = .ok (.iinc 2 1, 3) := by decide +kernel
theorem dX4_becomeLike_24 : decode cX4_becomeLike 24 = .ok (.goto (-22), 3) := by decide +kernel
theorem dX4_becomeLike_27 : decode cX4_becomeLike 27 = .ok (.aload_n 0, 1) := by decide +kernel
theorem dX4_becomeLike_28 : decode cX4_becomeLike 28 = .ok (.aload_n 1, 1) := by decide +kernel
theorem dX4_becomeLike_29 : decode cX4_becomeLike 29 = .ok (.getfield 36, 3) := by decide +kernel
theorem dX4_becomeLike_32 : decode cX4_becomeLike 32 = .ok (.putfield 36, 3) := by decide +kernel
theorem dX4_becomeLike_35 : decode cX4_becomeLike 35 = .ok (.iconst 0, 1) := by decide +kernel
theorem dX4_becomeLike_36 : decode cX4_becomeLike 36 = .ok (.istore_n 2, 1) := by decide +kernel
theorem dX4_becomeLike_37 : decode cX4_becomeLike 37 = .ok (.iload_n 2, 1) := by decide +kernel
theorem dX4_becomeLike_38 : decode cX4_becomeLike 38 = .ok (.aload_n 0, 1) := by decide +kernel
theorem dX4_becomeLike_39 : decode cX4_becomeLike 39 = .ok (.getfield 36, 3) := by decide +kernel
theorem dX4_becomeLike_42 : decode cX4_becomeLike 42 = .ok (.if_icmp .ge 22, 3) := by decide +kernel
theorem dX4_becomeLike_45 : decode cX4_becomeLike 45 = .ok (.aload_n 0, 1) := by decide +kernel
theorem dX4_becomeLike_46 : decode cX4_becomeLike 46 = .ok (.iload_n 2, 1) := by decide +kernel
theorem dX4_becomeLike_47 : decode cX4_becomeLike 47 = .ok (.aload_n 1, 1) := by decide +kernel
theorem dX4_becomeLike_48 : decode cX4_becomeLike 48 = .ok (.iload_n 2, 1) := by decide +kernel
theorem dX4_becomeLike_49 : decode cX4_becomeLike 49 = .ok (.invokevirtual 40, 3) := by decide +kernel
theorem dX4_becomeLike_52 : decode cX4_becomeLike 52 = .ok (.getfield 43, 3) := by decide +kernel
theorem dX4_becomeLike_55 : decode cX4_becomeLike 55 = .ok (.invokevirtual 46, 3) := by decide +kernel
theorem dX4_becomeLike_58 : decode cX4_becomeLike 58 = .ok (.iinc 2 1, 3) := by decide +kernel
theorem dX4_becomeLike_61 : decode cX4_becomeLike 61 = .ok (.goto (-24), 3) := by decide +kernel
theorem dX4_becomeLike_64 : decode cX4_becomeLike 64 = .ok (.aload_n 0, 1) := by decide +kernel
theorem dX4_becomeLike_65 : decode cX4_becomeLike 65 = .ok (.aload_n 1, 1) := by decide +kernel
theorem dX4_becomeLike_66 : decode cX4_becomeLike 66 = .ok (.getfield 50, 3) := by decide +kernel
theorem dX4_becomeLike_69 : decode cX4_becomeLike 69 = .ok (.putfield 50, 3) := by decide +kernel
theorem dX4_becomeLike_72 : decode cX4_becomeLike 72 = .ok (.return_, 1) := by decide +kernel
theorem dX4_numbered_0 : decode cX4_numbered 0 = .ok (.iload_n 1, 1) := by decide +kernel
theorem dX4_numbered_1 : decode cX4_numbered 1 = .ok (.ifCond .lt 21, 3) := by decide +kernel
theorem dX4_numbered_4 : decode cX4_numbered 4 = .ok (.iload_n 1, 1) := by decide +kernel
theorem dX4_numbered_5 : decode cX4_numbered 5 = .ok (.aload_n 0, 1) := by decide +kernel
theorem dX4_numbered_6 : decode cX4_numbered 6 = .ok (.getfield 11, 3) := by decide +kernel
theorem dX4_numbered_9 : decode cX4_numbered 9 = .ok (.arraylength, 1) := by decide +kernel
theorem dX4_numbered_10 : decode cX4_numbered 10 = .ok (.if_icmp .ge 12, 3) := by decide +kernel
theorem dX4_numbered_13 : decode cX4_numbered 13 = .ok (.aload_n 0, 1) := by decide +kernel
theorem dX4_numbered_14 : decode cX4_numbered 14 = .ok (.getfield 11, 3) := by decide +kernel
theorem dX4_numbered_17 : decode cX4_numbered 17 = .ok (.iload_n 1, 1) := by decide +kernel
theorem dX4_numbered_18 : decode cX4_numbered 18 = .ok (.aaload, 1) := by decide +kernel
theorem dX4_numbered_19 : decode cX4_numbered 19 = .ok (.goto 7, 3) := by decide +kernel
theorem dX4_numbered_22 : decode cX4_numbered 22 = .ok (.aload_n 0, 1) := by decide +kernel
theorem dX4_numbered_23 : decode cX4_numbered 23 = .ok (.getfield 24, 3) := by decide +kernel
theorem dX4_numbered_26 : decode cX4_numbered 26 = .ok (.areturn, 1) := by decide +kernel
theorem dX4_standing_0 : decode cX4_standing 0 = .ok (.iload_n 1, 1) := by decide +kernel
theorem dX4_standing_1 : decode cX4_standing 1 = .ok (.ifCond .lt 33, 3) := by decide +kernel
theorem dX4_standing_4 : decode cX4_standing 4 = .ok (.iload_n 1, 1) := by decide +kernel
theorem dX4_standing_5 : decode cX4_standing 5 = .ok (.aload_n 0, 1) := by decide +kernel
theorem dX4_standing_6 : decode cX4_standing 6 = .ok (.getfield 36, 3) := by decide +kernel
theorem dX4_standing_9 : decode cX4_standing 9 = .ok (.if_icmp .ge 25, 3) := by decide +kernel
theorem dX4_standing_12 : decode cX4_standing 12 = .ok (.iload_n 1, 1) := by decide +kernel
theorem dX4_standing_13 : decode cX4_standing 13 = .ok (.aload_n 0, 1) := by decide +kernel
theorem dX4_standing_14 : decode cX4_standing 14 = .ok (.getfield 17, 3) := by decide +kernel
theorem dX4_standing_17 : decode cX4_standing 17 = .ok (.arraylength, 1) := by decide +kernel
theorem dX4_standing_18 : decode cX4_standing 18 = .ok (.if_icmp .ge 16, 3) := by decide +kernel
theorem dX4_standing_21 : decode cX4_standing 21 = .ok (.aload_n 0, 1) := by decide +kernel
theorem dX4_standing_22 : decode cX4_standing 22 = .ok (.aload_n 0, 1) := by decide +kernel
theorem dX4_standing_23 : decode cX4_standing 23 = .ok (.getfield 17, 3) := by decide +kernel
theorem dX4_standing_26 : decode cX4_standing 26 = .ok (.iload_n 1, 1) := by decide +kernel
theorem dX4_standing_27 : decode cX4_standing 27 = .ok (.iaload, 1) := by decide +kernel
theorem dX4_standing_28 : decode cX4_standing 28 = .ok (.invokevirtual 28, 3) := by decide +kernel
theorem dX4_standing_31 : decode cX4_standing 31 = .ok (.goto 7, 3) := by decide +kernel
theorem dX4_standing_34 : decode cX4_standing 34 = .ok (.aload_n 0, 1) := by decide +kernel
theorem dX4_standing_35 : decode cX4_standing 35 = .ok (.getfield 24, 3) := by decide +kernel
theorem dX4_standing_38 : decode cX4_standing 38 = .ok (.areturn, 1) := by decide +kernel
theorem dX4_putAt_0 : decode cX4_putAt 0 = .ok (.iload_n 1, 1) := by decide +kernel
theorem dX4_putAt_1 : decode cX4_putAt 1 = .ok (.ifCond .lt 19, 3) := by decide +kernel
theorem dX4_putAt_4 : decode cX4_putAt 4 = .ok (.iload_n 1, 1) := by decide +kernel
theorem dX4_putAt_5 : decode cX4_putAt 5 = .ok (.aload_n 0, 1) := by decide +kernel
theorem dX4_putAt_6 : decode cX4_putAt 6 = .ok (.getfield 17, 3) := by decide +kernel
theorem dX4_putAt_9 : decode cX4_putAt 9 = .ok (.arraylength, 1) := by decide +kernel
theorem dX4_putAt_10 : decode cX4_putAt 10 = .ok (.if_icmp .ge 10, 3) := by decide +kernel
theorem dX4_putAt_13 : decode cX4_putAt 13 = .ok (.aload_n 0, 1) := by decide +kernel
theorem dX4_putAt_14 : decode cX4_putAt 14 = .ok (.getfield 17, 3) := by decide +kernel
theorem dX4_putAt_17 : decode cX4_putAt 17 = .ok (.iload_n 1, 1) := by decide +kernel
theorem dX4_putAt_18 : decode cX4_putAt 18 = .ok (.iload_n 2, 1) := by decide +kernel
theorem dX4_putAt_19 : decode cX4_putAt 19 = .ok (.iastore, 1) := by decide +kernel
theorem dX4_putAt_20 : decode cX4_putAt 20 = .ok (.return_, 1) := by decide +kernel
theorem dX4_isLiving_0 : decode cX4_isLiving 0 = .ok (.aload_n 0, 1) := by decide +kernel
theorem dX4_isLiving_1 : decode cX4_isLiving 1 = .ok (.iload_n 1, 1) := by decide +kernel
theorem dX4_isLiving_2 : decode cX4_isLiving 2 = .ok (.invokevirtual 28, 3) := by decide +kernel
theorem dX4_isLiving_5 : decode cX4_isLiving 5 = .ok (.getfield 53, 3) := by decide +kernel
theorem dX4_isLiving_8 : decode cX4_isLiving 8 = .ok (.ireturn, 1) := by decide +kernel
theorem dX4_countLiving_0 : decode cX4_countLiving 0 = .ok (.aload_n 0, 1) := by decide +kernel
theorem dX4_countLiving_1 : decode cX4_countLiving 1 = .ok (.getfield 36, 3) := by decide +kernel
theorem dX4_countLiving_4 : decode cX4_countLiving 4 = .ok (.ireturn, 1) := by decide +kernel
theorem dX4_countEver_0 : decode cX4_countEver 0 = .ok (.aload_n 0, 1) := by decide +kernel
theorem dX4_countEver_1 : decode cX4_countEver 1 = .ok (.getfield 50, 3) := by decide +kernel
theorem dX4_countEver_4 : decode cX4_countEver 4 = .ok (.ireturn, 1) := by decide +kernel
theorem dX4_hasRoomFor_0 : decode cX4_hasRoomFor 0 = .ok (.aload_n 0, 1) := by decide +kernel
theorem dX4_hasRoomFor_1 : decode cX4_hasRoomFor 1 = .ok (.getfield 50, 3) := by decide +kernel
theorem dX4_hasRoomFor_4 : decode cX4_hasRoomFor 4 = .ok (.iload_n 1, 1) := by decide +kernel
theorem dX4_hasRoomFor_5 : decode cX4_hasRoomFor 5 = .ok (.iadd, 1) := by decide +kernel
theorem dX4_hasRoomFor_6 : decode cX4_hasRoomFor 6 = .ok (.bipush 10, 2) := by decide +kernel
theorem dX4_hasRoomFor_8 : decode cX4_hasRoomFor 8 = .ok (.if_icmp .gt 7, 3) := by decide +kernel
theorem dX4_hasRoomFor_11 : decode cX4_hasRoomFor 11 = .ok (.iconst 1, 1) := by decide +kernel
theorem dX4_hasRoomFor_12 : decode cX4_hasRoomFor 12 = .ok (.goto 4, 3) := by decide +kernel
theorem dX4_hasRoomFor_15 : decode cX4_hasRoomFor 15 = .ok (.iconst 0, 1) := by decide +kernel
theorem dX4_hasRoomFor_16 : decode cX4_hasRoomFor 16 = .ok (.ireturn, 1) := by decide +kernel
theorem dX4_addLast_0 : decode cX4_addLast 0 = .ok (.aload_n 0, 1) := by decide +kernel
theorem dX4_addLast_1 : decode cX4_addLast 1 = .ok (.getfield 50, 3) := by decide +kernel
theorem dX4_addLast_4 : decode cX4_addLast 4 = .ok (.istore 5, 2) := by decide +kernel
theorem dX4_addLast_6 : decode cX4_addLast 6 = .ok (.aload_n 0, 1) := by decide +kernel
theorem dX4_addLast_7 : decode cX4_addLast 7 = .ok (.iload 5, 2) := by decide +kernel
theorem dX4_addLast_9 : decode cX4_addLast 9 = .ok (.invokevirtual 28, 3) := by decide +kernel
theorem dX4_addLast_12 : decode cX4_addLast 12 = .ok (.astore 6, 2) := by decide +kernel
theorem dX4_addLast_14 : decode cX4_addLast 14 = .ok (.aload 6, 2) := by decide +kernel
theorem dX4_addLast_16 : decode cX4_addLast 16 = .ok (.iload_n 1, 1) := by decide +kernel
theorem dX4_addLast_17 : decode cX4_addLast 17 = .ok (.iload_n 2, 1) := by decide +kernel
theorem dX4_addLast_18 : decode cX4_addLast 18 = .ok (.iload_n 3, 1) := by decide +kernel
theorem dX4_addLast_19 : decode cX4_addLast 19 = .ok (.iload 4, 2) := by decide +kernel
theorem dX4_addLast_21 : decode cX4_addLast 21 = .ok (.invokevirtual 57, 3) := by decide +kernel
theorem dX4_addLast_24 : decode cX4_addLast 24 = .ok (.aload 6, 2) := by decide +kernel
theorem dX4_addLast_26 : decode cX4_addLast 26 = .ok (.iconst 1, 1) := by decide +kernel
theorem dX4_addLast_27 : decode cX4_addLast 27 = .ok (.putfield 53, 3) := by decide +kernel
theorem dX4_addLast_30 : decode cX4_addLast 30 = .ok (.aload_n 0, 1) := by decide +kernel
theorem dX4_addLast_31 : decode cX4_addLast 31 = .ok (.aload_n 0, 1) := by decide +kernel
theorem dX4_addLast_32 : decode cX4_addLast 32 = .ok (.getfield 36, 3) := by decide +kernel
theorem dX4_addLast_35 : decode cX4_addLast 35 = .ok (.iload 5, 2) := by decide +kernel
theorem dX4_addLast_37 : decode cX4_addLast 37 = .ok (.invokevirtual 46, 3) := by decide +kernel
theorem dX4_addLast_40 : decode cX4_addLast 40 = .ok (.aload_n 0, 1) := by decide +kernel
theorem dX4_addLast_41 : decode cX4_addLast 41 = .ok (.dup, 1) := by decide +kernel
theorem dX4_addLast_42 : decode cX4_addLast 42 = .ok (.getfield 36, 3) := by decide +kernel
theorem dX4_addLast_45 : decode cX4_addLast 45 = .ok (.iconst 1, 1) := by decide +kernel
theorem dX4_addLast_46 : decode cX4_addLast 46 = .ok (.iadd, 1) := by decide +kernel
theorem dX4_addLast_47 : decode cX4_addLast 47 = .ok (.putfield 36, 3) := by decide +kernel
theorem dX4_addLast_50 : decode cX4_addLast 50 = .ok (.aload_n 0, 1) := by decide +kernel
theorem dX4_addLast_51 : decode cX4_addLast 51 = .ok (.dup, 1) := by decide +kernel
theorem dX4_addLast_52 : decode cX4_addLast 52 = .ok (.getfield 50, 3) := by decide +kernel
theorem dX4_addLast_55 : decode cX4_addLast 55 = .ok (.iconst 1, 1) := by decide +kernel
theorem dX4_addLast_56 : decode cX4_addLast 56 = .ok (.iadd, 1) := by decide +kernel
theorem dX4_addLast_57 : decode cX4_addLast 57 = .ok (.putfield 50, 3) := by decide +kernel
theorem dX4_addLast_60 : decode cX4_addLast 60 = .ok (.iload 5, 2) := by decide +kernel
theorem dX4_addLast_62 : decode cX4_addLast 62 = .ok (.ireturn, 1) := by decide +kernel
theorem dX4_placeOf_0 : decode cX4_placeOf 0 = .ok (.iconst 0, 1) := by decide +kernel
theorem dX4_placeOf_1 : decode cX4_placeOf 1 = .ok (.istore_n 2, 1) := by decide +kernel
theorem dX4_placeOf_2 : decode cX4_placeOf 2 = .ok (.iload_n 2, 1) := by decide +kernel
theorem dX4_placeOf_3 : decode cX4_placeOf 3 = .ok (.aload_n 0, 1) := by decide +kernel
theorem dX4_placeOf_4 : decode cX4_placeOf 4 = .ok (.getfield 36, 3) := by decide +kernel
theorem dX4_placeOf_7 : decode cX4_placeOf 7 = .ok (.if_icmp .ge 20, 3) := by decide +kernel
theorem dX4_placeOf_10 : decode cX4_placeOf 10 = .ok (.aload_n 0, 1) := by decide +kernel
theorem dX4_placeOf_11 : decode cX4_placeOf 11 = .ok (.iload_n 2, 1) := by decide +kernel
theorem dX4_placeOf_12 : decode cX4_placeOf 12 = .ok (.invokevirtual 40, 3) := by decide +kernel
theorem dX4_placeOf_15 : decode cX4_placeOf 15 = .ok (.aload_n 1, 1) := by decide +kernel
theorem dX4_placeOf_16 : decode cX4_placeOf 16 = .ok (.if_acmp .ne 5, 3) := by decide +kernel
theorem dX4_placeOf_19 : decode cX4_placeOf 19 = .ok (.iload_n 2, 1) := by decide +kernel
theorem dX4_placeOf_20 : decode cX4_placeOf 20 = .ok (.ireturn, 1) := by decide +kernel
theorem dX4_placeOf_21 : decode cX4_placeOf 21 = .ok (.iinc 2 1, 3) := by decide +kernel
theorem dX4_placeOf_24 : decode cX4_placeOf 24 = .ok (.goto (-22), 3) := by decide +kernel
theorem dX4_placeOf_27 : decode cX4_placeOf 27 = .ok (.iconst (-1), 1) := by decide +kernel
theorem dX4_placeOf_28 : decode cX4_placeOf 28 = .ok (.ireturn, 1) := by decide +kernel
theorem dX4_firstBowl_0 : decode cX4_firstBowl 0 = .ok (.iconst 0, 1) := by decide +kernel
theorem dX4_firstBowl_1 : decode cX4_firstBowl 1 = .ok (.istore_n 2, 1) := by decide +kernel
theorem dX4_firstBowl_2 : decode cX4_firstBowl 2 = .ok (.iconst 0, 1) := by decide +kernel
theorem dX4_firstBowl_3 : decode cX4_firstBowl 3 = .ok (.istore_n 3, 1) := by decide +kernel
theorem dX4_firstBowl_4 : decode cX4_firstBowl 4 = .ok (.iload_n 3, 1) := by decide +kernel
theorem dX4_firstBowl_5 : decode cX4_firstBowl 5 = .ok (.aload_n 0, 1) := by decide +kernel
theorem dX4_firstBowl_6 : decode cX4_firstBowl 6 = .ok (.getfield 36, 3) := by decide +kernel
theorem dX4_firstBowl_9 : decode cX4_firstBowl 9 = .ok (.if_icmp .ge 29, 3) := by decide +kernel
theorem dX4_firstBowl_12 : decode cX4_firstBowl 12 = .ok (.aload_n 0, 1) := by decide +kernel
theorem dX4_firstBowl_13 : decode cX4_firstBowl 13 = .ok (.iload_n 3, 1) := by decide +kernel
theorem dX4_firstBowl_14 : decode cX4_firstBowl 14 = .ok (.invokevirtual 40, 3) := by decide +kernel
theorem dX4_firstBowl_17 : decode cX4_firstBowl 17 = .ok (.aload_n 1, 1) := by decide +kernel
theorem dX4_firstBowl_18 : decode cX4_firstBowl 18 = .ok (.if_acmp .eq 20, 3) := by decide +kernel
theorem dX4_firstBowl_21 : decode cX4_firstBowl 21 = .ok (.iload_n 2, 1) := by decide +kernel
theorem dX4_firstBowl_22 : decode cX4_firstBowl 22 = .ok (.aload_n 0, 1) := by decide +kernel
theorem dX4_firstBowl_23 : decode cX4_firstBowl 23 = .ok (.iload_n 3, 1) := by decide +kernel
theorem dX4_firstBowl_24 : decode cX4_firstBowl 24 = .ok (.invokevirtual 40, 3) := by decide +kernel
theorem dX4_firstBowl_27 : decode cX4_firstBowl 27 = .ok (.getfield 65, 3) := by decide +kernel
theorem dX4_firstBowl_30 : decode cX4_firstBowl 30 = .ok (.iadd, 1) := by decide +kernel
theorem dX4_firstBowl_31 : decode cX4_firstBowl 31 = .ok (.istore_n 2, 1) := by decide +kernel
theorem dX4_firstBowl_32 : decode cX4_firstBowl 32 = .ok (.iinc 3 1, 3) := by decide +kernel
theorem dX4_firstBowl_35 : decode cX4_firstBowl 35 = .ok (.goto (-31), 3) := by decide +kernel
theorem dX4_firstBowl_38 : decode cX4_firstBowl 38 = .ok (.iload_n 2, 1) := by decide +kernel
theorem dX4_firstBowl_39 : decode cX4_firstBowl 39 = .ok (.ireturn, 1) := by decide +kernel
theorem dX4_holderOf_0 : decode cX4_holderOf 0 = .ok (.iconst 0, 1) := by decide +kernel
theorem dX4_holderOf_1 : decode cX4_holderOf 1 = .ok (.istore_n 2, 1) := by decide +kernel
theorem dX4_holderOf_2 : decode cX4_holderOf 2 = .ok (.iconst 0, 1) := by decide +kernel
theorem dX4_holderOf_3 : decode cX4_holderOf 3 = .ok (.istore_n 3, 1) := by decide +kernel
theorem dX4_holderOf_4 : decode cX4_holderOf 4 = .ok (.iload_n 3, 1) := by decide +kernel
theorem dX4_holderOf_5 : decode cX4_holderOf 5 = .ok (.aload_n 0, 1) := by decide +kernel
theorem dX4_holderOf_6 : decode cX4_holderOf 6 = .ok (.getfield 36, 3) := by decide +kernel
theorem dX4_holderOf_9 : decode cX4_holderOf 9 = .ok (.if_icmp .ge 34, 3) := by decide +kernel
theorem dX4_holderOf_12 : decode cX4_holderOf 12 = .ok (.iload_n 2, 1) := by decide +kernel
theorem dX4_holderOf_13 : decode cX4_holderOf 13 = .ok (.aload_n 0, 1) := by decide +kernel
theorem dX4_holderOf_14 : decode cX4_holderOf 14 = .ok (.iload_n 3, 1) := by decide +kernel
theorem dX4_holderOf_15 : decode cX4_holderOf 15 = .ok (.invokevirtual 40, 3) := by decide +kernel
theorem dX4_holderOf_18 : decode cX4_holderOf 18 = .ok (.getfield 65, 3) := by decide +kernel
theorem dX4_holderOf_21 : decode cX4_holderOf 21 = .ok (.iadd, 1) := by decide +kernel
theorem dX4_holderOf_22 : decode cX4_holderOf 22 = .ok (.istore_n 2, 1) := by decide +kernel
theorem dX4_holderOf_23 : decode cX4_holderOf 23 = .ok (.iload_n 1, 1) := by decide +kernel
theorem dX4_holderOf_24 : decode cX4_holderOf 24 = .ok (.iload_n 2, 1) := by decide +kernel
theorem dX4_holderOf_25 : decode cX4_holderOf 25 = .ok (.if_icmp .ge 12, 3) := by decide +kernel
theorem dX4_holderOf_28 : decode cX4_holderOf 28 = .ok (.aload_n 0, 1) := by decide +kernel
theorem dX4_holderOf_29 : decode cX4_holderOf 29 = .ok (.iload_n 3, 1) := by decide +kernel
theorem dX4_holderOf_30 : decode cX4_holderOf 30 = .ok (.invokevirtual 40, 3) := by decide +kernel
theorem dX4_holderOf_33 : decode cX4_holderOf 33 = .ok (.getfield 43, 3) := by decide +kernel
theorem dX4_holderOf_36 : decode cX4_holderOf 36 = .ok (.ireturn, 1) := by decide +kernel
theorem dX4_holderOf_37 : decode cX4_holderOf 37 = .ok (.iinc 3 1, 3) := by decide +kernel
theorem dX4_holderOf_40 : decode cX4_holderOf 40 = .ok (.goto (-36), 3) := by decide +kernel
theorem dX4_holderOf_43 : decode cX4_holderOf 43 = .ok (.iconst (-1), 1) := by decide +kernel
theorem dX4_holderOf_44 : decode cX4_holderOf 44 = .ok (.ireturn, 1) := by decide +kernel
theorem dX4_ownedBowls_0 : decode cX4_ownedBowls 0 = .ok (.iconst 0, 1) := by decide +kernel
theorem dX4_ownedBowls_1 : decode cX4_ownedBowls 1 = .ok (.istore_n 1, 1) := by decide +kernel
theorem dX4_ownedBowls_2 : decode cX4_ownedBowls 2 = .ok (.iconst 0, 1) := by decide +kernel
theorem dX4_ownedBowls_3 : decode cX4_ownedBowls 3 = .ok (.istore_n 2, 1) := by decide +kernel
theorem dX4_ownedBowls_4 : decode cX4_ownedBowls 4 = .ok (.iload_n 2, 1) := by decide +kernel
theorem dX4_ownedBowls_5 : decode cX4_ownedBowls 5 = .ok (.aload_n 0, 1) := by decide +kernel
theorem dX4_ownedBowls_6 : decode cX4_ownedBowls 6 = .ok (.getfield 36, 3) := by decide +kernel
theorem dX4_ownedBowls_9 : decode cX4_ownedBowls 9 = .ok (.if_icmp .ge 20, 3) := by decide +kernel
theorem dX4_ownedBowls_12 : decode cX4_ownedBowls 12 = .ok (.iload_n 1, 1) := by decide +kernel
theorem dX4_ownedBowls_13 : decode cX4_ownedBowls 13 = .ok (.aload_n 0, 1) := by decide +kernel
theorem dX4_ownedBowls_14 : decode cX4_ownedBowls 14 = .ok (.iload_n 2, 1) := by decide +kernel
theorem dX4_ownedBowls_15 : decode cX4_ownedBowls 15 = .ok (.invokevirtual 40, 3) := by decide +kernel
theorem dX4_ownedBowls_18 : decode cX4_ownedBowls 18 = .ok (.getfield 65, 3) := by decide +kernel
theorem dX4_ownedBowls_21 : decode cX4_ownedBowls 21 = .ok (.iadd, 1) := by decide +kernel
theorem dX4_ownedBowls_22 : decode cX4_ownedBowls 22 = .ok (.istore_n 1, 1) := by decide +kernel
theorem dX4_ownedBowls_23 : decode cX4_ownedBowls 23 = .ok (.iinc 2 1, 3) := by decide +kernel
theorem dX4_ownedBowls_26 : decode cX4_ownedBowls 26 = .ok (.goto (-22), 3) := by decide +kernel
theorem dX4_ownedBowls_29 : decode cX4_ownedBowls 29 = .ok (.iload_n 1, 1) := by decide +kernel
theorem dX4_ownedBowls_30 : decode cX4_ownedBowls 30 = .ok (.ireturn, 1) := by decide +kernel
theorem dX4_commonBowls_0 : decode cX4_commonBowls 0 = .ok (.sipush 5040, 3) := by decide +kernel
theorem dX4_commonBowls_3 : decode cX4_commonBowls 3 = .ok (.aload_n 0, 1) := by decide +kernel
theorem dX4_commonBowls_4 : decode cX4_commonBowls 4 = .ok (.invokevirtual 68, 3) := by decide +kernel
theorem dX4_commonBowls_7 : decode cX4_commonBowls 7 = .ok (.isub, 1) := by decide +kernel
theorem dX4_commonBowls_8 : decode cX4_commonBowls 8 = .ok (.ireturn, 1) := by decide +kernel
theorem dX4_sumOfCoins_0 : decode cX4_sumOfCoins 0 = .ok (.iconst 0, 1) := by decide +kernel
theorem dX4_sumOfCoins_1 : decode cX4_sumOfCoins 1 = .ok (.istore_n 1, 1) := by decide +kernel
theorem dX4_sumOfCoins_2 : decode cX4_sumOfCoins 2 = .ok (.iconst 0, 1) := by decide +kernel
theorem dX4_sumOfCoins_3 : decode cX4_sumOfCoins 3 = .ok (.istore_n 2, 1) := by decide +kernel
theorem dX4_sumOfCoins_4 : decode cX4_sumOfCoins 4 = .ok (.iload_n 2, 1) := by decide +kernel
theorem dX4_sumOfCoins_5 : decode cX4_sumOfCoins 5 = .ok (.aload_n 0, 1) := by decide +kernel
theorem dX4_sumOfCoins_6 : decode cX4_sumOfCoins 6 = .ok (.getfield 36, 3) := by decide +kernel
theorem dX4_sumOfCoins_9 : decode cX4_sumOfCoins 9 = .ok (.if_icmp .ge 20, 3) := by decide +kernel
theorem dX4_sumOfCoins_12 : decode cX4_sumOfCoins 12 = .ok (.iload_n 1, 1) := by decide +kernel
theorem dX4_sumOfCoins_13 : decode cX4_sumOfCoins 13 = .ok (.aload_n 0, 1) := by decide +kernel
theorem dX4_sumOfCoins_14 : decode cX4_sumOfCoins 14 = .ok (.iload_n 2, 1) := by decide +kernel
theorem dX4_sumOfCoins_15 : decode cX4_sumOfCoins 15 = .ok (.invokevirtual 40, 3) := by decide +kernel
theorem dX4_sumOfCoins_18 : decode cX4_sumOfCoins 18 = .ok (.getfield 72, 3) := by decide +kernel
theorem dX4_sumOfCoins_21 : decode cX4_sumOfCoins 21 = .ok (.iadd, 1) := by decide +kernel
theorem dX4_sumOfCoins_22 : decode cX4_sumOfCoins 22 = .ok (.istore_n 1, 1) := by decide +kernel
theorem dX4_sumOfCoins_23 : decode cX4_sumOfCoins 23 = .ok (.iinc 2 1, 3) := by decide +kernel
theorem dX4_sumOfCoins_26 : decode cX4_sumOfCoins 26 = .ok (.goto (-22), 3) := by decide +kernel
theorem dX4_sumOfCoins_29 : decode cX4_sumOfCoins 29 = .ok (.iload_n 1, 1) := by decide +kernel
theorem dX4_sumOfCoins_30 : decode cX4_sumOfCoins 30 = .ok (.ireturn, 1) := by decide +kernel
theorem dX4_shareCost_0 : decode cX4_shareCost 0 = .ok (.aload_n 0, 1) := by decide +kernel
theorem dX4_shareCost_1 : decode cX4_shareCost 1 = .ok (.invokevirtual 68, 3) := by decide +kernel
theorem dX4_shareCost_4 : decode cX4_shareCost 4 = .ok (.istore_n 2, 1) := by decide +kernel
theorem dX4_shareCost_5 : decode cX4_shareCost 5 = .ok (.iload_n 2, 1) := by decide +kernel
theorem dX4_shareCost_6 : decode cX4_shareCost 6 = .ok (.iconst 1, 1) := by decide +kernel
theorem dX4_shareCost_7 : decode cX4_shareCost 7 = .ok (.if_icmp .ge 4, 3) := by decide +kernel
theorem dX4_shareCost_10 : decode cX4_shareCost 10 = .ok (.return_, 1) := by decide +kernel
theorem dX4_shareCost_11 : decode cX4_shareCost 11 = .ok (.iload_n 1, 1) := by decide +kernel
theorem dX4_shareCost_12 : decode cX4_shareCost 12 = .ok (.istore_n 3, 1) := by decide +kernel
theorem dX4_shareCost_13 : decode cX4_shareCost 13 = .ok (.iconst 0, 1) := by decide +kernel
theorem dX4_shareCost_14 : decode cX4_shareCost 14 = .ok (.istore 4, 2) := by decide +kernel
theorem dX4_shareCost_16 : decode cX4_shareCost 16 = .ok (.iload 4, 2) := by decide +kernel
theorem dX4_shareCost_18 : decode cX4_shareCost 18 = .ok (.aload_n 0, 1) := by decide +kernel
theorem dX4_shareCost_19 : decode cX4_shareCost 19 = .ok (.getfield 36, 3) := by decide +kernel
theorem dX4_shareCost_22 : decode cX4_shareCost 22 = .ok (.if_icmp .ge 45, 3) := by decide +kernel
theorem dX4_shareCost_25 : decode cX4_shareCost 25 = .ok (.aload_n 0, 1) := by decide +kernel
theorem dX4_shareCost_26 : decode cX4_shareCost 26 = .ok (.iload 4, 2) := by decide +kernel
theorem dX4_shareCost_28 : decode cX4_shareCost 28 = .ok (.invokevirtual 40, 3) := by decide +kernel
theorem dX4_shareCost_31 : decode cX4_shareCost 31 = .ok (.astore 5, 2) := by decide +kernel
theorem dX4_shareCost_33 : decode cX4_shareCost 33 = .ok (.iload_n 1, 1) := by decide +kernel
theorem dX4_shareCost_34 : decode cX4_shareCost 34 = .ok (.aload 5, 2) := by decide +kernel
theorem dX4_shareCost_36 : decode cX4_shareCost 36 = .ok (.getfield 65, 3) := by decide +kernel
theorem dX4_shareCost_39 : decode cX4_shareCost 39 = .ok (.imul, 1) := by decide +kernel
theorem dX4_shareCost_40 : decode cX4_shareCost 40 = .ok (.iload_n 2, 1) := by decide +kernel
theorem dX4_shareCost_41 : decode cX4_shareCost 41 = .ok (.idiv, 1) := by decide +kernel
theorem dX4_shareCost_42 : decode cX4_shareCost 42 = .ok (.istore 6, 2) := by decide +kernel
theorem dX4_shareCost_44 : decode cX4_shareCost 44 = .ok (.aload 5, 2) := by decide +kernel
theorem dX4_shareCost_46 : decode cX4_shareCost 46 = .ok (.dup, 1) := by decide +kernel
theorem dX4_shareCost_47 : decode cX4_shareCost 47 = .ok (.getfield 72, 3) := by decide +kernel
theorem dX4_shareCost_50 : decode cX4_shareCost 50 = .ok (.iload 6, 2) := by decide +kernel
theorem dX4_shareCost_52 : decode cX4_shareCost 52 = .ok (.isub, 1) := by decide +kernel
theorem dX4_shareCost_53 : decode cX4_shareCost 53 = .ok (.putfield 72, 3) := by decide +kernel
theorem dX4_shareCost_56 : decode cX4_shareCost 56 = .ok (.iload_n 3, 1) := by decide +kernel
theorem dX4_shareCost_57 : decode cX4_shareCost 57 = .ok (.iload 6, 2) := by decide +kernel
theorem dX4_shareCost_59 : decode cX4_shareCost 59 = .ok (.isub, 1) := by decide +kernel
theorem dX4_shareCost_60 : decode cX4_shareCost 60 = .ok (.istore_n 3, 1) := by decide +kernel
theorem dX4_shareCost_61 : decode cX4_shareCost 61 = .ok (.iinc 4 1, 3) := by decide +kernel
theorem dX4_shareCost_64 : decode cX4_shareCost 64 = .ok (.goto (-48), 3) := by decide +kernel
theorem dX4_shareCost_67 : decode cX4_shareCost 67 = .ok (.aload_n 0, 1) := by decide +kernel
theorem dX4_shareCost_68 : decode cX4_shareCost 68 = .ok (.iconst 0, 1) := by decide +kernel
theorem dX4_shareCost_69 : decode cX4_shareCost 69 = .ok (.invokevirtual 40, 3) := by decide +kernel
theorem dX4_shareCost_72 : decode cX4_shareCost 72 = .ok (.dup, 1) := by decide +kernel
theorem dX4_shareCost_73 : decode cX4_shareCost 73 = .ok (.getfield 72, 3) := by decide +kernel
theorem dX4_shareCost_76 : decode cX4_shareCost 76 = .ok (.iload_n 3, 1) := by decide +kernel
theorem dX4_shareCost_77 : decode cX4_shareCost 77 = .ok (.isub, 1) := by decide +kernel
theorem dX4_shareCost_78 : decode cX4_shareCost 78 = .ok (.putfield 72, 3) := by decide +kernel
theorem dX4_shareCost_81 : decode cX4_shareCost 81 = .ok (.return_, 1) := by decide +kernel
theorem dX4_growPalms_0 : decode cX4_growPalms 0 = .ok (.iconst 0, 1) := by decide +kernel
theorem dX4_growPalms_1 : decode cX4_growPalms 1 = .ok (.istore_n 2, 1) := by decide +kernel
theorem dX4_growPalms_2 : decode cX4_growPalms 2 = .ok (.iload_n 2, 1) := by decide +kernel
theorem dX4_growPalms_3 : decode cX4_growPalms 3 = .ok (.aload_n 0, 1) := by decide +kernel
theorem dX4_growPalms_4 : decode cX4_growPalms 4 = .ok (.getfield 36, 3) := by decide +kernel
theorem dX4_growPalms_7 : decode cX4_growPalms 7 = .ok (.if_icmp .ge 18, 3) := by decide +kernel
theorem dX4_growPalms_10 : decode cX4_growPalms 10 = .ok (.aload_n 0, 1) := by decide +kernel
theorem dX4_growPalms_11 : decode cX4_growPalms 11 = .ok (.iload_n 2, 1) := by decide +kernel
theorem dX4_growPalms_12 : decode cX4_growPalms 12 = .ok (.invokevirtual 40, 3) := by decide +kernel
theorem dX4_growPalms_15 : decode cX4_growPalms 15 = .ok (.iload_n 1, 1) := by decide +kernel
theorem dX4_growPalms_16 : decode cX4_growPalms 16 = .ok (.invokevirtual 78, 3) := by decide +kernel
theorem dX4_growPalms_19 : decode cX4_growPalms 19 = .ok (.iinc 2 1, 3) := by decide +kernel
theorem dX4_growPalms_22 : decode cX4_growPalms 22 = .ok (.goto (-20), 3) := by decide +kernel
theorem dX4_growPalms_25 : decode cX4_growPalms 25 = .ok (.return_, 1) := by decide +kernel
theorem dX4_reap_0 : decode cX4_reap 0 = .ok (.iconst 0, 1) := by decide +kernel
theorem dX4_reap_1 : decode cX4_reap 1 = .ok (.istore_n 1, 1) := by decide +kernel
theorem dX4_reap_2 : decode cX4_reap 2 = .ok (.iconst 0, 1) := by decide +kernel
theorem dX4_reap_3 : decode cX4_reap 3 = .ok (.istore_n 2, 1) := by decide +kernel
theorem dX4_reap_4 : decode cX4_reap 4 = .ok (.iload_n 2, 1) := by decide +kernel
theorem dX4_reap_5 : decode cX4_reap 5 = .ok (.aload_n 0, 1) := by decide +kernel
theorem dX4_reap_6 : decode cX4_reap 6 = .ok (.getfield 36, 3) := by decide +kernel
theorem dX4_reap_9 : decode cX4_reap 9 = .ok (.if_icmp .ge 28, 3) := by decide +kernel
theorem dX4_reap_12 : decode cX4_reap 12 = .ok (.aload_n 0, 1) := by decide +kernel
theorem dX4_reap_13 : decode cX4_reap 13 = .ok (.iload_n 2, 1) := by decide +kernel
theorem dX4_reap_14 : decode cX4_reap 14 = .ok (.invokevirtual 40, 3) := by decide +kernel
theorem dX4_reap_17 : decode cX4_reap 17 = .ok (.invokevirtual 82, 3) := by decide +kernel
theorem dX4_reap_20 : decode cX4_reap 20 = .ok (.iload_n 1, 1) := by decide +kernel
theorem dX4_reap_21 : decode cX4_reap 21 = .ok (.aload_n 0, 1) := by decide +kernel
theorem dX4_reap_22 : decode cX4_reap 22 = .ok (.iload_n 2, 1) := by decide +kernel
theorem dX4_reap_23 : decode cX4_reap 23 = .ok (.invokevirtual 40, 3) := by decide +kernel
theorem dX4_reap_26 : decode cX4_reap 26 = .ok (.getfield 85, 3) := by decide +kernel
theorem dX4_reap_29 : decode cX4_reap 29 = .ok (.iadd, 1) := by decide +kernel
theorem dX4_reap_30 : decode cX4_reap 30 = .ok (.istore_n 1, 1) := by decide +kernel
theorem dX4_reap_31 : decode cX4_reap 31 = .ok (.iinc 2 1, 3) := by decide +kernel
theorem dX4_reap_34 : decode cX4_reap 34 = .ok (.goto (-30), 3) := by decide +kernel
theorem dX4_reap_37 : decode cX4_reap 37 = .ok (.iload_n 1, 1) := by decide +kernel
theorem dX4_reap_38 : decode cX4_reap 38 = .ok (.ireturn, 1) := by decide +kernel
theorem dX5_init_0 : decode cX5_init 0 = .ok (.aload_n 0, 1) := by decide +kernel
theorem dX5_init_1 : decode cX5_init 1 = .ok (.invokespecial 1, 3) := by decide +kernel
theorem dX5_init_4 : decode cX5_init 4 = .ok (.aload_n 0, 1) := by decide +kernel
theorem dX5_init_5 : decode cX5_init 5 = .ok (.new 7, 3) := by decide +kernel
theorem dX5_init_8 : decode cX5_init 8 = .ok (.dup, 1) := by decide +kernel
theorem dX5_init_9 : decode cX5_init 9 = .ok (.invokespecial 9, 3) := by decide +kernel
theorem dX5_init_12 : decode cX5_init 12 = .ok (.putfield 10, 3) := by decide +kernel
theorem dX5_init_15 : decode cX5_init 15 = .ok (.aload_n 0, 1) := by decide +kernel
theorem dX5_init_16 : decode cX5_init 16 = .ok (.new 7, 3) := by decide +kernel
theorem dX5_init_19 : decode cX5_init 19 = .ok (.dup, 1) := by decide +kernel
theorem dX5_init_20 : decode cX5_init 20 = .ok (.invokespecial 9, 3) := by decide +kernel
theorem dX5_init_23 : decode cX5_init 23 = .ok (.putfield 16, 3) := by decide +kernel
theorem dX5_init_26 : decode cX5_init 26 = .ok (.aload_n 0, 1) := by decide +kernel
theorem dX5_init_27 : decode cX5_init 27 = .ok (.new 7, 3) := by decide +kernel
theorem dX5_init_30 : decode cX5_init 30 = .ok (.dup, 1) := by decide +kernel
theorem dX5_init_31 : decode cX5_init 31 = .ok (.invokespecial 9, 3) := by decide +kernel
theorem dX5_init_34 : decode cX5_init 34 = .ok (.putfield 19, 3) := by decide +kernel
theorem dX5_init_37 : decode cX5_init 37 = .ok (.return_, 1) := by decide +kernel
theorem dX5_owner_0 : decode cX5_owner 0 = .ok (.iload_n 1, 1) := by decide +kernel
theorem dX5_owner_1 : decode cX5_owner 1 = .ok (.iconst 0, 1) := by decide +kernel
theorem dX5_owner_2 : decode cX5_owner 2 = .ok (.sipush 5040, 3) := by decide +kernel
theorem dX5_owner_5 : decode cX5_owner 5 = .ok (.invokestatic 22, 3) := by decide +kernel
theorem dX5_owner_8 : decode cX5_owner 8 = .ok (.ifCond .eq 40, 3) := by decide +kernel
theorem dX5_owner_11 : decode cX5_owner 11 = .ok (.iload_n 2, 1) := by decide +kernel
theorem dX5_owner_12 : decode cX5_owner 12 = .ok (.iconst 0, 1) := by decide +kernel
theorem dX5_owner_13 : decode cX5_owner 13 = .ok (.sipush 9999, 3) := by decide +kernel
theorem dX5_owner_16 : decode cX5_owner 16 = .ok (.invokestatic 22, 3) := by decide +kernel
theorem dX5_owner_19 : decode cX5_owner 19 = .ok (.ifCond .eq 29, 3) := by decide +kernel
theorem dX5_owner_22 : decode cX5_owner 22 = .ok (.iload_n 3, 1) := by decide +kernel
theorem dX5_owner_23 : decode cX5_owner 23 = .ok (.iconst 0, 1) := by decide +kernel
theorem dX5_owner_24 : decode cX5_owner 24 = .ok (.sipush 200, 3) := by decide +kernel
theorem dX5_owner_27 : decode cX5_owner 27 = .ok (.invokestatic 22, 3) := by decide +kernel
theorem dX5_owner_30 : decode cX5_owner 30 = .ok (.ifCond .eq 18, 3) := by decide +kernel
theorem dX5_owner_33 : decode cX5_owner 33 = .ok (.iload 4, 2) := by decide +kernel
theorem dX5_owner_35 : decode cX5_owner 35 = .ok (.iconst 0, 1) := by decide +kernel
theorem dX5_owner_36 : decode cX5_owner 36 = .ok (.bipush 20, 2) := by decide +kernel
theorem dX5_owner_38 : decode cX5_owner 38 = .ok (.invokestatic 22, 3) := by decide +kernel
theorem dX5_owner_41 : decode cX5_owner 41 = .ok (.ifCond .eq 7, 3) := by decide +kernel
theorem dX5_owner_44 : decode cX5_owner 44 = .ok (.iconst 1, 1) := by decide +kernel
theorem dX5_owner_45 : decode cX5_owner 45 = .ok (.goto 4, 3) := by decide +kernel
theorem dX5_owner_48 : decode cX5_owner 48 = .ok (.iconst 0, 1) := by decide +kernel
theorem dX5_owner_49 : decode cX5_owner 49 = .ok (.invokestatic 26, 3) := by decide +kernel
theorem dX5_owner_52 : decode cX5_owner 52 = .ok (.aload_n 0, 1) := by decide +kernel
theorem dX5_owner_53 : decode cX5_owner 53 = .ok (.getfield 10, 3) := by decide +kernel
theorem dX5_owner_56 : decode cX5_owner 56 = .ok (.getfield 30, 3) := by decide +kernel
theorem dX5_owner_59 : decode cX5_owner 59 = .ok (.iconst 1, 1) := by decide +kernel
theorem dX5_owner_60 : decode cX5_owner 60 = .ok (.invokevirtual 34, 3) := by decide +kernel
theorem dX5_owner_63 : decode cX5_owner 63 = .ok (.ifCond .eq 21, 3) := by decide +kernel
theorem dX5_owner_66 : decode cX5_owner 66 = .ok (.iload_n 1, 1) := by decide +kernel
theorem dX5_owner_67 : decode cX5_owner 67 = .ok (.aload_n 0, 1) := by decide +kernel
theorem dX5_owner_68 : decode cX5_owner 68 = .ok (.getfield 10, 3) := by decide +kernel
theorem dX5_owner_71 : decode cX5_owner 71 = .ok (.getfield 30, 3) := by decide +kernel
theorem dX5_owner_74 : decode cX5_owner 74 = .ok (.invokevirtual 40, 3) := by decide +kernel
theorem dX5_owner_77 : decode cX5_owner 77 = .ok (.if_icmp .gt 7, 3) := by decide +kernel
theorem dX5_owner_80 : decode cX5_owner 80 = .ok (.iconst 1, 1) := by decide +kernel
theorem dX5_owner_81 : decode cX5_owner 81 = .ok (.goto 4, 3) := by decide +kernel
theorem dX5_owner_84 : decode cX5_owner 84 = .ok (.iconst 0, 1) := by decide +kernel
theorem dX5_owner_85 : decode cX5_owner 85 = .ok (.invokestatic 44, 3) := by decide +kernel
theorem dX5_owner_88 : decode cX5_owner 88 = .ok (.aload_n 0, 1) := by decide +kernel
theorem dX5_owner_89 : decode cX5_owner 89 = .ok (.getfield 10, 3) := by decide +kernel
theorem dX5_owner_92 : decode cX5_owner 92 = .ok (.getfield 30, 3) := by decide +kernel
theorem dX5_owner_95 : decode cX5_owner 95 = .ok (.iload_n 1, 1) := by decide +kernel
theorem dX5_owner_96 : decode cX5_owner 96 = .ok (.iload_n 2, 1) := by decide +kernel
theorem dX5_owner_97 : decode cX5_owner 97 = .ok (.iload_n 3, 1) := by decide +kernel
theorem dX5_owner_98 : decode cX5_owner 98 = .ok (.iload 4, 2) := by decide +kernel
theorem dX5_owner_100 : decode cX5_owner 100 = .ok (.invokevirtual 47, 3) := by decide +kernel
theorem dX5_owner_103 : decode cX5_owner 103 = .ok (.ireturn, 1) := by decide +kernel
theorem dX5_sell_0 : decode cX5_sell 0 = .ok (.aload_n 0, 1) := by decide +kernel
theorem dX5_sell_1 : decode cX5_sell 1 = .ok (.iload_n 1, 1) := by decide +kernel
theorem dX5_sell_2 : decode cX5_sell 2 = .ok (.invokevirtual 51, 3) := by decide +kernel
theorem dX5_sell_5 : decode cX5_sell 5 = .ok (.aload_n 0, 1) := by decide +kernel
theorem dX5_sell_6 : decode cX5_sell 6 = .ok (.iload_n 2, 1) := by decide +kernel
theorem dX5_sell_7 : decode cX5_sell 7 = .ok (.invokevirtual 51, 3) := by decide +kernel
theorem dX5_sell_10 : decode cX5_sell 10 = .ok (.iload_n 1, 1) := by decide +kernel
theorem dX5_sell_11 : decode cX5_sell 11 = .ok (.iload_n 2, 1) := by decide +kernel
theorem dX5_sell_12 : decode cX5_sell 12 = .ok (.if_icmp .eq 30, 3) := by decide +kernel
theorem dX5_sell_15 : decode cX5_sell 15 = .ok (.iload_n 3, 1) := by decide +kernel
theorem dX5_sell_16 : decode cX5_sell 16 = .ok (.iconst 1, 1) := by decide +kernel
theorem dX5_sell_17 : decode cX5_sell 17 = .ok (.sipush 5040, 3) := by decide +kernel
theorem dX5_sell_20 : decode cX5_sell 20 = .ok (.invokestatic 22, 3) := by decide +kernel
theorem dX5_sell_23 : decode cX5_sell 23 = .ok (.ifCond .eq 19, 3) := by decide +kernel
theorem dX5_sell_26 : decode cX5_sell 26 = .ok (.iload 4, 2) := by decide +kernel
theorem dX5_sell_28 : decode cX5_sell 28 = .ok (.iconst 0, 1) := by decide +kernel
theorem dX5_sell_29 : decode cX5_sell 29 = .ok (.sipush 9999, 3) := by decide +kernel
theorem dX5_sell_32 : decode cX5_sell 32 = .ok (.invokestatic 22, 3) := by decide +kernel
theorem dX5_sell_35 : decode cX5_sell 35 = .ok (.ifCond .eq 7, 3) := by decide +kernel
theorem dX5_sell_38 : decode cX5_sell 38 = .ok (.iconst 1, 1) := by decide +kernel
theorem dX5_sell_39 : decode cX5_sell 39 = .ok (.goto 4, 3) := by decide +kernel
theorem dX5_sell_42 : decode cX5_sell 42 = .ok (.iconst 0, 1) := by decide +kernel
theorem dX5_sell_43 : decode cX5_sell 43 = .ok (.invokestatic 26, 3) := by decide +kernel
theorem dX5_sell_46 : decode cX5_sell 46 = .ok (.aload_n 0, 1) := by decide +kernel
theorem dX5_sell_47 : decode cX5_sell 47 = .ok (.getfield 10, 3) := by decide +kernel
theorem dX5_sell_50 : decode cX5_sell 50 = .ok (.getfield 30, 3) := by decide +kernel
theorem dX5_sell_53 : decode cX5_sell 53 = .ok (.iload_n 1, 1) := by decide +kernel
theorem dX5_sell_54 : decode cX5_sell 54 = .ok (.invokevirtual 55, 3) := by decide +kernel
theorem dX5_sell_57 : decode cX5_sell 57 = .ok (.astore 5, 2) := by decide +kernel
theorem dX5_sell_59 : decode cX5_sell 59 = .ok (.aload_n 0, 1) := by decide +kernel
theorem dX5_sell_60 : decode cX5_sell 60 = .ok (.getfield 10, 3) := by decide +kernel
theorem dX5_sell_63 : decode cX5_sell 63 = .ok (.getfield 30, 3) := by decide +kernel
theorem dX5_sell_66 : decode cX5_sell 66 = .ok (.iload_n 2, 1) := by decide +kernel
theorem dX5_sell_67 : decode cX5_sell 67 = .ok (.invokevirtual 55, 3) := by decide +kernel
theorem dX5_sell_70 : decode cX5_sell 70 = .ok (.astore 6, 2) := by decide +kernel
theorem dX5_sell_72 : decode cX5_sell 72 = .ok (.iload_n 3, 1) := by decide +kernel
theorem dX5_sell_73 : decode cX5_sell 73 = .ok (.aload_n 0, 1) := by decide +kernel
theorem dX5_sell_74 : decode cX5_sell 74 = .ok (.getfield 10, 3) := by decide +kernel
theorem dX5_sell_77 : decode cX5_sell 77 = .ok (.aload 5, 2) := by decide +kernel
theorem dX5_sell_79 : decode cX5_sell 79 = .ok (.invokevirtual 59, 3) := by decide +kernel
theorem dX5_sell_82 : decode cX5_sell 82 = .ok (.if_icmp .le 6, 3) := by decide +kernel
theorem dX5_sell_85 : decode cX5_sell 85 = .ok (.bipush (-2), 2) := by decide +kernel
theorem dX5_sell_87 : decode cX5_sell 87 = .ok (.ireturn, 1) := by decide +kernel
theorem dX5_sell_88 : decode cX5_sell 88 = .ok (.iload 4, 2) := by decide +kernel
theorem dX5_sell_90 : decode cX5_sell 90 = .ok (.aload 6, 2) := by decide +kernel
theorem dX5_sell_92 : decode cX5_sell 92 = .ok (.getfield 63, 3) := by decide +kernel
theorem dX5_sell_95 : decode cX5_sell 95 = .ok (.if_icmp .le 6, 3) := by decide +kernel
theorem dX5_sell_98 : decode cX5_sell 98 = .ok (.bipush (-3), 2) := by decide +kernel
theorem dX5_sell_100 : decode cX5_sell 100 = .ok (.ireturn, 1) := by decide +kernel
theorem dX5_sell_101 : decode cX5_sell 101 = .ok (.aload 6, 2) := by decide +kernel
theorem dX5_sell_103 : decode cX5_sell 103 = .ok (.aload 5, 2) := by decide +kernel
theorem dX5_sell_105 : decode cX5_sell 105 = .ok (.iload 4, 2) := by decide +kernel
theorem dX5_sell_107 : decode cX5_sell 107 = .ok (.invokevirtual 69, 3) := by decide +kernel
theorem dX5_sell_110 : decode cX5_sell 110 = .ok (.aload 5, 2) := by decide +kernel
theorem dX5_sell_112 : decode cX5_sell 112 = .ok (.dup, 1) := by decide +kernel
theorem dX5_sell_113 : decode cX5_sell 113 = .ok (.getfield 73, 3) := by decide +kernel
theorem dX5_sell_116 : decode cX5_sell 116 = .ok (.iload_n 3, 1) := by decide +kernel
theorem dX5_sell_117 : decode cX5_sell 117 = .ok (.isub, 1) := by decide +kernel
theorem dX5_sell_118 : decode cX5_sell 118 = .ok (.putfield 73, 3) := by decide +kernel
theorem dX5_sell_121 : decode cX5_sell 121 = .ok (.aload 6, 2) := by decide +kernel
theorem dX5_sell_123 : decode cX5_sell 123 = .ok (.dup, 1) := by decide +kernel
theorem dX5_sell_124 : decode cX5_sell 124 = .ok (.getfield 73, 3) := by decide +kernel
theorem dX5_sell_127 : decode cX5_sell 127 = .ok (.iload_n 3, 1) := by decide +kernel
theorem dX5_sell_128 : decode cX5_sell 128 = .ok (.iadd, 1) := by decide +kernel
theorem dX5_sell_129 : decode cX5_sell 129 = .ok (.putfield 73, 3) := by decide +kernel
theorem dX5_sell_132 : decode cX5_sell 132 = .ok (.aload 6, 2) := by decide +kernel
theorem dX5_sell_134 : decode cX5_sell 134 = .ok (.getfield 73, 3) := by decide +kernel
theorem dX5_sell_137 : decode cX5_sell 137 = .ok (.ireturn, 1) := by decide +kernel
theorem dX5_lend_0 : decode cX5_lend 0 = .ok (.aload_n 0, 1) := by decide +kernel
theorem dX5_lend_1 : decode cX5_lend 1 = .ok (.iload_n 1, 1) := by decide +kernel
theorem dX5_lend_2 : decode cX5_lend 2 = .ok (.invokevirtual 51, 3) := by decide +kernel
theorem dX5_lend_5 : decode cX5_lend 5 = .ok (.aload_n 0, 1) := by decide +kernel
theorem dX5_lend_6 : decode cX5_lend 6 = .ok (.iload_n 2, 1) := by decide +kernel
theorem dX5_lend_7 : decode cX5_lend 7 = .ok (.invokevirtual 51, 3) := by decide +kernel
theorem dX5_lend_10 : decode cX5_lend 10 = .ok (.iload_n 1, 1) := by decide +kernel
theorem dX5_lend_11 : decode cX5_lend 11 = .ok (.iload_n 2, 1) := by decide +kernel
theorem dX5_lend_12 : decode cX5_lend 12 = .ok (.if_icmp .eq 29, 3) := by decide +kernel
theorem dX5_lend_15 : decode cX5_lend 15 = .ok (.iload_n 3, 1) := by decide +kernel
theorem dX5_lend_16 : decode cX5_lend 16 = .ok (.iconst 1, 1) := by decide +kernel
theorem dX5_lend_17 : decode cX5_lend 17 = .ok (.sipush 5040, 3) := by decide +kernel
theorem dX5_lend_20 : decode cX5_lend 20 = .ok (.invokestatic 22, 3) := by decide +kernel
theorem dX5_lend_23 : decode cX5_lend 23 = .ok (.ifCond .eq 18, 3) := by decide +kernel
theorem dX5_lend_26 : decode cX5_lend 26 = .ok (.iload 4, 2) := by decide +kernel
theorem dX5_lend_28 : decode cX5_lend 28 = .ok (.iconst 1, 1) := by decide +kernel
theorem dX5_lend_29 : decode cX5_lend 29 = .ok (.bipush 20, 2) := by decide +kernel
theorem dX5_lend_31 : decode cX5_lend 31 = .ok (.invokestatic 22, 3) := by decide +kernel
theorem dX5_lend_34 : decode cX5_lend 34 = .ok (.ifCond .eq 7, 3) := by decide +kernel
theorem dX5_lend_37 : decode cX5_lend 37 = .ok (.iconst 1, 1) := by decide +kernel
theorem dX5_lend_38 : decode cX5_lend 38 = .ok (.goto 4, 3) := by decide +kernel
theorem dX5_lend_41 : decode cX5_lend 41 = .ok (.iconst 0, 1) := by decide +kernel
theorem dX5_lend_42 : decode cX5_lend 42 = .ok (.invokestatic 26, 3) := by decide +kernel
theorem dX5_lend_45 : decode cX5_lend 45 = .ok (.aload_n 0, 1) := by decide +kernel
theorem dX5_lend_46 : decode cX5_lend 46 = .ok (.getfield 10, 3) := by decide +kernel
theorem dX5_lend_49 : decode cX5_lend 49 = .ok (.getfield 76, 3) := by decide +kernel
theorem dX5_lend_52 : decode cX5_lend 52 = .ok (.invokevirtual 80, 3) := by decide +kernel
theorem dX5_lend_55 : decode cX5_lend 55 = .ok (.ifCond .ne 7, 3) := by decide +kernel
theorem dX5_lend_58 : decode cX5_lend 58 = .ok (.iconst 1, 1) := by decide +kernel
theorem dX5_lend_59 : decode cX5_lend 59 = .ok (.goto 4, 3) := by decide +kernel
theorem dX5_lend_62 : decode cX5_lend 62 = .ok (.iconst 0, 1) := by decide +kernel
theorem dX5_lend_63 : decode cX5_lend 63 = .ok (.invokestatic 44, 3) := by decide +kernel
theorem dX5_lend_66 : decode cX5_lend 66 = .ok (.iload_n 3, 1) := by decide +kernel
theorem dX5_lend_67 : decode cX5_lend 67 = .ok (.aload_n 0, 1) := by decide +kernel
theorem dX5_lend_68 : decode cX5_lend 68 = .ok (.getfield 10, 3) := by decide +kernel
theorem dX5_lend_71 : decode cX5_lend 71 = .ok (.aload_n 0, 1) := by decide +kernel
theorem dX5_lend_72 : decode cX5_lend 72 = .ok (.getfield 10, 3) := by decide +kernel
theorem dX5_lend_75 : decode cX5_lend 75 = .ok (.getfield 30, 3) := by decide +kernel
theorem dX5_lend_78 : decode cX5_lend 78 = .ok (.iload_n 1, 1) := by decide +kernel
theorem dX5_lend_79 : decode cX5_lend 79 = .ok (.invokevirtual 55, 3) := by decide +kernel
theorem dX5_lend_82 : decode cX5_lend 82 = .ok (.invokevirtual 59, 3) := by decide +kernel
theorem dX5_lend_85 : decode cX5_lend 85 = .ok (.if_icmp .le 6, 3) := by decide +kernel
theorem dX5_lend_88 : decode cX5_lend 88 = .ok (.bipush (-2), 2) := by decide +kernel
theorem dX5_lend_90 : decode cX5_lend 90 = .ok (.ireturn, 1) := by decide +kernel
theorem dX5_lend_91 : decode cX5_lend 91 = .ok (.aload_n 0, 1) := by decide +kernel
theorem dX5_lend_92 : decode cX5_lend 92 = .ok (.getfield 10, 3) := by decide +kernel
theorem dX5_lend_95 : decode cX5_lend 95 = .ok (.getfield 76, 3) := by decide +kernel
theorem dX5_lend_98 : decode cX5_lend 98 = .ok (.iload_n 1, 1) := by decide +kernel
theorem dX5_lend_99 : decode cX5_lend 99 = .ok (.iload_n 2, 1) := by decide +kernel
theorem dX5_lend_100 : decode cX5_lend 100 = .ok (.iload_n 3, 1) := by decide +kernel
theorem dX5_lend_101 : decode cX5_lend 101 = .ok (.iload 4, 2) := by decide +kernel
theorem dX5_lend_103 : decode cX5_lend 103 = .ok (.invokevirtual 86, 3) := by decide +kernel
theorem dX5_lend_106 : decode cX5_lend 106 = .ok (.aload_n 0, 1) := by decide +kernel
theorem dX5_lend_107 : decode cX5_lend 107 = .ok (.getfield 10, 3) := by decide +kernel
theorem dX5_lend_110 : decode cX5_lend 110 = .ok (.getfield 76, 3) := by decide +kernel
theorem dX5_lend_113 : decode cX5_lend 113 = .ok (.invokevirtual 90, 3) := by decide +kernel
theorem dX5_lend_116 : decode cX5_lend 116 = .ok (.ireturn, 1) := by decide +kernel
theorem dX5_dig_0 : decode cX5_dig 0 = .ok (.iload_n 1, 1) := by decide +kernel
theorem dX5_dig_1 : decode cX5_dig 1 = .ok (.iconst 1, 1) := by decide +kernel
theorem dX5_dig_2 : decode cX5_dig 2 = .ok (.bipush 80, 2) := by decide +kernel
theorem dX5_dig_4 : decode cX5_dig 4 = .ok (.invokestatic 22, 3) := by decide +kernel
theorem dX5_dig_7 : decode cX5_dig 7 = .ok (.invokestatic 26, 3) := by decide +kernel
theorem dX5_dig_10 : decode cX5_dig 10 = .ok (.aload_n 0, 1) := by decide +kernel
theorem dX5_dig_11 : decode cX5_dig 11 = .ok (.getfield 10, 3) := by decide +kernel
theorem dX5_dig_14 : decode cX5_dig 14 = .ok (.getfield 97, 3) := by decide +kernel
theorem dX5_dig_17 : decode cX5_dig 17 = .ok (.getfield 101, 3) := by decide +kernel
theorem dX5_dig_20 : decode cX5_dig 20 = .ok (.iload_n 1, 1) := by decide +kernel
theorem dX5_dig_21 : decode cX5_dig 21 = .ok (.iadd, 1) := by decide +kernel
theorem dX5_dig_22 : decode cX5_dig 22 = .ok (.bipush 90, 2) := by decide +kernel
theorem dX5_dig_24 : decode cX5_dig 24 = .ok (.if_icmp .gt 20, 3) := by decide +kernel
theorem dX5_dig_27 : decode cX5_dig 27 = .ok (.aload_n 0, 1) := by decide +kernel
theorem dX5_dig_28 : decode cX5_dig 28 = .ok (.getfield 10, 3) := by decide +kernel
theorem dX5_dig_31 : decode cX5_dig 31 = .ok (.getfield 30, 3) := by decide +kernel
theorem dX5_dig_34 : decode cX5_dig 34 = .ok (.invokevirtual 106, 3) := by decide +kernel
theorem dX5_dig_37 : decode cX5_dig 37 = .ok (.ifCond .le 7, 3) := by decide +kernel
theorem dX5_dig_40 : decode cX5_dig 40 = .ok (.iconst 1, 1) := by decide +kernel
theorem dX5_dig_41 : decode cX5_dig 41 = .ok (.goto 4, 3) := by decide +kernel
theorem dX5_dig_44 : decode cX5_dig 44 = .ok (.iconst 0, 1) := by decide +kernel
theorem dX5_dig_45 : decode cX5_dig 45 = .ok (.invokestatic 44, 3) := by decide +kernel
theorem dX5_dig_48 : decode cX5_dig 48 = .ok (.iconst 5, 1) := by decide +kernel
theorem dX5_dig_49 : decode cX5_dig 49 = .ok (.aload_n 0, 1) := by decide +kernel
theorem dX5_dig_50 : decode cX5_dig 50 = .ok (.getfield 10, 3) := by decide +kernel
theorem dX5_dig_53 : decode cX5_dig 53 = .ok (.getfield 97, 3) := by decide +kernel
theorem dX5_dig_56 : decode cX5_dig 56 = .ok (.getfield 101, 3) := by decide +kernel
theorem dX5_dig_59 : decode cX5_dig 59 = .ok (.bipush 10, 2) := by decide +kernel
theorem dX5_dig_61 : decode cX5_dig 61 = .ok (.idiv, 1) := by decide +kernel
theorem dX5_dig_62 : decode cX5_dig 62 = .ok (.iadd, 1) := by decide +kernel
theorem dX5_dig_63 : decode cX5_dig 63 = .ok (.iload_n 1, 1) := by decide +kernel
theorem dX5_dig_64 : decode cX5_dig 64 = .ok (.imul, 1) := by decide +kernel
theorem dX5_dig_65 : decode cX5_dig 65 = .ok (.istore_n 2, 1) := by decide +kernel
theorem dX5_dig_66 : decode cX5_dig 66 = .ok (.aload_n 0, 1) := by decide +kernel
theorem dX5_dig_67 : decode cX5_dig 67 = .ok (.getfield 10, 3) := by decide +kernel
theorem dX5_dig_70 : decode cX5_dig 70 = .ok (.getfield 30, 3) := by decide +kernel
theorem dX5_dig_73 : decode cX5_dig 73 = .ok (.iload_n 2, 1) := by decide +kernel
theorem dX5_dig_74 : decode cX5_dig 74 = .ok (.invokevirtual 109, 3) := by decide +kernel
theorem dX5_dig_77 : decode cX5_dig 77 = .ok (.aload_n 0, 1) := by decide +kernel
theorem dX5_dig_78 : decode cX5_dig 78 = .ok (.getfield 10, 3) := by decide +kernel
theorem dX5_dig_81 : decode cX5_dig 81 = .ok (.getfield 97, 3) := by decide +kernel
theorem dX5_dig_84 : decode cX5_dig 84 = .ok (.dup, 1) := by decide +kernel
theorem dX5_dig_85 : decode cX5_dig 85 = .ok (.getfield 101, 3) := by decide +kernel
theorem dX5_dig_88 : decode cX5_dig 88 = .ok (.iload_n 1, 1) := by decide +kernel
theorem dX5_dig_89 : decode cX5_dig 89 = .ok (.iadd, 1) := by decide +kernel
theorem dX5_dig_90 : decode cX5_dig 90 = .ok (.putfield 101, 3) := by decide +kernel
theorem dX5_dig_93 : decode cX5_dig 93 = .ok (.iload_n 2, 1) := by decide +kernel
theorem dX5_dig_94 : decode cX5_dig 94 = .ok (.ireturn, 1) := by decide +kernel
theorem dX5_pump_0 : decode cX5_pump 0 = .ok (.iload_n 1, 1) := by decide +kernel
theorem dX5_pump_1 : decode cX5_pump 1 = .ok (.iconst 0, 1) := by decide +kernel
theorem dX5_pump_2 : decode cX5_pump 2 = .ok (.bipush 20, 2) := by decide +kernel
theorem dX5_pump_4 : decode cX5_pump 4 = .ok (.invokestatic 22, 3) := by decide +kernel
theorem dX5_pump_7 : decode cX5_pump 7 = .ok (.invokestatic 26, 3) := by decide +kernel
theorem dX5_pump_10 : decode cX5_pump 10 = .ok (.aload_n 0, 1) := by decide +kernel
theorem dX5_pump_11 : decode cX5_pump 11 = .ok (.getfield 10, 3) := by decide +kernel
theorem dX5_pump_14 : decode cX5_pump 14 = .ok (.getfield 97, 3) := by decide +kernel
theorem dX5_pump_17 : decode cX5_pump 17 = .ok (.getfield 118, 3) := by decide +kernel
theorem dX5_pump_20 : decode cX5_pump 20 = .ok (.istore_n 2, 1) := by decide +kernel
theorem dX5_pump_21 : decode cX5_pump 21 = .ok (.aload_n 0, 1) := by decide +kernel
theorem dX5_pump_22 : decode cX5_pump 22 = .ok (.getfield 10, 3) := by decide +kernel
theorem dX5_pump_25 : decode cX5_pump 25 = .ok (.getfield 97, 3) := by decide +kernel
theorem dX5_pump_28 : decode cX5_pump 28 = .ok (.iload_n 1, 1) := by decide +kernel
theorem dX5_pump_29 : decode cX5_pump 29 = .ok (.putfield 118, 3) := by decide +kernel
theorem dX5_pump_32 : decode cX5_pump 32 = .ok (.iload_n 2, 1) := by decide +kernel
theorem dX5_pump_33 : decode cX5_pump 33 = .ok (.ireturn, 1) := by decide +kernel
theorem dX5_pollinate_0 : decode cX5_pollinate 0 = .ok (.aload_n 0, 1) := by decide +kernel
theorem dX5_pollinate_1 : decode cX5_pollinate 1 = .ok (.iload_n 1, 1) := by decide +kernel
theorem dX5_pollinate_2 : decode cX5_pollinate 2 = .ok (.invokevirtual 51, 3) := by decide +kernel
theorem dX5_pollinate_5 : decode cX5_pollinate 5 = .ok (.iload_n 2, 1) := by decide +kernel
theorem dX5_pollinate_6 : decode cX5_pollinate 6 = .ok (.iconst 1, 1) := by decide +kernel
theorem dX5_pollinate_7 : decode cX5_pollinate 7 = .ok (.sipush 200, 3) := by decide +kernel
theorem dX5_pollinate_10 : decode cX5_pollinate 10 = .ok (.invokestatic 22, 3) := by decide +kernel
theorem dX5_pollinate_13 : decode cX5_pollinate 13 = .ok (.invokestatic 26, 3) := by decide +kernel
theorem dX5_pollinate_16 : decode cX5_pollinate 16 = .ok (.aload_n 0, 1) := by decide +kernel
theorem dX5_pollinate_17 : decode cX5_pollinate 17 = .ok (.getfield 10, 3) := by decide +kernel
theorem dX5_pollinate_20 : decode cX5_pollinate 20 = .ok (.getfield 30, 3) := by decide +kernel
theorem dX5_pollinate_23 : decode cX5_pollinate 23 = .ok (.iload_n 1, 1) := by decide +kernel
theorem dX5_pollinate_24 : decode cX5_pollinate 24 = .ok (.invokevirtual 55, 3) := by decide +kernel
theorem dX5_pollinate_27 : decode cX5_pollinate 27 = .ok (.astore_n 3, 1) := by decide +kernel
theorem dX5_pollinate_28 : decode cX5_pollinate 28 = .ok (.aload_n 3, 1) := by decide +kernel
theorem dX5_pollinate_29 : decode cX5_pollinate 29 = .ok (.getfield 121, 3) := by decide +kernel
theorem dX5_pollinate_32 : decode cX5_pollinate 32 = .ok (.iload_n 2, 1) := by decide +kernel
theorem dX5_pollinate_33 : decode cX5_pollinate 33 = .ok (.iadd, 1) := by decide +kernel
theorem dX5_pollinate_34 : decode cX5_pollinate 34 = .ok (.istore 4, 2) := by decide +kernel
theorem dX5_pollinate_36 : decode cX5_pollinate 36 = .ok (.aload_n 0, 1) := by decide +kernel
theorem dX5_pollinate_37 : decode cX5_pollinate 37 = .ok (.getfield 10, 3) := by decide +kernel
theorem dX5_pollinate_40 : decode cX5_pollinate 40 = .ok (.invokevirtual 124, 3) := by decide +kernel
theorem dX5_pollinate_43 : decode cX5_pollinate 43 = .ok (.bipush 13, 2) := by decide +kernel
theorem dX5_pollinate_45 : decode cX5_pollinate 45 = .ok (.if_icmp .le 6, 3) := by decide +kernel
theorem dX5_pollinate_48 : decode cX5_pollinate 48 = .ok (.bipush (-2), 2) := by decide +kernel
theorem dX5_pollinate_50 : decode cX5_pollinate 50 = .ok (.ireturn, 1) := by decide +kernel
theorem dX5_pollinate_51 : decode cX5_pollinate 51 = .ok (.iload 4, 2) := by decide +kernel
theorem dX5_pollinate_53 : decode cX5_pollinate 53 = .ok (.aload_n 3, 1) := by decide +kernel
theorem dX5_pollinate_54 : decode cX5_pollinate 54 = .ok (.getfield 127, 3) := by decide +kernel
theorem dX5_pollinate_57 : decode cX5_pollinate 57 = .ok (.if_icmp .le 6, 3) := by decide +kernel
theorem dX5_pollinate_60 : decode cX5_pollinate 60 = .ok (.bipush (-3), 2) := by decide +kernel
theorem dX5_pollinate_62 : decode cX5_pollinate 62 = .ok (.ireturn, 1) := by decide +kernel
theorem dX5_pollinate_63 : decode cX5_pollinate 63 = .ok (.iload 4, 2) := by decide +kernel
theorem dX5_pollinate_65 : decode cX5_pollinate 65 = .ok (.aload_n 3, 1) := by decide +kernel
theorem dX5_pollinate_66 : decode cX5_pollinate 66 = .ok (.invokevirtual 130, 3) := by decide +kernel
theorem dX5_pollinate_69 : decode cX5_pollinate 69 = .ok (.if_icmp .le 6, 3) := by decide +kernel
theorem dX5_pollinate_72 : decode cX5_pollinate 72 = .ok (.bipush (-4), 2) := by decide +kernel
theorem dX5_pollinate_74 : decode cX5_pollinate 74 = .ok (.ireturn, 1) := by decide +kernel
theorem dX5_pollinate_75 : decode cX5_pollinate 75 = .ok (.aload_n 3, 1) := by decide +kernel
theorem dX5_pollinate_76 : decode cX5_pollinate 76 = .ok (.iload 4, 2) := by decide +kernel
theorem dX5_pollinate_78 : decode cX5_pollinate 78 = .ok (.putfield 121, 3) := by decide +kernel
theorem dX5_pollinate_81 : decode cX5_pollinate 81 = .ok (.iload 4, 2) := by decide +kernel
theorem dX5_pollinate_83 : decode cX5_pollinate 83 = .ok (.ireturn, 1) := by decide +kernel
theorem dX5_pass_0 : decode cX5_pass 0 = .ok (.iload_n 1, 1) := by decide +kernel
theorem dX5_pass_1 : decode cX5_pass 1 = .ok (.iconst 0, 1) := by decide +kernel
theorem dX5_pass_2 : decode cX5_pass 2 = .ok (.bipush 99, 2) := by decide +kernel
theorem dX5_pass_4 : decode cX5_pass 4 = .ok (.invokestatic 22, 3) := by decide +kernel
theorem dX5_pass_7 : decode cX5_pass 7 = .ok (.ifCond .eq 17, 3) := by decide +kernel
theorem dX5_pass_10 : decode cX5_pass 10 = .ok (.iload_n 2, 1) := by decide +kernel
theorem dX5_pass_11 : decode cX5_pass 11 = .ok (.iconst 1, 1) := by decide +kernel
theorem dX5_pass_12 : decode cX5_pass 12 = .ok (.bipush 70, 2) := by decide +kernel
theorem dX5_pass_14 : decode cX5_pass 14 = .ok (.invokestatic 22, 3) := by decide +kernel
theorem dX5_pass_17 : decode cX5_pass 17 = .ok (.ifCond .eq 7, 3) := by decide +kernel
theorem dX5_pass_20 : decode cX5_pass 20 = .ok (.iconst 1, 1) := by decide +kernel
theorem dX5_pass_21 : decode cX5_pass 21 = .ok (.goto 4, 3) := by decide +kernel
theorem dX5_pass_24 : decode cX5_pass 24 = .ok (.iconst 0, 1) := by decide +kernel
theorem dX5_pass_25 : decode cX5_pass 25 = .ok (.invokestatic 26, 3) := by decide +kernel
theorem dX5_pass_28 : decode cX5_pass 28 = .ok (.aload_n 0, 1) := by decide +kernel
theorem dX5_pass_29 : decode cX5_pass 29 = .ok (.getfield 10, 3) := by decide +kernel
theorem dX5_pass_32 : decode cX5_pass 32 = .ok (.getfield 139, 3) := by decide +kernel
theorem dX5_pass_35 : decode cX5_pass 35 = .ok (.iload_n 2, 1) := by decide +kernel
theorem dX5_pass_36 : decode cX5_pass 36 = .ok (.iadd, 1) := by decide +kernel
theorem dX5_pass_37 : decode cX5_pass 37 = .ok (.sipush 2000, 3) := by decide +kernel
theorem dX5_pass_40 : decode cX5_pass 40 = .ok (.if_icmp .gt 7, 3) := by decide +kernel
theorem dX5_pass_43 : decode cX5_pass 43 = .ok (.iconst 1, 1) := by decide +kernel
theorem dX5_pass_44 : decode cX5_pass 44 = .ok (.goto 4, 3) := by decide +kernel
theorem dX5_pass_47 : decode cX5_pass 47 = .ok (.iconst 0, 1) := by decide +kernel
theorem dX5_pass_48 : decode cX5_pass 48 = .ok (.invokestatic 44, 3) := by decide +kernel
theorem dX5_pass_51 : decode cX5_pass 51 = .ok (.aload_n 0, 1) := by decide +kernel
theorem dX5_pass_52 : decode cX5_pass 52 = .ok (.getfield 10, 3) := by decide +kernel
theorem dX5_pass_55 : decode cX5_pass 55 = .ok (.iload_n 1, 1) := by decide +kernel
theorem dX5_pass_56 : decode cX5_pass 56 = .ok (.iload_n 2, 1) := by decide +kernel
theorem dX5_pass_57 : decode cX5_pass 57 = .ok (.invokevirtual 142, 3) := by decide +kernel
theorem dX5_pass_60 : decode cX5_pass 60 = .ok (.ireturn, 1) := by decide +kernel
theorem dX5_of_0 : decode cX5_of 0 = .ok (.aload_n 0, 1) := by decide +kernel
theorem dX5_of_1 : decode cX5_of 1 = .ok (.iload_n 1, 1) := by decide +kernel
theorem dX5_of_2 : decode cX5_of 2 = .ok (.invokevirtual 51, 3) := by decide +kernel
theorem dX5_of_5 : decode cX5_of 5 = .ok (.iload_n 2, 1) := by decide +kernel
theorem dX5_of_6 : decode cX5_of 6 = .ok (.iconst 0, 1) := by decide +kernel
theorem dX5_of_7 : decode cX5_of 7 = .ok (.bipush 13, 2) := by decide +kernel
theorem dX5_of_9 : decode cX5_of 9 = .ok (.invokestatic 22, 3) := by decide +kernel
theorem dX5_of_12 : decode cX5_of 12 = .ok (.invokestatic 26, 3) := by decide +kernel
theorem dX5_of_15 : decode cX5_of 15 = .ok (.aload_n 0, 1) := by decide +kernel
theorem dX5_of_16 : decode cX5_of 16 = .ok (.getfield 10, 3) := by decide +kernel
theorem dX5_of_19 : decode cX5_of 19 = .ok (.aload_n 0, 1) := by decide +kernel
theorem dX5_of_20 : decode cX5_of 20 = .ok (.getfield 10, 3) := by decide +kernel
theorem dX5_of_23 : decode cX5_of 23 = .ok (.getfield 30, 3) := by decide +kernel
theorem dX5_of_26 : decode cX5_of 26 = .ok (.iload_n 1, 1) := by decide +kernel
theorem dX5_of_27 : decode cX5_of 27 = .ok (.invokevirtual 55, 3) := by decide +kernel
theorem dX5_of_30 : decode cX5_of 30 = .ok (.iload_n 2, 1) := by decide +kernel
theorem dX5_of_31 : decode cX5_of 31 = .ok (.invokevirtual 146, 3) := by decide +kernel
theorem dX5_of_34 : decode cX5_of 34 = .ok (.ireturn, 1) := by decide +kernel
theorem dX5_ofBowl_0 : decode cX5_ofBowl 0 = .ok (.iload_n 1, 1) := by decide +kernel
theorem dX5_ofBowl_1 : decode cX5_ofBowl 1 = .ok (.iconst 0, 1) := by decide +kernel
theorem dX5_ofBowl_2 : decode cX5_ofBowl 2 = .ok (.sipush 5039, 3) := by decide +kernel
theorem dX5_ofBowl_5 : decode cX5_ofBowl 5 = .ok (.invokestatic 22, 3) := by decide +kernel
theorem dX5_ofBowl_8 : decode cX5_ofBowl 8 = .ok (.invokestatic 150, 3) := by decide +kernel
theorem dX5_ofBowl_11 : decode cX5_ofBowl 11 = .ok (.iload_n 2, 1) := by decide +kernel
theorem dX5_ofBowl_12 : decode cX5_ofBowl 12 = .ok (.iconst 0, 1) := by decide +kernel
theorem dX5_ofBowl_13 : decode cX5_ofBowl 13 = .ok (.iconst 1, 1) := by decide +kernel
theorem dX5_ofBowl_14 : decode cX5_ofBowl 14 = .ok (.invokestatic 22, 3) := by decide +kernel
theorem dX5_ofBowl_17 : decode cX5_ofBowl 17 = .ok (.invokestatic 26, 3) := by decide +kernel
theorem dX5_ofBowl_20 : decode cX5_ofBowl 20 = .ok (.iload_n 2, 1) := by decide +kernel
theorem dX5_ofBowl_21 : decode cX5_ofBowl 21 = .ok (.ifCond .ne 17, 3) := by decide +kernel
theorem dX5_ofBowl_24 : decode cX5_ofBowl 24 = .ok (.aload_n 0, 1) := by decide +kernel
theorem dX5_ofBowl_25 : decode cX5_ofBowl 25 = .ok (.getfield 10, 3) := by decide +kernel
theorem dX5_ofBowl_28 : decode cX5_ofBowl 28 = .ok (.getfield 30, 3) := by decide +kernel
theorem dX5_ofBowl_31 : decode cX5_ofBowl 31 = .ok (.iload_n 1, 1) := by decide +kernel
theorem dX5_ofBowl_32 : decode cX5_ofBowl 32 = .ok (.invokevirtual 153, 3) := by decide +kernel
theorem dX5_ofBowl_35 : decode cX5_ofBowl 35 = .ok (.goto 11, 3) := by decide +kernel
theorem dX5_ofBowl_38 : decode cX5_ofBowl 38 = .ok (.aload_n 0, 1) := by decide +kernel
theorem dX5_ofBowl_39 : decode cX5_ofBowl 39 = .ok (.getfield 10, 3) := by decide +kernel
theorem dX5_ofBowl_42 : decode cX5_ofBowl 42 = .ok (.iload_n 1, 1) := by decide +kernel
theorem dX5_ofBowl_43 : decode cX5_ofBowl 43 = .ok (.invokevirtual 157, 3) := by decide +kernel
theorem dX5_ofBowl_46 : decode cX5_ofBowl 46 = .ok (.ireturn, 1) := by decide +kernel
theorem dX5_ofLoan_0 : decode cX5_ofLoan 0 = .ok (.iload_n 1, 1) := by decide +kernel
theorem dX5_ofLoan_1 : decode cX5_ofLoan 1 = .ok (.iconst 0, 1) := by decide +kernel
theorem dX5_ofLoan_2 : decode cX5_ofLoan 2 = .ok (.aload_n 0, 1) := by decide +kernel
theorem dX5_ofLoan_3 : decode cX5_ofLoan 3 = .ok (.getfield 10, 3) := by decide +kernel
theorem dX5_ofLoan_6 : decode cX5_ofLoan 6 = .ok (.getfield 76, 3) := by decide +kernel
theorem dX5_ofLoan_9 : decode cX5_ofLoan 9 = .ok (.invokevirtual 90, 3) := by decide +kernel
theorem dX5_ofLoan_12 : decode cX5_ofLoan 12 = .ok (.iconst 1, 1) := by decide +kernel
theorem dX5_ofLoan_13 : decode cX5_ofLoan 13 = .ok (.isub, 1) := by decide +kernel
theorem dX5_ofLoan_14 : decode cX5_ofLoan 14 = .ok (.invokestatic 22, 3) := by decide +kernel
theorem dX5_ofLoan_17 : decode cX5_ofLoan 17 = .ok (.invokestatic 150, 3) := by decide +kernel
theorem dX5_ofLoan_20 : decode cX5_ofLoan 20 = .ok (.iload_n 2, 1) := by decide +kernel
theorem dX5_ofLoan_21 : decode cX5_ofLoan 21 = .ok (.iconst 0, 1) := by decide +kernel
theorem dX5_ofLoan_22 : decode cX5_ofLoan 22 = .ok (.iconst 3, 1) := by decide +kernel
theorem dX5_ofLoan_23 : decode cX5_ofLoan 23 = .ok (.invokestatic 22, 3) := by decide +kernel
theorem dX5_ofLoan_26 : decode cX5_ofLoan 26 = .ok (.invokestatic 26, 3) := by decide +kernel
theorem dX5_ofLoan_29 : decode cX5_ofLoan 29 = .ok (.aload_n 0, 1) := by decide +kernel
theorem dX5_ofLoan_30 : decode cX5_ofLoan 30 = .ok (.getfield 10, 3) := by decide +kernel
theorem dX5_ofLoan_33 : decode cX5_ofLoan 33 = .ok (.getfield 76, 3) := by decide +kernel
theorem dX5_ofLoan_36 : decode cX5_ofLoan 36 = .ok (.iload_n 1, 1) := by decide +kernel
theorem dX5_ofLoan_37 : decode cX5_ofLoan 37 = .ok (.iload_n 2, 1) := by decide +kernel
theorem dX5_ofLoan_38 : decode cX5_ofLoan 38 = .ok (.invokevirtual 160, 3) := by decide +kernel
theorem dX5_ofLoan_41 : decode cX5_ofLoan 41 = .ok (.ireturn, 1) := by decide +kernel
theorem dX5_ofSale_0 : decode cX5_ofSale 0 = .ok (.iload_n 1, 1) := by decide +kernel
theorem dX5_ofSale_1 : decode cX5_ofSale 1 = .ok (.iconst 0, 1) := by decide +kernel
theorem dX5_ofSale_2 : decode cX5_ofSale 2 = .ok (.aload_n 0, 1) := by decide +kernel
theorem dX5_ofSale_3 : decode cX5_ofSale 3 = .ok (.getfield 10, 3) := by decide +kernel
theorem dX5_ofSale_6 : decode cX5_ofSale 6 = .ok (.getfield 136, 3) := by decide +kernel
theorem dX5_ofSale_9 : decode cX5_ofSale 9 = .ok (.invokevirtual 90, 3) := by decide +kernel
theorem dX5_ofSale_12 : decode cX5_ofSale 12 = .ok (.iconst 1, 1) := by decide +kernel
theorem dX5_ofSale_13 : decode cX5_ofSale 13 = .ok (.isub, 1) := by decide +kernel
theorem dX5_ofSale_14 : decode cX5_ofSale 14 = .ok (.invokestatic 22, 3) := by decide +kernel
theorem dX5_ofSale_17 : decode cX5_ofSale 17 = .ok (.invokestatic 150, 3) := by decide +kernel
theorem dX5_ofSale_20 : decode cX5_ofSale 20 = .ok (.iload_n 2, 1) := by decide +kernel
theorem dX5_ofSale_21 : decode cX5_ofSale 21 = .ok (.iconst 0, 1) := by decide +kernel
theorem dX5_ofSale_22 : decode cX5_ofSale 22 = .ok (.iconst 2, 1) := by decide +kernel
theorem dX5_ofSale_23 : decode cX5_ofSale 23 = .ok (.invokestatic 22, 3) := by decide +kernel
theorem dX5_ofSale_26 : decode cX5_ofSale 26 = .ok (.invokestatic 26, 3) := by decide +kernel
theorem dX5_ofSale_29 : decode cX5_ofSale 29 = .ok (.aload_n 0, 1) := by decide +kernel
theorem dX5_ofSale_30 : decode cX5_ofSale 30 = .ok (.getfield 10, 3) := by decide +kernel
theorem dX5_ofSale_33 : decode cX5_ofSale 33 = .ok (.getfield 136, 3) := by decide +kernel
theorem dX5_ofSale_36 : decode cX5_ofSale 36 = .ok (.iload_n 1, 1) := by decide +kernel
theorem dX5_ofSale_37 : decode cX5_ofSale 37 = .ok (.iload_n 2, 1) := by decide +kernel
theorem dX5_ofSale_38 : decode cX5_ofSale 38 = .ok (.invokevirtual 160, 3) := by decide +kernel
theorem dX5_ofSale_41 : decode cX5_ofSale 41 = .ok (.ireturn, 1) := by decide +kernel
theorem dX5_many_0 : decode cX5_many 0 = .ok (.iload_n 1, 1) := by decide +kernel
theorem dX5_many_1 : decode cX5_many 1 = .ok (.iconst 0, 1) := by decide +kernel
theorem dX5_many_2 : decode cX5_many 2 = .ok (.bipush 15, 2) := by decide +kernel
theorem dX5_many_4 : decode cX5_many 4 = .ok (.invokestatic 22, 3) := by decide +kernel
theorem dX5_many_7 : decode cX5_many 7 = .ok (.invokestatic 26, 3) := by decide +kernel
theorem dX5_many_10 : decode cX5_many 10 = .ok (.aload_n 0, 1) := by decide +kernel
theorem dX5_many_11 : decode cX5_many 11 = .ok (.getfield 10, 3) := by decide +kernel
theorem dX5_many_14 : decode cX5_many 14 = .ok (.iload_n 1, 1) := by decide +kernel
theorem dX5_many_15 : decode cX5_many 15 = .ok (.invokevirtual 163, 3) := by decide +kernel
theorem dX5_many_18 : decode cX5_many 18 = .ok (.ireturn, 1) := by decide +kernel
theorem dX5_wouldCome_0 : decode cX5_wouldCome 0 = .ok (.aload_n 0, 1) := by decide +kernel
theorem dX5_wouldCome_1 : decode cX5_wouldCome 1 = .ok (.iload_n 1, 1) := by decide +kernel
theorem dX5_wouldCome_2 : decode cX5_wouldCome 2 = .ok (.invokevirtual 51, 3) := by decide +kernel
theorem dX5_wouldCome_5 : decode cX5_wouldCome 5 = .ok (.iload_n 2, 1) := by decide +kernel
theorem dX5_wouldCome_6 : decode cX5_wouldCome 6 = .ok (.iconst 0, 1) := by decide +kernel
theorem dX5_wouldCome_7 : decode cX5_wouldCome 7 = .ok (.bipush 99, 2) := by decide +kernel
theorem dX5_wouldCome_9 : decode cX5_wouldCome 9 = .ok (.invokestatic 22, 3) := by decide +kernel
theorem dX5_wouldCome_12 : decode cX5_wouldCome 12 = .ok (.ifCond .eq 17, 3) := by decide +kernel
theorem dX5_wouldCome_15 : decode cX5_wouldCome 15 = .ok (.iload_n 3, 1) := by decide +kernel
theorem dX5_wouldCome_16 : decode cX5_wouldCome 16 = .ok (.iconst 1, 1) := by decide +kernel
theorem dX5_wouldCome_17 : decode cX5_wouldCome 17 = .ok (.bipush 70, 2) := by decide +kernel
theorem dX5_wouldCome_19 : decode cX5_wouldCome 19 = .ok (.invokestatic 22, 3) := by decide +kernel
theorem dX5_wouldCome_22 : decode cX5_wouldCome 22 = .ok (.ifCond .eq 7, 3) := by decide +kernel
theorem dX5_wouldCome_25 : decode cX5_wouldCome 25 = .ok (.iconst 1, 1) := by decide +kernel
theorem dX5_wouldCome_26 : decode cX5_wouldCome 26 = .ok (.goto 4, 3) := by decide +kernel
theorem dX5_wouldCome_29 : decode cX5_wouldCome 29 = .ok (.iconst 0, 1) := by decide +kernel
theorem dX5_wouldCome_30 : decode cX5_wouldCome 30 = .ok (.invokestatic 26, 3) := by decide +kernel
theorem dX5_wouldCome_33 : decode cX5_wouldCome 33 = .ok (.aload_n 0, 1) := by decide +kernel
theorem dX5_wouldCome_34 : decode cX5_wouldCome 34 = .ok (.iload_n 2, 1) := by decide +kernel
theorem dX5_wouldCome_35 : decode cX5_wouldCome 35 = .ok (.iload_n 3, 1) := by decide +kernel
theorem dX5_wouldCome_36 : decode cX5_wouldCome 36 = .ok (.invokevirtual 172, 3) := by decide +kernel
theorem dX5_wouldCome_39 : decode cX5_wouldCome 39 = .ok (.aload_n 0, 1) := by decide +kernel
theorem dX5_wouldCome_40 : decode cX5_wouldCome 40 = .ok (.iload_n 1, 1) := by decide +kernel
theorem dX5_wouldCome_41 : decode cX5_wouldCome 41 = .ok (.invokevirtual 176, 3) := by decide +kernel
theorem dX5_wouldCome_44 : decode cX5_wouldCome 44 = .ok (.ireturn, 1) := by decide +kernel
theorem dX5_bestDig_0 : decode cX5_bestDig 0 = .ok (.iload_n 1, 1) := by decide +kernel
theorem dX5_bestDig_1 : decode cX5_bestDig 1 = .ok (.iconst 0, 1) := by decide +kernel
theorem dX5_bestDig_2 : decode cX5_bestDig 2 = .ok (.bipush 99, 2) := by decide +kernel
theorem dX5_bestDig_4 : decode cX5_bestDig 4 = .ok (.invokestatic 22, 3) := by decide +kernel
theorem dX5_bestDig_7 : decode cX5_bestDig 7 = .ok (.ifCond .eq 17, 3) := by decide +kernel
theorem dX5_bestDig_10 : decode cX5_bestDig 10 = .ok (.iload_n 2, 1) := by decide +kernel
theorem dX5_bestDig_11 : decode cX5_bestDig 11 = .ok (.iconst 1, 1) := by decide +kernel
theorem dX5_bestDig_12 : decode cX5_bestDig 12 = .ok (.bipush 35, 2) := by decide +kernel
theorem dX5_bestDig_14 : decode cX5_bestDig 14 = .ok (.invokestatic 22, 3) := by decide +kernel
theorem dX5_bestDig_17 : decode cX5_bestDig 17 = .ok (.ifCond .eq 7, 3) := by decide +kernel
theorem dX5_bestDig_20 : decode cX5_bestDig 20 = .ok (.iconst 1, 1) := by decide +kernel
theorem dX5_bestDig_21 : decode cX5_bestDig 21 = .ok (.goto 4, 3) := by decide +kernel
theorem dX5_bestDig_24 : decode cX5_bestDig 24 = .ok (.iconst 0, 1) := by decide +kernel
theorem dX5_bestDig_25 : decode cX5_bestDig 25 = .ok (.invokestatic 26, 3) := by decide +kernel
theorem dX5_bestDig_28 : decode cX5_bestDig 28 = .ok (.iconst 0, 1) := by decide +kernel
theorem dX5_bestDig_29 : decode cX5_bestDig 29 = .ok (.istore_n 3, 1) := by decide +kernel
theorem dX5_bestDig_30 : decode cX5_bestDig 30 = .ok (.iconst (-1), 1) := by decide +kernel
theorem dX5_bestDig_31 : decode cX5_bestDig 31 = .ok (.istore 4, 2) := by decide +kernel
theorem dX5_bestDig_33 : decode cX5_bestDig 33 = .ok (.iconst 0, 1) := by decide +kernel
theorem dX5_bestDig_34 : decode cX5_bestDig 34 = .ok (.istore 5, 2) := by decide +kernel
theorem dX5_bestDig_36 : decode cX5_bestDig 36 = .ok (.iload 5, 2) := by decide +kernel
theorem dX5_bestDig_38 : decode cX5_bestDig 38 = .ok (.bipush 20, 2) := by decide +kernel
theorem dX5_bestDig_40 : decode cX5_bestDig 40 = .ok (.if_icmp .gt 80, 3) := by decide +kernel
theorem dX5_bestDig_43 : decode cX5_bestDig 43 = .ok (.aload_n 0, 1) := by decide +kernel
theorem dX5_bestDig_44 : decode cX5_bestDig 44 = .ok (.getfield 10, 3) := by decide +kernel
theorem dX5_bestDig_47 : decode cX5_bestDig 47 = .ok (.getfield 97, 3) := by decide +kernel
theorem dX5_bestDig_50 : decode cX5_bestDig 50 = .ok (.getfield 101, 3) := by decide +kernel
theorem dX5_bestDig_53 : decode cX5_bestDig 53 = .ok (.iload 5, 2) := by decide +kernel
theorem dX5_bestDig_55 : decode cX5_bestDig 55 = .ok (.iadd, 1) := by decide +kernel
theorem dX5_bestDig_56 : decode cX5_bestDig 56 = .ok (.bipush 90, 2) := by decide +kernel
theorem dX5_bestDig_58 : decode cX5_bestDig 58 = .ok (.if_icmp .gt 56, 3) := by decide +kernel
theorem dX5_bestDig_61 : decode cX5_bestDig 61 = .ok (.aload_n 0, 1) := by decide +kernel
theorem dX5_bestDig_62 : decode cX5_bestDig 62 = .ok (.getfield 16, 3) := by decide +kernel
theorem dX5_bestDig_65 : decode cX5_bestDig 65 = .ok (.aload_n 0, 1) := by decide +kernel
theorem dX5_bestDig_66 : decode cX5_bestDig 66 = .ok (.getfield 10, 3) := by decide +kernel
theorem dX5_bestDig_69 : decode cX5_bestDig 69 = .ok (.invokevirtual 179, 3) := by decide +kernel
theorem dX5_bestDig_72 : decode cX5_bestDig 72 = .ok (.aload_n 0, 1) := by decide +kernel
theorem dX5_bestDig_73 : decode cX5_bestDig 73 = .ok (.getfield 16, 3) := by decide +kernel
theorem dX5_bestDig_76 : decode cX5_bestDig 76 = .ok (.getfield 97, 3) := by decide +kernel
theorem dX5_bestDig_79 : decode cX5_bestDig 79 = .ok (.dup, 1) := by decide +kernel
theorem dX5_bestDig_80 : decode cX5_bestDig 80 = .ok (.getfield 101, 3) := by decide +kernel
theorem dX5_bestDig_83 : decode cX5_bestDig 83 = .ok (.iload 5, 2) := by decide +kernel
theorem dX5_bestDig_85 : decode cX5_bestDig 85 = .ok (.iadd, 1) := by decide +kernel
theorem dX5_bestDig_86 : decode cX5_bestDig 86 = .ok (.putfield 101, 3) := by decide +kernel
theorem dX5_bestDig_89 : decode cX5_bestDig 89 = .ok (.aload_n 0, 1) := by decide +kernel
theorem dX5_bestDig_90 : decode cX5_bestDig 90 = .ok (.getfield 16, 3) := by decide +kernel
theorem dX5_bestDig_93 : decode cX5_bestDig 93 = .ok (.iload_n 1, 1) := by decide +kernel
theorem dX5_bestDig_94 : decode cX5_bestDig 94 = .ok (.iload_n 2, 1) := by decide +kernel
theorem dX5_bestDig_95 : decode cX5_bestDig 95 = .ok (.invokevirtual 142, 3) := by decide +kernel
theorem dX5_bestDig_98 : decode cX5_bestDig 98 = .ok (.istore 6, 2) := by decide +kernel
theorem dX5_bestDig_100 : decode cX5_bestDig 100 = .ok (.iload 6, 2) := by decide +kernel
theorem dX5_bestDig_102 : decode cX5_bestDig 102 = .ok (.iload 4, 2) := by decide +kernel
theorem dX5_bestDig_104 : decode cX5_bestDig 104 = .ok (.if_icmp .le 10, 3) := by decide +kernel
theorem dX5_bestDig_107 : decode cX5_bestDig 107 = .ok (.iload 6, 2) := by decide +kernel
theorem dX5_bestDig_109 : decode cX5_bestDig 109 = .ok (.istore 4, 2) := by decide +kernel
theorem dX5_bestDig_111 : decode cX5_bestDig 111 = .ok (.iload 5, 2) := by decide +kernel
theorem dX5_bestDig_113 : decode cX5_bestDig 113 = .ok (.istore_n 3, 1) := by decide +kernel
theorem dX5_bestDig_114 : decode cX5_bestDig 114 = .ok (.iinc 5 1, 3) := by decide +kernel
theorem dX5_bestDig_117 : decode cX5_bestDig 117 = .ok (.goto (-81), 3) := by decide +kernel
theorem dX5_bestDig_120 : decode cX5_bestDig 120 = .ok (.iload_n 3, 1) := by decide +kernel
theorem dX5_bestDig_121 : decode cX5_bestDig 121 = .ok (.ireturn, 1) := by decide +kernel
theorem dX5_pumpTakes_0 : decode cX5_pumpTakes 0 = .ok (.iload_n 1, 1) := by decide +kernel
theorem dX5_pumpTakes_1 : decode cX5_pumpTakes 1 = .ok (.iconst 0, 1) := by decide +kernel
theorem dX5_pumpTakes_2 : decode cX5_pumpTakes 2 = .ok (.bipush 20, 2) := by decide +kernel
theorem dX5_pumpTakes_4 : decode cX5_pumpTakes 4 = .ok (.invokestatic 22, 3) := by decide +kernel
theorem dX5_pumpTakes_7 : decode cX5_pumpTakes 7 = .ok (.ifCond .eq 27, 3) := by decide +kernel
theorem dX5_pumpTakes_10 : decode cX5_pumpTakes 10 = .ok (.iload_n 2, 1) := by decide +kernel
theorem dX5_pumpTakes_11 : decode cX5_pumpTakes 11 = .ok (.iconst 0, 1) := by decide +kernel
theorem dX5_pumpTakes_12 : decode cX5_pumpTakes 12 = .ok (.bipush 99, 2) := by decide +kernel
theorem dX5_pumpTakes_14 : decode cX5_pumpTakes 14 = .ok (.invokestatic 22, 3) := by decide +kernel
theorem dX5_pumpTakes_17 : decode cX5_pumpTakes 17 = .ok (.ifCond .eq 17, 3) := by decide +kernel
theorem dX5_pumpTakes_20 : decode cX5_pumpTakes 20 = .ok (.iload_n 3, 1) := by decide +kernel
theorem dX5_pumpTakes_21 : decode cX5_pumpTakes 21 = .ok (.iconst 1, 1) := by decide +kernel
theorem dX5_pumpTakes_22 : decode cX5_pumpTakes 22 = .ok (.bipush 70, 2) := by decide +kernel
theorem dX5_pumpTakes_24 : decode cX5_pumpTakes 24 = .ok (.invokestatic 22, 3) := by decide +kernel
theorem dX5_pumpTakes_27 : decode cX5_pumpTakes 27 = .ok (.ifCond .eq 7, 3) := by decide +kernel
theorem dX5_pumpTakes_30 : decode cX5_pumpTakes 30 = .ok (.iconst 1, 1) := by decide +kernel
theorem dX5_pumpTakes_31 : decode cX5_pumpTakes 31 = .ok (.goto 4, 3) := by decide +kernel
theorem dX5_pumpTakes_34 : decode cX5_pumpTakes 34 = .ok (.iconst 0, 1) := by decide +kernel
theorem dX5_pumpTakes_35 : decode cX5_pumpTakes 35 = .ok (.invokestatic 26, 3) := by decide +kernel
theorem dX5_pumpTakes_38 : decode cX5_pumpTakes 38 = .ok (.aload_n 0, 1) := by decide +kernel
theorem dX5_pumpTakes_39 : decode cX5_pumpTakes 39 = .ok (.getfield 16, 3) := by decide +kernel
theorem dX5_pumpTakes_42 : decode cX5_pumpTakes 42 = .ok (.aload_n 0, 1) := by decide +kernel
theorem dX5_pumpTakes_43 : decode cX5_pumpTakes 43 = .ok (.getfield 10, 3) := by decide +kernel
theorem dX5_pumpTakes_46 : decode cX5_pumpTakes 46 = .ok (.invokevirtual 179, 3) := by decide +kernel
theorem dX5_pumpTakes_49 : decode cX5_pumpTakes 49 = .ok (.aload_n 0, 1) := by decide +kernel
theorem dX5_pumpTakes_50 : decode cX5_pumpTakes 50 = .ok (.getfield 16, 3) := by decide +kernel
theorem dX5_pumpTakes_53 : decode cX5_pumpTakes 53 = .ok (.iload_n 2, 1) := by decide +kernel
theorem dX5_pumpTakes_54 : decode cX5_pumpTakes 54 = .ok (.iload_n 3, 1) := by decide +kernel
theorem dX5_pumpTakes_55 : decode cX5_pumpTakes 55 = .ok (.invokevirtual 142, 3) := by decide +kernel
theorem dX5_pumpTakes_58 : decode cX5_pumpTakes 58 = .ok (.istore 4, 2) := by decide +kernel
theorem dX5_pumpTakes_60 : decode cX5_pumpTakes 60 = .ok (.aload_n 0, 1) := by decide +kernel
theorem dX5_pumpTakes_61 : decode cX5_pumpTakes 61 = .ok (.getfield 16, 3) := by decide +kernel
theorem dX5_pumpTakes_64 : decode cX5_pumpTakes 64 = .ok (.aload_n 0, 1) := by decide +kernel
theorem dX5_pumpTakes_65 : decode cX5_pumpTakes 65 = .ok (.getfield 10, 3) := by decide +kernel
theorem dX5_pumpTakes_68 : decode cX5_pumpTakes 68 = .ok (.invokevirtual 179, 3) := by decide +kernel
theorem dX5_pumpTakes_71 : decode cX5_pumpTakes 71 = .ok (.aload_n 0, 1) := by decide +kernel
theorem dX5_pumpTakes_72 : decode cX5_pumpTakes 72 = .ok (.getfield 16, 3) := by decide +kernel
theorem dX5_pumpTakes_75 : decode cX5_pumpTakes 75 = .ok (.getfield 97, 3) := by decide +kernel
theorem dX5_pumpTakes_78 : decode cX5_pumpTakes 78 = .ok (.iload_n 1, 1) := by decide +kernel
theorem dX5_pumpTakes_79 : decode cX5_pumpTakes 79 = .ok (.putfield 118, 3) := by decide +kernel
theorem dX5_pumpTakes_82 : decode cX5_pumpTakes 82 = .ok (.iload 4, 2) := by decide +kernel
theorem dX5_pumpTakes_84 : decode cX5_pumpTakes 84 = .ok (.aload_n 0, 1) := by decide +kernel
theorem dX5_pumpTakes_85 : decode cX5_pumpTakes 85 = .ok (.getfield 16, 3) := by decide +kernel
theorem dX5_pumpTakes_88 : decode cX5_pumpTakes 88 = .ok (.iload_n 2, 1) := by decide +kernel
theorem dX5_pumpTakes_89 : decode cX5_pumpTakes 89 = .ok (.iload_n 3, 1) := by decide +kernel
theorem dX5_pumpTakes_90 : decode cX5_pumpTakes 90 = .ok (.invokevirtual 142, 3) := by decide +kernel
theorem dX5_pumpTakes_93 : decode cX5_pumpTakes 93 = .ok (.isub, 1) := by decide +kernel
theorem dX5_pumpTakes_94 : decode cX5_pumpTakes 94 = .ok (.ireturn, 1) := by decide +kernel
theorem dX5_wouldReap_0 : decode cX5_wouldReap 0 = .ok (.aload_n 0, 1) := by decide +kernel
theorem dX5_wouldReap_1 : decode cX5_wouldReap 1 = .ok (.iload_n 1, 1) := by decide +kernel
theorem dX5_wouldReap_2 : decode cX5_wouldReap 2 = .ok (.invokevirtual 51, 3) := by decide +kernel
theorem dX5_wouldReap_5 : decode cX5_wouldReap 5 = .ok (.iload_n 2, 1) := by decide +kernel
theorem dX5_wouldReap_6 : decode cX5_wouldReap 6 = .ok (.iconst 0, 1) := by decide +kernel
theorem dX5_wouldReap_7 : decode cX5_wouldReap 7 = .ok (.bipush 99, 2) := by decide +kernel
theorem dX5_wouldReap_9 : decode cX5_wouldReap 9 = .ok (.invokestatic 22, 3) := by decide +kernel
theorem dX5_wouldReap_12 : decode cX5_wouldReap 12 = .ok (.invokestatic 26, 3) := by decide +kernel
theorem dX5_wouldReap_15 : decode cX5_wouldReap 15 = .ok (.aload_n 0, 1) := by decide +kernel
theorem dX5_wouldReap_16 : decode cX5_wouldReap 16 = .ok (.iload_n 2, 1) := by decide +kernel
theorem dX5_wouldReap_17 : decode cX5_wouldReap 17 = .ok (.invokevirtual 183, 3) := by decide +kernel
theorem dX5_wouldReap_20 : decode cX5_wouldReap 20 = .ok (.aload_n 0, 1) := by decide +kernel
theorem dX5_wouldReap_21 : decode cX5_wouldReap 21 = .ok (.iload_n 1, 1) := by decide +kernel
theorem dX5_wouldReap_22 : decode cX5_wouldReap 22 = .ok (.invokevirtual 186, 3) := by decide +kernel
theorem dX5_wouldReap_25 : decode cX5_wouldReap 25 = .ok (.ireturn, 1) := by decide +kernel
theorem dX5_digest_0 : decode cX5_digest 0 = .ok (.ldc2_w 189, 3) := by decide +kernel
theorem dX5_digest_3 : decode cX5_digest 3 = .ok (.lstore_n 1, 1) := by decide +kernel
theorem dX5_digest_4 : decode cX5_digest 4 = .ok (.iconst 0, 1) := by decide +kernel
theorem dX5_digest_5 : decode cX5_digest 5 = .ok (.istore_n 3, 1) := by decide +kernel
theorem dX5_digest_6 : decode cX5_digest 6 = .ok (.iload_n 3, 1) := by decide +kernel
theorem dX5_digest_7 : decode cX5_digest 7 = .ok (.bipush 15, 2) := by decide +kernel
theorem dX5_digest_9 : decode cX5_digest 9 = .ok (.if_icmp .gt 22, 3) := by decide +kernel
theorem dX5_digest_12 : decode cX5_digest 12 = .ok (.lload_n 1, 1) := by decide +kernel
theorem dX5_digest_13 : decode cX5_digest 13 = .ok (.ldc2_w 191, 3) := by decide +kernel
theorem dX5_digest_16 : decode cX5_digest 16 = .ok (.lmul, 1) := by decide +kernel
theorem dX5_digest_17 : decode cX5_digest 17 = .ok (.aload_n 0, 1) := by decide +kernel
theorem dX5_digest_18 : decode cX5_digest 18 = .ok (.iload_n 3, 1) := by decide +kernel
theorem dX5_digest_19 : decode cX5_digest 19 = .ok (.invokevirtual 193, 3) := by decide +kernel
theorem dX5_digest_22 : decode cX5_digest 22 = .ok (.i2l, 1) := by decide +kernel
theorem dX5_digest_23 : decode cX5_digest 23 = .ok (.ladd, 1) := by decide +kernel
theorem dX5_digest_24 : decode cX5_digest 24 = .ok (.lstore_n 1, 1) := by decide +kernel
theorem dX5_digest_25 : decode cX5_digest 25 = .ok (.iinc 3 1, 3) := by decide +kernel
theorem dX5_digest_28 : decode cX5_digest 28 = .ok (.goto (-22), 3) := by decide +kernel
theorem dX5_digest_31 : decode cX5_digest 31 = .ok (.aload_n 0, 1) := by decide +kernel
theorem dX5_digest_32 : decode cX5_digest 32 = .ok (.iconst 0, 1) := by decide +kernel
theorem dX5_digest_33 : decode cX5_digest 33 = .ok (.bipush 7, 2) := by decide +kernel
theorem dX5_digest_35 : decode cX5_digest 35 = .ok (.invokevirtual 172, 3) := by decide +kernel
theorem dX5_digest_38 : decode cX5_digest 38 = .ok (.aload_n 0, 1) := by decide +kernel
theorem dX5_digest_39 : decode cX5_digest 39 = .ok (.iconst 3, 1) := by decide +kernel
theorem dX5_digest_40 : decode cX5_digest 40 = .ok (.invokevirtual 183, 3) := by decide +kernel
theorem dX5_digest_43 : decode cX5_digest 43 = .ok (.aload_n 0, 1) := by decide +kernel
theorem dX5_digest_44 : decode cX5_digest 44 = .ok (.lload_n 1, 1) := by decide +kernel
theorem dX5_digest_45 : decode cX5_digest 45 = .ok (.invokevirtual 196, 3) := by decide +kernel
theorem dX5_digest_48 : decode cX5_digest 48 = .ok (.lstore_n 1, 1) := by decide +kernel
theorem dX5_digest_49 : decode cX5_digest 49 = .ok (.iconst 0, 1) := by decide +kernel
theorem dX5_digest_50 : decode cX5_digest 50 = .ok (.istore_n 3, 1) := by decide +kernel
theorem dX5_digest_51 : decode cX5_digest 51 = .ok (.iload_n 3, 1) := by decide +kernel
theorem dX5_digest_52 : decode cX5_digest 52 = .ok (.sipush 5040, 3) := by decide +kernel
theorem dX5_digest_55 : decode cX5_digest 55 = .ok (.if_icmp .ge 40, 3) := by decide +kernel
theorem dX5_digest_58 : decode cX5_digest 58 = .ok (.lload_n 1, 1) := by decide +kernel
theorem dX5_digest_59 : decode cX5_digest 59 = .ok (.ldc2_w 191, 3) := by decide +kernel
theorem dX5_digest_62 : decode cX5_digest 62 = .ok (.lmul, 1) := by decide +kernel
theorem dX5_digest_63 : decode cX5_digest 63 = .ok (.aload_n 0, 1) := by decide +kernel
theorem dX5_digest_64 : decode cX5_digest 64 = .ok (.iload_n 3, 1) := by decide +kernel
theorem dX5_digest_65 : decode cX5_digest 65 = .ok (.iconst 0, 1) := by decide +kernel
theorem dX5_digest_66 : decode cX5_digest 66 = .ok (.invokevirtual 200, 3) := by decide +kernel
theorem dX5_digest_69 : decode cX5_digest 69 = .ok (.i2l, 1) := by decide +kernel
theorem dX5_digest_70 : decode cX5_digest 70 = .ok (.ladd, 1) := by decide +kernel
theorem dX5_digest_71 : decode cX5_digest 71 = .ok (.lstore_n 1, 1) := by decide +kernel
theorem dX5_digest_72 : decode cX5_digest 72 = .ok (.lload_n 1, 1) := by decide +kernel
theorem dX5_digest_73 : decode cX5_digest 73 = .ok (.ldc2_w 191, 3) := by decide +kernel
theorem dX5_digest_76 : decode cX5_digest 76 = .ok (.lmul, 1) := by decide +kernel
theorem dX5_digest_77 : decode cX5_digest 77 = .ok (.aload_n 0, 1) := by decide +kernel
theorem dX5_digest_78 : decode cX5_digest 78 = .ok (.iload_n 3, 1) := by decide +kernel
theorem dX5_digest_79 : decode cX5_digest 79 = .ok (.iconst 1, 1) := by decide +kernel
theorem dX5_digest_80 : decode cX5_digest 80 = .ok (.invokevirtual 200, 3) := by decide +kernel
theorem dX5_digest_83 : decode cX5_digest 83 = .ok (.i2l, 1) := by decide +kernel
theorem dX5_digest_84 : decode cX5_digest 84 = .ok (.ladd, 1) := by decide +kernel
theorem dX5_digest_85 : decode cX5_digest 85 = .ok (.lstore_n 1, 1) := by decide +kernel
theorem dX5_digest_86 : decode cX5_digest 86 = .ok (.iinc 3 720, 6) := by decide +kernel
theorem dX5_digest_92 : decode cX5_digest 92 = .ok (.goto (-41), 3) := by decide +kernel
theorem dX5_digest_95 : decode cX5_digest 95 = .ok (.iconst 0, 1) := by decide +kernel
theorem dX5_digest_96 : decode cX5_digest 96 = .ok (.istore_n 3, 1) := by decide +kernel
theorem dX5_digest_97 : decode cX5_digest 97 = .ok (.iload_n 3, 1) := by decide +kernel
theorem dX5_digest_98 : decode cX5_digest 98 = .ok (.aload_n 0, 1) := by decide +kernel
theorem dX5_digest_99 : decode cX5_digest 99 = .ok (.getfield 10, 3) := by decide +kernel
theorem dX5_digest_102 : decode cX5_digest 102 = .ok (.getfield 76, 3) := by decide +kernel
theorem dX5_digest_105 : decode cX5_digest 105 = .ok (.invokevirtual 90, 3) := by decide +kernel
theorem dX5_digest_108 : decode cX5_digest 108 = .ok (.if_icmp .ge 39, 3) := by decide +kernel
theorem dX5_digest_111 : decode cX5_digest 111 = .ok (.iconst 0, 1) := by decide +kernel
theorem dX5_digest_112 : decode cX5_digest 112 = .ok (.istore 4, 2) := by decide +kernel
theorem dX5_digest_114 : decode cX5_digest 114 = .ok (.iload 4, 2) := by decide +kernel
theorem dX5_digest_116 : decode cX5_digest 116 = .ok (.iconst 3, 1) := by decide +kernel
theorem dX5_digest_117 : decode cX5_digest 117 = .ok (.if_icmp .gt 24, 3) := by decide +kernel
theorem dX5_digest_120 : decode cX5_digest 120 = .ok (.lload_n 1, 1) := by decide +kernel
theorem dX5_digest_121 : decode cX5_digest 121 = .ok (.ldc2_w 191, 3) := by decide +kernel
theorem dX5_digest_124 : decode cX5_digest 124 = .ok (.lmul, 1) := by decide +kernel
theorem dX5_digest_125 : decode cX5_digest 125 = .ok (.aload_n 0, 1) := by decide +kernel
theorem dX5_digest_126 : decode cX5_digest 126 = .ok (.iload_n 3, 1) := by decide +kernel
theorem dX5_digest_127 : decode cX5_digest 127 = .ok (.iload 4, 2) := by decide +kernel
theorem dX5_digest_129 : decode cX5_digest 129 = .ok (.invokevirtual 203, 3) := by decide +kernel
theorem dX5_digest_132 : decode cX5_digest 132 = .ok (.i2l, 1) := by decide +kernel
theorem dX5_digest_133 : decode cX5_digest 133 = .ok (.ladd, 1) := by decide +kernel
theorem dX5_digest_134 : decode cX5_digest 134 = .ok (.lstore_n 1, 1) := by decide +kernel
theorem dX5_digest_135 : decode cX5_digest 135 = .ok (.iinc 4 1, 3) := by decide +kernel
theorem dX5_digest_138 : decode cX5_digest 138 = .ok (.goto (-24), 3) := by decide +kernel
theorem dX5_digest_141 : decode cX5_digest 141 = .ok (.iinc 3 1, 3) := by decide +kernel
theorem dX5_digest_144 : decode cX5_digest 144 = .ok (.goto (-47), 3) := by decide +kernel
theorem dX5_digest_147 : decode cX5_digest 147 = .ok (.iconst 0, 1) := by decide +kernel
theorem dX5_digest_148 : decode cX5_digest 148 = .ok (.istore_n 3, 1) := by decide +kernel
theorem dX5_digest_149 : decode cX5_digest 149 = .ok (.iload_n 3, 1) := by decide +kernel
theorem dX5_digest_150 : decode cX5_digest 150 = .ok (.aload_n 0, 1) := by decide +kernel
theorem dX5_digest_151 : decode cX5_digest 151 = .ok (.getfield 10, 3) := by decide +kernel
theorem dX5_digest_154 : decode cX5_digest 154 = .ok (.getfield 136, 3) := by decide +kernel
theorem dX5_digest_157 : decode cX5_digest 157 = .ok (.invokevirtual 90, 3) := by decide +kernel
theorem dX5_digest_160 : decode cX5_digest 160 = .ok (.if_icmp .ge 39, 3) := by decide +kernel
theorem dX5_digest_163 : decode cX5_digest 163 = .ok (.iconst 0, 1) := by decide +kernel
theorem dX5_digest_164 : decode cX5_digest 164 = .ok (.istore 4, 2) := by decide +kernel
theorem dX5_digest_166 : decode cX5_digest 166 = .ok (.iload 4, 2) := by decide +kernel
theorem dX5_digest_168 : decode cX5_digest 168 = .ok (.iconst 2, 1) := by decide +kernel
theorem dX5_digest_169 : decode cX5_digest 169 = .ok (.if_icmp .gt 24, 3) := by decide +kernel
theorem dX5_digest_172 : decode cX5_digest 172 = .ok (.lload_n 1, 1) := by decide +kernel
theorem dX5_digest_173 : decode cX5_digest 173 = .ok (.ldc2_w 191, 3) := by decide +kernel
theorem dX5_digest_176 : decode cX5_digest 176 = .ok (.lmul, 1) := by decide +kernel
theorem dX5_digest_177 : decode cX5_digest 177 = .ok (.aload_n 0, 1) := by decide +kernel
theorem dX5_digest_178 : decode cX5_digest 178 = .ok (.iload_n 3, 1) := by decide +kernel
theorem dX5_digest_179 : decode cX5_digest 179 = .ok (.iload 4, 2) := by decide +kernel
theorem dX5_digest_181 : decode cX5_digest 181 = .ok (.invokevirtual 206, 3) := by decide +kernel
theorem dX5_digest_184 : decode cX5_digest 184 = .ok (.i2l, 1) := by decide +kernel
theorem dX5_digest_185 : decode cX5_digest 185 = .ok (.ladd, 1) := by decide +kernel
theorem dX5_digest_186 : decode cX5_digest 186 = .ok (.lstore_n 1, 1) := by decide +kernel
theorem dX5_digest_187 : decode cX5_digest 187 = .ok (.iinc 4 1, 3) := by decide +kernel
theorem dX5_digest_190 : decode cX5_digest 190 = .ok (.goto (-24), 3) := by decide +kernel
theorem dX5_digest_193 : decode cX5_digest 193 = .ok (.iinc 3 1, 3) := by decide +kernel
theorem dX5_digest_196 : decode cX5_digest 196 = .ok (.goto (-47), 3) := by decide +kernel
theorem dX5_digest_199 : decode cX5_digest 199 = .ok (.lload_n 1, 1) := by decide +kernel
theorem dX5_digest_200 : decode cX5_digest 200 = .ok (.ldc2_w 191, 3) := by decide +kernel
theorem dX5_digest_203 : decode cX5_digest 203 = .ok (.lmul, 1) := by decide +kernel
theorem dX5_digest_204 : decode cX5_digest 204 = .ok (.aload_n 0, 1) := by decide +kernel
theorem dX5_digest_205 : decode cX5_digest 205 = .ok (.iconst 0, 1) := by decide +kernel
theorem dX5_digest_206 : decode cX5_digest 206 = .ok (.iconst 3, 1) := by decide +kernel
theorem dX5_digest_207 : decode cX5_digest 207 = .ok (.invokevirtual 209, 3) := by decide +kernel
theorem dX5_digest_210 : decode cX5_digest 210 = .ok (.i2l, 1) := by decide +kernel
theorem dX5_digest_211 : decode cX5_digest 211 = .ok (.ladd, 1) := by decide +kernel
theorem dX5_digest_212 : decode cX5_digest 212 = .ok (.lstore_n 1, 1) := by decide +kernel
theorem dX5_digest_213 : decode cX5_digest 213 = .ok (.lload_n 1, 1) := by decide +kernel
theorem dX5_digest_214 : decode cX5_digest 214 = .ok (.ldc2_w 191, 3) := by decide +kernel
theorem dX5_digest_217 : decode cX5_digest 217 = .ok (.lmul, 1) := by decide +kernel
theorem dX5_digest_218 : decode cX5_digest 218 = .ok (.aload_n 0, 1) := by decide +kernel
theorem dX5_digest_219 : decode cX5_digest 219 = .ok (.iconst 5, 1) := by decide +kernel
theorem dX5_digest_220 : decode cX5_digest 220 = .ok (.iconst 0, 1) := by decide +kernel
theorem dX5_digest_221 : decode cX5_digest 221 = .ok (.bipush 9, 2) := by decide +kernel
theorem dX5_digest_223 : decode cX5_digest 223 = .ok (.invokevirtual 212, 3) := by decide +kernel
theorem dX5_digest_226 : decode cX5_digest 226 = .ok (.i2l, 1) := by decide +kernel
theorem dX5_digest_227 : decode cX5_digest 227 = .ok (.ladd, 1) := by decide +kernel
theorem dX5_digest_228 : decode cX5_digest 228 = .ok (.lreturn, 1) := by decide +kernel
theorem dX5_digestOwners_0 : decode cX5_digestOwners 0 = .ok (.lload_n 1, 1) := by decide +kernel
theorem dX5_digestOwners_1 : decode cX5_digestOwners 1 = .ok (.lstore_n 3, 1) := by decide +kernel
theorem dX5_digestOwners_2 : decode cX5_digestOwners 2 = .ok (.iconst 0, 1) := by decide +kernel
theorem dX5_digestOwners_3 : decode cX5_digestOwners 3 = .ok (.istore 5, 2) := by decide +kernel
theorem dX5_digestOwners_5 : decode cX5_digestOwners 5 = .ok (.iload 5, 2) := by decide +kernel
theorem dX5_digestOwners_7 : decode cX5_digestOwners 7 = .ok (.bipush 10, 2) := by decide +kernel
theorem dX5_digestOwners_9 : decode cX5_digestOwners 9 = .ok (.if_icmp .ge 84, 3) := by decide +kernel
theorem dX5_digestOwners_12 : decode cX5_digestOwners 12 = .ok (.aload_n 0, 1) := by decide +kernel
theorem dX5_digestOwners_13 : decode cX5_digestOwners 13 = .ok (.getfield 10, 3) := by decide +kernel
theorem dX5_digestOwners_16 : decode cX5_digestOwners 16 = .ok (.getfield 30, 3) := by decide +kernel
theorem dX5_digestOwners_19 : decode cX5_digestOwners 19 = .ok (.iload 5, 2) := by decide +kernel
theorem dX5_digestOwners_21 : decode cX5_digestOwners 21 = .ok (.invokevirtual 215, 3) := by decide +kernel
theorem dX5_digestOwners_24 : decode cX5_digestOwners 24 = .ok (.ifCond .eq 63, 3) := by decide +kernel
theorem dX5_digestOwners_27 : decode cX5_digestOwners 27 = .ok (.iconst 0, 1) := by decide +kernel
theorem dX5_digestOwners_28 : decode cX5_digestOwners 28 = .ok (.istore 6, 2) := by decide +kernel
theorem dX5_digestOwners_30 : decode cX5_digestOwners 30 = .ok (.iload 6, 2) := by decide +kernel
theorem dX5_digestOwners_32 : decode cX5_digestOwners 32 = .ok (.bipush 13, 2) := by decide +kernel
theorem dX5_digestOwners_34 : decode cX5_digestOwners 34 = .ok (.if_icmp .gt 25, 3) := by decide +kernel
theorem dX5_digestOwners_37 : decode cX5_digestOwners 37 = .ok (.lload_n 3, 1) := by decide +kernel
theorem dX5_digestOwners_38 : decode cX5_digestOwners 38 = .ok (.ldc2_w 191, 3) := by decide +kernel
theorem dX5_digestOwners_41 : decode cX5_digestOwners 41 = .ok (.lmul, 1) := by decide +kernel
theorem dX5_digestOwners_42 : decode cX5_digestOwners 42 = .ok (.aload_n 0, 1) := by decide +kernel
theorem dX5_digestOwners_43 : decode cX5_digestOwners 43 = .ok (.iload 5, 2) := by decide +kernel
theorem dX5_digestOwners_45 : decode cX5_digestOwners 45 = .ok (.iload 6, 2) := by decide +kernel
theorem dX5_digestOwners_47 : decode cX5_digestOwners 47 = .ok (.invokevirtual 218, 3) := by decide +kernel
theorem dX5_digestOwners_50 : decode cX5_digestOwners 50 = .ok (.i2l, 1) := by decide +kernel
theorem dX5_digestOwners_51 : decode cX5_digestOwners 51 = .ok (.ladd, 1) := by decide +kernel
theorem dX5_digestOwners_52 : decode cX5_digestOwners 52 = .ok (.lstore_n 3, 1) := by decide +kernel
theorem dX5_digestOwners_53 : decode cX5_digestOwners 53 = .ok (.iinc 6 1, 3) := by decide +kernel
theorem dX5_digestOwners_56 : decode cX5_digestOwners 56 = .ok (.goto (-26), 3) := by decide +kernel
theorem dX5_digestOwners_59 : decode cX5_digestOwners 59 = .ok (.lload_n 3, 1) := by decide +kernel
theorem dX5_digestOwners_60 : decode cX5_digestOwners 60 = .ok (.ldc2_w 191, 3) := by decide +kernel
theorem dX5_digestOwners_63 : decode cX5_digestOwners 63 = .ok (.lmul, 1) := by decide +kernel
theorem dX5_digestOwners_64 : decode cX5_digestOwners 64 = .ok (.aload_n 0, 1) := by decide +kernel
theorem dX5_digestOwners_65 : decode cX5_digestOwners 65 = .ok (.iload 5, 2) := by decide +kernel
theorem dX5_digestOwners_67 : decode cX5_digestOwners 67 = .ok (.invokevirtual 176, 3) := by decide +kernel
theorem dX5_digestOwners_70 : decode cX5_digestOwners 70 = .ok (.i2l, 1) := by decide +kernel
theorem dX5_digestOwners_71 : decode cX5_digestOwners 71 = .ok (.ladd, 1) := by decide +kernel
theorem dX5_digestOwners_72 : decode cX5_digestOwners 72 = .ok (.lstore_n 3, 1) := by decide +kernel
theorem dX5_digestOwners_73 : decode cX5_digestOwners 73 = .ok (.lload_n 3, 1) := by decide +kernel
theorem dX5_digestOwners_74 : decode cX5_digestOwners 74 = .ok (.ldc2_w 191, 3) := by decide +kernel
theorem dX5_digestOwners_77 : decode cX5_digestOwners 77 = .ok (.lmul, 1) := by decide +kernel
theorem dX5_digestOwners_78 : decode cX5_digestOwners 78 = .ok (.aload_n 0, 1) := by decide +kernel
theorem dX5_digestOwners_79 : decode cX5_digestOwners 79 = .ok (.iload 5, 2) := by decide +kernel
theorem dX5_digestOwners_81 : decode cX5_digestOwners 81 = .ok (.invokevirtual 186, 3) := by decide +kernel
theorem dX5_digestOwners_84 : decode cX5_digestOwners 84 = .ok (.i2l, 1) := by decide +kernel
theorem dX5_digestOwners_85 : decode cX5_digestOwners 85 = .ok (.ladd, 1) := by decide +kernel
theorem dX5_digestOwners_86 : decode cX5_digestOwners 86 = .ok (.lstore_n 3, 1) := by decide +kernel
theorem dX5_digestOwners_87 : decode cX5_digestOwners 87 = .ok (.iinc 5 1, 3) := by decide +kernel
theorem dX5_digestOwners_90 : decode cX5_digestOwners 90 = .ok (.goto (-85), 3) := by decide +kernel
theorem dX5_digestOwners_93 : decode cX5_digestOwners 93 = .ok (.lload_n 3, 1) := by decide +kernel
theorem dX5_digestOwners_94 : decode cX5_digestOwners 94 = .ok (.lreturn, 1) := by decide +kernel
theorem dX5_imagineLater_0 : decode cX5_imagineLater 0 = .ok (.aload_n 0, 1) := by decide +kernel
theorem dX5_imagineLater_1 : decode cX5_imagineLater 1 = .ok (.getfield 16, 3) := by decide +kernel
theorem dX5_imagineLater_4 : decode cX5_imagineLater 4 = .ok (.aload_n 0, 1) := by decide +kernel
theorem dX5_imagineLater_5 : decode cX5_imagineLater 5 = .ok (.getfield 10, 3) := by decide +kernel
theorem dX5_imagineLater_8 : decode cX5_imagineLater 8 = .ok (.invokevirtual 179, 3) := by decide +kernel
theorem dX5_imagineLater_11 : decode cX5_imagineLater 11 = .ok (.aload_n 0, 1) := by decide +kernel
theorem dX5_imagineLater_12 : decode cX5_imagineLater 12 = .ok (.getfield 16, 3) := by decide +kernel
theorem dX5_imagineLater_15 : decode cX5_imagineLater 15 = .ok (.iload_n 1, 1) := by decide +kernel
theorem dX5_imagineLater_16 : decode cX5_imagineLater 16 = .ok (.iload_n 2, 1) := by decide +kernel
theorem dX5_imagineLater_17 : decode cX5_imagineLater 17 = .ok (.invokevirtual 142, 3) := by decide +kernel
theorem dX5_imagineLater_20 : decode cX5_imagineLater 20 = .ok (.pop, 1) := by decide +kernel
theorem dX5_imagineLater_21 : decode cX5_imagineLater 21 = .ok (.return_, 1) := by decide +kernel
theorem dX5_cameUntilLater_0 : decode cX5_cameUntilLater 0 = .ok (.aload_n 0, 1) := by decide +kernel
theorem dX5_cameUntilLater_1 : decode cX5_cameUntilLater 1 = .ok (.getfield 16, 3) := by decide +kernel
theorem dX5_cameUntilLater_4 : decode cX5_cameUntilLater 4 = .ok (.getfield 30, 3) := by decide +kernel
theorem dX5_cameUntilLater_7 : decode cX5_cameUntilLater 7 = .ok (.iload_n 1, 1) := by decide +kernel
theorem dX5_cameUntilLater_8 : decode cX5_cameUntilLater 8 = .ok (.invokevirtual 55, 3) := by decide +kernel
theorem dX5_cameUntilLater_11 : decode cX5_cameUntilLater 11 = .ok (.getfield 221, 3) := by decide +kernel
theorem dX5_cameUntilLater_14 : decode cX5_cameUntilLater 14 = .ok (.aload_n 0, 1) := by decide +kernel
theorem dX5_cameUntilLater_15 : decode cX5_cameUntilLater 15 = .ok (.getfield 10, 3) := by decide +kernel
theorem dX5_cameUntilLater_18 : decode cX5_cameUntilLater 18 = .ok (.getfield 30, 3) := by decide +kernel
theorem dX5_cameUntilLater_21 : decode cX5_cameUntilLater 21 = .ok (.iload_n 1, 1) := by decide +kernel
theorem dX5_cameUntilLater_22 : decode cX5_cameUntilLater 22 = .ok (.invokevirtual 55, 3) := by decide +kernel
theorem dX5_cameUntilLater_25 : decode cX5_cameUntilLater 25 = .ok (.getfield 221, 3) := by decide +kernel
theorem dX5_cameUntilLater_28 : decode cX5_cameUntilLater 28 = .ok (.isub, 1) := by decide +kernel
theorem dX5_cameUntilLater_29 : decode cX5_cameUntilLater 29 = .ok (.ireturn, 1) := by decide +kernel
theorem dX5_imagineHarvest_0 : decode cX5_imagineHarvest 0 = .ok (.aload_n 0, 1) := by decide +kernel
theorem dX5_imagineHarvest_1 : decode cX5_imagineHarvest 1 = .ok (.getfield 19, 3) := by decide +kernel
theorem dX5_imagineHarvest_4 : decode cX5_imagineHarvest 4 = .ok (.aload_n 0, 1) := by decide +kernel
theorem dX5_imagineHarvest_5 : decode cX5_imagineHarvest 5 = .ok (.getfield 10, 3) := by decide +kernel
theorem dX5_imagineHarvest_8 : decode cX5_imagineHarvest 8 = .ok (.invokevirtual 179, 3) := by decide +kernel
theorem dX5_imagineHarvest_11 : decode cX5_imagineHarvest 11 = .ok (.aload_n 0, 1) := by decide +kernel
theorem dX5_imagineHarvest_12 : decode cX5_imagineHarvest 12 = .ok (.getfield 19, 3) := by decide +kernel
theorem dX5_imagineHarvest_15 : decode cX5_imagineHarvest 15 = .ok (.iload_n 1, 1) := by decide +kernel
theorem dX5_imagineHarvest_16 : decode cX5_imagineHarvest 16 = .ok (.aload_n 0, 1) := by decide +kernel
theorem dX5_imagineHarvest_17 : decode cX5_imagineHarvest 17 = .ok (.getfield 10, 3) := by decide +kernel
theorem dX5_imagineHarvest_20 : decode cX5_imagineHarvest 20 = .ok (.invokevirtual 224, 3) := by decide +kernel
theorem dX5_imagineHarvest_23 : decode cX5_imagineHarvest 23 = .ok (.invokevirtual 142, 3) := by decide +kernel
theorem dX5_imagineHarvest_26 : decode cX5_imagineHarvest 26 = .ok (.pop, 1) := by decide +kernel
theorem dX5_imagineHarvest_27 : decode cX5_imagineHarvest 27 = .ok (.return_, 1) := by decide +kernel
theorem dX5_reapedAtHarvest_0 : decode cX5_reapedAtHarvest 0 = .ok (.aload_n 0, 1) := by decide +kernel
theorem dX5_reapedAtHarvest_1 : decode cX5_reapedAtHarvest 1 = .ok (.getfield 19, 3) := by decide +kernel
theorem dX5_reapedAtHarvest_4 : decode cX5_reapedAtHarvest 4 = .ok (.getfield 30, 3) := by decide +kernel
theorem dX5_reapedAtHarvest_7 : decode cX5_reapedAtHarvest 7 = .ok (.iload_n 1, 1) := by decide +kernel
theorem dX5_reapedAtHarvest_8 : decode cX5_reapedAtHarvest 8 = .ok (.invokevirtual 55, 3) := by decide +kernel
theorem dX5_reapedAtHarvest_11 : decode cX5_reapedAtHarvest 11 = .ok (.getfield 227, 3) := by decide +kernel
theorem dX5_reapedAtHarvest_14 : decode cX5_reapedAtHarvest 14 = .ok (.ireturn, 1) := by decide +kernel
theorem dX5_isWithin_0 : decode cX5_isWithin 0 = .ok (.iload_n 1, 1) := by decide +kernel
theorem dX5_isWithin_1 : decode cX5_isWithin 1 = .ok (.iload_n 0, 1) := by decide +kernel
theorem dX5_isWithin_2 : decode cX5_isWithin 2 = .ok (.if_icmp .gt 12, 3) := by decide +kernel
theorem dX5_isWithin_5 : decode cX5_isWithin 5 = .ok (.iload_n 0, 1) := by decide +kernel
theorem dX5_isWithin_6 : decode cX5_isWithin 6 = .ok (.iload_n 2, 1) := by decide +kernel
theorem dX5_isWithin_7 : decode cX5_isWithin 7 = .ok (.if_icmp .gt 7, 3) := by decide +kernel
theorem dX5_isWithin_10 : decode cX5_isWithin 10 = .ok (.iconst 1, 1) := by decide +kernel
theorem dX5_isWithin_11 : decode cX5_isWithin 11 = .ok (.goto 4, 3) := by decide +kernel
theorem dX5_isWithin_14 : decode cX5_isWithin 14 = .ok (.iconst 0, 1) := by decide +kernel
theorem dX5_isWithin_15 : decode cX5_isWithin 15 = .ok (.ireturn, 1) := by decide +kernel
theorem dX5_mustBeRight_0 : decode cX5_mustBeRight 0 = .ok (.iload_n 0, 1) := by decide +kernel
theorem dX5_mustBeRight_1 : decode cX5_mustBeRight 1 = .ok (.ifCond .ne 11, 3) := by decide +kernel
theorem dX5_mustBeRight_4 : decode cX5_mustBeRight 4 = .ok (.new 230, 3) := by decide +kernel
theorem dX5_mustBeRight_7 : decode cX5_mustBeRight 7 = .ok (.dup, 1) := by decide +kernel
theorem dX5_mustBeRight_8 : decode cX5_mustBeRight 8 = .ok (.invokespecial 232, 3) := by decide +kernel
theorem dX5_mustBeRight_11 : decode cX5_mustBeRight 11 = .ok (.athrow, 1) := by decide +kernel
theorem dX5_mustBeRight_12 : decode cX5_mustBeRight 12 = .ok (.return_, 1) := by decide +kernel
theorem dX5_mustBePossible_0 : decode cX5_mustBePossible 0 = .ok (.iload_n 0, 1) := by decide +kernel
theorem dX5_mustBePossible_1 : decode cX5_mustBePossible 1 = .ok (.ifCond .ne 11, 3) := by decide +kernel
theorem dX5_mustBePossible_4 : decode cX5_mustBePossible 4 = .ok (.new 233, 3) := by decide +kernel
theorem dX5_mustBePossible_7 : decode cX5_mustBePossible 7 = .ok (.dup, 1) := by decide +kernel
theorem dX5_mustBePossible_8 : decode cX5_mustBePossible 8 = .ok (.invokespecial 235, 3) := by decide +kernel
theorem dX5_mustBePossible_11 : decode cX5_mustBePossible 11 = .ok (.athrow, 1) := by decide +kernel
theorem dX5_mustBePossible_12 : decode cX5_mustBePossible 12 = .ok (.return_, 1) := by decide +kernel
theorem dX5_mustExist_0 : decode cX5_mustExist 0 = .ok (.iload_n 0, 1) := by decide +kernel
theorem dX5_mustExist_1 : decode cX5_mustExist 1 = .ok (.ifCond .ne 11, 3) := by decide +kernel
theorem dX5_mustExist_4 : decode cX5_mustExist 4 = .ok (.new 236, 3) := by decide +kernel
theorem dX5_mustExist_7 : decode cX5_mustExist 7 = .ok (.dup, 1) := by decide +kernel
theorem dX5_mustExist_8 : decode cX5_mustExist 8 = .ok (.invokespecial 238, 3) := by decide +kernel
theorem dX5_mustExist_11 : decode cX5_mustExist 11 = .ok (.athrow, 1) := by decide +kernel
theorem dX5_mustExist_12 : decode cX5_mustExist 12 = .ok (.return_, 1) := by decide +kernel
theorem dX5_mustLive_0 : decode cX5_mustLive 0 = .ok (.aload_n 0, 1) := by decide +kernel
theorem dX5_mustLive_1 : decode cX5_mustLive 1 = .ok (.getfield 10, 3) := by decide +kernel
theorem dX5_mustLive_4 : decode cX5_mustLive 4 = .ok (.getfield 30, 3) := by decide +kernel
theorem dX5_mustLive_7 : decode cX5_mustLive 7 = .ok (.iload_n 1, 1) := by decide +kernel
theorem dX5_mustLive_8 : decode cX5_mustLive 8 = .ok (.invokevirtual 215, 3) := by decide +kernel
theorem dX5_mustLive_11 : decode cX5_mustLive 11 = .ok (.invokestatic 150, 3) := by decide +kernel
theorem dX5_mustLive_14 : decode cX5_mustLive 14 = .ok (.return_, 1) := by decide +kernel
