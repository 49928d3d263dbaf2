theorem dX0_init_0 : decode cX0_init 0 = .ok (.aload_n 0, 1) := by decide +kernel
theorem dX0_init_1 : decode cX0_init 1 = .ok (.invokespecial 3, 3) := by decide +kernel
theorem dX0_init_4 : decode cX0_init 4 = .ok (.aload_n 0, 1) := by decide +kernel
theorem dX0_init_5 : decode cX0_init 5 = .ok (.bipush 100, 2) := by decide +kernel
theorem dX0_init_7 : decode cX0_init 7 = .ok (.newarray .int, 2) := by decide +kernel
theorem dX0_init_9 : decode cX0_init 9 = .ok (.putfield 9, 3) := by decide +kernel
theorem dX0_init_12 : decode cX0_init 12 = .ok (.aload_n 0, 1) := by decide +kernel
theorem dX0_init_13 : decode cX0_init 13 = .ok (.bipush 100, 2) := by decide +kernel
theorem dX0_init_15 : decode cX0_init 15 = .ok (.putfield 15, 3) := by decide +kernel
theorem dX0_init_18 : decode cX0_init 18 = .ok (.return_, 1) := by decide +kernel
theorem dX0_empty_0 : decode cX0_empty 0 = .ok (.aload_n 0, 1) := by decide +kernel
theorem dX0_empty_1 : decode cX0_empty 1 = .ok (.iconst 0, 1) := by decide +kernel
theorem dX0_empty_2 : decode cX0_empty 2 = .ok (.putfield 19, 3) := by decide +kernel
theorem dX0_empty_5 : decode cX0_empty 5 = .ok (.aload_n 0, 1) := by decide +kernel
theorem dX0_empty_6 : decode cX0_empty 6 = .ok (.iconst 0, 1) := by decide +kernel
theorem dX0_empty_7 : decode cX0_empty 7 = .ok (.putfield 22, 3) := by decide +kernel
theorem dX0_empty_10 : decode cX0_empty 10 = .ok (.return_, 1) := by decide +kernel
theorem dX0_size_0 : decode cX0_size 0 = .ok (.aload_n 0, 1) := by decide +kernel
theorem dX0_size_1 : decode cX0_size 1 = .ok (.getfield 19, 3) := by decide +kernel
theorem dX0_size_4 : decode cX0_size 4 = .ok (.aload_n 0, 1) := by decide +kernel
theorem dX0_size_5 : decode cX0_size 5 = .ok (.getfield 22, 3) := by decide +kernel
theorem dX0_size_8 : decode cX0_size 8 = .ok (.isub, 1) := by decide +kernel
theorem dX0_size_9 : decode cX0_size 9 = .ok (.ireturn, 1) := by decide +kernel
theorem dX0_take_0 : decode cX0_take 0 = .ok (.aload_n 0, 1) := by decide +kernel
theorem dX0_take_1 : decode cX0_take 1 = .ok (.getfield 19, 3) := by decide +kernel
theorem dX0_take_4 : decode cX0_take 4 = .ok (.aload_n 0, 1) := by decide +kernel
theorem dX0_take_5 : decode cX0_take 5 = .ok (.getfield 9, 3) := by decide +kernel
theorem dX0_take_8 : decode cX0_take 8 = .ok (.arraylength, 1) := by decide +kernel
theorem dX0_take_9 : decode cX0_take 9 = .ok (.if_icmp .ge 28, 3) := by decide +kernel
theorem dX0_take_12 : decode cX0_take 12 = .ok (.aload_n 0, 1) := by decide +kernel
theorem dX0_take_13 : decode cX0_take 13 = .ok (.getfield 9, 3) := by decide +kernel
theorem dX0_take_16 : decode cX0_take 16 = .ok (.aload_n 0, 1) := by decide +kernel
theorem dX0_take_17 : decode cX0_take 17 = .ok (.getfield 19, 3) := by decide +kernel
theorem dX0_take_20 : decode cX0_take 20 = .ok (.iload_n 1, 1) := by decide +kernel
theorem dX0_take_21 : decode cX0_take 21 = .ok (.bipush 50, 2) := by decide +kernel
theorem dX0_take_23 : decode cX0_take 23 = .ok (.imul, 1) := by decide +kernel
theorem dX0_take_24 : decode cX0_take 24 = .ok (.iload_n 2, 1) := by decide +kernel
theorem dX0_take_25 : decode cX0_take 25 = .ok (.iadd, 1) := by decide +kernel
theorem dX0_take_26 : decode cX0_take 26 = .ok (.iastore, 1) := by decide +kernel
theorem dX0_take_27 : decode cX0_take 27 = .ok (.aload_n 0, 1) := by decide +kernel
theorem dX0_take_28 : decode cX0_take 28 = .ok (.dup, 1) := by decide +kernel
theorem dX0_take_29 : decode cX0_take 29 = .ok (.getfield 19, 3) := by decide +kernel
theorem dX0_take_32 : decode cX0_take 32 = .ok (.iconst 1, 1) := by decide +kernel
theorem dX0_take_33 : decode cX0_take 33 = .ok (.iadd, 1) := by decide +kernel
theorem dX0_take_34 : decode cX0_take 34 = .ok (.putfield 19, 3) := by decide +kernel
theorem dX0_take_37 : decode cX0_take 37 = .ok (.return_, 1) := by decide +kernel
theorem dX0_tableAt_0 : decode cX0_tableAt 0 = .ok (.aload_n 0, 1) := by decide +kernel
theorem dX0_tableAt_1 : decode cX0_tableAt 1 = .ok (.getfield 9, 3) := by decide +kernel
theorem dX0_tableAt_4 : decode cX0_tableAt 4 = .ok (.iload_n 1, 1) := by decide +kernel
theorem dX0_tableAt_5 : decode cX0_tableAt 5 = .ok (.iaload, 1) := by decide +kernel
theorem dX0_tableAt_6 : decode cX0_tableAt 6 = .ok (.bipush 50, 2) := by decide +kernel
theorem dX0_tableAt_8 : decode cX0_tableAt 8 = .ok (.idiv, 1) := by decide +kernel
theorem dX0_tableAt_9 : decode cX0_tableAt 9 = .ok (.ireturn, 1) := by decide +kernel
theorem dX0_rowAt_0 : decode cX0_rowAt 0 = .ok (.aload_n 0, 1) := by decide +kernel
theorem dX0_rowAt_1 : decode cX0_rowAt 1 = .ok (.getfield 9, 3) := by decide +kernel
theorem dX0_rowAt_4 : decode cX0_rowAt 4 = .ok (.iload_n 1, 1) := by decide +kernel
theorem dX0_rowAt_5 : decode cX0_rowAt 5 = .ok (.iaload, 1) := by decide +kernel
theorem dX0_rowAt_6 : decode cX0_rowAt 6 = .ok (.bipush 50, 2) := by decide +kernel
theorem dX0_rowAt_8 : decode cX0_rowAt 8 = .ok (.irem, 1) := by decide +kernel
theorem dX0_rowAt_9 : decode cX0_rowAt 9 = .ok (.ireturn, 1) := by decide +kernel
theorem dX1_init_0 : decode cX1_init 0 = .ok (.aload_n 0, 1) := by decide +kernel
theorem dX1_init_1 : decode cX1_init 1 = .ok (.invokespecial 3, 3) := by decide +kernel
theorem dX1_init_4 : decode cX1_init 4 = .ok (.aload_n 0, 1) := by decide +kernel
theorem dX1_init_5 : decode cX1_init 5 = .ok (.sipush 2500, 3) := by decide +kernel
theorem dX1_init_8 : decode cX1_init 8 = .ok (.newarray .int, 2) := by decide +kernel
theorem dX1_init_10 : decode cX1_init 10 = .ok (.putfield 9, 3) := by decide +kernel
theorem dX1_init_13 : decode cX1_init 13 = .ok (.aload_n 0, 1) := by decide +kernel
theorem dX1_init_14 : decode cX1_init 14 = .ok (.sipush 2500, 3) := by decide +kernel
theorem dX1_init_17 : decode cX1_init 17 = .ok (.newarray .boolean, 2) := by decide +kernel
theorem dX1_init_19 : decode cX1_init 19 = .ok (.putfield 15, 3) := by decide +kernel
theorem dX1_init_22 : decode cX1_init 22 = .ok (.return_, 1) := by decide +kernel
theorem dX1_empty_0 : decode cX1_empty 0 = .ok (.iconst 0, 1) := by decide +kernel
theorem dX1_empty_1 : decode cX1_empty 1 = .ok (.istore_n 1, 1) := by decide +kernel
theorem dX1_empty_2 : decode cX1_empty 2 = .ok (.iload_n 1, 1) := by decide +kernel
theorem dX1_empty_3 : decode cX1_empty 3 = .ok (.aload_n 0, 1) := by decide +kernel
theorem dX1_empty_4 : decode cX1_empty 4 = .ok (.getfield 19, 3) := by decide +kernel
theorem dX1_empty_7 : decode cX1_empty 7 = .ok (.if_icmp .ge 21, 3) := by decide +kernel
theorem dX1_empty_10 : decode cX1_empty 10 = .ok (.aload_n 0, 1) := by decide +kernel
theorem dX1_empty_11 : decode cX1_empty 11 = .ok (.getfield 15, 3) := by decide +kernel
theorem dX1_empty_14 : decode cX1_empty 14 = .ok (.aload_n 0, 1) := by decide +kernel
theorem dX1_empty_15 : decode cX1_empty 15 = .ok (.getfield 9, 3) := by decide +kernel
theorem dX1_empty_18 : decode cX1_empty 18 = .ok (.iload_n 1, 1) := by decide +kernel
theorem dX1_empty_19 : decode cX1_empty 19 = .ok (.iaload, 1) := by decide +kernel
theorem dX1_empty_20 : decode cX1_empty 20 = .ok (.iconst 0, 1) := by decide +kernel
theorem dX1_empty_21 : decode cX1_empty 21 = .ok (.bastore, 1) := by decide +kernel
theorem dX1_empty_22 : decode cX1_empty 22 = .ok (.iinc 1 1, 3) := by decide +kernel
theorem dX1_empty_25 : decode cX1_empty 25 = .ok (.goto (-23), 3) := by decide +kernel
theorem dX1_empty_28 : decode cX1_empty 28 = .ok (.aload_n 0, 1) := by decide +kernel
theorem dX1_empty_29 : decode cX1_empty 29 = .ok (.iconst 0, 1) := by decide +kernel
theorem dX1_empty_30 : decode cX1_empty 30 = .ok (.putfield 19, 3) := by decide +kernel
theorem dX1_empty_33 : decode cX1_empty 33 = .ok (.return_, 1) := by decide +kernel
theorem dX1_give_0 : decode cX1_give 0 = .ok (.aload_n 0, 1) := by decide +kernel
theorem dX1_give_1 : decode cX1_give 1 = .ok (.getfield 19, 3) := by decide +kernel
theorem dX1_give_4 : decode cX1_give 4 = .ok (.aload_n 0, 1) := by decide +kernel
theorem dX1_give_5 : decode cX1_give 5 = .ok (.getfield 9, 3) := by decide +kernel
theorem dX1_give_8 : decode cX1_give 8 = .ok (.arraylength, 1) := by decide +kernel
theorem dX1_give_9 : decode cX1_give 9 = .ok (.if_icmp .ge 37, 3) := by decide +kernel
theorem dX1_give_12 : decode cX1_give 12 = .ok (.iload_n 1, 1) := by decide +kernel
theorem dX1_give_13 : decode cX1_give 13 = .ok (.bipush 50, 2) := by decide +kernel
theorem dX1_give_15 : decode cX1_give 15 = .ok (.imul, 1) := by decide +kernel
theorem dX1_give_16 : decode cX1_give 16 = .ok (.iload_n 2, 1) := by decide +kernel
theorem dX1_give_17 : decode cX1_give 17 = .ok (.iadd, 1) := by decide +kernel
theorem dX1_give_18 : decode cX1_give 18 = .ok (.istore_n 3, 1) := by decide +kernel
theorem dX1_give_19 : decode cX1_give 19 = .ok (.aload_n 0, 1) := by decide +kernel
theorem dX1_give_20 : decode cX1_give 20 = .ok (.getfield 9, 3) := by decide +kernel
theorem dX1_give_23 : decode cX1_give 23 = .ok (.aload_n 0, 1) := by decide +kernel
theorem dX1_give_24 : decode cX1_give 24 = .ok (.getfield 19, 3) := by decide +kernel
theorem dX1_give_27 : decode cX1_give 27 = .ok (.iload_n 3, 1) := by decide +kernel
theorem dX1_give_28 : decode cX1_give 28 = .ok (.iastore, 1) := by decide +kernel
theorem dX1_give_29 : decode cX1_give 29 = .ok (.aload_n 0, 1) := by decide +kernel
theorem dX1_give_30 : decode cX1_give 30 = .ok (.getfield 15, 3) := by decide +kernel
theorem dX1_give_33 : decode cX1_give 33 = .ok (.iload_n 3, 1) := by decide +kernel
theorem dX1_give_34 : decode cX1_give 34 = .ok (.iconst 1, 1) := by decide +kernel
theorem dX1_give_35 : decode cX1_give 35 = .ok (.bastore, 1) := by decide +kernel
theorem dX1_give_36 : decode cX1_give 36 = .ok (.aload_n 0, 1) := by decide +kernel
theorem dX1_give_37 : decode cX1_give 37 = .ok (.dup, 1) := by decide +kernel
theorem dX1_give_38 : decode cX1_give 38 = .ok (.getfield 19, 3) := by decide +kernel
theorem dX1_give_41 : decode cX1_give 41 = .ok (.iconst 1, 1) := by decide +kernel
theorem dX1_give_42 : decode cX1_give 42 = .ok (.iadd, 1) := by decide +kernel
theorem dX1_give_43 : decode cX1_give 43 = .ok (.putfield 19, 3) := by decide +kernel
theorem dX1_give_46 : decode cX1_give 46 = .ok (.return_, 1) := by decide +kernel
theorem dX1_has_0 : decode cX1_has 0 = .ok (.aload_n 0, 1) := by decide +kernel
theorem dX1_has_1 : decode cX1_has 1 = .ok (.getfield 15, 3) := by decide +kernel
theorem dX1_has_4 : decode cX1_has 4 = .ok (.iload_n 1, 1) := by decide +kernel
theorem dX1_has_5 : decode cX1_has 5 = .ok (.bipush 50, 2) := by decide +kernel
theorem dX1_has_7 : decode cX1_has 7 = .ok (.imul, 1) := by decide +kernel
theorem dX1_has_8 : decode cX1_has 8 = .ok (.iload_n 2, 1) := by decide +kernel
theorem dX1_has_9 : decode cX1_has 9 = .ok (.iadd, 1) := by decide +kernel
theorem dX1_has_10 : decode cX1_has 10 = .ok (.baload, 1) := by decide +kernel
theorem dX1_has_11 : decode cX1_has 11 = .ok (.ireturn, 1) := by decide +kernel
theorem dX1_rowOf_0 : decode cX1_rowOf 0 = .ok (.iload_n 2, 1) := by decide +kernel
theorem dX1_rowOf_1 : decode cX1_rowOf 1 = .ok (.ifCond .ne 15, 3) := by decide +kernel
theorem dX1_rowOf_4 : decode cX1_rowOf 4 = .ok (.aload_n 0, 1) := by decide +kernel
theorem dX1_rowOf_5 : decode cX1_rowOf 5 = .ok (.getfield 9, 3) := by decide +kernel
theorem dX1_rowOf_8 : decode cX1_rowOf 8 = .ok (.iload_n 1, 1) := by decide +kernel
theorem dX1_rowOf_9 : decode cX1_rowOf 9 = .ok (.iaload, 1) := by decide +kernel
theorem dX1_rowOf_10 : decode cX1_rowOf 10 = .ok (.bipush 50, 2) := by decide +kernel
theorem dX1_rowOf_12 : decode cX1_rowOf 12 = .ok (.idiv, 1) := by decide +kernel
theorem dX1_rowOf_13 : decode cX1_rowOf 13 = .ok (.goto 12, 3) := by decide +kernel
theorem dX1_rowOf_16 : decode cX1_rowOf 16 = .ok (.aload_n 0, 1) := by decide +kernel
theorem dX1_rowOf_17 : decode cX1_rowOf 17 = .ok (.getfield 9, 3) := by decide +kernel
theorem dX1_rowOf_20 : decode cX1_rowOf 20 = .ok (.iload_n 1, 1) := by decide +kernel
theorem dX1_rowOf_21 : decode cX1_rowOf 21 = .ok (.iaload, 1) := by decide +kernel
theorem dX1_rowOf_22 : decode cX1_rowOf 22 = .ok (.bipush 50, 2) := by decide +kernel
theorem dX1_rowOf_24 : decode cX1_rowOf 24 = .ok (.irem, 1) := by decide +kernel
theorem dX1_rowOf_25 : decode cX1_rowOf 25 = .ok (.ireturn, 1) := by decide +kernel
theorem dX2_init_0 : decode cX2_init 0 = .ok (.aload_n 0, 1) := by decide +kernel
theorem dX2_init_1 : decode cX2_init 1 = .ok (.invokespecial 3, 3) := by decide +kernel
theorem dX2_init_4 : decode cX2_init 4 = .ok (.aload_n 0, 1) := by decide +kernel
theorem dX2_init_5 : decode cX2_init 5 = .ok (.bipush 50, 2) := by decide +kernel
theorem dX2_init_7 : decode cX2_init 7 = .ok (.newarray .int, 2) := by decide +kernel
theorem dX2_init_9 : decode cX2_init 9 = .ok (.putfield 9, 3) := by decide +kernel
theorem dX2_init_12 : decode cX2_init 12 = .ok (.aload_n 0, 1) := by decide +kernel
theorem dX2_init_13 : decode cX2_init 13 = .ok (.iconst 4, 1) := by decide +kernel
theorem dX2_init_14 : decode cX2_init 14 = .ok (.newarray .int, 2) := by decide +kernel
theorem dX2_init_16 : decode cX2_init 16 = .ok (.putfield 15, 3) := by decide +kernel
theorem dX2_init_19 : decode cX2_init 19 = .ok (.aload_n 0, 1) := by decide +kernel
theorem dX2_init_20 : decode cX2_init 20 = .ok (.iconst 4, 1) := by decide +kernel
theorem dX2_init_21 : decode cX2_init 21 = .ok (.newarray .int, 2) := by decide +kernel
theorem dX2_init_23 : decode cX2_init 23 = .ok (.putfield 18, 3) := by decide +kernel
theorem dX2_init_26 : decode cX2_init 26 = .ok (.aload_n 0, 1) := by decide +kernel
theorem dX2_init_27 : decode cX2_init 27 = .ok (.iconst 4, 1) := by decide +kernel
theorem dX2_init_28 : decode cX2_init 28 = .ok (.newarray .int, 2) := by decide +kernel
theorem dX2_init_30 : decode cX2_init 30 = .ok (.putfield 21, 3) := by decide +kernel
theorem dX2_init_33 : decode cX2_init 33 = .ok (.aload_n 0, 1) := by decide +kernel
theorem dX2_init_34 : decode cX2_init 34 = .ok (.iconst 4, 1) := by decide +kernel
theorem dX2_init_35 : decode cX2_init 35 = .ok (.newarray .int, 2) := by decide +kernel
theorem dX2_init_37 : decode cX2_init 37 = .ok (.putfield 24, 3) := by decide +kernel
theorem dX2_init_40 : decode cX2_init 40 = .ok (.aload_n 0, 1) := by decide +kernel
theorem dX2_init_41 : decode cX2_init 41 = .ok (.bipush 50, 2) := by decide +kernel
theorem dX2_init_43 : decode cX2_init 43 = .ok (.newarray .int, 2) := by decide +kernel
theorem dX2_init_45 : decode cX2_init 45 = .ok (.putfield 27, 3) := by decide +kernel
theorem dX2_init_48 : decode cX2_init 48 = .ok (.aload_n 0, 1) := by decide +kernel
theorem dX2_init_49 : decode cX2_init 49 = .ok (.bipush 16, 2) := by decide +kernel
theorem dX2_init_51 : decode cX2_init 51 = .ok (.newarray .int, 2) := by decide +kernel
theorem dX2_init_53 : decode cX2_init 53 = .ok (.putfield 30, 3) := by decide +kernel
theorem dX2_init_56 : decode cX2_init 56 = .ok (.aload_n 0, 1) := by decide +kernel
theorem dX2_init_57 : decode cX2_init 57 = .ok (.aload_n 1, 1) := by decide +kernel
theorem dX2_init_58 : decode cX2_init 58 = .ok (.putfield 33, 3) := by decide +kernel
theorem dX2_init_61 : decode cX2_init 61 = .ok (.return_, 1) := by decide +kernel
theorem dX2_begin_0 : decode cX2_begin 0 = .ok (.aload_n 0, 1) := by decide +kernel
theorem dX2_begin_1 : decode cX2_begin 1 = .ok (.getfield 9, 3) := by decide +kernel
theorem dX2_begin_4 : decode cX2_begin 4 = .ok (.iconst 0, 1) := by decide +kernel
theorem dX2_begin_5 : decode cX2_begin 5 = .ok (.invokestatic 37, 3) := by decide +kernel
theorem dX2_begin_8 : decode cX2_begin 8 = .ok (.aload_n 0, 1) := by decide +kernel
theorem dX2_begin_9 : decode cX2_begin 9 = .ok (.getfield 15, 3) := by decide +kernel
theorem dX2_begin_12 : decode cX2_begin 12 = .ok (.iconst 0, 1) := by decide +kernel
theorem dX2_begin_13 : decode cX2_begin 13 = .ok (.invokestatic 37, 3) := by decide +kernel
theorem dX2_begin_16 : decode cX2_begin 16 = .ok (.aload_n 0, 1) := by decide +kernel
theorem dX2_begin_17 : decode cX2_begin 17 = .ok (.getfield 18, 3) := by decide +kernel
theorem dX2_begin_20 : decode cX2_begin 20 = .ok (.iconst 0, 1) := by decide +kernel
theorem dX2_begin_21 : decode cX2_begin 21 = .ok (.invokestatic 37, 3) := by decide +kernel
theorem dX2_begin_24 : decode cX2_begin 24 = .ok (.aload_n 0, 1) := by decide +kernel
theorem dX2_begin_25 : decode cX2_begin 25 = .ok (.aload_n 0, 1) := by decide +kernel
theorem dX2_begin_26 : decode cX2_begin 26 = .ok (.getfield 33, 3) := by decide +kernel
theorem dX2_begin_29 : decode cX2_begin 29 = .ok (.getfield 43, 3) := by decide +kernel
theorem dX2_begin_32 : decode cX2_begin 32 = .ok (.putfield 49, 3) := by decide +kernel
theorem dX2_begin_35 : decode cX2_begin 35 = .ok (.iconst 0, 1) := by decide +kernel
theorem dX2_begin_36 : decode cX2_begin 36 = .ok (.istore_n 1, 1) := by decide +kernel
theorem dX2_begin_37 : decode cX2_begin 37 = .ok (.iload_n 1, 1) := by decide +kernel
theorem dX2_begin_38 : decode cX2_begin 38 = .ok (.aload_n 0, 1) := by decide +kernel
theorem dX2_begin_39 : decode cX2_begin 39 = .ok (.getfield 49, 3) := by decide +kernel
theorem dX2_begin_42 : decode cX2_begin 42 = .ok (.if_icmp .ge 16, 3) := by decide +kernel
theorem dX2_begin_45 : decode cX2_begin 45 = .ok (.aload_n 0, 1) := by decide +kernel
theorem dX2_begin_46 : decode cX2_begin 46 = .ok (.getfield 21, 3) := by decide +kernel
theorem dX2_begin_49 : decode cX2_begin 49 = .ok (.iload_n 1, 1) := by decide +kernel
theorem dX2_begin_50 : decode cX2_begin 50 = .ok (.iload_n 1, 1) := by decide +kernel
theorem dX2_begin_51 : decode cX2_begin 51 = .ok (.iastore, 1) := by decide +kernel
theorem dX2_begin_52 : decode cX2_begin 52 = .ok (.iinc 1 1, 3) := by decide +kernel
theorem dX2_begin_55 : decode cX2_begin 55 = .ok (.goto (-18), 3) := by decide +kernel
theorem dX2_begin_58 : decode cX2_begin 58 = .ok (.aload_n 0, 1) := by decide +kernel
theorem dX2_begin_59 : decode cX2_begin 59 = .ok (.iconst 0, 1) := by decide +kernel
theorem dX2_begin_60 : decode cX2_begin 60 = .ok (.putfield 50, 3) := by decide +kernel
theorem dX2_begin_63 : decode cX2_begin 63 = .ok (.aload_n 0, 1) := by decide +kernel
theorem dX2_begin_64 : decode cX2_begin 64 = .ok (.iconst 0, 1) := by decide +kernel
theorem dX2_begin_65 : decode cX2_begin 65 = .ok (.putfield 54, 3) := by decide +kernel
theorem dX2_begin_68 : decode cX2_begin 68 = .ok (.aload_n 0, 1) := by decide +kernel
theorem dX2_begin_69 : decode cX2_begin 69 = .ok (.iconst 0, 1) := by decide +kernel
theorem dX2_begin_70 : decode cX2_begin 70 = .ok (.putfield 57, 3) := by decide +kernel
theorem dX2_begin_73 : decode cX2_begin 73 = .ok (.aload_n 0, 1) := by decide +kernel
theorem dX2_begin_74 : decode cX2_begin 74 = .ok (.iconst 0, 1) := by decide +kernel
theorem dX2_begin_75 : decode cX2_begin 75 = .ok (.putfield 60, 3) := by decide +kernel
theorem dX2_begin_78 : decode cX2_begin 78 = .ok (.return_, 1) := by decide +kernel
theorem dX2_isReadOut_0 : decode cX2_isReadOut 0 = .ok (.aload_n 0, 1) := by decide +kernel
theorem dX2_isReadOut_1 : decode cX2_isReadOut 1 = .ok (.getfield 54, 3) := by decide +kernel
theorem dX2_isReadOut_4 : decode cX2_isReadOut 4 = .ok (.aload_n 0, 1) := by decide +kernel
theorem dX2_isReadOut_5 : decode cX2_isReadOut 5 = .ok (.getfield 33, 3) := by decide +kernel
theorem dX2_isReadOut_8 : decode cX2_isReadOut 8 = .ok (.getfield 63, 3) := by decide +kernel
theorem dX2_isReadOut_11 : decode cX2_isReadOut 11 = .ok (.if_icmp .lt 7, 3) := by decide +kernel
theorem dX2_isReadOut_14 : decode cX2_isReadOut 14 = .ok (.iconst 1, 1) := by decide +kernel
theorem dX2_isReadOut_15 : decode cX2_isReadOut 15 = .ok (.goto 4, 3) := by decide +kernel
theorem dX2_isReadOut_18 : decode cX2_isReadOut 18 = .ok (.iconst 0, 1) := by decide +kernel
theorem dX2_isReadOut_19 : decode cX2_isReadOut 19 = .ok (.ireturn, 1) := by decide +kernel
theorem dX2_hasPassed_0 : decode cX2_hasPassed 0 = .ok (.aload_n 0, 1) := by decide +kernel
theorem dX2_hasPassed_1 : decode cX2_hasPassed 1 = .ok (.getfield 9, 3) := by decide +kernel
theorem dX2_hasPassed_4 : decode cX2_hasPassed 4 = .ok (.iload_n 1, 1) := by decide +kernel
theorem dX2_hasPassed_5 : decode cX2_hasPassed 5 = .ok (.iaload, 1) := by decide +kernel
theorem dX2_hasPassed_6 : decode cX2_hasPassed 6 = .ok (.iconst 2, 1) := by decide +kernel
theorem dX2_hasPassed_7 : decode cX2_hasPassed 7 = .ok (.if_icmp .eq 13, 3) := by decide +kernel
theorem dX2_hasPassed_10 : decode cX2_hasPassed 10 = .ok (.aload_n 0, 1) := by decide +kernel
theorem dX2_hasPassed_11 : decode cX2_hasPassed 11 = .ok (.getfield 9, 3) := by decide +kernel
theorem dX2_hasPassed_14 : decode cX2_hasPassed 14 = .ok (.iload_n 1, 1) := by decide +kernel
theorem dX2_hasPassed_15 : decode cX2_hasPassed 15 = .ok (.iaload, 1) := by decide +kernel
theorem dX2_hasPassed_16 : decode cX2_hasPassed 16 = .ok (.iconst 3, 1) := by decide +kernel
theorem dX2_hasPassed_17 : decode cX2_hasPassed 17 = .ok (.if_icmp .ne 7, 3) := by decide +kernel
theorem dX2_hasPassed_20 : decode cX2_hasPassed 20 = .ok (.iconst 1, 1) := by decide +kernel
theorem dX2_hasPassed_21 : decode cX2_hasPassed 21 = .ok (.goto 4, 3) := by decide +kernel
theorem dX2_hasPassed_24 : decode cX2_hasPassed 24 = .ok (.iconst 0, 1) := by decide +kernel
theorem dX2_hasPassed_25 : decode cX2_hasPassed 25 = .ok (.ireturn, 1) := by decide +kernel
theorem dX2_wholeCost_0 : decode cX2_wholeCost 0 = .ok (.aload_n 0, 1) := by decide +kernel
theorem dX2_wholeCost_1 : decode cX2_wholeCost 1 = .ok (.getfield 54, 3) := by decide +kernel
theorem dX2_wholeCost_4 : decode cX2_wholeCost 4 = .ok (.aload_n 0, 1) := by decide +kernel
theorem dX2_wholeCost_5 : decode cX2_wholeCost 5 = .ok (.getfield 57, 3) := by decide +kernel
theorem dX2_wholeCost_8 : decode cX2_wholeCost 8 = .ok (.iadd, 1) := by decide +kernel
theorem dX2_wholeCost_9 : decode cX2_wholeCost 9 = .ok (.aload_n 0, 1) := by decide +kernel
theorem dX2_wholeCost_10 : decode cX2_wholeCost 10 = .ok (.getfield 60, 3) := by decide +kernel
theorem dX2_wholeCost_13 : decode cX2_wholeCost 13 = .ok (.iadd, 1) := by decide +kernel
theorem dX2_wholeCost_14 : decode cX2_wholeCost 14 = .ok (.ireturn, 1) := by decide +kernel
theorem dX2_gainsMoreThan_0 : decode cX2_gainsMoreThan 0 = .ok (.aload_n 0, 1) := by decide +kernel
theorem dX2_gainsMoreThan_1 : decode cX2_gainsMoreThan 1 = .ok (.getfield 60, 3) := by decide +kernel
theorem dX2_gainsMoreThan_4 : decode cX2_gainsMoreThan 4 = .ok (.iconst 1, 1) := by decide +kernel
theorem dX2_gainsMoreThan_5 : decode cX2_gainsMoreThan 5 = .ok (.iadd, 1) := by decide +kernel
theorem dX2_gainsMoreThan_6 : decode cX2_gainsMoreThan 6 = .ok (.aload_n 1, 1) := by decide +kernel
theorem dX2_gainsMoreThan_7 : decode cX2_gainsMoreThan 7 = .ok (.invokevirtual 66, 3) := by decide +kernel
theorem dX2_gainsMoreThan_10 : decode cX2_gainsMoreThan 10 = .ok (.iconst 1, 1) := by decide +kernel
theorem dX2_gainsMoreThan_11 : decode cX2_gainsMoreThan 11 = .ok (.iadd, 1) := by decide +kernel
theorem dX2_gainsMoreThan_12 : decode cX2_gainsMoreThan 12 = .ok (.imul, 1) := by decide +kernel
theorem dX2_gainsMoreThan_13 : decode cX2_gainsMoreThan 13 = .ok (.aload_n 1, 1) := by decide +kernel
theorem dX2_gainsMoreThan_14 : decode cX2_gainsMoreThan 14 = .ok (.getfield 60, 3) := by decide +kernel
theorem dX2_gainsMoreThan_17 : decode cX2_gainsMoreThan 17 = .ok (.iconst 1, 1) := by decide +kernel
theorem dX2_gainsMoreThan_18 : decode cX2_gainsMoreThan 18 = .ok (.iadd, 1) := by decide +kernel
theorem dX2_gainsMoreThan_19 : decode cX2_gainsMoreThan 19 = .ok (.aload_n 0, 1) := by decide +kernel
theorem dX2_gainsMoreThan_20 : decode cX2_gainsMoreThan 20 = .ok (.invokevirtual 66, 3) := by decide +kernel
theorem dX2_gainsMoreThan_23 : decode cX2_gainsMoreThan 23 = .ok (.iconst 1, 1) := by decide +kernel
theorem dX2_gainsMoreThan_24 : decode cX2_gainsMoreThan 24 = .ok (.iadd, 1) := by decide +kernel
theorem dX2_gainsMoreThan_25 : decode cX2_gainsMoreThan 25 = .ok (.imul, 1) := by decide +kernel
theorem dX2_gainsMoreThan_26 : decode cX2_gainsMoreThan 26 = .ok (.if_icmp .le 7, 3) := by decide +kernel
theorem dX2_gainsMoreThan_29 : decode cX2_gainsMoreThan 29 = .ok (.iconst 1, 1) := by decide +kernel
theorem dX2_gainsMoreThan_30 : decode cX2_gainsMoreThan 30 = .ok (.goto 4, 3) := by decide +kernel
theorem dX2_gainsMoreThan_33 : decode cX2_gainsMoreThan 33 = .ok (.iconst 0, 1) := by decide +kernel
theorem dX2_gainsMoreThan_34 : decode cX2_gainsMoreThan 34 = .ok (.ireturn, 1) := by decide +kernel
theorem dX2_tryTests_0 : decode cX2_tryTests 0 = .ok (.iconst 0, 1) := by decide +kernel
theorem dX2_tryTests_1 : decode cX2_tryTests 1 = .ok (.istore_n 2, 1) := by decide +kernel
theorem dX2_tryTests_2 : decode cX2_tryTests 2 = .ok (.iload_n 2, 1) := by decide +kernel
theorem dX2_tryTests_3 : decode cX2_tryTests 3 = .ok (.aload_n 0, 1) := by decide +kernel
theorem dX2_tryTests_4 : decode cX2_tryTests 4 = .ok (.getfield 49, 3) := by decide +kernel
theorem dX2_tryTests_7 : decode cX2_tryTests 7 = .ok (.if_icmp .ge 68, 3) := by decide +kernel
theorem dX2_tryTests_10 : decode cX2_tryTests 10 = .ok (.aload_n 0, 1) := by decide +kernel
theorem dX2_tryTests_11 : decode cX2_tryTests 11 = .ok (.getfield 21, 3) := by decide +kernel
theorem dX2_tryTests_14 : decode cX2_tryTests 14 = .ok (.iload_n 2, 1) := by decide +kernel
theorem dX2_tryTests_15 : decode cX2_tryTests 15 = .ok (.iaload, 1) := by decide +kernel
theorem dX2_tryTests_16 : decode cX2_tryTests 16 = .ok (.istore_n 3, 1) := by decide +kernel
theorem dX2_tryTests_17 : decode cX2_tryTests 17 = .ok (.aload_n 0, 1) := by decide +kernel
theorem dX2_tryTests_18 : decode cX2_tryTests 18 = .ok (.getfield 15, 3) := by decide +kernel
theorem dX2_tryTests_21 : decode cX2_tryTests 21 = .ok (.iload_n 3, 1) := by decide +kernel
theorem dX2_tryTests_22 : decode cX2_tryTests 22 = .ok (.dup2, 1) := by decide +kernel
theorem dX2_tryTests_23 : decode cX2_tryTests 23 = .ok (.iaload, 1) := by decide +kernel
theorem dX2_tryTests_24 : decode cX2_tryTests 24 = .ok (.iconst 1, 1) := by decide +kernel
theorem dX2_tryTests_25 : decode cX2_tryTests 25 = .ok (.iadd, 1) := by decide +kernel
theorem dX2_tryTests_26 : decode cX2_tryTests 26 = .ok (.iastore, 1) := by decide +kernel
theorem dX2_tryTests_27 : decode cX2_tryTests 27 = .ok (.aload_n 0, 1) := by decide +kernel
theorem dX2_tryTests_28 : decode cX2_tryTests 28 = .ok (.dup, 1) := by decide +kernel
theorem dX2_tryTests_29 : decode cX2_tryTests 29 = .ok (.getfield 57, 3) := by decide +kernel
theorem dX2_tryTests_32 : decode cX2_tryTests 32 = .ok (.aload_n 0, 1) := by decide +kernel
theorem dX2_tryTests_33 : decode cX2_tryTests 33 = .ok (.getfield 33, 3) := by decide +kernel
theorem dX2_tryTests_36 : decode cX2_tryTests 36 = .ok (.getfield 70, 3) := by decide +kernel
theorem dX2_tryTests_39 : decode cX2_tryTests 39 = .ok (.iload_n 3, 1) := by decide +kernel
theorem dX2_tryTests_40 : decode cX2_tryTests 40 = .ok (.iaload, 1) := by decide +kernel
theorem dX2_tryTests_41 : decode cX2_tryTests 41 = .ok (.iadd, 1) := by decide +kernel
theorem dX2_tryTests_42 : decode cX2_tryTests 42 = .ok (.putfield 57, 3) := by decide +kernel
theorem dX2_tryTests_45 : decode cX2_tryTests 45 = .ok (.aload_n 0, 1) := by decide +kernel
theorem dX2_tryTests_46 : decode cX2_tryTests 46 = .ok (.getfield 33, 3) := by decide +kernel
theorem dX2_tryTests_49 : decode cX2_tryTests 49 = .ok (.iload_n 1, 1) := by decide +kernel
theorem dX2_tryTests_50 : decode cX2_tryTests 50 = .ok (.iload_n 3, 1) := by decide +kernel
theorem dX2_tryTests_51 : decode cX2_tryTests 51 = .ok (.invokevirtual 73, 3) := by decide +kernel
theorem dX2_tryTests_54 : decode cX2_tryTests 54 = .ok (.ifCond .ne 15, 3) := by decide +kernel
theorem dX2_tryTests_57 : decode cX2_tryTests 57 = .ok (.aload_n 0, 1) := by decide +kernel
theorem dX2_tryTests_58 : decode cX2_tryTests 58 = .ok (.getfield 18, 3) := by decide +kernel
theorem dX2_tryTests_61 : decode cX2_tryTests 61 = .ok (.iload_n 3, 1) := by decide +kernel
theorem dX2_tryTests_62 : decode cX2_tryTests 62 = .ok (.dup2, 1) := by decide +kernel
theorem dX2_tryTests_63 : decode cX2_tryTests 63 = .ok (.iaload, 1) := by decide +kernel
theorem dX2_tryTests_64 : decode cX2_tryTests 64 = .ok (.iconst 1, 1) := by decide +kernel
theorem dX2_tryTests_65 : decode cX2_tryTests 65 = .ok (.iadd, 1) := by decide +kernel
theorem dX2_tryTests_66 : decode cX2_tryTests 66 = .ok (.iastore, 1) := by decide +kernel
theorem dX2_tryTests_67 : decode cX2_tryTests 67 = .ok (.iconst 0, 1) := by decide +kernel
theorem dX2_tryTests_68 : decode cX2_tryTests 68 = .ok (.ireturn, 1) := by decide +kernel
theorem dX2_tryTests_69 : decode cX2_tryTests 69 = .ok (.iinc 2 1, 3) := by decide +kernel
theorem dX2_tryTests_72 : decode cX2_tryTests 72 = .ok (.goto (-70), 3) := by decide +kernel
theorem dX2_tryTests_75 : decode cX2_tryTests 75 = .ok (.iconst 1, 1) := by decide +kernel
theorem dX2_tryTests_76 : decode cX2_tryTests 76 = .ok (.ireturn, 1) := by decide +kernel
theorem dX2_isAtPoint_0 : decode cX2_isAtPoint 0 = .ok (.aload_n 0, 1) := by decide +kernel
theorem dX2_isAtPoint_1 : decode cX2_isAtPoint 1 = .ok (.getfield 54, 3) := by decide +kernel
theorem dX2_isAtPoint_4 : decode cX2_isAtPoint 4 = .ok (.iconst 4, 1) := by decide +kernel
theorem dX2_isAtPoint_5 : decode cX2_isAtPoint 5 = .ok (.irem, 1) := by decide +kernel
theorem dX2_isAtPoint_6 : decode cX2_isAtPoint 6 = .ok (.ifCond .ne 14, 3) := by decide +kernel
theorem dX2_isAtPoint_9 : decode cX2_isAtPoint 9 = .ok (.aload_n 0, 1) := by decide +kernel
theorem dX2_isAtPoint_10 : decode cX2_isAtPoint 10 = .ok (.getfield 50, 3) := by decide +kernel
theorem dX2_isAtPoint_13 : decode cX2_isAtPoint 13 = .ok (.ifCond .ne 7, 3) := by decide +kernel
theorem dX2_isAtPoint_16 : decode cX2_isAtPoint 16 = .ok (.iconst 1, 1) := by decide +kernel
theorem dX2_isAtPoint_17 : decode cX2_isAtPoint 17 = .ok (.goto 4, 3) := by decide +kernel
theorem dX2_isAtPoint_20 : decode cX2_isAtPoint 20 = .ok (.iconst 0, 1) := by decide +kernel
theorem dX2_isAtPoint_21 : decode cX2_isAtPoint 21 = .ok (.ireturn, 1) := by decide +kernel
theorem dX2_turnOrder_0 : decode cX2_turnOrder 0 = .ok (.aload_n 0, 1) := by decide +kernel
theorem dX2_turnOrder_1 : decode cX2_turnOrder 1 = .ok (.invokevirtual 77, 3) := by decide +kernel
theorem dX2_turnOrder_4 : decode cX2_turnOrder 4 = .ok (.aload_n 0, 1) := by decide +kernel
theorem dX2_turnOrder_5 : decode cX2_turnOrder 5 = .ok (.invokevirtual 80, 3) := by decide +kernel
theorem dX2_turnOrder_8 : decode cX2_turnOrder 8 = .ok (.ireturn, 1) := by decide +kernel
theorem dX2_forceOrder_0 : decode cX2_forceOrder 0 = .ok (.iload_n 1, 1) := by decide +kernel
theorem dX2_forceOrder_1 : decode cX2_forceOrder 1 = .ok (.ifCond .lt 11, 3) := by decide +kernel
theorem dX2_forceOrder_4 : decode cX2_forceOrder 4 = .ok (.aload_n 0, 1) := by decide +kernel
theorem dX2_forceOrder_5 : decode cX2_forceOrder 5 = .ok (.iload_n 1, 1) := by decide +kernel
theorem dX2_forceOrder_6 : decode cX2_forceOrder 6 = .ok (.invokevirtual 84, 3) := by decide +kernel
theorem dX2_forceOrder_9 : decode cX2_forceOrder 9 = .ok (.ifCond .ne 5, 3) := by decide +kernel
theorem dX2_forceOrder_12 : decode cX2_forceOrder 12 = .ok (.iconst 0, 1) := by decide +kernel
theorem dX2_forceOrder_13 : decode cX2_forceOrder 13 = .ok (.ireturn, 1) := by decide +kernel
theorem dX2_forceOrder_14 : decode cX2_forceOrder 14 = .ok (.aload_n 0, 1) := by decide +kernel
theorem dX2_forceOrder_15 : decode cX2_forceOrder 15 = .ok (.invokevirtual 80, 3) := by decide +kernel
theorem dX2_forceOrder_18 : decode cX2_forceOrder 18 = .ok (.pop, 1) := by decide +kernel
theorem dX2_forceOrder_19 : decode cX2_forceOrder 19 = .ok (.aload_n 0, 1) := by decide +kernel
theorem dX2_forceOrder_20 : decode cX2_forceOrder 20 = .ok (.iconst 1, 1) := by decide +kernel
theorem dX2_forceOrder_21 : decode cX2_forceOrder 21 = .ok (.putfield 50, 3) := by decide +kernel
theorem dX2_forceOrder_24 : decode cX2_forceOrder 24 = .ok (.iconst 1, 1) := by decide +kernel
theorem dX2_forceOrder_25 : decode cX2_forceOrder 25 = .ok (.ireturn, 1) := by decide +kernel
theorem dX2_sortIntoNewOrder_0 : decode cX2_sortIntoNewOrder 0 = .ok (.iconst 0, 1) := by decide +kernel
theorem dX2_sortIntoNewOrder_1 : decode cX2_sortIntoNewOrder 1 = .ok (.istore_n 1, 1) := by decide +kernel
theorem dX2_sortIntoNewOrder_2 : decode cX2_sortIntoNewOrder 2 = .ok (.iload_n 1, 1) := by decide +kernel
theorem dX2_sortIntoNewOrder_3 : decode cX2_sortIntoNewOrder 3 = .ok (.aload_n 0, 1) := by decide +kernel
theorem dX2_sortIntoNewOrder_4 : decode cX2_sortIntoNewOrder 4 = .ok (.getfield 49, 3) := by decide +kernel
theorem dX2_sortIntoNewOrder_7 : decode cX2_sortIntoNewOrder 7 = .ok (.if_icmp .ge 58, 3) := by decide +kernel
theorem dX2_sortIntoNewOrder_10 : decode cX2_sortIntoNewOrder 10 = .ok (.iload_n 1, 1) := by decide +kernel
theorem dX2_sortIntoNewOrder_11 : decode cX2_sortIntoNewOrder 11 = .ok (.istore_n 2, 1) := by decide +kernel
theorem dX2_sortIntoNewOrder_12 : decode cX2_sortIntoNewOrder 12 = .ok (.iload_n 2, 1) := by decide +kernel
theorem dX2_sortIntoNewOrder_13 : decode cX2_sortIntoNewOrder 13 = .ok (.ifCond .le 39, 3) := by decide +kernel
theorem dX2_sortIntoNewOrder_16 : decode cX2_sortIntoNewOrder 16 = .ok (.aload_n 0, 1) := by decide +kernel
theorem dX2_sortIntoNewOrder_17 : decode cX2_sortIntoNewOrder 17 = .ok (.iload_n 1, 1) := by decide +kernel
theorem dX2_sortIntoNewOrder_18 : decode cX2_sortIntoNewOrder 18 = .ok (.aload_n 0, 1) := by decide +kernel
theorem dX2_sortIntoNewOrder_19 : decode cX2_sortIntoNewOrder 19 = .ok (.getfield 24, 3) := by decide +kernel
theorem dX2_sortIntoNewOrder_22 : decode cX2_sortIntoNewOrder 22 = .ok (.iload_n 2, 1) := by decide +kernel
theorem dX2_sortIntoNewOrder_23 : decode cX2_sortIntoNewOrder 23 = .ok (.iconst 1, 1) := by decide +kernel
theorem dX2_sortIntoNewOrder_24 : decode cX2_sortIntoNewOrder 24 = .ok (.isub, 1) := by decide +kernel
theorem dX2_sortIntoNewOrder_25 : decode cX2_sortIntoNewOrder 25 = .ok (.iaload, 1) := by decide +kernel
theorem dX2_sortIntoNewOrder_26 : decode cX2_sortIntoNewOrder 26 = .ok (.invokevirtual 88, 3) := by decide +kernel
theorem dX2_sortIntoNewOrder_29 : decode cX2_sortIntoNewOrder 29 = .ok (.ifCond .eq 23, 3) := by decide +kernel
theorem dX2_sortIntoNewOrder_32 : decode cX2_sortIntoNewOrder 32 = .ok (.aload_n 0, 1) := by decide +kernel
theorem dX2_sortIntoNewOrder_33 : decode cX2_sortIntoNewOrder 33 = .ok (.getfield 24, 3) := by decide +kernel
theorem dX2_sortIntoNewOrder_36 : decode cX2_sortIntoNewOrder 36 = .ok (.iload_n 2, 1) := by decide +kernel
theorem dX2_sortIntoNewOrder_37 : decode cX2_sortIntoNewOrder 37 = .ok (.aload_n 0, 1) := by decide +kernel
theorem dX2_sortIntoNewOrder_38 : decode cX2_sortIntoNewOrder 38 = .ok (.getfield 24, 3) := by decide +kernel
theorem dX2_sortIntoNewOrder_41 : decode cX2_sortIntoNewOrder 41 = .ok (.iload_n 2, 1) := by decide +kernel
theorem dX2_sortIntoNewOrder_42 : decode cX2_sortIntoNewOrder 42 = .ok (.iconst 1, 1) := by decide +kernel
theorem dX2_sortIntoNewOrder_43 : decode cX2_sortIntoNewOrder 43 = .ok (.isub, 1) := by decide +kernel
theorem dX2_sortIntoNewOrder_44 : decode cX2_sortIntoNewOrder 44 = .ok (.iaload, 1) := by decide +kernel
theorem dX2_sortIntoNewOrder_45 : decode cX2_sortIntoNewOrder 45 = .ok (.iastore, 1) := by decide +kernel
theorem dX2_sortIntoNewOrder_46 : decode cX2_sortIntoNewOrder 46 = .ok (.iinc 2 (-1), 3) := by decide +kernel
theorem dX2_sortIntoNewOrder_49 : decode cX2_sortIntoNewOrder 49 = .ok (.goto (-37), 3) := by decide +kernel
theorem dX2_sortIntoNewOrder_52 : decode cX2_sortIntoNewOrder 52 = .ok (.aload_n 0, 1) := by decide +kernel
theorem dX2_sortIntoNewOrder_53 : decode cX2_sortIntoNewOrder 53 = .ok (.getfield 24, 3) := by decide +kernel
theorem dX2_sortIntoNewOrder_56 : decode cX2_sortIntoNewOrder 56 = .ok (.iload_n 2, 1) := by decide +kernel
theorem dX2_sortIntoNewOrder_57 : decode cX2_sortIntoNewOrder 57 = .ok (.iload_n 1, 1) := by decide +kernel
theorem dX2_sortIntoNewOrder_58 : decode cX2_sortIntoNewOrder 58 = .ok (.iastore, 1) := by decide +kernel
theorem dX2_sortIntoNewOrder_59 : decode cX2_sortIntoNewOrder 59 = .ok (.iinc 1 1, 3) := by decide +kernel
theorem dX2_sortIntoNewOrder_62 : decode cX2_sortIntoNewOrder 62 = .ok (.goto (-60), 3) := by decide +kernel
theorem dX2_sortIntoNewOrder_65 : decode cX2_sortIntoNewOrder 65 = .ok (.return_, 1) := by decide +kernel
theorem dX2_isCheaperToFail_0 : decode cX2_isCheaperToFail 0 = .ok (.aload_n 0, 1) := by decide +kernel
theorem dX2_isCheaperToFail_1 : decode cX2_isCheaperToFail 1 = .ok (.getfield 33, 3) := by decide +kernel
theorem dX2_isCheaperToFail_4 : decode cX2_isCheaperToFail 4 = .ok (.getfield 70, 3) := by decide +kernel
theorem dX2_isCheaperToFail_7 : decode cX2_isCheaperToFail 7 = .ok (.iload_n 1, 1) := by decide +kernel
theorem dX2_isCheaperToFail_8 : decode cX2_isCheaperToFail 8 = .ok (.iaload, 1) := by decide +kernel
theorem dX2_isCheaperToFail_9 : decode cX2_isCheaperToFail 9 = .ok (.aload_n 0, 1) := by decide +kernel
theorem dX2_isCheaperToFail_10 : decode cX2_isCheaperToFail 10 = .ok (.getfield 15, 3) := by decide +kernel
theorem dX2_isCheaperToFail_13 : decode cX2_isCheaperToFail 13 = .ok (.iload_n 1, 1) := by decide +kernel
theorem dX2_isCheaperToFail_14 : decode cX2_isCheaperToFail 14 = .ok (.iaload, 1) := by decide +kernel
theorem dX2_isCheaperToFail_15 : decode cX2_isCheaperToFail 15 = .ok (.iconst 2, 1) := by decide +kernel
theorem dX2_isCheaperToFail_16 : decode cX2_isCheaperToFail 16 = .ok (.iadd, 1) := by decide +kernel
theorem dX2_isCheaperToFail_17 : decode cX2_isCheaperToFail 17 = .ok (.imul, 1) := by decide +kernel
theorem dX2_isCheaperToFail_18 : decode cX2_isCheaperToFail 18 = .ok (.aload_n 0, 1) := by decide +kernel
theorem dX2_isCheaperToFail_19 : decode cX2_isCheaperToFail 19 = .ok (.getfield 18, 3) := by decide +kernel
theorem dX2_isCheaperToFail_22 : decode cX2_isCheaperToFail 22 = .ok (.iload_n 2, 1) := by decide +kernel
theorem dX2_isCheaperToFail_23 : decode cX2_isCheaperToFail 23 = .ok (.iaload, 1) := by decide +kernel
theorem dX2_isCheaperToFail_24 : decode cX2_isCheaperToFail 24 = .ok (.iconst 1, 1) := by decide +kernel
theorem dX2_isCheaperToFail_25 : decode cX2_isCheaperToFail 25 = .ok (.iadd, 1) := by decide +kernel
theorem dX2_isCheaperToFail_26 : decode cX2_isCheaperToFail 26 = .ok (.imul, 1) := by decide +kernel
theorem dX2_isCheaperToFail_27 : decode cX2_isCheaperToFail 27 = .ok (.aload_n 0, 1) := by decide +kernel
theorem dX2_isCheaperToFail_28 : decode cX2_isCheaperToFail 28 = .ok (.getfield 33, 3) := by decide +kernel
theorem dX2_isCheaperToFail_31 : decode cX2_isCheaperToFail 31 = .ok (.getfield 70, 3) := by decide +kernel
theorem dX2_isCheaperToFail_34 : decode cX2_isCheaperToFail 34 = .ok (.iload_n 2, 1) := by decide +kernel
theorem dX2_isCheaperToFail_35 : decode cX2_isCheaperToFail 35 = .ok (.iaload, 1) := by decide +kernel
theorem dX2_isCheaperToFail_36 : decode cX2_isCheaperToFail 36 = .ok (.aload_n 0, 1) := by decide +kernel
theorem dX2_isCheaperToFail_37 : decode cX2_isCheaperToFail 37 = .ok (.getfield 15, 3) := by decide +kernel
theorem dX2_isCheaperToFail_40 : decode cX2_isCheaperToFail 40 = .ok (.iload_n 2, 1) := by decide +kernel
theorem dX2_isCheaperToFail_41 : decode cX2_isCheaperToFail 41 = .ok (.iaload, 1) := by decide +kernel
theorem dX2_isCheaperToFail_42 : decode cX2_isCheaperToFail 42 = .ok (.iconst 2, 1) := by decide +kernel
theorem dX2_isCheaperToFail_43 : decode cX2_isCheaperToFail 43 = .ok (.iadd, 1) := by decide +kernel
theorem dX2_isCheaperToFail_44 : decode cX2_isCheaperToFail 44 = .ok (.imul, 1) := by decide +kernel
theorem dX2_isCheaperToFail_45 : decode cX2_isCheaperToFail 45 = .ok (.aload_n 0, 1) := by decide +kernel
theorem dX2_isCheaperToFail_46 : decode cX2_isCheaperToFail 46 = .ok (.getfield 18, 3) := by decide +kernel
theorem dX2_isCheaperToFail_49 : decode cX2_isCheaperToFail 49 = .ok (.iload_n 1, 1) := by decide +kernel
theorem dX2_isCheaperToFail_50 : decode cX2_isCheaperToFail 50 = .ok (.iaload, 1) := by decide +kernel
theorem dX2_isCheaperToFail_51 : decode cX2_isCheaperToFail 51 = .ok (.iconst 1, 1) := by decide +kernel
theorem dX2_isCheaperToFail_52 : decode cX2_isCheaperToFail 52 = .ok (.iadd, 1) := by decide +kernel
theorem dX2_isCheaperToFail_53 : decode cX2_isCheaperToFail 53 = .ok (.imul, 1) := by decide +kernel
theorem dX2_isCheaperToFail_54 : decode cX2_isCheaperToFail 54 = .ok (.if_icmp .ge 7, 3) := by decide +kernel
theorem dX2_isCheaperToFail_57 : decode cX2_isCheaperToFail 57 = .ok (.iconst 1, 1) := by decide +kernel
theorem dX2_isCheaperToFail_58 : decode cX2_isCheaperToFail 58 = .ok (.goto 4, 3) := by decide +kernel
theorem dX2_isCheaperToFail_61 : decode cX2_isCheaperToFail 61 = .ok (.iconst 0, 1) := by decide +kernel
theorem dX2_isCheaperToFail_62 : decode cX2_isCheaperToFail 62 = .ok (.ireturn, 1) := by decide +kernel
theorem dX2_readIntoNewOrder_0 : decode cX2_readIntoNewOrder 0 = .ok (.iload_n 1, 1) := by decide +kernel
theorem dX2_readIntoNewOrder_1 : decode cX2_readIntoNewOrder 1 = .ok (.istore_n 2, 1) := by decide +kernel
theorem dX2_readIntoNewOrder_2 : decode cX2_readIntoNewOrder 2 = .ok (.iconst 0, 1) := by decide +kernel
theorem dX2_readIntoNewOrder_3 : decode cX2_readIntoNewOrder 3 = .ok (.istore_n 3, 1) := by decide +kernel
theorem dX2_readIntoNewOrder_4 : decode cX2_readIntoNewOrder 4 = .ok (.iconst 0, 1) := by decide +kernel
theorem dX2_readIntoNewOrder_5 : decode cX2_readIntoNewOrder 5 = .ok (.istore 4, 2) := by decide +kernel
theorem dX2_readIntoNewOrder_7 : decode cX2_readIntoNewOrder 7 = .ok (.iload 4, 2) := by decide +kernel
theorem dX2_readIntoNewOrder_9 : decode cX2_readIntoNewOrder 9 = .ok (.aload_n 0, 1) := by decide +kernel
theorem dX2_readIntoNewOrder_10 : decode cX2_readIntoNewOrder 10 = .ok (.getfield 49, 3) := by decide +kernel
theorem dX2_readIntoNewOrder_13 : decode cX2_readIntoNewOrder 13 = .ok (.if_icmp .ge 56, 3) := by decide +kernel
theorem dX2_readIntoNewOrder_16 : decode cX2_readIntoNewOrder 16 = .ok (.iload_n 2, 1) := by decide +kernel
theorem dX2_readIntoNewOrder_17 : decode cX2_readIntoNewOrder 17 = .ok (.bipush 10, 2) := by decide +kernel
theorem dX2_readIntoNewOrder_19 : decode cX2_readIntoNewOrder 19 = .ok (.irem, 1) := by decide +kernel
theorem dX2_readIntoNewOrder_20 : decode cX2_readIntoNewOrder 20 = .ok (.istore 5, 2) := by decide +kernel
theorem dX2_readIntoNewOrder_22 : decode cX2_readIntoNewOrder 22 = .ok (.iload_n 2, 1) := by decide +kernel
theorem dX2_readIntoNewOrder_23 : decode cX2_readIntoNewOrder 23 = .ok (.bipush 10, 2) := by decide +kernel
theorem dX2_readIntoNewOrder_25 : decode cX2_readIntoNewOrder 25 = .ok (.idiv, 1) := by decide +kernel
theorem dX2_readIntoNewOrder_26 : decode cX2_readIntoNewOrder 26 = .ok (.istore_n 2, 1) := by decide +kernel
theorem dX2_readIntoNewOrder_27 : decode cX2_readIntoNewOrder 27 = .ok (.iload 5, 2) := by decide +kernel
theorem dX2_readIntoNewOrder_29 : decode cX2_readIntoNewOrder 29 = .ok (.aload_n 0, 1) := by decide +kernel
theorem dX2_readIntoNewOrder_30 : decode cX2_readIntoNewOrder 30 = .ok (.getfield 49, 3) := by decide +kernel
theorem dX2_readIntoNewOrder_33 : decode cX2_readIntoNewOrder 33 = .ok (.if_icmp .ge 12, 3) := by decide +kernel
theorem dX2_readIntoNewOrder_36 : decode cX2_readIntoNewOrder 36 = .ok (.iload_n 3, 1) := by decide +kernel
theorem dX2_readIntoNewOrder_37 : decode cX2_readIntoNewOrder 37 = .ok (.iconst 1, 1) := by decide +kernel
theorem dX2_readIntoNewOrder_38 : decode cX2_readIntoNewOrder 38 = .ok (.iload 5, 2) := by decide +kernel
theorem dX2_readIntoNewOrder_40 : decode cX2_readIntoNewOrder 40 = .ok (.ishl, 1) := by decide +kernel
theorem dX2_readIntoNewOrder_41 : decode cX2_readIntoNewOrder 41 = .ok (.iand, 1) := by decide +kernel
theorem dX2_readIntoNewOrder_42 : decode cX2_readIntoNewOrder 42 = .ok (.ifCond .eq 5, 3) := by decide +kernel
theorem dX2_readIntoNewOrder_45 : decode cX2_readIntoNewOrder 45 = .ok (.iconst 0, 1) := by decide +kernel
theorem dX2_readIntoNewOrder_46 : decode cX2_readIntoNewOrder 46 = .ok (.ireturn, 1) := by decide +kernel
theorem dX2_readIntoNewOrder_47 : decode cX2_readIntoNewOrder 47 = .ok (.iload_n 3, 1) := by decide +kernel
theorem dX2_readIntoNewOrder_48 : decode cX2_readIntoNewOrder 48 = .ok (.iconst 1, 1) := by decide +kernel
theorem dX2_readIntoNewOrder_49 : decode cX2_readIntoNewOrder 49 = .ok (.iload 5, 2) := by decide +kernel
theorem dX2_readIntoNewOrder_51 : decode cX2_readIntoNewOrder 51 = .ok (.ishl, 1) := by decide +kernel
theorem dX2_readIntoNewOrder_52 : decode cX2_readIntoNewOrder 52 = .ok (.ior, 1) := by decide +kernel
theorem dX2_readIntoNewOrder_53 : decode cX2_readIntoNewOrder 53 = .ok (.istore_n 3, 1) := by decide +kernel
theorem dX2_readIntoNewOrder_54 : decode cX2_readIntoNewOrder 54 = .ok (.aload_n 0, 1) := by decide +kernel
theorem dX2_readIntoNewOrder_55 : decode cX2_readIntoNewOrder 55 = .ok (.getfield 24, 3) := by decide +kernel
theorem dX2_readIntoNewOrder_58 : decode cX2_readIntoNewOrder 58 = .ok (.iload 4, 2) := by decide +kernel
theorem dX2_readIntoNewOrder_60 : decode cX2_readIntoNewOrder 60 = .ok (.iload 5, 2) := by decide +kernel
theorem dX2_readIntoNewOrder_62 : decode cX2_readIntoNewOrder 62 = .ok (.iastore, 1) := by decide +kernel
theorem dX2_readIntoNewOrder_63 : decode cX2_readIntoNewOrder 63 = .ok (.iinc 4 1, 3) := by decide +kernel
theorem dX2_readIntoNewOrder_66 : decode cX2_readIntoNewOrder 66 = .ok (.goto (-59), 3) := by decide +kernel
theorem dX2_readIntoNewOrder_69 : decode cX2_readIntoNewOrder 69 = .ok (.iload_n 2, 1) := by decide +kernel
theorem dX2_readIntoNewOrder_70 : decode cX2_readIntoNewOrder 70 = .ok (.ifCond .ne 7, 3) := by decide +kernel
theorem dX2_readIntoNewOrder_73 : decode cX2_readIntoNewOrder 73 = .ok (.iconst 1, 1) := by decide +kernel
theorem dX2_readIntoNewOrder_74 : decode cX2_readIntoNewOrder 74 = .ok (.goto 4, 3) := by decide +kernel
theorem dX2_readIntoNewOrder_77 : decode cX2_readIntoNewOrder 77 = .ok (.iconst 0, 1) := by decide +kernel
theorem dX2_readIntoNewOrder_78 : decode cX2_readIntoNewOrder 78 = .ok (.ireturn, 1) := by decide +kernel
theorem dX2_takeNewOrder_0 : decode cX2_takeNewOrder 0 = .ok (.iconst 0, 1) := by decide +kernel
theorem dX2_takeNewOrder_1 : decode cX2_takeNewOrder 1 = .ok (.istore_n 1, 1) := by decide +kernel
theorem dX2_takeNewOrder_2 : decode cX2_takeNewOrder 2 = .ok (.iconst 0, 1) := by decide +kernel
theorem dX2_takeNewOrder_3 : decode cX2_takeNewOrder 3 = .ok (.istore_n 2, 1) := by decide +kernel
theorem dX2_takeNewOrder_4 : decode cX2_takeNewOrder 4 = .ok (.iload_n 2, 1) := by decide +kernel
theorem dX2_takeNewOrder_5 : decode cX2_takeNewOrder 5 = .ok (.aload_n 0, 1) := by decide +kernel
theorem dX2_takeNewOrder_6 : decode cX2_takeNewOrder 6 = .ok (.getfield 49, 3) := by decide +kernel
theorem dX2_takeNewOrder_9 : decode cX2_takeNewOrder 9 = .ok (.if_icmp .ge 44, 3) := by decide +kernel
theorem dX2_takeNewOrder_12 : decode cX2_takeNewOrder 12 = .ok (.iload_n 1, 1) := by decide +kernel
theorem dX2_takeNewOrder_13 : decode cX2_takeNewOrder 13 = .ok (.aload_n 0, 1) := by decide +kernel
theorem dX2_takeNewOrder_14 : decode cX2_takeNewOrder 14 = .ok (.getfield 21, 3) := by decide +kernel
theorem dX2_takeNewOrder_17 : decode cX2_takeNewOrder 17 = .ok (.iload_n 2, 1) := by decide +kernel
theorem dX2_takeNewOrder_18 : decode cX2_takeNewOrder 18 = .ok (.iaload, 1) := by decide +kernel
theorem dX2_takeNewOrder_19 : decode cX2_takeNewOrder 19 = .ok (.aload_n 0, 1) := by decide +kernel
theorem dX2_takeNewOrder_20 : decode cX2_takeNewOrder 20 = .ok (.getfield 24, 3) := by decide +kernel
theorem dX2_takeNewOrder_23 : decode cX2_takeNewOrder 23 = .ok (.iload_n 2, 1) := by decide +kernel
theorem dX2_takeNewOrder_24 : decode cX2_takeNewOrder 24 = .ok (.iaload, 1) := by decide +kernel
theorem dX2_takeNewOrder_25 : decode cX2_takeNewOrder 25 = .ok (.if_icmp .eq 7, 3) := by decide +kernel
theorem dX2_takeNewOrder_28 : decode cX2_takeNewOrder 28 = .ok (.iconst 1, 1) := by decide +kernel
theorem dX2_takeNewOrder_29 : decode cX2_takeNewOrder 29 = .ok (.goto 4, 3) := by decide +kernel
theorem dX2_takeNewOrder_32 : decode cX2_takeNewOrder 32 = .ok (.iconst 0, 1) := by decide +kernel
theorem dX2_takeNewOrder_33 : decode cX2_takeNewOrder 33 = .ok (.ior, 1) := by decide +kernel
theorem dX2_takeNewOrder_34 : decode cX2_takeNewOrder 34 = .ok (.istore_n 1, 1) := by decide +kernel
theorem dX2_takeNewOrder_35 : decode cX2_takeNewOrder 35 = .ok (.aload_n 0, 1) := by decide +kernel
theorem dX2_takeNewOrder_36 : decode cX2_takeNewOrder 36 = .ok (.getfield 21, 3) := by decide +kernel
theorem dX2_takeNewOrder_39 : decode cX2_takeNewOrder 39 = .ok (.iload_n 2, 1) := by decide +kernel
theorem dX2_takeNewOrder_40 : decode cX2_takeNewOrder 40 = .ok (.aload_n 0, 1) := by decide +kernel
theorem dX2_takeNewOrder_41 : decode cX2_takeNewOrder 41 = .ok (.getfield 24, 3) := by decide +kernel
theorem dX2_takeNewOrder_44 : decode cX2_takeNewOrder 44 = .ok (.iload_n 2, 1) := by decide +kernel
theorem dX2_takeNewOrder_45 : decode cX2_takeNewOrder 45 = .ok (.iaload, 1) := by decide +kernel
theorem dX2_takeNewOrder_46 : decode cX2_takeNewOrder 46 = .ok (.iastore, 1) := by decide +kernel
theorem dX2_takeNewOrder_47 : decode cX2_takeNewOrder 47 = .ok (.iinc 2 1, 3) := by decide +kernel
theorem dX2_takeNewOrder_50 : decode cX2_takeNewOrder 50 = .ok (.goto (-46), 3) := by decide +kernel
theorem dX2_takeNewOrder_53 : decode cX2_takeNewOrder 53 = .ok (.iload_n 1, 1) := by decide +kernel
theorem dX2_takeNewOrder_54 : decode cX2_takeNewOrder 54 = .ok (.ireturn, 1) := by decide +kernel
theorem dX2_cheapestFixedOrder_0 : decode cX2_cheapestFixedOrder 0 = .ok (.aload_n 0, 1) := by decide +kernel
theorem dX2_cheapestFixedOrder_1 : decode cX2_cheapestFixedOrder 1 = .ok (.invokevirtual 91, 3) := by decide +kernel
theorem dX2_cheapestFixedOrder_4 : decode cX2_cheapestFixedOrder 4 = .ok (.iconst 1, 1) := by decide +kernel
theorem dX2_cheapestFixedOrder_5 : decode cX2_cheapestFixedOrder 5 = .ok (.aload_n 0, 1) := by decide +kernel
theorem dX2_cheapestFixedOrder_6 : decode cX2_cheapestFixedOrder 6 = .ok (.getfield 49, 3) := by decide +kernel
theorem dX2_cheapestFixedOrder_9 : decode cX2_cheapestFixedOrder 9 = .ok (.ishl, 1) := by decide +kernel
theorem dX2_cheapestFixedOrder_10 : decode cX2_cheapestFixedOrder 10 = .ok (.istore_n 1, 1) := by decide +kernel
theorem dX2_cheapestFixedOrder_11 : decode cX2_cheapestFixedOrder 11 = .ok (.aload_n 0, 1) := by decide +kernel
theorem dX2_cheapestFixedOrder_12 : decode cX2_cheapestFixedOrder 12 = .ok (.getfield 30, 3) := by decide +kernel
theorem dX2_cheapestFixedOrder_15 : decode cX2_cheapestFixedOrder 15 = .ok (.sipush 10001, 3) := by decide +kernel
theorem dX2_cheapestFixedOrder_18 : decode cX2_cheapestFixedOrder 18 = .ok (.invokestatic 37, 3) := by decide +kernel
theorem dX2_cheapestFixedOrder_21 : decode cX2_cheapestFixedOrder 21 = .ok (.aload_n 0, 1) := by decide +kernel
theorem dX2_cheapestFixedOrder_22 : decode cX2_cheapestFixedOrder 22 = .ok (.getfield 30, 3) := by decide +kernel
theorem dX2_cheapestFixedOrder_25 : decode cX2_cheapestFixedOrder 25 = .ok (.iconst 0, 1) := by decide +kernel
theorem dX2_cheapestFixedOrder_26 : decode cX2_cheapestFixedOrder 26 = .ok (.iconst 0, 1) := by decide +kernel
theorem dX2_cheapestFixedOrder_27 : decode cX2_cheapestFixedOrder 27 = .ok (.iastore, 1) := by decide +kernel
theorem dX2_cheapestFixedOrder_28 : decode cX2_cheapestFixedOrder 28 = .ok (.iconst 0, 1) := by decide +kernel
theorem dX2_cheapestFixedOrder_29 : decode cX2_cheapestFixedOrder 29 = .ok (.istore_n 2, 1) := by decide +kernel
theorem dX2_cheapestFixedOrder_30 : decode cX2_cheapestFixedOrder 30 = .ok (.iload_n 2, 1) := by decide +kernel
theorem dX2_cheapestFixedOrder_31 : decode cX2_cheapestFixedOrder 31 = .ok (.iload_n 1, 1) := by decide +kernel
theorem dX2_cheapestFixedOrder_32 : decode cX2_cheapestFixedOrder 32 = .ok (.iconst 1, 1) := by decide +kernel
theorem dX2_cheapestFixedOrder_33 : decode cX2_cheapestFixedOrder 33 = .ok (.isub, 1) := by decide +kernel
theorem dX2_cheapestFixedOrder_34 : decode cX2_cheapestFixedOrder 34 = .ok (.if_icmp .ge 87, 3) := by decide +kernel
theorem dX2_cheapestFixedOrder_37 : decode cX2_cheapestFixedOrder 37 = .ok (.aload_n 0, 1) := by decide +kernel
theorem dX2_cheapestFixedOrder_38 : decode cX2_cheapestFixedOrder 38 = .ok (.iload_n 2, 1) := by decide +kernel
theorem dX2_cheapestFixedOrder_39 : decode cX2_cheapestFixedOrder 39 = .ok (.invokevirtual 94, 3) := by decide +kernel
theorem dX2_cheapestFixedOrder_42 : decode cX2_cheapestFixedOrder 42 = .ok (.istore_n 3, 1) := by decide +kernel
theorem dX2_cheapestFixedOrder_43 : decode cX2_cheapestFixedOrder 43 = .ok (.iconst 0, 1) := by decide +kernel
theorem dX2_cheapestFixedOrder_44 : decode cX2_cheapestFixedOrder 44 = .ok (.istore 4, 2) := by decide +kernel
theorem dX2_cheapestFixedOrder_46 : decode cX2_cheapestFixedOrder 46 = .ok (.iload 4, 2) := by decide +kernel
theorem dX2_cheapestFixedOrder_48 : decode cX2_cheapestFixedOrder 48 = .ok (.aload_n 0, 1) := by decide +kernel
theorem dX2_cheapestFixedOrder_49 : decode cX2_cheapestFixedOrder 49 = .ok (.getfield 49, 3) := by decide +kernel
theorem dX2_cheapestFixedOrder_52 : decode cX2_cheapestFixedOrder 52 = .ok (.if_icmp .ge 63, 3) := by decide +kernel
theorem dX2_cheapestFixedOrder_55 : decode cX2_cheapestFixedOrder 55 = .ok (.iload_n 2, 1) := by decide +kernel
theorem dX2_cheapestFixedOrder_56 : decode cX2_cheapestFixedOrder 56 = .ok (.iconst 1, 1) := by decide +kernel
theorem dX2_cheapestFixedOrder_57 : decode cX2_cheapestFixedOrder 57 = .ok (.iload 4, 2) := by decide +kernel
theorem dX2_cheapestFixedOrder_59 : decode cX2_cheapestFixedOrder 59 = .ok (.ishl, 1) := by decide +kernel
theorem dX2_cheapestFixedOrder_60 : decode cX2_cheapestFixedOrder 60 = .ok (.ior, 1) := by decide +kernel
theorem dX2_cheapestFixedOrder_61 : decode cX2_cheapestFixedOrder 61 = .ok (.istore 5, 2) := by decide +kernel
theorem dX2_cheapestFixedOrder_63 : decode cX2_cheapestFixedOrder 63 = .ok (.iload 5, 2) := by decide +kernel
theorem dX2_cheapestFixedOrder_65 : decode cX2_cheapestFixedOrder 65 = .ok (.iload_n 2, 1) := by decide +kernel
theorem dX2_cheapestFixedOrder_66 : decode cX2_cheapestFixedOrder 66 = .ok (.if_icmp .eq 43, 3) := by decide +kernel
theorem dX2_cheapestFixedOrder_69 : decode cX2_cheapestFixedOrder 69 = .ok (.aload_n 0, 1) := by decide +kernel
theorem dX2_cheapestFixedOrder_70 : decode cX2_cheapestFixedOrder 70 = .ok (.getfield 30, 3) := by decide +kernel
theorem dX2_cheapestFixedOrder_73 : decode cX2_cheapestFixedOrder 73 = .ok (.iload_n 2, 1) := by decide +kernel
theorem dX2_cheapestFixedOrder_74 : decode cX2_cheapestFixedOrder 74 = .ok (.iaload, 1) := by decide +kernel
theorem dX2_cheapestFixedOrder_75 : decode cX2_cheapestFixedOrder 75 = .ok (.iload_n 3, 1) := by decide +kernel
theorem dX2_cheapestFixedOrder_76 : decode cX2_cheapestFixedOrder 76 = .ok (.aload_n 0, 1) := by decide +kernel
theorem dX2_cheapestFixedOrder_77 : decode cX2_cheapestFixedOrder 77 = .ok (.getfield 33, 3) := by decide +kernel
theorem dX2_cheapestFixedOrder_80 : decode cX2_cheapestFixedOrder 80 = .ok (.getfield 70, 3) := by decide +kernel
theorem dX2_cheapestFixedOrder_83 : decode cX2_cheapestFixedOrder 83 = .ok (.iload 4, 2) := by decide +kernel
theorem dX2_cheapestFixedOrder_85 : decode cX2_cheapestFixedOrder 85 = .ok (.iaload, 1) := by decide +kernel
theorem dX2_cheapestFixedOrder_86 : decode cX2_cheapestFixedOrder 86 = .ok (.imul, 1) := by decide +kernel
theorem dX2_cheapestFixedOrder_87 : decode cX2_cheapestFixedOrder 87 = .ok (.iadd, 1) := by decide +kernel
theorem dX2_cheapestFixedOrder_88 : decode cX2_cheapestFixedOrder 88 = .ok (.istore 6, 2) := by decide +kernel
theorem dX2_cheapestFixedOrder_90 : decode cX2_cheapestFixedOrder 90 = .ok (.aload_n 0, 1) := by decide +kernel
theorem dX2_cheapestFixedOrder_91 : decode cX2_cheapestFixedOrder 91 = .ok (.getfield 30, 3) := by decide +kernel
theorem dX2_cheapestFixedOrder_94 : decode cX2_cheapestFixedOrder 94 = .ok (.iload 5, 2) := by decide +kernel
theorem dX2_cheapestFixedOrder_96 : decode cX2_cheapestFixedOrder 96 = .ok (.aload_n 0, 1) := by decide +kernel
theorem dX2_cheapestFixedOrder_97 : decode cX2_cheapestFixedOrder 97 = .ok (.getfield 30, 3) := by decide +kernel
theorem dX2_cheapestFixedOrder_100 : decode cX2_cheapestFixedOrder 100 = .ok (.iload 5, 2) := by decide +kernel
theorem dX2_cheapestFixedOrder_102 : decode cX2_cheapestFixedOrder 102 = .ok (.iaload, 1) := by decide +kernel
theorem dX2_cheapestFixedOrder_103 : decode cX2_cheapestFixedOrder 103 = .ok (.iload 6, 2) := by decide +kernel
theorem dX2_cheapestFixedOrder_105 : decode cX2_cheapestFixedOrder 105 = .ok (.invokestatic 98, 3) := by decide +kernel
theorem dX2_cheapestFixedOrder_108 : decode cX2_cheapestFixedOrder 108 = .ok (.iastore, 1) := by decide +kernel
theorem dX2_cheapestFixedOrder_109 : decode cX2_cheapestFixedOrder 109 = .ok (.iinc 4 1, 3) := by decide +kernel
theorem dX2_cheapestFixedOrder_112 : decode cX2_cheapestFixedOrder 112 = .ok (.goto (-66), 3) := by decide +kernel
theorem dX2_cheapestFixedOrder_115 : decode cX2_cheapestFixedOrder 115 = .ok (.iinc 2 1, 3) := by decide +kernel
theorem dX2_cheapestFixedOrder_118 : decode cX2_cheapestFixedOrder 118 = .ok (.goto (-88), 3) := by decide +kernel
theorem dX2_cheapestFixedOrder_121 : decode cX2_cheapestFixedOrder 121 = .ok (.aload_n 0, 1) := by decide +kernel
theorem dX2_cheapestFixedOrder_122 : decode cX2_cheapestFixedOrder 122 = .ok (.getfield 30, 3) := by decide +kernel
theorem dX2_cheapestFixedOrder_125 : decode cX2_cheapestFixedOrder 125 = .ok (.iload_n 1, 1) := by decide +kernel
theorem dX2_cheapestFixedOrder_126 : decode cX2_cheapestFixedOrder 126 = .ok (.iconst 1, 1) := by decide +kernel
theorem dX2_cheapestFixedOrder_127 : decode cX2_cheapestFixedOrder 127 = .ok (.isub, 1) := by decide +kernel
theorem dX2_cheapestFixedOrder_128 : decode cX2_cheapestFixedOrder 128 = .ok (.iaload, 1) := by decide +kernel
theorem dX2_cheapestFixedOrder_129 : decode cX2_cheapestFixedOrder 129 = .ok (.ireturn, 1) := by decide +kernel
theorem dX2_findFailedTests_0 : decode cX2_findFailedTests 0 = .ok (.iconst 0, 1) := by decide +kernel
theorem dX2_findFailedTests_1 : decode cX2_findFailedTests 1 = .ok (.istore_n 1, 1) := by decide +kernel
theorem dX2_findFailedTests_2 : decode cX2_findFailedTests 2 = .ok (.iload_n 1, 1) := by decide +kernel
theorem dX2_findFailedTests_3 : decode cX2_findFailedTests 3 = .ok (.aload_n 0, 1) := by decide +kernel
theorem dX2_findFailedTests_4 : decode cX2_findFailedTests 4 = .ok (.getfield 54, 3) := by decide +kernel
theorem dX2_findFailedTests_7 : decode cX2_findFailedTests 7 = .ok (.if_icmp .ge 56, 3) := by decide +kernel
theorem dX2_findFailedTests_10 : decode cX2_findFailedTests 10 = .ok (.aload_n 0, 1) := by decide +kernel
theorem dX2_findFailedTests_11 : decode cX2_findFailedTests 11 = .ok (.getfield 27, 3) := by decide +kernel
theorem dX2_findFailedTests_14 : decode cX2_findFailedTests 14 = .ok (.iload_n 1, 1) := by decide +kernel
theorem dX2_findFailedTests_15 : decode cX2_findFailedTests 15 = .ok (.iconst 0, 1) := by decide +kernel
theorem dX2_findFailedTests_16 : decode cX2_findFailedTests 16 = .ok (.iastore, 1) := by decide +kernel
theorem dX2_findFailedTests_17 : decode cX2_findFailedTests 17 = .ok (.iconst 0, 1) := by decide +kernel
theorem dX2_findFailedTests_18 : decode cX2_findFailedTests 18 = .ok (.istore_n 2, 1) := by decide +kernel
theorem dX2_findFailedTests_19 : decode cX2_findFailedTests 19 = .ok (.iload_n 2, 1) := by decide +kernel
theorem dX2_findFailedTests_20 : decode cX2_findFailedTests 20 = .ok (.aload_n 0, 1) := by decide +kernel
theorem dX2_findFailedTests_21 : decode cX2_findFailedTests 21 = .ok (.getfield 49, 3) := by decide +kernel
theorem dX2_findFailedTests_24 : decode cX2_findFailedTests 24 = .ok (.if_icmp .ge 33, 3) := by decide +kernel
theorem dX2_findFailedTests_27 : decode cX2_findFailedTests 27 = .ok (.aload_n 0, 1) := by decide +kernel
theorem dX2_findFailedTests_28 : decode cX2_findFailedTests 28 = .ok (.getfield 33, 3) := by decide +kernel
theorem dX2_findFailedTests_31 : decode cX2_findFailedTests 31 = .ok (.iload_n 1, 1) := by decide +kernel
theorem dX2_findFailedTests_32 : decode cX2_findFailedTests 32 = .ok (.iload_n 2, 1) := by decide +kernel
theorem dX2_findFailedTests_33 : decode cX2_findFailedTests 33 = .ok (.invokevirtual 73, 3) := by decide +kernel
theorem dX2_findFailedTests_36 : decode cX2_findFailedTests 36 = .ok (.ifCond .ne 15, 3) := by decide +kernel
theorem dX2_findFailedTests_39 : decode cX2_findFailedTests 39 = .ok (.aload_n 0, 1) := by decide +kernel
theorem dX2_findFailedTests_40 : decode cX2_findFailedTests 40 = .ok (.getfield 27, 3) := by decide +kernel
theorem dX2_findFailedTests_43 : decode cX2_findFailedTests 43 = .ok (.iload_n 1, 1) := by decide +kernel
theorem dX2_findFailedTests_44 : decode cX2_findFailedTests 44 = .ok (.dup2, 1) := by decide +kernel
theorem dX2_findFailedTests_45 : decode cX2_findFailedTests 45 = .ok (.iaload, 1) := by decide +kernel
theorem dX2_findFailedTests_46 : decode cX2_findFailedTests 46 = .ok (.iconst 1, 1) := by decide +kernel
theorem dX2_findFailedTests_47 : decode cX2_findFailedTests 47 = .ok (.iload_n 2, 1) := by decide +kernel
theorem dX2_findFailedTests_48 : decode cX2_findFailedTests 48 = .ok (.ishl, 1) := by decide +kernel
theorem dX2_findFailedTests_49 : decode cX2_findFailedTests 49 = .ok (.ior, 1) := by decide +kernel
theorem dX2_findFailedTests_50 : decode cX2_findFailedTests 50 = .ok (.iastore, 1) := by decide +kernel
theorem dX2_findFailedTests_51 : decode cX2_findFailedTests 51 = .ok (.iinc 2 1, 3) := by decide +kernel
theorem dX2_findFailedTests_54 : decode cX2_findFailedTests 54 = .ok (.goto (-35), 3) := by decide +kernel
theorem dX2_findFailedTests_57 : decode cX2_findFailedTests 57 = .ok (.iinc 1 1, 3) := by decide +kernel
theorem dX2_findFailedTests_60 : decode cX2_findFailedTests 60 = .ok (.goto (-58), 3) := by decide +kernel
theorem dX2_findFailedTests_63 : decode cX2_findFailedTests 63 = .ok (.return_, 1) := by decide +kernel
theorem dX2_rowsThatPass_0 : decode cX2_rowsThatPass 0 = .ok (.iconst 0, 1) := by decide +kernel
theorem dX2_rowsThatPass_1 : decode cX2_rowsThatPass 1 = .ok (.istore_n 2, 1) := by decide +kernel
theorem dX2_rowsThatPass_2 : decode cX2_rowsThatPass 2 = .ok (.iconst 0, 1) := by decide +kernel
theorem dX2_rowsThatPass_3 : decode cX2_rowsThatPass 3 = .ok (.istore_n 3, 1) := by decide +kernel
theorem dX2_rowsThatPass_4 : decode cX2_rowsThatPass 4 = .ok (.iload_n 3, 1) := by decide +kernel
theorem dX2_rowsThatPass_5 : decode cX2_rowsThatPass 5 = .ok (.aload_n 0, 1) := by decide +kernel
theorem dX2_rowsThatPass_6 : decode cX2_rowsThatPass 6 = .ok (.getfield 54, 3) := by decide +kernel
theorem dX2_rowsThatPass_9 : decode cX2_rowsThatPass 9 = .ok (.if_icmp .ge 23, 3) := by decide +kernel
theorem dX2_rowsThatPass_12 : decode cX2_rowsThatPass 12 = .ok (.aload_n 0, 1) := by decide +kernel
theorem dX2_rowsThatPass_13 : decode cX2_rowsThatPass 13 = .ok (.getfield 27, 3) := by decide +kernel
theorem dX2_rowsThatPass_16 : decode cX2_rowsThatPass 16 = .ok (.iload_n 3, 1) := by decide +kernel
theorem dX2_rowsThatPass_17 : decode cX2_rowsThatPass 17 = .ok (.iaload, 1) := by decide +kernel
theorem dX2_rowsThatPass_18 : decode cX2_rowsThatPass 18 = .ok (.iload_n 1, 1) := by decide +kernel
theorem dX2_rowsThatPass_19 : decode cX2_rowsThatPass 19 = .ok (.iand, 1) := by decide +kernel
theorem dX2_rowsThatPass_20 : decode cX2_rowsThatPass 20 = .ok (.ifCond .ne 6, 3) := by decide +kernel
theorem dX2_rowsThatPass_23 : decode cX2_rowsThatPass 23 = .ok (.iinc 2 1, 3) := by decide +kernel
theorem dX2_rowsThatPass_26 : decode cX2_rowsThatPass 26 = .ok (.iinc 3 1, 3) := by decide +kernel
theorem dX2_rowsThatPass_29 : decode cX2_rowsThatPass 29 = .ok (.goto (-25), 3) := by decide +kernel
theorem dX2_rowsThatPass_32 : decode cX2_rowsThatPass 32 = .ok (.iload_n 2, 1) := by decide +kernel
theorem dX2_rowsThatPass_33 : decode cX2_rowsThatPass 33 = .ok (.ireturn, 1) := by decide +kernel
theorem dX3_init_0 : decode cX3_init 0 = .ok (.aload_n 0, 1) := by decide +kernel
theorem dX3_init_1 : decode cX3_init 1 = .ok (.invokespecial 3, 3) := by decide +kernel
theorem dX3_init_4 : decode cX3_init 4 = .ok (.aload_n 0, 1) := by decide +kernel
theorem dX3_init_5 : decode cX3_init 5 = .ok (.sipush 150, 3) := by decide +kernel
theorem dX3_init_8 : decode cX3_init 8 = .ok (.newarray .int, 2) := by decide +kernel
theorem dX3_init_10 : decode cX3_init 10 = .ok (.putfield 9, 3) := by decide +kernel
theorem dX3_init_13 : decode cX3_init 13 = .ok (.aload_n 0, 1) := by decide +kernel
theorem dX3_init_14 : decode cX3_init 14 = .ok (.iconst 4, 1) := by decide +kernel
theorem dX3_init_15 : decode cX3_init 15 = .ok (.newarray .int, 2) := by decide +kernel
theorem dX3_init_17 : decode cX3_init 17 = .ok (.putfield 15, 3) := by decide +kernel
theorem dX3_init_20 : decode cX3_init 20 = .ok (.aload_n 0, 1) := by decide +kernel
theorem dX3_init_21 : decode cX3_init 21 = .ok (.iconst 4, 1) := by decide +kernel
theorem dX3_init_22 : decode cX3_init 22 = .ok (.newarray .int, 2) := by decide +kernel
theorem dX3_init_24 : decode cX3_init 24 = .ok (.putfield 18, 3) := by decide +kernel
theorem dX3_init_27 : decode cX3_init 27 = .ok (.aload_n 0, 1) := by decide +kernel
theorem dX3_init_28 : decode cX3_init 28 = .ok (.iconst 4, 1) := by decide +kernel
theorem dX3_init_29 : decode cX3_init 29 = .ok (.newarray .int, 2) := by decide +kernel
theorem dX3_init_31 : decode cX3_init 31 = .ok (.putfield 21, 3) := by decide +kernel
theorem dX3_init_34 : decode cX3_init 34 = .ok (.aload_n 0, 1) := by decide +kernel
theorem dX3_init_35 : decode cX3_init 35 = .ok (.iconst 4, 1) := by decide +kernel
theorem dX3_init_36 : decode cX3_init 36 = .ok (.newarray .int, 2) := by decide +kernel
theorem dX3_init_38 : decode cX3_init 38 = .ok (.putfield 24, 3) := by decide +kernel
theorem dX3_init_41 : decode cX3_init 41 = .ok (.return_, 1) := by decide +kernel
theorem dX3_addRow_0 : decode cX3_addRow 0 = .ok (.aload_n 0, 1) := by decide +kernel
theorem dX3_addRow_1 : decode cX3_addRow 1 = .ok (.getfield 27, 3) := by decide +kernel
theorem dX3_addRow_4 : decode cX3_addRow 4 = .ok (.bipush 50, 2) := by decide +kernel
theorem dX3_addRow_6 : decode cX3_addRow 6 = .ok (.if_icmp .lt 5, 3) := by decide +kernel
theorem dX3_addRow_9 : decode cX3_addRow 9 = .ok (.iconst (-1), 1) := by decide +kernel
theorem dX3_addRow_10 : decode cX3_addRow 10 = .ok (.ireturn, 1) := by decide +kernel
theorem dX3_addRow_11 : decode cX3_addRow 11 = .ok (.aload_n 0, 1) := by decide +kernel
theorem dX3_addRow_12 : decode cX3_addRow 12 = .ok (.getfield 27, 3) := by decide +kernel
theorem dX3_addRow_15 : decode cX3_addRow 15 = .ok (.iconst 3, 1) := by decide +kernel
theorem dX3_addRow_16 : decode cX3_addRow 16 = .ok (.imul, 1) := by decide +kernel
theorem dX3_addRow_17 : decode cX3_addRow 17 = .ok (.istore 4, 2) := by decide +kernel
theorem dX3_addRow_19 : decode cX3_addRow 19 = .ok (.aload_n 0, 1) := by decide +kernel
theorem dX3_addRow_20 : decode cX3_addRow 20 = .ok (.getfield 9, 3) := by decide +kernel
theorem dX3_addRow_23 : decode cX3_addRow 23 = .ok (.iload 4, 2) := by decide +kernel
theorem dX3_addRow_25 : decode cX3_addRow 25 = .ok (.iload_n 1, 1) := by decide +kernel
theorem dX3_addRow_26 : decode cX3_addRow 26 = .ok (.iastore, 1) := by decide +kernel
theorem dX3_addRow_27 : decode cX3_addRow 27 = .ok (.aload_n 0, 1) := by decide +kernel
theorem dX3_addRow_28 : decode cX3_addRow 28 = .ok (.getfield 9, 3) := by decide +kernel
theorem dX3_addRow_31 : decode cX3_addRow 31 = .ok (.iload 4, 2) := by decide +kernel
theorem dX3_addRow_33 : decode cX3_addRow 33 = .ok (.iconst 1, 1) := by decide +kernel
theorem dX3_addRow_34 : decode cX3_addRow 34 = .ok (.iadd, 1) := by decide +kernel
theorem dX3_addRow_35 : decode cX3_addRow 35 = .ok (.iload_n 2, 1) := by decide +kernel
theorem dX3_addRow_36 : decode cX3_addRow 36 = .ok (.iastore, 1) := by decide +kernel
theorem dX3_addRow_37 : decode cX3_addRow 37 = .ok (.aload_n 0, 1) := by decide +kernel
theorem dX3_addRow_38 : decode cX3_addRow 38 = .ok (.getfield 9, 3) := by decide +kernel
theorem dX3_addRow_41 : decode cX3_addRow 41 = .ok (.iload 4, 2) := by decide +kernel
theorem dX3_addRow_43 : decode cX3_addRow 43 = .ok (.iconst 2, 1) := by decide +kernel
theorem dX3_addRow_44 : decode cX3_addRow 44 = .ok (.iadd, 1) := by decide +kernel
theorem dX3_addRow_45 : decode cX3_addRow 45 = .ok (.iload_n 3, 1) := by decide +kernel
theorem dX3_addRow_46 : decode cX3_addRow 46 = .ok (.iastore, 1) := by decide +kernel
theorem dX3_addRow_47 : decode cX3_addRow 47 = .ok (.aload_n 0, 1) := by decide +kernel
theorem dX3_addRow_48 : decode cX3_addRow 48 = .ok (.dup, 1) := by decide +kernel
theorem dX3_addRow_49 : decode cX3_addRow 49 = .ok (.getfield 27, 3) := by decide +kernel
theorem dX3_addRow_52 : decode cX3_addRow 52 = .ok (.iconst 1, 1) := by decide +kernel
theorem dX3_addRow_53 : decode cX3_addRow 53 = .ok (.iadd, 1) := by decide +kernel
theorem dX3_addRow_54 : decode cX3_addRow 54 = .ok (.putfield 27, 3) := by decide +kernel
theorem dX3_addRow_57 : decode cX3_addRow 57 = .ok (.aload_n 0, 1) := by decide +kernel
theorem dX3_addRow_58 : decode cX3_addRow 58 = .ok (.getfield 27, 3) := by decide +kernel
theorem dX3_addRow_61 : decode cX3_addRow 61 = .ok (.iconst 1, 1) := by decide +kernel
theorem dX3_addRow_62 : decode cX3_addRow 62 = .ok (.isub, 1) := by decide +kernel
theorem dX3_addRow_63 : decode cX3_addRow 63 = .ok (.ireturn, 1) := by decide +kernel
theorem dX3_addTest_0 : decode cX3_addTest 0 = .ok (.aload_n 0, 1) := by decide +kernel
theorem dX3_addTest_1 : decode cX3_addTest 1 = .ok (.getfield 31, 3) := by decide +kernel
theorem dX3_addTest_4 : decode cX3_addTest 4 = .ok (.iconst 4, 1) := by decide +kernel
theorem dX3_addTest_5 : decode cX3_addTest 5 = .ok (.if_icmp .lt 5, 3) := by decide +kernel
theorem dX3_addTest_8 : decode cX3_addTest 8 = .ok (.iconst (-1), 1) := by decide +kernel
theorem dX3_addTest_9 : decode cX3_addTest 9 = .ok (.ireturn, 1) := by decide +kernel
theorem dX3_addTest_10 : decode cX3_addTest 10 = .ok (.aload_n 0, 1) := by decide +kernel
theorem dX3_addTest_11 : decode cX3_addTest 11 = .ok (.getfield 15, 3) := by decide +kernel
theorem dX3_addTest_14 : decode cX3_addTest 14 = .ok (.aload_n 0, 1) := by decide +kernel
theorem dX3_addTest_15 : decode cX3_addTest 15 = .ok (.getfield 31, 3) := by decide +kernel
theorem dX3_addTest_18 : decode cX3_addTest 18 = .ok (.iload_n 1, 1) := by decide +kernel
theorem dX3_addTest_19 : decode cX3_addTest 19 = .ok (.iastore, 1) := by decide +kernel
theorem dX3_addTest_20 : decode cX3_addTest 20 = .ok (.aload_n 0, 1) := by decide +kernel
theorem dX3_addTest_21 : decode cX3_addTest 21 = .ok (.getfield 18, 3) := by decide +kernel
theorem dX3_addTest_24 : decode cX3_addTest 24 = .ok (.aload_n 0, 1) := by decide +kernel
theorem dX3_addTest_25 : decode cX3_addTest 25 = .ok (.getfield 31, 3) := by decide +kernel
theorem dX3_addTest_28 : decode cX3_addTest 28 = .ok (.iload_n 2, 1) := by decide +kernel
theorem dX3_addTest_29 : decode cX3_addTest 29 = .ok (.iastore, 1) := by decide +kernel
theorem dX3_addTest_30 : decode cX3_addTest 30 = .ok (.aload_n 0, 1) := by decide +kernel
theorem dX3_addTest_31 : decode cX3_addTest 31 = .ok (.getfield 21, 3) := by decide +kernel
theorem dX3_addTest_34 : decode cX3_addTest 34 = .ok (.aload_n 0, 1) := by decide +kernel
theorem dX3_addTest_35 : decode cX3_addTest 35 = .ok (.getfield 31, 3) := by decide +kernel
theorem dX3_addTest_38 : decode cX3_addTest 38 = .ok (.iload_n 3, 1) := by decide +kernel
theorem dX3_addTest_39 : decode cX3_addTest 39 = .ok (.iastore, 1) := by decide +kernel
theorem dX3_addTest_40 : decode cX3_addTest 40 = .ok (.aload_n 0, 1) := by decide +kernel
theorem dX3_addTest_41 : decode cX3_addTest 41 = .ok (.getfield 24, 3) := by decide +kernel
theorem dX3_addTest_44 : decode cX3_addTest 44 = .ok (.aload_n 0, 1) := by decide +kernel
theorem dX3_addTest_45 : decode cX3_addTest 45 = .ok (.getfield 31, 3) := by decide +kernel
theorem dX3_addTest_48 : decode cX3_addTest 48 = .ok (.iload 4, 2) := by decide +kernel
theorem dX3_addTest_50 : decode cX3_addTest 50 = .ok (.iastore, 1) := by decide +kernel
theorem dX3_addTest_51 : decode cX3_addTest 51 = .ok (.aload_n 0, 1) := by decide +kernel
theorem dX3_addTest_52 : decode cX3_addTest 52 = .ok (.dup, 1) := by decide +kernel
theorem dX3_addTest_53 : decode cX3_addTest 53 = .ok (.getfield 31, 3) := by decide +kernel
theorem dX3_addTest_56 : decode cX3_addTest 56 = .ok (.iconst 1, 1) := by decide +kernel
theorem dX3_addTest_57 : decode cX3_addTest 57 = .ok (.iadd, 1) := by decide +kernel
theorem dX3_addTest_58 : decode cX3_addTest 58 = .ok (.putfield 31, 3) := by decide +kernel
theorem dX3_addTest_61 : decode cX3_addTest 61 = .ok (.aload_n 0, 1) := by decide +kernel
theorem dX3_addTest_62 : decode cX3_addTest 62 = .ok (.getfield 31, 3) := by decide +kernel
theorem dX3_addTest_65 : decode cX3_addTest 65 = .ok (.iconst 1, 1) := by decide +kernel
theorem dX3_addTest_66 : decode cX3_addTest 66 = .ok (.isub, 1) := by decide +kernel
theorem dX3_addTest_67 : decode cX3_addTest 67 = .ok (.ireturn, 1) := by decide +kernel
theorem dX3_valueAt_0 : decode cX3_valueAt 0 = .ok (.aload_n 0, 1) := by decide +kernel
theorem dX3_valueAt_1 : decode cX3_valueAt 1 = .ok (.getfield 9, 3) := by decide +kernel
theorem dX3_valueAt_4 : decode cX3_valueAt 4 = .ok (.iload_n 1, 1) := by decide +kernel
theorem dX3_valueAt_5 : decode cX3_valueAt 5 = .ok (.iconst 3, 1) := by decide +kernel
theorem dX3_valueAt_6 : decode cX3_valueAt 6 = .ok (.imul, 1) := by decide +kernel
theorem dX3_valueAt_7 : decode cX3_valueAt 7 = .ok (.iload_n 2, 1) := by decide +kernel
theorem dX3_valueAt_8 : decode cX3_valueAt 8 = .ok (.iadd, 1) := by decide +kernel
theorem dX3_valueAt_9 : decode cX3_valueAt 9 = .ok (.iaload, 1) := by decide +kernel
theorem dX3_valueAt_10 : decode cX3_valueAt 10 = .ok (.ireturn, 1) := by decide +kernel
theorem dX3_passes_0 : decode cX3_passes 0 = .ok (.aload_n 0, 1) := by decide +kernel
theorem dX3_passes_1 : decode cX3_passes 1 = .ok (.iload_n 1, 1) := by decide +kernel
theorem dX3_passes_2 : decode cX3_passes 2 = .ok (.aload_n 0, 1) := by decide +kernel
theorem dX3_passes_3 : decode cX3_passes 3 = .ok (.getfield 15, 3) := by decide +kernel
theorem dX3_passes_6 : decode cX3_passes 6 = .ok (.iload_n 2, 1) := by decide +kernel
theorem dX3_passes_7 : decode cX3_passes 7 = .ok (.iaload, 1) := by decide +kernel
theorem dX3_passes_8 : decode cX3_passes 8 = .ok (.invokevirtual 34, 3) := by decide +kernel
theorem dX3_passes_11 : decode cX3_passes 11 = .ok (.istore_n 3, 1) := by decide +kernel
theorem dX3_passes_12 : decode cX3_passes 12 = .ok (.aload_n 0, 1) := by decide +kernel
theorem dX3_passes_13 : decode cX3_passes 13 = .ok (.getfield 18, 3) := by decide +kernel
theorem dX3_passes_16 : decode cX3_passes 16 = .ok (.iload_n 2, 1) := by decide +kernel
theorem dX3_passes_17 : decode cX3_passes 17 = .ok (.iaload, 1) := by decide +kernel
theorem dX3_passes_18 : decode cX3_passes 18 = .ok (.ifCond .ne 19, 3) := by decide +kernel
theorem dX3_passes_21 : decode cX3_passes 21 = .ok (.iload_n 3, 1) := by decide +kernel
theorem dX3_passes_22 : decode cX3_passes 22 = .ok (.aload_n 0, 1) := by decide +kernel
theorem dX3_passes_23 : decode cX3_passes 23 = .ok (.getfield 21, 3) := by decide +kernel
theorem dX3_passes_26 : decode cX3_passes 26 = .ok (.iload_n 2, 1) := by decide +kernel
theorem dX3_passes_27 : decode cX3_passes 27 = .ok (.iaload, 1) := by decide +kernel
theorem dX3_passes_28 : decode cX3_passes 28 = .ok (.if_icmp .ge 7, 3) := by decide +kernel
theorem dX3_passes_31 : decode cX3_passes 31 = .ok (.iconst 1, 1) := by decide +kernel
theorem dX3_passes_32 : decode cX3_passes 32 = .ok (.goto 4, 3) := by decide +kernel
theorem dX3_passes_35 : decode cX3_passes 35 = .ok (.iconst 0, 1) := by decide +kernel
theorem dX3_passes_36 : decode cX3_passes 36 = .ok (.ireturn, 1) := by decide +kernel
theorem dX3_passes_37 : decode cX3_passes 37 = .ok (.aload_n 0, 1) := by decide +kernel
theorem dX3_passes_38 : decode cX3_passes 38 = .ok (.getfield 18, 3) := by decide +kernel
theorem dX3_passes_41 : decode cX3_passes 41 = .ok (.iload_n 2, 1) := by decide +kernel
theorem dX3_passes_42 : decode cX3_passes 42 = .ok (.iaload, 1) := by decide +kernel
theorem dX3_passes_43 : decode cX3_passes 43 = .ok (.iconst 1, 1) := by decide +kernel
theorem dX3_passes_44 : decode cX3_passes 44 = .ok (.if_icmp .ne 19, 3) := by decide +kernel
theorem dX3_passes_47 : decode cX3_passes 47 = .ok (.iload_n 3, 1) := by decide +kernel
theorem dX3_passes_48 : decode cX3_passes 48 = .ok (.aload_n 0, 1) := by decide +kernel
theorem dX3_passes_49 : decode cX3_passes 49 = .ok (.getfield 21, 3) := by decide +kernel
theorem dX3_passes_52 : decode cX3_passes 52 = .ok (.iload_n 2, 1) := by decide +kernel
theorem dX3_passes_53 : decode cX3_passes 53 = .ok (.iaload, 1) := by decide +kernel
theorem dX3_passes_54 : decode cX3_passes 54 = .ok (.if_icmp .ne 7, 3) := by decide +kernel
theorem dX3_passes_57 : decode cX3_passes 57 = .ok (.iconst 1, 1) := by decide +kernel
theorem dX3_passes_58 : decode cX3_passes 58 = .ok (.goto 4, 3) := by decide +kernel
theorem dX3_passes_61 : decode cX3_passes 61 = .ok (.iconst 0, 1) := by decide +kernel
theorem dX3_passes_62 : decode cX3_passes 62 = .ok (.ireturn, 1) := by decide +kernel
theorem dX3_passes_63 : decode cX3_passes 63 = .ok (.iload_n 3, 1) := by decide +kernel
theorem dX3_passes_64 : decode cX3_passes 64 = .ok (.aload_n 0, 1) := by decide +kernel
theorem dX3_passes_65 : decode cX3_passes 65 = .ok (.getfield 21, 3) := by decide +kernel
theorem dX3_passes_68 : decode cX3_passes 68 = .ok (.iload_n 2, 1) := by decide +kernel
theorem dX3_passes_69 : decode cX3_passes 69 = .ok (.iaload, 1) := by decide +kernel
theorem dX3_passes_70 : decode cX3_passes 70 = .ok (.if_icmp .le 7, 3) := by decide +kernel
theorem dX3_passes_73 : decode cX3_passes 73 = .ok (.iconst 1, 1) := by decide +kernel
theorem dX3_passes_74 : decode cX3_passes 74 = .ok (.goto 4, 3) := by decide +kernel
theorem dX3_passes_77 : decode cX3_passes 77 = .ok (.iconst 0, 1) := by decide +kernel
theorem dX3_passes_78 : decode cX3_passes 78 = .ok (.ireturn, 1) := by decide +kernel
theorem dX3_passesAll_0 : decode cX3_passesAll 0 = .ok (.iconst 0, 1) := by decide +kernel
theorem dX3_passesAll_1 : decode cX3_passesAll 1 = .ok (.istore_n 2, 1) := by decide +kernel
theorem dX3_passesAll_2 : decode cX3_passesAll 2 = .ok (.iload_n 2, 1) := by decide +kernel
theorem dX3_passesAll_3 : decode cX3_passesAll 3 = .ok (.aload_n 0, 1) := by decide +kernel
theorem dX3_passesAll_4 : decode cX3_passesAll 4 = .ok (.getfield 31, 3) := by decide +kernel
theorem dX3_passesAll_7 : decode cX3_passesAll 7 = .ok (.if_icmp .ge 20, 3) := by decide +kernel
theorem dX3_passesAll_10 : decode cX3_passesAll 10 = .ok (.aload_n 0, 1) := by decide +kernel
theorem dX3_passesAll_11 : decode cX3_passesAll 11 = .ok (.iload_n 1, 1) := by decide +kernel
theorem dX3_passesAll_12 : decode cX3_passesAll 12 = .ok (.iload_n 2, 1) := by decide +kernel
theorem dX3_passesAll_13 : decode cX3_passesAll 13 = .ok (.invokevirtual 38, 3) := by decide +kernel
theorem dX3_passesAll_16 : decode cX3_passesAll 16 = .ok (.ifCond .ne 5, 3) := by decide +kernel
theorem dX3_passesAll_19 : decode cX3_passesAll 19 = .ok (.iconst 0, 1) := by decide +kernel
theorem dX3_passesAll_20 : decode cX3_passesAll 20 = .ok (.ireturn, 1) := by decide +kernel
theorem dX3_passesAll_21 : decode cX3_passesAll 21 = .ok (.iinc 2 1, 3) := by decide +kernel
theorem dX3_passesAll_24 : decode cX3_passesAll 24 = .ok (.goto (-22), 3) := by decide +kernel
theorem dX3_passesAll_27 : decode cX3_passesAll 27 = .ok (.iconst 1, 1) := by decide +kernel
theorem dX3_passesAll_28 : decode cX3_passesAll 28 = .ok (.ireturn, 1) := by decide +kernel
theorem dJ9_min_7cf53_0 : decode cJ9_min_7cf53 0 = .ok (.iload_n 0, 1) := by decide +kernel
theorem dJ9_min_7cf53_1 : decode cJ9_min_7cf53 1 = .ok (.iload_n 1, 1) := by decide +kernel
theorem dJ9_min_7cf53_2 : decode cJ9_min_7cf53 2 = .ok (.if_icmp .gt 7, 3) := by decide +kernel
theorem dJ9_min_7cf53_5 : decode cJ9_min_7cf53 5 = .ok (.iload_n 0, 1) := by decide +kernel
theorem dJ9_min_7cf53_6 : decode cJ9_min_7cf53 6 = .ok (.goto 4, 3) := by decide +kernel
theorem dJ9_min_7cf53_9 : decode cJ9_min_7cf53 9 = .ok (.iload_n 1, 1) := by decide +kernel
theorem dJ9_min_7cf53_10 : decode cJ9_min_7cf53 10 = .ok (.ireturn, 1) := by decide +kernel
theorem dJ7_fill_53178_0 : decode cJ7_fill_53178 0 = .ok (.iconst 0, 1) := by decide +kernel
theorem dJ7_fill_53178_1 : decode cJ7_fill_53178 1 = .ok (.istore_n 2, 1) := by decide +kernel
theorem dJ7_fill_53178_2 : decode cJ7_fill_53178 2 = .ok (.aload_n 0, 1) := by decide +kernel
theorem dJ7_fill_53178_3 : decode cJ7_fill_53178 3 = .ok (.arraylength, 1) := by decide +kernel
theorem dJ7_fill_53178_4 : decode cJ7_fill_53178 4 = .ok (.istore_n 3, 1) := by decide +kernel
theorem dJ7_fill_53178_5 : decode cJ7_fill_53178 5 = .ok (.iload_n 2, 1) := by decide +kernel
theorem dJ7_fill_53178_6 : decode cJ7_fill_53178 6 = .ok (.iload_n 3, 1) := by decide +kernel
theorem dJ7_fill_53178_7 : decode cJ7_fill_53178 7 = .ok (.if_icmp .ge 13, 3) := by decide +kernel
theorem dJ7_fill_53178_10 : decode cJ7_fill_53178 10 = .ok (.aload_n 0, 1) := by decide +kernel
theorem dJ7_fill_53178_11 : decode cJ7_fill_53178 11 = .ok (.iload_n 2, 1) := by decide +kernel
theorem dJ7_fill_53178_12 : decode cJ7_fill_53178 12 = .ok (.iload_n 1, 1) := by decide +kernel
theorem dJ7_fill_53178_13 : decode cJ7_fill_53178 13 = .ok (.iastore, 1) := by decide +kernel
theorem dJ7_fill_53178_14 : decode cJ7_fill_53178 14 = .ok (.iinc 2 1, 3) := by decide +kernel
theorem dJ7_fill_53178_17 : decode cJ7_fill_53178 17 = .ok (.goto (-12), 3) := by decide +kernel
theorem dJ7_fill_53178_20 : decode cJ7_fill_53178 20 = .ok (.return_, 1) := by decide +kernel
theorem dL_law_0 : decode cL_law 0 = .ok (.new 7, 3) := by decide +kernel
theorem dL_law_3 : decode cL_law 3 = .ok (.dup, 1) := by decide +kernel
theorem dL_law_4 : decode cL_law 4 = .ok (.invokespecial 9, 3) := by decide +kernel
theorem dL_law_7 : decode cL_law 7 = .ok (.astore_n 1, 1) := by decide +kernel
theorem dL_law_8 : decode cL_law 8 = .ok (.new 10, 3) := by decide +kernel
theorem dL_law_11 : decode cL_law 11 = .ok (.dup, 1) := by decide +kernel
theorem dL_law_12 : decode cL_law 12 = .ok (.invokespecial 12, 3) := by decide +kernel
theorem dL_law_15 : decode cL_law 15 = .ok (.astore_n 2, 1) := by decide +kernel
theorem dL_law_16 : decode cL_law 16 = .ok (.iconst 0, 1) := by decide +kernel
theorem dL_law_17 : decode cL_law 17 = .ok (.istore_n 3, 1) := by decide +kernel
theorem dL_law_18 : decode cL_law 18 = .ok (.iload_n 3, 1) := by decide +kernel
theorem dL_law_19 : decode cL_law 19 = .ok (.aload_n 0, 1) := by decide +kernel
theorem dL_law_20 : decode cL_law 20 = .ok (.arraylength, 1) := by decide +kernel
theorem dL_law_21 : decode cL_law 21 = .ok (.iconst 5, 1) := by decide +kernel
theorem dL_law_22 : decode cL_law 22 = .ok (.isub, 1) := by decide +kernel
theorem dL_law_23 : decode cL_law 23 = .ok (.if_icmp .gt 617, 3) := by decide +kernel
theorem dL_law_26 : decode cL_law 26 = .ok (.aload_n 0, 1) := by decide +kernel
theorem dL_law_27 : decode cL_law 27 = .ok (.iload_n 3, 1) := by decide +kernel
theorem dL_law_28 : decode cL_law 28 = .ok (.iaload, 1) := by decide +kernel
theorem dL_law_29 : decode cL_law 29 = .ok (.bipush 31, 2) := by decide +kernel
theorem dL_law_31 : decode cL_law 31 = .ok (.iand, 1) := by decide +kernel
theorem dL_law_32 : decode cL_law 32 = .ok (.tableswitch 602 0 17 #[88, 141, 184, 217, 230, 243, 266, 289, 312, 345, 378, 421, 454, 487, 520, 533, 556, 579], 88) := by decide +kernel
theorem dL_law_120 : decode cL_law 120 = .ok (.aload_n 1, 1) := by decide +kernel
theorem dL_law_121 : decode cL_law 121 = .ok (.aload_n 0, 1) := by decide +kernel
theorem dL_law_122 : decode cL_law 122 = .ok (.iload_n 3, 1) := by decide +kernel
theorem dL_law_123 : decode cL_law 123 = .ok (.iconst 1, 1) := by decide +kernel
theorem dL_law_124 : decode cL_law 124 = .ok (.iadd, 1) := by decide +kernel
theorem dL_law_125 : decode cL_law 125 = .ok (.iaload, 1) := by decide +kernel
theorem dL_law_126 : decode cL_law 126 = .ok (.aload_n 0, 1) := by decide +kernel
theorem dL_law_127 : decode cL_law 127 = .ok (.iload_n 3, 1) := by decide +kernel
theorem dL_law_128 : decode cL_law 128 = .ok (.iconst 2, 1) := by decide +kernel
theorem dL_law_129 : decode cL_law 129 = .ok (.iadd, 1) := by decide +kernel
theorem dL_law_130 : decode cL_law 130 = .ok (.iaload, 1) := by decide +kernel
theorem dL_law_131 : decode cL_law 131 = .ok (.aload_n 0, 1) := by decide +kernel
theorem dL_law_132 : decode cL_law 132 = .ok (.iload_n 3, 1) := by decide +kernel
theorem dL_law_133 : decode cL_law 133 = .ok (.iconst 3, 1) := by decide +kernel
theorem dL_law_134 : decode cL_law 134 = .ok (.iadd, 1) := by decide +kernel
theorem dL_law_135 : decode cL_law 135 = .ok (.iaload, 1) := by decide +kernel
theorem dL_law_136 : decode cL_law 136 = .ok (.aload_n 0, 1) := by decide +kernel
theorem dL_law_137 : decode cL_law 137 = .ok (.iload_n 3, 1) := by decide +kernel
theorem dL_law_138 : decode cL_law 138 = .ok (.iconst 4, 1) := by decide +kernel
theorem dL_law_139 : decode cL_law 139 = .ok (.iadd, 1) := by decide +kernel
theorem dL_law_140 : decode cL_law 140 = .ok (.iaload, 1) := by decide +kernel
theorem dL_law_141 : decode cL_law 141 = .ok (.invokevirtual 13, 3) := by decide +kernel
theorem dL_law_144 : decode cL_law 144 = .ok (.aload_n 2, 1) := by decide +kernel
theorem dL_law_145 : decode cL_law 145 = .ok (.aload_n 0, 1) := by decide +kernel
theorem dL_law_146 : decode cL_law 146 = .ok (.iload_n 3, 1) := by decide +kernel
theorem dL_law_147 : decode cL_law 147 = .ok (.iconst 1, 1) := by decide +kernel
theorem dL_law_148 : decode cL_law 148 = .ok (.iadd, 1) := by decide +kernel
theorem dL_law_149 : decode cL_law 149 = .ok (.iaload, 1) := by decide +kernel
theorem dL_law_150 : decode cL_law 150 = .ok (.aload_n 0, 1) := by decide +kernel
theorem dL_law_151 : decode cL_law 151 = .ok (.iload_n 3, 1) := by decide +kernel
theorem dL_law_152 : decode cL_law 152 = .ok (.iconst 2, 1) := by decide +kernel
theorem dL_law_153 : decode cL_law 153 = .ok (.iadd, 1) := by decide +kernel
theorem dL_law_154 : decode cL_law 154 = .ok (.iaload, 1) := by decide +kernel
theorem dL_law_155 : decode cL_law 155 = .ok (.aload_n 0, 1) := by decide +kernel
theorem dL_law_156 : decode cL_law 156 = .ok (.iload_n 3, 1) := by decide +kernel
theorem dL_law_157 : decode cL_law 157 = .ok (.iconst 3, 1) := by decide +kernel
theorem dL_law_158 : decode cL_law 158 = .ok (.iadd, 1) := by decide +kernel
theorem dL_law_159 : decode cL_law 159 = .ok (.iaload, 1) := by decide +kernel
theorem dL_law_160 : decode cL_law 160 = .ok (.aload_n 0, 1) := by decide +kernel
theorem dL_law_161 : decode cL_law 161 = .ok (.iload_n 3, 1) := by decide +kernel
theorem dL_law_162 : decode cL_law 162 = .ok (.iconst 4, 1) := by decide +kernel
theorem dL_law_163 : decode cL_law 163 = .ok (.iadd, 1) := by decide +kernel
theorem dL_law_164 : decode cL_law 164 = .ok (.iaload, 1) := by decide +kernel
theorem dL_law_165 : decode cL_law 165 = .ok (.invokevirtual 17, 3) := by decide +kernel
theorem dL_law_168 : decode cL_law 168 = .ok (.if_icmp .eq 466, 3) := by decide +kernel
theorem dL_law_171 : decode cL_law 171 = .ok (.iconst 0, 1) := by decide +kernel
theorem dL_law_172 : decode cL_law 172 = .ok (.ireturn, 1) := by decide +kernel
theorem dL_law_173 : decode cL_law 173 = .ok (.aload_n 1, 1) := by decide +kernel
theorem dL_law_174 : decode cL_law 174 = .ok (.aload_n 0, 1) := by decide +kernel
theorem dL_law_175 : decode cL_law 175 = .ok (.iload_n 3, 1) := by decide +kernel
theorem dL_law_176 : decode cL_law 176 = .ok (.iconst 1, 1) := by decide +kernel
theorem dL_law_177 : decode cL_law 177 = .ok (.iadd, 1) := by decide +kernel
theorem dL_law_178 : decode cL_law 178 = .ok (.iaload, 1) := by decide +kernel
theorem dL_law_179 : decode cL_law 179 = .ok (.aload_n 0, 1) := by decide +kernel
theorem dL_law_180 : decode cL_law 180 = .ok (.iload_n 3, 1) := by decide +kernel
theorem dL_law_181 : decode cL_law 181 = .ok (.iconst 2, 1) := by decide +kernel
theorem dL_law_182 : decode cL_law 182 = .ok (.iadd, 1) := by decide +kernel
theorem dL_law_183 : decode cL_law 183 = .ok (.iaload, 1) := by decide +kernel
theorem dL_law_184 : decode cL_law 184 = .ok (.aload_n 0, 1) := by decide +kernel
theorem dL_law_185 : decode cL_law 185 = .ok (.iload_n 3, 1) := by decide +kernel
theorem dL_law_186 : decode cL_law 186 = .ok (.iconst 3, 1) := by decide +kernel
theorem dL_law_187 : decode cL_law 187 = .ok (.iadd, 1) := by decide +kernel
theorem dL_law_188 : decode cL_law 188 = .ok (.iaload, 1) := by decide +kernel
theorem dL_law_189 : decode cL_law 189 = .ok (.invokevirtual 18, 3) := by decide +kernel
theorem dL_law_192 : decode cL_law 192 = .ok (.aload_n 2, 1) := by decide +kernel
theorem dL_law_193 : decode cL_law 193 = .ok (.aload_n 0, 1) := by decide +kernel
theorem dL_law_194 : decode cL_law 194 = .ok (.iload_n 3, 1) := by decide +kernel
theorem dL_law_195 : decode cL_law 195 = .ok (.iconst 1, 1) := by decide +kernel
theorem dL_law_196 : decode cL_law 196 = .ok (.iadd, 1) := by decide +kernel
theorem dL_law_197 : decode cL_law 197 = .ok (.iaload, 1) := by decide +kernel
theorem dL_law_198 : decode cL_law 198 = .ok (.aload_n 0, 1) := by decide +kernel
theorem dL_law_199 : decode cL_law 199 = .ok (.iload_n 3, 1) := by decide +kernel
theorem dL_law_200 : decode cL_law 200 = .ok (.iconst 2, 1) := by decide +kernel
theorem dL_law_201 : decode cL_law 201 = .ok (.iadd, 1) := by decide +kernel
theorem dL_law_202 : decode cL_law 202 = .ok (.iaload, 1) := by decide +kernel
theorem dL_law_203 : decode cL_law 203 = .ok (.aload_n 0, 1) := by decide +kernel
theorem dL_law_204 : decode cL_law 204 = .ok (.iload_n 3, 1) := by decide +kernel
theorem dL_law_205 : decode cL_law 205 = .ok (.iconst 3, 1) := by decide +kernel
theorem dL_law_206 : decode cL_law 206 = .ok (.iadd, 1) := by decide +kernel
theorem dL_law_207 : decode cL_law 207 = .ok (.iaload, 1) := by decide +kernel
theorem dL_law_208 : decode cL_law 208 = .ok (.invokevirtual 22, 3) := by decide +kernel
theorem dL_law_211 : decode cL_law 211 = .ok (.if_icmp .eq 423, 3) := by decide +kernel
theorem dL_law_214 : decode cL_law 214 = .ok (.iconst 0, 1) := by decide +kernel
theorem dL_law_215 : decode cL_law 215 = .ok (.ireturn, 1) := by decide +kernel
theorem dL_law_216 : decode cL_law 216 = .ok (.aload_n 1, 1) := by decide +kernel
theorem dL_law_217 : decode cL_law 217 = .ok (.aload_n 0, 1) := by decide +kernel
theorem dL_law_218 : decode cL_law 218 = .ok (.iload_n 3, 1) := by decide +kernel
theorem dL_law_219 : decode cL_law 219 = .ok (.iconst 1, 1) := by decide +kernel
theorem dL_law_220 : decode cL_law 220 = .ok (.iadd, 1) := by decide +kernel
theorem dL_law_221 : decode cL_law 221 = .ok (.iaload, 1) := by decide +kernel
theorem dL_law_222 : decode cL_law 222 = .ok (.aload_n 0, 1) := by decide +kernel
theorem dL_law_223 : decode cL_law 223 = .ok (.iload_n 3, 1) := by decide +kernel
theorem dL_law_224 : decode cL_law 224 = .ok (.iconst 2, 1) := by decide +kernel
theorem dL_law_225 : decode cL_law 225 = .ok (.iadd, 1) := by decide +kernel
theorem dL_law_226 : decode cL_law 226 = .ok (.iaload, 1) := by decide +kernel
theorem dL_law_227 : decode cL_law 227 = .ok (.invokevirtual 23, 3) := by decide +kernel
theorem dL_law_230 : decode cL_law 230 = .ok (.aload_n 2, 1) := by decide +kernel
theorem dL_law_231 : decode cL_law 231 = .ok (.aload_n 0, 1) := by decide +kernel
theorem dL_law_232 : decode cL_law 232 = .ok (.iload_n 3, 1) := by decide +kernel
theorem dL_law_233 : decode cL_law 233 = .ok (.iconst 1, 1) := by decide +kernel
theorem dL_law_234 : decode cL_law 234 = .ok (.iadd, 1) := by decide +kernel
theorem dL_law_235 : decode cL_law 235 = .ok (.iaload, 1) := by decide +kernel
theorem dL_law_236 : decode cL_law 236 = .ok (.aload_n 0, 1) := by decide +kernel
theorem dL_law_237 : decode cL_law 237 = .ok (.iload_n 3, 1) := by decide +kernel
theorem dL_law_238 : decode cL_law 238 = .ok (.iconst 2, 1) := by decide +kernel
theorem dL_law_239 : decode cL_law 239 = .ok (.iadd, 1) := by decide +kernel
theorem dL_law_240 : decode cL_law 240 = .ok (.iaload, 1) := by decide +kernel
theorem dL_law_241 : decode cL_law 241 = .ok (.invokevirtual 27, 3) := by decide +kernel
theorem dL_law_244 : decode cL_law 244 = .ok (.if_icmp .eq 390, 3) := by decide +kernel
theorem dL_law_247 : decode cL_law 247 = .ok (.iconst 0, 1) := by decide +kernel
theorem dL_law_248 : decode cL_law 248 = .ok (.ireturn, 1) := by decide +kernel
theorem dL_law_249 : decode cL_law 249 = .ok (.aload_n 1, 1) := by decide +kernel
theorem dL_law_250 : decode cL_law 250 = .ok (.invokevirtual 28, 3) := by decide +kernel
theorem dL_law_253 : decode cL_law 253 = .ok (.aload_n 2, 1) := by decide +kernel
theorem dL_law_254 : decode cL_law 254 = .ok (.invokevirtual 32, 3) := by decide +kernel
theorem dL_law_257 : decode cL_law 257 = .ok (.if_icmp .eq 377, 3) := by decide +kernel
theorem dL_law_260 : decode cL_law 260 = .ok (.iconst 0, 1) := by decide +kernel
theorem dL_law_261 : decode cL_law 261 = .ok (.ireturn, 1) := by decide +kernel
theorem dL_law_262 : decode cL_law 262 = .ok (.aload_n 1, 1) := by decide +kernel
theorem dL_law_263 : decode cL_law 263 = .ok (.invokevirtual 33, 3) := by decide +kernel
theorem dL_law_266 : decode cL_law 266 = .ok (.aload_n 2, 1) := by decide +kernel
theorem dL_law_267 : decode cL_law 267 = .ok (.invokevirtual 36, 3) := by decide +kernel
theorem dL_law_270 : decode cL_law 270 = .ok (.if_icmp .eq 364, 3) := by decide +kernel
theorem dL_law_273 : decode cL_law 273 = .ok (.iconst 0, 1) := by decide +kernel
theorem dL_law_274 : decode cL_law 274 = .ok (.ireturn, 1) := by decide +kernel
theorem dL_law_275 : decode cL_law 275 = .ok (.aload_n 1, 1) := by decide +kernel
theorem dL_law_276 : decode cL_law 276 = .ok (.aload_n 0, 1) := by decide +kernel
theorem dL_law_277 : decode cL_law 277 = .ok (.iload_n 3, 1) := by decide +kernel
theorem dL_law_278 : decode cL_law 278 = .ok (.iconst 1, 1) := by decide +kernel
theorem dL_law_279 : decode cL_law 279 = .ok (.iadd, 1) := by decide +kernel
theorem dL_law_280 : decode cL_law 280 = .ok (.iaload, 1) := by decide +kernel
theorem dL_law_281 : decode cL_law 281 = .ok (.invokevirtual 37, 3) := by decide +kernel
theorem dL_law_284 : decode cL_law 284 = .ok (.aload_n 2, 1) := by decide +kernel
theorem dL_law_285 : decode cL_law 285 = .ok (.aload_n 0, 1) := by decide +kernel
theorem dL_law_286 : decode cL_law 286 = .ok (.iload_n 3, 1) := by decide +kernel
theorem dL_law_287 : decode cL_law 287 = .ok (.iconst 1, 1) := by decide +kernel
theorem dL_law_288 : decode cL_law 288 = .ok (.iadd, 1) := by decide +kernel
theorem dL_law_289 : decode cL_law 289 = .ok (.iaload, 1) := by decide +kernel
theorem dL_law_290 : decode cL_law 290 = .ok (.invokevirtual 41, 3) := by decide +kernel
theorem dL_law_293 : decode cL_law 293 = .ok (.if_icmp .eq 341, 3) := by decide +kernel
theorem dL_law_296 : decode cL_law 296 = .ok (.iconst 0, 1) := by decide +kernel
theorem dL_law_297 : decode cL_law 297 = .ok (.ireturn, 1) := by decide +kernel
theorem dL_law_298 : decode cL_law 298 = .ok (.aload_n 1, 1) := by decide +kernel
theorem dL_law_299 : decode cL_law 299 = .ok (.aload_n 0, 1) := by decide +kernel
theorem dL_law_300 : decode cL_law 300 = .ok (.iload_n 3, 1) := by decide +kernel
theorem dL_law_301 : decode cL_law 301 = .ok (.iconst 1, 1) := by decide +kernel
theorem dL_law_302 : decode cL_law 302 = .ok (.iadd, 1) := by decide +kernel
theorem dL_law_303 : decode cL_law 303 = .ok (.iaload, 1) := by decide +kernel
theorem dL_law_304 : decode cL_law 304 = .ok (.invokevirtual 42, 3) := by decide +kernel
theorem dL_law_307 : decode cL_law 307 = .ok (.aload_n 2, 1) := by decide +kernel
theorem dL_law_308 : decode cL_law 308 = .ok (.aload_n 0, 1) := by decide +kernel
theorem dL_law_309 : decode cL_law 309 = .ok (.iload_n 3, 1) := by decide +kernel
theorem dL_law_310 : decode cL_law 310 = .ok (.iconst 1, 1) := by decide +kernel
theorem dL_law_311 : decode cL_law 311 = .ok (.iadd, 1) := by decide +kernel
theorem dL_law_312 : decode cL_law 312 = .ok (.iaload, 1) := by decide +kernel
theorem dL_law_313 : decode cL_law 313 = .ok (.invokevirtual 46, 3) := by decide +kernel
theorem dL_law_316 : decode cL_law 316 = .ok (.if_icmp .eq 318, 3) := by decide +kernel
theorem dL_law_319 : decode cL_law 319 = .ok (.iconst 0, 1) := by decide +kernel
theorem dL_law_320 : decode cL_law 320 = .ok (.ireturn, 1) := by decide +kernel
theorem dL_law_321 : decode cL_law 321 = .ok (.aload_n 1, 1) := by decide +kernel
theorem dL_law_322 : decode cL_law 322 = .ok (.aload_n 0, 1) := by decide +kernel
theorem dL_law_323 : decode cL_law 323 = .ok (.iload_n 3, 1) := by decide +kernel
theorem dL_law_324 : decode cL_law 324 = .ok (.iconst 1, 1) := by decide +kernel
theorem dL_law_325 : decode cL_law 325 = .ok (.iadd, 1) := by decide +kernel
theorem dL_law_326 : decode cL_law 326 = .ok (.iaload, 1) := by decide +kernel
theorem dL_law_327 : decode cL_law 327 = .ok (.invokevirtual 47, 3) := by decide +kernel
theorem dL_law_330 : decode cL_law 330 = .ok (.aload_n 2, 1) := by decide +kernel
theorem dL_law_331 : decode cL_law 331 = .ok (.aload_n 0, 1) := by decide +kernel
theorem dL_law_332 : decode cL_law 332 = .ok (.iload_n 3, 1) := by decide +kernel
theorem dL_law_333 : decode cL_law 333 = .ok (.iconst 1, 1) := by decide +kernel
theorem dL_law_334 : decode cL_law 334 = .ok (.iadd, 1) := by decide +kernel
theorem dL_law_335 : decode cL_law 335 = .ok (.iaload, 1) := by decide +kernel
theorem dL_law_336 : decode cL_law 336 = .ok (.invokevirtual 50, 3) := by decide +kernel
theorem dL_law_339 : decode cL_law 339 = .ok (.if_icmp .eq 295, 3) := by decide +kernel
theorem dL_law_342 : decode cL_law 342 = .ok (.iconst 0, 1) := by decide +kernel
theorem dL_law_343 : decode cL_law 343 = .ok (.ireturn, 1) := by decide +kernel
theorem dL_law_344 : decode cL_law 344 = .ok (.aload_n 1, 1) := by decide +kernel
theorem dL_law_345 : decode cL_law 345 = .ok (.aload_n 0, 1) := by decide +kernel
theorem dL_law_346 : decode cL_law 346 = .ok (.iload_n 3, 1) := by decide +kernel
theorem dL_law_347 : decode cL_law 347 = .ok (.iconst 1, 1) := by decide +kernel
theorem dL_law_348 : decode cL_law 348 = .ok (.iadd, 1) := by decide +kernel
theorem dL_law_349 : decode cL_law 349 = .ok (.iaload, 1) := by decide +kernel
theorem dL_law_350 : decode cL_law 350 = .ok (.aload_n 0, 1) := by decide +kernel
theorem dL_law_351 : decode cL_law 351 = .ok (.iload_n 3, 1) := by decide +kernel
theorem dL_law_352 : decode cL_law 352 = .ok (.iconst 2, 1) := by decide +kernel
theorem dL_law_353 : decode cL_law 353 = .ok (.iadd, 1) := by decide +kernel
theorem dL_law_354 : decode cL_law 354 = .ok (.iaload, 1) := by decide +kernel
theorem dL_law_355 : decode cL_law 355 = .ok (.invokevirtual 51, 3) := by decide +kernel
theorem dL_law_358 : decode cL_law 358 = .ok (.aload_n 2, 1) := by decide +kernel
theorem dL_law_359 : decode cL_law 359 = .ok (.aload_n 0, 1) := by decide +kernel
theorem dL_law_360 : decode cL_law 360 = .ok (.iload_n 3, 1) := by decide +kernel
theorem dL_law_361 : decode cL_law 361 = .ok (.iconst 1, 1) := by decide +kernel
theorem dL_law_362 : decode cL_law 362 = .ok (.iadd, 1) := by decide +kernel
theorem dL_law_363 : decode cL_law 363 = .ok (.iaload, 1) := by decide +kernel
theorem dL_law_364 : decode cL_law 364 = .ok (.aload_n 0, 1) := by decide +kernel
theorem dL_law_365 : decode cL_law 365 = .ok (.iload_n 3, 1) := by decide +kernel
theorem dL_law_366 : decode cL_law 366 = .ok (.iconst 2, 1) := by decide +kernel
theorem dL_law_367 : decode cL_law 367 = .ok (.iadd, 1) := by decide +kernel
theorem dL_law_368 : decode cL_law 368 = .ok (.iaload, 1) := by decide +kernel
theorem dL_law_369 : decode cL_law 369 = .ok (.invokevirtual 54, 3) := by decide +kernel
theorem dL_law_372 : decode cL_law 372 = .ok (.if_icmp .eq 262, 3) := by decide +kernel
theorem dL_law_375 : decode cL_law 375 = .ok (.iconst 0, 1) := by decide +kernel
theorem dL_law_376 : decode cL_law 376 = .ok (.ireturn, 1) := by decide +kernel
theorem dL_law_377 : decode cL_law 377 = .ok (.aload_n 1, 1) := by decide +kernel
theorem dL_law_378 : decode cL_law 378 = .ok (.aload_n 0, 1) := by decide +kernel
theorem dL_law_379 : decode cL_law 379 = .ok (.iload_n 3, 1) := by decide +kernel
theorem dL_law_380 : decode cL_law 380 = .ok (.iconst 1, 1) := by decide +kernel
theorem dL_law_381 : decode cL_law 381 = .ok (.iadd, 1) := by decide +kernel
theorem dL_law_382 : decode cL_law 382 = .ok (.iaload, 1) := by decide +kernel
theorem dL_law_383 : decode cL_law 383 = .ok (.aload_n 0, 1) := by decide +kernel
theorem dL_law_384 : decode cL_law 384 = .ok (.iload_n 3, 1) := by decide +kernel
theorem dL_law_385 : decode cL_law 385 = .ok (.iconst 2, 1) := by decide +kernel
theorem dL_law_386 : decode cL_law 386 = .ok (.iadd, 1) := by decide +kernel
theorem dL_law_387 : decode cL_law 387 = .ok (.iaload, 1) := by decide +kernel
theorem dL_law_388 : decode cL_law 388 = .ok (.invokevirtual 55, 3) := by decide +kernel
theorem dL_law_391 : decode cL_law 391 = .ok (.aload_n 2, 1) := by decide +kernel
theorem dL_law_392 : decode cL_law 392 = .ok (.aload_n 0, 1) := by decide +kernel
theorem dL_law_393 : decode cL_law 393 = .ok (.iload_n 3, 1) := by decide +kernel
theorem dL_law_394 : decode cL_law 394 = .ok (.iconst 1, 1) := by decide +kernel
theorem dL_law_395 : decode cL_law 395 = .ok (.iadd, 1) := by decide +kernel
theorem dL_law_396 : decode cL_law 396 = .ok (.iaload, 1) := by decide +kernel
theorem dL_law_397 : decode cL_law 397 = .ok (.aload_n 0, 1) := by decide +kernel
theorem dL_law_398 : decode cL_law 398 = .ok (.iload_n 3, 1) := by decide +kernel
theorem dL_law_399 : decode cL_law 399 = .ok (.iconst 2, 1) := by decide +kernel
theorem dL_law_400 : decode cL_law 400 = .ok (.iadd, 1) := by decide +kernel
theorem dL_law_401 : decode cL_law 401 = .ok (.iaload, 1) := by decide +kernel
theorem dL_law_402 : decode cL_law 402 = .ok (.invokevirtual 59, 3) := by decide +kernel
theorem dL_law_405 : decode cL_law 405 = .ok (.if_icmp .eq 229, 3) := by decide +kernel
theorem dL_law_408 : decode cL_law 408 = .ok (.iconst 0, 1) := by decide +kernel
theorem dL_law_409 : decode cL_law 409 = .ok (.ireturn, 1) := by decide +kernel
theorem dL_law_410 : decode cL_law 410 = .ok (.aload_n 1, 1) := by decide +kernel
theorem dL_law_411 : decode cL_law 411 = .ok (.aload_n 0, 1) := by decide +kernel
theorem dL_law_412 : decode cL_law 412 = .ok (.iload_n 3, 1) := by decide +kernel
theorem dL_law_413 : decode cL_law 413 = .ok (.iconst 1, 1) := by decide +kernel
theorem dL_law_414 : decode cL_law 414 = .ok (.iadd, 1) := by decide +kernel
theorem dL_law_415 : decode cL_law 415 = .ok (.iaload, 1) := by decide +kernel
theorem dL_law_416 : decode cL_law 416 = .ok (.aload_n 0, 1) := by decide +kernel
theorem dL_law_417 : decode cL_law 417 = .ok (.iload_n 3, 1) := by decide +kernel
theorem dL_law_418 : decode cL_law 418 = .ok (.iconst 2, 1) := by decide +kernel
theorem dL_law_419 : decode cL_law 419 = .ok (.iadd, 1) := by decide +kernel
theorem dL_law_420 : decode cL_law 420 = .ok (.iaload, 1) := by decide +kernel
theorem dL_law_421 : decode cL_law 421 = .ok (.aload_n 0, 1) := by decide +kernel
theorem dL_law_422 : decode cL_law 422 = .ok (.iload_n 3, 1) := by decide +kernel
theorem dL_law_423 : decode cL_law 423 = .ok (.iconst 3, 1) := by decide +kernel
theorem dL_law_424 : decode cL_law 424 = .ok (.iadd, 1) := by decide +kernel
theorem dL_law_425 : decode cL_law 425 = .ok (.iaload, 1) := by decide +kernel
theorem dL_law_426 : decode cL_law 426 = .ok (.invokevirtual 60, 3) := by decide +kernel
theorem dL_law_429 : decode cL_law 429 = .ok (.aload_n 2, 1) := by decide +kernel
theorem dL_law_430 : decode cL_law 430 = .ok (.aload_n 0, 1) := by decide +kernel
theorem dL_law_431 : decode cL_law 431 = .ok (.iload_n 3, 1) := by decide +kernel
theorem dL_law_432 : decode cL_law 432 = .ok (.iconst 1, 1) := by decide +kernel
theorem dL_law_433 : decode cL_law 433 = .ok (.iadd, 1) := by decide +kernel
theorem dL_law_434 : decode cL_law 434 = .ok (.iaload, 1) := by decide +kernel
theorem dL_law_435 : decode cL_law 435 = .ok (.aload_n 0, 1) := by decide +kernel
theorem dL_law_436 : decode cL_law 436 = .ok (.iload_n 3, 1) := by decide +kernel
theorem dL_law_437 : decode cL_law 437 = .ok (.iconst 2, 1) := by decide +kernel
theorem dL_law_438 : decode cL_law 438 = .ok (.iadd, 1) := by decide +kernel
theorem dL_law_439 : decode cL_law 439 = .ok (.iaload, 1) := by decide +kernel
theorem dL_law_440 : decode cL_law 440 = .ok (.aload_n 0, 1) := by decide +kernel
theorem dL_law_441 : decode cL_law 441 = .ok (.iload_n 3, 1) := by decide +kernel
theorem dL_law_442 : decode cL_law 442 = .ok (.iconst 3, 1) := by decide +kernel
theorem dL_law_443 : decode cL_law 443 = .ok (.iadd, 1) := by decide +kernel
theorem dL_law_444 : decode cL_law 444 = .ok (.iaload, 1) := by decide +kernel
theorem dL_law_445 : decode cL_law 445 = .ok (.invokevirtual 63, 3) := by decide +kernel
theorem dL_law_448 : decode cL_law 448 = .ok (.if_icmp .eq 186, 3) := by decide +kernel
theorem dL_law_451 : decode cL_law 451 = .ok (.iconst 0, 1) := by decide +kernel
theorem dL_law_452 : decode cL_law 452 = .ok (.ireturn, 1) := by decide +kernel
theorem dL_law_453 : decode cL_law 453 = .ok (.aload_n 1, 1) := by decide +kernel
theorem dL_law_454 : decode cL_law 454 = .ok (.aload_n 0, 1) := by decide +kernel
theorem dL_law_455 : decode cL_law 455 = .ok (.iload_n 3, 1) := by decide +kernel
theorem dL_law_456 : decode cL_law 456 = .ok (.iconst 1, 1) := by decide +kernel
theorem dL_law_457 : decode cL_law 457 = .ok (.iadd, 1) := by decide +kernel
theorem dL_law_458 : decode cL_law 458 = .ok (.iaload, 1) := by decide +kernel
theorem dL_law_459 : decode cL_law 459 = .ok (.aload_n 0, 1) := by decide +kernel
theorem dL_law_460 : decode cL_law 460 = .ok (.iload_n 3, 1) := by decide +kernel
theorem dL_law_461 : decode cL_law 461 = .ok (.iconst 2, 1) := by decide +kernel
theorem dL_law_462 : decode cL_law 462 = .ok (.iadd, 1) := by decide +kernel
theorem dL_law_463 : decode cL_law 463 = .ok (.iaload, 1) := by decide +kernel
theorem dL_law_464 : decode cL_law 464 = .ok (.invokevirtual 64, 3) := by decide +kernel
theorem dL_law_467 : decode cL_law 467 = .ok (.aload_n 2, 1) := by decide +kernel
theorem dL_law_468 : decode cL_law 468 = .ok (.aload_n 0, 1) := by decide +kernel
theorem dL_law_469 : decode cL_law 469 = .ok (.iload_n 3, 1) := by decide +kernel
theorem dL_law_470 : decode cL_law 470 = .ok (.iconst 1, 1) := by decide +kernel
theorem dL_law_471 : decode cL_law 471 = .ok (.iadd, 1) := by decide +kernel
theorem dL_law_472 : decode cL_law 472 = .ok (.iaload, 1) := by decide +kernel
theorem dL_law_473 : decode cL_law 473 = .ok (.aload_n 0, 1) := by decide +kernel
theorem dL_law_474 : decode cL_law 474 = .ok (.iload_n 3, 1) := by decide +kernel
theorem dL_law_475 : decode cL_law 475 = .ok (.iconst 2, 1) := by decide +kernel
theorem dL_law_476 : decode cL_law 476 = .ok (.iadd, 1) := by decide +kernel
theorem dL_law_477 : decode cL_law 477 = .ok (.iaload, 1) := by decide +kernel
theorem dL_law_478 : decode cL_law 478 = .ok (.invokevirtual 67, 3) := by decide +kernel
theorem dL_law_481 : decode cL_law 481 = .ok (.if_icmp .eq 153, 3) := by decide +kernel
theorem dL_law_484 : decode cL_law 484 = .ok (.iconst 0, 1) := by decide +kernel
theorem dL_law_485 : decode cL_law 485 = .ok (.ireturn, 1) := by decide +kernel
theorem dL_law_486 : decode cL_law 486 = .ok (.aload_n 1, 1) := by decide +kernel
theorem dL_law_487 : decode cL_law 487 = .ok (.aload_n 0, 1) := by decide +kernel
theorem dL_law_488 : decode cL_law 488 = .ok (.iload_n 3, 1) := by decide +kernel
theorem dL_law_489 : decode cL_law 489 = .ok (.iconst 1, 1) := by decide +kernel
theorem dL_law_490 : decode cL_law 490 = .ok (.iadd, 1) := by decide +kernel
theorem dL_law_491 : decode cL_law 491 = .ok (.iaload, 1) := by decide +kernel
theorem dL_law_492 : decode cL_law 492 = .ok (.aload_n 0, 1) := by decide +kernel
theorem dL_law_493 : decode cL_law 493 = .ok (.iload_n 3, 1) := by decide +kernel
theorem dL_law_494 : decode cL_law 494 = .ok (.iconst 2, 1) := by decide +kernel
theorem dL_law_495 : decode cL_law 495 = .ok (.iadd, 1) := by decide +kernel
theorem dL_law_496 : decode cL_law 496 = .ok (.iaload, 1) := by decide +kernel
theorem dL_law_497 : decode cL_law 497 = .ok (.invokevirtual 68, 3) := by decide +kernel
theorem dL_law_500 : decode cL_law 500 = .ok (.aload_n 2, 1) := by decide +kernel
theorem dL_law_501 : decode cL_law 501 = .ok (.aload_n 0, 1) := by decide +kernel
theorem dL_law_502 : decode cL_law 502 = .ok (.iload_n 3, 1) := by decide +kernel
theorem dL_law_503 : decode cL_law 503 = .ok (.iconst 1, 1) := by decide +kernel
theorem dL_law_504 : decode cL_law 504 = .ok (.iadd, 1) := by decide +kernel
theorem dL_law_505 : decode cL_law 505 = .ok (.iaload, 1) := by decide +kernel
theorem dL_law_506 : decode cL_law 506 = .ok (.aload_n 0, 1) := by decide +kernel
theorem dL_law_507 : decode cL_law 507 = .ok (.iload_n 3, 1) := by decide +kernel
theorem dL_law_508 : decode cL_law 508 = .ok (.iconst 2, 1) := by decide +kernel
theorem dL_law_509 : decode cL_law 509 = .ok (.iadd, 1) := by decide +kernel
theorem dL_law_510 : decode cL_law 510 = .ok (.iaload, 1) := by decide +kernel
theorem dL_law_511 : decode cL_law 511 = .ok (.invokevirtual 71, 3) := by decide +kernel
theorem dL_law_514 : decode cL_law 514 = .ok (.if_icmp .eq 120, 3) := by decide +kernel
theorem dL_law_517 : decode cL_law 517 = .ok (.iconst 0, 1) := by decide +kernel
theorem dL_law_518 : decode cL_law 518 = .ok (.ireturn, 1) := by decide +kernel
theorem dL_law_519 : decode cL_law 519 = .ok (.aload_n 1, 1) := by decide +kernel
theorem dL_law_520 : decode cL_law 520 = .ok (.aload_n 0, 1) := by decide +kernel
theorem dL_law_521 : decode cL_law 521 = .ok (.iload_n 3, 1) := by decide +kernel
theorem dL_law_522 : decode cL_law 522 = .ok (.iconst 1, 1) := by decide +kernel
theorem dL_law_523 : decode cL_law 523 = .ok (.iadd, 1) := by decide +kernel
theorem dL_law_524 : decode cL_law 524 = .ok (.iaload, 1) := by decide +kernel
theorem dL_law_525 : decode cL_law 525 = .ok (.aload_n 0, 1) := by decide +kernel
theorem dL_law_526 : decode cL_law 526 = .ok (.iload_n 3, 1) := by decide +kernel
theorem dL_law_527 : decode cL_law 527 = .ok (.iconst 2, 1) := by decide +kernel
theorem dL_law_528 : decode cL_law 528 = .ok (.iadd, 1) := by decide +kernel
theorem dL_law_529 : decode cL_law 529 = .ok (.iaload, 1) := by decide +kernel
theorem dL_law_530 : decode cL_law 530 = .ok (.invokevirtual 72, 3) := by decide +kernel
theorem dL_law_533 : decode cL_law 533 = .ok (.aload_n 2, 1) := by decide +kernel
theorem dL_law_534 : decode cL_law 534 = .ok (.aload_n 0, 1) := by decide +kernel
theorem dL_law_535 : decode cL_law 535 = .ok (.iload_n 3, 1) := by decide +kernel
theorem dL_law_536 : decode cL_law 536 = .ok (.iconst 1, 1) := by decide +kernel
theorem dL_law_537 : decode cL_law 537 = .ok (.iadd, 1) := by decide +kernel
theorem dL_law_538 : decode cL_law 538 = .ok (.iaload, 1) := by decide +kernel
theorem dL_law_539 : decode cL_law 539 = .ok (.aload_n 0, 1) := by decide +kernel
theorem dL_law_540 : decode cL_law 540 = .ok (.iload_n 3, 1) := by decide +kernel
theorem dL_law_541 : decode cL_law 541 = .ok (.iconst 2, 1) := by decide +kernel
theorem dL_law_542 : decode cL_law 542 = .ok (.iadd, 1) := by decide +kernel
theorem dL_law_543 : decode cL_law 543 = .ok (.iaload, 1) := by decide +kernel
theorem dL_law_544 : decode cL_law 544 = .ok (.invokevirtual 75, 3) := by decide +kernel
theorem dL_law_547 : decode cL_law 547 = .ok (.if_icmp .eq 87, 3) := by decide +kernel
theorem dL_law_550 : decode cL_law 550 = .ok (.iconst 0, 1) := by decide +kernel
theorem dL_law_551 : decode cL_law 551 = .ok (.ireturn, 1) := by decide +kernel
theorem dL_law_552 : decode cL_law 552 = .ok (.aload_n 1, 1) := by decide +kernel
theorem dL_law_553 : decode cL_law 553 = .ok (.invokevirtual 76, 3) := by decide +kernel
theorem dL_law_556 : decode cL_law 556 = .ok (.aload_n 2, 1) := by decide +kernel
theorem dL_law_557 : decode cL_law 557 = .ok (.invokevirtual 80, 3) := by decide +kernel
theorem dL_law_560 : decode cL_law 560 = .ok (.if_icmp .eq 74, 3) := by decide +kernel
theorem dL_law_563 : decode cL_law 563 = .ok (.iconst 0, 1) := by decide +kernel
theorem dL_law_564 : decode cL_law 564 = .ok (.ireturn, 1) := by decide +kernel
theorem dL_law_565 : decode cL_law 565 = .ok (.aload_n 1, 1) := by decide +kernel
theorem dL_law_566 : decode cL_law 566 = .ok (.aload_n 0, 1) := by decide +kernel
theorem dL_law_567 : decode cL_law 567 = .ok (.iload_n 3, 1) := by decide +kernel
theorem dL_law_568 : decode cL_law 568 = .ok (.iconst 1, 1) := by decide +kernel
theorem dL_law_569 : decode cL_law 569 = .ok (.iadd, 1) := by decide +kernel
theorem dL_law_570 : decode cL_law 570 = .ok (.iaload, 1) := by decide +kernel
theorem dL_law_571 : decode cL_law 571 = .ok (.invokevirtual 81, 3) := by decide +kernel
theorem dL_law_574 : decode cL_law 574 = .ok (.aload_n 2, 1) := by decide +kernel
theorem dL_law_575 : decode cL_law 575 = .ok (.aload_n 0, 1) := by decide +kernel
theorem dL_law_576 : decode cL_law 576 = .ok (.iload_n 3, 1) := by decide +kernel
theorem dL_law_577 : decode cL_law 577 = .ok (.iconst 1, 1) := by decide +kernel
theorem dL_law_578 : decode cL_law 578 = .ok (.iadd, 1) := by decide +kernel
theorem dL_law_579 : decode cL_law 579 = .ok (.iaload, 1) := by decide +kernel
theorem dL_law_580 : decode cL_law 580 = .ok (.invokevirtual 84, 3) := by decide +kernel
theorem dL_law_583 : decode cL_law 583 = .ok (.if_icmp .eq 51, 3) := by decide +kernel
theorem dL_law_586 : decode cL_law 586 = .ok (.iconst 0, 1) := by decide +kernel
theorem dL_law_587 : decode cL_law 587 = .ok (.ireturn, 1) := by decide +kernel
theorem dL_law_588 : decode cL_law 588 = .ok (.aload_n 1, 1) := by decide +kernel
theorem dL_law_589 : decode cL_law 589 = .ok (.aload_n 0, 1) := by decide +kernel
theorem dL_law_590 : decode cL_law 590 = .ok (.iload_n 3, 1) := by decide +kernel
theorem dL_law_591 : decode cL_law 591 = .ok (.iconst 1, 1) := by decide +kernel
theorem dL_law_592 : decode cL_law 592 = .ok (.iadd, 1) := by decide +kernel
theorem dL_law_593 : decode cL_law 593 = .ok (.iaload, 1) := by decide +kernel
theorem dL_law_594 : decode cL_law 594 = .ok (.invokevirtual 85, 3) := by decide +kernel
theorem dL_law_597 : decode cL_law 597 = .ok (.aload_n 2, 1) := by decide +kernel
theorem dL_law_598 : decode cL_law 598 = .ok (.aload_n 0, 1) := by decide +kernel
theorem dL_law_599 : decode cL_law 599 = .ok (.iload_n 3, 1) := by decide +kernel
theorem dL_law_600 : decode cL_law 600 = .ok (.iconst 1, 1) := by decide +kernel
theorem dL_law_601 : decode cL_law 601 = .ok (.iadd, 1) := by decide +kernel
theorem dL_law_602 : decode cL_law 602 = .ok (.iaload, 1) := by decide +kernel
theorem dL_law_603 : decode cL_law 603 = .ok (.invokevirtual 88, 3) := by decide +kernel
theorem dL_law_606 : decode cL_law 606 = .ok (.if_icmp .eq 28, 3) := by decide +kernel
theorem dL_law_609 : decode cL_law 609 = .ok (.iconst 0, 1) := by decide +kernel
theorem dL_law_610 : decode cL_law 610 = .ok (.ireturn, 1) := by decide +kernel
theorem dL_law_611 : decode cL_law 611 = .ok (.aload_n 1, 1) := by decide +kernel
theorem dL_law_612 : decode cL_law 612 = .ok (.aload_n 0, 1) := by decide +kernel
theorem dL_law_613 : decode cL_law 613 = .ok (.iload_n 3, 1) := by decide +kernel
theorem dL_law_614 : decode cL_law 614 = .ok (.iconst 1, 1) := by decide +kernel
theorem dL_law_615 : decode cL_law 615 = .ok (.iadd, 1) := by decide +kernel
theorem dL_law_616 : decode cL_law 616 = .ok (.iaload, 1) := by decide +kernel
theorem dL_law_617 : decode cL_law 617 = .ok (.invokevirtual 89, 3) := by decide +kernel
theorem dL_law_620 : decode cL_law 620 = .ok (.aload_n 2, 1) := by decide +kernel
theorem dL_law_621 : decode cL_law 621 = .ok (.aload_n 0, 1) := by decide +kernel
theorem dL_law_622 : decode cL_law 622 = .ok (.iload_n 3, 1) := by decide +kernel
theorem dL_law_623 : decode cL_law 623 = .ok (.iconst 1, 1) := by decide +kernel
theorem dL_law_624 : decode cL_law 624 = .ok (.iadd, 1) := by decide +kernel
theorem dL_law_625 : decode cL_law 625 = .ok (.iaload, 1) := by decide +kernel
theorem dL_law_626 : decode cL_law 626 = .ok (.invokevirtual 92, 3) := by decide +kernel
theorem dL_law_629 : decode cL_law 629 = .ok (.if_icmp .eq 5, 3) := by decide +kernel
theorem dL_law_632 : decode cL_law 632 = .ok (.iconst 0, 1) := by decide +kernel
theorem dL_law_633 : decode cL_law 633 = .ok (.ireturn, 1) := by decide +kernel
theorem dL_law_634 : decode cL_law 634 = .ok (.iinc 3 5, 3) := by decide +kernel
theorem dL_law_637 : decode cL_law 637 = .ok (.goto (-619), 3) := by decide +kernel
theorem dL_law_640 : decode cL_law 640 = .ok (.iconst 1, 1) := by decide +kernel
theorem dL_law_641 : decode cL_law 641 = .ok (.ireturn, 1) := by decide +kernel
