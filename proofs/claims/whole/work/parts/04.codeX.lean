theorem dX4_init_0 : decode cX4_init 0 = .ok (.aload_n 0, 1) := by decide +kernel
theorem dX4_init_1 : decode cX4_init 1 = .ok (.invokespecial 3, 3) := by decide +kernel
theorem dX4_init_4 : decode cX4_init 4 = .ok (.new 9, 3) := by decide +kernel
theorem dX4_init_7 : decode cX4_init 7 = .ok (.dup, 1) := by decide +kernel
theorem dX4_init_8 : decode cX4_init 8 = .ok (.invokespecial 11, 3) := by decide +kernel
theorem dX4_init_11 : decode cX4_init 11 = .ok (.astore_n 1, 1) := by decide +kernel
theorem dX4_init_12 : decode cX4_init 12 = .ok (.new 9, 3) := by decide +kernel
theorem dX4_init_15 : decode cX4_init 15 = .ok (.dup, 1) := by decide +kernel
theorem dX4_init_16 : decode cX4_init 16 = .ok (.invokespecial 11, 3) := by decide +kernel
theorem dX4_init_19 : decode cX4_init 19 = .ok (.astore_n 2, 1) := by decide +kernel
theorem dX4_init_20 : decode cX4_init 20 = .ok (.aload_n 0, 1) := by decide +kernel
theorem dX4_init_21 : decode cX4_init 21 = .ok (.iconst 2, 1) := by decide +kernel
theorem dX4_init_22 : decode cX4_init 22 = .ok (.anewarray 9, 3) := by decide +kernel
theorem dX4_init_25 : decode cX4_init 25 = .ok (.dup, 1) := by decide +kernel
theorem dX4_init_26 : decode cX4_init 26 = .ok (.iconst 0, 1) := by decide +kernel
theorem dX4_init_27 : decode cX4_init 27 = .ok (.aload_n 1, 1) := by decide +kernel
theorem dX4_init_28 : decode cX4_init 28 = .ok (.aastore, 1) := by decide +kernel
theorem dX4_init_29 : decode cX4_init 29 = .ok (.dup, 1) := by decide +kernel
theorem dX4_init_30 : decode cX4_init 30 = .ok (.iconst 1, 1) := by decide +kernel
theorem dX4_init_31 : decode cX4_init 31 = .ok (.aload_n 2, 1) := by decide +kernel
theorem dX4_init_32 : decode cX4_init 32 = .ok (.aastore, 1) := by decide +kernel
theorem dX4_init_33 : decode cX4_init 33 = .ok (.putfield 12, 3) := by decide +kernel
theorem dX4_init_36 : decode cX4_init 36 = .ok (.aload_n 0, 1) := by decide +kernel
theorem dX4_init_37 : decode cX4_init 37 = .ok (.iconst 2, 1) := by decide +kernel
theorem dX4_init_38 : decode cX4_init 38 = .ok (.anewarray 16, 3) := by decide +kernel
theorem dX4_init_41 : decode cX4_init 41 = .ok (.dup, 1) := by decide +kernel
theorem dX4_init_42 : decode cX4_init 42 = .ok (.iconst 0, 1) := by decide +kernel
theorem dX4_init_43 : decode cX4_init 43 = .ok (.new 16, 3) := by decide +kernel
theorem dX4_init_46 : decode cX4_init 46 = .ok (.dup, 1) := by decide +kernel
theorem dX4_init_47 : decode cX4_init 47 = .ok (.aload_n 1, 1) := by decide +kernel
theorem dX4_init_48 : decode cX4_init 48 = .ok (.invokespecial 18, 3) := by decide +kernel
theorem dX4_init_51 : decode cX4_init 51 = .ok (.aastore, 1) := by decide +kernel
theorem dX4_init_52 : decode cX4_init 52 = .ok (.dup, 1) := by decide +kernel
theorem dX4_init_53 : decode cX4_init 53 = .ok (.iconst 1, 1) := by decide +kernel
theorem dX4_init_54 : decode cX4_init 54 = .ok (.new 16, 3) := by decide +kernel
theorem dX4_init_57 : decode cX4_init 57 = .ok (.dup, 1) := by decide +kernel
theorem dX4_init_58 : decode cX4_init 58 = .ok (.aload_n 2, 1) := by decide +kernel
theorem dX4_init_59 : decode cX4_init 59 = .ok (.invokespecial 18, 3) := by decide +kernel
theorem dX4_init_62 : decode cX4_init 62 = .ok (.aastore, 1) := by decide +kernel
theorem dX4_init_63 : decode cX4_init 63 = .ok (.putfield 21, 3) := by decide +kernel
theorem dX4_init_66 : decode cX4_init 66 = .ok (.aload_n 0, 1) := by decide +kernel
theorem dX4_init_67 : decode cX4_init 67 = .ok (.iconst 2, 1) := by decide +kernel
theorem dX4_init_68 : decode cX4_init 68 = .ok (.newarray .int, 2) := by decide +kernel
theorem dX4_init_70 : decode cX4_init 70 = .ok (.putfield 25, 3) := by decide +kernel
theorem dX4_init_73 : decode cX4_init 73 = .ok (.aload_n 0, 1) := by decide +kernel
theorem dX4_init_74 : decode cX4_init 74 = .ok (.new 29, 3) := by decide +kernel
theorem dX4_init_77 : decode cX4_init 77 = .ok (.dup, 1) := by decide +kernel
theorem dX4_init_78 : decode cX4_init 78 = .ok (.invokespecial 31, 3) := by decide +kernel
theorem dX4_init_81 : decode cX4_init 81 = .ok (.putfield 32, 3) := by decide +kernel
theorem dX4_init_84 : decode cX4_init 84 = .ok (.aload_n 0, 1) := by decide +kernel
theorem dX4_init_85 : decode cX4_init 85 = .ok (.new 36, 3) := by decide +kernel
theorem dX4_init_88 : decode cX4_init 88 = .ok (.dup, 1) := by decide +kernel
theorem dX4_init_89 : decode cX4_init 89 = .ok (.invokespecial 38, 3) := by decide +kernel
theorem dX4_init_92 : decode cX4_init 92 = .ok (.putfield 39, 3) := by decide +kernel
theorem dX4_init_95 : decode cX4_init 95 = .ok (.aload_n 0, 1) := by decide +kernel
theorem dX4_init_96 : decode cX4_init 96 = .ok (.bipush 100, 2) := by decide +kernel
theorem dX4_init_98 : decode cX4_init 98 = .ok (.newarray .int, 2) := by decide +kernel
theorem dX4_init_100 : decode cX4_init 100 = .ok (.putfield 43, 3) := by decide +kernel
theorem dX4_init_103 : decode cX4_init 103 = .ok (.aload_n 0, 1) := by decide +kernel
theorem dX4_init_104 : decode cX4_init 104 = .ok (.iconst 0, 1) := by decide +kernel
theorem dX4_init_105 : decode cX4_init 105 = .ok (.putfield 46, 3) := by decide +kernel
theorem dX4_init_108 : decode cX4_init 108 = .ok (.aload_n 0, 1) := by decide +kernel
theorem dX4_init_109 : decode cX4_init 109 = .ok (.iconst (-1), 1) := by decide +kernel
theorem dX4_init_110 : decode cX4_init 110 = .ok (.putfield 50, 3) := by decide +kernel
theorem dX4_init_113 : decode cX4_init 113 = .ok (.return_, 1) := by decide +kernel
theorem dX4_row_0 : decode cX4_row 0 = .ok (.aload_n 0, 1) := by decide +kernel
theorem dX4_row_1 : decode cX4_row 1 = .ok (.getfield 46, 3) := by decide +kernel
theorem dX4_row_4 : decode cX4_row 4 = .ok (.iconst 1, 1) := by decide +kernel
theorem dX4_row_5 : decode cX4_row 5 = .ok (.if_icmp .eq 32, 3) := by decide +kernel
theorem dX4_row_8 : decode cX4_row 8 = .ok (.iload_n 1, 1) := by decide +kernel
theorem dX4_row_9 : decode cX4_row 9 = .ok (.invokestatic 53, 3) := by decide +kernel
theorem dX4_row_12 : decode cX4_row 12 = .ok (.ifCond .eq 25, 3) := by decide +kernel
theorem dX4_row_15 : decode cX4_row 15 = .ok (.iload_n 2, 1) := by decide +kernel
theorem dX4_row_16 : decode cX4_row 16 = .ok (.invokestatic 57, 3) := by decide +kernel
theorem dX4_row_19 : decode cX4_row 19 = .ok (.ifCond .eq 18, 3) := by decide +kernel
theorem dX4_row_22 : decode cX4_row 22 = .ok (.iload_n 3, 1) := by decide +kernel
theorem dX4_row_23 : decode cX4_row 23 = .ok (.invokestatic 57, 3) := by decide +kernel
theorem dX4_row_26 : decode cX4_row 26 = .ok (.ifCond .eq 11, 3) := by decide +kernel
theorem dX4_row_29 : decode cX4_row 29 = .ok (.iload 4, 2) := by decide +kernel
theorem dX4_row_31 : decode cX4_row 31 = .ok (.invokestatic 57, 3) := by decide +kernel
theorem dX4_row_34 : decode cX4_row 34 = .ok (.ifCond .ne 5, 3) := by decide +kernel
theorem dX4_row_37 : decode cX4_row 37 = .ok (.iconst (-1), 1) := by decide +kernel
theorem dX4_row_38 : decode cX4_row 38 = .ok (.ireturn, 1) := by decide +kernel
theorem dX4_row_39 : decode cX4_row 39 = .ok (.aload_n 0, 1) := by decide +kernel
theorem dX4_row_40 : decode cX4_row 40 = .ok (.getfield 12, 3) := by decide +kernel
theorem dX4_row_43 : decode cX4_row 43 = .ok (.iload_n 1, 1) := by decide +kernel
theorem dX4_row_44 : decode cX4_row 44 = .ok (.aaload, 1) := by decide +kernel
theorem dX4_row_45 : decode cX4_row 45 = .ok (.iload_n 2, 1) := by decide +kernel
theorem dX4_row_46 : decode cX4_row 46 = .ok (.iload_n 3, 1) := by decide +kernel
theorem dX4_row_47 : decode cX4_row 47 = .ok (.iload 4, 2) := by decide +kernel
theorem dX4_row_49 : decode cX4_row 49 = .ok (.invokevirtual 60, 3) := by decide +kernel
theorem dX4_row_52 : decode cX4_row 52 = .ok (.ireturn, 1) := by decide +kernel
theorem dX4_test_0 : decode cX4_test 0 = .ok (.aload_n 0, 1) := by decide +kernel
theorem dX4_test_1 : decode cX4_test 1 = .ok (.getfield 46, 3) := by decide +kernel
theorem dX4_test_4 : decode cX4_test 4 = .ok (.iconst 1, 1) := by decide +kernel
theorem dX4_test_5 : decode cX4_test 5 = .ok (.if_icmp .eq 21, 3) := by decide +kernel
theorem dX4_test_8 : decode cX4_test 8 = .ok (.iload_n 1, 1) := by decide +kernel
theorem dX4_test_9 : decode cX4_test 9 = .ok (.invokestatic 53, 3) := by decide +kernel
theorem dX4_test_12 : decode cX4_test 12 = .ok (.ifCond .eq 14, 3) := by decide +kernel
theorem dX4_test_15 : decode cX4_test 15 = .ok (.iload_n 3, 1) := by decide +kernel
theorem dX4_test_16 : decode cX4_test 16 = .ok (.iconst 1, 1) := by decide +kernel
theorem dX4_test_17 : decode cX4_test 17 = .ok (.if_icmp .lt 9, 3) := by decide +kernel
theorem dX4_test_20 : decode cX4_test 20 = .ok (.iload_n 3, 1) := by decide +kernel
theorem dX4_test_21 : decode cX4_test 21 = .ok (.bipush 50, 2) := by decide +kernel
theorem dX4_test_23 : decode cX4_test 23 = .ok (.if_icmp .le 5, 3) := by decide +kernel
theorem dX4_test_26 : decode cX4_test 26 = .ok (.iconst (-1), 1) := by decide +kernel
theorem dX4_test_27 : decode cX4_test 27 = .ok (.ireturn, 1) := by decide +kernel
theorem dX4_test_28 : decode cX4_test 28 = .ok (.iload_n 2, 1) := by decide +kernel
theorem dX4_test_29 : decode cX4_test 29 = .ok (.sipush 1000, 3) := by decide +kernel
theorem dX4_test_32 : decode cX4_test 32 = .ok (.idiv, 1) := by decide +kernel
theorem dX4_test_33 : decode cX4_test 33 = .ok (.istore 4, 2) := by decide +kernel
theorem dX4_test_35 : decode cX4_test 35 = .ok (.iload_n 2, 1) := by decide +kernel
theorem dX4_test_36 : decode cX4_test 36 = .ok (.bipush 100, 2) := by decide +kernel
theorem dX4_test_38 : decode cX4_test 38 = .ok (.idiv, 1) := by decide +kernel
theorem dX4_test_39 : decode cX4_test 39 = .ok (.bipush 10, 2) := by decide +kernel
theorem dX4_test_41 : decode cX4_test 41 = .ok (.irem, 1) := by decide +kernel
theorem dX4_test_42 : decode cX4_test 42 = .ok (.istore 5, 2) := by decide +kernel
theorem dX4_test_44 : decode cX4_test 44 = .ok (.iload_n 2, 1) := by decide +kernel
theorem dX4_test_45 : decode cX4_test 45 = .ok (.ifCond .lt 17, 3) := by decide +kernel
theorem dX4_test_48 : decode cX4_test 48 = .ok (.iload 4, 2) := by decide +kernel
theorem dX4_test_50 : decode cX4_test 50 = .ok (.invokestatic 64, 3) := by decide +kernel
theorem dX4_test_53 : decode cX4_test 53 = .ok (.ifCond .eq 9, 3) := by decide +kernel
theorem dX4_test_56 : decode cX4_test 56 = .ok (.iload 5, 2) := by decide +kernel
theorem dX4_test_58 : decode cX4_test 58 = .ok (.iconst 3, 1) := by decide +kernel
theorem dX4_test_59 : decode cX4_test 59 = .ok (.if_icmp .lt 5, 3) := by decide +kernel
theorem dX4_test_62 : decode cX4_test 62 = .ok (.iconst (-1), 1) := by decide +kernel
theorem dX4_test_63 : decode cX4_test 63 = .ok (.ireturn, 1) := by decide +kernel
theorem dX4_test_64 : decode cX4_test 64 = .ok (.aload_n 0, 1) := by decide +kernel
theorem dX4_test_65 : decode cX4_test 65 = .ok (.getfield 12, 3) := by decide +kernel
theorem dX4_test_68 : decode cX4_test 68 = .ok (.iload_n 1, 1) := by decide +kernel
theorem dX4_test_69 : decode cX4_test 69 = .ok (.aaload, 1) := by decide +kernel
theorem dX4_test_70 : decode cX4_test 70 = .ok (.iload 4, 2) := by decide +kernel
theorem dX4_test_72 : decode cX4_test 72 = .ok (.iload 5, 2) := by decide +kernel
theorem dX4_test_74 : decode cX4_test 74 = .ok (.iload_n 2, 1) := by decide +kernel
theorem dX4_test_75 : decode cX4_test 75 = .ok (.bipush 100, 2) := by decide +kernel
theorem dX4_test_77 : decode cX4_test 77 = .ok (.irem, 1) := by decide +kernel
theorem dX4_test_78 : decode cX4_test 78 = .ok (.iload_n 3, 1) := by decide +kernel
theorem dX4_test_79 : decode cX4_test 79 = .ok (.invokevirtual 67, 3) := by decide +kernel
theorem dX4_test_82 : decode cX4_test 82 = .ok (.ireturn, 1) := by decide +kernel
theorem dX4_join_0 : decode cX4_join 0 = .ok (.aload_n 0, 1) := by decide +kernel
theorem dX4_join_1 : decode cX4_join 1 = .ok (.getfield 46, 3) := by decide +kernel
theorem dX4_join_4 : decode cX4_join 4 = .ok (.iconst 1, 1) := by decide +kernel
theorem dX4_join_5 : decode cX4_join 5 = .ok (.if_icmp .eq 17, 3) := by decide +kernel
theorem dX4_join_8 : decode cX4_join 8 = .ok (.iload_n 1, 1) := by decide +kernel
theorem dX4_join_9 : decode cX4_join 9 = .ok (.invokestatic 64, 3) := by decide +kernel
theorem dX4_join_12 : decode cX4_join 12 = .ok (.ifCond .eq 10, 3) := by decide +kernel
theorem dX4_join_15 : decode cX4_join 15 = .ok (.iload_n 2, 1) := by decide +kernel
theorem dX4_join_16 : decode cX4_join 16 = .ok (.invokestatic 64, 3) := by decide +kernel
theorem dX4_join_19 : decode cX4_join 19 = .ok (.ifCond .ne 5, 3) := by decide +kernel
theorem dX4_join_22 : decode cX4_join 22 = .ok (.iconst 0, 1) := by decide +kernel
theorem dX4_join_23 : decode cX4_join 23 = .ok (.ireturn, 1) := by decide +kernel
theorem dX4_join_24 : decode cX4_join 24 = .ok (.aload_n 0, 1) := by decide +kernel
theorem dX4_join_25 : decode cX4_join 25 = .ok (.getfield 25, 3) := by decide +kernel
theorem dX4_join_28 : decode cX4_join 28 = .ok (.iconst 0, 1) := by decide +kernel
theorem dX4_join_29 : decode cX4_join 29 = .ok (.iload_n 1, 1) := by decide +kernel
theorem dX4_join_30 : decode cX4_join 30 = .ok (.iastore, 1) := by decide +kernel
theorem dX4_join_31 : decode cX4_join 31 = .ok (.aload_n 0, 1) := by decide +kernel
theorem dX4_join_32 : decode cX4_join 32 = .ok (.getfield 25, 3) := by decide +kernel
theorem dX4_join_35 : decode cX4_join 35 = .ok (.iconst 1, 1) := by decide +kernel
theorem dX4_join_36 : decode cX4_join 36 = .ok (.iload_n 2, 1) := by decide +kernel
theorem dX4_join_37 : decode cX4_join 37 = .ok (.iastore, 1) := by decide +kernel
theorem dX4_join_38 : decode cX4_join 38 = .ok (.iconst 1, 1) := by decide +kernel
theorem dX4_join_39 : decode cX4_join 39 = .ok (.ireturn, 1) := by decide +kernel
theorem dX4_ask_0 : decode cX4_ask 0 = .ok (.aload_n 0, 1) := by decide +kernel
theorem dX4_ask_1 : decode cX4_ask 1 = .ok (.getfield 46, 3) := by decide +kernel
theorem dX4_ask_4 : decode cX4_ask 4 = .ok (.iconst 1, 1) := by decide +kernel
theorem dX4_ask_5 : decode cX4_ask 5 = .ok (.if_icmp .ne 5, 3) := by decide +kernel
theorem dX4_ask_8 : decode cX4_ask 8 = .ok (.iconst 0, 1) := by decide +kernel
theorem dX4_ask_9 : decode cX4_ask 9 = .ok (.ireturn, 1) := by decide +kernel
theorem dX4_ask_10 : decode cX4_ask 10 = .ok (.aload_n 0, 1) := by decide +kernel
theorem dX4_ask_11 : decode cX4_ask 11 = .ok (.getfield 21, 3) := by decide +kernel
theorem dX4_ask_14 : decode cX4_ask 14 = .ok (.iconst 0, 1) := by decide +kernel
theorem dX4_ask_15 : decode cX4_ask 15 = .ok (.aaload, 1) := by decide +kernel
theorem dX4_ask_16 : decode cX4_ask 16 = .ok (.invokevirtual 71, 3) := by decide +kernel
theorem dX4_ask_19 : decode cX4_ask 19 = .ok (.aload_n 0, 1) := by decide +kernel
theorem dX4_ask_20 : decode cX4_ask 20 = .ok (.getfield 21, 3) := by decide +kernel
theorem dX4_ask_23 : decode cX4_ask 23 = .ok (.iconst 1, 1) := by decide +kernel
theorem dX4_ask_24 : decode cX4_ask 24 = .ok (.aaload, 1) := by decide +kernel
theorem dX4_ask_25 : decode cX4_ask 25 = .ok (.invokevirtual 71, 3) := by decide +kernel
theorem dX4_ask_28 : decode cX4_ask 28 = .ok (.aload_n 0, 1) := by decide +kernel
theorem dX4_ask_29 : decode cX4_ask 29 = .ok (.getfield 32, 3) := by decide +kernel
theorem dX4_ask_32 : decode cX4_ask 32 = .ok (.invokevirtual 74, 3) := by decide +kernel
theorem dX4_ask_35 : decode cX4_ask 35 = .ok (.aload_n 0, 1) := by decide +kernel
theorem dX4_ask_36 : decode cX4_ask 36 = .ok (.getfield 39, 3) := by decide +kernel
theorem dX4_ask_39 : decode cX4_ask 39 = .ok (.invokevirtual 77, 3) := by decide +kernel
theorem dX4_ask_42 : decode cX4_ask 42 = .ok (.aload_n 0, 1) := by decide +kernel
theorem dX4_ask_43 : decode cX4_ask 43 = .ok (.iconst (-1), 1) := by decide +kernel
theorem dX4_ask_44 : decode cX4_ask 44 = .ok (.putfield 78, 3) := by decide +kernel
theorem dX4_ask_47 : decode cX4_ask 47 = .ok (.aload_n 0, 1) := by decide +kernel
theorem dX4_ask_48 : decode cX4_ask 48 = .ok (.iconst 0, 1) := by decide +kernel
theorem dX4_ask_49 : decode cX4_ask 49 = .ok (.putfield 81, 3) := by decide +kernel
theorem dX4_ask_52 : decode cX4_ask 52 = .ok (.aload_n 0, 1) := by decide +kernel
theorem dX4_ask_53 : decode cX4_ask 53 = .ok (.iconst 0, 1) := by decide +kernel
theorem dX4_ask_54 : decode cX4_ask 54 = .ok (.putfield 84, 3) := by decide +kernel
theorem dX4_ask_57 : decode cX4_ask 57 = .ok (.aload_n 0, 1) := by decide +kernel
theorem dX4_ask_58 : decode cX4_ask 58 = .ok (.iconst 0, 1) := by decide +kernel
theorem dX4_ask_59 : decode cX4_ask 59 = .ok (.putfield 87, 3) := by decide +kernel
theorem dX4_ask_62 : decode cX4_ask 62 = .ok (.aload_n 0, 1) := by decide +kernel
theorem dX4_ask_63 : decode cX4_ask 63 = .ok (.iconst 0, 1) := by decide +kernel
theorem dX4_ask_64 : decode cX4_ask 64 = .ok (.putfield 90, 3) := by decide +kernel
theorem dX4_ask_67 : decode cX4_ask 67 = .ok (.aload_n 0, 1) := by decide +kernel
theorem dX4_ask_68 : decode cX4_ask 68 = .ok (.iconst 0, 1) := by decide +kernel
theorem dX4_ask_69 : decode cX4_ask 69 = .ok (.putfield 93, 3) := by decide +kernel
theorem dX4_ask_72 : decode cX4_ask 72 = .ok (.aload_n 0, 1) := by decide +kernel
theorem dX4_ask_73 : decode cX4_ask 73 = .ok (.iconst 1, 1) := by decide +kernel
theorem dX4_ask_74 : decode cX4_ask 74 = .ok (.putfield 46, 3) := by decide +kernel
theorem dX4_ask_77 : decode cX4_ask 77 = .ok (.aload_n 0, 1) := by decide +kernel
theorem dX4_ask_78 : decode cX4_ask 78 = .ok (.invokevirtual 96, 3) := by decide +kernel
theorem dX4_ask_81 : decode cX4_ask 81 = .ok (.iconst 1, 1) := by decide +kernel
theorem dX4_ask_82 : decode cX4_ask 82 = .ok (.ireturn, 1) := by decide +kernel
theorem dX4_stop_0 : decode cX4_stop 0 = .ok (.aload_n 0, 1) := by decide +kernel
theorem dX4_stop_1 : decode cX4_stop 1 = .ok (.getfield 46, 3) := by decide +kernel
theorem dX4_stop_4 : decode cX4_stop 4 = .ok (.iconst 1, 1) := by decide +kernel
theorem dX4_stop_5 : decode cX4_stop 5 = .ok (.if_icmp .eq 5, 3) := by decide +kernel
theorem dX4_stop_8 : decode cX4_stop 8 = .ok (.iconst 0, 1) := by decide +kernel
theorem dX4_stop_9 : decode cX4_stop 9 = .ok (.ireturn, 1) := by decide +kernel
theorem dX4_stop_10 : decode cX4_stop 10 = .ok (.aload_n 0, 1) := by decide +kernel
theorem dX4_stop_11 : decode cX4_stop 11 = .ok (.iconst 0, 1) := by decide +kernel
theorem dX4_stop_12 : decode cX4_stop 12 = .ok (.putfield 46, 3) := by decide +kernel
theorem dX4_stop_15 : decode cX4_stop 15 = .ok (.iconst 1, 1) := by decide +kernel
theorem dX4_stop_16 : decode cX4_stop 16 = .ok (.ireturn, 1) := by decide +kernel
theorem dX4_go_0 : decode cX4_go 0 = .ok (.aload_n 0, 1) := by decide +kernel
theorem dX4_go_1 : decode cX4_go 1 = .ok (.getfield 46, 3) := by decide +kernel
theorem dX4_go_4 : decode cX4_go 4 = .ok (.iconst 1, 1) := by decide +kernel
theorem dX4_go_5 : decode cX4_go 5 = .ok (.if_icmp .ne 14, 3) := by decide +kernel
theorem dX4_go_8 : decode cX4_go 8 = .ok (.iload_n 1, 1) := by decide +kernel
theorem dX4_go_9 : decode cX4_go 9 = .ok (.ifCond .lt 10, 3) := by decide +kernel
theorem dX4_go_12 : decode cX4_go 12 = .ok (.iload_n 1, 1) := by decide +kernel
theorem dX4_go_13 : decode cX4_go 13 = .ok (.sipush 200, 3) := by decide +kernel
theorem dX4_go_16 : decode cX4_go 16 = .ok (.if_icmp .le 5, 3) := by decide +kernel
theorem dX4_go_19 : decode cX4_go 19 = .ok (.iconst (-1), 1) := by decide +kernel
theorem dX4_go_20 : decode cX4_go 20 = .ok (.ireturn, 1) := by decide +kernel
theorem dX4_go_21 : decode cX4_go 21 = .ok (.iconst 0, 1) := by decide +kernel
theorem dX4_go_22 : decode cX4_go 22 = .ok (.istore_n 2, 1) := by decide +kernel
theorem dX4_go_23 : decode cX4_go 23 = .ok (.iload_n 2, 1) := by decide +kernel
theorem dX4_go_24 : decode cX4_go 24 = .ok (.iload_n 1, 1) := by decide +kernel
theorem dX4_go_25 : decode cX4_go 25 = .ok (.if_icmp .ge 21, 3) := by decide +kernel
theorem dX4_go_28 : decode cX4_go 28 = .ok (.aload_n 0, 1) := by decide +kernel
theorem dX4_go_29 : decode cX4_go 29 = .ok (.getfield 46, 3) := by decide +kernel
theorem dX4_go_32 : decode cX4_go 32 = .ok (.iconst 1, 1) := by decide +kernel
theorem dX4_go_33 : decode cX4_go 33 = .ok (.if_icmp .ne 13, 3) := by decide +kernel
theorem dX4_go_36 : decode cX4_go 36 = .ok (.aload_n 0, 1) := by decide +kernel
theorem dX4_go_37 : decode cX4_go 37 = .ok (.invokevirtual 99, 3) := by decide +kernel
theorem dX4_go_40 : decode cX4_go 40 = .ok (.iinc 2 1, 3) := by decide +kernel
theorem dX4_go_43 : decode cX4_go 43 = .ok (.goto (-20), 3) := by decide +kernel
theorem dX4_go_46 : decode cX4_go 46 = .ok (.iload_n 2, 1) := by decide +kernel
theorem dX4_go_47 : decode cX4_go 47 = .ok (.ireturn, 1) := by decide +kernel
theorem dX4_memory_0 : decode cX4_memory 0 = .ok (.iload_n 1, 1) := by decide +kernel
theorem dX4_memory_1 : decode cX4_memory 1 = .ok (.ifCond .lt 9, 3) := by decide +kernel
theorem dX4_memory_4 : decode cX4_memory 4 = .ok (.iload_n 1, 1) := by decide +kernel
theorem dX4_memory_5 : decode cX4_memory 5 = .ok (.bipush 100, 2) := by decide +kernel
theorem dX4_memory_7 : decode cX4_memory 7 = .ok (.if_icmp .le 5, 3) := by decide +kernel
theorem dX4_memory_10 : decode cX4_memory 10 = .ok (.iconst 0, 1) := by decide +kernel
theorem dX4_memory_11 : decode cX4_memory 11 = .ok (.ireturn, 1) := by decide +kernel
theorem dX4_memory_12 : decode cX4_memory 12 = .ok (.aload_n 0, 1) := by decide +kernel
theorem dX4_memory_13 : decode cX4_memory 13 = .ok (.getfield 32, 3) := by decide +kernel
theorem dX4_memory_16 : decode cX4_memory 16 = .ok (.iload_n 1, 1) := by decide +kernel
theorem dX4_memory_17 : decode cX4_memory 17 = .ok (.putfield 102, 3) := by decide +kernel
theorem dX4_memory_20 : decode cX4_memory 20 = .ok (.aload_n 0, 1) := by decide +kernel
theorem dX4_memory_21 : decode cX4_memory 21 = .ok (.invokevirtual 105, 3) := by decide +kernel
theorem dX4_memory_24 : decode cX4_memory 24 = .ok (.iconst 1, 1) := by decide +kernel
theorem dX4_memory_25 : decode cX4_memory 25 = .ok (.ireturn, 1) := by decide +kernel
theorem dX4_force_0 : decode cX4_force 0 = .ok (.iload_n 1, 1) := by decide +kernel
theorem dX4_force_1 : decode cX4_force 1 = .ok (.iconst (-1), 1) := by decide +kernel
theorem dX4_force_2 : decode cX4_force 2 = .ok (.if_icmp .eq 12, 3) := by decide +kernel
theorem dX4_force_5 : decode cX4_force 5 = .ok (.iload_n 1, 1) := by decide +kernel
theorem dX4_force_6 : decode cX4_force 6 = .ok (.invokestatic 53, 3) := by decide +kernel
theorem dX4_force_9 : decode cX4_force 9 = .ok (.ifCond .ne 5, 3) := by decide +kernel
theorem dX4_force_12 : decode cX4_force 12 = .ok (.iconst 0, 1) := by decide +kernel
theorem dX4_force_13 : decode cX4_force 13 = .ok (.ireturn, 1) := by decide +kernel
theorem dX4_force_14 : decode cX4_force 14 = .ok (.aload_n 0, 1) := by decide +kernel
theorem dX4_force_15 : decode cX4_force 15 = .ok (.iload_n 1, 1) := by decide +kernel
theorem dX4_force_16 : decode cX4_force 16 = .ok (.putfield 50, 3) := by decide +kernel
theorem dX4_force_19 : decode cX4_force 19 = .ok (.iconst 1, 1) := by decide +kernel
theorem dX4_force_20 : decode cX4_force 20 = .ok (.ireturn, 1) := by decide +kernel
theorem dX4_order_0 : decode cX4_order 0 = .ok (.aload_n 0, 1) := by decide +kernel
theorem dX4_order_1 : decode cX4_order 1 = .ok (.getfield 46, 3) := by decide +kernel
theorem dX4_order_4 : decode cX4_order 4 = .ok (.iconst 1, 1) := by decide +kernel
theorem dX4_order_5 : decode cX4_order 5 = .ok (.if_icmp .ne 10, 3) := by decide +kernel
theorem dX4_order_8 : decode cX4_order 8 = .ok (.iload_n 1, 1) := by decide +kernel
theorem dX4_order_9 : decode cX4_order 9 = .ok (.invokestatic 53, 3) := by decide +kernel
theorem dX4_order_12 : decode cX4_order 12 = .ok (.ifCond .ne 5, 3) := by decide +kernel
theorem dX4_order_15 : decode cX4_order 15 = .ok (.iconst 0, 1) := by decide +kernel
theorem dX4_order_16 : decode cX4_order 16 = .ok (.ireturn, 1) := by decide +kernel
theorem dX4_order_17 : decode cX4_order 17 = .ok (.aload_n 0, 1) := by decide +kernel
theorem dX4_order_18 : decode cX4_order 18 = .ok (.getfield 21, 3) := by decide +kernel
theorem dX4_order_21 : decode cX4_order 21 = .ok (.iload_n 1, 1) := by decide +kernel
theorem dX4_order_22 : decode cX4_order 22 = .ok (.aaload, 1) := by decide +kernel
theorem dX4_order_23 : decode cX4_order 23 = .ok (.astore_n 3, 1) := by decide +kernel
theorem dX4_order_24 : decode cX4_order 24 = .ok (.iload_n 2, 1) := by decide +kernel
theorem dX4_order_25 : decode cX4_order 25 = .ok (.iconst (-1), 1) := by decide +kernel
theorem dX4_order_26 : decode cX4_order 26 = .ok (.if_icmp .ne 10, 3) := by decide +kernel
theorem dX4_order_29 : decode cX4_order 29 = .ok (.aload_n 3, 1) := by decide +kernel
theorem dX4_order_30 : decode cX4_order 30 = .ok (.iconst 0, 1) := by decide +kernel
theorem dX4_order_31 : decode cX4_order 31 = .ok (.putfield 108, 3) := by decide +kernel
theorem dX4_order_34 : decode cX4_order 34 = .ok (.iconst 1, 1) := by decide +kernel
theorem dX4_order_35 : decode cX4_order 35 = .ok (.ireturn, 1) := by decide +kernel
theorem dX4_order_36 : decode cX4_order 36 = .ok (.aload_n 3, 1) := by decide +kernel
theorem dX4_order_37 : decode cX4_order 37 = .ok (.iload_n 2, 1) := by decide +kernel
theorem dX4_order_38 : decode cX4_order 38 = .ok (.invokevirtual 112, 3) := by decide +kernel
theorem dX4_order_41 : decode cX4_order 41 = .ok (.ireturn, 1) := by decide +kernel
theorem dX4_ordered_0 : decode cX4_ordered 0 = .ok (.iload_n 1, 1) := by decide +kernel
theorem dX4_ordered_1 : decode cX4_ordered 1 = .ok (.invokestatic 53, 3) := by decide +kernel
theorem dX4_ordered_4 : decode cX4_ordered 4 = .ok (.ifCond .eq 20, 3) := by decide +kernel
theorem dX4_ordered_7 : decode cX4_ordered 7 = .ok (.iload_n 2, 1) := by decide +kernel
theorem dX4_ordered_8 : decode cX4_ordered 8 = .ok (.ifCond .lt 16, 3) := by decide +kernel
theorem dX4_ordered_11 : decode cX4_ordered 11 = .ok (.iload_n 2, 1) := by decide +kernel
theorem dX4_ordered_12 : decode cX4_ordered 12 = .ok (.aload_n 0, 1) := by decide +kernel
theorem dX4_ordered_13 : decode cX4_ordered 13 = .ok (.getfield 21, 3) := by decide +kernel
theorem dX4_ordered_16 : decode cX4_ordered 16 = .ok (.iload_n 1, 1) := by decide +kernel
theorem dX4_ordered_17 : decode cX4_ordered 17 = .ok (.aaload, 1) := by decide +kernel
theorem dX4_ordered_18 : decode cX4_ordered 18 = .ok (.getfield 115, 3) := by decide +kernel
theorem dX4_ordered_21 : decode cX4_ordered 21 = .ok (.if_icmp .lt 5, 3) := by decide +kernel
theorem dX4_ordered_24 : decode cX4_ordered 24 = .ok (.iconst (-1), 1) := by decide +kernel
theorem dX4_ordered_25 : decode cX4_ordered 25 = .ok (.ireturn, 1) := by decide +kernel
theorem dX4_ordered_26 : decode cX4_ordered 26 = .ok (.aload_n 0, 1) := by decide +kernel
theorem dX4_ordered_27 : decode cX4_ordered 27 = .ok (.getfield 21, 3) := by decide +kernel
theorem dX4_ordered_30 : decode cX4_ordered 30 = .ok (.iload_n 1, 1) := by decide +kernel
theorem dX4_ordered_31 : decode cX4_ordered 31 = .ok (.aaload, 1) := by decide +kernel
theorem dX4_ordered_32 : decode cX4_ordered 32 = .ok (.getfield 118, 3) := by decide +kernel
theorem dX4_ordered_35 : decode cX4_ordered 35 = .ok (.iload_n 2, 1) := by decide +kernel
theorem dX4_ordered_36 : decode cX4_ordered 36 = .ok (.iaload, 1) := by decide +kernel
theorem dX4_ordered_37 : decode cX4_ordered 37 = .ok (.ireturn, 1) := by decide +kernel
theorem dX4_told_0 : decode cX4_told 0 = .ok (.iload_n 1, 1) := by decide +kernel
theorem dX4_told_1 : decode cX4_told 1 = .ok (.invokestatic 53, 3) := by decide +kernel
theorem dX4_told_4 : decode cX4_told 4 = .ok (.ifCond .eq 20, 3) := by decide +kernel
theorem dX4_told_7 : decode cX4_told 7 = .ok (.iload_n 2, 1) := by decide +kernel
theorem dX4_told_8 : decode cX4_told 8 = .ok (.ifCond .lt 16, 3) := by decide +kernel
theorem dX4_told_11 : decode cX4_told 11 = .ok (.iload_n 2, 1) := by decide +kernel
theorem dX4_told_12 : decode cX4_told 12 = .ok (.aload_n 0, 1) := by decide +kernel
theorem dX4_told_13 : decode cX4_told 13 = .ok (.getfield 12, 3) := by decide +kernel
theorem dX4_told_16 : decode cX4_told 16 = .ok (.iload_n 1, 1) := by decide +kernel
theorem dX4_told_17 : decode cX4_told 17 = .ok (.aaload, 1) := by decide +kernel
theorem dX4_told_18 : decode cX4_told 18 = .ok (.getfield 121, 3) := by decide +kernel
theorem dX4_told_21 : decode cX4_told 21 = .ok (.if_icmp .lt 5, 3) := by decide +kernel
theorem dX4_told_24 : decode cX4_told 24 = .ok (.iconst (-1), 1) := by decide +kernel
theorem dX4_told_25 : decode cX4_told 25 = .ok (.ireturn, 1) := by decide +kernel
theorem dX4_told_26 : decode cX4_told 26 = .ok (.iload_n 3, 1) := by decide +kernel
theorem dX4_told_27 : decode cX4_told 27 = .ok (.tableswitch 61 0 2 #[25, 37, 49], 25) := by decide +kernel
theorem dX4_told_52 : decode cX4_told 52 = .ok (.aload_n 0, 1) := by decide +kernel
theorem dX4_told_53 : decode cX4_told 53 = .ok (.getfield 21, 3) := by decide +kernel
theorem dX4_told_56 : decode cX4_told 56 = .ok (.iload_n 1, 1) := by decide +kernel
theorem dX4_told_57 : decode cX4_told 57 = .ok (.aaload, 1) := by decide +kernel
theorem dX4_told_58 : decode cX4_told 58 = .ok (.getfield 122, 3) := by decide +kernel
theorem dX4_told_61 : decode cX4_told 61 = .ok (.iload_n 2, 1) := by decide +kernel
theorem dX4_told_62 : decode cX4_told 62 = .ok (.iaload, 1) := by decide +kernel
theorem dX4_told_63 : decode cX4_told 63 = .ok (.ireturn, 1) := by decide +kernel
theorem dX4_told_64 : decode cX4_told 64 = .ok (.aload_n 0, 1) := by decide +kernel
theorem dX4_told_65 : decode cX4_told 65 = .ok (.getfield 21, 3) := by decide +kernel
theorem dX4_told_68 : decode cX4_told 68 = .ok (.iload_n 1, 1) := by decide +kernel
theorem dX4_told_69 : decode cX4_told 69 = .ok (.aaload, 1) := by decide +kernel
theorem dX4_told_70 : decode cX4_told 70 = .ok (.getfield 125, 3) := by decide +kernel
theorem dX4_told_73 : decode cX4_told 73 = .ok (.iload_n 2, 1) := by decide +kernel
theorem dX4_told_74 : decode cX4_told 74 = .ok (.iaload, 1) := by decide +kernel
theorem dX4_told_75 : decode cX4_told 75 = .ok (.ireturn, 1) := by decide +kernel
theorem dX4_told_76 : decode cX4_told 76 = .ok (.aload_n 0, 1) := by decide +kernel
theorem dX4_told_77 : decode cX4_told 77 = .ok (.getfield 12, 3) := by decide +kernel
theorem dX4_told_80 : decode cX4_told 80 = .ok (.iload_n 1, 1) := by decide +kernel
theorem dX4_told_81 : decode cX4_told 81 = .ok (.aaload, 1) := by decide +kernel
theorem dX4_told_82 : decode cX4_told 82 = .ok (.getfield 128, 3) := by decide +kernel
theorem dX4_told_85 : decode cX4_told 85 = .ok (.iload_n 2, 1) := by decide +kernel
theorem dX4_told_86 : decode cX4_told 86 = .ok (.iaload, 1) := by decide +kernel
theorem dX4_told_87 : decode cX4_told 87 = .ok (.ireturn, 1) := by decide +kernel
theorem dX4_told_88 : decode cX4_told 88 = .ok (.iconst (-1), 1) := by decide +kernel
theorem dX4_told_89 : decode cX4_told 89 = .ok (.ireturn, 1) := by decide +kernel
theorem dX4_given_0 : decode cX4_given 0 = .ok (.iload_n 2, 1) := by decide +kernel
theorem dX4_given_1 : decode cX4_given 1 = .ok (.invokestatic 53, 3) := by decide +kernel
theorem dX4_given_4 : decode cX4_given 4 = .ok (.ifCond .eq 18, 3) := by decide +kernel
theorem dX4_given_7 : decode cX4_given 7 = .ok (.iload_n 1, 1) := by decide +kernel
theorem dX4_given_8 : decode cX4_given 8 = .ok (.ifCond .lt 14, 3) := by decide +kernel
theorem dX4_given_11 : decode cX4_given 11 = .ok (.iload_n 1, 1) := by decide +kernel
theorem dX4_given_12 : decode cX4_given 12 = .ok (.aload_n 0, 1) := by decide +kernel
theorem dX4_given_13 : decode cX4_given 13 = .ok (.getfield 39, 3) := by decide +kernel
theorem dX4_given_16 : decode cX4_given 16 = .ok (.getfield 131, 3) := by decide +kernel
theorem dX4_given_19 : decode cX4_given 19 = .ok (.if_icmp .lt 5, 3) := by decide +kernel
theorem dX4_given_22 : decode cX4_given 22 = .ok (.iconst (-1), 1) := by decide +kernel
theorem dX4_given_23 : decode cX4_given 23 = .ok (.ireturn, 1) := by decide +kernel
theorem dX4_given_24 : decode cX4_given 24 = .ok (.aload_n 0, 1) := by decide +kernel
theorem dX4_given_25 : decode cX4_given 25 = .ok (.getfield 39, 3) := by decide +kernel
theorem dX4_given_28 : decode cX4_given 28 = .ok (.iload_n 1, 1) := by decide +kernel
theorem dX4_given_29 : decode cX4_given 29 = .ok (.iload_n 2, 1) := by decide +kernel
theorem dX4_given_30 : decode cX4_given 30 = .ok (.invokevirtual 134, 3) := by decide +kernel
theorem dX4_given_33 : decode cX4_given 33 = .ok (.ireturn, 1) := by decide +kernel
theorem dX4_where_0 : decode cX4_where 0 = .ok (.iload_n 1, 1) := by decide +kernel
theorem dX4_where_1 : decode cX4_where 1 = .ok (.invokestatic 53, 3) := by decide +kernel
theorem dX4_where_4 : decode cX4_where 4 = .ok (.ifCond .eq 20, 3) := by decide +kernel
theorem dX4_where_7 : decode cX4_where 7 = .ok (.iload_n 2, 1) := by decide +kernel
theorem dX4_where_8 : decode cX4_where 8 = .ok (.ifCond .lt 16, 3) := by decide +kernel
theorem dX4_where_11 : decode cX4_where 11 = .ok (.iload_n 2, 1) := by decide +kernel
theorem dX4_where_12 : decode cX4_where 12 = .ok (.aload_n 0, 1) := by decide +kernel
theorem dX4_where_13 : decode cX4_where 13 = .ok (.getfield 12, 3) := by decide +kernel
theorem dX4_where_16 : decode cX4_where 16 = .ok (.iload_n 1, 1) := by decide +kernel
theorem dX4_where_17 : decode cX4_where 17 = .ok (.aaload, 1) := by decide +kernel
theorem dX4_where_18 : decode cX4_where 18 = .ok (.getfield 138, 3) := by decide +kernel
theorem dX4_where_21 : decode cX4_where 21 = .ok (.if_icmp .lt 5, 3) := by decide +kernel
theorem dX4_where_24 : decode cX4_where 24 = .ok (.iconst (-1), 1) := by decide +kernel
theorem dX4_where_25 : decode cX4_where 25 = .ok (.ireturn, 1) := by decide +kernel
theorem dX4_where_26 : decode cX4_where 26 = .ok (.aload_n 0, 1) := by decide +kernel
theorem dX4_where_27 : decode cX4_where 27 = .ok (.getfield 21, 3) := by decide +kernel
theorem dX4_where_30 : decode cX4_where 30 = .ok (.iload_n 1, 1) := by decide +kernel
theorem dX4_where_31 : decode cX4_where 31 = .ok (.aaload, 1) := by decide +kernel
theorem dX4_where_32 : decode cX4_where 32 = .ok (.getfield 141, 3) := by decide +kernel
theorem dX4_where_35 : decode cX4_where 35 = .ok (.iload_n 2, 1) := by decide +kernel
theorem dX4_where_36 : decode cX4_where 36 = .ok (.iaload, 1) := by decide +kernel
theorem dX4_where_37 : decode cX4_where 37 = .ok (.ireturn, 1) := by decide +kernel
theorem dX4_sum_0 : decode cX4_sum 0 = .ok (.iload_n 1, 1) := by decide +kernel
theorem dX4_sum_1 : decode cX4_sum 1 = .ok (.invokestatic 53, 3) := by decide +kernel
theorem dX4_sum_4 : decode cX4_sum 4 = .ok (.ifCond .eq 10, 3) := by decide +kernel
theorem dX4_sum_7 : decode cX4_sum 7 = .ok (.iload_n 2, 1) := by decide +kernel
theorem dX4_sum_8 : decode cX4_sum 8 = .ok (.invokestatic 64, 3) := by decide +kernel
theorem dX4_sum_11 : decode cX4_sum 11 = .ok (.ifCond .ne 5, 3) := by decide +kernel
theorem dX4_sum_14 : decode cX4_sum 14 = .ok (.iconst (-1), 1) := by decide +kernel
theorem dX4_sum_15 : decode cX4_sum 15 = .ok (.ireturn, 1) := by decide +kernel
theorem dX4_sum_16 : decode cX4_sum 16 = .ok (.iconst 0, 1) := by decide +kernel
theorem dX4_sum_17 : decode cX4_sum 17 = .ok (.istore_n 3, 1) := by decide +kernel
theorem dX4_sum_18 : decode cX4_sum 18 = .ok (.iconst 0, 1) := by decide +kernel
theorem dX4_sum_19 : decode cX4_sum 19 = .ok (.istore 4, 2) := by decide +kernel
theorem dX4_sum_21 : decode cX4_sum 21 = .ok (.iload 4, 2) := by decide +kernel
theorem dX4_sum_23 : decode cX4_sum 23 = .ok (.aload_n 0, 1) := by decide +kernel
theorem dX4_sum_24 : decode cX4_sum 24 = .ok (.getfield 39, 3) := by decide +kernel
theorem dX4_sum_27 : decode cX4_sum 27 = .ok (.getfield 131, 3) := by decide +kernel
theorem dX4_sum_30 : decode cX4_sum 30 = .ok (.if_icmp .ge 32, 3) := by decide +kernel
theorem dX4_sum_33 : decode cX4_sum 33 = .ok (.iload_n 3, 1) := by decide +kernel
theorem dX4_sum_34 : decode cX4_sum 34 = .ok (.aload_n 0, 1) := by decide +kernel
theorem dX4_sum_35 : decode cX4_sum 35 = .ok (.getfield 12, 3) := by decide +kernel
theorem dX4_sum_38 : decode cX4_sum 38 = .ok (.iload_n 1, 1) := by decide +kernel
theorem dX4_sum_39 : decode cX4_sum 39 = .ok (.aaload, 1) := by decide +kernel
theorem dX4_sum_40 : decode cX4_sum 40 = .ok (.aload_n 0, 1) := by decide +kernel
theorem dX4_sum_41 : decode cX4_sum 41 = .ok (.getfield 39, 3) := by decide +kernel
theorem dX4_sum_44 : decode cX4_sum 44 = .ok (.iload 4, 2) := by decide +kernel
theorem dX4_sum_46 : decode cX4_sum 46 = .ok (.iload_n 1, 1) := by decide +kernel
theorem dX4_sum_47 : decode cX4_sum 47 = .ok (.invokevirtual 134, 3) := by decide +kernel
theorem dX4_sum_50 : decode cX4_sum 50 = .ok (.iload_n 2, 1) := by decide +kernel
theorem dX4_sum_51 : decode cX4_sum 51 = .ok (.invokevirtual 144, 3) := by decide +kernel
theorem dX4_sum_54 : decode cX4_sum 54 = .ok (.iadd, 1) := by decide +kernel
theorem dX4_sum_55 : decode cX4_sum 55 = .ok (.istore_n 3, 1) := by decide +kernel
theorem dX4_sum_56 : decode cX4_sum 56 = .ok (.iinc 4 1, 3) := by decide +kernel
theorem dX4_sum_59 : decode cX4_sum 59 = .ok (.goto (-38), 3) := by decide +kernel
theorem dX4_sum_62 : decode cX4_sum 62 = .ok (.iload_n 3, 1) := by decide +kernel
theorem dX4_sum_63 : decode cX4_sum 63 = .ok (.ireturn, 1) := by decide +kernel
theorem dX4_plain_0 : decode cX4_plain 0 = .ok (.aload_n 0, 1) := by decide +kernel
theorem dX4_plain_1 : decode cX4_plain 1 = .ok (.getfield 43, 3) := by decide +kernel
theorem dX4_plain_4 : decode cX4_plain 4 = .ok (.iconst 0, 1) := by decide +kernel
theorem dX4_plain_5 : decode cX4_plain 5 = .ok (.invokestatic 147, 3) := by decide +kernel
theorem dX4_plain_8 : decode cX4_plain 8 = .ok (.iconst 0, 1) := by decide +kernel
theorem dX4_plain_9 : decode cX4_plain 9 = .ok (.istore_n 1, 1) := by decide +kernel
theorem dX4_plain_10 : decode cX4_plain 10 = .ok (.iload_n 1, 1) := by decide +kernel
theorem dX4_plain_11 : decode cX4_plain 11 = .ok (.aload_n 0, 1) := by decide +kernel
theorem dX4_plain_12 : decode cX4_plain 12 = .ok (.getfield 12, 3) := by decide +kernel
theorem dX4_plain_15 : decode cX4_plain 15 = .ok (.iconst 1, 1) := by decide +kernel
theorem dX4_plain_16 : decode cX4_plain 16 = .ok (.aaload, 1) := by decide +kernel
theorem dX4_plain_17 : decode cX4_plain 17 = .ok (.getfield 138, 3) := by decide +kernel
theorem dX4_plain_20 : decode cX4_plain 20 = .ok (.if_icmp .ge 37, 3) := by decide +kernel
theorem dX4_plain_23 : decode cX4_plain 23 = .ok (.aload_n 0, 1) := by decide +kernel
theorem dX4_plain_24 : decode cX4_plain 24 = .ok (.getfield 12, 3) := by decide +kernel
theorem dX4_plain_27 : decode cX4_plain 27 = .ok (.iconst 1, 1) := by decide +kernel
theorem dX4_plain_28 : decode cX4_plain 28 = .ok (.aaload, 1) := by decide +kernel
theorem dX4_plain_29 : decode cX4_plain 29 = .ok (.iload_n 1, 1) := by decide +kernel
theorem dX4_plain_30 : decode cX4_plain 30 = .ok (.invokevirtual 153, 3) := by decide +kernel
theorem dX4_plain_33 : decode cX4_plain 33 = .ok (.ifCond .eq 18, 3) := by decide +kernel
theorem dX4_plain_36 : decode cX4_plain 36 = .ok (.aload_n 0, 1) := by decide +kernel
theorem dX4_plain_37 : decode cX4_plain 37 = .ok (.getfield 43, 3) := by decide +kernel
theorem dX4_plain_40 : decode cX4_plain 40 = .ok (.aload_n 0, 1) := by decide +kernel
theorem dX4_plain_41 : decode cX4_plain 41 = .ok (.iconst 1, 1) := by decide +kernel
theorem dX4_plain_42 : decode cX4_plain 42 = .ok (.iload_n 1, 1) := by decide +kernel
theorem dX4_plain_43 : decode cX4_plain 43 = .ok (.invokevirtual 156, 3) := by decide +kernel
theorem dX4_plain_46 : decode cX4_plain 46 = .ok (.dup2, 1) := by decide +kernel
theorem dX4_plain_47 : decode cX4_plain 47 = .ok (.iaload, 1) := by decide +kernel
theorem dX4_plain_48 : decode cX4_plain 48 = .ok (.iconst 1, 1) := by decide +kernel
theorem dX4_plain_49 : decode cX4_plain 49 = .ok (.iadd, 1) := by decide +kernel
theorem dX4_plain_50 : decode cX4_plain 50 = .ok (.iastore, 1) := by decide +kernel
theorem dX4_plain_51 : decode cX4_plain 51 = .ok (.iinc 1 1, 3) := by decide +kernel
theorem dX4_plain_54 : decode cX4_plain 54 = .ok (.goto (-44), 3) := by decide +kernel
theorem dX4_plain_57 : decode cX4_plain 57 = .ok (.iconst 0, 1) := by decide +kernel
theorem dX4_plain_58 : decode cX4_plain 58 = .ok (.istore_n 1, 1) := by decide +kernel
theorem dX4_plain_59 : decode cX4_plain 59 = .ok (.iconst 0, 1) := by decide +kernel
theorem dX4_plain_60 : decode cX4_plain 60 = .ok (.istore_n 2, 1) := by decide +kernel
theorem dX4_plain_61 : decode cX4_plain 61 = .ok (.iload_n 2, 1) := by decide +kernel
theorem dX4_plain_62 : decode cX4_plain 62 = .ok (.aload_n 0, 1) := by decide +kernel
theorem dX4_plain_63 : decode cX4_plain 63 = .ok (.getfield 12, 3) := by decide +kernel
theorem dX4_plain_66 : decode cX4_plain 66 = .ok (.iconst 0, 1) := by decide +kernel
theorem dX4_plain_67 : decode cX4_plain 67 = .ok (.aaload, 1) := by decide +kernel
theorem dX4_plain_68 : decode cX4_plain 68 = .ok (.getfield 138, 3) := by decide +kernel
theorem dX4_plain_71 : decode cX4_plain 71 = .ok (.if_icmp .ge 36, 3) := by decide +kernel
theorem dX4_plain_74 : decode cX4_plain 74 = .ok (.aload_n 0, 1) := by decide +kernel
theorem dX4_plain_75 : decode cX4_plain 75 = .ok (.getfield 12, 3) := by decide +kernel
theorem dX4_plain_78 : decode cX4_plain 78 = .ok (.iconst 0, 1) := by decide +kernel
theorem dX4_plain_79 : decode cX4_plain 79 = .ok (.aaload, 1) := by decide +kernel
theorem dX4_plain_80 : decode cX4_plain 80 = .ok (.iload_n 2, 1) := by decide +kernel
theorem dX4_plain_81 : decode cX4_plain 81 = .ok (.invokevirtual 153, 3) := by decide +kernel
theorem dX4_plain_84 : decode cX4_plain 84 = .ok (.ifCond .eq 17, 3) := by decide +kernel
theorem dX4_plain_87 : decode cX4_plain 87 = .ok (.iload_n 1, 1) := by decide +kernel
theorem dX4_plain_88 : decode cX4_plain 88 = .ok (.aload_n 0, 1) := by decide +kernel
theorem dX4_plain_89 : decode cX4_plain 89 = .ok (.getfield 43, 3) := by decide +kernel
theorem dX4_plain_92 : decode cX4_plain 92 = .ok (.aload_n 0, 1) := by decide +kernel
theorem dX4_plain_93 : decode cX4_plain 93 = .ok (.iconst 0, 1) := by decide +kernel
theorem dX4_plain_94 : decode cX4_plain 94 = .ok (.iload_n 2, 1) := by decide +kernel
theorem dX4_plain_95 : decode cX4_plain 95 = .ok (.invokevirtual 156, 3) := by decide +kernel
theorem dX4_plain_98 : decode cX4_plain 98 = .ok (.iaload, 1) := by decide +kernel
theorem dX4_plain_99 : decode cX4_plain 99 = .ok (.iadd, 1) := by decide +kernel
theorem dX4_plain_100 : decode cX4_plain 100 = .ok (.istore_n 1, 1) := by decide +kernel
theorem dX4_plain_101 : decode cX4_plain 101 = .ok (.iinc 2 1, 3) := by decide +kernel
theorem dX4_plain_104 : decode cX4_plain 104 = .ok (.goto (-43), 3) := by decide +kernel
theorem dX4_plain_107 : decode cX4_plain 107 = .ok (.iload_n 1, 1) := by decide +kernel
theorem dX4_plain_108 : decode cX4_plain 108 = .ok (.ireturn, 1) := by decide +kernel
theorem dX4_fixed_0 : decode cX4_fixed 0 = .ok (.iload_n 1, 1) := by decide +kernel
theorem dX4_fixed_1 : decode cX4_fixed 1 = .ok (.invokestatic 53, 3) := by decide +kernel
theorem dX4_fixed_4 : decode cX4_fixed 4 = .ok (.ifCond .eq 15, 3) := by decide +kernel
theorem dX4_fixed_7 : decode cX4_fixed 7 = .ok (.aload_n 0, 1) := by decide +kernel
theorem dX4_fixed_8 : decode cX4_fixed 8 = .ok (.getfield 21, 3) := by decide +kernel
theorem dX4_fixed_11 : decode cX4_fixed 11 = .ok (.iload_n 1, 1) := by decide +kernel
theorem dX4_fixed_12 : decode cX4_fixed 12 = .ok (.aaload, 1) := by decide +kernel
theorem dX4_fixed_13 : decode cX4_fixed 13 = .ok (.invokevirtual 159, 3) := by decide +kernel
theorem dX4_fixed_16 : decode cX4_fixed 16 = .ok (.goto 4, 3) := by decide +kernel
theorem dX4_fixed_19 : decode cX4_fixed 19 = .ok (.iconst (-1), 1) := by decide +kernel
theorem dX4_fixed_20 : decode cX4_fixed 20 = .ok (.ireturn, 1) := by decide +kernel
theorem dX4_cost_0 : decode cX4_cost 0 = .ok (.iload_n 1, 1) := by decide +kernel
theorem dX4_cost_1 : decode cX4_cost 1 = .ok (.invokestatic 53, 3) := by decide +kernel
theorem dX4_cost_4 : decode cX4_cost 4 = .ok (.ifCond .eq 15, 3) := by decide +kernel
theorem dX4_cost_7 : decode cX4_cost 7 = .ok (.aload_n 0, 1) := by decide +kernel
theorem dX4_cost_8 : decode cX4_cost 8 = .ok (.getfield 21, 3) := by decide +kernel
theorem dX4_cost_11 : decode cX4_cost 11 = .ok (.iload_n 1, 1) := by decide +kernel
theorem dX4_cost_12 : decode cX4_cost 12 = .ok (.aaload, 1) := by decide +kernel
theorem dX4_cost_13 : decode cX4_cost 13 = .ok (.getfield 163, 3) := by decide +kernel
theorem dX4_cost_16 : decode cX4_cost 16 = .ok (.goto 4, 3) := by decide +kernel
theorem dX4_cost_19 : decode cX4_cost 19 = .ok (.iconst (-1), 1) := by decide +kernel
theorem dX4_cost_20 : decode cX4_cost 20 = .ok (.ireturn, 1) := by decide +kernel
theorem dX4_count_0 : decode cX4_count 0 = .ok (.iload_n 1, 1) := by decide +kernel
theorem dX4_count_1 : decode cX4_count 1 = .ok (.tableswitch 147 0 9 #[55, 60, 85, 93, 101, 109, 119, 129, 134, 139], 55) := by decide +kernel
theorem dX4_count_56 : decode cX4_count 56 = .ok (.aload_n 0, 1) := by decide +kernel
theorem dX4_count_57 : decode cX4_count 57 = .ok (.getfield 46, 3) := by decide +kernel
theorem dX4_count_60 : decode cX4_count 60 = .ok (.ireturn, 1) := by decide +kernel
theorem dX4_count_61 : decode cX4_count 61 = .ok (.aload_n 0, 1) := by decide +kernel
theorem dX4_count_62 : decode cX4_count 62 = .ok (.getfield 21, 3) := by decide +kernel
theorem dX4_count_65 : decode cX4_count 65 = .ok (.iconst 0, 1) := by decide +kernel
theorem dX4_count_66 : decode cX4_count 66 = .ok (.aaload, 1) := by decide +kernel
theorem dX4_count_67 : decode cX4_count 67 = .ok (.invokevirtual 166, 3) := by decide +kernel
theorem dX4_count_70 : decode cX4_count 70 = .ok (.aload_n 0, 1) := by decide +kernel
theorem dX4_count_71 : decode cX4_count 71 = .ok (.getfield 21, 3) := by decide +kernel
theorem dX4_count_74 : decode cX4_count 74 = .ok (.iconst 1, 1) := by decide +kernel
theorem dX4_count_75 : decode cX4_count 75 = .ok (.aaload, 1) := by decide +kernel
theorem dX4_count_76 : decode cX4_count 76 = .ok (.invokevirtual 166, 3) := by decide +kernel
theorem dX4_count_79 : decode cX4_count 79 = .ok (.iadd, 1) := by decide +kernel
theorem dX4_count_80 : decode cX4_count 80 = .ok (.aload_n 0, 1) := by decide +kernel
theorem dX4_count_81 : decode cX4_count 81 = .ok (.getfield 87, 3) := by decide +kernel
theorem dX4_count_84 : decode cX4_count 84 = .ok (.iadd, 1) := by decide +kernel
theorem dX4_count_85 : decode cX4_count 85 = .ok (.ireturn, 1) := by decide +kernel
theorem dX4_count_86 : decode cX4_count 86 = .ok (.aload_n 0, 1) := by decide +kernel
theorem dX4_count_87 : decode cX4_count 87 = .ok (.getfield 39, 3) := by decide +kernel
theorem dX4_count_90 : decode cX4_count 90 = .ok (.getfield 131, 3) := by decide +kernel
theorem dX4_count_93 : decode cX4_count 93 = .ok (.ireturn, 1) := by decide +kernel
theorem dX4_count_94 : decode cX4_count 94 = .ok (.aload_n 0, 1) := by decide +kernel
theorem dX4_count_95 : decode cX4_count 95 = .ok (.getfield 32, 3) := by decide +kernel
theorem dX4_count_98 : decode cX4_count 98 = .ok (.invokevirtual 169, 3) := by decide +kernel
theorem dX4_count_101 : decode cX4_count 101 = .ok (.ireturn, 1) := by decide +kernel
theorem dX4_count_102 : decode cX4_count 102 = .ok (.aload_n 0, 1) := by decide +kernel
theorem dX4_count_103 : decode cX4_count 103 = .ok (.getfield 32, 3) := by decide +kernel
theorem dX4_count_106 : decode cX4_count 106 = .ok (.getfield 171, 3) := by decide +kernel
theorem dX4_count_109 : decode cX4_count 109 = .ok (.ireturn, 1) := by decide +kernel
theorem dX4_count_110 : decode cX4_count 110 = .ok (.aload_n 0, 1) := by decide +kernel
theorem dX4_count_111 : decode cX4_count 111 = .ok (.getfield 21, 3) := by decide +kernel
theorem dX4_count_114 : decode cX4_count 114 = .ok (.iconst 0, 1) := by decide +kernel
theorem dX4_count_115 : decode cX4_count 115 = .ok (.aaload, 1) := by decide +kernel
theorem dX4_count_116 : decode cX4_count 116 = .ok (.getfield 174, 3) := by decide +kernel
theorem dX4_count_119 : decode cX4_count 119 = .ok (.ireturn, 1) := by decide +kernel
theorem dX4_count_120 : decode cX4_count 120 = .ok (.aload_n 0, 1) := by decide +kernel
theorem dX4_count_121 : decode cX4_count 121 = .ok (.getfield 21, 3) := by decide +kernel
theorem dX4_count_124 : decode cX4_count 124 = .ok (.iconst 1, 1) := by decide +kernel
theorem dX4_count_125 : decode cX4_count 125 = .ok (.aaload, 1) := by decide +kernel
theorem dX4_count_126 : decode cX4_count 126 = .ok (.getfield 174, 3) := by decide +kernel
theorem dX4_count_129 : decode cX4_count 129 = .ok (.ireturn, 1) := by decide +kernel
theorem dX4_count_130 : decode cX4_count 130 = .ok (.aload_n 0, 1) := by decide +kernel
theorem dX4_count_131 : decode cX4_count 131 = .ok (.getfield 81, 3) := by decide +kernel
theorem dX4_count_134 : decode cX4_count 134 = .ok (.ireturn, 1) := by decide +kernel
theorem dX4_count_135 : decode cX4_count 135 = .ok (.aload_n 0, 1) := by decide +kernel
theorem dX4_count_136 : decode cX4_count 136 = .ok (.getfield 84, 3) := by decide +kernel
theorem dX4_count_139 : decode cX4_count 139 = .ok (.ireturn, 1) := by decide +kernel
theorem dX4_count_140 : decode cX4_count 140 = .ok (.aload_n 0, 1) := by decide +kernel
theorem dX4_count_141 : decode cX4_count 141 = .ok (.getfield 32, 3) := by decide +kernel
theorem dX4_count_144 : decode cX4_count 144 = .ok (.getfield 102, 3) := by decide +kernel
theorem dX4_count_147 : decode cX4_count 147 = .ok (.ireturn, 1) := by decide +kernel
theorem dX4_count_148 : decode cX4_count 148 = .ok (.iconst (-1), 1) := by decide +kernel
theorem dX4_count_149 : decode cX4_count 149 = .ok (.ireturn, 1) := by decide +kernel
theorem dX4_isTable_0 : decode cX4_isTable 0 = .ok (.iload_n 0, 1) := by decide +kernel
theorem dX4_isTable_1 : decode cX4_isTable 1 = .ok (.ifCond .lt 12, 3) := by decide +kernel
theorem dX4_isTable_4 : decode cX4_isTable 4 = .ok (.iload_n 0, 1) := by decide +kernel
theorem dX4_isTable_5 : decode cX4_isTable 5 = .ok (.iconst 2, 1) := by decide +kernel
theorem dX4_isTable_6 : decode cX4_isTable 6 = .ok (.if_icmp .ge 7, 3) := by decide +kernel
theorem dX4_isTable_9 : decode cX4_isTable 9 = .ok (.iconst 1, 1) := by decide +kernel
theorem dX4_isTable_10 : decode cX4_isTable 10 = .ok (.goto 4, 3) := by decide +kernel
theorem dX4_isTable_13 : decode cX4_isTable 13 = .ok (.iconst 0, 1) := by decide +kernel
theorem dX4_isTable_14 : decode cX4_isTable 14 = .ok (.ireturn, 1) := by decide +kernel
theorem dX4_isColumn_0 : decode cX4_isColumn 0 = .ok (.iload_n 0, 1) := by decide +kernel
theorem dX4_isColumn_1 : decode cX4_isColumn 1 = .ok (.ifCond .lt 12, 3) := by decide +kernel
theorem dX4_isColumn_4 : decode cX4_isColumn 4 = .ok (.iload_n 0, 1) := by decide +kernel
theorem dX4_isColumn_5 : decode cX4_isColumn 5 = .ok (.iconst 3, 1) := by decide +kernel
theorem dX4_isColumn_6 : decode cX4_isColumn 6 = .ok (.if_icmp .ge 7, 3) := by decide +kernel
theorem dX4_isColumn_9 : decode cX4_isColumn 9 = .ok (.iconst 1, 1) := by decide +kernel
theorem dX4_isColumn_10 : decode cX4_isColumn 10 = .ok (.goto 4, 3) := by decide +kernel
theorem dX4_isColumn_13 : decode cX4_isColumn 13 = .ok (.iconst 0, 1) := by decide +kernel
theorem dX4_isColumn_14 : decode cX4_isColumn 14 = .ok (.ireturn, 1) := by decide +kernel
theorem dX4_isValue_0 : decode cX4_isValue 0 = .ok (.iload_n 0, 1) := by decide +kernel
theorem dX4_isValue_1 : decode cX4_isValue 1 = .ok (.ifCond .lt 13, 3) := by decide +kernel
theorem dX4_isValue_4 : decode cX4_isValue 4 = .ok (.iload_n 0, 1) := by decide +kernel
theorem dX4_isValue_5 : decode cX4_isValue 5 = .ok (.bipush 100, 2) := by decide +kernel
theorem dX4_isValue_7 : decode cX4_isValue 7 = .ok (.if_icmp .ge 7, 3) := by decide +kernel
theorem dX4_isValue_10 : decode cX4_isValue 10 = .ok (.iconst 1, 1) := by decide +kernel
theorem dX4_isValue_11 : decode cX4_isValue 11 = .ok (.goto 4, 3) := by decide +kernel
theorem dX4_isValue_14 : decode cX4_isValue 14 = .ok (.iconst 0, 1) := by decide +kernel
theorem dX4_isValue_15 : decode cX4_isValue 15 = .ok (.ireturn, 1) := by decide +kernel
theorem dX4_joinValue_0 : decode cX4_joinValue 0 = .ok (.aload_n 0, 1) := by decide +kernel
theorem dX4_joinValue_1 : decode cX4_joinValue 1 = .ok (.getfield 12, 3) := by decide +kernel
theorem dX4_joinValue_4 : decode cX4_joinValue 4 = .ok (.iload_n 1, 1) := by decide +kernel
theorem dX4_joinValue_5 : decode cX4_joinValue 5 = .ok (.aaload, 1) := by decide +kernel
theorem dX4_joinValue_6 : decode cX4_joinValue 6 = .ok (.iload_n 2, 1) := by decide +kernel
theorem dX4_joinValue_7 : decode cX4_joinValue 7 = .ok (.aload_n 0, 1) := by decide +kernel
theorem dX4_joinValue_8 : decode cX4_joinValue 8 = .ok (.getfield 25, 3) := by decide +kernel
theorem dX4_joinValue_11 : decode cX4_joinValue 11 = .ok (.iload_n 1, 1) := by decide +kernel
theorem dX4_joinValue_12 : decode cX4_joinValue 12 = .ok (.iaload, 1) := by decide +kernel
theorem dX4_joinValue_13 : decode cX4_joinValue 13 = .ok (.invokevirtual 144, 3) := by decide +kernel
theorem dX4_joinValue_16 : decode cX4_joinValue 16 = .ok (.ireturn, 1) := by decide +kernel
theorem dX4_makeStep_0 : decode cX4_makeStep 0 = .ok (.aload_n 0, 1) := by decide +kernel
theorem dX4_makeStep_1 : decode cX4_makeStep 1 = .ok (.invokevirtual 177, 3) := by decide +kernel
theorem dX4_makeStep_4 : decode cX4_makeStep 4 = .ok (.ifCond .eq 10, 3) := by decide +kernel
theorem dX4_makeStep_7 : decode cX4_makeStep 7 = .ok (.aload_n 0, 1) := by decide +kernel
theorem dX4_makeStep_8 : decode cX4_makeStep 8 = .ok (.invokevirtual 181, 3) := by decide +kernel
theorem dX4_makeStep_11 : decode cX4_makeStep 11 = .ok (.goto 11, 3) := by decide +kernel
theorem dX4_makeStep_14 : decode cX4_makeStep 14 = .ok (.aload_n 0, 1) := by decide +kernel
theorem dX4_makeStep_15 : decode cX4_makeStep 15 = .ok (.aload_n 0, 1) := by decide +kernel
theorem dX4_makeStep_16 : decode cX4_makeStep 16 = .ok (.invokevirtual 184, 3) := by decide +kernel
theorem dX4_makeStep_19 : decode cX4_makeStep 19 = .ok (.invokevirtual 187, 3) := by decide +kernel
theorem dX4_makeStep_22 : decode cX4_makeStep 22 = .ok (.aload_n 0, 1) := by decide +kernel
theorem dX4_makeStep_23 : decode cX4_makeStep 23 = .ok (.invokevirtual 96, 3) := by decide +kernel
theorem dX4_makeStep_26 : decode cX4_makeStep 26 = .ok (.return_, 1) := by decide +kernel
theorem dX4_bothAreReadOut_0 : decode cX4_bothAreReadOut 0 = .ok (.aload_n 0, 1) := by decide +kernel
theorem dX4_bothAreReadOut_1 : decode cX4_bothAreReadOut 1 = .ok (.getfield 21, 3) := by decide +kernel
theorem dX4_bothAreReadOut_4 : decode cX4_bothAreReadOut 4 = .ok (.iconst 0, 1) := by decide +kernel
theorem dX4_bothAreReadOut_5 : decode cX4_bothAreReadOut 5 = .ok (.aaload, 1) := by decide +kernel
theorem dX4_bothAreReadOut_6 : decode cX4_bothAreReadOut 6 = .ok (.invokevirtual 191, 3) := by decide +kernel
theorem dX4_bothAreReadOut_9 : decode cX4_bothAreReadOut 9 = .ok (.ifCond .eq 19, 3) := by decide +kernel
theorem dX4_bothAreReadOut_12 : decode cX4_bothAreReadOut 12 = .ok (.aload_n 0, 1) := by decide +kernel
theorem dX4_bothAreReadOut_13 : decode cX4_bothAreReadOut 13 = .ok (.getfield 21, 3) := by decide +kernel
theorem dX4_bothAreReadOut_16 : decode cX4_bothAreReadOut 16 = .ok (.iconst 1, 1) := by decide +kernel
theorem dX4_bothAreReadOut_17 : decode cX4_bothAreReadOut 17 = .ok (.aaload, 1) := by decide +kernel
theorem dX4_bothAreReadOut_18 : decode cX4_bothAreReadOut 18 = .ok (.invokevirtual 191, 3) := by decide +kernel
theorem dX4_bothAreReadOut_21 : decode cX4_bothAreReadOut 21 = .ok (.ifCond .eq 7, 3) := by decide +kernel
theorem dX4_bothAreReadOut_24 : decode cX4_bothAreReadOut 24 = .ok (.iconst 1, 1) := by decide +kernel
theorem dX4_bothAreReadOut_25 : decode cX4_bothAreReadOut 25 = .ok (.goto 4, 3) := by decide +kernel
theorem dX4_bothAreReadOut_28 : decode cX4_bothAreReadOut 28 = .ok (.iconst 0, 1) := by decide +kernel
theorem dX4_bothAreReadOut_29 : decode cX4_bothAreReadOut 29 = .ok (.ireturn, 1) := by decide +kernel
theorem dX4_tableToRead_0 : decode cX4_tableToRead 0 = .ok (.aload_n 0, 1) := by decide +kernel
theorem dX4_tableToRead_1 : decode cX4_tableToRead 1 = .ok (.getfield 21, 3) := by decide +kernel
theorem dX4_tableToRead_4 : decode cX4_tableToRead 4 = .ok (.iconst 0, 1) := by decide +kernel
theorem dX4_tableToRead_5 : decode cX4_tableToRead 5 = .ok (.aaload, 1) := by decide +kernel
theorem dX4_tableToRead_6 : decode cX4_tableToRead 6 = .ok (.invokevirtual 191, 3) := by decide +kernel
theorem dX4_tableToRead_9 : decode cX4_tableToRead 9 = .ok (.ifCond .eq 5, 3) := by decide +kernel
theorem dX4_tableToRead_12 : decode cX4_tableToRead 12 = .ok (.iconst 1, 1) := by decide +kernel
theorem dX4_tableToRead_13 : decode cX4_tableToRead 13 = .ok (.ireturn, 1) := by decide +kernel
theorem dX4_tableToRead_14 : decode cX4_tableToRead 14 = .ok (.aload_n 0, 1) := by decide +kernel
theorem dX4_tableToRead_15 : decode cX4_tableToRead 15 = .ok (.getfield 21, 3) := by decide +kernel
theorem dX4_tableToRead_18 : decode cX4_tableToRead 18 = .ok (.iconst 1, 1) := by decide +kernel
theorem dX4_tableToRead_19 : decode cX4_tableToRead 19 = .ok (.aaload, 1) := by decide +kernel
theorem dX4_tableToRead_20 : decode cX4_tableToRead 20 = .ok (.invokevirtual 191, 3) := by decide +kernel
theorem dX4_tableToRead_23 : decode cX4_tableToRead 23 = .ok (.ifCond .eq 5, 3) := by decide +kernel
theorem dX4_tableToRead_26 : decode cX4_tableToRead 26 = .ok (.iconst 0, 1) := by decide +kernel
theorem dX4_tableToRead_27 : decode cX4_tableToRead 27 = .ok (.ireturn, 1) := by decide +kernel
theorem dX4_tableToRead_28 : decode cX4_tableToRead 28 = .ok (.aload_n 0, 1) := by decide +kernel
theorem dX4_tableToRead_29 : decode cX4_tableToRead 29 = .ok (.getfield 50, 3) := by decide +kernel
theorem dX4_tableToRead_32 : decode cX4_tableToRead 32 = .ok (.iconst (-1), 1) := by decide +kernel
theorem dX4_tableToRead_33 : decode cX4_tableToRead 33 = .ok (.if_icmp .eq 8, 3) := by decide +kernel
theorem dX4_tableToRead_36 : decode cX4_tableToRead 36 = .ok (.aload_n 0, 1) := by decide +kernel
theorem dX4_tableToRead_37 : decode cX4_tableToRead 37 = .ok (.getfield 50, 3) := by decide +kernel
theorem dX4_tableToRead_40 : decode cX4_tableToRead 40 = .ok (.ireturn, 1) := by decide +kernel
theorem dX4_tableToRead_41 : decode cX4_tableToRead 41 = .ok (.aload_n 0, 1) := by decide +kernel
theorem dX4_tableToRead_42 : decode cX4_tableToRead 42 = .ok (.getfield 21, 3) := by decide +kernel
theorem dX4_tableToRead_45 : decode cX4_tableToRead 45 = .ok (.iconst 1, 1) := by decide +kernel
theorem dX4_tableToRead_46 : decode cX4_tableToRead 46 = .ok (.aaload, 1) := by decide +kernel
theorem dX4_tableToRead_47 : decode cX4_tableToRead 47 = .ok (.aload_n 0, 1) := by decide +kernel
theorem dX4_tableToRead_48 : decode cX4_tableToRead 48 = .ok (.getfield 21, 3) := by decide +kernel
theorem dX4_tableToRead_51 : decode cX4_tableToRead 51 = .ok (.iconst 0, 1) := by decide +kernel
theorem dX4_tableToRead_52 : decode cX4_tableToRead 52 = .ok (.aaload, 1) := by decide +kernel
theorem dX4_tableToRead_53 : decode cX4_tableToRead 53 = .ok (.invokevirtual 194, 3) := by decide +kernel
theorem dX4_tableToRead_56 : decode cX4_tableToRead 56 = .ok (.ifCond .eq 7, 3) := by decide +kernel
theorem dX4_tableToRead_59 : decode cX4_tableToRead 59 = .ok (.iconst 1, 1) := by decide +kernel
theorem dX4_tableToRead_60 : decode cX4_tableToRead 60 = .ok (.goto 4, 3) := by decide +kernel
theorem dX4_tableToRead_63 : decode cX4_tableToRead 63 = .ok (.iconst 0, 1) := by decide +kernel
theorem dX4_tableToRead_64 : decode cX4_tableToRead 64 = .ok (.ireturn, 1) := by decide +kernel
theorem dX4_readFrom_0 : decode cX4_readFrom 0 = .ok (.aload_n 0, 1) := by decide +kernel
theorem dX4_readFrom_1 : decode cX4_readFrom 1 = .ok (.getfield 78, 3) := by decide +kernel
theorem dX4_readFrom_4 : decode cX4_readFrom 4 = .ok (.iconst (-1), 1) := by decide +kernel
theorem dX4_readFrom_5 : decode cX4_readFrom 5 = .ok (.if_icmp .eq 21, 3) := by decide +kernel
theorem dX4_readFrom_8 : decode cX4_readFrom 8 = .ok (.aload_n 0, 1) := by decide +kernel
theorem dX4_readFrom_9 : decode cX4_readFrom 9 = .ok (.getfield 78, 3) := by decide +kernel
theorem dX4_readFrom_12 : decode cX4_readFrom 12 = .ok (.iload_n 1, 1) := by decide +kernel
theorem dX4_readFrom_13 : decode cX4_readFrom 13 = .ok (.if_icmp .eq 13, 3) := by decide +kernel
theorem dX4_readFrom_16 : decode cX4_readFrom 16 = .ok (.aload_n 0, 1) := by decide +kernel
theorem dX4_readFrom_17 : decode cX4_readFrom 17 = .ok (.dup, 1) := by decide +kernel
theorem dX4_readFrom_18 : decode cX4_readFrom 18 = .ok (.getfield 81, 3) := by decide +kernel
theorem dX4_readFrom_21 : decode cX4_readFrom 21 = .ok (.iconst 1, 1) := by decide +kernel
theorem dX4_readFrom_22 : decode cX4_readFrom 22 = .ok (.iadd, 1) := by decide +kernel
theorem dX4_readFrom_23 : decode cX4_readFrom 23 = .ok (.putfield 81, 3) := by decide +kernel
theorem dX4_readFrom_26 : decode cX4_readFrom 26 = .ok (.aload_n 0, 1) := by decide +kernel
theorem dX4_readFrom_27 : decode cX4_readFrom 27 = .ok (.iload_n 1, 1) := by decide +kernel
theorem dX4_readFrom_28 : decode cX4_readFrom 28 = .ok (.putfield 78, 3) := by decide +kernel
theorem dX4_readFrom_31 : decode cX4_readFrom 31 = .ok (.aload_n 0, 1) := by decide +kernel
theorem dX4_readFrom_32 : decode cX4_readFrom 32 = .ok (.getfield 21, 3) := by decide +kernel
theorem dX4_readFrom_35 : decode cX4_readFrom 35 = .ok (.iload_n 1, 1) := by decide +kernel
theorem dX4_readFrom_36 : decode cX4_readFrom 36 = .ok (.aaload, 1) := by decide +kernel
theorem dX4_readFrom_37 : decode cX4_readFrom 37 = .ok (.astore_n 2, 1) := by decide +kernel
theorem dX4_readFrom_38 : decode cX4_readFrom 38 = .ok (.aload_n 2, 1) := by decide +kernel
theorem dX4_readFrom_39 : decode cX4_readFrom 39 = .ok (.getfield 174, 3) := by decide +kernel
theorem dX4_readFrom_42 : decode cX4_readFrom 42 = .ok (.istore_n 3, 1) := by decide +kernel
theorem dX4_readFrom_43 : decode cX4_readFrom 43 = .ok (.aload_n 2, 1) := by decide +kernel
theorem dX4_readFrom_44 : decode cX4_readFrom 44 = .ok (.dup, 1) := by decide +kernel
theorem dX4_readFrom_45 : decode cX4_readFrom 45 = .ok (.getfield 174, 3) := by decide +kernel
theorem dX4_readFrom_48 : decode cX4_readFrom 48 = .ok (.iconst 1, 1) := by decide +kernel
theorem dX4_readFrom_49 : decode cX4_readFrom 49 = .ok (.iadd, 1) := by decide +kernel
theorem dX4_readFrom_50 : decode cX4_readFrom 50 = .ok (.putfield 174, 3) := by decide +kernel
theorem dX4_readFrom_53 : decode cX4_readFrom 53 = .ok (.aload_n 2, 1) := by decide +kernel
theorem dX4_readFrom_54 : decode cX4_readFrom 54 = .ok (.iload_n 3, 1) := by decide +kernel
theorem dX4_readFrom_55 : decode cX4_readFrom 55 = .ok (.invokevirtual 198, 3) := by decide +kernel
theorem dX4_readFrom_58 : decode cX4_readFrom 58 = .ok (.ifCond .eq 32, 3) := by decide +kernel
theorem dX4_readFrom_61 : decode cX4_readFrom 61 = .ok (.aload_n 0, 1) := by decide +kernel
theorem dX4_readFrom_62 : decode cX4_readFrom 62 = .ok (.iload_n 1, 1) := by decide +kernel
theorem dX4_readFrom_63 : decode cX4_readFrom 63 = .ok (.iload_n 3, 1) := by decide +kernel
theorem dX4_readFrom_64 : decode cX4_readFrom 64 = .ok (.invokevirtual 201, 3) := by decide +kernel
theorem dX4_readFrom_67 : decode cX4_readFrom 67 = .ok (.aload_n 2, 1) := by decide +kernel
theorem dX4_readFrom_68 : decode cX4_readFrom 68 = .ok (.getfield 141, 3) := by decide +kernel
theorem dX4_readFrom_71 : decode cX4_readFrom 71 = .ok (.iload_n 3, 1) := by decide +kernel
theorem dX4_readFrom_72 : decode cX4_readFrom 72 = .ok (.iconst 2, 1) := by decide +kernel
theorem dX4_readFrom_73 : decode cX4_readFrom 73 = .ok (.iastore, 1) := by decide +kernel
theorem dX4_readFrom_74 : decode cX4_readFrom 74 = .ok (.aload_n 0, 1) := by decide +kernel
theorem dX4_readFrom_75 : decode cX4_readFrom 75 = .ok (.getfield 32, 3) := by decide +kernel
theorem dX4_readFrom_78 : decode cX4_readFrom 78 = .ok (.iload_n 1, 1) := by decide +kernel
theorem dX4_readFrom_79 : decode cX4_readFrom 79 = .ok (.iload_n 3, 1) := by decide +kernel
theorem dX4_readFrom_80 : decode cX4_readFrom 80 = .ok (.invokevirtual 205, 3) := by decide +kernel
theorem dX4_readFrom_83 : decode cX4_readFrom 83 = .ok (.aload_n 0, 1) := by decide +kernel
theorem dX4_readFrom_84 : decode cX4_readFrom 84 = .ok (.invokevirtual 105, 3) := by decide +kernel
theorem dX4_readFrom_87 : decode cX4_readFrom 87 = .ok (.goto 10, 3) := by decide +kernel
theorem dX4_readFrom_90 : decode cX4_readFrom 90 = .ok (.aload_n 2, 1) := by decide +kernel
theorem dX4_readFrom_91 : decode cX4_readFrom 91 = .ok (.getfield 141, 3) := by decide +kernel
theorem dX4_readFrom_94 : decode cX4_readFrom 94 = .ok (.iload_n 3, 1) := by decide +kernel
theorem dX4_readFrom_95 : decode cX4_readFrom 95 = .ok (.iconst 1, 1) := by decide +kernel
theorem dX4_readFrom_96 : decode cX4_readFrom 96 = .ok (.iastore, 1) := by decide +kernel
theorem dX4_readFrom_97 : decode cX4_readFrom 97 = .ok (.aload_n 2, 1) := by decide +kernel
theorem dX4_readFrom_98 : decode cX4_readFrom 98 = .ok (.invokevirtual 208, 3) := by decide +kernel
theorem dX4_readFrom_101 : decode cX4_readFrom 101 = .ok (.ifCond .eq 20, 3) := by decide +kernel
theorem dX4_readFrom_104 : decode cX4_readFrom 104 = .ok (.aload_n 2, 1) := by decide +kernel
theorem dX4_readFrom_105 : decode cX4_readFrom 105 = .ok (.invokevirtual 211, 3) := by decide +kernel
theorem dX4_readFrom_108 : decode cX4_readFrom 108 = .ok (.ifCond .eq 13, 3) := by decide +kernel
theorem dX4_readFrom_111 : decode cX4_readFrom 111 = .ok (.aload_n 0, 1) := by decide +kernel
theorem dX4_readFrom_112 : decode cX4_readFrom 112 = .ok (.dup, 1) := by decide +kernel
theorem dX4_readFrom_113 : decode cX4_readFrom 113 = .ok (.getfield 84, 3) := by decide +kernel
theorem dX4_readFrom_116 : decode cX4_readFrom 116 = .ok (.iconst 1, 1) := by decide +kernel
theorem dX4_readFrom_117 : decode cX4_readFrom 117 = .ok (.iadd, 1) := by decide +kernel
theorem dX4_readFrom_118 : decode cX4_readFrom 118 = .ok (.putfield 84, 3) := by decide +kernel
theorem dX4_readFrom_121 : decode cX4_readFrom 121 = .ok (.return_, 1) := by decide +kernel
theorem dX4_givePairsOf_0 : decode cX4_givePairsOf 0 = .ok (.iconst 1, 1) := by decide +kernel
theorem dX4_givePairsOf_1 : decode cX4_givePairsOf 1 = .ok (.iload_n 1, 1) := by decide +kernel
theorem dX4_givePairsOf_2 : decode cX4_givePairsOf 2 = .ok (.isub, 1) := by decide +kernel
theorem dX4_givePairsOf_3 : decode cX4_givePairsOf 3 = .ok (.istore_n 3, 1) := by decide +kernel
theorem dX4_givePairsOf_4 : decode cX4_givePairsOf 4 = .ok (.aload_n 0, 1) := by decide +kernel
theorem dX4_givePairsOf_5 : decode cX4_givePairsOf 5 = .ok (.iload_n 1, 1) := by decide +kernel
theorem dX4_givePairsOf_6 : decode cX4_givePairsOf 6 = .ok (.iload_n 2, 1) := by decide +kernel
theorem dX4_givePairsOf_7 : decode cX4_givePairsOf 7 = .ok (.invokevirtual 156, 3) := by decide +kernel
theorem dX4_givePairsOf_10 : decode cX4_givePairsOf 10 = .ok (.istore 4, 2) := by decide +kernel
theorem dX4_givePairsOf_12 : decode cX4_givePairsOf 12 = .ok (.aload_n 0, 1) := by decide +kernel
theorem dX4_givePairsOf_13 : decode cX4_givePairsOf 13 = .ok (.getfield 32, 3) := by decide +kernel
theorem dX4_givePairsOf_16 : decode cX4_givePairsOf 16 = .ok (.getfield 171, 3) := by decide +kernel
theorem dX4_givePairsOf_19 : decode cX4_givePairsOf 19 = .ok (.istore 5, 2) := by decide +kernel
theorem dX4_givePairsOf_21 : decode cX4_givePairsOf 21 = .ok (.iload 5, 2) := by decide +kernel
theorem dX4_givePairsOf_23 : decode cX4_givePairsOf 23 = .ok (.aload_n 0, 1) := by decide +kernel
theorem dX4_givePairsOf_24 : decode cX4_givePairsOf 24 = .ok (.getfield 32, 3) := by decide +kernel
theorem dX4_givePairsOf_27 : decode cX4_givePairsOf 27 = .ok (.getfield 214, 3) := by decide +kernel
theorem dX4_givePairsOf_30 : decode cX4_givePairsOf 30 = .ok (.if_icmp .ge 87, 3) := by decide +kernel
theorem dX4_givePairsOf_33 : decode cX4_givePairsOf 33 = .ok (.aload_n 0, 1) := by decide +kernel
theorem dX4_givePairsOf_34 : decode cX4_givePairsOf 34 = .ok (.getfield 32, 3) := by decide +kernel
theorem dX4_givePairsOf_37 : decode cX4_givePairsOf 37 = .ok (.iload 5, 2) := by decide +kernel
theorem dX4_givePairsOf_39 : decode cX4_givePairsOf 39 = .ok (.invokevirtual 217, 3) := by decide +kernel
theorem dX4_givePairsOf_42 : decode cX4_givePairsOf 42 = .ok (.istore 6, 2) := by decide +kernel
theorem dX4_givePairsOf_44 : decode cX4_givePairsOf 44 = .ok (.aload_n 0, 1) := by decide +kernel
theorem dX4_givePairsOf_45 : decode cX4_givePairsOf 45 = .ok (.getfield 32, 3) := by decide +kernel
theorem dX4_givePairsOf_48 : decode cX4_givePairsOf 48 = .ok (.iload 5, 2) := by decide +kernel
theorem dX4_givePairsOf_50 : decode cX4_givePairsOf 50 = .ok (.invokevirtual 221, 3) := by decide +kernel
theorem dX4_givePairsOf_53 : decode cX4_givePairsOf 53 = .ok (.iload_n 3, 1) := by decide +kernel
theorem dX4_givePairsOf_54 : decode cX4_givePairsOf 54 = .ok (.if_icmp .ne 57, 3) := by decide +kernel
theorem dX4_givePairsOf_57 : decode cX4_givePairsOf 57 = .ok (.aload_n 0, 1) := by decide +kernel
theorem dX4_givePairsOf_58 : decode cX4_givePairsOf 58 = .ok (.iload_n 3, 1) := by decide +kernel
theorem dX4_givePairsOf_59 : decode cX4_givePairsOf 59 = .ok (.iload 6, 2) := by decide +kernel
theorem dX4_givePairsOf_61 : decode cX4_givePairsOf 61 = .ok (.invokevirtual 156, 3) := by decide +kernel
theorem dX4_givePairsOf_64 : decode cX4_givePairsOf 64 = .ok (.iload 4, 2) := by decide +kernel
theorem dX4_givePairsOf_66 : decode cX4_givePairsOf 66 = .ok (.if_icmp .ne 45, 3) := by decide +kernel
theorem dX4_givePairsOf_69 : decode cX4_givePairsOf 69 = .ok (.aload_n 0, 1) := by decide +kernel
theorem dX4_givePairsOf_70 : decode cX4_givePairsOf 70 = .ok (.getfield 39, 3) := by decide +kernel
theorem dX4_givePairsOf_73 : decode cX4_givePairsOf 73 = .ok (.iload_n 1, 1) := by decide +kernel
theorem dX4_givePairsOf_74 : decode cX4_givePairsOf 74 = .ok (.ifCond .ne 7, 3) := by decide +kernel
theorem dX4_givePairsOf_77 : decode cX4_givePairsOf 77 = .ok (.iload_n 2, 1) := by decide +kernel
theorem dX4_givePairsOf_78 : decode cX4_givePairsOf 78 = .ok (.goto 5, 3) := by decide +kernel
theorem dX4_givePairsOf_81 : decode cX4_givePairsOf 81 = .ok (.iload 6, 2) := by decide +kernel
theorem dX4_givePairsOf_83 : decode cX4_givePairsOf 83 = .ok (.iload_n 1, 1) := by decide +kernel
theorem dX4_givePairsOf_84 : decode cX4_givePairsOf 84 = .ok (.ifCond .ne 8, 3) := by decide +kernel
theorem dX4_givePairsOf_87 : decode cX4_givePairsOf 87 = .ok (.iload 6, 2) := by decide +kernel
theorem dX4_givePairsOf_89 : decode cX4_givePairsOf 89 = .ok (.goto 4, 3) := by decide +kernel
theorem dX4_givePairsOf_92 : decode cX4_givePairsOf 92 = .ok (.iload_n 2, 1) := by decide +kernel
theorem dX4_givePairsOf_93 : decode cX4_givePairsOf 93 = .ok (.invokevirtual 224, 3) := by decide +kernel
theorem dX4_givePairsOf_96 : decode cX4_givePairsOf 96 = .ok (.aload_n 0, 1) := by decide +kernel
theorem dX4_givePairsOf_97 : decode cX4_givePairsOf 97 = .ok (.getfield 21, 3) := by decide +kernel
theorem dX4_givePairsOf_100 : decode cX4_givePairsOf 100 = .ok (.iload_n 1, 1) := by decide +kernel
theorem dX4_givePairsOf_101 : decode cX4_givePairsOf 101 = .ok (.aaload, 1) := by decide +kernel
theorem dX4_givePairsOf_102 : decode cX4_givePairsOf 102 = .ok (.dup, 1) := by decide +kernel
theorem dX4_givePairsOf_103 : decode cX4_givePairsOf 103 = .ok (.getfield 227, 3) := by decide +kernel
theorem dX4_givePairsOf_106 : decode cX4_givePairsOf 106 = .ok (.iconst 1, 1) := by decide +kernel
theorem dX4_givePairsOf_107 : decode cX4_givePairsOf 107 = .ok (.iadd, 1) := by decide +kernel
theorem dX4_givePairsOf_108 : decode cX4_givePairsOf 108 = .ok (.putfield 227, 3) := by decide +kernel
theorem dX4_givePairsOf_111 : decode cX4_givePairsOf 111 = .ok (.iinc 5 1, 3) := by decide +kernel
theorem dX4_givePairsOf_114 : decode cX4_givePairsOf 114 = .ok (.goto (-93), 3) := by decide +kernel
theorem dX4_givePairsOf_117 : decode cX4_givePairsOf 117 = .ok (.return_, 1) := by decide +kernel
theorem dX4_spillExcess_0 : decode cX4_spillExcess 0 = .ok (.aload_n 0, 1) := by decide +kernel
theorem dX4_spillExcess_1 : decode cX4_spillExcess 1 = .ok (.getfield 32, 3) := by decide +kernel
theorem dX4_spillExcess_4 : decode cX4_spillExcess 4 = .ok (.invokevirtual 169, 3) := by decide +kernel
theorem dX4_spillExcess_7 : decode cX4_spillExcess 7 = .ok (.aload_n 0, 1) := by decide +kernel
theorem dX4_spillExcess_8 : decode cX4_spillExcess 8 = .ok (.getfield 32, 3) := by decide +kernel
theorem dX4_spillExcess_11 : decode cX4_spillExcess 11 = .ok (.getfield 102, 3) := by decide +kernel
theorem dX4_spillExcess_14 : decode cX4_spillExcess 14 = .ok (.isub, 1) := by decide +kernel
theorem dX4_spillExcess_15 : decode cX4_spillExcess 15 = .ok (.istore_n 1, 1) := by decide +kernel
theorem dX4_spillExcess_16 : decode cX4_spillExcess 16 = .ok (.iload_n 1, 1) := by decide +kernel
theorem dX4_spillExcess_17 : decode cX4_spillExcess 17 = .ok (.ifCond .le 56, 3) := by decide +kernel
theorem dX4_spillExcess_20 : decode cX4_spillExcess 20 = .ok (.aload_n 0, 1) := by decide +kernel
theorem dX4_spillExcess_21 : decode cX4_spillExcess 21 = .ok (.getfield 32, 3) := by decide +kernel
theorem dX4_spillExcess_24 : decode cX4_spillExcess 24 = .ok (.getfield 171, 3) := by decide +kernel
theorem dX4_spillExcess_27 : decode cX4_spillExcess 27 = .ok (.istore_n 2, 1) := by decide +kernel
theorem dX4_spillExcess_28 : decode cX4_spillExcess 28 = .ok (.aload_n 0, 1) := by decide +kernel
theorem dX4_spillExcess_29 : decode cX4_spillExcess 29 = .ok (.getfield 21, 3) := by decide +kernel
theorem dX4_spillExcess_32 : decode cX4_spillExcess 32 = .ok (.aload_n 0, 1) := by decide +kernel
theorem dX4_spillExcess_33 : decode cX4_spillExcess 33 = .ok (.getfield 32, 3) := by decide +kernel
theorem dX4_spillExcess_36 : decode cX4_spillExcess 36 = .ok (.iload_n 2, 1) := by decide +kernel
theorem dX4_spillExcess_37 : decode cX4_spillExcess 37 = .ok (.invokevirtual 221, 3) := by decide +kernel
theorem dX4_spillExcess_40 : decode cX4_spillExcess 40 = .ok (.aaload, 1) := by decide +kernel
theorem dX4_spillExcess_41 : decode cX4_spillExcess 41 = .ok (.getfield 141, 3) := by decide +kernel
theorem dX4_spillExcess_44 : decode cX4_spillExcess 44 = .ok (.aload_n 0, 1) := by decide +kernel
theorem dX4_spillExcess_45 : decode cX4_spillExcess 45 = .ok (.getfield 32, 3) := by decide +kernel
theorem dX4_spillExcess_48 : decode cX4_spillExcess 48 = .ok (.iload_n 2, 1) := by decide +kernel
theorem dX4_spillExcess_49 : decode cX4_spillExcess 49 = .ok (.invokevirtual 217, 3) := by decide +kernel
theorem dX4_spillExcess_52 : decode cX4_spillExcess 52 = .ok (.iconst 3, 1) := by decide +kernel
theorem dX4_spillExcess_53 : decode cX4_spillExcess 53 = .ok (.iastore, 1) := by decide +kernel
theorem dX4_spillExcess_54 : decode cX4_spillExcess 54 = .ok (.aload_n 0, 1) := by decide +kernel
theorem dX4_spillExcess_55 : decode cX4_spillExcess 55 = .ok (.getfield 32, 3) := by decide +kernel
theorem dX4_spillExcess_58 : decode cX4_spillExcess 58 = .ok (.dup, 1) := by decide +kernel
theorem dX4_spillExcess_59 : decode cX4_spillExcess 59 = .ok (.getfield 171, 3) := by decide +kernel
theorem dX4_spillExcess_62 : decode cX4_spillExcess 62 = .ok (.iconst 1, 1) := by decide +kernel
theorem dX4_spillExcess_63 : decode cX4_spillExcess 63 = .ok (.iadd, 1) := by decide +kernel
theorem dX4_spillExcess_64 : decode cX4_spillExcess 64 = .ok (.putfield 171, 3) := by decide +kernel
theorem dX4_spillExcess_67 : decode cX4_spillExcess 67 = .ok (.iinc 1 (-1), 3) := by decide +kernel
theorem dX4_spillExcess_70 : decode cX4_spillExcess 70 = .ok (.goto (-54), 3) := by decide +kernel
theorem dX4_spillExcess_73 : decode cX4_spillExcess 73 = .ok (.return_, 1) := by decide +kernel
theorem dX4_giveLatePair_0 : decode cX4_giveLatePair 0 = .ok (.aload_n 0, 1) := by decide +kernel
theorem dX4_giveLatePair_1 : decode cX4_giveLatePair 1 = .ok (.getfield 39, 3) := by decide +kernel
theorem dX4_giveLatePair_4 : decode cX4_giveLatePair 4 = .ok (.aload_n 0, 1) := by decide +kernel
theorem dX4_giveLatePair_5 : decode cX4_giveLatePair 5 = .ok (.getfield 90, 3) := by decide +kernel
theorem dX4_giveLatePair_8 : decode cX4_giveLatePair 8 = .ok (.aload_n 0, 1) := by decide +kernel
theorem dX4_giveLatePair_9 : decode cX4_giveLatePair 9 = .ok (.getfield 93, 3) := by decide +kernel
theorem dX4_giveLatePair_12 : decode cX4_giveLatePair 12 = .ok (.invokevirtual 224, 3) := by decide +kernel
theorem dX4_giveLatePair_15 : decode cX4_giveLatePair 15 = .ok (.aload_n 0, 1) := by decide +kernel
theorem dX4_giveLatePair_16 : decode cX4_giveLatePair 16 = .ok (.dup, 1) := by decide +kernel
theorem dX4_giveLatePair_17 : decode cX4_giveLatePair 17 = .ok (.getfield 87, 3) := by decide +kernel
theorem dX4_giveLatePair_20 : decode cX4_giveLatePair 20 = .ok (.iconst 2, 1) := by decide +kernel
theorem dX4_giveLatePair_21 : decode cX4_giveLatePair 21 = .ok (.iadd, 1) := by decide +kernel
theorem dX4_giveLatePair_22 : decode cX4_giveLatePair 22 = .ok (.putfield 87, 3) := by decide +kernel
theorem dX4_giveLatePair_25 : decode cX4_giveLatePair 25 = .ok (.return_, 1) := by decide +kernel
theorem dX4_endIfNothingIsLeft_0 : decode cX4_endIfNothingIsLeft 0 = .ok (.aload_n 0, 1) := by decide +kernel
theorem dX4_endIfNothingIsLeft_1 : decode cX4_endIfNothingIsLeft 1 = .ok (.invokevirtual 177, 3) := by decide +kernel
theorem dX4_endIfNothingIsLeft_4 : decode cX4_endIfNothingIsLeft 4 = .ok (.ifCond .eq 15, 3) := by decide +kernel
theorem dX4_endIfNothingIsLeft_7 : decode cX4_endIfNothingIsLeft 7 = .ok (.aload_n 0, 1) := by decide +kernel
theorem dX4_endIfNothingIsLeft_8 : decode cX4_endIfNothingIsLeft 8 = .ok (.invokevirtual 230, 3) := by decide +kernel
theorem dX4_endIfNothingIsLeft_11 : decode cX4_endIfNothingIsLeft 11 = .ok (.ifCond .ne 8, 3) := by decide +kernel
theorem dX4_endIfNothingIsLeft_14 : decode cX4_endIfNothingIsLeft 14 = .ok (.aload_n 0, 1) := by decide +kernel
theorem dX4_endIfNothingIsLeft_15 : decode cX4_endIfNothingIsLeft 15 = .ok (.iconst 2, 1) := by decide +kernel
theorem dX4_endIfNothingIsLeft_16 : decode cX4_endIfNothingIsLeft 16 = .ok (.putfield 46, 3) := by decide +kernel
theorem dX4_endIfNothingIsLeft_19 : decode cX4_endIfNothingIsLeft 19 = .ok (.return_, 1) := by decide +kernel
theorem dX4_findLatePair_0 : decode cX4_findLatePair 0 = .ok (.aload_n 0, 1) := by decide +kernel
theorem dX4_findLatePair_1 : decode cX4_findLatePair 1 = .ok (.getfield 90, 3) := by decide +kernel
theorem dX4_findLatePair_4 : decode cX4_findLatePair 4 = .ok (.aload_n 0, 1) := by decide +kernel
theorem dX4_findLatePair_5 : decode cX4_findLatePair 5 = .ok (.getfield 12, 3) := by decide +kernel
theorem dX4_findLatePair_8 : decode cX4_findLatePair 8 = .ok (.iconst 0, 1) := by decide +kernel
theorem dX4_findLatePair_9 : decode cX4_findLatePair 9 = .ok (.aaload, 1) := by decide +kernel
theorem dX4_findLatePair_10 : decode cX4_findLatePair 10 = .ok (.getfield 138, 3) := by decide +kernel
theorem dX4_findLatePair_13 : decode cX4_findLatePair 13 = .ok (.if_icmp .ge 46, 3) := by decide +kernel
theorem dX4_findLatePair_16 : decode cX4_findLatePair 16 = .ok (.aload_n 0, 1) := by decide +kernel
theorem dX4_findLatePair_17 : decode cX4_findLatePair 17 = .ok (.getfield 21, 3) := by decide +kernel
theorem dX4_findLatePair_20 : decode cX4_findLatePair 20 = .ok (.iconst 0, 1) := by decide +kernel
theorem dX4_findLatePair_21 : decode cX4_findLatePair 21 = .ok (.aaload, 1) := by decide +kernel
theorem dX4_findLatePair_22 : decode cX4_findLatePair 22 = .ok (.aload_n 0, 1) := by decide +kernel
theorem dX4_findLatePair_23 : decode cX4_findLatePair 23 = .ok (.getfield 90, 3) := by decide +kernel
theorem dX4_findLatePair_26 : decode cX4_findLatePair 26 = .ok (.invokevirtual 233, 3) := by decide +kernel
theorem dX4_findLatePair_29 : decode cX4_findLatePair 29 = .ok (.ifCond .eq 12, 3) := by decide +kernel
theorem dX4_findLatePair_32 : decode cX4_findLatePair 32 = .ok (.aload_n 0, 1) := by decide +kernel
theorem dX4_findLatePair_33 : decode cX4_findLatePair 33 = .ok (.invokevirtual 236, 3) := by decide +kernel
theorem dX4_findLatePair_36 : decode cX4_findLatePair 36 = .ok (.ifCond .eq 5, 3) := by decide +kernel
theorem dX4_findLatePair_39 : decode cX4_findLatePair 39 = .ok (.iconst 1, 1) := by decide +kernel
theorem dX4_findLatePair_40 : decode cX4_findLatePair 40 = .ok (.ireturn, 1) := by decide +kernel
theorem dX4_findLatePair_41 : decode cX4_findLatePair 41 = .ok (.aload_n 0, 1) := by decide +kernel
theorem dX4_findLatePair_42 : decode cX4_findLatePair 42 = .ok (.dup, 1) := by decide +kernel
theorem dX4_findLatePair_43 : decode cX4_findLatePair 43 = .ok (.getfield 90, 3) := by decide +kernel
theorem dX4_findLatePair_46 : decode cX4_findLatePair 46 = .ok (.iconst 1, 1) := by decide +kernel
theorem dX4_findLatePair_47 : decode cX4_findLatePair 47 = .ok (.iadd, 1) := by decide +kernel
theorem dX4_findLatePair_48 : decode cX4_findLatePair 48 = .ok (.putfield 90, 3) := by decide +kernel
theorem dX4_findLatePair_51 : decode cX4_findLatePair 51 = .ok (.aload_n 0, 1) := by decide +kernel
theorem dX4_findLatePair_52 : decode cX4_findLatePair 52 = .ok (.iconst 0, 1) := by decide +kernel
theorem dX4_findLatePair_53 : decode cX4_findLatePair 53 = .ok (.putfield 93, 3) := by decide +kernel
theorem dX4_findLatePair_56 : decode cX4_findLatePair 56 = .ok (.goto (-56), 3) := by decide +kernel
theorem dX4_findLatePair_59 : decode cX4_findLatePair 59 = .ok (.iconst 0, 1) := by decide +kernel
theorem dX4_findLatePair_60 : decode cX4_findLatePair 60 = .ok (.ireturn, 1) := by decide +kernel
theorem dX4_findLateRow1_0 : decode cX4_findLateRow1 0 = .ok (.aload_n 0, 1) := by decide +kernel
theorem dX4_findLateRow1_1 : decode cX4_findLateRow1 1 = .ok (.getfield 93, 3) := by decide +kernel
theorem dX4_findLateRow1_4 : decode cX4_findLateRow1 4 = .ok (.aload_n 0, 1) := by decide +kernel
theorem dX4_findLateRow1_5 : decode cX4_findLateRow1 5 = .ok (.getfield 12, 3) := by decide +kernel
theorem dX4_findLateRow1_8 : decode cX4_findLateRow1 8 = .ok (.iconst 1, 1) := by decide +kernel
theorem dX4_findLateRow1_9 : decode cX4_findLateRow1 9 = .ok (.aaload, 1) := by decide +kernel
theorem dX4_findLateRow1_10 : decode cX4_findLateRow1 10 = .ok (.getfield 138, 3) := by decide +kernel
theorem dX4_findLateRow1_13 : decode cX4_findLateRow1 13 = .ok (.if_icmp .ge 73, 3) := by decide +kernel
theorem dX4_findLateRow1_16 : decode cX4_findLateRow1 16 = .ok (.aload_n 0, 1) := by decide +kernel
theorem dX4_findLateRow1_17 : decode cX4_findLateRow1 17 = .ok (.getfield 21, 3) := by decide +kernel
theorem dX4_findLateRow1_20 : decode cX4_findLateRow1 20 = .ok (.iconst 1, 1) := by decide +kernel
theorem dX4_findLateRow1_21 : decode cX4_findLateRow1 21 = .ok (.aaload, 1) := by decide +kernel
theorem dX4_findLateRow1_22 : decode cX4_findLateRow1 22 = .ok (.aload_n 0, 1) := by decide +kernel
theorem dX4_findLateRow1_23 : decode cX4_findLateRow1 23 = .ok (.getfield 93, 3) := by decide +kernel
theorem dX4_findLateRow1_26 : decode cX4_findLateRow1 26 = .ok (.invokevirtual 233, 3) := by decide +kernel
theorem dX4_findLateRow1_29 : decode cX4_findLateRow1 29 = .ok (.ifCond .eq 44, 3) := by decide +kernel
theorem dX4_findLateRow1_32 : decode cX4_findLateRow1 32 = .ok (.aload_n 0, 1) := by decide +kernel
theorem dX4_findLateRow1_33 : decode cX4_findLateRow1 33 = .ok (.iconst 0, 1) := by decide +kernel
theorem dX4_findLateRow1_34 : decode cX4_findLateRow1 34 = .ok (.aload_n 0, 1) := by decide +kernel
theorem dX4_findLateRow1_35 : decode cX4_findLateRow1 35 = .ok (.getfield 90, 3) := by decide +kernel
theorem dX4_findLateRow1_38 : decode cX4_findLateRow1 38 = .ok (.invokevirtual 156, 3) := by decide +kernel
theorem dX4_findLateRow1_41 : decode cX4_findLateRow1 41 = .ok (.aload_n 0, 1) := by decide +kernel
theorem dX4_findLateRow1_42 : decode cX4_findLateRow1 42 = .ok (.iconst 1, 1) := by decide +kernel
theorem dX4_findLateRow1_43 : decode cX4_findLateRow1 43 = .ok (.aload_n 0, 1) := by decide +kernel
theorem dX4_findLateRow1_44 : decode cX4_findLateRow1 44 = .ok (.getfield 93, 3) := by decide +kernel
theorem dX4_findLateRow1_47 : decode cX4_findLateRow1 47 = .ok (.invokevirtual 156, 3) := by decide +kernel
theorem dX4_findLateRow1_50 : decode cX4_findLateRow1 50 = .ok (.if_icmp .ne 23, 3) := by decide +kernel
theorem dX4_findLateRow1_53 : decode cX4_findLateRow1 53 = .ok (.aload_n 0, 1) := by decide +kernel
theorem dX4_findLateRow1_54 : decode cX4_findLateRow1 54 = .ok (.getfield 39, 3) := by decide +kernel
theorem dX4_findLateRow1_57 : decode cX4_findLateRow1 57 = .ok (.aload_n 0, 1) := by decide +kernel
theorem dX4_findLateRow1_58 : decode cX4_findLateRow1 58 = .ok (.getfield 90, 3) := by decide +kernel
theorem dX4_findLateRow1_61 : decode cX4_findLateRow1 61 = .ok (.aload_n 0, 1) := by decide +kernel
theorem dX4_findLateRow1_62 : decode cX4_findLateRow1 62 = .ok (.getfield 93, 3) := by decide +kernel
theorem dX4_findLateRow1_65 : decode cX4_findLateRow1 65 = .ok (.invokevirtual 239, 3) := by decide +kernel
theorem dX4_findLateRow1_68 : decode cX4_findLateRow1 68 = .ok (.ifCond .ne 5, 3) := by decide +kernel
theorem dX4_findLateRow1_71 : decode cX4_findLateRow1 71 = .ok (.iconst 1, 1) := by decide +kernel
theorem dX4_findLateRow1_72 : decode cX4_findLateRow1 72 = .ok (.ireturn, 1) := by decide +kernel
theorem dX4_findLateRow1_73 : decode cX4_findLateRow1 73 = .ok (.aload_n 0, 1) := by decide +kernel
theorem dX4_findLateRow1_74 : decode cX4_findLateRow1 74 = .ok (.dup, 1) := by decide +kernel
theorem dX4_findLateRow1_75 : decode cX4_findLateRow1 75 = .ok (.getfield 93, 3) := by decide +kernel
theorem dX4_findLateRow1_78 : decode cX4_findLateRow1 78 = .ok (.iconst 1, 1) := by decide +kernel
theorem dX4_findLateRow1_79 : decode cX4_findLateRow1 79 = .ok (.iadd, 1) := by decide +kernel
theorem dX4_findLateRow1_80 : decode cX4_findLateRow1 80 = .ok (.putfield 93, 3) := by decide +kernel
theorem dX4_findLateRow1_83 : decode cX4_findLateRow1 83 = .ok (.goto (-83), 3) := by decide +kernel
theorem dX4_findLateRow1_86 : decode cX4_findLateRow1 86 = .ok (.iconst 0, 1) := by decide +kernel
theorem dX4_findLateRow1_87 : decode cX4_findLateRow1 87 = .ok (.ireturn, 1) := by decide +kernel
