theorem dX4_init_0 : decode cX4_init 0 = .ok (.aload_n 0, 1) := by decide +kernel
theorem dX4_init_1 : decode cX4_init 1 = .ok (.invokespecial 3, 3) := by decide +kernel
theorem dX4_init_4 : decode cX4_init 4 = .ok (.aload_n 0, 1) := by decide +kernel
theorem dX4_init_5 : decode cX4_init 5 = .ok (.sipush 2400, 3) := by decide +kernel
theorem dX4_init_8 : decode cX4_init 8 = .ok (.newarray .int, 2) := by decide +kernel
theorem dX4_init_10 : decode cX4_init 10 = .ok (.putfield 9, 3) := by decide +kernel
theorem dX4_init_13 : decode cX4_init 13 = .ok (.aload_n 0, 1) := by decide +kernel
theorem dX4_init_14 : decode cX4_init 14 = .ok (.sipush 400, 3) := by decide +kernel
theorem dX4_init_17 : decode cX4_init 17 = .ok (.newarray .int, 2) := by decide +kernel
theorem dX4_init_19 : decode cX4_init 19 = .ok (.putfield 15, 3) := by decide +kernel
theorem dX4_init_22 : decode cX4_init 22 = .ok (.aload_n 0, 1) := by decide +kernel
theorem dX4_init_23 : decode cX4_init 23 = .ok (.sipush 512, 3) := by decide +kernel
theorem dX4_init_26 : decode cX4_init 26 = .ok (.newarray .int, 2) := by decide +kernel
theorem dX4_init_28 : decode cX4_init 28 = .ok (.putfield 18, 3) := by decide +kernel
theorem dX4_init_31 : decode cX4_init 31 = .ok (.aload_n 0, 1) := by decide +kernel
theorem dX4_init_32 : decode cX4_init 32 = .ok (.sipush 400, 3) := by decide +kernel
theorem dX4_init_35 : decode cX4_init 35 = .ok (.newarray .int, 2) := by decide +kernel
theorem dX4_init_37 : decode cX4_init 37 = .ok (.putfield 21, 3) := by decide +kernel
theorem dX4_init_40 : decode cX4_init 40 = .ok (.return_, 1) := by decide +kernel
theorem dX4_clear_0 : decode cX4_clear 0 = .ok (.aload_n 0, 1) := by decide +kernel
theorem dX4_clear_1 : decode cX4_clear 1 = .ok (.iconst 0, 1) := by decide +kernel
theorem dX4_clear_2 : decode cX4_clear 2 = .ok (.putfield 24, 3) := by decide +kernel
theorem dX4_clear_5 : decode cX4_clear 5 = .ok (.aload_n 0, 1) := by decide +kernel
theorem dX4_clear_6 : decode cX4_clear 6 = .ok (.getfield 18, 3) := by decide +kernel
theorem dX4_clear_9 : decode cX4_clear 9 = .ok (.iconst (-1), 1) := by decide +kernel
theorem dX4_clear_10 : decode cX4_clear 10 = .ok (.invokestatic 28, 3) := by decide +kernel
theorem dX4_clear_13 : decode cX4_clear 13 = .ok (.return_, 1) := by decide +kernel
theorem dX4_count_0 : decode cX4_count 0 = .ok (.aload_n 0, 1) := by decide +kernel
theorem dX4_count_1 : decode cX4_count 1 = .ok (.getfield 24, 3) := by decide +kernel
theorem dX4_count_4 : decode cX4_count 4 = .ok (.ireturn, 1) := by decide +kernel
theorem dX4_isFull_0 : decode cX4_isFull 0 = .ok (.aload_n 0, 1) := by decide +kernel
theorem dX4_isFull_1 : decode cX4_isFull 1 = .ok (.getfield 24, 3) := by decide +kernel
theorem dX4_isFull_4 : decode cX4_isFull 4 = .ok (.sipush 400, 3) := by decide +kernel
theorem dX4_isFull_7 : decode cX4_isFull 7 = .ok (.if_icmp .lt 7, 3) := by decide +kernel
theorem dX4_isFull_10 : decode cX4_isFull 10 = .ok (.iconst 1, 1) := by decide +kernel
theorem dX4_isFull_11 : decode cX4_isFull 11 = .ok (.goto 4, 3) := by decide +kernel
theorem dX4_isFull_14 : decode cX4_isFull 14 = .ok (.iconst 0, 1) := by decide +kernel
theorem dX4_isFull_15 : decode cX4_isFull 15 = .ok (.ireturn, 1) := by decide +kernel
theorem dX4_has_0 : decode cX4_has 0 = .ok (.iload_n 1, 1) := by decide +kernel
theorem dX4_has_1 : decode cX4_has 1 = .ok (.ifCond .lt 15, 3) := by decide +kernel
theorem dX4_has_4 : decode cX4_has 4 = .ok (.iload_n 1, 1) := by decide +kernel
theorem dX4_has_5 : decode cX4_has 5 = .ok (.aload_n 0, 1) := by decide +kernel
theorem dX4_has_6 : decode cX4_has 6 = .ok (.getfield 24, 3) := by decide +kernel
theorem dX4_has_9 : decode cX4_has 9 = .ok (.if_icmp .ge 7, 3) := by decide +kernel
theorem dX4_has_12 : decode cX4_has 12 = .ok (.iconst 1, 1) := by decide +kernel
theorem dX4_has_13 : decode cX4_has 13 = .ok (.goto 4, 3) := by decide +kernel
theorem dX4_has_16 : decode cX4_has 16 = .ok (.iconst 0, 1) := by decide +kernel
theorem dX4_has_17 : decode cX4_has 17 = .ok (.ireturn, 1) := by decide +kernel
theorem dX4_parentOf_0 : decode cX4_parentOf 0 = .ok (.aload_n 0, 1) := by decide +kernel
theorem dX4_parentOf_1 : decode cX4_parentOf 1 = .ok (.iload_n 1, 1) := by decide +kernel
theorem dX4_parentOf_2 : decode cX4_parentOf 2 = .ok (.invokevirtual 34, 3) := by decide +kernel
theorem dX4_parentOf_5 : decode cX4_parentOf 5 = .ok (.ifCond .eq 12, 3) := by decide +kernel
theorem dX4_parentOf_8 : decode cX4_parentOf 8 = .ok (.aload_n 0, 1) := by decide +kernel
theorem dX4_parentOf_9 : decode cX4_parentOf 9 = .ok (.getfield 15, 3) := by decide +kernel
theorem dX4_parentOf_12 : decode cX4_parentOf 12 = .ok (.iload_n 1, 1) := by decide +kernel
theorem dX4_parentOf_13 : decode cX4_parentOf 13 = .ok (.iaload, 1) := by decide +kernel
theorem dX4_parentOf_14 : decode cX4_parentOf 14 = .ok (.goto 4, 3) := by decide +kernel
theorem dX4_parentOf_17 : decode cX4_parentOf 17 = .ok (.iconst (-1), 1) := by decide +kernel
theorem dX4_parentOf_18 : decode cX4_parentOf 18 = .ok (.ireturn, 1) := by decide +kernel
theorem dX4_copyOut_0 : decode cX4_copyOut 0 = .ok (.aload_n 0, 1) := by decide +kernel
theorem dX4_copyOut_1 : decode cX4_copyOut 1 = .ok (.iload_n 1, 1) := by decide +kernel
theorem dX4_copyOut_2 : decode cX4_copyOut 2 = .ok (.invokevirtual 34, 3) := by decide +kernel
theorem dX4_copyOut_5 : decode cX4_copyOut 5 = .ok (.ifCond .eq 18, 3) := by decide +kernel
theorem dX4_copyOut_8 : decode cX4_copyOut 8 = .ok (.aload_n 0, 1) := by decide +kernel
theorem dX4_copyOut_9 : decode cX4_copyOut 9 = .ok (.getfield 9, 3) := by decide +kernel
theorem dX4_copyOut_12 : decode cX4_copyOut 12 = .ok (.iload_n 1, 1) := by decide +kernel
theorem dX4_copyOut_13 : decode cX4_copyOut 13 = .ok (.bipush 6, 2) := by decide +kernel
theorem dX4_copyOut_15 : decode cX4_copyOut 15 = .ok (.imul, 1) := by decide +kernel
theorem dX4_copyOut_16 : decode cX4_copyOut 16 = .ok (.aload_n 2, 1) := by decide +kernel
theorem dX4_copyOut_17 : decode cX4_copyOut 17 = .ok (.iconst 0, 1) := by decide +kernel
theorem dX4_copyOut_18 : decode cX4_copyOut 18 = .ok (.bipush 6, 2) := by decide +kernel
theorem dX4_copyOut_20 : decode cX4_copyOut 20 = .ok (.invokestatic 38, 3) := by decide +kernel
theorem dX4_copyOut_23 : decode cX4_copyOut 23 = .ok (.return_, 1) := by decide +kernel
theorem dX4_add_0 : decode cX4_add 0 = .ok (.aload_n 0, 1) := by decide +kernel
theorem dX4_add_1 : decode cX4_add 1 = .ok (.getfield 24, 3) := by decide +kernel
theorem dX4_add_4 : decode cX4_add 4 = .ok (.sipush 400, 3) := by decide +kernel
theorem dX4_add_7 : decode cX4_add 7 = .ok (.if_icmp .lt 4, 3) := by decide +kernel
theorem dX4_add_10 : decode cX4_add 10 = .ok (.return_, 1) := by decide +kernel
theorem dX4_add_11 : decode cX4_add 11 = .ok (.aload_n 1, 1) := by decide +kernel
theorem dX4_add_12 : decode cX4_add 12 = .ok (.invokestatic 44, 3) := by decide +kernel
theorem dX4_add_15 : decode cX4_add 15 = .ok (.istore_n 3, 1) := by decide +kernel
theorem dX4_add_16 : decode cX4_add 16 = .ok (.aload_n 1, 1) := by decide +kernel
theorem dX4_add_17 : decode cX4_add 17 = .ok (.iconst 0, 1) := by decide +kernel
theorem dX4_add_18 : decode cX4_add 18 = .ok (.aload_n 0, 1) := by decide +kernel
theorem dX4_add_19 : decode cX4_add 19 = .ok (.getfield 9, 3) := by decide +kernel
theorem dX4_add_22 : decode cX4_add 22 = .ok (.aload_n 0, 1) := by decide +kernel
theorem dX4_add_23 : decode cX4_add 23 = .ok (.getfield 24, 3) := by decide +kernel
theorem dX4_add_26 : decode cX4_add 26 = .ok (.bipush 6, 2) := by decide +kernel
theorem dX4_add_28 : decode cX4_add 28 = .ok (.imul, 1) := by decide +kernel
theorem dX4_add_29 : decode cX4_add 29 = .ok (.bipush 6, 2) := by decide +kernel
theorem dX4_add_31 : decode cX4_add 31 = .ok (.invokestatic 38, 3) := by decide +kernel
theorem dX4_add_34 : decode cX4_add 34 = .ok (.aload_n 0, 1) := by decide +kernel
theorem dX4_add_35 : decode cX4_add 35 = .ok (.getfield 15, 3) := by decide +kernel
theorem dX4_add_38 : decode cX4_add 38 = .ok (.aload_n 0, 1) := by decide +kernel
theorem dX4_add_39 : decode cX4_add 39 = .ok (.getfield 24, 3) := by decide +kernel
theorem dX4_add_42 : decode cX4_add 42 = .ok (.iload_n 2, 1) := by decide +kernel
theorem dX4_add_43 : decode cX4_add 43 = .ok (.iastore, 1) := by decide +kernel
theorem dX4_add_44 : decode cX4_add 44 = .ok (.aload_n 0, 1) := by decide +kernel
theorem dX4_add_45 : decode cX4_add 45 = .ok (.getfield 21, 3) := by decide +kernel
theorem dX4_add_48 : decode cX4_add 48 = .ok (.aload_n 0, 1) := by decide +kernel
theorem dX4_add_49 : decode cX4_add 49 = .ok (.getfield 24, 3) := by decide +kernel
theorem dX4_add_52 : decode cX4_add 52 = .ok (.aload_n 0, 1) := by decide +kernel
theorem dX4_add_53 : decode cX4_add 53 = .ok (.getfield 18, 3) := by decide +kernel
theorem dX4_add_56 : decode cX4_add 56 = .ok (.iload_n 3, 1) := by decide +kernel
theorem dX4_add_57 : decode cX4_add 57 = .ok (.iaload, 1) := by decide +kernel
theorem dX4_add_58 : decode cX4_add 58 = .ok (.iastore, 1) := by decide +kernel
theorem dX4_add_59 : decode cX4_add 59 = .ok (.aload_n 0, 1) := by decide +kernel
theorem dX4_add_60 : decode cX4_add 60 = .ok (.getfield 18, 3) := by decide +kernel
theorem dX4_add_63 : decode cX4_add 63 = .ok (.iload_n 3, 1) := by decide +kernel
theorem dX4_add_64 : decode cX4_add 64 = .ok (.aload_n 0, 1) := by decide +kernel
theorem dX4_add_65 : decode cX4_add 65 = .ok (.getfield 24, 3) := by decide +kernel
theorem dX4_add_68 : decode cX4_add 68 = .ok (.iastore, 1) := by decide +kernel
theorem dX4_add_69 : decode cX4_add 69 = .ok (.aload_n 0, 1) := by decide +kernel
theorem dX4_add_70 : decode cX4_add 70 = .ok (.dup, 1) := by decide +kernel
theorem dX4_add_71 : decode cX4_add 71 = .ok (.getfield 24, 3) := by decide +kernel
theorem dX4_add_74 : decode cX4_add 74 = .ok (.iconst 1, 1) := by decide +kernel
theorem dX4_add_75 : decode cX4_add 75 = .ok (.iadd, 1) := by decide +kernel
theorem dX4_add_76 : decode cX4_add 76 = .ok (.putfield 24, 3) := by decide +kernel
theorem dX4_add_79 : decode cX4_add 79 = .ok (.return_, 1) := by decide +kernel
theorem dX4_find_0 : decode cX4_find 0 = .ok (.aload_n 0, 1) := by decide +kernel
theorem dX4_find_1 : decode cX4_find 1 = .ok (.getfield 18, 3) := by decide +kernel
theorem dX4_find_4 : decode cX4_find 4 = .ok (.aload_n 1, 1) := by decide +kernel
theorem dX4_find_5 : decode cX4_find 5 = .ok (.invokestatic 44, 3) := by decide +kernel
theorem dX4_find_8 : decode cX4_find 8 = .ok (.iaload, 1) := by decide +kernel
theorem dX4_find_9 : decode cX4_find 9 = .ok (.istore_n 2, 1) := by decide +kernel
theorem dX4_find_10 : decode cX4_find 10 = .ok (.iconst 0, 1) := by decide +kernel
theorem dX4_find_11 : decode cX4_find 11 = .ok (.istore_n 3, 1) := by decide +kernel
theorem dX4_find_12 : decode cX4_find 12 = .ok (.iload_n 3, 1) := by decide +kernel
theorem dX4_find_13 : decode cX4_find 13 = .ok (.sipush 400, 3) := by decide +kernel
theorem dX4_find_16 : decode cX4_find 16 = .ok (.if_icmp .ge 35, 3) := by decide +kernel
theorem dX4_find_19 : decode cX4_find 19 = .ok (.aload_n 0, 1) := by decide +kernel
theorem dX4_find_20 : decode cX4_find 20 = .ok (.iload_n 2, 1) := by decide +kernel
theorem dX4_find_21 : decode cX4_find 21 = .ok (.invokevirtual 34, 3) := by decide +kernel
theorem dX4_find_24 : decode cX4_find 24 = .ok (.ifCond .eq 27, 3) := by decide +kernel
theorem dX4_find_27 : decode cX4_find 27 = .ok (.aload_n 0, 1) := by decide +kernel
theorem dX4_find_28 : decode cX4_find 28 = .ok (.iload_n 2, 1) := by decide +kernel
theorem dX4_find_29 : decode cX4_find 29 = .ok (.aload_n 1, 1) := by decide +kernel
theorem dX4_find_30 : decode cX4_find 30 = .ok (.invokevirtual 48, 3) := by decide +kernel
theorem dX4_find_33 : decode cX4_find 33 = .ok (.ifCond .eq 5, 3) := by decide +kernel
theorem dX4_find_36 : decode cX4_find 36 = .ok (.iload_n 2, 1) := by decide +kernel
theorem dX4_find_37 : decode cX4_find 37 = .ok (.ireturn, 1) := by decide +kernel
theorem dX4_find_38 : decode cX4_find 38 = .ok (.aload_n 0, 1) := by decide +kernel
theorem dX4_find_39 : decode cX4_find 39 = .ok (.getfield 21, 3) := by decide +kernel
theorem dX4_find_42 : decode cX4_find 42 = .ok (.iload_n 2, 1) := by decide +kernel
theorem dX4_find_43 : decode cX4_find 43 = .ok (.iaload, 1) := by decide +kernel
theorem dX4_find_44 : decode cX4_find 44 = .ok (.istore_n 2, 1) := by decide +kernel
theorem dX4_find_45 : decode cX4_find 45 = .ok (.iinc 3 1, 3) := by decide +kernel
theorem dX4_find_48 : decode cX4_find 48 = .ok (.goto (-36), 3) := by decide +kernel
theorem dX4_find_51 : decode cX4_find 51 = .ok (.iconst (-1), 1) := by decide +kernel
theorem dX4_find_52 : decode cX4_find 52 = .ok (.ireturn, 1) := by decide +kernel
theorem dX4_isState_0 : decode cX4_isState 0 = .ok (.iconst 0, 1) := by decide +kernel
theorem dX4_isState_1 : decode cX4_isState 1 = .ok (.istore_n 3, 1) := by decide +kernel
theorem dX4_isState_2 : decode cX4_isState 2 = .ok (.iload_n 3, 1) := by decide +kernel
theorem dX4_isState_3 : decode cX4_isState 3 = .ok (.bipush 6, 2) := by decide +kernel
theorem dX4_isState_5 : decode cX4_isState 5 = .ok (.if_icmp .ge 28, 3) := by decide +kernel
theorem dX4_isState_8 : decode cX4_isState 8 = .ok (.aload_n 0, 1) := by decide +kernel
theorem dX4_isState_9 : decode cX4_isState 9 = .ok (.getfield 9, 3) := by decide +kernel
theorem dX4_isState_12 : decode cX4_isState 12 = .ok (.iload_n 1, 1) := by decide +kernel
theorem dX4_isState_13 : decode cX4_isState 13 = .ok (.bipush 6, 2) := by decide +kernel
theorem dX4_isState_15 : decode cX4_isState 15 = .ok (.imul, 1) := by decide +kernel
theorem dX4_isState_16 : decode cX4_isState 16 = .ok (.iload_n 3, 1) := by decide +kernel
theorem dX4_isState_17 : decode cX4_isState 17 = .ok (.iadd, 1) := by decide +kernel
theorem dX4_isState_18 : decode cX4_isState 18 = .ok (.iaload, 1) := by decide +kernel
theorem dX4_isState_19 : decode cX4_isState 19 = .ok (.aload_n 2, 1) := by decide +kernel
theorem dX4_isState_20 : decode cX4_isState 20 = .ok (.iload_n 3, 1) := by decide +kernel
theorem dX4_isState_21 : decode cX4_isState 21 = .ok (.iaload, 1) := by decide +kernel
theorem dX4_isState_22 : decode cX4_isState 22 = .ok (.if_icmp .eq 5, 3) := by decide +kernel
theorem dX4_isState_25 : decode cX4_isState 25 = .ok (.iconst 0, 1) := by decide +kernel
theorem dX4_isState_26 : decode cX4_isState 26 = .ok (.ireturn, 1) := by decide +kernel
theorem dX4_isState_27 : decode cX4_isState 27 = .ok (.iinc 3 1, 3) := by decide +kernel
theorem dX4_isState_30 : decode cX4_isState 30 = .ok (.goto (-28), 3) := by decide +kernel
theorem dX4_isState_33 : decode cX4_isState 33 = .ok (.iconst 1, 1) := by decide +kernel
theorem dX4_isState_34 : decode cX4_isState 34 = .ok (.ireturn, 1) := by decide +kernel
theorem dX4_bucketOf_0 : decode cX4_bucketOf 0 = .ok (.iconst 0, 1) := by decide +kernel
theorem dX4_bucketOf_1 : decode cX4_bucketOf 1 = .ok (.istore_n 1, 1) := by decide +kernel
theorem dX4_bucketOf_2 : decode cX4_bucketOf 2 = .ok (.iconst 0, 1) := by decide +kernel
theorem dX4_bucketOf_3 : decode cX4_bucketOf 3 = .ok (.istore_n 2, 1) := by decide +kernel
theorem dX4_bucketOf_4 : decode cX4_bucketOf 4 = .ok (.iload_n 2, 1) := by decide +kernel
theorem dX4_bucketOf_5 : decode cX4_bucketOf 5 = .ok (.bipush 6, 2) := by decide +kernel
theorem dX4_bucketOf_7 : decode cX4_bucketOf 7 = .ok (.if_icmp .ge 18, 3) := by decide +kernel
theorem dX4_bucketOf_10 : decode cX4_bucketOf 10 = .ok (.iload_n 1, 1) := by decide +kernel
theorem dX4_bucketOf_11 : decode cX4_bucketOf 11 = .ok (.bipush 31, 2) := by decide +kernel
theorem dX4_bucketOf_13 : decode cX4_bucketOf 13 = .ok (.imul, 1) := by decide +kernel
theorem dX4_bucketOf_14 : decode cX4_bucketOf 14 = .ok (.aload_n 0, 1) := by decide +kernel
theorem dX4_bucketOf_15 : decode cX4_bucketOf 15 = .ok (.iload_n 2, 1) := by decide +kernel
theorem dX4_bucketOf_16 : decode cX4_bucketOf 16 = .ok (.iaload, 1) := by decide +kernel
theorem dX4_bucketOf_17 : decode cX4_bucketOf 17 = .ok (.iadd, 1) := by decide +kernel
theorem dX4_bucketOf_18 : decode cX4_bucketOf 18 = .ok (.istore_n 1, 1) := by decide +kernel
theorem dX4_bucketOf_19 : decode cX4_bucketOf 19 = .ok (.iinc 2 1, 3) := by decide +kernel
theorem dX4_bucketOf_22 : decode cX4_bucketOf 22 = .ok (.goto (-18), 3) := by decide +kernel
theorem dX4_bucketOf_25 : decode cX4_bucketOf 25 = .ok (.iload_n 1, 1) := by decide +kernel
theorem dX4_bucketOf_26 : decode cX4_bucketOf 26 = .ok (.iload_n 1, 1) := by decide +kernel
theorem dX4_bucketOf_27 : decode cX4_bucketOf 27 = .ok (.bipush 9, 2) := by decide +kernel
theorem dX4_bucketOf_29 : decode cX4_bucketOf 29 = .ok (.iushr, 1) := by decide +kernel
theorem dX4_bucketOf_30 : decode cX4_bucketOf 30 = .ok (.ixor, 1) := by decide +kernel
theorem dX4_bucketOf_31 : decode cX4_bucketOf 31 = .ok (.iload_n 1, 1) := by decide +kernel
theorem dX4_bucketOf_32 : decode cX4_bucketOf 32 = .ok (.bipush 18, 2) := by decide +kernel
theorem dX4_bucketOf_34 : decode cX4_bucketOf 34 = .ok (.iushr, 1) := by decide +kernel
theorem dX4_bucketOf_35 : decode cX4_bucketOf 35 = .ok (.ixor, 1) := by decide +kernel
theorem dX4_bucketOf_36 : decode cX4_bucketOf 36 = .ok (.sipush 511, 3) := by decide +kernel
theorem dX4_bucketOf_39 : decode cX4_bucketOf 39 = .ok (.iand, 1) := by decide +kernel
theorem dX4_bucketOf_40 : decode cX4_bucketOf 40 = .ok (.ireturn, 1) := by decide +kernel
theorem dX5_init_0 : decode cX5_init 0 = .ok (.aload_n 0, 1) := by decide +kernel
theorem dX5_init_1 : decode cX5_init 1 = .ok (.invokespecial 3, 3) := by decide +kernel
theorem dX5_init_4 : decode cX5_init 4 = .ok (.aload_n 0, 1) := by decide +kernel
theorem dX5_init_5 : decode cX5_init 5 = .ok (.sipush 400, 3) := by decide +kernel
theorem dX5_init_8 : decode cX5_init 8 = .ok (.newarray .int, 2) := by decide +kernel
theorem dX5_init_10 : decode cX5_init 10 = .ok (.putfield 9, 3) := by decide +kernel
theorem dX5_init_13 : decode cX5_init 13 = .ok (.aload_n 0, 1) := by decide +kernel
theorem dX5_init_14 : decode cX5_init 14 = .ok (.sipush 400, 3) := by decide +kernel
theorem dX5_init_17 : decode cX5_init 17 = .ok (.newarray .int, 2) := by decide +kernel
theorem dX5_init_19 : decode cX5_init 19 = .ok (.putfield 15, 3) := by decide +kernel
theorem dX5_init_22 : decode cX5_init 22 = .ok (.aload_n 0, 1) := by decide +kernel
theorem dX5_init_23 : decode cX5_init 23 = .ok (.sipush 2400, 3) := by decide +kernel
theorem dX5_init_26 : decode cX5_init 26 = .ok (.newarray .int, 2) := by decide +kernel
theorem dX5_init_28 : decode cX5_init 28 = .ok (.putfield 18, 3) := by decide +kernel
theorem dX5_init_31 : decode cX5_init 31 = .ok (.return_, 1) := by decide +kernel
theorem dX5_clear_0 : decode cX5_clear 0 = .ok (.aload_n 0, 1) := by decide +kernel
theorem dX5_clear_1 : decode cX5_clear 1 = .ok (.iconst 0, 1) := by decide +kernel
theorem dX5_clear_2 : decode cX5_clear 2 = .ok (.putfield 21, 3) := by decide +kernel
theorem dX5_clear_5 : decode cX5_clear 5 = .ok (.return_, 1) := by decide +kernel
theorem dX5_steps_0 : decode cX5_steps 0 = .ok (.aload_n 0, 1) := by decide +kernel
theorem dX5_steps_1 : decode cX5_steps 1 = .ok (.getfield 21, 3) := by decide +kernel
theorem dX5_steps_4 : decode cX5_steps 4 = .ok (.ireturn, 1) := by decide +kernel
theorem dX5_hasState_0 : decode cX5_hasState 0 = .ok (.iload_n 1, 1) := by decide +kernel
theorem dX5_hasState_1 : decode cX5_hasState 1 = .ok (.ifCond .lt 22, 3) := by decide +kernel
theorem dX5_hasState_4 : decode cX5_hasState 4 = .ok (.iload_n 1, 1) := by decide +kernel
theorem dX5_hasState_5 : decode cX5_hasState 5 = .ok (.aload_n 0, 1) := by decide +kernel
theorem dX5_hasState_6 : decode cX5_hasState 6 = .ok (.getfield 21, 3) := by decide +kernel
theorem dX5_hasState_9 : decode cX5_hasState 9 = .ok (.if_icmp .gt 14, 3) := by decide +kernel
theorem dX5_hasState_12 : decode cX5_hasState 12 = .ok (.iload_n 1, 1) := by decide +kernel
theorem dX5_hasState_13 : decode cX5_hasState 13 = .ok (.sipush 400, 3) := by decide +kernel
theorem dX5_hasState_16 : decode cX5_hasState 16 = .ok (.if_icmp .ge 7, 3) := by decide +kernel
theorem dX5_hasState_19 : decode cX5_hasState 19 = .ok (.iconst 1, 1) := by decide +kernel
theorem dX5_hasState_20 : decode cX5_hasState 20 = .ok (.goto 4, 3) := by decide +kernel
theorem dX5_hasState_23 : decode cX5_hasState 23 = .ok (.iconst 0, 1) := by decide +kernel
theorem dX5_hasState_24 : decode cX5_hasState 24 = .ok (.ireturn, 1) := by decide +kernel
theorem dX5_begin_0 : decode cX5_begin 0 = .ok (.aload_n 2, 1) := by decide +kernel
theorem dX5_begin_1 : decode cX5_begin 1 = .ok (.invokevirtual 25, 3) := by decide +kernel
theorem dX5_begin_4 : decode cX5_begin 4 = .ok (.iconst 1, 1) := by decide +kernel
theorem dX5_begin_5 : decode cX5_begin 5 = .ok (.isub, 1) := by decide +kernel
theorem dX5_begin_6 : decode cX5_begin 6 = .ok (.istore_n 3, 1) := by decide +kernel
theorem dX5_begin_7 : decode cX5_begin 7 = .ok (.aload_n 0, 1) := by decide +kernel
theorem dX5_begin_8 : decode cX5_begin 8 = .ok (.iload_n 3, 1) := by decide +kernel
theorem dX5_begin_9 : decode cX5_begin 9 = .ok (.aload_n 2, 1) := by decide +kernel
theorem dX5_begin_10 : decode cX5_begin 10 = .ok (.invokestatic 31, 3) := by decide +kernel
theorem dX5_begin_13 : decode cX5_begin 13 = .ok (.putfield 21, 3) := by decide +kernel
theorem dX5_begin_16 : decode cX5_begin 16 = .ok (.iload_n 3, 1) := by decide +kernel
theorem dX5_begin_17 : decode cX5_begin 17 = .ok (.istore 4, 2) := by decide +kernel
theorem dX5_begin_19 : decode cX5_begin 19 = .ok (.aload_n 0, 1) := by decide +kernel
theorem dX5_begin_20 : decode cX5_begin 20 = .ok (.getfield 21, 3) := by decide +kernel
theorem dX5_begin_23 : decode cX5_begin 23 = .ok (.istore 5, 2) := by decide +kernel
theorem dX5_begin_25 : decode cX5_begin 25 = .ok (.iload 5, 2) := by decide +kernel
theorem dX5_begin_27 : decode cX5_begin 27 = .ok (.ifCond .lt 26, 3) := by decide +kernel
theorem dX5_begin_30 : decode cX5_begin 30 = .ok (.aload_n 0, 1) := by decide +kernel
theorem dX5_begin_31 : decode cX5_begin 31 = .ok (.getfield 9, 3) := by decide +kernel
theorem dX5_begin_34 : decode cX5_begin 34 = .ok (.iload 5, 2) := by decide +kernel
theorem dX5_begin_36 : decode cX5_begin 36 = .ok (.iload 4, 2) := by decide +kernel
theorem dX5_begin_38 : decode cX5_begin 38 = .ok (.iastore, 1) := by decide +kernel
theorem dX5_begin_39 : decode cX5_begin 39 = .ok (.aload_n 2, 1) := by decide +kernel
theorem dX5_begin_40 : decode cX5_begin 40 = .ok (.iload 4, 2) := by decide +kernel
theorem dX5_begin_42 : decode cX5_begin 42 = .ok (.invokevirtual 35, 3) := by decide +kernel
theorem dX5_begin_45 : decode cX5_begin 45 = .ok (.istore 4, 2) := by decide +kernel
theorem dX5_begin_47 : decode cX5_begin 47 = .ok (.iinc 5 (-1), 3) := by decide +kernel
theorem dX5_begin_50 : decode cX5_begin 50 = .ok (.goto (-25), 3) := by decide +kernel
theorem dX5_begin_53 : decode cX5_begin 53 = .ok (.aload_n 1, 1) := by decide +kernel
theorem dX5_begin_54 : decode cX5_begin 54 = .ok (.iconst 0, 1) := by decide +kernel
theorem dX5_begin_55 : decode cX5_begin 55 = .ok (.aload_n 0, 1) := by decide +kernel
theorem dX5_begin_56 : decode cX5_begin 56 = .ok (.getfield 18, 3) := by decide +kernel
theorem dX5_begin_59 : decode cX5_begin 59 = .ok (.iconst 0, 1) := by decide +kernel
theorem dX5_begin_60 : decode cX5_begin 60 = .ok (.bipush 6, 2) := by decide +kernel
theorem dX5_begin_62 : decode cX5_begin 62 = .ok (.invokestatic 39, 3) := by decide +kernel
theorem dX5_begin_65 : decode cX5_begin 65 = .ok (.return_, 1) := by decide +kernel
theorem dX5_stepsTo_0 : decode cX5_stepsTo 0 = .ok (.iload_n 0, 1) := by decide +kernel
theorem dX5_stepsTo_1 : decode cX5_stepsTo 1 = .ok (.istore_n 2, 1) := by decide +kernel
theorem dX5_stepsTo_2 : decode cX5_stepsTo 2 = .ok (.iconst 0, 1) := by decide +kernel
theorem dX5_stepsTo_3 : decode cX5_stepsTo 3 = .ok (.istore_n 3, 1) := by decide +kernel
theorem dX5_stepsTo_4 : decode cX5_stepsTo 4 = .ok (.iload_n 3, 1) := by decide +kernel
theorem dX5_stepsTo_5 : decode cX5_stepsTo 5 = .ok (.sipush 399, 3) := by decide +kernel
theorem dX5_stepsTo_8 : decode cX5_stepsTo 8 = .ok (.if_icmp .ge 24, 3) := by decide +kernel
theorem dX5_stepsTo_11 : decode cX5_stepsTo 11 = .ok (.aload_n 1, 1) := by decide +kernel
theorem dX5_stepsTo_12 : decode cX5_stepsTo 12 = .ok (.iload_n 2, 1) := by decide +kernel
theorem dX5_stepsTo_13 : decode cX5_stepsTo 13 = .ok (.invokevirtual 35, 3) := by decide +kernel
theorem dX5_stepsTo_16 : decode cX5_stepsTo 16 = .ok (.iconst (-1), 1) := by decide +kernel
theorem dX5_stepsTo_17 : decode cX5_stepsTo 17 = .ok (.if_icmp .eq 15, 3) := by decide +kernel
theorem dX5_stepsTo_20 : decode cX5_stepsTo 20 = .ok (.aload_n 1, 1) := by decide +kernel
theorem dX5_stepsTo_21 : decode cX5_stepsTo 21 = .ok (.iload_n 2, 1) := by decide +kernel
theorem dX5_stepsTo_22 : decode cX5_stepsTo 22 = .ok (.invokevirtual 35, 3) := by decide +kernel
theorem dX5_stepsTo_25 : decode cX5_stepsTo 25 = .ok (.istore_n 2, 1) := by decide +kernel
theorem dX5_stepsTo_26 : decode cX5_stepsTo 26 = .ok (.iinc 3 1, 3) := by decide +kernel
theorem dX5_stepsTo_29 : decode cX5_stepsTo 29 = .ok (.goto (-25), 3) := by decide +kernel
theorem dX5_stepsTo_32 : decode cX5_stepsTo 32 = .ok (.iload_n 3, 1) := by decide +kernel
theorem dX5_stepsTo_33 : decode cX5_stepsTo 33 = .ok (.ireturn, 1) := by decide +kernel
theorem dX5_wayAt_0 : decode cX5_wayAt 0 = .ok (.aload_n 0, 1) := by decide +kernel
theorem dX5_wayAt_1 : decode cX5_wayAt 1 = .ok (.iload_n 1, 1) := by decide +kernel
theorem dX5_wayAt_2 : decode cX5_wayAt 2 = .ok (.invokevirtual 45, 3) := by decide +kernel
theorem dX5_wayAt_5 : decode cX5_wayAt 5 = .ok (.ifCond .eq 12, 3) := by decide +kernel
theorem dX5_wayAt_8 : decode cX5_wayAt 8 = .ok (.aload_n 0, 1) := by decide +kernel
theorem dX5_wayAt_9 : decode cX5_wayAt 9 = .ok (.getfield 9, 3) := by decide +kernel
theorem dX5_wayAt_12 : decode cX5_wayAt 12 = .ok (.iload_n 1, 1) := by decide +kernel
theorem dX5_wayAt_13 : decode cX5_wayAt 13 = .ok (.iaload, 1) := by decide +kernel
theorem dX5_wayAt_14 : decode cX5_wayAt 14 = .ok (.goto 4, 3) := by decide +kernel
theorem dX5_wayAt_17 : decode cX5_wayAt 17 = .ok (.iconst (-1), 1) := by decide +kernel
theorem dX5_wayAt_18 : decode cX5_wayAt 18 = .ok (.ireturn, 1) := by decide +kernel
theorem dX5_ruleAt_0 : decode cX5_ruleAt 0 = .ok (.iload_n 1, 1) := by decide +kernel
theorem dX5_ruleAt_1 : decode cX5_ruleAt 1 = .ok (.ifCond .lt 20, 3) := by decide +kernel
theorem dX5_ruleAt_4 : decode cX5_ruleAt 4 = .ok (.iload_n 1, 1) := by decide +kernel
theorem dX5_ruleAt_5 : decode cX5_ruleAt 5 = .ok (.aload_n 0, 1) := by decide +kernel
theorem dX5_ruleAt_6 : decode cX5_ruleAt 6 = .ok (.getfield 21, 3) := by decide +kernel
theorem dX5_ruleAt_9 : decode cX5_ruleAt 9 = .ok (.if_icmp .ge 12, 3) := by decide +kernel
theorem dX5_ruleAt_12 : decode cX5_ruleAt 12 = .ok (.aload_n 0, 1) := by decide +kernel
theorem dX5_ruleAt_13 : decode cX5_ruleAt 13 = .ok (.getfield 15, 3) := by decide +kernel
theorem dX5_ruleAt_16 : decode cX5_ruleAt 16 = .ok (.iload_n 1, 1) := by decide +kernel
theorem dX5_ruleAt_17 : decode cX5_ruleAt 17 = .ok (.iaload, 1) := by decide +kernel
theorem dX5_ruleAt_18 : decode cX5_ruleAt 18 = .ok (.goto 4, 3) := by decide +kernel
theorem dX5_ruleAt_21 : decode cX5_ruleAt 21 = .ok (.iconst (-1), 1) := by decide +kernel
theorem dX5_ruleAt_22 : decode cX5_ruleAt 22 = .ok (.ireturn, 1) := by decide +kernel
theorem dX5_copyOut_0 : decode cX5_copyOut 0 = .ok (.aload_n 0, 1) := by decide +kernel
theorem dX5_copyOut_1 : decode cX5_copyOut 1 = .ok (.iload_n 1, 1) := by decide +kernel
theorem dX5_copyOut_2 : decode cX5_copyOut 2 = .ok (.invokevirtual 45, 3) := by decide +kernel
theorem dX5_copyOut_5 : decode cX5_copyOut 5 = .ok (.ifCond .eq 18, 3) := by decide +kernel
theorem dX5_copyOut_8 : decode cX5_copyOut 8 = .ok (.aload_n 0, 1) := by decide +kernel
theorem dX5_copyOut_9 : decode cX5_copyOut 9 = .ok (.getfield 18, 3) := by decide +kernel
theorem dX5_copyOut_12 : decode cX5_copyOut 12 = .ok (.iload_n 1, 1) := by decide +kernel
theorem dX5_copyOut_13 : decode cX5_copyOut 13 = .ok (.bipush 6, 2) := by decide +kernel
theorem dX5_copyOut_15 : decode cX5_copyOut 15 = .ok (.imul, 1) := by decide +kernel
theorem dX5_copyOut_16 : decode cX5_copyOut 16 = .ok (.aload_n 2, 1) := by decide +kernel
theorem dX5_copyOut_17 : decode cX5_copyOut 17 = .ok (.iconst 0, 1) := by decide +kernel
theorem dX5_copyOut_18 : decode cX5_copyOut 18 = .ok (.bipush 6, 2) := by decide +kernel
theorem dX5_copyOut_20 : decode cX5_copyOut 20 = .ok (.invokestatic 39, 3) := by decide +kernel
theorem dX5_copyOut_23 : decode cX5_copyOut 23 = .ok (.return_, 1) := by decide +kernel
theorem dX5_putStep_0 : decode cX5_putStep 0 = .ok (.iload_n 1, 1) := by decide +kernel
theorem dX5_putStep_1 : decode cX5_putStep 1 = .ok (.ifCond .lt 37, 3) := by decide +kernel
theorem dX5_putStep_4 : decode cX5_putStep 4 = .ok (.aload_n 0, 1) := by decide +kernel
theorem dX5_putStep_5 : decode cX5_putStep 5 = .ok (.iload_n 1, 1) := by decide +kernel
theorem dX5_putStep_6 : decode cX5_putStep 6 = .ok (.iconst 1, 1) := by decide +kernel
theorem dX5_putStep_7 : decode cX5_putStep 7 = .ok (.iadd, 1) := by decide +kernel
theorem dX5_putStep_8 : decode cX5_putStep 8 = .ok (.invokevirtual 45, 3) := by decide +kernel
theorem dX5_putStep_11 : decode cX5_putStep 11 = .ok (.ifCond .eq 27, 3) := by decide +kernel
theorem dX5_putStep_14 : decode cX5_putStep 14 = .ok (.aload_n 0, 1) := by decide +kernel
theorem dX5_putStep_15 : decode cX5_putStep 15 = .ok (.getfield 15, 3) := by decide +kernel
theorem dX5_putStep_18 : decode cX5_putStep 18 = .ok (.iload_n 1, 1) := by decide +kernel
theorem dX5_putStep_19 : decode cX5_putStep 19 = .ok (.iload_n 2, 1) := by decide +kernel
theorem dX5_putStep_20 : decode cX5_putStep 20 = .ok (.iastore, 1) := by decide +kernel
theorem dX5_putStep_21 : decode cX5_putStep 21 = .ok (.aload_n 3, 1) := by decide +kernel
theorem dX5_putStep_22 : decode cX5_putStep 22 = .ok (.iconst 0, 1) := by decide +kernel
theorem dX5_putStep_23 : decode cX5_putStep 23 = .ok (.aload_n 0, 1) := by decide +kernel
theorem dX5_putStep_24 : decode cX5_putStep 24 = .ok (.getfield 18, 3) := by decide +kernel
theorem dX5_putStep_27 : decode cX5_putStep 27 = .ok (.iload_n 1, 1) := by decide +kernel
theorem dX5_putStep_28 : decode cX5_putStep 28 = .ok (.iconst 1, 1) := by decide +kernel
theorem dX5_putStep_29 : decode cX5_putStep 29 = .ok (.iadd, 1) := by decide +kernel
theorem dX5_putStep_30 : decode cX5_putStep 30 = .ok (.bipush 6, 2) := by decide +kernel
theorem dX5_putStep_32 : decode cX5_putStep 32 = .ok (.imul, 1) := by decide +kernel
theorem dX5_putStep_33 : decode cX5_putStep 33 = .ok (.bipush 6, 2) := by decide +kernel
theorem dX5_putStep_35 : decode cX5_putStep 35 = .ok (.invokestatic 39, 3) := by decide +kernel
theorem dX5_putStep_38 : decode cX5_putStep 38 = .ok (.return_, 1) := by decide +kernel
theorem dJ9_min_7cf53_0 : decode cJ9_min_7cf53 0 = .ok (.iload_n 0, 1) := by decide +kernel
theorem dJ9_min_7cf53_1 : decode cJ9_min_7cf53 1 = .ok (.iload_n 1, 1) := by decide +kernel
theorem dJ9_min_7cf53_2 : decode cJ9_min_7cf53 2 = .ok (.if_icmp .gt 7, 3) := by decide +kernel
theorem dJ9_min_7cf53_5 : decode cJ9_min_7cf53 5 = .ok (.iload_n 0, 1) := by decide +kernel
theorem dJ9_min_7cf53_6 : decode cJ9_min_7cf53 6 = .ok (.goto 4, 3) := by decide +kernel
theorem dJ9_min_7cf53_9 : decode cJ9_min_7cf53 9 = .ok (.iload_n 1, 1) := by decide +kernel
theorem dJ9_min_7cf53_10 : decode cJ9_min_7cf53 10 = .ok (.ireturn, 1) := by decide +kernel
theorem dJ7_fill_53178_0 : decode cJ7_fill_53178 0 = .ok (.iconst 0, 1) := by decide +kernel
theorem dJ7_fill_53178_1 : decode cJ7_fill_53178 1 = .ok (.istore_n 2, 1) := by decide +kernel
theorem dJ7_fill_53178_2 : decode cJ7_fill_53178 2 = .ok (.aload_n 0, 1) := by decide +kernel
theorem dJ7_fill_53178_3 : decode cJ7_fill_53178 3 = .ok (.arraylength, 1) := by decide +kernel
theorem dJ7_fill_53178_4 : decode cJ7_fill_53178 4 = .ok (.istore_n 3, 1) := by decide +kernel
theorem dJ7_fill_53178_5 : decode cJ7_fill_53178 5 = .ok (.iload_n 2, 1) := by decide +kernel
theorem dJ7_fill_53178_6 : decode cJ7_fill_53178 6 = .ok (.iload_n 3, 1) := by decide +kernel
theorem dJ7_fill_53178_7 : decode cJ7_fill_53178 7 = .ok (.if_icmp .ge 13, 3) := by decide +kernel
theorem dJ7_fill_53178_10 : decode cJ7_fill_53178 10 = .ok (.aload_n 0, 1) := by decide +kernel
theorem dJ7_fill_53178_11 : decode cJ7_fill_53178 11 = .ok (.iload_n 2, 1) := by decide +kernel
theorem dJ7_fill_53178_12 : decode cJ7_fill_53178 12 = .ok (.iload_n 1, 1) := by decide +kernel
theorem dJ7_fill_53178_13 : decode cJ7_fill_53178 13 = .ok (.iastore, 1) := by decide +kernel
theorem dJ7_fill_53178_14 : decode cJ7_fill_53178 14 = .ok (.iinc 2 1, 3) := by decide +kernel
theorem dJ7_fill_53178_17 : decode cJ7_fill_53178 17 = .ok (.goto (-12), 3) := by decide +kernel
theorem dJ7_fill_53178_20 : decode cJ7_fill_53178 20 = .ok (.return_, 1) := by decide +kernel
