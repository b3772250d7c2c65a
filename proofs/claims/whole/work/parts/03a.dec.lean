theorem dX0_init_0 : decode cX0_init 0 = .ok (.aload_n 0, 1) := by decide +kernel
theorem dX0_init_1 : decode cX0_init 1 = .ok (.invokespecial 3, 3) := by decide +kernel
theorem dX0_init_4 : decode cX0_init 4 = .ok (.aload_n 0, 1) := by decide +kernel
theorem dX0_init_5 : decode cX0_init 5 = .ok (.bipush 6, 2) := by decide +kernel
theorem dX0_init_7 : decode cX0_init 7 = .ok (.newarray .int, 2) := by decide +kernel
theorem dX0_init_9 : decode cX0_init 9 = .ok (.putfield 9, 3) := by decide +kernel
theorem dX0_init_12 : decode cX0_init 12 = .ok (.return_, 1) := by decide +kernel
theorem dX0_clear_0 : decode cX0_clear 0 = .ok (.aload_n 0, 1) := by decide +kernel
theorem dX0_clear_1 : decode cX0_clear 1 = .ok (.getfield 9, 3) := by decide +kernel
theorem dX0_clear_4 : decode cX0_clear 4 = .ok (.iconst 0, 1) := by decide +kernel
theorem dX0_clear_5 : decode cX0_clear 5 = .ok (.invokestatic 15, 3) := by decide +kernel
theorem dX0_clear_8 : decode cX0_clear 8 = .ok (.return_, 1) := by decide +kernel
theorem dX0_put_0 : decode cX0_put 0 = .ok (.iload_n 1, 1) := by decide +kernel
theorem dX0_put_1 : decode cX0_put 1 = .ok (.invokestatic 21, 3) := by decide +kernel
theorem dX0_put_4 : decode cX0_put 4 = .ok (.ifCond .eq 10, 3) := by decide +kernel
theorem dX0_put_7 : decode cX0_put 7 = .ok (.aload_n 0, 1) := by decide +kernel
theorem dX0_put_8 : decode cX0_put 8 = .ok (.getfield 9, 3) := by decide +kernel
theorem dX0_put_11 : decode cX0_put 11 = .ok (.iload_n 1, 1) := by decide +kernel
theorem dX0_put_12 : decode cX0_put 12 = .ok (.iload_n 2, 1) := by decide +kernel
theorem dX0_put_13 : decode cX0_put 13 = .ok (.iastore, 1) := by decide +kernel
theorem dX0_put_14 : decode cX0_put 14 = .ok (.return_, 1) := by decide +kernel
theorem dX0_join_0 : decode cX0_join 0 = .ok (.iload_n 1, 1) := by decide +kernel
theorem dX0_join_1 : decode cX0_join 1 = .ok (.invokestatic 21, 3) := by decide +kernel
theorem dX0_join_4 : decode cX0_join 4 = .ok (.ifCond .eq 38, 3) := by decide +kernel
theorem dX0_join_7 : decode cX0_join 7 = .ok (.iload_n 2, 1) := by decide +kernel
theorem dX0_join_8 : decode cX0_join 8 = .ok (.invokestatic 21, 3) := by decide +kernel
theorem dX0_join_11 : decode cX0_join 11 = .ok (.ifCond .eq 31, 3) := by decide +kernel
theorem dX0_join_14 : decode cX0_join 14 = .ok (.aload_n 0, 1) := by decide +kernel
theorem dX0_join_15 : decode cX0_join 15 = .ok (.getfield 9, 3) := by decide +kernel
theorem dX0_join_18 : decode cX0_join 18 = .ok (.iload_n 1, 1) := by decide +kernel
theorem dX0_join_19 : decode cX0_join 19 = .ok (.iaload, 1) := by decide +kernel
theorem dX0_join_20 : decode cX0_join 20 = .ok (.ifCond .eq 22, 3) := by decide +kernel
theorem dX0_join_23 : decode cX0_join 23 = .ok (.aload_n 0, 1) := by decide +kernel
theorem dX0_join_24 : decode cX0_join 24 = .ok (.getfield 9, 3) := by decide +kernel
theorem dX0_join_27 : decode cX0_join 27 = .ok (.iload_n 1, 1) := by decide +kernel
theorem dX0_join_28 : decode cX0_join 28 = .ok (.iaload, 1) := by decide +kernel
theorem dX0_join_29 : decode cX0_join 29 = .ok (.aload_n 0, 1) := by decide +kernel
theorem dX0_join_30 : decode cX0_join 30 = .ok (.getfield 9, 3) := by decide +kernel
theorem dX0_join_33 : decode cX0_join 33 = .ok (.iload_n 2, 1) := by decide +kernel
theorem dX0_join_34 : decode cX0_join 34 = .ok (.iaload, 1) := by decide +kernel
theorem dX0_join_35 : decode cX0_join 35 = .ok (.if_icmp .ne 7, 3) := by decide +kernel
theorem dX0_join_38 : decode cX0_join 38 = .ok (.iconst 1, 1) := by decide +kernel
theorem dX0_join_39 : decode cX0_join 39 = .ok (.goto 4, 3) := by decide +kernel
theorem dX0_join_42 : decode cX0_join 42 = .ok (.iconst 0, 1) := by decide +kernel
theorem dX0_join_43 : decode cX0_join 43 = .ok (.ireturn, 1) := by decide +kernel
theorem dX0_toStandardForm_0 : decode cX0_toStandardForm 0 = .ok (.iconst 0, 1) := by decide +kernel
theorem dX0_toStandardForm_1 : decode cX0_toStandardForm 1 = .ok (.istore_n 2, 1) := by decide +kernel
theorem dX0_toStandardForm_2 : decode cX0_toStandardForm 2 = .ok (.iload_n 2, 1) := by decide +kernel
theorem dX0_toStandardForm_3 : decode cX0_toStandardForm 3 = .ok (.bipush 6, 2) := by decide +kernel
theorem dX0_toStandardForm_5 : decode cX0_toStandardForm 5 = .ok (.if_icmp .ge 59, 3) := by decide +kernel
theorem dX0_toStandardForm_8 : decode cX0_toStandardForm 8 = .ok (.iload_n 2, 1) := by decide +kernel
theorem dX0_toStandardForm_9 : decode cX0_toStandardForm 9 = .ok (.iconst 1, 1) := by decide +kernel
theorem dX0_toStandardForm_10 : decode cX0_toStandardForm 10 = .ok (.iadd, 1) := by decide +kernel
theorem dX0_toStandardForm_11 : decode cX0_toStandardForm 11 = .ok (.istore_n 3, 1) := by decide +kernel
theorem dX0_toStandardForm_12 : decode cX0_toStandardForm 12 = .ok (.iload_n 3, 1) := by decide +kernel
theorem dX0_toStandardForm_13 : decode cX0_toStandardForm 13 = .ok (.bipush 6, 2) := by decide +kernel
theorem dX0_toStandardForm_15 : decode cX0_toStandardForm 15 = .ok (.if_icmp .ge 43, 3) := by decide +kernel
theorem dX0_toStandardForm_18 : decode cX0_toStandardForm 18 = .ok (.aload_n 0, 1) := by decide +kernel
theorem dX0_toStandardForm_19 : decode cX0_toStandardForm 19 = .ok (.iload_n 2, 1) := by decide +kernel
theorem dX0_toStandardForm_20 : decode cX0_toStandardForm 20 = .ok (.iload_n 3, 1) := by decide +kernel
theorem dX0_toStandardForm_21 : decode cX0_toStandardForm 21 = .ok (.invokevirtual 25, 3) := by decide +kernel
theorem dX0_toStandardForm_24 : decode cX0_toStandardForm 24 = .ok (.ifCond .eq 28, 3) := by decide +kernel
theorem dX0_toStandardForm_27 : decode cX0_toStandardForm 27 = .ok (.aload_n 1, 1) := by decide +kernel
theorem dX0_toStandardForm_28 : decode cX0_toStandardForm 28 = .ok (.iload_n 2, 1) := by decide +kernel
theorem dX0_toStandardForm_29 : decode cX0_toStandardForm 29 = .ok (.iaload, 1) := by decide +kernel
theorem dX0_toStandardForm_30 : decode cX0_toStandardForm 30 = .ok (.aload_n 1, 1) := by decide +kernel
theorem dX0_toStandardForm_31 : decode cX0_toStandardForm 31 = .ok (.iload_n 3, 1) := by decide +kernel
theorem dX0_toStandardForm_32 : decode cX0_toStandardForm 32 = .ok (.iaload, 1) := by decide +kernel
theorem dX0_toStandardForm_33 : decode cX0_toStandardForm 33 = .ok (.if_icmp .le 19, 3) := by decide +kernel
theorem dX0_toStandardForm_36 : decode cX0_toStandardForm 36 = .ok (.aload_n 1, 1) := by decide +kernel
theorem dX0_toStandardForm_37 : decode cX0_toStandardForm 37 = .ok (.iload_n 2, 1) := by decide +kernel
theorem dX0_toStandardForm_38 : decode cX0_toStandardForm 38 = .ok (.iaload, 1) := by decide +kernel
theorem dX0_toStandardForm_39 : decode cX0_toStandardForm 39 = .ok (.istore 4, 2) := by decide +kernel
theorem dX0_toStandardForm_41 : decode cX0_toStandardForm 41 = .ok (.aload_n 1, 1) := by decide +kernel
theorem dX0_toStandardForm_42 : decode cX0_toStandardForm 42 = .ok (.iload_n 2, 1) := by decide +kernel
theorem dX0_toStandardForm_43 : decode cX0_toStandardForm 43 = .ok (.aload_n 1, 1) := by decide +kernel
theorem dX0_toStandardForm_44 : decode cX0_toStandardForm 44 = .ok (.iload_n 3, 1) := by decide +kernel
theorem dX0_toStandardForm_45 : decode cX0_toStandardForm 45 = .ok (.iaload, 1) := by decide +kernel
theorem dX0_toStandardForm_46 : decode cX0_toStandardForm 46 = .ok (.iastore, 1) := by decide +kernel
theorem dX0_toStandardForm_47 : decode cX0_toStandardForm 47 = .ok (.aload_n 1, 1) := by decide +kernel
theorem dX0_toStandardForm_48 : decode cX0_toStandardForm 48 = .ok (.iload_n 3, 1) := by decide +kernel
theorem dX0_toStandardForm_49 : decode cX0_toStandardForm 49 = .ok (.iload 4, 2) := by decide +kernel
theorem dX0_toStandardForm_51 : decode cX0_toStandardForm 51 = .ok (.iastore, 1) := by decide +kernel
theorem dX0_toStandardForm_52 : decode cX0_toStandardForm 52 = .ok (.iinc 3 1, 3) := by decide +kernel
theorem dX0_toStandardForm_55 : decode cX0_toStandardForm 55 = .ok (.goto (-43), 3) := by decide +kernel
theorem dX0_toStandardForm_58 : decode cX0_toStandardForm 58 = .ok (.iinc 2 1, 3) := by decide +kernel
theorem dX0_toStandardForm_61 : decode cX0_toStandardForm 61 = .ok (.goto (-59), 3) := by decide +kernel
theorem dX0_toStandardForm_64 : decode cX0_toStandardForm 64 = .ok (.return_, 1) := by decide +kernel
theorem dX1_init_0 : decode cX1_init 0 = .ok (.aload_n 0, 1) := by decide +kernel
theorem dX1_init_1 : decode cX1_init 1 = .ok (.invokespecial 3, 3) := by decide +kernel
theorem dX1_init_4 : decode cX1_init 4 = .ok (.aload_n 0, 1) := by decide +kernel
theorem dX1_init_5 : decode cX1_init 5 = .ok (.new 9, 3) := by decide +kernel
theorem dX1_init_8 : decode cX1_init 8 = .ok (.dup, 1) := by decide +kernel
theorem dX1_init_9 : decode cX1_init 9 = .ok (.invokespecial 11, 3) := by decide +kernel
theorem dX1_init_12 : decode cX1_init 12 = .ok (.putfield 12, 3) := by decide +kernel
theorem dX1_init_15 : decode cX1_init 15 = .ok (.return_, 1) := by decide +kernel
theorem dX1_isRight_0 : decode cX1_isRight 0 = .ok (.iconst 0, 1) := by decide +kernel
theorem dX1_isRight_1 : decode cX1_isRight 1 = .ok (.istore_n 1, 1) := by decide +kernel
theorem dX1_isRight_2 : decode cX1_isRight 2 = .ok (.iconst 0, 1) := by decide +kernel
theorem dX1_isRight_3 : decode cX1_isRight 3 = .ok (.istore_n 2, 1) := by decide +kernel
theorem dX1_isRight_4 : decode cX1_isRight 4 = .ok (.iload_n 2, 1) := by decide +kernel
theorem dX1_isRight_5 : decode cX1_isRight 5 = .ok (.aload_n 0, 1) := by decide +kernel
theorem dX1_isRight_6 : decode cX1_isRight 6 = .ok (.getfield 12, 3) := by decide +kernel
theorem dX1_isRight_9 : decode cX1_isRight 9 = .ok (.invokevirtual 18, 3) := by decide +kernel
theorem dX1_isRight_12 : decode cX1_isRight 12 = .ok (.if_icmp .ge 55, 3) := by decide +kernel
theorem dX1_isRight_15 : decode cX1_isRight 15 = .ok (.aload_n 0, 1) := by decide +kernel
theorem dX1_isRight_16 : decode cX1_isRight 16 = .ok (.getfield 12, 3) := by decide +kernel
theorem dX1_isRight_19 : decode cX1_isRight 19 = .ok (.iload_n 2, 1) := by decide +kernel
theorem dX1_isRight_20 : decode cX1_isRight 20 = .ok (.invokevirtual 22, 3) := by decide +kernel
theorem dX1_isRight_23 : decode cX1_isRight 23 = .ok (.bipush 12, 2) := by decide +kernel
theorem dX1_isRight_25 : decode cX1_isRight 25 = .ok (.if_icmp .ne 15, 3) := by decide +kernel
theorem dX1_isRight_28 : decode cX1_isRight 28 = .ok (.iload_n 1, 1) := by decide +kernel
theorem dX1_isRight_29 : decode cX1_isRight 29 = .ok (.iconst 1, 1) := by decide +kernel
theorem dX1_isRight_30 : decode cX1_isRight 30 = .ok (.if_icmp .eq 5, 3) := by decide +kernel
theorem dX1_isRight_33 : decode cX1_isRight 33 = .ok (.iconst 0, 1) := by decide +kernel
theorem dX1_isRight_34 : decode cX1_isRight 34 = .ok (.ireturn, 1) := by decide +kernel
theorem dX1_isRight_35 : decode cX1_isRight 35 = .ok (.iconst 0, 1) := by decide +kernel
theorem dX1_isRight_36 : decode cX1_isRight 36 = .ok (.istore_n 1, 1) := by decide +kernel
theorem dX1_isRight_37 : decode cX1_isRight 37 = .ok (.goto 17, 3) := by decide +kernel
theorem dX1_isRight_40 : decode cX1_isRight 40 = .ok (.iload_n 1, 1) := by decide +kernel
theorem dX1_isRight_41 : decode cX1_isRight 41 = .ok (.aload_n 0, 1) := by decide +kernel
theorem dX1_isRight_42 : decode cX1_isRight 42 = .ok (.getfield 12, 3) := by decide +kernel
theorem dX1_isRight_45 : decode cX1_isRight 45 = .ok (.iload_n 2, 1) := by decide +kernel
theorem dX1_isRight_46 : decode cX1_isRight 46 = .ok (.invokevirtual 22, 3) := by decide +kernel
theorem dX1_isRight_49 : decode cX1_isRight 49 = .ok (.iconst 0, 1) := by decide +kernel
theorem dX1_isRight_50 : decode cX1_isRight 50 = .ok (.invokestatic 26, 3) := by decide +kernel
theorem dX1_isRight_53 : decode cX1_isRight 53 = .ok (.istore_n 1, 1) := by decide +kernel
theorem dX1_isRight_54 : decode cX1_isRight 54 = .ok (.iload_n 1, 1) := by decide +kernel
theorem dX1_isRight_55 : decode cX1_isRight 55 = .ok (.iconst (-1), 1) := by decide +kernel
theorem dX1_isRight_56 : decode cX1_isRight 56 = .ok (.if_icmp .ne 5, 3) := by decide +kernel
theorem dX1_isRight_59 : decode cX1_isRight 59 = .ok (.iconst 0, 1) := by decide +kernel
theorem dX1_isRight_60 : decode cX1_isRight 60 = .ok (.ireturn, 1) := by decide +kernel
theorem dX1_isRight_61 : decode cX1_isRight 61 = .ok (.iinc 2 1, 3) := by decide +kernel
theorem dX1_isRight_64 : decode cX1_isRight 64 = .ok (.goto (-60), 3) := by decide +kernel
theorem dX1_isRight_67 : decode cX1_isRight 67 = .ok (.iload_n 1, 1) := by decide +kernel
theorem dX1_isRight_68 : decode cX1_isRight 68 = .ok (.iconst 1, 1) := by decide +kernel
theorem dX1_isRight_69 : decode cX1_isRight 69 = .ok (.if_icmp .ne 7, 3) := by decide +kernel
theorem dX1_isRight_72 : decode cX1_isRight 72 = .ok (.iconst 1, 1) := by decide +kernel
theorem dX1_isRight_73 : decode cX1_isRight 73 = .ok (.goto 4, 3) := by decide +kernel
theorem dX1_isRight_76 : decode cX1_isRight 76 = .ok (.iconst 0, 1) := by decide +kernel
theorem dX1_isRight_77 : decode cX1_isRight 77 = .ok (.ireturn, 1) := by decide +kernel
theorem dX1_isPartStart_0 : decode cX1_isPartStart 0 = .ok (.iload_n 1, 1) := by decide +kernel
theorem dX1_isPartStart_1 : decode cX1_isPartStart 1 = .ok (.ifCond .eq 18, 3) := by decide +kernel
theorem dX1_isPartStart_4 : decode cX1_isPartStart 4 = .ok (.aload_n 0, 1) := by decide +kernel
theorem dX1_isPartStart_5 : decode cX1_isPartStart 5 = .ok (.getfield 12, 3) := by decide +kernel
theorem dX1_isPartStart_8 : decode cX1_isPartStart 8 = .ok (.iload_n 1, 1) := by decide +kernel
theorem dX1_isPartStart_9 : decode cX1_isPartStart 9 = .ok (.iconst 1, 1) := by decide +kernel
theorem dX1_isPartStart_10 : decode cX1_isPartStart 10 = .ok (.isub, 1) := by decide +kernel
theorem dX1_isPartStart_11 : decode cX1_isPartStart 11 = .ok (.invokevirtual 22, 3) := by decide +kernel
theorem dX1_isPartStart_14 : decode cX1_isPartStart 14 = .ok (.bipush 12, 2) := by decide +kernel
theorem dX1_isPartStart_16 : decode cX1_isPartStart 16 = .ok (.if_icmp .ne 7, 3) := by decide +kernel
theorem dX1_isPartStart_19 : decode cX1_isPartStart 19 = .ok (.iconst 1, 1) := by decide +kernel
theorem dX1_isPartStart_20 : decode cX1_isPartStart 20 = .ok (.goto 4, 3) := by decide +kernel
theorem dX1_isPartStart_23 : decode cX1_isPartStart 23 = .ok (.iconst 0, 1) := by decide +kernel
theorem dX1_isPartStart_24 : decode cX1_isPartStart 24 = .ok (.ireturn, 1) := by decide +kernel
theorem dX1_partEnd_0 : decode cX1_partEnd 0 = .ok (.aload_n 0, 1) := by decide +kernel
theorem dX1_partEnd_1 : decode cX1_partEnd 1 = .ok (.getfield 12, 3) := by decide +kernel
theorem dX1_partEnd_4 : decode cX1_partEnd 4 = .ok (.bipush 12, 2) := by decide +kernel
theorem dX1_partEnd_6 : decode cX1_partEnd 6 = .ok (.iload_n 1, 1) := by decide +kernel
theorem dX1_partEnd_7 : decode cX1_partEnd 7 = .ok (.invokevirtual 32, 3) := by decide +kernel
theorem dX1_partEnd_10 : decode cX1_partEnd 10 = .ok (.ireturn, 1) := by decide +kernel
theorem dX1_bearsExchange_0 : decode cX1_bearsExchange 0 = .ok (.iconst 0, 1) := by decide +kernel
theorem dX1_bearsExchange_1 : decode cX1_bearsExchange 1 = .ok (.istore_n 3, 1) := by decide +kernel
theorem dX1_bearsExchange_2 : decode cX1_bearsExchange 2 = .ok (.iload_n 3, 1) := by decide +kernel
theorem dX1_bearsExchange_3 : decode cX1_bearsExchange 3 = .ok (.aload_n 0, 1) := by decide +kernel
theorem dX1_bearsExchange_4 : decode cX1_bearsExchange 4 = .ok (.getfield 12, 3) := by decide +kernel
theorem dX1_bearsExchange_7 : decode cX1_bearsExchange 7 = .ok (.invokevirtual 18, 3) := by decide +kernel
theorem dX1_bearsExchange_10 : decode cX1_bearsExchange 10 = .ok (.if_icmp .ge 29, 3) := by decide +kernel
theorem dX1_bearsExchange_13 : decode cX1_bearsExchange 13 = .ok (.aload_n 0, 1) := by decide +kernel
theorem dX1_bearsExchange_14 : decode cX1_bearsExchange 14 = .ok (.iload_n 3, 1) := by decide +kernel
theorem dX1_bearsExchange_15 : decode cX1_bearsExchange 15 = .ok (.invokevirtual 36, 3) := by decide +kernel
theorem dX1_bearsExchange_18 : decode cX1_bearsExchange 18 = .ok (.ifCond .eq 15, 3) := by decide +kernel
theorem dX1_bearsExchange_21 : decode cX1_bearsExchange 21 = .ok (.aload_n 0, 1) := by decide +kernel
theorem dX1_bearsExchange_22 : decode cX1_bearsExchange 22 = .ok (.iload_n 3, 1) := by decide +kernel
theorem dX1_bearsExchange_23 : decode cX1_bearsExchange 23 = .ok (.iload_n 1, 1) := by decide +kernel
theorem dX1_bearsExchange_24 : decode cX1_bearsExchange 24 = .ok (.iload_n 2, 1) := by decide +kernel
theorem dX1_bearsExchange_25 : decode cX1_bearsExchange 25 = .ok (.invokevirtual 40, 3) := by decide +kernel
theorem dX1_bearsExchange_28 : decode cX1_bearsExchange 28 = .ok (.ifCond .ne 5, 3) := by decide +kernel
theorem dX1_bearsExchange_31 : decode cX1_bearsExchange 31 = .ok (.iconst 0, 1) := by decide +kernel
theorem dX1_bearsExchange_32 : decode cX1_bearsExchange 32 = .ok (.ireturn, 1) := by decide +kernel
theorem dX1_bearsExchange_33 : decode cX1_bearsExchange 33 = .ok (.iinc 3 1, 3) := by decide +kernel
theorem dX1_bearsExchange_36 : decode cX1_bearsExchange 36 = .ok (.goto (-34), 3) := by decide +kernel
theorem dX1_bearsExchange_39 : decode cX1_bearsExchange 39 = .ok (.iconst 1, 1) := by decide +kernel
theorem dX1_bearsExchange_40 : decode cX1_bearsExchange 40 = .ok (.ireturn, 1) := by decide +kernel
theorem dX1_hasExchanged_0 : decode cX1_hasExchanged 0 = .ok (.aload_n 0, 1) := by decide +kernel
theorem dX1_hasExchanged_1 : decode cX1_hasExchanged 1 = .ok (.iload_n 1, 1) := by decide +kernel
theorem dX1_hasExchanged_2 : decode cX1_hasExchanged 2 = .ok (.invokevirtual 44, 3) := by decide +kernel
theorem dX1_hasExchanged_5 : decode cX1_hasExchanged 5 = .ok (.iload_n 1, 1) := by decide +kernel
theorem dX1_hasExchanged_6 : decode cX1_hasExchanged 6 = .ok (.isub, 1) := by decide +kernel
theorem dX1_hasExchanged_7 : decode cX1_hasExchanged 7 = .ok (.istore 4, 2) := by decide +kernel
theorem dX1_hasExchanged_9 : decode cX1_hasExchanged 9 = .ok (.iconst 0, 1) := by decide +kernel
theorem dX1_hasExchanged_10 : decode cX1_hasExchanged 10 = .ok (.istore 5, 2) := by decide +kernel
theorem dX1_hasExchanged_12 : decode cX1_hasExchanged 12 = .ok (.iload 5, 2) := by decide +kernel
theorem dX1_hasExchanged_14 : decode cX1_hasExchanged 14 = .ok (.aload_n 0, 1) := by decide +kernel
theorem dX1_hasExchanged_15 : decode cX1_hasExchanged 15 = .ok (.getfield 12, 3) := by decide +kernel
theorem dX1_hasExchanged_18 : decode cX1_hasExchanged 18 = .ok (.invokevirtual 18, 3) := by decide +kernel
theorem dX1_hasExchanged_21 : decode cX1_hasExchanged 21 = .ok (.if_icmp .ge 55, 3) := by decide +kernel
theorem dX1_hasExchanged_24 : decode cX1_hasExchanged 24 = .ok (.aload_n 0, 1) := by decide +kernel
theorem dX1_hasExchanged_25 : decode cX1_hasExchanged 25 = .ok (.iload 5, 2) := by decide +kernel
theorem dX1_hasExchanged_27 : decode cX1_hasExchanged 27 = .ok (.invokevirtual 36, 3) := by decide +kernel
theorem dX1_hasExchanged_30 : decode cX1_hasExchanged 30 = .ok (.ifCond .eq 40, 3) := by decide +kernel
theorem dX1_hasExchanged_33 : decode cX1_hasExchanged 33 = .ok (.aload_n 0, 1) := by decide +kernel
theorem dX1_hasExchanged_34 : decode cX1_hasExchanged 34 = .ok (.iload 5, 2) := by decide +kernel
theorem dX1_hasExchanged_36 : decode cX1_hasExchanged 36 = .ok (.invokevirtual 44, 3) := by decide +kernel
theorem dX1_hasExchanged_39 : decode cX1_hasExchanged 39 = .ok (.iload 5, 2) := by decide +kernel
theorem dX1_hasExchanged_41 : decode cX1_hasExchanged 41 = .ok (.isub, 1) := by decide +kernel
theorem dX1_hasExchanged_42 : decode cX1_hasExchanged 42 = .ok (.iload 4, 2) := by decide +kernel
theorem dX1_hasExchanged_44 : decode cX1_hasExchanged 44 = .ok (.if_icmp .ne 26, 3) := by decide +kernel
theorem dX1_hasExchanged_47 : decode cX1_hasExchanged 47 = .ok (.aload_n 0, 1) := by decide +kernel
theorem dX1_hasExchanged_48 : decode cX1_hasExchanged 48 = .ok (.getfield 12, 3) := by decide +kernel
theorem dX1_hasExchanged_51 : decode cX1_hasExchanged 51 = .ok (.iload_n 1, 1) := by decide +kernel
theorem dX1_hasExchanged_52 : decode cX1_hasExchanged 52 = .ok (.iload 4, 2) := by decide +kernel
theorem dX1_hasExchanged_54 : decode cX1_hasExchanged 54 = .ok (.aload_n 0, 1) := by decide +kernel
theorem dX1_hasExchanged_55 : decode cX1_hasExchanged 55 = .ok (.getfield 12, 3) := by decide +kernel
theorem dX1_hasExchanged_58 : decode cX1_hasExchanged 58 = .ok (.iload 5, 2) := by decide +kernel
theorem dX1_hasExchanged_60 : decode cX1_hasExchanged 60 = .ok (.iload_n 2, 1) := by decide +kernel
theorem dX1_hasExchanged_61 : decode cX1_hasExchanged 61 = .ok (.iload_n 3, 1) := by decide +kernel
theorem dX1_hasExchanged_62 : decode cX1_hasExchanged 62 = .ok (.invokevirtual 47, 3) := by decide +kernel
theorem dX1_hasExchanged_65 : decode cX1_hasExchanged 65 = .ok (.ifCond .eq 5, 3) := by decide +kernel
theorem dX1_hasExchanged_68 : decode cX1_hasExchanged 68 = .ok (.iconst 1, 1) := by decide +kernel
theorem dX1_hasExchanged_69 : decode cX1_hasExchanged 69 = .ok (.ireturn, 1) := by decide +kernel
theorem dX1_hasExchanged_70 : decode cX1_hasExchanged 70 = .ok (.iinc 5 1, 3) := by decide +kernel
theorem dX1_hasExchanged_73 : decode cX1_hasExchanged 73 = .ok (.goto (-61), 3) := by decide +kernel
theorem dX1_hasExchanged_76 : decode cX1_hasExchanged 76 = .ok (.iconst 0, 1) := by decide +kernel
theorem dX1_hasExchanged_77 : decode cX1_hasExchanged 77 = .ok (.ireturn, 1) := by decide +kernel
theorem dX2_init_0 : decode cX2_init 0 = .ok (.aload_n 0, 1) := by decide +kernel
theorem dX2_init_1 : decode cX2_init 1 = .ok (.invokespecial 3, 3) := by decide +kernel
theorem dX2_init_4 : decode cX2_init 4 = .ok (.aload_n 0, 1) := by decide +kernel
theorem dX2_init_5 : decode cX2_init 5 = .ok (.bipush 8, 2) := by decide +kernel
theorem dX2_init_7 : decode cX2_init 7 = .ok (.newarray .int, 2) := by decide +kernel
theorem dX2_init_9 : decode cX2_init 9 = .ok (.putfield 9, 3) := by decide +kernel
theorem dX2_init_12 : decode cX2_init 12 = .ok (.return_, 1) := by decide +kernel
theorem dX2_mayFire_0 : decode cX2_mayFire 0 = .ok (.aload_n 0, 1) := by decide +kernel
theorem dX2_mayFire_1 : decode cX2_mayFire 1 = .ok (.aload_n 1, 1) := by decide +kernel
theorem dX2_mayFire_2 : decode cX2_mayFire 2 = .ok (.iconst 0, 1) := by decide +kernel
theorem dX2_mayFire_3 : decode cX2_mayFire 3 = .ok (.aload_n 1, 1) := by decide +kernel
theorem dX2_mayFire_4 : decode cX2_mayFire 4 = .ok (.bipush 10, 2) := by decide +kernel
theorem dX2_mayFire_6 : decode cX2_mayFire 6 = .ok (.iconst 0, 1) := by decide +kernel
theorem dX2_mayFire_7 : decode cX2_mayFire 7 = .ok (.invokevirtual 15, 3) := by decide +kernel
theorem dX2_mayFire_10 : decode cX2_mayFire 10 = .ok (.aload_n 2, 1) := by decide +kernel
theorem dX2_mayFire_11 : decode cX2_mayFire 11 = .ok (.aload_n 2, 1) := by decide +kernel
theorem dX2_mayFire_12 : decode cX2_mayFire 12 = .ok (.invokevirtual 21, 3) := by decide +kernel
theorem dX2_mayFire_15 : decode cX2_mayFire 15 = .ok (.ifCond .eq 7, 3) := by decide +kernel
theorem dX2_mayFire_18 : decode cX2_mayFire 18 = .ok (.iconst 1, 1) := by decide +kernel
theorem dX2_mayFire_19 : decode cX2_mayFire 19 = .ok (.goto 4, 3) := by decide +kernel
theorem dX2_mayFire_22 : decode cX2_mayFire 22 = .ok (.iconst 0, 1) := by decide +kernel
theorem dX2_mayFire_23 : decode cX2_mayFire 23 = .ok (.ireturn, 1) := by decide +kernel
theorem dX2_fire_0 : decode cX2_fire 0 = .ok (.aload_n 2, 1) := by decide +kernel
theorem dX2_fire_1 : decode cX2_fire 1 = .ok (.aload_n 3, 1) := by decide +kernel
theorem dX2_fire_2 : decode cX2_fire 2 = .ok (.invokestatic 25, 3) := by decide +kernel
theorem dX2_fire_5 : decode cX2_fire 5 = .ok (.aload_n 0, 1) := by decide +kernel
theorem dX2_fire_6 : decode cX2_fire 6 = .ok (.aload_n 1, 1) := by decide +kernel
theorem dX2_fire_7 : decode cX2_fire 7 = .ok (.aload_n 1, 1) := by decide +kernel
theorem dX2_fire_8 : decode cX2_fire 8 = .ok (.bipush 10, 2) := by decide +kernel
theorem dX2_fire_10 : decode cX2_fire 10 = .ok (.iconst 0, 1) := by decide +kernel
theorem dX2_fire_11 : decode cX2_fire 11 = .ok (.invokevirtual 15, 3) := by decide +kernel
theorem dX2_fire_14 : decode cX2_fire 14 = .ok (.iconst 1, 1) := by decide +kernel
theorem dX2_fire_15 : decode cX2_fire 15 = .ok (.iadd, 1) := by decide +kernel
theorem dX2_fire_16 : decode cX2_fire 16 = .ok (.aload_n 1, 1) := by decide +kernel
theorem dX2_fire_17 : decode cX2_fire 17 = .ok (.invokevirtual 29, 3) := by decide +kernel
theorem dX2_fire_20 : decode cX2_fire 20 = .ok (.aload_n 2, 1) := by decide +kernel
theorem dX2_fire_21 : decode cX2_fire 21 = .ok (.aload_n 3, 1) := by decide +kernel
theorem dX2_fire_22 : decode cX2_fire 22 = .ok (.invokevirtual 21, 3) := by decide +kernel
theorem dX2_fire_25 : decode cX2_fire 25 = .ok (.pop, 1) := by decide +kernel
theorem dX2_fire_26 : decode cX2_fire 26 = .ok (.return_, 1) := by decide +kernel
theorem dX2_holds_0 : decode cX2_holds 0 = .ok (.aload_n 1, 1) := by decide +kernel
theorem dX2_holds_1 : decode cX2_holds 1 = .ok (.getfield 33, 3) := by decide +kernel
theorem dX2_holds_4 : decode cX2_holds 4 = .ok (.astore_n 3, 1) := by decide +kernel
theorem dX2_holds_5 : decode cX2_holds 5 = .ok (.iconst 0, 1) := by decide +kernel
theorem dX2_holds_6 : decode cX2_holds 6 = .ok (.istore 4, 2) := by decide +kernel
theorem dX2_holds_8 : decode cX2_holds 8 = .ok (.iload 4, 2) := by decide +kernel
theorem dX2_holds_10 : decode cX2_holds 10 = .ok (.aload_n 3, 1) := by decide +kernel
theorem dX2_holds_11 : decode cX2_holds 11 = .ok (.invokevirtual 29, 3) := by decide +kernel
theorem dX2_holds_14 : decode cX2_holds 14 = .ok (.if_icmp .ge 38, 3) := by decide +kernel
theorem dX2_holds_17 : decode cX2_holds 17 = .ok (.aload_n 1, 1) := by decide +kernel
theorem dX2_holds_18 : decode cX2_holds 18 = .ok (.iload 4, 2) := by decide +kernel
theorem dX2_holds_20 : decode cX2_holds 20 = .ok (.invokevirtual 39, 3) := by decide +kernel
theorem dX2_holds_23 : decode cX2_holds 23 = .ok (.ifCond .eq 23, 3) := by decide +kernel
theorem dX2_holds_26 : decode cX2_holds 26 = .ok (.aload_n 0, 1) := by decide +kernel
theorem dX2_holds_27 : decode cX2_holds 27 = .ok (.aload_n 3, 1) := by decide +kernel
theorem dX2_holds_28 : decode cX2_holds 28 = .ok (.iload 4, 2) := by decide +kernel
theorem dX2_holds_30 : decode cX2_holds 30 = .ok (.aload_n 1, 1) := by decide +kernel
theorem dX2_holds_31 : decode cX2_holds 31 = .ok (.iload 4, 2) := by decide +kernel
theorem dX2_holds_33 : decode cX2_holds 33 = .ok (.invokevirtual 43, 3) := by decide +kernel
theorem dX2_holds_36 : decode cX2_holds 36 = .ok (.aload_n 2, 1) := by decide +kernel
theorem dX2_holds_37 : decode cX2_holds 37 = .ok (.aload_n 2, 1) := by decide +kernel
theorem dX2_holds_38 : decode cX2_holds 38 = .ok (.invokevirtual 21, 3) := by decide +kernel
theorem dX2_holds_41 : decode cX2_holds 41 = .ok (.ifCond .ne 5, 3) := by decide +kernel
theorem dX2_holds_44 : decode cX2_holds 44 = .ok (.iconst 0, 1) := by decide +kernel
theorem dX2_holds_45 : decode cX2_holds 45 = .ok (.ireturn, 1) := by decide +kernel
theorem dX2_holds_46 : decode cX2_holds 46 = .ok (.iinc 4 1, 3) := by decide +kernel
theorem dX2_holds_49 : decode cX2_holds 49 = .ok (.goto (-41), 3) := by decide +kernel
theorem dX2_holds_52 : decode cX2_holds 52 = .ok (.iconst 1, 1) := by decide +kernel
theorem dX2_holds_53 : decode cX2_holds 53 = .ok (.ireturn, 1) := by decide +kernel
theorem dX2_run_0 : decode cX2_run 0 = .ok (.aload_n 0, 1) := by decide +kernel
theorem dX2_run_1 : decode cX2_run 1 = .ok (.iconst 0, 1) := by decide +kernel
theorem dX2_run_2 : decode cX2_run 2 = .ok (.putfield 47, 3) := by decide +kernel
theorem dX2_run_5 : decode cX2_run 5 = .ok (.iload_n 2, 1) := by decide +kernel
theorem dX2_run_6 : decode cX2_run 6 = .ok (.istore 6, 2) := by decide +kernel
theorem dX2_run_8 : decode cX2_run 8 = .ok (.iload 6, 2) := by decide +kernel
theorem dX2_run_10 : decode cX2_run 10 = .ok (.iload_n 3, 1) := by decide +kernel
theorem dX2_run_11 : decode cX2_run 11 = .ok (.if_icmp .ge 23, 3) := by decide +kernel
theorem dX2_run_14 : decode cX2_run 14 = .ok (.aload_n 0, 1) := by decide +kernel
theorem dX2_run_15 : decode cX2_run 15 = .ok (.aload_n 1, 1) := by decide +kernel
theorem dX2_run_16 : decode cX2_run 16 = .ok (.iload 6, 2) := by decide +kernel
theorem dX2_run_18 : decode cX2_run 18 = .ok (.invokevirtual 51, 3) := by decide +kernel
theorem dX2_run_21 : decode cX2_run 21 = .ok (.aload 4, 2) := by decide +kernel
theorem dX2_run_23 : decode cX2_run 23 = .ok (.aload 5, 2) := by decide +kernel
theorem dX2_run_25 : decode cX2_run 25 = .ok (.invokevirtual 54, 3) := by decide +kernel
theorem dX2_run_28 : decode cX2_run 28 = .ok (.iinc 6 1, 3) := by decide +kernel
theorem dX2_run_31 : decode cX2_run 31 = .ok (.goto (-23), 3) := by decide +kernel
theorem dX2_run_34 : decode cX2_run 34 = .ok (.aload_n 0, 1) := by decide +kernel
theorem dX2_run_35 : decode cX2_run 35 = .ok (.invokevirtual 58, 3) := by decide +kernel
theorem dX2_run_38 : decode cX2_run 38 = .ok (.ireturn, 1) := by decide +kernel
theorem dX2_step_0 : decode cX2_step 0 = .ok (.iload_n 1, 1) := by decide +kernel
theorem dX2_step_1 : decode cX2_step 1 = .ok (.invokestatic 61, 3) := by decide +kernel
theorem dX2_step_4 : decode cX2_step 4 = .ok (.istore 4, 2) := by decide +kernel
theorem dX2_step_6 : decode cX2_step 6 = .ok (.iload_n 1, 1) := by decide +kernel
theorem dX2_step_7 : decode cX2_step 7 = .ok (.invokestatic 66, 3) := by decide +kernel
theorem dX2_step_10 : decode cX2_step 10 = .ok (.istore 5, 2) := by decide +kernel
theorem dX2_step_12 : decode cX2_step 12 = .ok (.iload 4, 2) := by decide +kernel
theorem dX2_step_14 : decode cX2_step 14 = .ok (.ifCond .ne 12, 3) := by decide +kernel
theorem dX2_step_17 : decode cX2_step 17 = .ok (.aload_n 0, 1) := by decide +kernel
theorem dX2_step_18 : decode cX2_step 18 = .ok (.iload 5, 2) := by decide +kernel
theorem dX2_step_20 : decode cX2_step 20 = .ok (.invokevirtual 69, 3) := by decide +kernel
theorem dX2_step_23 : decode cX2_step 23 = .ok (.goto 113, 3) := by decide +kernel
theorem dX2_step_26 : decode cX2_step 26 = .ok (.iload 4, 2) := by decide +kernel
theorem dX2_step_28 : decode cX2_step 28 = .ok (.iconst 1, 1) := by decide +kernel
theorem dX2_step_29 : decode cX2_step 29 = .ok (.if_icmp .ne 26, 3) := by decide +kernel
theorem dX2_step_32 : decode cX2_step 32 = .ok (.aload_n 0, 1) := by decide +kernel
theorem dX2_step_33 : decode cX2_step 33 = .ok (.iload 5, 2) := by decide +kernel
theorem dX2_step_35 : decode cX2_step 35 = .ok (.invokestatic 73, 3) := by decide +kernel
theorem dX2_step_38 : decode cX2_step 38 = .ok (.ifCond .eq 10, 3) := by decide +kernel
theorem dX2_step_41 : decode cX2_step 41 = .ok (.aload_n 2, 1) := by decide +kernel
theorem dX2_step_42 : decode cX2_step 42 = .ok (.iload 5, 2) := by decide +kernel
theorem dX2_step_44 : decode cX2_step 44 = .ok (.iaload, 1) := by decide +kernel
theorem dX2_step_45 : decode cX2_step 45 = .ok (.goto 4, 3) := by decide +kernel
theorem dX2_step_48 : decode cX2_step 48 = .ok (.iconst 0, 1) := by decide +kernel
theorem dX2_step_49 : decode cX2_step 49 = .ok (.invokevirtual 69, 3) := by decide +kernel
theorem dX2_step_52 : decode cX2_step 52 = .ok (.goto 84, 3) := by decide +kernel
theorem dX2_step_55 : decode cX2_step 55 = .ok (.iload 4, 2) := by decide +kernel
theorem dX2_step_57 : decode cX2_step 57 = .ok (.bipush 9, 2) := by decide +kernel
theorem dX2_step_59 : decode cX2_step 59 = .ok (.if_icmp .ne 22, 3) := by decide +kernel
theorem dX2_step_62 : decode cX2_step 62 = .ok (.aload_n 0, 1) := by decide +kernel
theorem dX2_step_63 : decode cX2_step 63 = .ok (.aload_n 0, 1) := by decide +kernel
theorem dX2_step_64 : decode cX2_step 64 = .ok (.invokevirtual 58, 3) := by decide +kernel
theorem dX2_step_67 : decode cX2_step 67 = .ok (.ifCond .ne 7, 3) := by decide +kernel
theorem dX2_step_70 : decode cX2_step 70 = .ok (.iconst 1, 1) := by decide +kernel
theorem dX2_step_71 : decode cX2_step 71 = .ok (.goto 4, 3) := by decide +kernel
theorem dX2_step_74 : decode cX2_step 74 = .ok (.iconst 0, 1) := by decide +kernel
theorem dX2_step_75 : decode cX2_step 75 = .ok (.invokevirtual 69, 3) := by decide +kernel
theorem dX2_step_78 : decode cX2_step 78 = .ok (.goto 58, 3) := by decide +kernel
theorem dX2_step_81 : decode cX2_step 81 = .ok (.iload 4, 2) := by decide +kernel
theorem dX2_step_83 : decode cX2_step 83 = .ok (.bipush 11, 2) := by decide +kernel
theorem dX2_step_85 : decode cX2_step 85 = .ok (.if_icmp .ne 26, 3) := by decide +kernel
theorem dX2_step_88 : decode cX2_step 88 = .ok (.aload_n 0, 1) := by decide +kernel
theorem dX2_step_89 : decode cX2_step 89 = .ok (.invokevirtual 58, 3) := by decide +kernel
theorem dX2_step_92 : decode cX2_step 92 = .ok (.istore 6, 2) := by decide +kernel
theorem dX2_step_94 : decode cX2_step 94 = .ok (.iload 5, 2) := by decide +kernel
theorem dX2_step_96 : decode cX2_step 96 = .ok (.invokestatic 73, 3) := by decide +kernel
theorem dX2_step_99 : decode cX2_step 99 = .ok (.ifCond .eq 9, 3) := by decide +kernel
theorem dX2_step_102 : decode cX2_step 102 = .ok (.aload_n 3, 1) := by decide +kernel
theorem dX2_step_103 : decode cX2_step 103 = .ok (.iload 5, 2) := by decide +kernel
theorem dX2_step_105 : decode cX2_step 105 = .ok (.iload 6, 2) := by decide +kernel
theorem dX2_step_107 : decode cX2_step 107 = .ok (.iastore, 1) := by decide +kernel
theorem dX2_step_108 : decode cX2_step 108 = .ok (.goto 28, 3) := by decide +kernel
theorem dX2_step_111 : decode cX2_step 111 = .ok (.aload_n 0, 1) := by decide +kernel
theorem dX2_step_112 : decode cX2_step 112 = .ok (.invokevirtual 58, 3) := by decide +kernel
theorem dX2_step_115 : decode cX2_step 115 = .ok (.istore 6, 2) := by decide +kernel
theorem dX2_step_117 : decode cX2_step 117 = .ok (.aload_n 0, 1) := by decide +kernel
theorem dX2_step_118 : decode cX2_step 118 = .ok (.invokevirtual 58, 3) := by decide +kernel
theorem dX2_step_121 : decode cX2_step 121 = .ok (.istore 7, 2) := by decide +kernel
theorem dX2_step_123 : decode cX2_step 123 = .ok (.aload_n 0, 1) := by decide +kernel
theorem dX2_step_124 : decode cX2_step 124 = .ok (.iload 4, 2) := by decide +kernel
theorem dX2_step_126 : decode cX2_step 126 = .ok (.iload 7, 2) := by decide +kernel
theorem dX2_step_128 : decode cX2_step 128 = .ok (.iload 6, 2) := by decide +kernel
theorem dX2_step_130 : decode cX2_step 130 = .ok (.invokestatic 76, 3) := by decide +kernel
theorem dX2_step_133 : decode cX2_step 133 = .ok (.invokevirtual 69, 3) := by decide +kernel
theorem dX2_step_136 : decode cX2_step 136 = .ok (.return_, 1) := by decide +kernel
theorem dX2_joined_0 : decode cX2_joined 0 = .ok (.iload_n 0, 1) := by decide +kernel
theorem dX2_joined_1 : decode cX2_joined 1 = .ok (.tableswitch 85 2 8 #[43, 47, 51, 55, 66, 77, 81], 43) := by decide +kernel
theorem dX2_joined_44 : decode cX2_joined 44 = .ok (.iload_n 1, 1) := by decide +kernel
theorem dX2_joined_45 : decode cX2_joined 45 = .ok (.iload_n 2, 1) := by decide +kernel
theorem dX2_joined_46 : decode cX2_joined 46 = .ok (.iadd, 1) := by decide +kernel
theorem dX2_joined_47 : decode cX2_joined 47 = .ok (.ireturn, 1) := by decide +kernel
theorem dX2_joined_48 : decode cX2_joined 48 = .ok (.iload_n 1, 1) := by decide +kernel
theorem dX2_joined_49 : decode cX2_joined 49 = .ok (.iload_n 2, 1) := by decide +kernel
theorem dX2_joined_50 : decode cX2_joined 50 = .ok (.isub, 1) := by decide +kernel
theorem dX2_joined_51 : decode cX2_joined 51 = .ok (.ireturn, 1) := by decide +kernel
theorem dX2_joined_52 : decode cX2_joined 52 = .ok (.iload_n 1, 1) := by decide +kernel
theorem dX2_joined_53 : decode cX2_joined 53 = .ok (.iload_n 2, 1) := by decide +kernel
theorem dX2_joined_54 : decode cX2_joined 54 = .ok (.imul, 1) := by decide +kernel
theorem dX2_joined_55 : decode cX2_joined 55 = .ok (.ireturn, 1) := by decide +kernel
theorem dX2_joined_56 : decode cX2_joined 56 = .ok (.iload_n 1, 1) := by decide +kernel
theorem dX2_joined_57 : decode cX2_joined 57 = .ok (.iload_n 2, 1) := by decide +kernel
theorem dX2_joined_58 : decode cX2_joined 58 = .ok (.if_icmp .ne 7, 3) := by decide +kernel
theorem dX2_joined_61 : decode cX2_joined 61 = .ok (.iconst 1, 1) := by decide +kernel
theorem dX2_joined_62 : decode cX2_joined 62 = .ok (.goto 4, 3) := by decide +kernel
theorem dX2_joined_65 : decode cX2_joined 65 = .ok (.iconst 0, 1) := by decide +kernel
theorem dX2_joined_66 : decode cX2_joined 66 = .ok (.ireturn, 1) := by decide +kernel
theorem dX2_joined_67 : decode cX2_joined 67 = .ok (.iload_n 1, 1) := by decide +kernel
theorem dX2_joined_68 : decode cX2_joined 68 = .ok (.iload_n 2, 1) := by decide +kernel
theorem dX2_joined_69 : decode cX2_joined 69 = .ok (.if_icmp .ge 7, 3) := by decide +kernel
theorem dX2_joined_72 : decode cX2_joined 72 = .ok (.iconst 1, 1) := by decide +kernel
theorem dX2_joined_73 : decode cX2_joined 73 = .ok (.goto 4, 3) := by decide +kernel
theorem dX2_joined_76 : decode cX2_joined 76 = .ok (.iconst 0, 1) := by decide +kernel
theorem dX2_joined_77 : decode cX2_joined 77 = .ok (.ireturn, 1) := by decide +kernel
theorem dX2_joined_78 : decode cX2_joined 78 = .ok (.iload_n 1, 1) := by decide +kernel
theorem dX2_joined_79 : decode cX2_joined 79 = .ok (.iload_n 2, 1) := by decide +kernel
theorem dX2_joined_80 : decode cX2_joined 80 = .ok (.iand, 1) := by decide +kernel
theorem dX2_joined_81 : decode cX2_joined 81 = .ok (.ireturn, 1) := by decide +kernel
theorem dX2_joined_82 : decode cX2_joined 82 = .ok (.iload_n 1, 1) := by decide +kernel
theorem dX2_joined_83 : decode cX2_joined 83 = .ok (.iload_n 2, 1) := by decide +kernel
theorem dX2_joined_84 : decode cX2_joined 84 = .ok (.ior, 1) := by decide +kernel
theorem dX2_joined_85 : decode cX2_joined 85 = .ok (.ireturn, 1) := by decide +kernel
theorem dX2_joined_86 : decode cX2_joined 86 = .ok (.iconst 0, 1) := by decide +kernel
theorem dX2_joined_87 : decode cX2_joined 87 = .ok (.ireturn, 1) := by decide +kernel
theorem dX2_push_0 : decode cX2_push 0 = .ok (.aload_n 0, 1) := by decide +kernel
theorem dX2_push_1 : decode cX2_push 1 = .ok (.getfield 47, 3) := by decide +kernel
theorem dX2_push_4 : decode cX2_push 4 = .ok (.ifCond .lt 32, 3) := by decide +kernel
theorem dX2_push_7 : decode cX2_push 7 = .ok (.aload_n 0, 1) := by decide +kernel
theorem dX2_push_8 : decode cX2_push 8 = .ok (.getfield 47, 3) := by decide +kernel
theorem dX2_push_11 : decode cX2_push 11 = .ok (.bipush 8, 2) := by decide +kernel
theorem dX2_push_13 : decode cX2_push 13 = .ok (.if_icmp .ge 23, 3) := by decide +kernel
theorem dX2_push_16 : decode cX2_push 16 = .ok (.aload_n 0, 1) := by decide +kernel
theorem dX2_push_17 : decode cX2_push 17 = .ok (.getfield 9, 3) := by decide +kernel
theorem dX2_push_20 : decode cX2_push 20 = .ok (.aload_n 0, 1) := by decide +kernel
theorem dX2_push_21 : decode cX2_push 21 = .ok (.getfield 47, 3) := by decide +kernel
theorem dX2_push_24 : decode cX2_push 24 = .ok (.iload_n 1, 1) := by decide +kernel
theorem dX2_push_25 : decode cX2_push 25 = .ok (.iastore, 1) := by decide +kernel
theorem dX2_push_26 : decode cX2_push 26 = .ok (.aload_n 0, 1) := by decide +kernel
theorem dX2_push_27 : decode cX2_push 27 = .ok (.dup, 1) := by decide +kernel
theorem dX2_push_28 : decode cX2_push 28 = .ok (.getfield 47, 3) := by decide +kernel
theorem dX2_push_31 : decode cX2_push 31 = .ok (.iconst 1, 1) := by decide +kernel
theorem dX2_push_32 : decode cX2_push 32 = .ok (.iadd, 1) := by decide +kernel
theorem dX2_push_33 : decode cX2_push 33 = .ok (.putfield 47, 3) := by decide +kernel
theorem dX2_push_36 : decode cX2_push 36 = .ok (.return_, 1) := by decide +kernel
theorem dX2_pop_0 : decode cX2_pop 0 = .ok (.aload_n 0, 1) := by decide +kernel
theorem dX2_pop_1 : decode cX2_pop 1 = .ok (.getfield 47, 3) := by decide +kernel
theorem dX2_pop_4 : decode cX2_pop 4 = .ok (.iconst 1, 1) := by decide +kernel
theorem dX2_pop_5 : decode cX2_pop 5 = .ok (.if_icmp .lt 12, 3) := by decide +kernel
theorem dX2_pop_8 : decode cX2_pop 8 = .ok (.aload_n 0, 1) := by decide +kernel
theorem dX2_pop_9 : decode cX2_pop 9 = .ok (.getfield 47, 3) := by decide +kernel
theorem dX2_pop_12 : decode cX2_pop 12 = .ok (.bipush 8, 2) := by decide +kernel
theorem dX2_pop_14 : decode cX2_pop 14 = .ok (.if_icmp .le 5, 3) := by decide +kernel
theorem dX2_pop_17 : decode cX2_pop 17 = .ok (.iconst 0, 1) := by decide +kernel
theorem dX2_pop_18 : decode cX2_pop 18 = .ok (.ireturn, 1) := by decide +kernel
theorem dX2_pop_19 : decode cX2_pop 19 = .ok (.aload_n 0, 1) := by decide +kernel
theorem dX2_pop_20 : decode cX2_pop 20 = .ok (.dup, 1) := by decide +kernel
theorem dX2_pop_21 : decode cX2_pop 21 = .ok (.getfield 47, 3) := by decide +kernel
theorem dX2_pop_24 : decode cX2_pop 24 = .ok (.iconst 1, 1) := by decide +kernel
theorem dX2_pop_25 : decode cX2_pop 25 = .ok (.isub, 1) := by decide +kernel
theorem dX2_pop_26 : decode cX2_pop 26 = .ok (.putfield 47, 3) := by decide +kernel
theorem dX2_pop_29 : decode cX2_pop 29 = .ok (.aload_n 0, 1) := by decide +kernel
theorem dX2_pop_30 : decode cX2_pop 30 = .ok (.getfield 9, 3) := by decide +kernel
theorem dX2_pop_33 : decode cX2_pop 33 = .ok (.aload_n 0, 1) := by decide +kernel
theorem dX2_pop_34 : decode cX2_pop 34 = .ok (.getfield 47, 3) := by decide +kernel
theorem dX2_pop_37 : decode cX2_pop 37 = .ok (.iaload, 1) := by decide +kernel
theorem dX2_pop_38 : decode cX2_pop 38 = .ok (.ireturn, 1) := by decide +kernel
theorem dX3_init_0 : decode cX3_init 0 = .ok (.aload_n 0, 1) := by decide +kernel
theorem dX3_init_1 : decode cX3_init 1 = .ok (.invokespecial 3, 3) := by decide +kernel
theorem dX3_init_4 : decode cX3_init 4 = .ok (.aload_n 0, 1) := by decide +kernel
theorem dX3_init_5 : decode cX3_init 5 = .ok (.bipush 12, 2) := by decide +kernel
theorem dX3_init_7 : decode cX3_init 7 = .ok (.anewarray 9, 3) := by decide +kernel
theorem dX3_init_10 : decode cX3_init 10 = .ok (.putfield 11, 3) := by decide +kernel
theorem dX3_init_13 : decode cX3_init 13 = .ok (.aload_n 0, 1) := by decide +kernel
theorem dX3_init_14 : decode cX3_init 14 = .ok (.new 9, 3) := by decide +kernel
theorem dX3_init_17 : decode cX3_init 17 = .ok (.dup, 1) := by decide +kernel
theorem dX3_init_18 : decode cX3_init 18 = .ok (.invokespecial 17, 3) := by decide +kernel
theorem dX3_init_21 : decode cX3_init 21 = .ok (.putfield 18, 3) := by decide +kernel
theorem dX3_init_24 : decode cX3_init 24 = .ok (.iconst 0, 1) := by decide +kernel
theorem dX3_init_25 : decode cX3_init 25 = .ok (.istore_n 1, 1) := by decide +kernel
theorem dX3_init_26 : decode cX3_init 26 = .ok (.iload_n 1, 1) := by decide +kernel
theorem dX3_init_27 : decode cX3_init 27 = .ok (.bipush 12, 2) := by decide +kernel
theorem dX3_init_29 : decode cX3_init 29 = .ok (.if_icmp .ge 22, 3) := by decide +kernel
theorem dX3_init_32 : decode cX3_init 32 = .ok (.aload_n 0, 1) := by decide +kernel
theorem dX3_init_33 : decode cX3_init 33 = .ok (.getfield 11, 3) := by decide +kernel
theorem dX3_init_36 : decode cX3_init 36 = .ok (.iload_n 1, 1) := by decide +kernel
theorem dX3_init_37 : decode cX3_init 37 = .ok (.new 9, 3) := by decide +kernel
theorem dX3_init_40 : decode cX3_init 40 = .ok (.dup, 1) := by decide +kernel
theorem dX3_init_41 : decode cX3_init 41 = .ok (.invokespecial 17, 3) := by decide +kernel
theorem dX3_init_44 : decode cX3_init 44 = .ok (.aastore, 1) := by decide +kernel
theorem dX3_init_45 : decode cX3_init 45 = .ok (.iinc 1 1, 3) := by decide +kernel
theorem dX3_init_48 : decode cX3_init 48 = .ok (.goto (-22), 3) := by decide +kernel
theorem dX3_init_51 : decode cX3_init 51 = .ok (.return_, 1) := by decide +kernel
theorem dX3_clear_0 : decode cX3_clear 0 = .ok (.aload_n 0, 1) := by decide +kernel
theorem dX3_clear_1 : decode cX3_clear 1 = .ok (.iconst 0, 1) := by decide +kernel
theorem dX3_clear_2 : decode cX3_clear 2 = .ok (.putfield 22, 3) := by decide +kernel
theorem dX3_clear_5 : decode cX3_clear 5 = .ok (.return_, 1) := by decide +kernel
theorem dX3_count_0 : decode cX3_count 0 = .ok (.aload_n 0, 1) := by decide +kernel
theorem dX3_count_1 : decode cX3_count 1 = .ok (.getfield 22, 3) := by decide +kernel
theorem dX3_count_4 : decode cX3_count 4 = .ok (.ireturn, 1) := by decide +kernel
theorem dX3_isFull_0 : decode cX3_isFull 0 = .ok (.aload_n 0, 1) := by decide +kernel
theorem dX3_isFull_1 : decode cX3_isFull 1 = .ok (.getfield 22, 3) := by decide +kernel
theorem dX3_isFull_4 : decode cX3_isFull 4 = .ok (.bipush 12, 2) := by decide +kernel
theorem dX3_isFull_6 : decode cX3_isFull 6 = .ok (.if_icmp .lt 7, 3) := by decide +kernel
theorem dX3_isFull_9 : decode cX3_isFull 9 = .ok (.iconst 1, 1) := by decide +kernel
theorem dX3_isFull_10 : decode cX3_isFull 10 = .ok (.goto 4, 3) := by decide +kernel
theorem dX3_isFull_13 : decode cX3_isFull 13 = .ok (.iconst 0, 1) := by decide +kernel
theorem dX3_isFull_14 : decode cX3_isFull 14 = .ok (.ireturn, 1) := by decide +kernel
theorem dX3_begin_0 : decode cX3_begin 0 = .ok (.aload_n 0, 1) := by decide +kernel
theorem dX3_begin_1 : decode cX3_begin 1 = .ok (.getfield 22, 3) := by decide +kernel
theorem dX3_begin_4 : decode cX3_begin 4 = .ok (.bipush 12, 2) := by decide +kernel
theorem dX3_begin_6 : decode cX3_begin 6 = .ok (.if_icmp .lt 5, 3) := by decide +kernel
theorem dX3_begin_9 : decode cX3_begin 9 = .ok (.iconst (-1), 1) := by decide +kernel
theorem dX3_begin_10 : decode cX3_begin 10 = .ok (.ireturn, 1) := by decide +kernel
theorem dX3_begin_11 : decode cX3_begin 11 = .ok (.aload_n 0, 1) := by decide +kernel
theorem dX3_begin_12 : decode cX3_begin 12 = .ok (.getfield 11, 3) := by decide +kernel
theorem dX3_begin_15 : decode cX3_begin 15 = .ok (.aload_n 0, 1) := by decide +kernel
theorem dX3_begin_16 : decode cX3_begin 16 = .ok (.getfield 22, 3) := by decide +kernel
theorem dX3_begin_19 : decode cX3_begin 19 = .ok (.aaload, 1) := by decide +kernel
theorem dX3_begin_20 : decode cX3_begin 20 = .ok (.invokevirtual 26, 3) := by decide +kernel
theorem dX3_begin_23 : decode cX3_begin 23 = .ok (.aload_n 0, 1) := by decide +kernel
theorem dX3_begin_24 : decode cX3_begin 24 = .ok (.dup, 1) := by decide +kernel
theorem dX3_begin_25 : decode cX3_begin 25 = .ok (.getfield 22, 3) := by decide +kernel
theorem dX3_begin_28 : decode cX3_begin 28 = .ok (.iconst 1, 1) := by decide +kernel
theorem dX3_begin_29 : decode cX3_begin 29 = .ok (.iadd, 1) := by decide +kernel
theorem dX3_begin_30 : decode cX3_begin 30 = .ok (.putfield 22, 3) := by decide +kernel
theorem dX3_begin_33 : decode cX3_begin 33 = .ok (.aload_n 0, 1) := by decide +kernel
theorem dX3_begin_34 : decode cX3_begin 34 = .ok (.getfield 22, 3) := by decide +kernel
theorem dX3_begin_37 : decode cX3_begin 37 = .ok (.iconst 1, 1) := by decide +kernel
theorem dX3_begin_38 : decode cX3_begin 38 = .ok (.isub, 1) := by decide +kernel
theorem dX3_begin_39 : decode cX3_begin 39 = .ok (.ireturn, 1) := by decide +kernel
theorem dX3_at_0 : decode cX3_at 0 = .ok (.iload_n 1, 1) := by decide +kernel
theorem dX3_at_1 : decode cX3_at 1 = .ok (.ifCond .lt 20, 3) := by decide +kernel
theorem dX3_at_4 : decode cX3_at 4 = .ok (.iload_n 1, 1) := by decide +kernel
theorem dX3_at_5 : decode cX3_at 5 = .ok (.aload_n 0, 1) := by decide +kernel
theorem dX3_at_6 : decode cX3_at 6 = .ok (.getfield 22, 3) := by decide +kernel
theorem dX3_at_9 : decode cX3_at 9 = .ok (.if_icmp .ge 12, 3) := by decide +kernel
theorem dX3_at_12 : decode cX3_at 12 = .ok (.aload_n 0, 1) := by decide +kernel
theorem dX3_at_13 : decode cX3_at 13 = .ok (.getfield 11, 3) := by decide +kernel
theorem dX3_at_16 : decode cX3_at 16 = .ok (.iload_n 1, 1) := by decide +kernel
theorem dX3_at_17 : decode cX3_at 17 = .ok (.aaload, 1) := by decide +kernel
theorem dX3_at_18 : decode cX3_at 18 = .ok (.goto 7, 3) := by decide +kernel
theorem dX3_at_21 : decode cX3_at 21 = .ok (.aload_n 0, 1) := by decide +kernel
theorem dX3_at_22 : decode cX3_at 22 = .ok (.getfield 18, 3) := by decide +kernel
theorem dX3_at_25 : decode cX3_at 25 = .ok (.areturn, 1) := by decide +kernel
theorem dX3_areRight_0 : decode cX3_areRight 0 = .ok (.iconst 0, 1) := by decide +kernel
theorem dX3_areRight_1 : decode cX3_areRight 1 = .ok (.istore_n 1, 1) := by decide +kernel
theorem dX3_areRight_2 : decode cX3_areRight 2 = .ok (.iload_n 1, 1) := by decide +kernel
theorem dX3_areRight_3 : decode cX3_areRight 3 = .ok (.aload_n 0, 1) := by decide +kernel
theorem dX3_areRight_4 : decode cX3_areRight 4 = .ok (.getfield 22, 3) := by decide +kernel
theorem dX3_areRight_7 : decode cX3_areRight 7 = .ok (.if_icmp .ge 22, 3) := by decide +kernel
theorem dX3_areRight_10 : decode cX3_areRight 10 = .ok (.aload_n 0, 1) := by decide +kernel
theorem dX3_areRight_11 : decode cX3_areRight 11 = .ok (.iload_n 1, 1) := by decide +kernel
theorem dX3_areRight_12 : decode cX3_areRight 12 = .ok (.invokevirtual 29, 3) := by decide +kernel
theorem dX3_areRight_15 : decode cX3_areRight 15 = .ok (.invokestatic 33, 3) := by decide +kernel
theorem dX3_areRight_18 : decode cX3_areRight 18 = .ok (.ifCond .ne 5, 3) := by decide +kernel
theorem dX3_areRight_21 : decode cX3_areRight 21 = .ok (.iconst 0, 1) := by decide +kernel
theorem dX3_areRight_22 : decode cX3_areRight 22 = .ok (.ireturn, 1) := by decide +kernel
theorem dX3_areRight_23 : decode cX3_areRight 23 = .ok (.iinc 1 1, 3) := by decide +kernel
theorem dX3_areRight_26 : decode cX3_areRight 26 = .ok (.goto (-24), 3) := by decide +kernel
theorem dX3_areRight_29 : decode cX3_areRight 29 = .ok (.iconst 1, 1) := by decide +kernel
theorem dX3_areRight_30 : decode cX3_areRight 30 = .ok (.ireturn, 1) := by decide +kernel
theorem dX3_isRight_0 : decode cX3_isRight 0 = .ok (.iconst 0, 1) := by decide +kernel
theorem dX3_isRight_1 : decode cX3_isRight 1 = .ok (.istore_n 1, 1) := by decide +kernel
theorem dX3_isRight_2 : decode cX3_isRight 2 = .ok (.iconst 0, 1) := by decide +kernel
theorem dX3_isRight_3 : decode cX3_isRight 3 = .ok (.istore_n 2, 1) := by decide +kernel
theorem dX3_isRight_4 : decode cX3_isRight 4 = .ok (.iconst 0, 1) := by decide +kernel
theorem dX3_isRight_5 : decode cX3_isRight 5 = .ok (.istore_n 3, 1) := by decide +kernel
theorem dX3_isRight_6 : decode cX3_isRight 6 = .ok (.iload_n 3, 1) := by decide +kernel
theorem dX3_isRight_7 : decode cX3_isRight 7 = .ok (.aload_n 0, 1) := by decide +kernel
theorem dX3_isRight_8 : decode cX3_isRight 8 = .ok (.invokevirtual 37, 3) := by decide +kernel
theorem dX3_isRight_11 : decode cX3_isRight 11 = .ok (.if_icmp .ge 55, 3) := by decide +kernel
theorem dX3_isRight_14 : decode cX3_isRight 14 = .ok (.aload_n 0, 1) := by decide +kernel
theorem dX3_isRight_15 : decode cX3_isRight 15 = .ok (.iload_n 3, 1) := by decide +kernel
theorem dX3_isRight_16 : decode cX3_isRight 16 = .ok (.invokevirtual 41, 3) := by decide +kernel
theorem dX3_isRight_19 : decode cX3_isRight 19 = .ok (.bipush 10, 2) := by decide +kernel
theorem dX3_isRight_21 : decode cX3_isRight 21 = .ok (.if_icmp .ne 21, 3) := by decide +kernel
theorem dX3_isRight_24 : decode cX3_isRight 24 = .ok (.iload_n 1, 1) := by decide +kernel
theorem dX3_isRight_25 : decode cX3_isRight 25 = .ok (.ifCond .ne 17, 3) := by decide +kernel
theorem dX3_isRight_28 : decode cX3_isRight 28 = .ok (.iload_n 2, 1) := by decide +kernel
theorem dX3_isRight_29 : decode cX3_isRight 29 = .ok (.iconst 1, 1) := by decide +kernel
theorem dX3_isRight_30 : decode cX3_isRight 30 = .ok (.if_icmp .eq 5, 3) := by decide +kernel
theorem dX3_isRight_33 : decode cX3_isRight 33 = .ok (.iconst 0, 1) := by decide +kernel
theorem dX3_isRight_34 : decode cX3_isRight 34 = .ok (.ireturn, 1) := by decide +kernel
theorem dX3_isRight_35 : decode cX3_isRight 35 = .ok (.iconst 1, 1) := by decide +kernel
theorem dX3_isRight_36 : decode cX3_isRight 36 = .ok (.istore_n 1, 1) := by decide +kernel
theorem dX3_isRight_37 : decode cX3_isRight 37 = .ok (.iconst 0, 1) := by decide +kernel
theorem dX3_isRight_38 : decode cX3_isRight 38 = .ok (.istore_n 2, 1) := by decide +kernel
theorem dX3_isRight_39 : decode cX3_isRight 39 = .ok (.goto 14, 3) := by decide +kernel
theorem dX3_isRight_42 : decode cX3_isRight 42 = .ok (.iload_n 2, 1) := by decide +kernel
theorem dX3_isRight_43 : decode cX3_isRight 43 = .ok (.aload_n 0, 1) := by decide +kernel
theorem dX3_isRight_44 : decode cX3_isRight 44 = .ok (.iload_n 3, 1) := by decide +kernel
theorem dX3_isRight_45 : decode cX3_isRight 45 = .ok (.invokevirtual 41, 3) := by decide +kernel
theorem dX3_isRight_48 : decode cX3_isRight 48 = .ok (.iload_n 1, 1) := by decide +kernel
theorem dX3_isRight_49 : decode cX3_isRight 49 = .ok (.invokestatic 45, 3) := by decide +kernel
theorem dX3_isRight_52 : decode cX3_isRight 52 = .ok (.istore_n 2, 1) := by decide +kernel
theorem dX3_isRight_53 : decode cX3_isRight 53 = .ok (.iload_n 2, 1) := by decide +kernel
theorem dX3_isRight_54 : decode cX3_isRight 54 = .ok (.iconst (-1), 1) := by decide +kernel
theorem dX3_isRight_55 : decode cX3_isRight 55 = .ok (.if_icmp .ne 5, 3) := by decide +kernel
theorem dX3_isRight_58 : decode cX3_isRight 58 = .ok (.iconst 0, 1) := by decide +kernel
theorem dX3_isRight_59 : decode cX3_isRight 59 = .ok (.ireturn, 1) := by decide +kernel
theorem dX3_isRight_60 : decode cX3_isRight 60 = .ok (.iinc 3 1, 3) := by decide +kernel
theorem dX3_isRight_63 : decode cX3_isRight 63 = .ok (.goto (-57), 3) := by decide +kernel
theorem dX3_isRight_66 : decode cX3_isRight 66 = .ok (.iload_n 1, 1) := by decide +kernel
theorem dX3_isRight_67 : decode cX3_isRight 67 = .ok (.ifCond .eq 11, 3) := by decide +kernel
theorem dX3_isRight_70 : decode cX3_isRight 70 = .ok (.iload_n 2, 1) := by decide +kernel
theorem dX3_isRight_71 : decode cX3_isRight 71 = .ok (.ifCond .ne 7, 3) := by decide +kernel
theorem dX3_isRight_74 : decode cX3_isRight 74 = .ok (.iconst 1, 1) := by decide +kernel
theorem dX3_isRight_75 : decode cX3_isRight 75 = .ok (.goto 4, 3) := by decide +kernel
theorem dX3_isRight_78 : decode cX3_isRight 78 = .ok (.iconst 0, 1) := by decide +kernel
theorem dX3_isRight_79 : decode cX3_isRight 79 = .ok (.ireturn, 1) := by decide +kernel
theorem dX3_bearExchange_0 : decode cX3_bearExchange 0 = .ok (.iconst 0, 1) := by decide +kernel
theorem dX3_bearExchange_1 : decode cX3_bearExchange 1 = .ok (.istore_n 3, 1) := by decide +kernel
theorem dX3_bearExchange_2 : decode cX3_bearExchange 2 = .ok (.iload_n 3, 1) := by decide +kernel
theorem dX3_bearExchange_3 : decode cX3_bearExchange 3 = .ok (.aload_n 0, 1) := by decide +kernel
theorem dX3_bearExchange_4 : decode cX3_bearExchange 4 = .ok (.getfield 22, 3) := by decide +kernel
theorem dX3_bearExchange_7 : decode cX3_bearExchange 7 = .ok (.if_icmp .ge 25, 3) := by decide +kernel
theorem dX3_bearExchange_10 : decode cX3_bearExchange 10 = .ok (.aload_n 0, 1) := by decide +kernel
theorem dX3_bearExchange_11 : decode cX3_bearExchange 11 = .ok (.aload_n 0, 1) := by decide +kernel
theorem dX3_bearExchange_12 : decode cX3_bearExchange 12 = .ok (.iload_n 3, 1) := by decide +kernel
theorem dX3_bearExchange_13 : decode cX3_bearExchange 13 = .ok (.invokevirtual 29, 3) := by decide +kernel
theorem dX3_bearExchange_16 : decode cX3_bearExchange 16 = .ok (.iload_n 1, 1) := by decide +kernel
theorem dX3_bearExchange_17 : decode cX3_bearExchange 17 = .ok (.iload_n 2, 1) := by decide +kernel
theorem dX3_bearExchange_18 : decode cX3_bearExchange 18 = .ok (.invokevirtual 51, 3) := by decide +kernel
theorem dX3_bearExchange_21 : decode cX3_bearExchange 21 = .ok (.ifCond .ne 5, 3) := by decide +kernel
theorem dX3_bearExchange_24 : decode cX3_bearExchange 24 = .ok (.iconst 0, 1) := by decide +kernel
theorem dX3_bearExchange_25 : decode cX3_bearExchange 25 = .ok (.ireturn, 1) := by decide +kernel
theorem dX3_bearExchange_26 : decode cX3_bearExchange 26 = .ok (.iinc 3 1, 3) := by decide +kernel
theorem dX3_bearExchange_29 : decode cX3_bearExchange 29 = .ok (.goto (-27), 3) := by decide +kernel
theorem dX3_bearExchange_32 : decode cX3_bearExchange 32 = .ok (.iconst 1, 1) := by decide +kernel
theorem dX3_bearExchange_33 : decode cX3_bearExchange 33 = .ok (.ireturn, 1) := by decide +kernel
theorem dX3_hasExchanged_0 : decode cX3_hasExchanged 0 = .ok (.iconst 0, 1) := by decide +kernel
theorem dX3_hasExchanged_1 : decode cX3_hasExchanged 1 = .ok (.istore 4, 2) := by decide +kernel
theorem dX3_hasExchanged_3 : decode cX3_hasExchanged 3 = .ok (.iload 4, 2) := by decide +kernel
theorem dX3_hasExchanged_5 : decode cX3_hasExchanged 5 = .ok (.aload_n 0, 1) := by decide +kernel
theorem dX3_hasExchanged_6 : decode cX3_hasExchanged 6 = .ok (.getfield 22, 3) := by decide +kernel
theorem dX3_hasExchanged_9 : decode cX3_hasExchanged 9 = .ok (.if_icmp .ge 48, 3) := by decide +kernel
theorem dX3_hasExchanged_12 : decode cX3_hasExchanged 12 = .ok (.aload_n 0, 1) := by decide +kernel
theorem dX3_hasExchanged_13 : decode cX3_hasExchanged 13 = .ok (.iload 4, 2) := by decide +kernel
theorem dX3_hasExchanged_15 : decode cX3_hasExchanged 15 = .ok (.invokevirtual 29, 3) := by decide +kernel
theorem dX3_hasExchanged_18 : decode cX3_hasExchanged 18 = .ok (.astore 5, 2) := by decide +kernel
theorem dX3_hasExchanged_20 : decode cX3_hasExchanged 20 = .ok (.aload 5, 2) := by decide +kernel
theorem dX3_hasExchanged_22 : decode cX3_hasExchanged 22 = .ok (.invokevirtual 37, 3) := by decide +kernel
theorem dX3_hasExchanged_25 : decode cX3_hasExchanged 25 = .ok (.aload_n 1, 1) := by decide +kernel
theorem dX3_hasExchanged_26 : decode cX3_hasExchanged 26 = .ok (.invokevirtual 37, 3) := by decide +kernel
theorem dX3_hasExchanged_29 : decode cX3_hasExchanged 29 = .ok (.if_icmp .ne 22, 3) := by decide +kernel
theorem dX3_hasExchanged_32 : decode cX3_hasExchanged 32 = .ok (.aload_n 1, 1) := by decide +kernel
theorem dX3_hasExchanged_33 : decode cX3_hasExchanged 33 = .ok (.iconst 0, 1) := by decide +kernel
theorem dX3_hasExchanged_34 : decode cX3_hasExchanged 34 = .ok (.aload_n 1, 1) := by decide +kernel
theorem dX3_hasExchanged_35 : decode cX3_hasExchanged 35 = .ok (.invokevirtual 37, 3) := by decide +kernel
theorem dX3_hasExchanged_38 : decode cX3_hasExchanged 38 = .ok (.aload 5, 2) := by decide +kernel
theorem dX3_hasExchanged_40 : decode cX3_hasExchanged 40 = .ok (.iconst 0, 1) := by decide +kernel
theorem dX3_hasExchanged_41 : decode cX3_hasExchanged 41 = .ok (.iload_n 2, 1) := by decide +kernel
theorem dX3_hasExchanged_42 : decode cX3_hasExchanged 42 = .ok (.iload_n 3, 1) := by decide +kernel
theorem dX3_hasExchanged_43 : decode cX3_hasExchanged 43 = .ok (.invokevirtual 55, 3) := by decide +kernel
theorem dX3_hasExchanged_46 : decode cX3_hasExchanged 46 = .ok (.ifCond .eq 5, 3) := by decide +kernel
theorem dX3_hasExchanged_49 : decode cX3_hasExchanged 49 = .ok (.iconst 1, 1) := by decide +kernel
theorem dX3_hasExchanged_50 : decode cX3_hasExchanged 50 = .ok (.ireturn, 1) := by decide +kernel
theorem dX3_hasExchanged_51 : decode cX3_hasExchanged 51 = .ok (.iinc 4 1, 3) := by decide +kernel
theorem dX3_hasExchanged_54 : decode cX3_hasExchanged 54 = .ok (.goto (-51), 3) := by decide +kernel
theorem dX3_hasExchanged_57 : decode cX3_hasExchanged 57 = .ok (.iconst 0, 1) := by decide +kernel
theorem dX3_hasExchanged_58 : decode cX3_hasExchanged 58 = .ok (.ireturn, 1) := by decide +kernel
theorem dX6_op_0 : decode cX6_op 0 = .ok (.iload_n 0, 1) := by decide +kernel
theorem dX6_op_1 : decode cX6_op 1 = .ok (.sipush 255, 3) := by decide +kernel
theorem dX6_op_4 : decode cX6_op 4 = .ok (.iand, 1) := by decide +kernel
theorem dX6_op_5 : decode cX6_op 5 = .ok (.ireturn, 1) := by decide +kernel
theorem dX6_operand_0 : decode cX6_operand 0 = .ok (.iload_n 0, 1) := by decide +kernel
theorem dX6_operand_1 : decode cX6_operand 1 = .ok (.bipush 8, 2) := by decide +kernel
theorem dX6_operand_3 : decode cX6_operand 3 = .ok (.ishr, 1) := by decide +kernel
theorem dX6_operand_4 : decode cX6_operand 4 = .ok (.ireturn, 1) := by decide +kernel
theorem dX6_isWord_0 : decode cX6_isWord 0 = .ok (.iload_n 0, 1) := by decide +kernel
theorem dX6_isWord_1 : decode cX6_isWord 1 = .ok (.invokestatic 9, 3) := by decide +kernel
theorem dX6_isWord_4 : decode cX6_isWord 4 = .ok (.istore_n 1, 1) := by decide +kernel
theorem dX6_isWord_5 : decode cX6_isWord 5 = .ok (.iload_n 1, 1) := by decide +kernel
theorem dX6_isWord_6 : decode cX6_isWord 6 = .ok (.ifCond .ne 5, 3) := by decide +kernel
theorem dX6_isWord_9 : decode cX6_isWord 9 = .ok (.iconst 1, 1) := by decide +kernel
theorem dX6_isWord_10 : decode cX6_isWord 10 = .ok (.ireturn, 1) := by decide +kernel
theorem dX6_isWord_11 : decode cX6_isWord 11 = .ok (.iload_n 1, 1) := by decide +kernel
theorem dX6_isWord_12 : decode cX6_isWord 12 = .ok (.iconst 1, 1) := by decide +kernel
theorem dX6_isWord_13 : decode cX6_isWord 13 = .ok (.if_icmp .eq 9, 3) := by decide +kernel
theorem dX6_isWord_16 : decode cX6_isWord 16 = .ok (.iload_n 1, 1) := by decide +kernel
theorem dX6_isWord_17 : decode cX6_isWord 17 = .ok (.bipush 11, 2) := by decide +kernel
theorem dX6_isWord_19 : decode cX6_isWord 19 = .ok (.if_icmp .ne 11, 3) := by decide +kernel
theorem dX6_isWord_22 : decode cX6_isWord 22 = .ok (.iload_n 0, 1) := by decide +kernel
theorem dX6_isWord_23 : decode cX6_isWord 23 = .ok (.invokestatic 15, 3) := by decide +kernel
theorem dX6_isWord_26 : decode cX6_isWord 26 = .ok (.invokestatic 18, 3) := by decide +kernel
theorem dX6_isWord_29 : decode cX6_isWord 29 = .ok (.ireturn, 1) := by decide +kernel
theorem dX6_isWord_30 : decode cX6_isWord 30 = .ok (.iload_n 1, 1) := by decide +kernel
theorem dX6_isWord_31 : decode cX6_isWord 31 = .ok (.bipush 12, 2) := by decide +kernel
theorem dX6_isWord_33 : decode cX6_isWord 33 = .ok (.if_icmp .gt 14, 3) := by decide +kernel
theorem dX6_isWord_36 : decode cX6_isWord 36 = .ok (.iload_n 0, 1) := by decide +kernel
theorem dX6_isWord_37 : decode cX6_isWord 37 = .ok (.invokestatic 15, 3) := by decide +kernel
theorem dX6_isWord_40 : decode cX6_isWord 40 = .ok (.ifCond .ne 7, 3) := by decide +kernel
theorem dX6_isWord_43 : decode cX6_isWord 43 = .ok (.iconst 1, 1) := by decide +kernel
theorem dX6_isWord_44 : decode cX6_isWord 44 = .ok (.goto 4, 3) := by decide +kernel
theorem dX6_isWord_47 : decode cX6_isWord 47 = .ok (.iconst 0, 1) := by decide +kernel
theorem dX6_isWord_48 : decode cX6_isWord 48 = .ok (.ireturn, 1) := by decide +kernel
theorem dX6_exchanged_0 : decode cX6_exchanged 0 = .ok (.iload_n 0, 1) := by decide +kernel
theorem dX6_exchanged_1 : decode cX6_exchanged 1 = .ok (.invokestatic 9, 3) := by decide +kernel
theorem dX6_exchanged_4 : decode cX6_exchanged 4 = .ok (.istore_n 3, 1) := by decide +kernel
theorem dX6_exchanged_5 : decode cX6_exchanged 5 = .ok (.iload_n 0, 1) := by decide +kernel
theorem dX6_exchanged_6 : decode cX6_exchanged 6 = .ok (.invokestatic 15, 3) := by decide +kernel
theorem dX6_exchanged_9 : decode cX6_exchanged 9 = .ok (.istore 4, 2) := by decide +kernel
theorem dX6_exchanged_11 : decode cX6_exchanged 11 = .ok (.iload_n 3, 1) := by decide +kernel
theorem dX6_exchanged_12 : decode cX6_exchanged 12 = .ok (.iconst 1, 1) := by decide +kernel
theorem dX6_exchanged_13 : decode cX6_exchanged 13 = .ok (.if_icmp .eq 9, 3) := by decide +kernel
theorem dX6_exchanged_16 : decode cX6_exchanged 16 = .ok (.iload_n 3, 1) := by decide +kernel
theorem dX6_exchanged_17 : decode cX6_exchanged 17 = .ok (.bipush 11, 2) := by decide +kernel
theorem dX6_exchanged_19 : decode cX6_exchanged 19 = .ok (.if_icmp .ne 15, 3) := by decide +kernel
theorem dX6_exchanged_22 : decode cX6_exchanged 22 = .ok (.iload 4, 2) := by decide +kernel
theorem dX6_exchanged_24 : decode cX6_exchanged 24 = .ok (.iload_n 1, 1) := by decide +kernel
theorem dX6_exchanged_25 : decode cX6_exchanged 25 = .ok (.if_icmp .eq 11, 3) := by decide +kernel
theorem dX6_exchanged_28 : decode cX6_exchanged 28 = .ok (.iload 4, 2) := by decide +kernel
theorem dX6_exchanged_30 : decode cX6_exchanged 30 = .ok (.iload_n 2, 1) := by decide +kernel
theorem dX6_exchanged_31 : decode cX6_exchanged 31 = .ok (.if_icmp .eq 5, 3) := by decide +kernel
theorem dX6_exchanged_34 : decode cX6_exchanged 34 = .ok (.iload_n 0, 1) := by decide +kernel
theorem dX6_exchanged_35 : decode cX6_exchanged 35 = .ok (.ireturn, 1) := by decide +kernel
theorem dX6_exchanged_36 : decode cX6_exchanged 36 = .ok (.iload 4, 2) := by decide +kernel
theorem dX6_exchanged_38 : decode cX6_exchanged 38 = .ok (.iload_n 1, 1) := by decide +kernel
theorem dX6_exchanged_39 : decode cX6_exchanged 39 = .ok (.if_icmp .ne 7, 3) := by decide +kernel
theorem dX6_exchanged_42 : decode cX6_exchanged 42 = .ok (.iload_n 2, 1) := by decide +kernel
theorem dX6_exchanged_43 : decode cX6_exchanged 43 = .ok (.goto 4, 3) := by decide +kernel
theorem dX6_exchanged_46 : decode cX6_exchanged 46 = .ok (.iload_n 1, 1) := by decide +kernel
theorem dX6_exchanged_47 : decode cX6_exchanged 47 = .ok (.bipush 8, 2) := by decide +kernel
theorem dX6_exchanged_49 : decode cX6_exchanged 49 = .ok (.ishl, 1) := by decide +kernel
theorem dX6_exchanged_50 : decode cX6_exchanged 50 = .ok (.iload_n 3, 1) := by decide +kernel
theorem dX6_exchanged_51 : decode cX6_exchanged 51 = .ok (.ior, 1) := by decide +kernel
theorem dX6_exchanged_52 : decode cX6_exchanged 52 = .ok (.ireturn, 1) := by decide +kernel
theorem dX6_heightAfter_0 : decode cX6_heightAfter 0 = .ok (.iload_n 1, 1) := by decide +kernel
theorem dX6_heightAfter_1 : decode cX6_heightAfter 1 = .ok (.bipush 10, 2) := by decide +kernel
theorem dX6_heightAfter_3 : decode cX6_heightAfter 3 = .ok (.if_icmp .eq 19, 3) := by decide +kernel
theorem dX6_heightAfter_6 : decode cX6_heightAfter 6 = .ok (.iload_n 1, 1) := by decide +kernel
theorem dX6_heightAfter_7 : decode cX6_heightAfter 7 = .ok (.bipush 12, 2) := by decide +kernel
theorem dX6_heightAfter_9 : decode cX6_heightAfter 9 = .ok (.if_icmp .eq 13, 3) := by decide +kernel
theorem dX6_heightAfter_12 : decode cX6_heightAfter 12 = .ok (.iload_n 1, 1) := by decide +kernel
theorem dX6_heightAfter_13 : decode cX6_heightAfter 13 = .ok (.bipush 11, 2) := by decide +kernel
theorem dX6_heightAfter_15 : decode cX6_heightAfter 15 = .ok (.if_icmp .ne 9, 3) := by decide +kernel
theorem dX6_heightAfter_18 : decode cX6_heightAfter 18 = .ok (.iload_n 2, 1) := by decide +kernel
theorem dX6_heightAfter_19 : decode cX6_heightAfter 19 = .ok (.ifCond .ne 5, 3) := by decide +kernel
theorem dX6_heightAfter_22 : decode cX6_heightAfter 22 = .ok (.iconst (-1), 1) := by decide +kernel
theorem dX6_heightAfter_23 : decode cX6_heightAfter 23 = .ok (.ireturn, 1) := by decide +kernel
theorem dX6_heightAfter_24 : decode cX6_heightAfter 24 = .ok (.iload_n 1, 1) := by decide +kernel
theorem dX6_heightAfter_25 : decode cX6_heightAfter 25 = .ok (.ifCond .eq 8, 3) := by decide +kernel
theorem dX6_heightAfter_28 : decode cX6_heightAfter 28 = .ok (.iload_n 1, 1) := by decide +kernel
theorem dX6_heightAfter_29 : decode cX6_heightAfter 29 = .ok (.iconst 1, 1) := by decide +kernel
theorem dX6_heightAfter_30 : decode cX6_heightAfter 30 = .ok (.if_icmp .ne 17, 3) := by decide +kernel
theorem dX6_heightAfter_33 : decode cX6_heightAfter 33 = .ok (.iload_n 0, 1) := by decide +kernel
theorem dX6_heightAfter_34 : decode cX6_heightAfter 34 = .ok (.bipush 8, 2) := by decide +kernel
theorem dX6_heightAfter_36 : decode cX6_heightAfter 36 = .ok (.if_icmp .ge 9, 3) := by decide +kernel
theorem dX6_heightAfter_39 : decode cX6_heightAfter 39 = .ok (.iload_n 0, 1) := by decide +kernel
theorem dX6_heightAfter_40 : decode cX6_heightAfter 40 = .ok (.iconst 1, 1) := by decide +kernel
theorem dX6_heightAfter_41 : decode cX6_heightAfter 41 = .ok (.iadd, 1) := by decide +kernel
theorem dX6_heightAfter_42 : decode cX6_heightAfter 42 = .ok (.goto 4, 3) := by decide +kernel
theorem dX6_heightAfter_45 : decode cX6_heightAfter 45 = .ok (.iconst (-1), 1) := by decide +kernel
theorem dX6_heightAfter_46 : decode cX6_heightAfter 46 = .ok (.ireturn, 1) := by decide +kernel
theorem dX6_heightAfter_47 : decode cX6_heightAfter 47 = .ok (.iload_n 1, 1) := by decide +kernel
theorem dX6_heightAfter_48 : decode cX6_heightAfter 48 = .ok (.bipush 9, 2) := by decide +kernel
theorem dX6_heightAfter_50 : decode cX6_heightAfter 50 = .ok (.if_icmp .ne 14, 3) := by decide +kernel
theorem dX6_heightAfter_53 : decode cX6_heightAfter 53 = .ok (.iload_n 0, 1) := by decide +kernel
theorem dX6_heightAfter_54 : decode cX6_heightAfter 54 = .ok (.iconst 1, 1) := by decide +kernel
theorem dX6_heightAfter_55 : decode cX6_heightAfter 55 = .ok (.if_icmp .lt 7, 3) := by decide +kernel
theorem dX6_heightAfter_58 : decode cX6_heightAfter 58 = .ok (.iload_n 0, 1) := by decide +kernel
theorem dX6_heightAfter_59 : decode cX6_heightAfter 59 = .ok (.goto 4, 3) := by decide +kernel
theorem dX6_heightAfter_62 : decode cX6_heightAfter 62 = .ok (.iconst (-1), 1) := by decide +kernel
theorem dX6_heightAfter_63 : decode cX6_heightAfter 63 = .ok (.ireturn, 1) := by decide +kernel
theorem dX6_heightAfter_64 : decode cX6_heightAfter 64 = .ok (.iload_n 1, 1) := by decide +kernel
theorem dX6_heightAfter_65 : decode cX6_heightAfter 65 = .ok (.bipush 11, 2) := by decide +kernel
theorem dX6_heightAfter_67 : decode cX6_heightAfter 67 = .ok (.if_icmp .ne 16, 3) := by decide +kernel
theorem dX6_heightAfter_70 : decode cX6_heightAfter 70 = .ok (.iload_n 0, 1) := by decide +kernel
theorem dX6_heightAfter_71 : decode cX6_heightAfter 71 = .ok (.iconst 1, 1) := by decide +kernel
theorem dX6_heightAfter_72 : decode cX6_heightAfter 72 = .ok (.if_icmp .lt 9, 3) := by decide +kernel
theorem dX6_heightAfter_75 : decode cX6_heightAfter 75 = .ok (.iload_n 0, 1) := by decide +kernel
theorem dX6_heightAfter_76 : decode cX6_heightAfter 76 = .ok (.iconst 1, 1) := by decide +kernel
theorem dX6_heightAfter_77 : decode cX6_heightAfter 77 = .ok (.isub, 1) := by decide +kernel
theorem dX6_heightAfter_78 : decode cX6_heightAfter 78 = .ok (.goto 4, 3) := by decide +kernel
theorem dX6_heightAfter_81 : decode cX6_heightAfter 81 = .ok (.iconst (-1), 1) := by decide +kernel
theorem dX6_heightAfter_82 : decode cX6_heightAfter 82 = .ok (.ireturn, 1) := by decide +kernel
theorem dX6_heightAfter_83 : decode cX6_heightAfter 83 = .ok (.iload_n 0, 1) := by decide +kernel
theorem dX6_heightAfter_84 : decode cX6_heightAfter 84 = .ok (.iconst 2, 1) := by decide +kernel
theorem dX6_heightAfter_85 : decode cX6_heightAfter 85 = .ok (.if_icmp .lt 9, 3) := by decide +kernel
theorem dX6_heightAfter_88 : decode cX6_heightAfter 88 = .ok (.iload_n 0, 1) := by decide +kernel
theorem dX6_heightAfter_89 : decode cX6_heightAfter 89 = .ok (.iconst 1, 1) := by decide +kernel
theorem dX6_heightAfter_90 : decode cX6_heightAfter 90 = .ok (.isub, 1) := by decide +kernel
theorem dX6_heightAfter_91 : decode cX6_heightAfter 91 = .ok (.goto 4, 3) := by decide +kernel
theorem dX6_heightAfter_94 : decode cX6_heightAfter 94 = .ok (.iconst (-1), 1) := by decide +kernel
theorem dX6_heightAfter_95 : decode cX6_heightAfter 95 = .ok (.ireturn, 1) := by decide +kernel
theorem dX7_init_0 : decode cX7_init 0 = .ok (.aload_n 0, 1) := by decide +kernel
theorem dX7_init_1 : decode cX7_init 1 = .ok (.invokespecial 3, 3) := by decide +kernel
theorem dX7_init_4 : decode cX7_init 4 = .ok (.aload_n 0, 1) := by decide +kernel
theorem dX7_init_5 : decode cX7_init 5 = .ok (.bipush 32, 2) := by decide +kernel
theorem dX7_init_7 : decode cX7_init 7 = .ok (.newarray .int, 2) := by decide +kernel
theorem dX7_init_9 : decode cX7_init 9 = .ok (.putfield 9, 3) := by decide +kernel
theorem dX7_init_12 : decode cX7_init 12 = .ok (.return_, 1) := by decide +kernel
theorem dX7_clear_0 : decode cX7_clear 0 = .ok (.aload_n 0, 1) := by decide +kernel
theorem dX7_clear_1 : decode cX7_clear 1 = .ok (.iconst 0, 1) := by decide +kernel
theorem dX7_clear_2 : decode cX7_clear 2 = .ok (.putfield 15, 3) := by decide +kernel
theorem dX7_clear_5 : decode cX7_clear 5 = .ok (.return_, 1) := by decide +kernel
theorem dX7_length_0 : decode cX7_length 0 = .ok (.aload_n 0, 1) := by decide +kernel
theorem dX7_length_1 : decode cX7_length 1 = .ok (.getfield 15, 3) := by decide +kernel
theorem dX7_length_4 : decode cX7_length 4 = .ok (.ireturn, 1) := by decide +kernel
theorem dX7_isFull_0 : decode cX7_isFull 0 = .ok (.aload_n 0, 1) := by decide +kernel
theorem dX7_isFull_1 : decode cX7_isFull 1 = .ok (.getfield 15, 3) := by decide +kernel
theorem dX7_isFull_4 : decode cX7_isFull 4 = .ok (.bipush 32, 2) := by decide +kernel
theorem dX7_isFull_6 : decode cX7_isFull 6 = .ok (.if_icmp .lt 7, 3) := by decide +kernel
theorem dX7_isFull_9 : decode cX7_isFull 9 = .ok (.iconst 1, 1) := by decide +kernel
theorem dX7_isFull_10 : decode cX7_isFull 10 = .ok (.goto 4, 3) := by decide +kernel
theorem dX7_isFull_13 : decode cX7_isFull 13 = .ok (.iconst 0, 1) := by decide +kernel
theorem dX7_isFull_14 : decode cX7_isFull 14 = .ok (.ireturn, 1) := by decide +kernel
theorem dX7_add_0 : decode cX7_add 0 = .ok (.aload_n 0, 1) := by decide +kernel
theorem dX7_add_1 : decode cX7_add 1 = .ok (.getfield 15, 3) := by decide +kernel
theorem dX7_add_4 : decode cX7_add 4 = .ok (.bipush 32, 2) := by decide +kernel
theorem dX7_add_6 : decode cX7_add 6 = .ok (.if_icmp .ge 23, 3) := by decide +kernel
theorem dX7_add_9 : decode cX7_add 9 = .ok (.aload_n 0, 1) := by decide +kernel
theorem dX7_add_10 : decode cX7_add 10 = .ok (.getfield 9, 3) := by decide +kernel
theorem dX7_add_13 : decode cX7_add 13 = .ok (.aload_n 0, 1) := by decide +kernel
theorem dX7_add_14 : decode cX7_add 14 = .ok (.getfield 15, 3) := by decide +kernel
theorem dX7_add_17 : decode cX7_add 17 = .ok (.iload_n 1, 1) := by decide +kernel
theorem dX7_add_18 : decode cX7_add 18 = .ok (.iastore, 1) := by decide +kernel
theorem dX7_add_19 : decode cX7_add 19 = .ok (.aload_n 0, 1) := by decide +kernel
theorem dX7_add_20 : decode cX7_add 20 = .ok (.dup, 1) := by decide +kernel
theorem dX7_add_21 : decode cX7_add 21 = .ok (.getfield 15, 3) := by decide +kernel
theorem dX7_add_24 : decode cX7_add 24 = .ok (.iconst 1, 1) := by decide +kernel
theorem dX7_add_25 : decode cX7_add 25 = .ok (.iadd, 1) := by decide +kernel
theorem dX7_add_26 : decode cX7_add 26 = .ok (.putfield 15, 3) := by decide +kernel
theorem dX7_add_29 : decode cX7_add 29 = .ok (.return_, 1) := by decide +kernel
theorem dX7_at_0 : decode cX7_at 0 = .ok (.iload_n 1, 1) := by decide +kernel
theorem dX7_at_1 : decode cX7_at 1 = .ok (.ifCond .lt 20, 3) := by decide +kernel
theorem dX7_at_4 : decode cX7_at 4 = .ok (.iload_n 1, 1) := by decide +kernel
theorem dX7_at_5 : decode cX7_at 5 = .ok (.aload_n 0, 1) := by decide +kernel
theorem dX7_at_6 : decode cX7_at 6 = .ok (.getfield 15, 3) := by decide +kernel
theorem dX7_at_9 : decode cX7_at 9 = .ok (.if_icmp .ge 12, 3) := by decide +kernel
theorem dX7_at_12 : decode cX7_at 12 = .ok (.aload_n 0, 1) := by decide +kernel
theorem dX7_at_13 : decode cX7_at 13 = .ok (.getfield 9, 3) := by decide +kernel
theorem dX7_at_16 : decode cX7_at 16 = .ok (.iload_n 1, 1) := by decide +kernel
theorem dX7_at_17 : decode cX7_at 17 = .ok (.iaload, 1) := by decide +kernel
theorem dX7_at_18 : decode cX7_at 18 = .ok (.goto 4, 3) := by decide +kernel
theorem dX7_at_21 : decode cX7_at 21 = .ok (.iconst 0, 1) := by decide +kernel
theorem dX7_at_22 : decode cX7_at 22 = .ok (.ireturn, 1) := by decide +kernel
theorem dX7_opAt_0 : decode cX7_opAt 0 = .ok (.aload_n 0, 1) := by decide +kernel
theorem dX7_opAt_1 : decode cX7_opAt 1 = .ok (.iload_n 1, 1) := by decide +kernel
theorem dX7_opAt_2 : decode cX7_opAt 2 = .ok (.invokevirtual 19, 3) := by decide +kernel
theorem dX7_opAt_5 : decode cX7_opAt 5 = .ok (.invokestatic 23, 3) := by decide +kernel
theorem dX7_opAt_8 : decode cX7_opAt 8 = .ok (.ireturn, 1) := by decide +kernel
theorem dX7_next_0 : decode cX7_next 0 = .ok (.iload_n 2, 1) := by decide +kernel
theorem dX7_next_1 : decode cX7_next 1 = .ok (.istore_n 3, 1) := by decide +kernel
theorem dX7_next_2 : decode cX7_next 2 = .ok (.iload_n 3, 1) := by decide +kernel
theorem dX7_next_3 : decode cX7_next 3 = .ok (.aload_n 0, 1) := by decide +kernel
theorem dX7_next_4 : decode cX7_next 4 = .ok (.getfield 15, 3) := by decide +kernel
theorem dX7_next_7 : decode cX7_next 7 = .ok (.if_icmp .ge 23, 3) := by decide +kernel
theorem dX7_next_10 : decode cX7_next 10 = .ok (.aload_n 0, 1) := by decide +kernel
theorem dX7_next_11 : decode cX7_next 11 = .ok (.iload_n 3, 1) := by decide +kernel
theorem dX7_next_12 : decode cX7_next 12 = .ok (.invokevirtual 19, 3) := by decide +kernel
theorem dX7_next_15 : decode cX7_next 15 = .ok (.invokestatic 23, 3) := by decide +kernel
theorem dX7_next_18 : decode cX7_next 18 = .ok (.iload_n 1, 1) := by decide +kernel
theorem dX7_next_19 : decode cX7_next 19 = .ok (.if_icmp .ne 5, 3) := by decide +kernel
theorem dX7_next_22 : decode cX7_next 22 = .ok (.iload_n 3, 1) := by decide +kernel
theorem dX7_next_23 : decode cX7_next 23 = .ok (.ireturn, 1) := by decide +kernel
theorem dX7_next_24 : decode cX7_next 24 = .ok (.iinc 3 1, 3) := by decide +kernel
theorem dX7_next_27 : decode cX7_next 27 = .ok (.goto (-25), 3) := by decide +kernel
theorem dX7_next_30 : decode cX7_next 30 = .ok (.aload_n 0, 1) := by decide +kernel
theorem dX7_next_31 : decode cX7_next 31 = .ok (.getfield 15, 3) := by decide +kernel
theorem dX7_next_34 : decode cX7_next 34 = .ok (.ireturn, 1) := by decide +kernel
theorem dX7_turnsInto_0 : decode cX7_turnsInto 0 = .ok (.iconst 0, 1) := by decide +kernel
theorem dX7_turnsInto_1 : decode cX7_turnsInto 1 = .ok (.istore 7, 2) := by decide +kernel
theorem dX7_turnsInto_3 : decode cX7_turnsInto 3 = .ok (.iload 7, 2) := by decide +kernel
theorem dX7_turnsInto_5 : decode cX7_turnsInto 5 = .ok (.iload_n 2, 1) := by decide +kernel
theorem dX7_turnsInto_6 : decode cX7_turnsInto 6 = .ok (.if_icmp .ge 38, 3) := by decide +kernel
theorem dX7_turnsInto_9 : decode cX7_turnsInto 9 = .ok (.aload_n 0, 1) := by decide +kernel
theorem dX7_turnsInto_10 : decode cX7_turnsInto 10 = .ok (.iload_n 1, 1) := by decide +kernel
theorem dX7_turnsInto_11 : decode cX7_turnsInto 11 = .ok (.iload 7, 2) := by decide +kernel
theorem dX7_turnsInto_13 : decode cX7_turnsInto 13 = .ok (.iadd, 1) := by decide +kernel
theorem dX7_turnsInto_14 : decode cX7_turnsInto 14 = .ok (.invokevirtual 19, 3) := by decide +kernel
theorem dX7_turnsInto_17 : decode cX7_turnsInto 17 = .ok (.iload 5, 2) := by decide +kernel
theorem dX7_turnsInto_19 : decode cX7_turnsInto 19 = .ok (.iload 6, 2) := by decide +kernel
theorem dX7_turnsInto_21 : decode cX7_turnsInto 21 = .ok (.invokestatic 28, 3) := by decide +kernel
theorem dX7_turnsInto_24 : decode cX7_turnsInto 24 = .ok (.aload_n 3, 1) := by decide +kernel
theorem dX7_turnsInto_25 : decode cX7_turnsInto 25 = .ok (.iload 4, 2) := by decide +kernel
theorem dX7_turnsInto_27 : decode cX7_turnsInto 27 = .ok (.iload 7, 2) := by decide +kernel
theorem dX7_turnsInto_29 : decode cX7_turnsInto 29 = .ok (.iadd, 1) := by decide +kernel
theorem dX7_turnsInto_30 : decode cX7_turnsInto 30 = .ok (.invokevirtual 19, 3) := by decide +kernel
theorem dX7_turnsInto_33 : decode cX7_turnsInto 33 = .ok (.if_icmp .eq 5, 3) := by decide +kernel
theorem dX7_turnsInto_36 : decode cX7_turnsInto 36 = .ok (.iconst 0, 1) := by decide +kernel
theorem dX7_turnsInto_37 : decode cX7_turnsInto 37 = .ok (.ireturn, 1) := by decide +kernel
theorem dX7_turnsInto_38 : decode cX7_turnsInto 38 = .ok (.iinc 7 1, 3) := by decide +kernel
theorem dX7_turnsInto_41 : decode cX7_turnsInto 41 = .ok (.goto (-38), 3) := by decide +kernel
theorem dX7_turnsInto_44 : decode cX7_turnsInto 44 = .ok (.iconst 1, 1) := by decide +kernel
theorem dX7_turnsInto_45 : decode cX7_turnsInto 45 = .ok (.ireturn, 1) := by decide +kernel
